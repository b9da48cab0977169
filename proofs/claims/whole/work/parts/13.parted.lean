theorem dX11_turn_0 : decode cX11_turn 0 = .ok (.aload_n 0, 1) := by decide +kernel
theorem dX11_turn_1 : decode cX11_turn 1 = .ok (.iload_n 1, 1) := by decide +kernel
theorem dX11_turn_2 : decode cX11_turn 2 = .ok (.invokevirtual 221, 3) := by decide +kernel
theorem dX11_turn_5 : decode cX11_turn 5 = .ok (.aload_n 0, 1) := by decide +kernel
theorem dX11_turn_6 : decode cX11_turn 6 = .ok (.iload_n 3, 1) := by decide +kernel
theorem dX11_turn_7 : decode cX11_turn 7 = .ok (.invokevirtual 246, 3) := by decide +kernel
theorem dX11_turn_10 : decode cX11_turn 10 = .ok (.aload_n 0, 1) := by decide +kernel
theorem dX11_turn_11 : decode cX11_turn 11 = .ok (.iload_n 2, 1) := by decide +kernel
theorem dX11_turn_12 : decode cX11_turn 12 = .ok (.invokestatic 240, 3) := by decide +kernel
theorem dX11_turn_15 : decode cX11_turn 15 = .ok (.invokevirtual 186, 3) := by decide +kernel
theorem dX11_turn_18 : decode cX11_turn 18 = .ok (.aload_n 0, 1) := by decide +kernel
theorem dX11_turn_19 : decode cX11_turn 19 = .ok (.getfield 51, 3) := by decide +kernel
theorem dX11_turn_22 : decode cX11_turn 22 = .ok (.aload_n 0, 1) := by decide +kernel
theorem dX11_turn_23 : decode cX11_turn 23 = .ok (.getfield 67, 3) := by decide +kernel
theorem dX11_turn_26 : decode cX11_turn 26 = .ok (.iload_n 1, 1) := by decide +kernel
theorem dX11_turn_27 : decode cX11_turn 27 = .ok (.iload_n 2, 1) := by decide +kernel
theorem dX11_turn_28 : decode cX11_turn 28 = .ok (.iload_n 3, 1) := by decide +kernel
theorem dX11_turn_29 : decode cX11_turn 29 = .ok (.aload_n 0, 1) := by decide +kernel
theorem dX11_turn_30 : decode cX11_turn 30 = .ok (.getfield 67, 3) := by decide +kernel
theorem dX11_turn_33 : decode cX11_turn 33 = .ok (.getfield 204, 3) := by decide +kernel
theorem dX11_turn_36 : decode cX11_turn 36 = .ok (.iload_n 1, 1) := by decide +kernel
theorem dX11_turn_37 : decode cX11_turn 37 = .ok (.bipush 7, 2) := by decide +kernel
theorem dX11_turn_39 : decode cX11_turn 39 = .ok (.imul, 1) := by decide +kernel
theorem dX11_turn_40 : decode cX11_turn 40 = .ok (.iload_n 2, 1) := by decide +kernel
theorem dX11_turn_41 : decode cX11_turn 41 = .ok (.iadd, 1) := by decide +kernel
theorem dX11_turn_42 : decode cX11_turn 42 = .ok (.iaload, 1) := by decide +kernel
theorem dX11_turn_43 : decode cX11_turn 43 = .ok (.invokevirtual 262, 3) := by decide +kernel
theorem dX11_turn_46 : decode cX11_turn 46 = .ok (.ireturn, 1) := by decide +kernel
theorem dX11_status_0 : decode cX11_status 0 = .ok (.iload_n 1, 1) := by decide +kernel
theorem dX11_status_1 : decode cX11_status 1 = .ok (.ifCond .ne 10, 3) := by decide +kernel
theorem dX11_status_4 : decode cX11_status 4 = .ok (.aload_n 0, 1) := by decide +kernel
theorem dX11_status_5 : decode cX11_status 5 = .ok (.getfield 385, 3) := by decide +kernel
theorem dX11_status_8 : decode cX11_status 8 = .ok (.goto 16, 3) := by decide +kernel
theorem dX11_status_11 : decode cX11_status 11 = .ok (.iload_n 1, 1) := by decide +kernel
theorem dX11_status_12 : decode cX11_status 12 = .ok (.iconst 1, 1) := by decide +kernel
theorem dX11_status_13 : decode cX11_status 13 = .ok (.if_icmp .ne 10, 3) := by decide +kernel
theorem dX11_status_16 : decode cX11_status 16 = .ok (.aload_n 0, 1) := by decide +kernel
theorem dX11_status_17 : decode cX11_status 17 = .ok (.getfield 388, 3) := by decide +kernel
theorem dX11_status_20 : decode cX11_status 20 = .ok (.goto 4, 3) := by decide +kernel
theorem dX11_status_23 : decode cX11_status 23 = .ok (.iconst (-1), 1) := by decide +kernel
theorem dX11_status_24 : decode cX11_status 24 = .ok (.ireturn, 1) := by decide +kernel
theorem dX11_restore_0 : decode cX11_restore 0 = .ok (.aload_n 0, 1) := by decide +kernel
theorem dX11_restore_1 : decode cX11_restore 1 = .ok (.getfield 138, 3) := by decide +kernel
theorem dX11_restore_4 : decode cX11_restore 4 = .ok (.ifCond .ne 5, 3) := by decide +kernel
theorem dX11_restore_7 : decode cX11_restore 7 = .ok (.iconst (-1), 1) := by decide +kernel
theorem dX11_restore_8 : decode cX11_restore 8 = .ok (.ireturn, 1) := by decide +kernel
theorem dX11_restore_9 : decode cX11_restore 9 = .ok (.aload_n 0, 1) := by decide +kernel
theorem dX11_restore_10 : decode cX11_restore 10 = .ok (.dup, 1) := by decide +kernel
theorem dX11_restore_11 : decode cX11_restore 11 = .ok (.getfield 138, 3) := by decide +kernel
theorem dX11_restore_14 : decode cX11_restore 14 = .ok (.iconst 1, 1) := by decide +kernel
theorem dX11_restore_15 : decode cX11_restore 15 = .ok (.isub, 1) := by decide +kernel
theorem dX11_restore_16 : decode cX11_restore 16 = .ok (.putfield 138, 3) := by decide +kernel
theorem dX11_restore_19 : decode cX11_restore 19 = .ok (.aload_n 0, 1) := by decide +kernel
theorem dX11_restore_20 : decode cX11_restore 20 = .ok (.getfield 67, 3) := by decide +kernel
theorem dX11_restore_23 : decode cX11_restore 23 = .ok (.aload_n 0, 1) := by decide +kernel
theorem dX11_restore_24 : decode cX11_restore 24 = .ok (.getfield 80, 3) := by decide +kernel
theorem dX11_restore_27 : decode cX11_restore 27 = .ok (.aload_n 0, 1) := by decide +kernel
theorem dX11_restore_28 : decode cX11_restore 28 = .ok (.getfield 138, 3) := by decide +kernel
theorem dX11_restore_31 : decode cX11_restore 31 = .ok (.aaload, 1) := by decide +kernel
theorem dX11_restore_32 : decode cX11_restore 32 = .ok (.getfield 378, 3) := by decide +kernel
theorem dX11_restore_35 : decode cX11_restore 35 = .ok (.invokevirtual 379, 3) := by decide +kernel
theorem dX11_restore_38 : decode cX11_restore 38 = .ok (.aload_n 0, 1) := by decide +kernel
theorem dX11_restore_39 : decode cX11_restore 39 = .ok (.getfield 74, 3) := by decide +kernel
theorem dX11_restore_42 : decode cX11_restore 42 = .ok (.aload_n 0, 1) := by decide +kernel
theorem dX11_restore_43 : decode cX11_restore 43 = .ok (.getfield 80, 3) := by decide +kernel
theorem dX11_restore_46 : decode cX11_restore 46 = .ok (.aload_n 0, 1) := by decide +kernel
theorem dX11_restore_47 : decode cX11_restore 47 = .ok (.getfield 138, 3) := by decide +kernel
theorem dX11_restore_50 : decode cX11_restore 50 = .ok (.aaload, 1) := by decide +kernel
theorem dX11_restore_51 : decode cX11_restore 51 = .ok (.getfield 381, 3) := by decide +kernel
theorem dX11_restore_54 : decode cX11_restore 54 = .ok (.invokevirtual 382, 3) := by decide +kernel
theorem dX11_restore_57 : decode cX11_restore 57 = .ok (.aload_n 0, 1) := by decide +kernel
theorem dX11_restore_58 : decode cX11_restore 58 = .ok (.iconst 0, 1) := by decide +kernel
theorem dX11_restore_59 : decode cX11_restore 59 = .ok (.putfield 141, 3) := by decide +kernel
theorem dX11_restore_62 : decode cX11_restore 62 = .ok (.aload_n 0, 1) := by decide +kernel
theorem dX11_restore_63 : decode cX11_restore 63 = .ok (.getfield 138, 3) := by decide +kernel
theorem dX11_restore_66 : decode cX11_restore 66 = .ok (.ireturn, 1) := by decide +kernel
theorem dX11_fault_0 : decode cX11_fault 0 = .ok (.aload_n 0, 1) := by decide +kernel
theorem dX11_fault_1 : decode cX11_fault 1 = .ok (.getfield 12, 3) := by decide +kernel
theorem dX11_fault_4 : decode cX11_fault 4 = .ok (.getfield 180, 3) := by decide +kernel
theorem dX11_fault_7 : decode cX11_fault 7 = .ok (.ireturn, 1) := by decide +kernel
theorem dX11_need_0 : decode cX11_need 0 = .ok (.iload_n 1, 1) := by decide +kernel
theorem dX11_need_1 : decode cX11_need 1 = .ok (.ifCond .ne 24, 3) := by decide +kernel
theorem dX11_need_4 : decode cX11_need 4 = .ok (.aload_n 0, 1) := by decide +kernel
theorem dX11_need_5 : decode cX11_need 5 = .ok (.dup, 1) := by decide +kernel
theorem dX11_need_6 : decode cX11_need 6 = .ok (.getfield 388, 3) := by decide +kernel
theorem dX11_need_9 : decode cX11_need 9 = .ok (.iconst 1, 1) := by decide +kernel
theorem dX11_need_10 : decode cX11_need 10 = .ok (.iadd, 1) := by decide +kernel
theorem dX11_need_11 : decode cX11_need 11 = .ok (.putfield 388, 3) := by decide +kernel
theorem dX11_need_14 : decode cX11_need 14 = .ok (.new 391, 3) := by decide +kernel
theorem dX11_need_17 : decode cX11_need 17 = .ok (.dup, 1) := by decide +kernel
theorem dX11_need_18 : decode cX11_need 18 = .ok (.ldc_w 393, 3) := by decide +kernel
theorem dX11_need_21 : decode cX11_need 21 = .ok (.invokespecial 395, 3) := by decide +kernel
theorem dX11_need_24 : decode cX11_need 24 = .ok (.athrow, 1) := by decide +kernel
theorem dX11_need_25 : decode cX11_need 25 = .ok (.return_, 1) := by decide +kernel
theorem dX11_blurs_0 : decode cX11_blurs 0 = .ok (.aload_n 0, 1) := by decide +kernel
theorem dX11_blurs_1 : decode cX11_blurs 1 = .ok (.iload_n 1, 1) := by decide +kernel
theorem dX11_blurs_2 : decode cX11_blurs 2 = .ok (.invokevirtual 221, 3) := by decide +kernel
theorem dX11_blurs_5 : decode cX11_blurs 5 = .ok (.iconst 0, 1) := by decide +kernel
theorem dX11_blurs_6 : decode cX11_blurs 6 = .ok (.istore_n 2, 1) := by decide +kernel
theorem dX11_blurs_7 : decode cX11_blurs 7 = .ok (.iconst 0, 1) := by decide +kernel
theorem dX11_blurs_8 : decode cX11_blurs 8 = .ok (.istore_n 3, 1) := by decide +kernel
theorem dX11_blurs_9 : decode cX11_blurs 9 = .ok (.iload_n 3, 1) := by decide +kernel
theorem dX11_blurs_10 : decode cX11_blurs 10 = .ok (.aload_n 0, 1) := by decide +kernel
theorem dX11_blurs_11 : decode cX11_blurs 11 = .ok (.getfield 19, 3) := by decide +kernel
theorem dX11_blurs_14 : decode cX11_blurs 14 = .ok (.getfield 190, 3) := by decide +kernel
theorem dX11_blurs_17 : decode cX11_blurs 17 = .ok (.if_icmp .ge 31, 3) := by decide +kernel
theorem dX11_blurs_20 : decode cX11_blurs 20 = .ok (.aload_n 0, 1) := by decide +kernel
theorem dX11_blurs_21 : decode cX11_blurs 21 = .ok (.getfield 90, 3) := by decide +kernel
theorem dX11_blurs_24 : decode cX11_blurs 24 = .ok (.aload_n 0, 1) := by decide +kernel
theorem dX11_blurs_25 : decode cX11_blurs 25 = .ok (.getfield 67, 3) := by decide +kernel
theorem dX11_blurs_28 : decode cX11_blurs 28 = .ok (.iload_n 1, 1) := by decide +kernel
theorem dX11_blurs_29 : decode cX11_blurs 29 = .ok (.iload_n 3, 1) := by decide +kernel
theorem dX11_blurs_30 : decode cX11_blurs 30 = .ok (.invokevirtual 358, 3) := by decide +kernel
theorem dX11_blurs_33 : decode cX11_blurs 33 = .ok (.ifCond .eq 9, 3) := by decide +kernel
theorem dX11_blurs_36 : decode cX11_blurs 36 = .ok (.iload_n 2, 1) := by decide +kernel
theorem dX11_blurs_37 : decode cX11_blurs 37 = .ok (.iconst 1, 1) := by decide +kernel
theorem dX11_blurs_38 : decode cX11_blurs 38 = .ok (.iload_n 3, 1) := by decide +kernel
theorem dX11_blurs_39 : decode cX11_blurs 39 = .ok (.ishl, 1) := by decide +kernel
theorem dX11_blurs_40 : decode cX11_blurs 40 = .ok (.ior, 1) := by decide +kernel
theorem dX11_blurs_41 : decode cX11_blurs 41 = .ok (.istore_n 2, 1) := by decide +kernel
theorem dX11_blurs_42 : decode cX11_blurs 42 = .ok (.iinc 3 1, 3) := by decide +kernel
theorem dX11_blurs_45 : decode cX11_blurs 45 = .ok (.goto (-36), 3) := by decide +kernel
theorem dX11_blurs_48 : decode cX11_blurs 48 = .ok (.iload_n 2, 1) := by decide +kernel
theorem dX11_blurs_49 : decode cX11_blurs 49 = .ok (.ireturn, 1) := by decide +kernel
theorem dX11_isQuota_0 : decode cX11_isQuota 0 = .ok (.iload_n 0, 1) := by decide +kernel
theorem dX11_isQuota_1 : decode cX11_isQuota 1 = .ok (.iconst 1, 1) := by decide +kernel
theorem dX11_isQuota_2 : decode cX11_isQuota 2 = .ok (.if_icmp .lt 14, 3) := by decide +kernel
theorem dX11_isQuota_5 : decode cX11_isQuota 5 = .ok (.iload_n 0, 1) := by decide +kernel
theorem dX11_isQuota_6 : decode cX11_isQuota 6 = .ok (.sipush 2800, 3) := by decide +kernel
theorem dX11_isQuota_9 : decode cX11_isQuota 9 = .ok (.if_icmp .gt 7, 3) := by decide +kernel
theorem dX11_isQuota_12 : decode cX11_isQuota 12 = .ok (.iconst 1, 1) := by decide +kernel
theorem dX11_isQuota_13 : decode cX11_isQuota 13 = .ok (.goto 4, 3) := by decide +kernel
theorem dX11_isQuota_16 : decode cX11_isQuota 16 = .ok (.iconst 0, 1) := by decide +kernel
theorem dX11_isQuota_17 : decode cX11_isQuota 17 = .ok (.ireturn, 1) := by decide +kernel
theorem dX11_isPart_0 : decode cX11_isPart 0 = .ok (.iload_n 0, 1) := by decide +kernel
theorem dX11_isPart_1 : decode cX11_isPart 1 = .ok (.ifCond .lt 13, 3) := by decide +kernel
theorem dX11_isPart_4 : decode cX11_isPart 4 = .ok (.iload_n 0, 1) := by decide +kernel
theorem dX11_isPart_5 : decode cX11_isPart 5 = .ok (.bipush 7, 2) := by decide +kernel
theorem dX11_isPart_7 : decode cX11_isPart 7 = .ok (.if_icmp .ge 7, 3) := by decide +kernel
theorem dX11_isPart_10 : decode cX11_isPart 10 = .ok (.iconst 1, 1) := by decide +kernel
theorem dX11_isPart_11 : decode cX11_isPart 11 = .ok (.goto 4, 3) := by decide +kernel
theorem dX11_isPart_14 : decode cX11_isPart 14 = .ok (.iconst 0, 1) := by decide +kernel
theorem dX11_isPart_15 : decode cX11_isPart 15 = .ok (.ireturn, 1) := by decide +kernel
theorem dX11_image_0 : decode cX11_image 0 = .ok (.aload_n 0, 1) := by decide +kernel
theorem dX11_image_1 : decode cX11_image 1 = .ok (.getfield 138, 3) := by decide +kernel
theorem dX11_image_4 : decode cX11_image 4 = .ok (.iconst 3, 1) := by decide +kernel
theorem dX11_image_5 : decode cX11_image 5 = .ok (.if_icmp .lt 5, 3) := by decide +kernel
theorem dX11_image_8 : decode cX11_image 8 = .ok (.iconst (-1), 1) := by decide +kernel
theorem dX11_image_9 : decode cX11_image 9 = .ok (.ireturn, 1) := by decide +kernel
theorem dX11_image_10 : decode cX11_image 10 = .ok (.aload_n 0, 1) := by decide +kernel
theorem dX11_image_11 : decode cX11_image 11 = .ok (.getfield 80, 3) := by decide +kernel
theorem dX11_image_14 : decode cX11_image 14 = .ok (.aload_n 0, 1) := by decide +kernel
theorem dX11_image_15 : decode cX11_image 15 = .ok (.getfield 138, 3) := by decide +kernel
theorem dX11_image_18 : decode cX11_image 18 = .ok (.aaload, 1) := by decide +kernel
theorem dX11_image_19 : decode cX11_image 19 = .ok (.getfield 378, 3) := by decide +kernel
theorem dX11_image_22 : decode cX11_image 22 = .ok (.aload_n 0, 1) := by decide +kernel
theorem dX11_image_23 : decode cX11_image 23 = .ok (.getfield 67, 3) := by decide +kernel
theorem dX11_image_26 : decode cX11_image 26 = .ok (.invokevirtual 379, 3) := by decide +kernel
theorem dX11_image_29 : decode cX11_image 29 = .ok (.aload_n 0, 1) := by decide +kernel
theorem dX11_image_30 : decode cX11_image 30 = .ok (.getfield 80, 3) := by decide +kernel
theorem dX11_image_33 : decode cX11_image 33 = .ok (.aload_n 0, 1) := by decide +kernel
theorem dX11_image_34 : decode cX11_image 34 = .ok (.getfield 138, 3) := by decide +kernel
theorem dX11_image_37 : decode cX11_image 37 = .ok (.aaload, 1) := by decide +kernel
theorem dX11_image_38 : decode cX11_image 38 = .ok (.getfield 381, 3) := by decide +kernel
theorem dX11_image_41 : decode cX11_image 41 = .ok (.aload_n 0, 1) := by decide +kernel
theorem dX11_image_42 : decode cX11_image 42 = .ok (.getfield 74, 3) := by decide +kernel
theorem dX11_image_45 : decode cX11_image 45 = .ok (.invokevirtual 382, 3) := by decide +kernel
theorem dX11_image_48 : decode cX11_image 48 = .ok (.aload_n 0, 1) := by decide +kernel
theorem dX11_image_49 : decode cX11_image 49 = .ok (.dup, 1) := by decide +kernel
theorem dX11_image_50 : decode cX11_image 50 = .ok (.getfield 138, 3) := by decide +kernel
theorem dX11_image_53 : decode cX11_image 53 = .ok (.iconst 1, 1) := by decide +kernel
theorem dX11_image_54 : decode cX11_image 54 = .ok (.iadd, 1) := by decide +kernel
theorem dX11_image_55 : decode cX11_image 55 = .ok (.putfield 138, 3) := by decide +kernel
theorem dX11_image_58 : decode cX11_image 58 = .ok (.aload_n 0, 1) := by decide +kernel
theorem dX11_image_59 : decode cX11_image 59 = .ok (.getfield 138, 3) := by decide +kernel
theorem dX11_image_62 : decode cX11_image 62 = .ok (.ireturn, 1) := by decide +kernel
theorem dX11_isSwing_0 : decode cX11_isSwing 0 = .ok (.iload 4, 2) := by decide +kernel
theorem dX11_isSwing_2 : decode cX11_isSwing 2 = .ok (.iload_n 2, 1) := by decide +kernel
theorem dX11_isSwing_3 : decode cX11_isSwing 3 = .ok (.ishr, 1) := by decide +kernel
theorem dX11_isSwing_4 : decode cX11_isSwing 4 = .ok (.iconst 1, 1) := by decide +kernel
theorem dX11_isSwing_5 : decode cX11_isSwing 5 = .ok (.iand, 1) := by decide +kernel
theorem dX11_isSwing_6 : decode cX11_isSwing 6 = .ok (.iconst 1, 1) := by decide +kernel
theorem dX11_isSwing_7 : decode cX11_isSwing 7 = .ok (.if_icmp .ne 5, 3) := by decide +kernel
theorem dX11_isSwing_10 : decode cX11_isSwing 10 = .ok (.iconst 0, 1) := by decide +kernel
theorem dX11_isSwing_11 : decode cX11_isSwing 11 = .ok (.ireturn, 1) := by decide +kernel
theorem dX11_isSwing_12 : decode cX11_isSwing 12 = .ok (.iconst 0, 1) := by decide +kernel
theorem dX11_isSwing_13 : decode cX11_isSwing 13 = .ok (.istore 5, 2) := by decide +kernel
theorem dX11_isSwing_15 : decode cX11_isSwing 15 = .ok (.iconst 0, 1) := by decide +kernel
theorem dX11_isSwing_16 : decode cX11_isSwing 16 = .ok (.istore 6, 2) := by decide +kernel
theorem dX11_isSwing_18 : decode cX11_isSwing 18 = .ok (.iload 6, 2) := by decide +kernel
theorem dX11_isSwing_20 : decode cX11_isSwing 20 = .ok (.bipush 7, 2) := by decide +kernel
theorem dX11_isSwing_22 : decode cX11_isSwing 22 = .ok (.if_icmp .ge 37, 3) := by decide +kernel
theorem dX11_isSwing_25 : decode cX11_isSwing 25 = .ok (.iload 5, 2) := by decide +kernel
theorem dX11_isSwing_27 : decode cX11_isSwing 27 = .ok (.iload 4, 2) := by decide +kernel
theorem dX11_isSwing_29 : decode cX11_isSwing 29 = .ok (.iload 6, 2) := by decide +kernel
theorem dX11_isSwing_31 : decode cX11_isSwing 31 = .ok (.ishr, 1) := by decide +kernel
theorem dX11_isSwing_32 : decode cX11_isSwing 32 = .ok (.iconst 1, 1) := by decide +kernel
theorem dX11_isSwing_33 : decode cX11_isSwing 33 = .ok (.iand, 1) := by decide +kernel
theorem dX11_isSwing_34 : decode cX11_isSwing 34 = .ok (.aload_n 0, 1) := by decide +kernel
theorem dX11_isSwing_35 : decode cX11_isSwing 35 = .ok (.getfield 67, 3) := by decide +kernel
theorem dX11_isSwing_38 : decode cX11_isSwing 38 = .ok (.getfield 204, 3) := by decide +kernel
theorem dX11_isSwing_41 : decode cX11_isSwing 41 = .ok (.iload_n 1, 1) := by decide +kernel
theorem dX11_isSwing_42 : decode cX11_isSwing 42 = .ok (.bipush 7, 2) := by decide +kernel
theorem dX11_isSwing_44 : decode cX11_isSwing 44 = .ok (.imul, 1) := by decide +kernel
theorem dX11_isSwing_45 : decode cX11_isSwing 45 = .ok (.iload 6, 2) := by decide +kernel
theorem dX11_isSwing_47 : decode cX11_isSwing 47 = .ok (.iadd, 1) := by decide +kernel
theorem dX11_isSwing_48 : decode cX11_isSwing 48 = .ok (.iaload, 1) := by decide +kernel
theorem dX11_isSwing_49 : decode cX11_isSwing 49 = .ok (.imul, 1) := by decide +kernel
theorem dX11_isSwing_50 : decode cX11_isSwing 50 = .ok (.iadd, 1) := by decide +kernel
theorem dX11_isSwing_51 : decode cX11_isSwing 51 = .ok (.istore 5, 2) := by decide +kernel
theorem dX11_isSwing_53 : decode cX11_isSwing 53 = .ok (.iinc 6 1, 3) := by decide +kernel
theorem dX11_isSwing_56 : decode cX11_isSwing 56 = .ok (.goto (-38), 3) := by decide +kernel
theorem dX11_isSwing_59 : decode cX11_isSwing 59 = .ok (.iload 5, 2) := by decide +kernel
theorem dX11_isSwing_61 : decode cX11_isSwing 61 = .ok (.iload_n 3, 1) := by decide +kernel
theorem dX11_isSwing_62 : decode cX11_isSwing 62 = .ok (.if_icmp .ge 28, 3) := by decide +kernel
theorem dX11_isSwing_65 : decode cX11_isSwing 65 = .ok (.iload 5, 2) := by decide +kernel
theorem dX11_isSwing_67 : decode cX11_isSwing 67 = .ok (.aload_n 0, 1) := by decide +kernel
theorem dX11_isSwing_68 : decode cX11_isSwing 68 = .ok (.getfield 67, 3) := by decide +kernel
theorem dX11_isSwing_71 : decode cX11_isSwing 71 = .ok (.getfield 204, 3) := by decide +kernel
theorem dX11_isSwing_74 : decode cX11_isSwing 74 = .ok (.iload_n 1, 1) := by decide +kernel
theorem dX11_isSwing_75 : decode cX11_isSwing 75 = .ok (.bipush 7, 2) := by decide +kernel
theorem dX11_isSwing_77 : decode cX11_isSwing 77 = .ok (.imul, 1) := by decide +kernel
theorem dX11_isSwing_78 : decode cX11_isSwing 78 = .ok (.iload_n 2, 1) := by decide +kernel
theorem dX11_isSwing_79 : decode cX11_isSwing 79 = .ok (.iadd, 1) := by decide +kernel
theorem dX11_isSwing_80 : decode cX11_isSwing 80 = .ok (.iaload, 1) := by decide +kernel
theorem dX11_isSwing_81 : decode cX11_isSwing 81 = .ok (.iadd, 1) := by decide +kernel
theorem dX11_isSwing_82 : decode cX11_isSwing 82 = .ok (.iload_n 3, 1) := by decide +kernel
theorem dX11_isSwing_83 : decode cX11_isSwing 83 = .ok (.if_icmp .lt 7, 3) := by decide +kernel
theorem dX11_isSwing_86 : decode cX11_isSwing 86 = .ok (.iconst 1, 1) := by decide +kernel
theorem dX11_isSwing_87 : decode cX11_isSwing 87 = .ok (.goto 4, 3) := by decide +kernel
theorem dX11_isSwing_90 : decode cX11_isSwing 90 = .ok (.iconst 0, 1) := by decide +kernel
theorem dX11_isSwing_91 : decode cX11_isSwing 91 = .ok (.ireturn, 1) := by decide +kernel
theorem dX11_gain_0 : decode cX11_gain 0 = .ok (.iload_n 0, 1) := by decide +kernel
theorem dX11_gain_1 : decode cX11_gain 1 = .ok (.iload_n 1, 1) := by decide +kernel
theorem dX11_gain_2 : decode cX11_gain 2 = .ok (.if_icmp .ne 7, 3) := by decide +kernel
theorem dX11_gain_5 : decode cX11_gain 5 = .ok (.iconst 0, 1) := by decide +kernel
theorem dX11_gain_6 : decode cX11_gain 6 = .ok (.goto 12, 3) := by decide +kernel
theorem dX11_gain_9 : decode cX11_gain 9 = .ok (.iload_n 0, 1) := by decide +kernel
theorem dX11_gain_10 : decode cX11_gain 10 = .ok (.ifCond .ne 7, 3) := by decide +kernel
theorem dX11_gain_13 : decode cX11_gain 13 = .ok (.iload_n 2, 1) := by decide +kernel
theorem dX11_gain_14 : decode cX11_gain 14 = .ok (.goto 4, 3) := by decide +kernel
theorem dX11_gain_17 : decode cX11_gain 17 = .ok (.iload_n 3, 1) := by decide +kernel
theorem dX11_gain_18 : decode cX11_gain 18 = .ok (.ireturn, 1) := by decide +kernel
theorem dX11_college_0 : decode cX11_college 0 = .ok (.aload_n 0, 1) := by decide +kernel
theorem dX11_college_1 : decode cX11_college 1 = .ok (.iload_n 1, 1) := by decide +kernel
theorem dX11_college_2 : decode cX11_college 2 = .ok (.sipush 600, 3) := by decide +kernel
theorem dX11_college_5 : decode cX11_college 5 = .ok (.invokevirtual 111, 3) := by decide +kernel
theorem dX11_college_8 : decode cX11_college 8 = .ok (.aload_n 0, 1) := by decide +kernel
theorem dX11_college_9 : decode cX11_college 9 = .ok (.getfield 23, 3) := by decide +kernel
theorem dX11_college_12 : decode cX11_college 12 = .ok (.aload_n 0, 1) := by decide +kernel
theorem dX11_college_13 : decode cX11_college 13 = .ok (.getfield 12, 3) := by decide +kernel
theorem dX11_college_16 : decode cX11_college 16 = .ok (.invokevirtual 115, 3) := by decide +kernel
theorem dX11_college_19 : decode cX11_college 19 = .ok (.ifCond .ne 14, 3) := by decide +kernel
theorem dX11_college_22 : decode cX11_college 22 = .ok (.aload_n 0, 1) := by decide +kernel
theorem dX11_college_23 : decode cX11_college 23 = .ok (.getfield 12, 3) := by decide +kernel
theorem dX11_college_26 : decode cX11_college 26 = .ok (.getfield 119, 3) := by decide +kernel
theorem dX11_college_29 : decode cX11_college 29 = .ok (.bipush 10, 2) := by decide +kernel
theorem dX11_college_31 : decode cX11_college 31 = .ok (.isub, 1) := by decide +kernel
theorem dX11_college_32 : decode cX11_college 32 = .ok (.ireturn, 1) := by decide +kernel
theorem dX11_college_33 : decode cX11_college 33 = .ok (.aload_n 0, 1) := by decide +kernel
theorem dX11_college_34 : decode cX11_college 34 = .ok (.getfield 19, 3) := by decide +kernel
theorem dX11_college_37 : decode cX11_college 37 = .ok (.aload_n 0, 1) := by decide +kernel
theorem dX11_college_38 : decode cX11_college 38 = .ok (.getfield 23, 3) := by decide +kernel
theorem dX11_college_41 : decode cX11_college 41 = .ok (.invokevirtual 122, 3) := by decide +kernel
theorem dX11_college_44 : decode cX11_college 44 = .ok (.aload_n 0, 1) := by decide +kernel
theorem dX11_college_45 : decode cX11_college 45 = .ok (.getfield 29, 3) := by decide +kernel
theorem dX11_college_48 : decode cX11_college 48 = .ok (.invokevirtual 126, 3) := by decide +kernel
theorem dX11_college_51 : decode cX11_college 51 = .ok (.aload_n 0, 1) := by decide +kernel
theorem dX11_college_52 : decode cX11_college 52 = .ok (.getfield 39, 3) := by decide +kernel
theorem dX11_college_55 : decode cX11_college 55 = .ok (.iconst 0, 1) := by decide +kernel
theorem dX11_college_56 : decode cX11_college 56 = .ok (.putfield 129, 3) := by decide +kernel
theorem dX11_college_59 : decode cX11_college 59 = .ok (.aload_n 0, 1) := by decide +kernel
theorem dX11_college_60 : decode cX11_college 60 = .ok (.getfield 67, 3) := by decide +kernel
theorem dX11_college_63 : decode cX11_college 63 = .ok (.aload_n 0, 1) := by decide +kernel
theorem dX11_college_64 : decode cX11_college 64 = .ok (.getfield 19, 3) := by decide +kernel
theorem dX11_college_67 : decode cX11_college 67 = .ok (.invokevirtual 132, 3) := by decide +kernel
theorem dX11_college_70 : decode cX11_college 70 = .ok (.aload_n 0, 1) := by decide +kernel
theorem dX11_college_71 : decode cX11_college 71 = .ok (.getfield 74, 3) := by decide +kernel
theorem dX11_college_74 : decode cX11_college 74 = .ok (.iconst 0, 1) := by decide +kernel
theorem dX11_college_75 : decode cX11_college 75 = .ok (.putfield 135, 3) := by decide +kernel
theorem dX11_college_78 : decode cX11_college 78 = .ok (.aload_n 0, 1) := by decide +kernel
theorem dX11_college_79 : decode cX11_college 79 = .ok (.iconst 0, 1) := by decide +kernel
theorem dX11_college_80 : decode cX11_college 80 = .ok (.putfield 138, 3) := by decide +kernel
theorem dX11_college_83 : decode cX11_college 83 = .ok (.aload_n 0, 1) := by decide +kernel
theorem dX11_college_84 : decode cX11_college 84 = .ok (.iconst 0, 1) := by decide +kernel
theorem dX11_college_85 : decode cX11_college 85 = .ok (.putfield 141, 3) := by decide +kernel
theorem dX11_college_88 : decode cX11_college 88 = .ok (.aload_n 0, 1) := by decide +kernel
theorem dX11_college_89 : decode cX11_college 89 = .ok (.getfield 19, 3) := by decide +kernel
theorem dX11_college_92 : decode cX11_college 92 = .ok (.getfield 144, 3) := by decide +kernel
theorem dX11_college_95 : decode cX11_college 95 = .ok (.ireturn, 1) := by decide +kernel
theorem dX11_serves_0 : decode cX11_serves 0 = .ok (.aload_n 0, 1) := by decide +kernel
theorem dX11_serves_1 : decode cX11_serves 1 = .ok (.iload_n 1, 1) := by decide +kernel
theorem dX11_serves_2 : decode cX11_serves 2 = .ok (.invokestatic 240, 3) := by decide +kernel
theorem dX11_serves_5 : decode cX11_serves 5 = .ok (.ifCond .eq 18, 3) := by decide +kernel
theorem dX11_serves_8 : decode cX11_serves 8 = .ok (.iload_n 2, 1) := by decide +kernel
theorem dX11_serves_9 : decode cX11_serves 9 = .ok (.ifCond .lt 14, 3) := by decide +kernel
theorem dX11_serves_12 : decode cX11_serves 12 = .ok (.iload_n 2, 1) := by decide +kernel
theorem dX11_serves_13 : decode cX11_serves 13 = .ok (.sipush 400, 3) := by decide +kernel
theorem dX11_serves_16 : decode cX11_serves 16 = .ok (.if_icmp .gt 7, 3) := by decide +kernel
theorem dX11_serves_19 : decode cX11_serves 19 = .ok (.iconst 1, 1) := by decide +kernel
theorem dX11_serves_20 : decode cX11_serves 20 = .ok (.goto 4, 3) := by decide +kernel
theorem dX11_serves_23 : decode cX11_serves 23 = .ok (.iconst 0, 1) := by decide +kernel
theorem dX11_serves_24 : decode cX11_serves 24 = .ok (.invokevirtual 186, 3) := by decide +kernel
theorem dX11_serves_27 : decode cX11_serves 27 = .ok (.iconst (-1), 1) := by decide +kernel
theorem dX11_serves_28 : decode cX11_serves 28 = .ok (.istore_n 3, 1) := by decide +kernel
theorem dX11_serves_29 : decode cX11_serves 29 = .ok (.iconst 0, 1) := by decide +kernel
theorem dX11_serves_30 : decode cX11_serves 30 = .ok (.istore 4, 2) := by decide +kernel
theorem dX11_serves_32 : decode cX11_serves 32 = .ok (.iconst 0, 1) := by decide +kernel
theorem dX11_serves_33 : decode cX11_serves 33 = .ok (.istore 5, 2) := by decide +kernel
theorem dX11_serves_35 : decode cX11_serves 35 = .ok (.iload 5, 2) := by decide +kernel
theorem dX11_serves_37 : decode cX11_serves 37 = .ok (.aload_n 0, 1) := by decide +kernel
theorem dX11_serves_38 : decode cX11_serves 38 = .ok (.getfield 19, 3) := by decide +kernel
theorem dX11_serves_41 : decode cX11_serves 41 = .ok (.getfield 144, 3) := by decide +kernel
theorem dX11_serves_44 : decode cX11_serves 44 = .ok (.if_icmp .ge 50, 3) := by decide +kernel
theorem dX11_serves_47 : decode cX11_serves 47 = .ok (.aload_n 0, 1) := by decide +kernel
theorem dX11_serves_48 : decode cX11_serves 48 = .ok (.getfield 67, 3) := by decide +kernel
theorem dX11_serves_51 : decode cX11_serves 51 = .ok (.getfield 204, 3) := by decide +kernel
theorem dX11_serves_54 : decode cX11_serves 54 = .ok (.iload 5, 2) := by decide +kernel
theorem dX11_serves_56 : decode cX11_serves 56 = .ok (.bipush 7, 2) := by decide +kernel
theorem dX11_serves_58 : decode cX11_serves 58 = .ok (.imul, 1) := by decide +kernel
theorem dX11_serves_59 : decode cX11_serves 59 = .ok (.iload_n 1, 1) := by decide +kernel
theorem dX11_serves_60 : decode cX11_serves 60 = .ok (.iadd, 1) := by decide +kernel
theorem dX11_serves_61 : decode cX11_serves 61 = .ok (.iaload, 1) := by decide +kernel
theorem dX11_serves_62 : decode cX11_serves 62 = .ok (.iload_n 2, 1) := by decide +kernel
theorem dX11_serves_63 : decode cX11_serves 63 = .ok (.isub, 1) := by decide +kernel
theorem dX11_serves_64 : decode cX11_serves 64 = .ok (.invokestatic 300, 3) := by decide +kernel
theorem dX11_serves_67 : decode cX11_serves 67 = .ok (.istore 6, 2) := by decide +kernel
theorem dX11_serves_69 : decode cX11_serves 69 = .ok (.iload_n 3, 1) := by decide +kernel
theorem dX11_serves_70 : decode cX11_serves 70 = .ok (.iconst (-1), 1) := by decide +kernel
theorem dX11_serves_71 : decode cX11_serves 71 = .ok (.if_icmp .eq 10, 3) := by decide +kernel
theorem dX11_serves_74 : decode cX11_serves 74 = .ok (.iload 6, 2) := by decide +kernel
theorem dX11_serves_76 : decode cX11_serves 76 = .ok (.iload 4, 2) := by decide +kernel
theorem dX11_serves_78 : decode cX11_serves 78 = .ok (.if_icmp .ge 10, 3) := by decide +kernel
theorem dX11_serves_81 : decode cX11_serves 81 = .ok (.iload 5, 2) := by decide +kernel
theorem dX11_serves_83 : decode cX11_serves 83 = .ok (.istore_n 3, 1) := by decide +kernel
theorem dX11_serves_84 : decode cX11_serves 84 = .ok (.iload 6, 2) := by decide +kernel
theorem dX11_serves_86 : decode cX11_serves 86 = .ok (.istore 4, 2) := by decide +kernel
theorem dX11_serves_88 : decode cX11_serves 88 = .ok (.iinc 5 1, 3) := by decide +kernel
theorem dX11_serves_91 : decode cX11_serves 91 = .ok (.goto (-56), 3) := by decide +kernel
theorem dX11_serves_94 : decode cX11_serves 94 = .ok (.iload_n 3, 1) := by decide +kernel
theorem dX11_serves_95 : decode cX11_serves 95 = .ok (.ireturn, 1) := by decide +kernel
theorem dX11_feed_0 : decode cX11_feed 0 = .ok (.aload_n 0, 1) := by decide +kernel
theorem dX11_feed_1 : decode cX11_feed 1 = .ok (.getfield 12, 3) := by decide +kernel
theorem dX11_feed_4 : decode cX11_feed 4 = .ok (.getfield 103, 3) := by decide +kernel
theorem dX11_feed_7 : decode cX11_feed 7 = .ok (.bipush 20, 2) := by decide +kernel
theorem dX11_feed_9 : decode cX11_feed 9 = .ok (.iadd, 1) := by decide +kernel
theorem dX11_feed_10 : decode cX11_feed 10 = .ok (.sipush 600, 3) := by decide +kernel
theorem dX11_feed_13 : decode cX11_feed 13 = .ok (.if_icmp .le 5, 3) := by decide +kernel
theorem dX11_feed_16 : decode cX11_feed 16 = .ok (.iconst (-1), 1) := by decide +kernel
theorem dX11_feed_17 : decode cX11_feed 17 = .ok (.ireturn, 1) := by decide +kernel
theorem dX11_feed_18 : decode cX11_feed 18 = .ok (.aload_n 0, 1) := by decide +kernel
theorem dX11_feed_19 : decode cX11_feed 19 = .ok (.getfield 12, 3) := by decide +kernel
theorem dX11_feed_22 : decode cX11_feed 22 = .ok (.iload_n 1, 1) := by decide +kernel
theorem dX11_feed_23 : decode cX11_feed 23 = .ok (.invokevirtual 107, 3) := by decide +kernel
theorem dX11_feed_26 : decode cX11_feed 26 = .ok (.aload_n 0, 1) := by decide +kernel
theorem dX11_feed_27 : decode cX11_feed 27 = .ok (.getfield 12, 3) := by decide +kernel
theorem dX11_feed_30 : decode cX11_feed 30 = .ok (.iload_n 2, 1) := by decide +kernel
theorem dX11_feed_31 : decode cX11_feed 31 = .ok (.invokevirtual 107, 3) := by decide +kernel
theorem dX11_feed_34 : decode cX11_feed 34 = .ok (.aload_n 0, 1) := by decide +kernel
theorem dX11_feed_35 : decode cX11_feed 35 = .ok (.getfield 12, 3) := by decide +kernel
theorem dX11_feed_38 : decode cX11_feed 38 = .ok (.iload_n 3, 1) := by decide +kernel
theorem dX11_feed_39 : decode cX11_feed 39 = .ok (.invokevirtual 107, 3) := by decide +kernel
theorem dX11_feed_42 : decode cX11_feed 42 = .ok (.aload_n 0, 1) := by decide +kernel
theorem dX11_feed_43 : decode cX11_feed 43 = .ok (.getfield 12, 3) := by decide +kernel
theorem dX11_feed_46 : decode cX11_feed 46 = .ok (.iload 4, 2) := by decide +kernel
theorem dX11_feed_48 : decode cX11_feed 48 = .ok (.invokevirtual 107, 3) := by decide +kernel
theorem dX11_feed_51 : decode cX11_feed 51 = .ok (.aload_n 0, 1) := by decide +kernel
theorem dX11_feed_52 : decode cX11_feed 52 = .ok (.getfield 12, 3) := by decide +kernel
theorem dX11_feed_55 : decode cX11_feed 55 = .ok (.iload 5, 2) := by decide +kernel
theorem dX11_feed_57 : decode cX11_feed 57 = .ok (.invokevirtual 107, 3) := by decide +kernel
theorem dX11_feed_60 : decode cX11_feed 60 = .ok (.aload_n 0, 1) := by decide +kernel
theorem dX11_feed_61 : decode cX11_feed 61 = .ok (.getfield 12, 3) := by decide +kernel
theorem dX11_feed_64 : decode cX11_feed 64 = .ok (.getfield 103, 3) := by decide +kernel
theorem dX11_feed_67 : decode cX11_feed 67 = .ok (.ireturn, 1) := by decide +kernel
theorem dX11_needGlass_0 : decode cX11_needGlass 0 = .ok (.iload_n 1, 1) := by decide +kernel
theorem dX11_needGlass_1 : decode cX11_needGlass 1 = .ok (.ifCond .lt 14, 3) := by decide +kernel
theorem dX11_needGlass_4 : decode cX11_needGlass 4 = .ok (.iload_n 1, 1) := by decide +kernel
theorem dX11_needGlass_5 : decode cX11_needGlass 5 = .ok (.aload_n 0, 1) := by decide +kernel
theorem dX11_needGlass_6 : decode cX11_needGlass 6 = .ok (.getfield 19, 3) := by decide +kernel
theorem dX11_needGlass_9 : decode cX11_needGlass 9 = .ok (.getfield 190, 3) := by decide +kernel
theorem dX11_needGlass_12 : decode cX11_needGlass 12 = .ok (.if_icmp .lt 24, 3) := by decide +kernel
theorem dX11_needGlass_15 : decode cX11_needGlass 15 = .ok (.aload_n 0, 1) := by decide +kernel
theorem dX11_needGlass_16 : decode cX11_needGlass 16 = .ok (.dup, 1) := by decide +kernel
theorem dX11_needGlass_17 : decode cX11_needGlass 17 = .ok (.getfield 385, 3) := by decide +kernel
theorem dX11_needGlass_20 : decode cX11_needGlass 20 = .ok (.iconst 1, 1) := by decide +kernel
theorem dX11_needGlass_21 : decode cX11_needGlass 21 = .ok (.iadd, 1) := by decide +kernel
theorem dX11_needGlass_22 : decode cX11_needGlass 22 = .ok (.putfield 385, 3) := by decide +kernel
theorem dX11_needGlass_25 : decode cX11_needGlass 25 = .ok (.new 398, 3) := by decide +kernel
theorem dX11_needGlass_28 : decode cX11_needGlass 28 = .ok (.dup, 1) := by decide +kernel
theorem dX11_needGlass_29 : decode cX11_needGlass 29 = .ok (.ldc_w 403, 3) := by decide +kernel
theorem dX11_needGlass_32 : decode cX11_needGlass 32 = .ok (.invokespecial 402, 3) := by decide +kernel
theorem dX11_needGlass_35 : decode cX11_needGlass 35 = .ok (.athrow, 1) := by decide +kernel
theorem dX11_needGlass_36 : decode cX11_needGlass 36 = .ok (.return_, 1) := by decide +kernel
theorem dX11_fits_0 : decode cX11_fits 0 = .ok (.aload_n 0, 1) := by decide +kernel
theorem dX11_fits_1 : decode cX11_fits 1 = .ok (.iload_n 1, 1) := by decide +kernel
theorem dX11_fits_2 : decode cX11_fits 2 = .ok (.ifCond .eq 8, 3) := by decide +kernel
theorem dX11_fits_5 : decode cX11_fits 5 = .ok (.iload_n 1, 1) := by decide +kernel
theorem dX11_fits_6 : decode cX11_fits 6 = .ok (.iconst 1, 1) := by decide +kernel
theorem dX11_fits_7 : decode cX11_fits 7 = .ok (.if_icmp .ne 7, 3) := by decide +kernel
theorem dX11_fits_10 : decode cX11_fits 10 = .ok (.iconst 1, 1) := by decide +kernel
theorem dX11_fits_11 : decode cX11_fits 11 = .ok (.goto 4, 3) := by decide +kernel
theorem dX11_fits_14 : decode cX11_fits 14 = .ok (.iconst 0, 1) := by decide +kernel
theorem dX11_fits_15 : decode cX11_fits 15 = .ok (.invokevirtual 186, 3) := by decide +kernel
theorem dX11_fits_18 : decode cX11_fits 18 = .ok (.aload_n 0, 1) := by decide +kernel
theorem dX11_fits_19 : decode cX11_fits 19 = .ok (.getfield 90, 3) := by decide +kernel
theorem dX11_fits_22 : decode cX11_fits 22 = .ok (.aload_n 0, 1) := by decide +kernel
theorem dX11_fits_23 : decode cX11_fits 23 = .ok (.getfield 67, 3) := by decide +kernel
theorem dX11_fits_26 : decode cX11_fits 26 = .ok (.invokevirtual 305, 3) := by decide +kernel
theorem dX11_fits_29 : decode cX11_fits 29 = .ok (.iload_n 1, 1) := by decide +kernel
theorem dX11_fits_30 : decode cX11_fits 30 = .ok (.ifCond .ne 13, 3) := by decide +kernel
theorem dX11_fits_33 : decode cX11_fits 33 = .ok (.aload_n 0, 1) := by decide +kernel
theorem dX11_fits_34 : decode cX11_fits 34 = .ok (.getfield 90, 3) := by decide +kernel
theorem dX11_fits_37 : decode cX11_fits 37 = .ok (.getfield 308, 3) := by decide +kernel
theorem dX11_fits_40 : decode cX11_fits 40 = .ok (.goto 10, 3) := by decide +kernel
theorem dX11_fits_43 : decode cX11_fits 43 = .ok (.aload_n 0, 1) := by decide +kernel
theorem dX11_fits_44 : decode cX11_fits 44 = .ok (.getfield 90, 3) := by decide +kernel
theorem dX11_fits_47 : decode cX11_fits 47 = .ok (.getfield 311, 3) := by decide +kernel
theorem dX11_fits_50 : decode cX11_fits 50 = .ok (.ireturn, 1) := by decide +kernel
theorem dX11_inLeastTerms_0 : decode cX11_inLeastTerms 0 = .ok (.lload_n 0, 1) := by decide +kernel
theorem dX11_inLeastTerms_1 : decode cX11_inLeastTerms 1 = .ok (.lstore 5, 2) := by decide +kernel
theorem dX11_inLeastTerms_3 : decode cX11_inLeastTerms 3 = .ok (.lload_n 2, 1) := by decide +kernel
theorem dX11_inLeastTerms_4 : decode cX11_inLeastTerms 4 = .ok (.lstore 7, 2) := by decide +kernel
theorem dX11_inLeastTerms_6 : decode cX11_inLeastTerms 6 = .ok (.iconst 0, 1) := by decide +kernel
theorem dX11_inLeastTerms_7 : decode cX11_inLeastTerms 7 = .ok (.istore 9, 2) := by decide +kernel
theorem dX11_inLeastTerms_9 : decode cX11_inLeastTerms 9 = .ok (.iload 9, 2) := by decide +kernel
theorem dX11_inLeastTerms_11 : decode cX11_inLeastTerms 11 = .ok (.bipush 100, 2) := by decide +kernel
theorem dX11_inLeastTerms_13 : decode cX11_inLeastTerms 13 = .ok (.if_icmp .ge 31, 3) := by decide +kernel
theorem dX11_inLeastTerms_16 : decode cX11_inLeastTerms 16 = .ok (.lload 7, 2) := by decide +kernel
theorem dX11_inLeastTerms_18 : decode cX11_inLeastTerms 18 = .ok (.lconst 0, 1) := by decide +kernel
theorem dX11_inLeastTerms_19 : decode cX11_inLeastTerms 19 = .ok (.lcmp, 1) := by decide +kernel
theorem dX11_inLeastTerms_20 : decode cX11_inLeastTerms 20 = .ok (.ifCond .eq 24, 3) := by decide +kernel
theorem dX11_inLeastTerms_23 : decode cX11_inLeastTerms 23 = .ok (.lload 5, 2) := by decide +kernel
theorem dX11_inLeastTerms_25 : decode cX11_inLeastTerms 25 = .ok (.lload 7, 2) := by decide +kernel
theorem dX11_inLeastTerms_27 : decode cX11_inLeastTerms 27 = .ok (.lrem, 1) := by decide +kernel
theorem dX11_inLeastTerms_28 : decode cX11_inLeastTerms 28 = .ok (.lstore 10, 2) := by decide +kernel
theorem dX11_inLeastTerms_30 : decode cX11_inLeastTerms 30 = .ok (.lload 7, 2) := by decide +kernel
theorem dX11_inLeastTerms_32 : decode cX11_inLeastTerms 32 = .ok (.lstore 5, 2) := by decide +kernel
theorem dX11_inLeastTerms_34 : decode cX11_inLeastTerms 34 = .ok (.lload 10, 2) := by decide +kernel
theorem dX11_inLeastTerms_36 : decode cX11_inLeastTerms 36 = .ok (.lstore 7, 2) := by decide +kernel
theorem dX11_inLeastTerms_38 : decode cX11_inLeastTerms 38 = .ok (.iinc 9 1, 3) := by decide +kernel
theorem dX11_inLeastTerms_41 : decode cX11_inLeastTerms 41 = .ok (.goto (-32), 3) := by decide +kernel
theorem dX11_inLeastTerms_44 : decode cX11_inLeastTerms 44 = .ok (.lconst 1, 1) := by decide +kernel
theorem dX11_inLeastTerms_45 : decode cX11_inLeastTerms 45 = .ok (.lload 5, 2) := by decide +kernel
theorem dX11_inLeastTerms_47 : decode cX11_inLeastTerms 47 = .ok (.invokestatic 407, 3) := by decide +kernel
theorem dX11_inLeastTerms_50 : decode cX11_inLeastTerms 50 = .ok (.lstore 9, 2) := by decide +kernel
theorem dX11_inLeastTerms_52 : decode cX11_inLeastTerms 52 = .ok (.iload 4, 2) := by decide +kernel
theorem dX11_inLeastTerms_54 : decode cX11_inLeastTerms 54 = .ok (.ifCond .ne 10, 3) := by decide +kernel
theorem dX11_inLeastTerms_57 : decode cX11_inLeastTerms 57 = .ok (.lload_n 0, 1) := by decide +kernel
theorem dX11_inLeastTerms_58 : decode cX11_inLeastTerms 58 = .ok (.lload 9, 2) := by decide +kernel
theorem dX11_inLeastTerms_60 : decode cX11_inLeastTerms 60 = .ok (.ldiv, 1) := by decide +kernel
theorem dX11_inLeastTerms_61 : decode cX11_inLeastTerms 61 = .ok (.goto 7, 3) := by decide +kernel
theorem dX11_inLeastTerms_64 : decode cX11_inLeastTerms 64 = .ok (.lload_n 2, 1) := by decide +kernel
theorem dX11_inLeastTerms_65 : decode cX11_inLeastTerms 65 = .ok (.lload 9, 2) := by decide +kernel
theorem dX11_inLeastTerms_67 : decode cX11_inLeastTerms 67 = .ok (.ldiv, 1) := by decide +kernel
theorem dX11_inLeastTerms_68 : decode cX11_inLeastTerms 68 = .ok (.lreturn, 1) := by decide +kernel
theorem dX11_isTerm_0 : decode cX11_isTerm 0 = .ok (.iload_n 0, 1) := by decide +kernel
theorem dX11_isTerm_1 : decode cX11_isTerm 1 = .ok (.ifCond .lt 24, 3) := by decide +kernel
theorem dX11_isTerm_4 : decode cX11_isTerm 4 = .ok (.iload_n 0, 1) := by decide +kernel
theorem dX11_isTerm_5 : decode cX11_isTerm 5 = .ok (.bipush 16, 2) := by decide +kernel
theorem dX11_isTerm_7 : decode cX11_isTerm 7 = .ok (.if_icmp .gt 18, 3) := by decide +kernel
theorem dX11_isTerm_10 : decode cX11_isTerm 10 = .ok (.iload_n 1, 1) := by decide +kernel
theorem dX11_isTerm_11 : decode cX11_isTerm 11 = .ok (.iconst 1, 1) := by decide +kernel
theorem dX11_isTerm_12 : decode cX11_isTerm 12 = .ok (.if_icmp .lt 13, 3) := by decide +kernel
theorem dX11_isTerm_15 : decode cX11_isTerm 15 = .ok (.iload_n 1, 1) := by decide +kernel
theorem dX11_isTerm_16 : decode cX11_isTerm 16 = .ok (.bipush 48, 2) := by decide +kernel
theorem dX11_isTerm_18 : decode cX11_isTerm 18 = .ok (.if_icmp .gt 7, 3) := by decide +kernel
theorem dX11_isTerm_21 : decode cX11_isTerm 21 = .ok (.iconst 1, 1) := by decide +kernel
theorem dX11_isTerm_22 : decode cX11_isTerm 22 = .ok (.goto 4, 3) := by decide +kernel
theorem dX11_isTerm_25 : decode cX11_isTerm 25 = .ok (.iconst 0, 1) := by decide +kernel
theorem dX11_isTerm_26 : decode cX11_isTerm 26 = .ok (.ireturn, 1) := by decide +kernel
theorem dX11_isPlace_0 : decode cX11_isPlace 0 = .ok (.iload_n 1, 1) := by decide +kernel
theorem dX11_isPlace_1 : decode cX11_isPlace 1 = .ok (.ifCond .lt 18, 3) := by decide +kernel
theorem dX11_isPlace_4 : decode cX11_isPlace 4 = .ok (.iload_n 1, 1) := by decide +kernel
theorem dX11_isPlace_5 : decode cX11_isPlace 5 = .ok (.aload_n 0, 1) := by decide +kernel
theorem dX11_isPlace_6 : decode cX11_isPlace 6 = .ok (.getfield 19, 3) := by decide +kernel
theorem dX11_isPlace_9 : decode cX11_isPlace 9 = .ok (.getfield 171, 3) := by decide +kernel
theorem dX11_isPlace_12 : decode cX11_isPlace 12 = .ok (.if_icmp .ge 7, 3) := by decide +kernel
theorem dX11_isPlace_15 : decode cX11_isPlace 15 = .ok (.iconst 1, 1) := by decide +kernel
theorem dX11_isPlace_16 : decode cX11_isPlace 16 = .ok (.goto 4, 3) := by decide +kernel
theorem dX11_isPlace_19 : decode cX11_isPlace 19 = .ok (.iconst 0, 1) := by decide +kernel
theorem dX11_isPlace_20 : decode cX11_isPlace 20 = .ok (.ireturn, 1) := by decide +kernel
theorem dX11_would_0 : decode cX11_would 0 = .ok (.aload_n 0, 1) := by decide +kernel
theorem dX11_would_1 : decode cX11_would 1 = .ok (.iload_n 1, 1) := by decide +kernel
theorem dX11_would_2 : decode cX11_would 2 = .ok (.invokestatic 240, 3) := by decide +kernel
theorem dX11_would_5 : decode cX11_would 5 = .ok (.ifCond .eq 29, 3) := by decide +kernel
theorem dX11_would_8 : decode cX11_would 8 = .ok (.iload_n 2, 1) := by decide +kernel
theorem dX11_would_9 : decode cX11_would 9 = .ok (.ifCond .lt 25, 3) := by decide +kernel
theorem dX11_would_12 : decode cX11_would 12 = .ok (.iload_n 2, 1) := by decide +kernel
theorem dX11_would_13 : decode cX11_would 13 = .ok (.sipush 400, 3) := by decide +kernel
theorem dX11_would_16 : decode cX11_would 16 = .ok (.if_icmp .gt 18, 3) := by decide +kernel
theorem dX11_would_19 : decode cX11_would 19 = .ok (.iload_n 3, 1) := by decide +kernel
theorem dX11_would_20 : decode cX11_would 20 = .ok (.iconst 1, 1) := by decide +kernel
theorem dX11_would_21 : decode cX11_would 21 = .ok (.if_icmp .lt 13, 3) := by decide +kernel
theorem dX11_would_24 : decode cX11_would 24 = .ok (.iload_n 3, 1) := by decide +kernel
theorem dX11_would_25 : decode cX11_would 25 = .ok (.bipush 9, 2) := by decide +kernel
theorem dX11_would_27 : decode cX11_would 27 = .ok (.if_icmp .gt 7, 3) := by decide +kernel
theorem dX11_would_30 : decode cX11_would 30 = .ok (.iconst 1, 1) := by decide +kernel
theorem dX11_would_31 : decode cX11_would 31 = .ok (.goto 4, 3) := by decide +kernel
theorem dX11_would_34 : decode cX11_would 34 = .ok (.iconst 0, 1) := by decide +kernel
theorem dX11_would_35 : decode cX11_would 35 = .ok (.invokevirtual 186, 3) := by decide +kernel
theorem dX11_would_38 : decode cX11_would 38 = .ok (.aload_n 0, 1) := by decide +kernel
theorem dX11_would_39 : decode cX11_would 39 = .ok (.iload 4, 2) := by decide +kernel
theorem dX11_would_41 : decode cX11_would 41 = .ok (.ifCond .lt 28, 3) := by decide +kernel
theorem dX11_would_44 : decode cX11_would 44 = .ok (.iload 4, 2) := by decide +kernel
theorem dX11_would_46 : decode cX11_would 46 = .ok (.sipush 2800, 3) := by decide +kernel
theorem dX11_would_49 : decode cX11_would 49 = .ok (.if_icmp .gt 20, 3) := by decide +kernel
theorem dX11_would_52 : decode cX11_would 52 = .ok (.iload 5, 2) := by decide +kernel
theorem dX11_would_54 : decode cX11_would 54 = .ok (.ifCond .lt 15, 3) := by decide +kernel
theorem dX11_would_57 : decode cX11_would 57 = .ok (.iload 5, 2) := by decide +kernel
theorem dX11_would_59 : decode cX11_would 59 = .ok (.sipush 400, 3) := by decide +kernel
theorem dX11_would_62 : decode cX11_would 62 = .ok (.if_icmp .gt 7, 3) := by decide +kernel
theorem dX11_would_65 : decode cX11_would 65 = .ok (.iconst 1, 1) := by decide +kernel
theorem dX11_would_66 : decode cX11_would 66 = .ok (.goto 4, 3) := by decide +kernel
theorem dX11_would_69 : decode cX11_would 69 = .ok (.iconst 0, 1) := by decide +kernel
theorem dX11_would_70 : decode cX11_would 70 = .ok (.invokevirtual 186, 3) := by decide +kernel
theorem dX11_would_73 : decode cX11_would 73 = .ok (.aload_n 0, 1) := by decide +kernel
theorem dX11_would_74 : decode cX11_would 74 = .ok (.iload 6, 2) := by decide +kernel
theorem dX11_would_76 : decode cX11_would 76 = .ok (.ifCond .lt 28, 3) := by decide +kernel
theorem dX11_would_79 : decode cX11_would 79 = .ok (.iload 6, 2) := by decide +kernel
theorem dX11_would_81 : decode cX11_would 81 = .ok (.sipush 999, 3) := by decide +kernel
theorem dX11_would_84 : decode cX11_would 84 = .ok (.if_icmp .gt 20, 3) := by decide +kernel
theorem dX11_would_87 : decode cX11_would 87 = .ok (.iload 7, 2) := by decide +kernel
theorem dX11_would_89 : decode cX11_would 89 = .ok (.ifCond .lt 15, 3) := by decide +kernel
theorem dX11_would_92 : decode cX11_would 92 = .ok (.iload 7, 2) := by decide +kernel
theorem dX11_would_94 : decode cX11_would 94 = .ok (.sipush 400, 3) := by decide +kernel
theorem dX11_would_97 : decode cX11_would 97 = .ok (.if_icmp .gt 7, 3) := by decide +kernel
theorem dX11_would_100 : decode cX11_would 100 = .ok (.iconst 1, 1) := by decide +kernel
theorem dX11_would_101 : decode cX11_would 101 = .ok (.goto 4, 3) := by decide +kernel
theorem dX11_would_104 : decode cX11_would 104 = .ok (.iconst 0, 1) := by decide +kernel
theorem dX11_would_105 : decode cX11_would 105 = .ok (.invokevirtual 186, 3) := by decide +kernel
theorem dX11_would_108 : decode cX11_would 108 = .ok (.aload_n 0, 1) := by decide +kernel
theorem dX11_would_109 : decode cX11_would 109 = .ok (.iload 8, 2) := by decide +kernel
theorem dX11_would_111 : decode cX11_would 111 = .ok (.ifCond .lt 14, 3) := by decide +kernel
theorem dX11_would_114 : decode cX11_would 114 = .ok (.iload 8, 2) := by decide +kernel
theorem dX11_would_116 : decode cX11_would 116 = .ok (.bipush 6, 2) := by decide +kernel
theorem dX11_would_118 : decode cX11_would 118 = .ok (.if_icmp .ge 7, 3) := by decide +kernel
theorem dX11_would_121 : decode cX11_would 121 = .ok (.iconst 1, 1) := by decide +kernel
theorem dX11_would_122 : decode cX11_would 122 = .ok (.goto 4, 3) := by decide +kernel
theorem dX11_would_125 : decode cX11_would 125 = .ok (.iconst 0, 1) := by decide +kernel
theorem dX11_would_126 : decode cX11_would 126 = .ok (.invokevirtual 186, 3) := by decide +kernel
theorem dX11_would_129 : decode cX11_would 129 = .ok (.aload_n 0, 1) := by decide +kernel
theorem dX11_would_130 : decode cX11_would 130 = .ok (.getfield 51, 3) := by decide +kernel
theorem dX11_would_133 : decode cX11_would 133 = .ok (.getfield 266, 3) := by decide +kernel
theorem dX11_would_136 : decode cX11_would 136 = .ok (.astore 9, 2) := by decide +kernel
theorem dX11_would_138 : decode cX11_would 138 = .ok (.aload 9, 2) := by decide +kernel
theorem dX11_would_140 : decode cX11_would 140 = .ok (.iconst 0, 1) := by decide +kernel
theorem dX11_would_141 : decode cX11_would 141 = .ok (.iload_n 1, 1) := by decide +kernel
theorem dX11_would_142 : decode cX11_would 142 = .ok (.iastore, 1) := by decide +kernel
theorem dX11_would_143 : decode cX11_would 143 = .ok (.aload 9, 2) := by decide +kernel
theorem dX11_would_145 : decode cX11_would 145 = .ok (.iconst 1, 1) := by decide +kernel
theorem dX11_would_146 : decode cX11_would 146 = .ok (.iload_n 2, 1) := by decide +kernel
theorem dX11_would_147 : decode cX11_would 147 = .ok (.iastore, 1) := by decide +kernel
theorem dX11_would_148 : decode cX11_would 148 = .ok (.aload 9, 2) := by decide +kernel
theorem dX11_would_150 : decode cX11_would 150 = .ok (.iconst 2, 1) := by decide +kernel
theorem dX11_would_151 : decode cX11_would 151 = .ok (.iload_n 3, 1) := by decide +kernel
theorem dX11_would_152 : decode cX11_would 152 = .ok (.iastore, 1) := by decide +kernel
theorem dX11_would_153 : decode cX11_would 153 = .ok (.aload 9, 2) := by decide +kernel
theorem dX11_would_155 : decode cX11_would 155 = .ok (.iconst 3, 1) := by decide +kernel
theorem dX11_would_156 : decode cX11_would 156 = .ok (.iload 4, 2) := by decide +kernel
theorem dX11_would_158 : decode cX11_would 158 = .ok (.iastore, 1) := by decide +kernel
theorem dX11_would_159 : decode cX11_would 159 = .ok (.aload 9, 2) := by decide +kernel
theorem dX11_would_161 : decode cX11_would 161 = .ok (.iconst 4, 1) := by decide +kernel
theorem dX11_would_162 : decode cX11_would 162 = .ok (.iload 5, 2) := by decide +kernel
theorem dX11_would_164 : decode cX11_would 164 = .ok (.iastore, 1) := by decide +kernel
theorem dX11_would_165 : decode cX11_would 165 = .ok (.aload 9, 2) := by decide +kernel
theorem dX11_would_167 : decode cX11_would 167 = .ok (.iconst 5, 1) := by decide +kernel
theorem dX11_would_168 : decode cX11_would 168 = .ok (.iload 6, 2) := by decide +kernel
theorem dX11_would_170 : decode cX11_would 170 = .ok (.iastore, 1) := by decide +kernel
theorem dX11_would_171 : decode cX11_would 171 = .ok (.aload 9, 2) := by decide +kernel
theorem dX11_would_173 : decode cX11_would 173 = .ok (.bipush 6, 2) := by decide +kernel
theorem dX11_would_175 : decode cX11_would 175 = .ok (.iload 7, 2) := by decide +kernel
theorem dX11_would_177 : decode cX11_would 177 = .ok (.iastore, 1) := by decide +kernel
theorem dX11_would_178 : decode cX11_would 178 = .ok (.aload 9, 2) := by decide +kernel
theorem dX11_would_180 : decode cX11_would 180 = .ok (.bipush 7, 2) := by decide +kernel
theorem dX11_would_182 : decode cX11_would 182 = .ok (.iload 8, 2) := by decide +kernel
theorem dX11_would_184 : decode cX11_would 184 = .ok (.iastore, 1) := by decide +kernel
theorem dX11_would_185 : decode cX11_would 185 = .ok (.aload_n 0, 1) := by decide +kernel
theorem dX11_would_186 : decode cX11_would 186 = .ok (.getfield 51, 3) := by decide +kernel
theorem dX11_would_189 : decode cX11_would 189 = .ok (.aload_n 0, 1) := by decide +kernel
theorem dX11_would_190 : decode cX11_would 190 = .ok (.getfield 29, 3) := by decide +kernel
theorem dX11_would_193 : decode cX11_would 193 = .ok (.aload 9, 2) := by decide +kernel
theorem dX11_would_195 : decode cX11_would 195 = .ok (.invokevirtual 269, 3) := by decide +kernel
theorem dX11_would_198 : decode cX11_would 198 = .ok (.invokevirtual 273, 3) := by decide +kernel
theorem dX11_would_201 : decode cX11_would 201 = .ok (.ireturn, 1) := by decide +kernel
theorem dX11_lacks_0 : decode cX11_lacks 0 = .ok (.aload_n 0, 1) := by decide +kernel
theorem dX11_lacks_1 : decode cX11_lacks 1 = .ok (.iload_n 1, 1) := by decide +kernel
theorem dX11_lacks_2 : decode cX11_lacks 2 = .ok (.invokevirtual 221, 3) := by decide +kernel
theorem dX11_lacks_5 : decode cX11_lacks 5 = .ok (.aload_n 0, 1) := by decide +kernel
theorem dX11_lacks_6 : decode cX11_lacks 6 = .ok (.iload_n 2, 1) := by decide +kernel
theorem dX11_lacks_7 : decode cX11_lacks 7 = .ok (.invokestatic 240, 3) := by decide +kernel
theorem dX11_lacks_10 : decode cX11_lacks 10 = .ok (.invokevirtual 186, 3) := by decide +kernel
theorem dX11_lacks_13 : decode cX11_lacks 13 = .ok (.iload_n 1, 1) := by decide +kernel
theorem dX11_lacks_14 : decode cX11_lacks 14 = .ok (.bipush 7, 2) := by decide +kernel
theorem dX11_lacks_16 : decode cX11_lacks 16 = .ok (.imul, 1) := by decide +kernel
theorem dX11_lacks_17 : decode cX11_lacks 17 = .ok (.istore_n 3, 1) := by decide +kernel
theorem dX11_lacks_18 : decode cX11_lacks 18 = .ok (.aload_n 0, 1) := by decide +kernel
theorem dX11_lacks_19 : decode cX11_lacks 19 = .ok (.getfield 67, 3) := by decide +kernel
theorem dX11_lacks_22 : decode cX11_lacks 22 = .ok (.getfield 204, 3) := by decide +kernel
theorem dX11_lacks_25 : decode cX11_lacks 25 = .ok (.iload_n 3, 1) := by decide +kernel
theorem dX11_lacks_26 : decode cX11_lacks 26 = .ok (.aload_n 0, 1) := by decide +kernel
theorem dX11_lacks_27 : decode cX11_lacks 27 = .ok (.getfield 67, 3) := by decide +kernel
theorem dX11_lacks_30 : decode cX11_lacks 30 = .ok (.iload_n 1, 1) := by decide +kernel
theorem dX11_lacks_31 : decode cX11_lacks 31 = .ok (.invokevirtual 351, 3) := by decide +kernel
theorem dX11_lacks_34 : decode cX11_lacks 34 = .ok (.iadd, 1) := by decide +kernel
theorem dX11_lacks_35 : decode cX11_lacks 35 = .ok (.iaload, 1) := by decide +kernel
theorem dX11_lacks_36 : decode cX11_lacks 36 = .ok (.aload_n 0, 1) := by decide +kernel
theorem dX11_lacks_37 : decode cX11_lacks 37 = .ok (.getfield 67, 3) := by decide +kernel
theorem dX11_lacks_40 : decode cX11_lacks 40 = .ok (.getfield 204, 3) := by decide +kernel
theorem dX11_lacks_43 : decode cX11_lacks 43 = .ok (.iload_n 3, 1) := by decide +kernel
theorem dX11_lacks_44 : decode cX11_lacks 44 = .ok (.iload_n 2, 1) := by decide +kernel
theorem dX11_lacks_45 : decode cX11_lacks 45 = .ok (.iadd, 1) := by decide +kernel
theorem dX11_lacks_46 : decode cX11_lacks 46 = .ok (.iaload, 1) := by decide +kernel
theorem dX11_lacks_47 : decode cX11_lacks 47 = .ok (.isub, 1) := by decide +kernel
theorem dX11_lacks_48 : decode cX11_lacks 48 = .ok (.ireturn, 1) := by decide +kernel
theorem dX11_spread_0 : decode cX11_spread 0 = .ok (.aload_n 0, 1) := by decide +kernel
theorem dX11_spread_1 : decode cX11_spread 1 = .ok (.aload_n 0, 1) := by decide +kernel
theorem dX11_spread_2 : decode cX11_spread 2 = .ok (.iload_n 1, 1) := by decide +kernel
theorem dX11_spread_3 : decode cX11_spread 3 = .ok (.invokevirtual 279, 3) := by decide +kernel
theorem dX11_spread_6 : decode cX11_spread 6 = .ok (.invokevirtual 186, 3) := by decide +kernel
theorem dX11_spread_9 : decode cX11_spread 9 = .ok (.aload_n 0, 1) := by decide +kernel
theorem dX11_spread_10 : decode cX11_spread 10 = .ok (.getfield 67, 3) := by decide +kernel
theorem dX11_spread_13 : decode cX11_spread 13 = .ok (.iload_n 1, 1) := by decide +kernel
theorem dX11_spread_14 : decode cX11_spread 14 = .ok (.invokevirtual 282, 3) := by decide +kernel
theorem dX11_spread_17 : decode cX11_spread 17 = .ok (.ireturn, 1) := by decide +kernel
theorem dX11_through_0 : decode cX11_through 0 = .ok (.aload_n 0, 1) := by decide +kernel
theorem dX11_through_1 : decode cX11_through 1 = .ok (.iload_n 1, 1) := by decide +kernel
theorem dX11_through_2 : decode cX11_through 2 = .ok (.invokevirtual 221, 3) := by decide +kernel
theorem dX11_through_5 : decode cX11_through 5 = .ok (.aload_n 0, 1) := by decide +kernel
theorem dX11_through_6 : decode cX11_through 6 = .ok (.iload_n 2, 1) := by decide +kernel
theorem dX11_through_7 : decode cX11_through 7 = .ok (.invokestatic 240, 3) := by decide +kernel
theorem dX11_through_10 : decode cX11_through 10 = .ok (.ifCond .eq 15, 3) := by decide +kernel
theorem dX11_through_13 : decode cX11_through 13 = .ok (.aload_n 0, 1) := by decide +kernel
theorem dX11_through_14 : decode cX11_through 14 = .ok (.iload_n 3, 1) := by decide +kernel
theorem dX11_through_15 : decode cX11_through 15 = .ok (.invokevirtual 255, 3) := by decide +kernel
theorem dX11_through_18 : decode cX11_through 18 = .ok (.ifCond .eq 7, 3) := by decide +kernel
theorem dX11_through_21 : decode cX11_through 21 = .ok (.iconst 1, 1) := by decide +kernel
theorem dX11_through_22 : decode cX11_through 22 = .ok (.goto 4, 3) := by decide +kernel
theorem dX11_through_25 : decode cX11_through 25 = .ok (.iconst 0, 1) := by decide +kernel
theorem dX11_through_26 : decode cX11_through 26 = .ok (.invokevirtual 186, 3) := by decide +kernel
theorem dX11_through_29 : decode cX11_through 29 = .ok (.aload_n 0, 1) := by decide +kernel
theorem dX11_through_30 : decode cX11_through 30 = .ok (.getfield 51, 3) := by decide +kernel
theorem dX11_through_33 : decode cX11_through 33 = .ok (.aload_n 0, 1) := by decide +kernel
theorem dX11_through_34 : decode cX11_through 34 = .ok (.getfield 67, 3) := by decide +kernel
theorem dX11_through_37 : decode cX11_through 37 = .ok (.iload_n 1, 1) := by decide +kernel
theorem dX11_through_38 : decode cX11_through 38 = .ok (.iload_n 2, 1) := by decide +kernel
theorem dX11_through_39 : decode cX11_through 39 = .ok (.invokevirtual 293, 3) := by decide +kernel
theorem dX11_through_42 : decode cX11_through 42 = .ok (.iconst (-1), 1) := by decide +kernel
theorem dX11_through_43 : decode cX11_through 43 = .ok (.istore 4, 2) := by decide +kernel
theorem dX11_through_45 : decode cX11_through 45 = .ok (.iconst 0, 1) := by decide +kernel
theorem dX11_through_46 : decode cX11_through 46 = .ok (.istore 5, 2) := by decide +kernel
theorem dX11_through_48 : decode cX11_through 48 = .ok (.iload 5, 2) := by decide +kernel
theorem dX11_through_50 : decode cX11_through 50 = .ok (.iconst 1, 1) := by decide +kernel
theorem dX11_through_51 : decode cX11_through 51 = .ok (.aload_n 0, 1) := by decide +kernel
theorem dX11_through_52 : decode cX11_through 52 = .ok (.getfield 19, 3) := by decide +kernel
theorem dX11_through_55 : decode cX11_through 55 = .ok (.getfield 190, 3) := by decide +kernel
theorem dX11_through_58 : decode cX11_through 58 = .ok (.ishl, 1) := by decide +kernel
theorem dX11_through_59 : decode cX11_through 59 = .ok (.if_icmp .ge 45, 3) := by decide +kernel
theorem dX11_through_62 : decode cX11_through 62 = .ok (.aload_n 0, 1) := by decide +kernel
theorem dX11_through_63 : decode cX11_through 63 = .ok (.getfield 51, 3) := by decide +kernel
theorem dX11_through_66 : decode cX11_through 66 = .ok (.iload 5, 2) := by decide +kernel
theorem dX11_through_68 : decode cX11_through 68 = .ok (.invokevirtual 297, 3) := by decide +kernel
theorem dX11_through_71 : decode cX11_through 71 = .ok (.iload_n 3, 1) := by decide +kernel
theorem dX11_through_72 : decode cX11_through 72 = .ok (.if_icmp .ne 26, 3) := by decide +kernel
theorem dX11_through_75 : decode cX11_through 75 = .ok (.iload 4, 2) := by decide +kernel
theorem dX11_through_77 : decode cX11_through 77 = .ok (.iconst (-1), 1) := by decide +kernel
theorem dX11_through_78 : decode cX11_through 78 = .ok (.if_icmp .eq 16, 3) := by decide +kernel
theorem dX11_through_81 : decode cX11_through 81 = .ok (.iload 5, 2) := by decide +kernel
theorem dX11_through_83 : decode cX11_through 83 = .ok (.invokestatic 285, 3) := by decide +kernel
theorem dX11_through_86 : decode cX11_through 86 = .ok (.iload 4, 2) := by decide +kernel
theorem dX11_through_88 : decode cX11_through 88 = .ok (.invokestatic 285, 3) := by decide +kernel
theorem dX11_through_91 : decode cX11_through 91 = .ok (.if_icmp .ge 7, 3) := by decide +kernel
theorem dX11_through_94 : decode cX11_through 94 = .ok (.iload 5, 2) := by decide +kernel
theorem dX11_through_96 : decode cX11_through 96 = .ok (.istore 4, 2) := by decide +kernel
theorem dX11_through_98 : decode cX11_through 98 = .ok (.iinc 5 1, 3) := by decide +kernel
theorem dX11_through_101 : decode cX11_through 101 = .ok (.goto (-53), 3) := by decide +kernel
theorem dX11_through_104 : decode cX11_through 104 = .ok (.iload 4, 2) := by decide +kernel
theorem dX11_through_106 : decode cX11_through 106 = .ok (.ireturn, 1) := by decide +kernel
theorem dX11_place_0 : decode cX11_place 0 = .ok (.aload_n 0, 1) := by decide +kernel
theorem dX11_place_1 : decode cX11_place 1 = .ok (.aload_n 0, 1) := by decide +kernel
theorem dX11_place_2 : decode cX11_place 2 = .ok (.iload_n 1, 1) := by decide +kernel
theorem dX11_place_3 : decode cX11_place 3 = .ok (.invokevirtual 255, 3) := by decide +kernel
theorem dX11_place_6 : decode cX11_place 6 = .ok (.invokevirtual 186, 3) := by decide +kernel
theorem dX11_place_9 : decode cX11_place 9 = .ok (.aload_n 0, 1) := by decide +kernel
theorem dX11_place_10 : decode cX11_place 10 = .ok (.getfield 67, 3) := by decide +kernel
theorem dX11_place_13 : decode cX11_place 13 = .ok (.iload_n 1, 1) := by decide +kernel
theorem dX11_place_14 : decode cX11_place 14 = .ok (.iconst 0, 1) := by decide +kernel
theorem dX11_place_15 : decode cX11_place 15 = .ok (.invokevirtual 258, 3) := by decide +kernel
theorem dX11_place_18 : decode cX11_place 18 = .ok (.ireturn, 1) := by decide +kernel
theorem dX11_glass_0 : decode cX11_glass 0 = .ok (.aload_n 0, 1) := by decide +kernel
theorem dX11_glass_1 : decode cX11_glass 1 = .ok (.iload_n 1, 1) := by decide +kernel
theorem dX11_glass_2 : decode cX11_glass 2 = .ok (.invokevirtual 246, 3) := by decide +kernel
theorem dX11_glass_5 : decode cX11_glass 5 = .ok (.aload_n 0, 1) := by decide +kernel
theorem dX11_glass_6 : decode cX11_glass 6 = .ok (.iload_n 2, 1) := by decide +kernel
theorem dX11_glass_7 : decode cX11_glass 7 = .ok (.ifCond .eq 8, 3) := by decide +kernel
theorem dX11_glass_10 : decode cX11_glass 10 = .ok (.iload_n 2, 1) := by decide +kernel
theorem dX11_glass_11 : decode cX11_glass 11 = .ok (.iconst 1, 1) := by decide +kernel
theorem dX11_glass_12 : decode cX11_glass 12 = .ok (.if_icmp .ne 7, 3) := by decide +kernel
theorem dX11_glass_15 : decode cX11_glass 15 = .ok (.iconst 1, 1) := by decide +kernel
theorem dX11_glass_16 : decode cX11_glass 16 = .ok (.goto 4, 3) := by decide +kernel
theorem dX11_glass_19 : decode cX11_glass 19 = .ok (.iconst 0, 1) := by decide +kernel
theorem dX11_glass_20 : decode cX11_glass 20 = .ok (.invokevirtual 186, 3) := by decide +kernel
theorem dX11_glass_23 : decode cX11_glass 23 = .ok (.iload_n 2, 1) := by decide +kernel
theorem dX11_glass_24 : decode cX11_glass 24 = .ok (.ifCond .ne 15, 3) := by decide +kernel
theorem dX11_glass_27 : decode cX11_glass 27 = .ok (.aload_n 0, 1) := by decide +kernel
theorem dX11_glass_28 : decode cX11_glass 28 = .ok (.getfield 19, 3) := by decide +kernel
theorem dX11_glass_31 : decode cX11_glass 31 = .ok (.getfield 249, 3) := by decide +kernel
theorem dX11_glass_34 : decode cX11_glass 34 = .ok (.iload_n 1, 1) := by decide +kernel
theorem dX11_glass_35 : decode cX11_glass 35 = .ok (.iaload, 1) := by decide +kernel
theorem dX11_glass_36 : decode cX11_glass 36 = .ok (.goto 12, 3) := by decide +kernel
theorem dX11_glass_39 : decode cX11_glass 39 = .ok (.aload_n 0, 1) := by decide +kernel
theorem dX11_glass_40 : decode cX11_glass 40 = .ok (.getfield 19, 3) := by decide +kernel
theorem dX11_glass_43 : decode cX11_glass 43 = .ok (.getfield 252, 3) := by decide +kernel
theorem dX11_glass_46 : decode cX11_glass 46 = .ok (.iload_n 1, 1) := by decide +kernel
theorem dX11_glass_47 : decode cX11_glass 47 = .ok (.iaload, 1) := by decide +kernel
theorem dX11_glass_48 : decode cX11_glass 48 = .ok (.ireturn, 1) := by decide +kernel
theorem dX11_span_0 : decode cX11_span 0 = .ok (.aload_n 0, 1) := by decide +kernel
theorem dX11_span_1 : decode cX11_span 1 = .ok (.iload_n 2, 1) := by decide +kernel
theorem dX11_span_2 : decode cX11_span 2 = .ok (.iconst 1, 1) := by decide +kernel
theorem dX11_span_3 : decode cX11_span 3 = .ok (.if_icmp .lt 33, 3) := by decide +kernel
theorem dX11_span_6 : decode cX11_span 6 = .ok (.iload_n 2, 1) := by decide +kernel
theorem dX11_span_7 : decode cX11_span 7 = .ok (.bipush 10, 2) := by decide +kernel
theorem dX11_span_9 : decode cX11_span 9 = .ok (.if_icmp .gt 27, 3) := by decide +kernel
theorem dX11_span_12 : decode cX11_span 12 = .ok (.iload_n 3, 1) := by decide +kernel
theorem dX11_span_13 : decode cX11_span 13 = .ok (.iload 4, 2) := by decide +kernel
theorem dX11_span_15 : decode cX11_span 15 = .ok (.invokestatic 362, 3) := by decide +kernel
theorem dX11_span_18 : decode cX11_span 18 = .ok (.ifCond .eq 18, 3) := by decide +kernel
theorem dX11_span_21 : decode cX11_span 21 = .ok (.iload 5, 2) := by decide +kernel
theorem dX11_span_23 : decode cX11_span 23 = .ok (.ifCond .lt 13, 3) := by decide +kernel
theorem dX11_span_26 : decode cX11_span 26 = .ok (.iload 5, 2) := by decide +kernel
theorem dX11_span_28 : decode cX11_span 28 = .ok (.iconst 2, 1) := by decide +kernel
theorem dX11_span_29 : decode cX11_span 29 = .ok (.if_icmp .gt 7, 3) := by decide +kernel
theorem dX11_span_32 : decode cX11_span 32 = .ok (.iconst 1, 1) := by decide +kernel
theorem dX11_span_33 : decode cX11_span 33 = .ok (.goto 4, 3) := by decide +kernel
theorem dX11_span_36 : decode cX11_span 36 = .ok (.iconst 0, 1) := by decide +kernel
theorem dX11_span_37 : decode cX11_span 37 = .ok (.invokevirtual 186, 3) := by decide +kernel
theorem dX11_span_40 : decode cX11_span 40 = .ok (.aload_n 0, 1) := by decide +kernel
theorem dX11_span_41 : decode cX11_span 41 = .ok (.aload_n 0, 1) := by decide +kernel
theorem dX11_span_42 : decode cX11_span 42 = .ok (.iload 6, 2) := by decide +kernel
theorem dX11_span_44 : decode cX11_span 44 = .ok (.invokevirtual 372, 3) := by decide +kernel
theorem dX11_span_47 : decode cX11_span 47 = .ok (.invokevirtual 186, 3) := by decide +kernel
theorem dX11_span_50 : decode cX11_span 50 = .ok (.sipush 1680, 3) := by decide +kernel
theorem dX11_span_53 : decode cX11_span 53 = .ok (.istore 7, 2) := by decide +kernel
theorem dX11_span_55 : decode cX11_span 55 = .ok (.iconst 0, 1) := by decide +kernel
theorem dX11_span_56 : decode cX11_span 56 = .ok (.istore 8, 2) := by decide +kernel
theorem dX11_span_58 : decode cX11_span 58 = .ok (.iconst 0, 1) := by decide +kernel
theorem dX11_span_59 : decode cX11_span 59 = .ok (.istore 9, 2) := by decide +kernel
theorem dX11_span_61 : decode cX11_span 61 = .ok (.iconst 0, 1) := by decide +kernel
theorem dX11_span_62 : decode cX11_span 62 = .ok (.istore 10, 2) := by decide +kernel
theorem dX11_span_64 : decode cX11_span 64 = .ok (.iload 10, 2) := by decide +kernel
theorem dX11_span_66 : decode cX11_span 66 = .ok (.iload_n 2, 1) := by decide +kernel
theorem dX11_span_67 : decode cX11_span 67 = .ok (.if_icmp .ge 88, 3) := by decide +kernel
theorem dX11_span_70 : decode cX11_span 70 = .ok (.aload_n 0, 1) := by decide +kernel
theorem dX11_span_71 : decode cX11_span 71 = .ok (.getfield 99, 3) := by decide +kernel
theorem dX11_span_74 : decode cX11_span 74 = .ok (.aload_n 0, 1) := by decide +kernel
theorem dX11_span_75 : decode cX11_span 75 = .ok (.getfield 67, 3) := by decide +kernel
theorem dX11_span_78 : decode cX11_span 78 = .ok (.iload_n 1, 1) := by decide +kernel
theorem dX11_span_79 : decode cX11_span 79 = .ok (.iload 10, 2) := by decide +kernel
theorem dX11_span_81 : decode cX11_span 81 = .ok (.iadd, 1) := by decide +kernel
theorem dX11_span_82 : decode cX11_span 82 = .ok (.iload_n 3, 1) := by decide +kernel
theorem dX11_span_83 : decode cX11_span 83 = .ok (.iload 4, 2) := by decide +kernel
theorem dX11_span_85 : decode cX11_span 85 = .ok (.invokevirtual 366, 3) := by decide +kernel
theorem dX11_span_88 : decode cX11_span 88 = .ok (.aload_n 0, 1) := by decide +kernel
theorem dX11_span_89 : decode cX11_span 89 = .ok (.getfield 99, 3) := by decide +kernel
theorem dX11_span_92 : decode cX11_span 92 = .ok (.getfield 369, 3) := by decide +kernel
theorem dX11_span_95 : decode cX11_span 95 = .ok (.getfield 204, 3) := by decide +kernel
theorem dX11_span_98 : decode cX11_span 98 = .ok (.iconst 0, 1) := by decide +kernel
theorem dX11_span_99 : decode cX11_span 99 = .ok (.bipush 42, 2) := by decide +kernel
theorem dX11_span_101 : decode cX11_span 101 = .ok (.invokestatic 208, 3) := by decide +kernel
theorem dX11_span_104 : decode cX11_span 104 = .ok (.istore 11, 2) := by decide +kernel
theorem dX11_span_106 : decode cX11_span 106 = .ok (.iload 7, 2) := by decide +kernel
theorem dX11_span_108 : decode cX11_span 108 = .ok (.iload 11, 2) := by decide +kernel
theorem dX11_span_110 : decode cX11_span 110 = .ok (.invokestatic 348, 3) := by decide +kernel
theorem dX11_span_113 : decode cX11_span 113 = .ok (.istore 7, 2) := by decide +kernel
theorem dX11_span_115 : decode cX11_span 115 = .ok (.iload 8, 2) := by decide +kernel
theorem dX11_span_117 : decode cX11_span 117 = .ok (.iload 11, 2) := by decide +kernel
theorem dX11_span_119 : decode cX11_span 119 = .ok (.invokestatic 375, 3) := by decide +kernel
theorem dX11_span_122 : decode cX11_span 122 = .ok (.istore 8, 2) := by decide +kernel
theorem dX11_span_124 : decode cX11_span 124 = .ok (.iload 9, 2) := by decide +kernel
theorem dX11_span_126 : decode cX11_span 126 = .ok (.aload_n 0, 1) := by decide +kernel
theorem dX11_span_127 : decode cX11_span 127 = .ok (.getfield 99, 3) := by decide +kernel
theorem dX11_span_130 : decode cX11_span 130 = .ok (.getfield 369, 3) := by decide +kernel
theorem dX11_span_133 : decode cX11_span 133 = .ok (.iload 6, 2) := by decide +kernel
theorem dX11_span_135 : decode cX11_span 135 = .ok (.invokevirtual 224, 3) := by decide +kernel
theorem dX11_span_138 : decode cX11_span 138 = .ok (.ifCond .le 7, 3) := by decide +kernel
theorem dX11_span_141 : decode cX11_span 141 = .ok (.iconst 1, 1) := by decide +kernel
theorem dX11_span_142 : decode cX11_span 142 = .ok (.goto 4, 3) := by decide +kernel
theorem dX11_span_145 : decode cX11_span 145 = .ok (.iconst 0, 1) := by decide +kernel
theorem dX11_span_146 : decode cX11_span 146 = .ok (.iadd, 1) := by decide +kernel
theorem dX11_span_147 : decode cX11_span 147 = .ok (.istore 9, 2) := by decide +kernel
theorem dX11_span_149 : decode cX11_span 149 = .ok (.iinc 10 1, 3) := by decide +kernel
theorem dX11_span_152 : decode cX11_span 152 = .ok (.goto (-88), 3) := by decide +kernel
theorem dX11_span_155 : decode cX11_span 155 = .ok (.iload 5, 2) := by decide +kernel
theorem dX11_span_157 : decode cX11_span 157 = .ok (.ifCond .ne 8, 3) := by decide +kernel
theorem dX11_span_160 : decode cX11_span 160 = .ok (.iload 7, 2) := by decide +kernel
theorem dX11_span_162 : decode cX11_span 162 = .ok (.goto 16, 3) := by decide +kernel
theorem dX11_span_165 : decode cX11_span 165 = .ok (.iload 5, 2) := by decide +kernel
theorem dX11_span_167 : decode cX11_span 167 = .ok (.iconst 1, 1) := by decide +kernel
theorem dX11_span_168 : decode cX11_span 168 = .ok (.if_icmp .ne 8, 3) := by decide +kernel
theorem dX11_span_171 : decode cX11_span 171 = .ok (.iload 8, 2) := by decide +kernel
theorem dX11_span_173 : decode cX11_span 173 = .ok (.goto 5, 3) := by decide +kernel
theorem dX11_span_176 : decode cX11_span 176 = .ok (.iload 9, 2) := by decide +kernel
theorem dX11_span_178 : decode cX11_span 178 = .ok (.ireturn, 1) := by decide +kernel
theorem dX11_lit_0 : decode cX11_lit 0 = .ok (.iconst 0, 1) := by decide +kernel
theorem dX11_lit_1 : decode cX11_lit 1 = .ok (.istore_n 1, 1) := by decide +kernel
theorem dX11_lit_2 : decode cX11_lit 2 = .ok (.iconst 0, 1) := by decide +kernel
theorem dX11_lit_3 : decode cX11_lit 3 = .ok (.istore_n 2, 1) := by decide +kernel
theorem dX11_lit_4 : decode cX11_lit 4 = .ok (.iload_n 2, 1) := by decide +kernel
theorem dX11_lit_5 : decode cX11_lit 5 = .ok (.aload_n 0, 1) := by decide +kernel
theorem dX11_lit_6 : decode cX11_lit 6 = .ok (.getfield 19, 3) := by decide +kernel
theorem dX11_lit_9 : decode cX11_lit 9 = .ok (.getfield 171, 3) := by decide +kernel
theorem dX11_lit_12 : decode cX11_lit 12 = .ok (.if_icmp .ge 29, 3) := by decide +kernel
theorem dX11_lit_15 : decode cX11_lit 15 = .ok (.iload_n 1, 1) := by decide +kernel
theorem dX11_lit_16 : decode cX11_lit 16 = .ok (.aload_n 0, 1) := by decide +kernel
theorem dX11_lit_17 : decode cX11_lit 17 = .ok (.getfield 67, 3) := by decide +kernel
theorem dX11_lit_20 : decode cX11_lit 20 = .ok (.iload_n 2, 1) := by decide +kernel
theorem dX11_lit_21 : decode cX11_lit 21 = .ok (.iconst 0, 1) := by decide +kernel
theorem dX11_lit_22 : decode cX11_lit 22 = .ok (.invokevirtual 258, 3) := by decide +kernel
theorem dX11_lit_25 : decode cX11_lit 25 = .ok (.ifCond .le 7, 3) := by decide +kernel
theorem dX11_lit_28 : decode cX11_lit 28 = .ok (.iconst 1, 1) := by decide +kernel
theorem dX11_lit_29 : decode cX11_lit 29 = .ok (.goto 4, 3) := by decide +kernel
theorem dX11_lit_32 : decode cX11_lit 32 = .ok (.iconst 0, 1) := by decide +kernel
theorem dX11_lit_33 : decode cX11_lit 33 = .ok (.iadd, 1) := by decide +kernel
theorem dX11_lit_34 : decode cX11_lit 34 = .ok (.istore_n 1, 1) := by decide +kernel
theorem dX11_lit_35 : decode cX11_lit 35 = .ok (.iinc 2 1, 3) := by decide +kernel
theorem dX11_lit_38 : decode cX11_lit 38 = .ok (.goto (-34), 3) := by decide +kernel
theorem dX11_lit_41 : decode cX11_lit 41 = .ok (.iload_n 1, 1) := by decide +kernel
theorem dX11_lit_42 : decode cX11_lit 42 = .ok (.ireturn, 1) := by decide +kernel
theorem dX11_count_0 : decode cX11_count 0 = .ok (.iload_n 1, 1) := by decide +kernel
theorem dX11_count_1 : decode cX11_count 1 = .ok (.tableswitch 48 0 2 #[27, 32, 40], 27) := by decide +kernel
theorem dX11_count_28 : decode cX11_count 28 = .ok (.aload_n 0, 1) := by decide +kernel
theorem dX11_count_29 : decode cX11_count 29 = .ok (.getfield 138, 3) := by decide +kernel
theorem dX11_count_32 : decode cX11_count 32 = .ok (.ireturn, 1) := by decide +kernel
theorem dX11_count_33 : decode cX11_count 33 = .ok (.aload_n 0, 1) := by decide +kernel
theorem dX11_count_34 : decode cX11_count 34 = .ok (.getfield 12, 3) := by decide +kernel
theorem dX11_count_37 : decode cX11_count 37 = .ok (.getfield 103, 3) := by decide +kernel
theorem dX11_count_40 : decode cX11_count 40 = .ok (.ireturn, 1) := by decide +kernel
theorem dX11_count_41 : decode cX11_count 41 = .ok (.aload_n 0, 1) := by decide +kernel
theorem dX11_count_42 : decode cX11_count 42 = .ok (.getfield 74, 3) := by decide +kernel
theorem dX11_count_45 : decode cX11_count 45 = .ok (.getfield 135, 3) := by decide +kernel
theorem dX11_count_48 : decode cX11_count 48 = .ok (.ireturn, 1) := by decide +kernel
theorem dX11_count_49 : decode cX11_count 49 = .ok (.iconst (-1), 1) := by decide +kernel
theorem dX11_count_50 : decode cX11_count 50 = .ok (.ireturn, 1) := by decide +kernel
theorem dX11_told_0 : decode cX11_told 0 = .ok (.aload_n 0, 1) := by decide +kernel
theorem dX11_told_1 : decode cX11_told 1 = .ok (.iload_n 1, 1) := by decide +kernel
theorem dX11_told_2 : decode cX11_told 2 = .ok (.ifCond .lt 13, 3) := by decide +kernel
theorem dX11_told_5 : decode cX11_told 5 = .ok (.iload_n 1, 1) := by decide +kernel
theorem dX11_told_6 : decode cX11_told 6 = .ok (.bipush 11, 2) := by decide +kernel
theorem dX11_told_8 : decode cX11_told 8 = .ok (.if_icmp .gt 7, 3) := by decide +kernel
theorem dX11_told_11 : decode cX11_told 11 = .ok (.iconst 1, 1) := by decide +kernel
theorem dX11_told_12 : decode cX11_told 12 = .ok (.goto 4, 3) := by decide +kernel
theorem dX11_told_15 : decode cX11_told 15 = .ok (.iconst 0, 1) := by decide +kernel
theorem dX11_told_16 : decode cX11_told 16 = .ok (.invokevirtual 186, 3) := by decide +kernel
theorem dX11_told_19 : decode cX11_told 19 = .ok (.iload_n 1, 1) := by decide +kernel
theorem dX11_told_20 : decode cX11_told 20 = .ok (.tableswitch 164 0 10 #[60, 68, 76, 84, 92, 100, 109, 123, 137, 151, 159], 60) := by decide +kernel
theorem dX11_told_80 : decode cX11_told 80 = .ok (.aload_n 0, 1) := by decide +kernel
theorem dX11_told_81 : decode cX11_told 81 = .ok (.getfield 19, 3) := by decide +kernel
theorem dX11_told_84 : decode cX11_told 84 = .ok (.getfield 144, 3) := by decide +kernel
theorem dX11_told_87 : decode cX11_told 87 = .ok (.ireturn, 1) := by decide +kernel
theorem dX11_told_88 : decode cX11_told 88 = .ok (.aload_n 0, 1) := by decide +kernel
theorem dX11_told_89 : decode cX11_told 89 = .ok (.getfield 19, 3) := by decide +kernel
theorem dX11_told_92 : decode cX11_told 92 = .ok (.getfield 190, 3) := by decide +kernel
theorem dX11_told_95 : decode cX11_told 95 = .ok (.ireturn, 1) := by decide +kernel
theorem dX11_told_96 : decode cX11_told 96 = .ok (.aload_n 0, 1) := by decide +kernel
theorem dX11_told_97 : decode cX11_told 97 = .ok (.getfield 19, 3) := by decide +kernel
theorem dX11_told_100 : decode cX11_told 100 = .ok (.getfield 171, 3) := by decide +kernel
theorem dX11_told_103 : decode cX11_told 103 = .ok (.ireturn, 1) := by decide +kernel
theorem dX11_told_104 : decode cX11_told 104 = .ok (.aload_n 0, 1) := by decide +kernel
theorem dX11_told_105 : decode cX11_told 105 = .ok (.getfield 67, 3) := by decide +kernel
theorem dX11_told_108 : decode cX11_told 108 = .ok (.getfield 193, 3) := by decide +kernel
theorem dX11_told_111 : decode cX11_told 111 = .ok (.ireturn, 1) := by decide +kernel
theorem dX11_told_112 : decode cX11_told 112 = .ok (.aload_n 0, 1) := by decide +kernel
theorem dX11_told_113 : decode cX11_told 113 = .ok (.getfield 67, 3) := by decide +kernel
theorem dX11_told_116 : decode cX11_told 116 = .ok (.invokevirtual 196, 3) := by decide +kernel
theorem dX11_told_119 : decode cX11_told 119 = .ok (.ireturn, 1) := by decide +kernel
theorem dX11_told_120 : decode cX11_told 120 = .ok (.aload_n 0, 1) := by decide +kernel
theorem dX11_told_121 : decode cX11_told 121 = .ok (.getfield 67, 3) := by decide +kernel
theorem dX11_told_124 : decode cX11_told 124 = .ok (.iconst 0, 1) := by decide +kernel
theorem dX11_told_125 : decode cX11_told 125 = .ok (.invokevirtual 200, 3) := by decide +kernel
theorem dX11_told_128 : decode cX11_told 128 = .ok (.ireturn, 1) := by decide +kernel
theorem dX11_told_129 : decode cX11_told 129 = .ok (.aload_n 0, 1) := by decide +kernel
theorem dX11_told_130 : decode cX11_told 130 = .ok (.getfield 67, 3) := by decide +kernel
theorem dX11_told_133 : decode cX11_told 133 = .ok (.getfield 204, 3) := by decide +kernel
theorem dX11_told_136 : decode cX11_told 136 = .ok (.iconst 0, 1) := by decide +kernel
theorem dX11_told_137 : decode cX11_told 137 = .ok (.bipush 42, 2) := by decide +kernel
theorem dX11_told_139 : decode cX11_told 139 = .ok (.invokestatic 208, 3) := by decide +kernel
theorem dX11_told_142 : decode cX11_told 142 = .ok (.ireturn, 1) := by decide +kernel
theorem dX11_told_143 : decode cX11_told 143 = .ok (.aload_n 0, 1) := by decide +kernel
theorem dX11_told_144 : decode cX11_told 144 = .ok (.getfield 67, 3) := by decide +kernel
theorem dX11_told_147 : decode cX11_told 147 = .ok (.getfield 212, 3) := by decide +kernel
theorem dX11_told_150 : decode cX11_told 150 = .ok (.iconst 0, 1) := by decide +kernel
theorem dX11_told_151 : decode cX11_told 151 = .ok (.bipush 42, 2) := by decide +kernel
theorem dX11_told_153 : decode cX11_told 153 = .ok (.invokestatic 208, 3) := by decide +kernel
theorem dX11_told_156 : decode cX11_told 156 = .ok (.ireturn, 1) := by decide +kernel
theorem dX11_told_157 : decode cX11_told 157 = .ok (.aload_n 0, 1) := by decide +kernel
theorem dX11_told_158 : decode cX11_told 158 = .ok (.getfield 67, 3) := by decide +kernel
theorem dX11_told_161 : decode cX11_told 161 = .ok (.getfield 215, 3) := by decide +kernel
theorem dX11_told_164 : decode cX11_told 164 = .ok (.iconst 0, 1) := by decide +kernel
theorem dX11_told_165 : decode cX11_told 165 = .ok (.bipush 42, 2) := by decide +kernel
theorem dX11_told_167 : decode cX11_told 167 = .ok (.invokestatic 208, 3) := by decide +kernel
theorem dX11_told_170 : decode cX11_told 170 = .ok (.ireturn, 1) := by decide +kernel
theorem dX11_told_171 : decode cX11_told 171 = .ok (.aload_n 0, 1) := by decide +kernel
theorem dX11_told_172 : decode cX11_told 172 = .ok (.getfield 39, 3) := by decide +kernel
theorem dX11_told_175 : decode cX11_told 175 = .ok (.getfield 129, 3) := by decide +kernel
theorem dX11_told_178 : decode cX11_told 178 = .ok (.ireturn, 1) := by decide +kernel
theorem dX11_told_179 : decode cX11_told 179 = .ok (.aload_n 0, 1) := by decide +kernel
theorem dX11_told_180 : decode cX11_told 180 = .ok (.getfield 141, 3) := by decide +kernel
theorem dX11_told_183 : decode cX11_told 183 = .ok (.ireturn, 1) := by decide +kernel
theorem dX11_told_184 : decode cX11_told 184 = .ok (.aload_n 0, 1) := by decide +kernel
theorem dX11_told_185 : decode cX11_told 185 = .ok (.getfield 67, 3) := by decide +kernel
theorem dX11_told_188 : decode cX11_told 188 = .ok (.getfield 218, 3) := by decide +kernel
theorem dX11_told_191 : decode cX11_told 191 = .ok (.iconst 0, 1) := by decide +kernel
theorem dX11_told_192 : decode cX11_told 192 = .ok (.bipush 6, 2) := by decide +kernel
theorem dX11_told_194 : decode cX11_told 194 = .ok (.invokestatic 208, 3) := by decide +kernel
theorem dX11_told_197 : decode cX11_told 197 = .ok (.ireturn, 1) := by decide +kernel
theorem dX11_ahead_0 : decode cX11_ahead 0 = .ok (.aload_n 0, 1) := by decide +kernel
theorem dX11_ahead_1 : decode cX11_ahead 1 = .ok (.iload_n 1, 1) := by decide +kernel
theorem dX11_ahead_2 : decode cX11_ahead 2 = .ok (.ifCond .lt 22, 3) := by decide +kernel
theorem dX11_ahead_5 : decode cX11_ahead 5 = .ok (.iload_n 1, 1) := by decide +kernel
theorem dX11_ahead_6 : decode cX11_ahead 6 = .ok (.bipush 99, 2) := by decide +kernel
theorem dX11_ahead_8 : decode cX11_ahead 8 = .ok (.if_icmp .gt 16, 3) := by decide +kernel
theorem dX11_ahead_11 : decode cX11_ahead 11 = .ok (.iload_n 2, 1) := by decide +kernel
theorem dX11_ahead_12 : decode cX11_ahead 12 = .ok (.ifCond .eq 8, 3) := by decide +kernel
theorem dX11_ahead_15 : decode cX11_ahead 15 = .ok (.iload_n 2, 1) := by decide +kernel
theorem dX11_ahead_16 : decode cX11_ahead 16 = .ok (.iconst 1, 1) := by decide +kernel
theorem dX11_ahead_17 : decode cX11_ahead 17 = .ok (.if_icmp .ne 7, 3) := by decide +kernel
theorem dX11_ahead_20 : decode cX11_ahead 20 = .ok (.iconst 1, 1) := by decide +kernel
theorem dX11_ahead_21 : decode cX11_ahead 21 = .ok (.goto 4, 3) := by decide +kernel
theorem dX11_ahead_24 : decode cX11_ahead 24 = .ok (.iconst 0, 1) := by decide +kernel
theorem dX11_ahead_25 : decode cX11_ahead 25 = .ok (.invokevirtual 186, 3) := by decide +kernel
theorem dX11_ahead_28 : decode cX11_ahead 28 = .ok (.iload_n 2, 1) := by decide +kernel
theorem dX11_ahead_29 : decode cX11_ahead 29 = .ok (.ifCond .ne 14, 3) := by decide +kernel
theorem dX11_ahead_32 : decode cX11_ahead 32 = .ok (.aload_n 0, 1) := by decide +kernel
theorem dX11_ahead_33 : decode cX11_ahead 33 = .ok (.getfield 67, 3) := by decide +kernel
theorem dX11_ahead_36 : decode cX11_ahead 36 = .ok (.iload_n 1, 1) := by decide +kernel
theorem dX11_ahead_37 : decode cX11_ahead 37 = .ok (.invokevirtual 276, 3) := by decide +kernel
theorem dX11_ahead_40 : decode cX11_ahead 40 = .ok (.goto 11, 3) := by decide +kernel
theorem dX11_ahead_43 : decode cX11_ahead 43 = .ok (.aload_n 0, 1) := by decide +kernel
theorem dX11_ahead_44 : decode cX11_ahead 44 = .ok (.getfield 67, 3) := by decide +kernel
theorem dX11_ahead_47 : decode cX11_ahead 47 = .ok (.iload_n 1, 1) := by decide +kernel
theorem dX11_ahead_48 : decode cX11_ahead 48 = .ok (.invokevirtual 200, 3) := by decide +kernel
theorem dX11_ahead_51 : decode cX11_ahead 51 = .ok (.ireturn, 1) := by decide +kernel
theorem dX11_law_0 : decode cX11_law 0 = .ok (.aload_n 0, 1) := by decide +kernel
theorem dX11_law_1 : decode cX11_law 1 = .ok (.iload_n 1, 1) := by decide +kernel
theorem dX11_law_2 : decode cX11_law 2 = .ok (.sipush 150, 3) := by decide +kernel
theorem dX11_law_5 : decode cX11_law 5 = .ok (.invokevirtual 111, 3) := by decide +kernel
theorem dX11_law_8 : decode cX11_law 8 = .ok (.aload_n 0, 1) := by decide +kernel
theorem dX11_law_9 : decode cX11_law 9 = .ok (.getfield 33, 3) := by decide +kernel
theorem dX11_law_12 : decode cX11_law 12 = .ok (.aload_n 0, 1) := by decide +kernel
theorem dX11_law_13 : decode cX11_law 13 = .ok (.getfield 12, 3) := by decide +kernel
theorem dX11_law_16 : decode cX11_law 16 = .ok (.invokevirtual 147, 3) := by decide +kernel
theorem dX11_law_19 : decode cX11_law 19 = .ok (.ifCond .ne 14, 3) := by decide +kernel
theorem dX11_law_22 : decode cX11_law 22 = .ok (.aload_n 0, 1) := by decide +kernel
theorem dX11_law_23 : decode cX11_law 23 = .ok (.getfield 12, 3) := by decide +kernel
theorem dX11_law_26 : decode cX11_law 26 = .ok (.getfield 119, 3) := by decide +kernel
theorem dX11_law_29 : decode cX11_law 29 = .ok (.bipush 10, 2) := by decide +kernel
theorem dX11_law_31 : decode cX11_law 31 = .ok (.isub, 1) := by decide +kernel
theorem dX11_law_32 : decode cX11_law 32 = .ok (.ireturn, 1) := by decide +kernel
theorem dX11_law_33 : decode cX11_law 33 = .ok (.aload_n 0, 1) := by decide +kernel
theorem dX11_law_34 : decode cX11_law 34 = .ok (.getfield 29, 3) := by decide +kernel
theorem dX11_law_37 : decode cX11_law 37 = .ok (.aload_n 0, 1) := by decide +kernel
theorem dX11_law_38 : decode cX11_law 38 = .ok (.getfield 33, 3) := by decide +kernel
theorem dX11_law_41 : decode cX11_law 41 = .ok (.invokevirtual 148, 3) := by decide +kernel
theorem dX11_law_44 : decode cX11_law 44 = .ok (.iconst 1, 1) := by decide +kernel
theorem dX11_law_45 : decode cX11_law 45 = .ok (.ireturn, 1) := by decide +kernel
theorem dX11_light_0 : decode cX11_light 0 = .ok (.aload_n 0, 1) := by decide +kernel
theorem dX11_light_1 : decode cX11_light 1 = .ok (.iload_n 1, 1) := by decide +kernel
theorem dX11_light_2 : decode cX11_light 2 = .ok (.invokevirtual 221, 3) := by decide +kernel
theorem dX11_light_5 : decode cX11_light 5 = .ok (.aload_n 0, 1) := by decide +kernel
theorem dX11_light_6 : decode cX11_light 6 = .ok (.aload_n 0, 1) := by decide +kernel
theorem dX11_light_7 : decode cX11_light 7 = .ok (.iload_n 2, 1) := by decide +kernel
theorem dX11_light_8 : decode cX11_light 8 = .ok (.invokevirtual 279, 3) := by decide +kernel
theorem dX11_light_11 : decode cX11_light 11 = .ok (.ifCond .eq 18, 3) := by decide +kernel
theorem dX11_light_14 : decode cX11_light 14 = .ok (.iload_n 3, 1) := by decide +kernel
theorem dX11_light_15 : decode cX11_light 15 = .ok (.ifCond .lt 14, 3) := by decide +kernel
theorem dX11_light_18 : decode cX11_light 18 = .ok (.iload_n 3, 1) := by decide +kernel
theorem dX11_light_19 : decode cX11_light 19 = .ok (.sipush 2800, 3) := by decide +kernel
theorem dX11_light_22 : decode cX11_light 22 = .ok (.if_icmp .gt 7, 3) := by decide +kernel
theorem dX11_light_25 : decode cX11_light 25 = .ok (.iconst 1, 1) := by decide +kernel
theorem dX11_light_26 : decode cX11_light 26 = .ok (.goto 4, 3) := by decide +kernel
theorem dX11_light_29 : decode cX11_light 29 = .ok (.iconst 0, 1) := by decide +kernel
theorem dX11_light_30 : decode cX11_light 30 = .ok (.invokevirtual 186, 3) := by decide +kernel
theorem dX11_light_33 : decode cX11_light 33 = .ok (.iload_n 2, 1) := by decide +kernel
theorem dX11_light_34 : decode cX11_light 34 = .ok (.iload_n 1, 1) := by decide +kernel
theorem dX11_light_35 : decode cX11_light 35 = .ok (.ishr, 1) := by decide +kernel
theorem dX11_light_36 : decode cX11_light 36 = .ok (.iconst 1, 1) := by decide +kernel
theorem dX11_light_37 : decode cX11_light 37 = .ok (.iand, 1) := by decide +kernel
theorem dX11_light_38 : decode cX11_light 38 = .ok (.ifCond .ne 5, 3) := by decide +kernel
theorem dX11_light_41 : decode cX11_light 41 = .ok (.iconst 0, 1) := by decide +kernel
theorem dX11_light_42 : decode cX11_light 42 = .ok (.ireturn, 1) := by decide +kernel
theorem dX11_light_43 : decode cX11_light 43 = .ok (.iconst 0, 1) := by decide +kernel
theorem dX11_light_44 : decode cX11_light 44 = .ok (.istore 4, 2) := by decide +kernel
theorem dX11_light_46 : decode cX11_light 46 = .ok (.sipush 2048, 3) := by decide +kernel
theorem dX11_light_49 : decode cX11_light 49 = .ok (.istore 5, 2) := by decide +kernel
theorem dX11_light_51 : decode cX11_light 51 = .ok (.iload 5, 2) := by decide +kernel
theorem dX11_light_53 : decode cX11_light 53 = .ok (.ifCond .le 36, 3) := by decide +kernel
theorem dX11_light_56 : decode cX11_light 56 = .ok (.aload_n 0, 1) := by decide +kernel
theorem dX11_light_57 : decode cX11_light 57 = .ok (.getfield 67, 3) := by decide +kernel
theorem dX11_light_60 : decode cX11_light 60 = .ok (.iload_n 2, 1) := by decide +kernel
theorem dX11_light_61 : decode cX11_light 61 = .ok (.iload 4, 2) := by decide +kernel
theorem dX11_light_63 : decode cX11_light 63 = .ok (.iload 5, 2) := by decide +kernel
theorem dX11_light_65 : decode cX11_light 65 = .ok (.iadd, 1) := by decide +kernel
theorem dX11_light_66 : decode cX11_light 66 = .ok (.invokevirtual 345, 3) := by decide +kernel
theorem dX11_light_69 : decode cX11_light 69 = .ok (.iload_n 3, 1) := by decide +kernel
theorem dX11_light_70 : decode cX11_light 70 = .ok (.if_icmp .gt 10, 3) := by decide +kernel
theorem dX11_light_73 : decode cX11_light 73 = .ok (.iload 4, 2) := by decide +kernel
theorem dX11_light_75 : decode cX11_light 75 = .ok (.iload 5, 2) := by decide +kernel
theorem dX11_light_77 : decode cX11_light 77 = .ok (.iadd, 1) := by decide +kernel
theorem dX11_light_78 : decode cX11_light 78 = .ok (.istore 4, 2) := by decide +kernel
theorem dX11_light_80 : decode cX11_light 80 = .ok (.iload 5, 2) := by decide +kernel
theorem dX11_light_82 : decode cX11_light 82 = .ok (.iconst 1, 1) := by decide +kernel
theorem dX11_light_83 : decode cX11_light 83 = .ok (.ishr, 1) := by decide +kernel
theorem dX11_light_84 : decode cX11_light 84 = .ok (.istore 5, 2) := by decide +kernel
theorem dX11_light_86 : decode cX11_light 86 = .ok (.goto (-35), 3) := by decide +kernel
theorem dX11_light_89 : decode cX11_light 89 = .ok (.aload_n 0, 1) := by decide +kernel
theorem dX11_light_90 : decode cX11_light 90 = .ok (.getfield 67, 3) := by decide +kernel
theorem dX11_light_93 : decode cX11_light 93 = .ok (.iload_n 1, 1) := by decide +kernel
theorem dX11_light_94 : decode cX11_light 94 = .ok (.invokevirtual 224, 3) := by decide +kernel
theorem dX11_light_97 : decode cX11_light 97 = .ok (.iload 4, 2) := by decide +kernel
theorem dX11_light_99 : decode cX11_light 99 = .ok (.invokestatic 348, 3) := by decide +kernel
theorem dX11_light_102 : decode cX11_light 102 = .ok (.ireturn, 1) := by decide +kernel
theorem dX11_mates_0 : decode cX11_mates 0 = .ok (.aload_n 0, 1) := by decide +kernel
theorem dX11_mates_1 : decode cX11_mates 1 = .ok (.iload_n 1, 1) := by decide +kernel
theorem dX11_mates_2 : decode cX11_mates 2 = .ok (.invokevirtual 221, 3) := by decide +kernel
theorem dX11_mates_5 : decode cX11_mates 5 = .ok (.iconst 0, 1) := by decide +kernel
theorem dX11_mates_6 : decode cX11_mates 6 = .ok (.istore_n 2, 1) := by decide +kernel
theorem dX11_mates_7 : decode cX11_mates 7 = .ok (.iconst 0, 1) := by decide +kernel
theorem dX11_mates_8 : decode cX11_mates 8 = .ok (.istore_n 3, 1) := by decide +kernel
theorem dX11_mates_9 : decode cX11_mates 9 = .ok (.iload_n 3, 1) := by decide +kernel
theorem dX11_mates_10 : decode cX11_mates 10 = .ok (.aload_n 0, 1) := by decide +kernel
theorem dX11_mates_11 : decode cX11_mates 11 = .ok (.getfield 19, 3) := by decide +kernel
theorem dX11_mates_14 : decode cX11_mates 14 = .ok (.getfield 144, 3) := by decide +kernel
theorem dX11_mates_17 : decode cX11_mates 17 = .ok (.if_icmp .ge 37, 3) := by decide +kernel
theorem dX11_mates_20 : decode cX11_mates 20 = .ok (.iload_n 3, 1) := by decide +kernel
theorem dX11_mates_21 : decode cX11_mates 21 = .ok (.iload_n 1, 1) := by decide +kernel
theorem dX11_mates_22 : decode cX11_mates 22 = .ok (.if_icmp .eq 26, 3) := by decide +kernel
theorem dX11_mates_25 : decode cX11_mates 25 = .ok (.aload_n 0, 1) := by decide +kernel
theorem dX11_mates_26 : decode cX11_mates 26 = .ok (.getfield 67, 3) := by decide +kernel
theorem dX11_mates_29 : decode cX11_mates 29 = .ok (.iconst 1, 1) := by decide +kernel
theorem dX11_mates_30 : decode cX11_mates 30 = .ok (.iload_n 1, 1) := by decide +kernel
theorem dX11_mates_31 : decode cX11_mates 31 = .ok (.ishl, 1) := by decide +kernel
theorem dX11_mates_32 : decode cX11_mates 32 = .ok (.iconst 1, 1) := by decide +kernel
theorem dX11_mates_33 : decode cX11_mates 33 = .ok (.iload_n 3, 1) := by decide +kernel
theorem dX11_mates_34 : decode cX11_mates 34 = .ok (.ishl, 1) := by decide +kernel
theorem dX11_mates_35 : decode cX11_mates 35 = .ok (.ior, 1) := by decide +kernel
theorem dX11_mates_36 : decode cX11_mates 36 = .ok (.invokevirtual 230, 3) := by decide +kernel
theorem dX11_mates_39 : decode cX11_mates 39 = .ok (.ifCond .eq 9, 3) := by decide +kernel
theorem dX11_mates_42 : decode cX11_mates 42 = .ok (.iload_n 2, 1) := by decide +kernel
theorem dX11_mates_43 : decode cX11_mates 43 = .ok (.iconst 1, 1) := by decide +kernel
theorem dX11_mates_44 : decode cX11_mates 44 = .ok (.iload_n 3, 1) := by decide +kernel
theorem dX11_mates_45 : decode cX11_mates 45 = .ok (.ishl, 1) := by decide +kernel
theorem dX11_mates_46 : decode cX11_mates 46 = .ok (.ior, 1) := by decide +kernel
theorem dX11_mates_47 : decode cX11_mates 47 = .ok (.istore_n 2, 1) := by decide +kernel
theorem dX11_mates_48 : decode cX11_mates 48 = .ok (.iinc 3 1, 3) := by decide +kernel
theorem dX11_mates_51 : decode cX11_mates 51 = .ok (.goto (-42), 3) := by decide +kernel
theorem dX11_mates_54 : decode cX11_mates 54 = .ok (.iload_n 2, 1) := by decide +kernel
theorem dX11_mates_55 : decode cX11_mates 55 = .ok (.ireturn, 1) := by decide +kernel
theorem dX11_startText_0 : decode cX11_startText 0 = .ok (.aload_n 0, 1) := by decide +kernel
theorem dX11_startText_1 : decode cX11_startText 1 = .ok (.iload_n 1, 1) := by decide +kernel
theorem dX11_startText_2 : decode cX11_startText 2 = .ok (.ifCond .lt 23, 3) := by decide +kernel
theorem dX11_startText_5 : decode cX11_startText 5 = .ok (.iload_n 1, 1) := by decide +kernel
theorem dX11_startText_6 : decode cX11_startText 6 = .ok (.aload_n 0, 1) := by decide +kernel
theorem dX11_startText_7 : decode cX11_startText 7 = .ok (.getfield 12, 3) := by decide +kernel
theorem dX11_startText_10 : decode cX11_startText 10 = .ok (.getfield 103, 3) := by decide +kernel
theorem dX11_startText_13 : decode cX11_startText 13 = .ok (.if_icmp .gt 12, 3) := by decide +kernel
theorem dX11_startText_16 : decode cX11_startText 16 = .ok (.iload_n 1, 1) := by decide +kernel
theorem dX11_startText_17 : decode cX11_startText 17 = .ok (.iload_n 2, 1) := by decide +kernel
theorem dX11_startText_18 : decode cX11_startText 18 = .ok (.if_icmp .gt 7, 3) := by decide +kernel
theorem dX11_startText_21 : decode cX11_startText 21 = .ok (.iconst 1, 1) := by decide +kernel
theorem dX11_startText_22 : decode cX11_startText 22 = .ok (.goto 4, 3) := by decide +kernel
theorem dX11_startText_25 : decode cX11_startText 25 = .ok (.iconst 0, 1) := by decide +kernel
theorem dX11_startText_26 : decode cX11_startText 26 = .ok (.invokevirtual 186, 3) := by decide +kernel
theorem dX11_startText_29 : decode cX11_startText 29 = .ok (.aload_n 0, 1) := by decide +kernel
theorem dX11_startText_30 : decode cX11_startText 30 = .ok (.getfield 12, 3) := by decide +kernel
theorem dX11_startText_33 : decode cX11_startText 33 = .ok (.iload_n 1, 1) := by decide +kernel
theorem dX11_startText_34 : decode cX11_startText 34 = .ok (.invokevirtual 405, 3) := by decide +kernel
theorem dX11_startText_37 : decode cX11_startText 37 = .ok (.return_, 1) := by decide +kernel
theorem dX11_work_0 : decode cX11_work 0 = .ok (.aload_n 0, 1) := by decide +kernel
theorem dX11_work_1 : decode cX11_work 1 = .ok (.iload_n 1, 1) := by decide +kernel
theorem dX11_work_2 : decode cX11_work 2 = .ok (.sipush 150, 3) := by decide +kernel
theorem dX11_work_5 : decode cX11_work 5 = .ok (.invokevirtual 111, 3) := by decide +kernel
theorem dX11_work_8 : decode cX11_work 8 = .ok (.aload_n 0, 1) := by decide +kernel
theorem dX11_work_9 : decode cX11_work 9 = .ok (.getfield 74, 3) := by decide +kernel
theorem dX11_work_12 : decode cX11_work 12 = .ok (.getfield 135, 3) := by decide +kernel
theorem dX11_work_15 : decode cX11_work 15 = .ok (.bipush 16, 2) := by decide +kernel
theorem dX11_work_17 : decode cX11_work 17 = .ok (.if_icmp .lt 6, 3) := by decide +kernel
theorem dX11_work_20 : decode cX11_work 20 = .ok (.bipush (-20), 2) := by decide +kernel
theorem dX11_work_22 : decode cX11_work 22 = .ok (.ireturn, 1) := by decide +kernel
theorem dX11_work_23 : decode cX11_work 23 = .ok (.aload_n 0, 1) := by decide +kernel
theorem dX11_work_24 : decode cX11_work 24 = .ok (.getfield 60, 3) := by decide +kernel
theorem dX11_work_27 : decode cX11_work 27 = .ok (.invokevirtual 151, 3) := by decide +kernel
theorem dX11_work_30 : decode cX11_work 30 = .ok (.ifCond .ne 14, 3) := by decide +kernel
theorem dX11_work_33 : decode cX11_work 33 = .ok (.aload_n 0, 1) := by decide +kernel
theorem dX11_work_34 : decode cX11_work 34 = .ok (.getfield 12, 3) := by decide +kernel
theorem dX11_work_37 : decode cX11_work 37 = .ok (.getfield 119, 3) := by decide +kernel
theorem dX11_work_40 : decode cX11_work 40 = .ok (.bipush 10, 2) := by decide +kernel
theorem dX11_work_42 : decode cX11_work 42 = .ok (.isub, 1) := by decide +kernel
theorem dX11_work_43 : decode cX11_work 43 = .ok (.ireturn, 1) := by decide +kernel
theorem dX11_work_44 : decode cX11_work 44 = .ok (.aload_n 0, 1) := by decide +kernel
theorem dX11_work_45 : decode cX11_work 45 = .ok (.getfield 74, 3) := by decide +kernel
theorem dX11_work_48 : decode cX11_work 48 = .ok (.aload_n 0, 1) := by decide +kernel
theorem dX11_work_49 : decode cX11_work 49 = .ok (.getfield 67, 3) := by decide +kernel
theorem dX11_work_52 : decode cX11_work 52 = .ok (.invokevirtual 154, 3) := by decide +kernel
theorem dX11_work_55 : decode cX11_work 55 = .ok (.aload_n 0, 1) := by decide +kernel
theorem dX11_work_56 : decode cX11_work 56 = .ok (.getfield 60, 3) := by decide +kernel
theorem dX11_work_59 : decode cX11_work 59 = .ok (.aload_n 0, 1) := by decide +kernel
theorem dX11_work_60 : decode cX11_work 60 = .ok (.getfield 67, 3) := by decide +kernel
theorem dX11_work_63 : decode cX11_work 63 = .ok (.iconst 0, 1) := by decide +kernel
theorem dX11_work_64 : decode cX11_work 64 = .ok (.aload_n 0, 1) := by decide +kernel
theorem dX11_work_65 : decode cX11_work 65 = .ok (.getfield 60, 3) := by decide +kernel
theorem dX11_work_68 : decode cX11_work 68 = .ok (.getfield 158, 3) := by decide +kernel
theorem dX11_work_71 : decode cX11_work 71 = .ok (.iconst 0, 1) := by decide +kernel
theorem dX11_work_72 : decode cX11_work 72 = .ok (.invokevirtual 161, 3) := by decide +kernel
theorem dX11_work_75 : decode cX11_work 75 = .ok (.aload_n 0, 1) := by decide +kernel
theorem dX11_work_76 : decode cX11_work 76 = .ok (.aload_n 0, 1) := by decide +kernel
theorem dX11_work_77 : decode cX11_work 77 = .ok (.getfield 60, 3) := by decide +kernel
theorem dX11_work_80 : decode cX11_work 80 = .ok (.getfield 165, 3) := by decide +kernel
theorem dX11_work_83 : decode cX11_work 83 = .ok (.putfield 141, 3) := by decide +kernel
theorem dX11_work_86 : decode cX11_work 86 = .ok (.aload_n 0, 1) := by decide +kernel
theorem dX11_work_87 : decode cX11_work 87 = .ok (.getfield 60, 3) := by decide +kernel
theorem dX11_work_90 : decode cX11_work 90 = .ok (.getfield 168, 3) := by decide +kernel
theorem dX11_work_93 : decode cX11_work 93 = .ok (.ireturn, 1) := by decide +kernel
theorem dX11_broadest_0 : decode cX11_broadest 0 = .ok (.aload_n 0, 1) := by decide +kernel
theorem dX11_broadest_1 : decode cX11_broadest 1 = .ok (.iload_n 1, 1) := by decide +kernel
theorem dX11_broadest_2 : decode cX11_broadest 2 = .ok (.ifCond .eq 8, 3) := by decide +kernel
theorem dX11_broadest_5 : decode cX11_broadest 5 = .ok (.iload_n 1, 1) := by decide +kernel
theorem dX11_broadest_6 : decode cX11_broadest 6 = .ok (.iconst 1, 1) := by decide +kernel
theorem dX11_broadest_7 : decode cX11_broadest 7 = .ok (.if_icmp .ne 7, 3) := by decide +kernel
theorem dX11_broadest_10 : decode cX11_broadest 10 = .ok (.iconst 1, 1) := by decide +kernel
theorem dX11_broadest_11 : decode cX11_broadest 11 = .ok (.goto 4, 3) := by decide +kernel
theorem dX11_broadest_14 : decode cX11_broadest 14 = .ok (.iconst 0, 1) := by decide +kernel
theorem dX11_broadest_15 : decode cX11_broadest 15 = .ok (.invokevirtual 186, 3) := by decide +kernel
theorem dX11_broadest_18 : decode cX11_broadest 18 = .ok (.iconst (-1), 1) := by decide +kernel
theorem dX11_broadest_19 : decode cX11_broadest 19 = .ok (.istore_n 2, 1) := by decide +kernel
theorem dX11_broadest_20 : decode cX11_broadest 20 = .ok (.iconst (-1), 1) := by decide +kernel
theorem dX11_broadest_21 : decode cX11_broadest 21 = .ok (.istore_n 3, 1) := by decide +kernel
theorem dX11_broadest_22 : decode cX11_broadest 22 = .ok (.iconst 0, 1) := by decide +kernel
theorem dX11_broadest_23 : decode cX11_broadest 23 = .ok (.istore 4, 2) := by decide +kernel
theorem dX11_broadest_25 : decode cX11_broadest 25 = .ok (.iload 4, 2) := by decide +kernel
theorem dX11_broadest_27 : decode cX11_broadest 27 = .ok (.aload_n 0, 1) := by decide +kernel
theorem dX11_broadest_28 : decode cX11_broadest 28 = .ok (.getfield 19, 3) := by decide +kernel
theorem dX11_broadest_31 : decode cX11_broadest 31 = .ok (.getfield 144, 3) := by decide +kernel
theorem dX11_broadest_34 : decode cX11_broadest 34 = .ok (.if_icmp .ge 32, 3) := by decide +kernel
theorem dX11_broadest_37 : decode cX11_broadest 37 = .ok (.aload_n 0, 1) := by decide +kernel
theorem dX11_broadest_38 : decode cX11_broadest 38 = .ok (.getfield 67, 3) := by decide +kernel
theorem dX11_broadest_41 : decode cX11_broadest 41 = .ok (.iload 4, 2) := by decide +kernel
theorem dX11_broadest_43 : decode cX11_broadest 43 = .ok (.invokevirtual 224, 3) := by decide +kernel
theorem dX11_broadest_46 : decode cX11_broadest 46 = .ok (.istore 5, 2) := by decide +kernel
theorem dX11_broadest_48 : decode cX11_broadest 48 = .ok (.iload 5, 2) := by decide +kernel
theorem dX11_broadest_50 : decode cX11_broadest 50 = .ok (.iload_n 3, 1) := by decide +kernel
theorem dX11_broadest_51 : decode cX11_broadest 51 = .ok (.if_icmp .le 9, 3) := by decide +kernel
theorem dX11_broadest_54 : decode cX11_broadest 54 = .ok (.iload 4, 2) := by decide +kernel
theorem dX11_broadest_56 : decode cX11_broadest 56 = .ok (.istore_n 2, 1) := by decide +kernel
theorem dX11_broadest_57 : decode cX11_broadest 57 = .ok (.iload 5, 2) := by decide +kernel
theorem dX11_broadest_59 : decode cX11_broadest 59 = .ok (.istore_n 3, 1) := by decide +kernel
theorem dX11_broadest_60 : decode cX11_broadest 60 = .ok (.iinc 4 1, 3) := by decide +kernel
theorem dX11_broadest_63 : decode cX11_broadest 63 = .ok (.goto (-38), 3) := by decide +kernel
theorem dX11_broadest_66 : decode cX11_broadest 66 = .ok (.iload_n 1, 1) := by decide +kernel
theorem dX11_broadest_67 : decode cX11_broadest 67 = .ok (.ifCond .ne 7, 3) := by decide +kernel
theorem dX11_broadest_70 : decode cX11_broadest 70 = .ok (.iload_n 2, 1) := by decide +kernel
theorem dX11_broadest_71 : decode cX11_broadest 71 = .ok (.goto 4, 3) := by decide +kernel
theorem dX11_broadest_74 : decode cX11_broadest 74 = .ok (.iload_n 3, 1) := by decide +kernel
theorem dX11_broadest_75 : decode cX11_broadest 75 = .ok (.ireturn, 1) := by decide +kernel
theorem dX11_part_0 : decode cX11_part 0 = .ok (.aload_n 0, 1) := by decide +kernel
theorem dX11_part_1 : decode cX11_part 1 = .ok (.iload_n 1, 1) := by decide +kernel
theorem dX11_part_2 : decode cX11_part 2 = .ok (.invokevirtual 221, 3) := by decide +kernel
theorem dX11_part_5 : decode cX11_part 5 = .ok (.aload_n 0, 1) := by decide +kernel
theorem dX11_part_6 : decode cX11_part 6 = .ok (.iload_n 2, 1) := by decide +kernel
theorem dX11_part_7 : decode cX11_part 7 = .ok (.invokestatic 240, 3) := by decide +kernel
theorem dX11_part_10 : decode cX11_part 10 = .ok (.ifCond .eq 16, 3) := by decide +kernel
theorem dX11_part_13 : decode cX11_part 13 = .ok (.iload_n 3, 1) := by decide +kernel
theorem dX11_part_14 : decode cX11_part 14 = .ok (.ifCond .lt 12, 3) := by decide +kernel
theorem dX11_part_17 : decode cX11_part 17 = .ok (.iload_n 3, 1) := by decide +kernel
theorem dX11_part_18 : decode cX11_part 18 = .ok (.iconst 3, 1) := by decide +kernel
theorem dX11_part_19 : decode cX11_part 19 = .ok (.if_icmp .gt 7, 3) := by decide +kernel
theorem dX11_part_22 : decode cX11_part 22 = .ok (.iconst 1, 1) := by decide +kernel
theorem dX11_part_23 : decode cX11_part 23 = .ok (.goto 4, 3) := by decide +kernel
theorem dX11_part_26 : decode cX11_part 26 = .ok (.iconst 0, 1) := by decide +kernel
theorem dX11_part_27 : decode cX11_part 27 = .ok (.invokevirtual 186, 3) := by decide +kernel
theorem dX11_part_30 : decode cX11_part 30 = .ok (.iload_n 1, 1) := by decide +kernel
theorem dX11_part_31 : decode cX11_part 31 = .ok (.bipush 7, 2) := by decide +kernel
theorem dX11_part_33 : decode cX11_part 33 = .ok (.imul, 1) := by decide +kernel
theorem dX11_part_34 : decode cX11_part 34 = .ok (.iload_n 2, 1) := by decide +kernel
theorem dX11_part_35 : decode cX11_part 35 = .ok (.iadd, 1) := by decide +kernel
theorem dX11_part_36 : decode cX11_part 36 = .ok (.istore 4, 2) := by decide +kernel
theorem dX11_part_38 : decode cX11_part 38 = .ok (.iload_n 3, 1) := by decide +kernel
theorem dX11_part_39 : decode cX11_part 39 = .ok (.tableswitch 75 0 2 #[25, 36, 47], 25) := by decide +kernel
theorem dX11_part_64 : decode cX11_part 64 = .ok (.aload_n 0, 1) := by decide +kernel
theorem dX11_part_65 : decode cX11_part 65 = .ok (.getfield 67, 3) := by decide +kernel
theorem dX11_part_68 : decode cX11_part 68 = .ok (.getfield 204, 3) := by decide +kernel
theorem dX11_part_71 : decode cX11_part 71 = .ok (.iload 4, 2) := by decide +kernel
theorem dX11_part_73 : decode cX11_part 73 = .ok (.iaload, 1) := by decide +kernel
theorem dX11_part_74 : decode cX11_part 74 = .ok (.ireturn, 1) := by decide +kernel
theorem dX11_part_75 : decode cX11_part 75 = .ok (.aload_n 0, 1) := by decide +kernel
theorem dX11_part_76 : decode cX11_part 76 = .ok (.getfield 67, 3) := by decide +kernel
theorem dX11_part_79 : decode cX11_part 79 = .ok (.getfield 212, 3) := by decide +kernel
theorem dX11_part_82 : decode cX11_part 82 = .ok (.iload 4, 2) := by decide +kernel
theorem dX11_part_84 : decode cX11_part 84 = .ok (.iaload, 1) := by decide +kernel
theorem dX11_part_85 : decode cX11_part 85 = .ok (.ireturn, 1) := by decide +kernel
theorem dX11_part_86 : decode cX11_part 86 = .ok (.aload_n 0, 1) := by decide +kernel
theorem dX11_part_87 : decode cX11_part 87 = .ok (.getfield 67, 3) := by decide +kernel
theorem dX11_part_90 : decode cX11_part 90 = .ok (.getfield 212, 3) := by decide +kernel
theorem dX11_part_93 : decode cX11_part 93 = .ok (.iload 4, 2) := by decide +kernel
theorem dX11_part_95 : decode cX11_part 95 = .ok (.iaload, 1) := by decide +kernel
theorem dX11_part_96 : decode cX11_part 96 = .ok (.ifCond .le 16, 3) := by decide +kernel
theorem dX11_part_99 : decode cX11_part 99 = .ok (.aload_n 0, 1) := by decide +kernel
theorem dX11_part_100 : decode cX11_part 100 = .ok (.getfield 67, 3) := by decide +kernel
theorem dX11_part_103 : decode cX11_part 103 = .ok (.getfield 243, 3) := by decide +kernel
theorem dX11_part_106 : decode cX11_part 106 = .ok (.iload 4, 2) := by decide +kernel
theorem dX11_part_108 : decode cX11_part 108 = .ok (.iaload, 1) := by decide +kernel
theorem dX11_part_109 : decode cX11_part 109 = .ok (.goto 4, 3) := by decide +kernel
theorem dX11_part_112 : decode cX11_part 112 = .ok (.iconst (-1), 1) := by decide +kernel
theorem dX11_part_113 : decode cX11_part 113 = .ok (.ireturn, 1) := by decide +kernel
theorem dX11_part_114 : decode cX11_part 114 = .ok (.aload_n 0, 1) := by decide +kernel
theorem dX11_part_115 : decode cX11_part 115 = .ok (.getfield 67, 3) := by decide +kernel
theorem dX11_part_118 : decode cX11_part 118 = .ok (.getfield 215, 3) := by decide +kernel
theorem dX11_part_121 : decode cX11_part 121 = .ok (.iload 4, 2) := by decide +kernel
theorem dX11_part_123 : decode cX11_part 123 = .ok (.iaload, 1) := by decide +kernel
theorem dX11_part_124 : decode cX11_part 124 = .ok (.ireturn, 1) := by decide +kernel
theorem dX11_look_0 : decode cX11_look 0 = .ok (.aload_n 0, 1) := by decide +kernel
theorem dX11_look_1 : decode cX11_look 1 = .ok (.iload_n 1, 1) := by decide +kernel
theorem dX11_look_2 : decode cX11_look 2 = .ok (.ifCond .eq 8, 3) := by decide +kernel
theorem dX11_look_5 : decode cX11_look 5 = .ok (.iload_n 1, 1) := by decide +kernel
theorem dX11_look_6 : decode cX11_look 6 = .ok (.iconst 1, 1) := by decide +kernel
theorem dX11_look_7 : decode cX11_look 7 = .ok (.if_icmp .ne 7, 3) := by decide +kernel
theorem dX11_look_10 : decode cX11_look 10 = .ok (.iconst 1, 1) := by decide +kernel
theorem dX11_look_11 : decode cX11_look 11 = .ok (.goto 4, 3) := by decide +kernel
theorem dX11_look_14 : decode cX11_look 14 = .ok (.iconst 0, 1) := by decide +kernel
theorem dX11_look_15 : decode cX11_look 15 = .ok (.invokevirtual 186, 3) := by decide +kernel
theorem dX11_look_18 : decode cX11_look 18 = .ok (.aload_n 0, 1) := by decide +kernel
theorem dX11_look_19 : decode cX11_look 19 = .ok (.getfield 90, 3) := by decide +kernel
theorem dX11_look_22 : decode cX11_look 22 = .ok (.aload_n 0, 1) := by decide +kernel
theorem dX11_look_23 : decode cX11_look 23 = .ok (.getfield 67, 3) := by decide +kernel
theorem dX11_look_26 : decode cX11_look 26 = .ok (.invokevirtual 305, 3) := by decide +kernel
theorem dX11_look_29 : decode cX11_look 29 = .ok (.iconst (-1), 1) := by decide +kernel
theorem dX11_look_30 : decode cX11_look 30 = .ok (.istore_n 2, 1) := by decide +kernel
theorem dX11_look_31 : decode cX11_look 31 = .ok (.iconst (-1), 1) := by decide +kernel
theorem dX11_look_32 : decode cX11_look 32 = .ok (.istore_n 3, 1) := by decide +kernel
theorem dX11_look_33 : decode cX11_look 33 = .ok (.iconst 0, 1) := by decide +kernel
theorem dX11_look_34 : decode cX11_look 34 = .ok (.istore 4, 2) := by decide +kernel
theorem dX11_look_36 : decode cX11_look 36 = .ok (.iload 4, 2) := by decide +kernel
theorem dX11_look_38 : decode cX11_look 38 = .ok (.aload_n 0, 1) := by decide +kernel
theorem dX11_look_39 : decode cX11_look 39 = .ok (.getfield 19, 3) := by decide +kernel
theorem dX11_look_42 : decode cX11_look 42 = .ok (.getfield 171, 3) := by decide +kernel
theorem dX11_look_45 : decode cX11_look 45 = .ok (.if_icmp .ge 52, 3) := by decide +kernel
theorem dX11_look_48 : decode cX11_look 48 = .ok (.aload_n 0, 1) := by decide +kernel
theorem dX11_look_49 : decode cX11_look 49 = .ok (.getfield 39, 3) := by decide +kernel
theorem dX11_look_52 : decode cX11_look 52 = .ok (.iload 4, 2) := by decide +kernel
theorem dX11_look_54 : decode cX11_look 54 = .ok (.invokevirtual 314, 3) := by decide +kernel
theorem dX11_look_57 : decode cX11_look 57 = .ok (.ifCond .eq 6, 3) := by decide +kernel
theorem dX11_look_60 : decode cX11_look 60 = .ok (.goto 31, 3) := by decide +kernel
theorem dX11_look_63 : decode cX11_look 63 = .ok (.aload_n 0, 1) := by decide +kernel
theorem dX11_look_64 : decode cX11_look 64 = .ok (.getfield 90, 3) := by decide +kernel
theorem dX11_look_67 : decode cX11_look 67 = .ok (.iload 4, 2) := by decide +kernel
theorem dX11_look_69 : decode cX11_look 69 = .ok (.invokevirtual 317, 3) := by decide +kernel
theorem dX11_look_72 : decode cX11_look 72 = .ok (.istore 5, 2) := by decide +kernel
theorem dX11_look_74 : decode cX11_look 74 = .ok (.iload_n 2, 1) := by decide +kernel
theorem dX11_look_75 : decode cX11_look 75 = .ok (.iconst (-1), 1) := by decide +kernel
theorem dX11_look_76 : decode cX11_look 76 = .ok (.if_icmp .eq 9, 3) := by decide +kernel
theorem dX11_look_79 : decode cX11_look 79 = .ok (.iload 5, 2) := by decide +kernel
theorem dX11_look_81 : decode cX11_look 81 = .ok (.iload_n 3, 1) := by decide +kernel
theorem dX11_look_82 : decode cX11_look 82 = .ok (.if_icmp .ge 9, 3) := by decide +kernel
theorem dX11_look_85 : decode cX11_look 85 = .ok (.iload 4, 2) := by decide +kernel
theorem dX11_look_87 : decode cX11_look 87 = .ok (.istore_n 2, 1) := by decide +kernel
theorem dX11_look_88 : decode cX11_look 88 = .ok (.iload 5, 2) := by decide +kernel
theorem dX11_look_90 : decode cX11_look 90 = .ok (.istore_n 3, 1) := by decide +kernel
theorem dX11_look_91 : decode cX11_look 91 = .ok (.iinc 4 1, 3) := by decide +kernel
theorem dX11_look_94 : decode cX11_look 94 = .ok (.goto (-58), 3) := by decide +kernel
theorem dX11_look_97 : decode cX11_look 97 = .ok (.iload_n 1, 1) := by decide +kernel
theorem dX11_look_98 : decode cX11_look 98 = .ok (.ifCond .ne 7, 3) := by decide +kernel
theorem dX11_look_101 : decode cX11_look 101 = .ok (.iload_n 2, 1) := by decide +kernel
theorem dX11_look_102 : decode cX11_look 102 = .ok (.goto 4, 3) := by decide +kernel
theorem dX11_look_105 : decode cX11_look 105 = .ok (.iload_n 3, 1) := by decide +kernel
theorem dX11_look_106 : decode cX11_look 106 = .ok (.ireturn, 1) := by decide +kernel
theorem dX11_undo_0 : decode cX11_undo 0 = .ok (.aload_n 0, 1) := by decide +kernel
theorem dX11_undo_1 : decode cX11_undo 1 = .ok (.getfield 74, 3) := by decide +kernel
theorem dX11_undo_4 : decode cX11_undo 4 = .ok (.getfield 135, 3) := by decide +kernel
theorem dX11_undo_7 : decode cX11_undo 7 = .ok (.ifCond .ne 5, 3) := by decide +kernel
theorem dX11_undo_10 : decode cX11_undo 10 = .ok (.iconst (-1), 1) := by decide +kernel
theorem dX11_undo_11 : decode cX11_undo 11 = .ok (.ireturn, 1) := by decide +kernel
theorem dX11_undo_12 : decode cX11_undo 12 = .ok (.aload_n 0, 1) := by decide +kernel
theorem dX11_undo_13 : decode cX11_undo 13 = .ok (.getfield 74, 3) := by decide +kernel
theorem dX11_undo_16 : decode cX11_undo 16 = .ok (.aload_n 0, 1) := by decide +kernel
theorem dX11_undo_17 : decode cX11_undo 17 = .ok (.getfield 67, 3) := by decide +kernel
theorem dX11_undo_20 : decode cX11_undo 20 = .ok (.invokevirtual 183, 3) := by decide +kernel
theorem dX11_undo_23 : decode cX11_undo 23 = .ok (.aload_n 0, 1) := by decide +kernel
theorem dX11_undo_24 : decode cX11_undo 24 = .ok (.iconst 0, 1) := by decide +kernel
theorem dX11_undo_25 : decode cX11_undo 25 = .ok (.putfield 141, 3) := by decide +kernel
theorem dX11_undo_28 : decode cX11_undo 28 = .ok (.aload_n 0, 1) := by decide +kernel
theorem dX11_undo_29 : decode cX11_undo 29 = .ok (.getfield 74, 3) := by decide +kernel
theorem dX11_undo_32 : decode cX11_undo 32 = .ok (.getfield 135, 3) := by decide +kernel
theorem dX11_undo_35 : decode cX11_undo 35 = .ok (.ireturn, 1) := by decide +kernel
theorem dX11_lookers_0 : decode cX11_lookers 0 = .ok (.aload_n 0, 1) := by decide +kernel
theorem dX11_lookers_1 : decode cX11_lookers 1 = .ok (.iload_n 1, 1) := by decide +kernel
theorem dX11_lookers_2 : decode cX11_lookers 2 = .ok (.ifCond .lt 32, 3) := by decide +kernel
theorem dX11_lookers_5 : decode cX11_lookers 5 = .ok (.iload_n 1, 1) := by decide +kernel
theorem dX11_lookers_6 : decode cX11_lookers 6 = .ok (.bipush 99, 2) := by decide +kernel
theorem dX11_lookers_8 : decode cX11_lookers 8 = .ok (.if_icmp .gt 26, 3) := by decide +kernel
theorem dX11_lookers_11 : decode cX11_lookers 11 = .ok (.iload_n 2, 1) := by decide +kernel
theorem dX11_lookers_12 : decode cX11_lookers 12 = .ok (.ifCond .lt 22, 3) := by decide +kernel
theorem dX11_lookers_15 : decode cX11_lookers 15 = .ok (.iload_n 2, 1) := by decide +kernel
theorem dX11_lookers_16 : decode cX11_lookers 16 = .ok (.bipush 99, 2) := by decide +kernel
theorem dX11_lookers_18 : decode cX11_lookers 18 = .ok (.if_icmp .gt 16, 3) := by decide +kernel
theorem dX11_lookers_21 : decode cX11_lookers 21 = .ok (.iload_n 3, 1) := by decide +kernel
theorem dX11_lookers_22 : decode cX11_lookers 22 = .ok (.ifCond .lt 12, 3) := by decide +kernel
theorem dX11_lookers_25 : decode cX11_lookers 25 = .ok (.iload_n 3, 1) := by decide +kernel
theorem dX11_lookers_26 : decode cX11_lookers 26 = .ok (.iconst 2, 1) := by decide +kernel
theorem dX11_lookers_27 : decode cX11_lookers 27 = .ok (.if_icmp .gt 7, 3) := by decide +kernel
theorem dX11_lookers_30 : decode cX11_lookers 30 = .ok (.iconst 1, 1) := by decide +kernel
theorem dX11_lookers_31 : decode cX11_lookers 31 = .ok (.goto 4, 3) := by decide +kernel
theorem dX11_lookers_34 : decode cX11_lookers 34 = .ok (.iconst 0, 1) := by decide +kernel
theorem dX11_lookers_35 : decode cX11_lookers 35 = .ok (.invokevirtual 186, 3) := by decide +kernel
theorem dX11_lookers_38 : decode cX11_lookers 38 = .ok (.iconst 0, 1) := by decide +kernel
theorem dX11_lookers_39 : decode cX11_lookers 39 = .ok (.istore 4, 2) := by decide +kernel
theorem dX11_lookers_41 : decode cX11_lookers 41 = .ok (.iconst (-1), 1) := by decide +kernel
theorem dX11_lookers_42 : decode cX11_lookers 42 = .ok (.istore 5, 2) := by decide +kernel
theorem dX11_lookers_44 : decode cX11_lookers 44 = .ok (.iconst 0, 1) := by decide +kernel
theorem dX11_lookers_45 : decode cX11_lookers 45 = .ok (.istore 6, 2) := by decide +kernel
theorem dX11_lookers_47 : decode cX11_lookers 47 = .ok (.iconst 0, 1) := by decide +kernel
theorem dX11_lookers_48 : decode cX11_lookers 48 = .ok (.istore 7, 2) := by decide +kernel
theorem dX11_lookers_50 : decode cX11_lookers 50 = .ok (.iload 7, 2) := by decide +kernel
theorem dX11_lookers_52 : decode cX11_lookers 52 = .ok (.iconst 1, 1) := by decide +kernel
theorem dX11_lookers_53 : decode cX11_lookers 53 = .ok (.if_icmp .gt 90, 3) := by decide +kernel
theorem dX11_lookers_56 : decode cX11_lookers 56 = .ok (.iconst 0, 1) := by decide +kernel
theorem dX11_lookers_57 : decode cX11_lookers 57 = .ok (.istore 8, 2) := by decide +kernel
theorem dX11_lookers_59 : decode cX11_lookers 59 = .ok (.iload 8, 2) := by decide +kernel
theorem dX11_lookers_61 : decode cX11_lookers 61 = .ok (.iconst 1, 1) := by decide +kernel
theorem dX11_lookers_62 : decode cX11_lookers 62 = .ok (.if_icmp .gt 75, 3) := by decide +kernel
theorem dX11_lookers_65 : decode cX11_lookers 65 = .ok (.iload 7, 2) := by decide +kernel
theorem dX11_lookers_67 : decode cX11_lookers 67 = .ok (.iload 8, 2) := by decide +kernel
theorem dX11_lookers_69 : decode cX11_lookers 69 = .ok (.iload_n 1, 1) := by decide +kernel
theorem dX11_lookers_70 : decode cX11_lookers 70 = .ok (.iload_n 2, 1) := by decide +kernel
theorem dX11_lookers_71 : decode cX11_lookers 71 = .ok (.invokestatic 338, 3) := by decide +kernel
theorem dX11_lookers_74 : decode cX11_lookers 74 = .ok (.ifCond .eq 57, 3) := by decide +kernel
theorem dX11_lookers_77 : decode cX11_lookers 77 = .ok (.iload 8, 2) := by decide +kernel
theorem dX11_lookers_79 : decode cX11_lookers 79 = .ok (.iload 7, 2) := by decide +kernel
theorem dX11_lookers_81 : decode cX11_lookers 81 = .ok (.iload_n 1, 1) := by decide +kernel
theorem dX11_lookers_82 : decode cX11_lookers 82 = .ok (.iload_n 2, 1) := by decide +kernel
theorem dX11_lookers_83 : decode cX11_lookers 83 = .ok (.invokestatic 338, 3) := by decide +kernel
theorem dX11_lookers_86 : decode cX11_lookers 86 = .ok (.ifCond .ne 6, 3) := by decide +kernel
theorem dX11_lookers_89 : decode cX11_lookers 89 = .ok (.goto 42, 3) := by decide +kernel
theorem dX11_lookers_92 : decode cX11_lookers 92 = .ok (.iload 4, 2) := by decide +kernel
theorem dX11_lookers_94 : decode cX11_lookers 94 = .ok (.ifCond .ne 34, 3) := by decide +kernel
theorem dX11_lookers_97 : decode cX11_lookers 97 = .ok (.bipush 10, 2) := by decide +kernel
theorem dX11_lookers_99 : decode cX11_lookers 99 = .ok (.iload 7, 2) := by decide +kernel
theorem dX11_lookers_101 : decode cX11_lookers 101 = .ok (.imul, 1) := by decide +kernel
theorem dX11_lookers_102 : decode cX11_lookers 102 = .ok (.iload 8, 2) := by decide +kernel
theorem dX11_lookers_104 : decode cX11_lookers 104 = .ok (.iadd, 1) := by decide +kernel
theorem dX11_lookers_105 : decode cX11_lookers 105 = .ok (.istore 5, 2) := by decide +kernel
theorem dX11_lookers_107 : decode cX11_lookers 107 = .ok (.iload 7, 2) := by decide +kernel
theorem dX11_lookers_109 : decode cX11_lookers 109 = .ok (.iload 8, 2) := by decide +kernel
theorem dX11_lookers_111 : decode cX11_lookers 111 = .ok (.iload_n 1, 1) := by decide +kernel
theorem dX11_lookers_112 : decode cX11_lookers 112 = .ok (.iload_n 2, 1) := by decide +kernel
theorem dX11_lookers_113 : decode cX11_lookers 113 = .ok (.invokestatic 341, 3) := by decide +kernel
theorem dX11_lookers_116 : decode cX11_lookers 116 = .ok (.iload 8, 2) := by decide +kernel
theorem dX11_lookers_118 : decode cX11_lookers 118 = .ok (.iload 7, 2) := by decide +kernel
theorem dX11_lookers_120 : decode cX11_lookers 120 = .ok (.iload_n 1, 1) := by decide +kernel
theorem dX11_lookers_121 : decode cX11_lookers 121 = .ok (.iload_n 2, 1) := by decide +kernel
theorem dX11_lookers_122 : decode cX11_lookers 122 = .ok (.invokestatic 341, 3) := by decide +kernel
theorem dX11_lookers_125 : decode cX11_lookers 125 = .ok (.iadd, 1) := by decide +kernel
theorem dX11_lookers_126 : decode cX11_lookers 126 = .ok (.istore 6, 2) := by decide +kernel
theorem dX11_lookers_128 : decode cX11_lookers 128 = .ok (.iinc 4 1, 3) := by decide +kernel
theorem dX11_lookers_131 : decode cX11_lookers 131 = .ok (.iinc 8 1, 3) := by decide +kernel
theorem dX11_lookers_134 : decode cX11_lookers 134 = .ok (.goto (-75), 3) := by decide +kernel
theorem dX11_lookers_137 : decode cX11_lookers 137 = .ok (.iinc 7 1, 3) := by decide +kernel
theorem dX11_lookers_140 : decode cX11_lookers 140 = .ok (.goto (-90), 3) := by decide +kernel
theorem dX11_lookers_143 : decode cX11_lookers 143 = .ok (.iload_n 3, 1) := by decide +kernel
theorem dX11_lookers_144 : decode cX11_lookers 144 = .ok (.ifCond .ne 8, 3) := by decide +kernel
theorem dX11_lookers_147 : decode cX11_lookers 147 = .ok (.iload 4, 2) := by decide +kernel
theorem dX11_lookers_149 : decode cX11_lookers 149 = .ok (.goto 15, 3) := by decide +kernel
theorem dX11_lookers_152 : decode cX11_lookers 152 = .ok (.iload_n 3, 1) := by decide +kernel
theorem dX11_lookers_153 : decode cX11_lookers 153 = .ok (.iconst 1, 1) := by decide +kernel
theorem dX11_lookers_154 : decode cX11_lookers 154 = .ok (.if_icmp .ne 8, 3) := by decide +kernel
theorem dX11_lookers_157 : decode cX11_lookers 157 = .ok (.iload 5, 2) := by decide +kernel
theorem dX11_lookers_159 : decode cX11_lookers 159 = .ok (.goto 5, 3) := by decide +kernel
theorem dX11_lookers_162 : decode cX11_lookers 162 = .ok (.iload 6, 2) := by decide +kernel
theorem dX11_lookers_164 : decode cX11_lookers 164 = .ok (.ireturn, 1) := by decide +kernel
theorem dX11_first_0 : decode cX11_first 0 = .ok (.aload_n 0, 1) := by decide +kernel
theorem dX11_first_1 : decode cX11_first 1 = .ok (.iload_n 1, 1) := by decide +kernel
theorem dX11_first_2 : decode cX11_first 2 = .ok (.invokevirtual 221, 3) := by decide +kernel
theorem dX11_first_5 : decode cX11_first 5 = .ok (.aload_n 0, 1) := by decide +kernel
theorem dX11_first_6 : decode cX11_first 6 = .ok (.getfield 67, 3) := by decide +kernel
theorem dX11_first_9 : decode cX11_first 9 = .ok (.iload_n 1, 1) := by decide +kernel
theorem dX11_first_10 : decode cX11_first 10 = .ok (.invokevirtual 234, 3) := by decide +kernel
theorem dX11_first_13 : decode cX11_first 13 = .ok (.istore_n 2, 1) := by decide +kernel
theorem dX11_first_14 : decode cX11_first 14 = .ok (.iconst 0, 1) := by decide +kernel
theorem dX11_first_15 : decode cX11_first 15 = .ok (.istore_n 3, 1) := by decide +kernel
theorem dX11_first_16 : decode cX11_first 16 = .ok (.iload_n 3, 1) := by decide +kernel
theorem dX11_first_17 : decode cX11_first 17 = .ok (.bipush 7, 2) := by decide +kernel
theorem dX11_first_19 : decode cX11_first 19 = .ok (.if_icmp .ge 46, 3) := by decide +kernel
theorem dX11_first_22 : decode cX11_first 22 = .ok (.iload_n 1, 1) := by decide +kernel
theorem dX11_first_23 : decode cX11_first 23 = .ok (.bipush 7, 2) := by decide +kernel
theorem dX11_first_25 : decode cX11_first 25 = .ok (.imul, 1) := by decide +kernel
theorem dX11_first_26 : decode cX11_first 26 = .ok (.iload_n 3, 1) := by decide +kernel
theorem dX11_first_27 : decode cX11_first 27 = .ok (.iadd, 1) := by decide +kernel
theorem dX11_first_28 : decode cX11_first 28 = .ok (.istore 4, 2) := by decide +kernel
theorem dX11_first_30 : decode cX11_first 30 = .ok (.aload_n 0, 1) := by decide +kernel
theorem dX11_first_31 : decode cX11_first 31 = .ok (.getfield 67, 3) := by decide +kernel
theorem dX11_first_34 : decode cX11_first 34 = .ok (.getfield 212, 3) := by decide +kernel
theorem dX11_first_37 : decode cX11_first 37 = .ok (.iload 4, 2) := by decide +kernel
theorem dX11_first_39 : decode cX11_first 39 = .ok (.iaload, 1) := by decide +kernel
theorem dX11_first_40 : decode cX11_first 40 = .ok (.ifCond .le 19, 3) := by decide +kernel
theorem dX11_first_43 : decode cX11_first 43 = .ok (.aload_n 0, 1) := by decide +kernel
theorem dX11_first_44 : decode cX11_first 44 = .ok (.getfield 67, 3) := by decide +kernel
theorem dX11_first_47 : decode cX11_first 47 = .ok (.getfield 243, 3) := by decide +kernel
theorem dX11_first_50 : decode cX11_first 50 = .ok (.iload 4, 2) := by decide +kernel
theorem dX11_first_52 : decode cX11_first 52 = .ok (.iaload, 1) := by decide +kernel
theorem dX11_first_53 : decode cX11_first 53 = .ok (.iload_n 2, 1) := by decide +kernel
theorem dX11_first_54 : decode cX11_first 54 = .ok (.if_icmp .ne 5, 3) := by decide +kernel
theorem dX11_first_57 : decode cX11_first 57 = .ok (.iload_n 3, 1) := by decide +kernel
theorem dX11_first_58 : decode cX11_first 58 = .ok (.ireturn, 1) := by decide +kernel
theorem dX11_first_59 : decode cX11_first 59 = .ok (.iinc 3 1, 3) := by decide +kernel
theorem dX11_first_62 : decode cX11_first 62 = .ok (.goto (-46), 3) := by decide +kernel
theorem dX11_first_65 : decode cX11_first 65 = .ok (.iconst (-1), 1) := by decide +kernel
theorem dX11_first_66 : decode cX11_first 66 = .ok (.ireturn, 1) := by decide +kernel
theorem dX11_fellow_0 : decode cX11_fellow 0 = .ok (.aload_n 0, 1) := by decide +kernel
theorem dX11_fellow_1 : decode cX11_fellow 1 = .ok (.iload_n 1, 1) := by decide +kernel
theorem dX11_fellow_2 : decode cX11_fellow 2 = .ok (.invokevirtual 221, 3) := by decide +kernel
theorem dX11_fellow_5 : decode cX11_fellow 5 = .ok (.aload_n 0, 1) := by decide +kernel
theorem dX11_fellow_6 : decode cX11_fellow 6 = .ok (.iload_n 2, 1) := by decide +kernel
theorem dX11_fellow_7 : decode cX11_fellow 7 = .ok (.ifCond .lt 13, 3) := by decide +kernel
theorem dX11_fellow_10 : decode cX11_fellow 10 = .ok (.iload_n 2, 1) := by decide +kernel
theorem dX11_fellow_11 : decode cX11_fellow 11 = .ok (.bipush 7, 2) := by decide +kernel
theorem dX11_fellow_13 : decode cX11_fellow 13 = .ok (.if_icmp .gt 7, 3) := by decide +kernel
theorem dX11_fellow_16 : decode cX11_fellow 16 = .ok (.iconst 1, 1) := by decide +kernel
theorem dX11_fellow_17 : decode cX11_fellow 17 = .ok (.goto 4, 3) := by decide +kernel
theorem dX11_fellow_20 : decode cX11_fellow 20 = .ok (.iconst 0, 1) := by decide +kernel
theorem dX11_fellow_21 : decode cX11_fellow 21 = .ok (.invokevirtual 186, 3) := by decide +kernel
theorem dX11_fellow_24 : decode cX11_fellow 24 = .ok (.iload_n 1, 1) := by decide +kernel
theorem dX11_fellow_25 : decode cX11_fellow 25 = .ok (.bipush 7, 2) := by decide +kernel
theorem dX11_fellow_27 : decode cX11_fellow 27 = .ok (.imul, 1) := by decide +kernel
theorem dX11_fellow_28 : decode cX11_fellow 28 = .ok (.istore_n 3, 1) := by decide +kernel
theorem dX11_fellow_29 : decode cX11_fellow 29 = .ok (.iload_n 2, 1) := by decide +kernel
theorem dX11_fellow_30 : decode cX11_fellow 30 = .ok (.tableswitch 130 0 6 #[42, 51, 67, 83, 92, 111, 121], 42) := by decide +kernel
theorem dX11_fellow_72 : decode cX11_fellow 72 = .ok (.aload_n 0, 1) := by decide +kernel
theorem dX11_fellow_73 : decode cX11_fellow 73 = .ok (.getfield 67, 3) := by decide +kernel
theorem dX11_fellow_76 : decode cX11_fellow 76 = .ok (.iload_n 1, 1) := by decide +kernel
theorem dX11_fellow_77 : decode cX11_fellow 77 = .ok (.invokevirtual 224, 3) := by decide +kernel
theorem dX11_fellow_80 : decode cX11_fellow 80 = .ok (.ireturn, 1) := by decide +kernel
theorem dX11_fellow_81 : decode cX11_fellow 81 = .ok (.aload_n 0, 1) := by decide +kernel
theorem dX11_fellow_82 : decode cX11_fellow 82 = .ok (.getfield 67, 3) := by decide +kernel
theorem dX11_fellow_85 : decode cX11_fellow 85 = .ok (.getfield 212, 3) := by decide +kernel
theorem dX11_fellow_88 : decode cX11_fellow 88 = .ok (.iload_n 3, 1) := by decide +kernel
theorem dX11_fellow_89 : decode cX11_fellow 89 = .ok (.iload_n 3, 1) := by decide +kernel
theorem dX11_fellow_90 : decode cX11_fellow 90 = .ok (.bipush 7, 2) := by decide +kernel
theorem dX11_fellow_92 : decode cX11_fellow 92 = .ok (.iadd, 1) := by decide +kernel
theorem dX11_fellow_93 : decode cX11_fellow 93 = .ok (.invokestatic 208, 3) := by decide +kernel
theorem dX11_fellow_96 : decode cX11_fellow 96 = .ok (.ireturn, 1) := by decide +kernel
theorem dX11_fellow_97 : decode cX11_fellow 97 = .ok (.aload_n 0, 1) := by decide +kernel
theorem dX11_fellow_98 : decode cX11_fellow 98 = .ok (.getfield 67, 3) := by decide +kernel
theorem dX11_fellow_101 : decode cX11_fellow 101 = .ok (.getfield 215, 3) := by decide +kernel
theorem dX11_fellow_104 : decode cX11_fellow 104 = .ok (.iload_n 3, 1) := by decide +kernel
theorem dX11_fellow_105 : decode cX11_fellow 105 = .ok (.iload_n 3, 1) := by decide +kernel
theorem dX11_fellow_106 : decode cX11_fellow 106 = .ok (.bipush 7, 2) := by decide +kernel
theorem dX11_fellow_108 : decode cX11_fellow 108 = .ok (.iadd, 1) := by decide +kernel
theorem dX11_fellow_109 : decode cX11_fellow 109 = .ok (.invokestatic 208, 3) := by decide +kernel
theorem dX11_fellow_112 : decode cX11_fellow 112 = .ok (.ireturn, 1) := by decide +kernel
theorem dX11_fellow_113 : decode cX11_fellow 113 = .ok (.aload_n 0, 1) := by decide +kernel
theorem dX11_fellow_114 : decode cX11_fellow 114 = .ok (.getfield 67, 3) := by decide +kernel
theorem dX11_fellow_117 : decode cX11_fellow 117 = .ok (.iload_n 1, 1) := by decide +kernel
theorem dX11_fellow_118 : decode cX11_fellow 118 = .ok (.invokevirtual 227, 3) := by decide +kernel
theorem dX11_fellow_121 : decode cX11_fellow 121 = .ok (.ireturn, 1) := by decide +kernel
theorem dX11_fellow_122 : decode cX11_fellow 122 = .ok (.aload_n 0, 1) := by decide +kernel
theorem dX11_fellow_123 : decode cX11_fellow 123 = .ok (.getfield 67, 3) := by decide +kernel
theorem dX11_fellow_126 : decode cX11_fellow 126 = .ok (.iconst 1, 1) := by decide +kernel
theorem dX11_fellow_127 : decode cX11_fellow 127 = .ok (.iload_n 1, 1) := by decide +kernel
theorem dX11_fellow_128 : decode cX11_fellow 128 = .ok (.ishl, 1) := by decide +kernel
theorem dX11_fellow_129 : decode cX11_fellow 129 = .ok (.invokevirtual 230, 3) := by decide +kernel
theorem dX11_fellow_132 : decode cX11_fellow 132 = .ok (.ifCond .eq 7, 3) := by decide +kernel
theorem dX11_fellow_135 : decode cX11_fellow 135 = .ok (.iconst 1, 1) := by decide +kernel
theorem dX11_fellow_136 : decode cX11_fellow 136 = .ok (.goto 4, 3) := by decide +kernel
theorem dX11_fellow_139 : decode cX11_fellow 139 = .ok (.iconst 0, 1) := by decide +kernel
theorem dX11_fellow_140 : decode cX11_fellow 140 = .ok (.ireturn, 1) := by decide +kernel
theorem dX11_fellow_141 : decode cX11_fellow 141 = .ok (.aload_n 0, 1) := by decide +kernel
theorem dX11_fellow_142 : decode cX11_fellow 142 = .ok (.getfield 67, 3) := by decide +kernel
theorem dX11_fellow_145 : decode cX11_fellow 145 = .ok (.getfield 218, 3) := by decide +kernel
theorem dX11_fellow_148 : decode cX11_fellow 148 = .ok (.iload_n 1, 1) := by decide +kernel
theorem dX11_fellow_149 : decode cX11_fellow 149 = .ok (.iaload, 1) := by decide +kernel
theorem dX11_fellow_150 : decode cX11_fellow 150 = .ok (.ireturn, 1) := by decide +kernel
theorem dX11_fellow_151 : decode cX11_fellow 151 = .ok (.aload_n 0, 1) := by decide +kernel
theorem dX11_fellow_152 : decode cX11_fellow 152 = .ok (.getfield 67, 3) := by decide +kernel
theorem dX11_fellow_155 : decode cX11_fellow 155 = .ok (.iload_n 1, 1) := by decide +kernel
theorem dX11_fellow_156 : decode cX11_fellow 156 = .ok (.invokevirtual 234, 3) := by decide +kernel
theorem dX11_fellow_159 : decode cX11_fellow 159 = .ok (.ireturn, 1) := by decide +kernel
theorem dX11_fellow_160 : decode cX11_fellow 160 = .ok (.aload_n 0, 1) := by decide +kernel
theorem dX11_fellow_161 : decode cX11_fellow 161 = .ok (.getfield 67, 3) := by decide +kernel
theorem dX11_fellow_164 : decode cX11_fellow 164 = .ok (.iload_n 1, 1) := by decide +kernel
theorem dX11_fellow_165 : decode cX11_fellow 165 = .ok (.invokevirtual 237, 3) := by decide +kernel
theorem dX11_fellow_168 : decode cX11_fellow 168 = .ok (.ireturn, 1) := by decide +kernel
theorem dX11_needFellow_0 : decode cX11_needFellow 0 = .ok (.aload_n 0, 1) := by decide +kernel
theorem dX11_needFellow_1 : decode cX11_needFellow 1 = .ok (.iload_n 1, 1) := by decide +kernel
theorem dX11_needFellow_2 : decode cX11_needFellow 2 = .ok (.invokevirtual 372, 3) := by decide +kernel
theorem dX11_needFellow_5 : decode cX11_needFellow 5 = .ok (.ifCond .ne 24, 3) := by decide +kernel
theorem dX11_needFellow_8 : decode cX11_needFellow 8 = .ok (.aload_n 0, 1) := by decide +kernel
theorem dX11_needFellow_9 : decode cX11_needFellow 9 = .ok (.dup, 1) := by decide +kernel
theorem dX11_needFellow_10 : decode cX11_needFellow 10 = .ok (.getfield 385, 3) := by decide +kernel
theorem dX11_needFellow_13 : decode cX11_needFellow 13 = .ok (.iconst 1, 1) := by decide +kernel
theorem dX11_needFellow_14 : decode cX11_needFellow 14 = .ok (.iadd, 1) := by decide +kernel
theorem dX11_needFellow_15 : decode cX11_needFellow 15 = .ok (.putfield 385, 3) := by decide +kernel
theorem dX11_needFellow_18 : decode cX11_needFellow 18 = .ok (.new 398, 3) := by decide +kernel
theorem dX11_needFellow_21 : decode cX11_needFellow 21 = .ok (.dup, 1) := by decide +kernel
theorem dX11_needFellow_22 : decode cX11_needFellow 22 = .ok (.ldc_w 400, 3) := by decide +kernel
theorem dX11_needFellow_25 : decode cX11_needFellow 25 = .ok (.invokespecial 402, 3) := by decide +kernel
theorem dX11_needFellow_28 : decode cX11_needFellow 28 = .ok (.athrow, 1) := by decide +kernel
theorem dX11_needFellow_29 : decode cX11_needFellow 29 = .ok (.return_, 1) := by decide +kernel
theorem dX11_strongest_0 : decode cX11_strongest 0 = .ok (.aload_n 0, 1) := by decide +kernel
theorem dX11_strongest_1 : decode cX11_strongest 1 = .ok (.iload_n 1, 1) := by decide +kernel
theorem dX11_strongest_2 : decode cX11_strongest 2 = .ok (.invokevirtual 221, 3) := by decide +kernel
theorem dX11_strongest_5 : decode cX11_strongest 5 = .ok (.aload_n 0, 1) := by decide +kernel
theorem dX11_strongest_6 : decode cX11_strongest 6 = .ok (.iload_n 2, 1) := by decide +kernel
theorem dX11_strongest_7 : decode cX11_strongest 7 = .ok (.ifCond .eq 8, 3) := by decide +kernel
theorem dX11_strongest_10 : decode cX11_strongest 10 = .ok (.iload_n 2, 1) := by decide +kernel
theorem dX11_strongest_11 : decode cX11_strongest 11 = .ok (.iconst 1, 1) := by decide +kernel
theorem dX11_strongest_12 : decode cX11_strongest 12 = .ok (.if_icmp .ne 7, 3) := by decide +kernel
theorem dX11_strongest_15 : decode cX11_strongest 15 = .ok (.iconst 1, 1) := by decide +kernel
theorem dX11_strongest_16 : decode cX11_strongest 16 = .ok (.goto 4, 3) := by decide +kernel
theorem dX11_strongest_19 : decode cX11_strongest 19 = .ok (.iconst 0, 1) := by decide +kernel
theorem dX11_strongest_20 : decode cX11_strongest 20 = .ok (.invokevirtual 186, 3) := by decide +kernel
theorem dX11_strongest_23 : decode cX11_strongest 23 = .ok (.aload_n 0, 1) := by decide +kernel
theorem dX11_strongest_24 : decode cX11_strongest 24 = .ok (.getfield 67, 3) := by decide +kernel
theorem dX11_strongest_27 : decode cX11_strongest 27 = .ok (.iload_n 1, 1) := by decide +kernel
theorem dX11_strongest_28 : decode cX11_strongest 28 = .ok (.invokevirtual 351, 3) := by decide +kernel
theorem dX11_strongest_31 : decode cX11_strongest 31 = .ok (.istore_n 3, 1) := by decide +kernel
theorem dX11_strongest_32 : decode cX11_strongest 32 = .ok (.iload_n 2, 1) := by decide +kernel
theorem dX11_strongest_33 : decode cX11_strongest 33 = .ok (.ifCond .ne 7, 3) := by decide +kernel
theorem dX11_strongest_36 : decode cX11_strongest 36 = .ok (.iload_n 3, 1) := by decide +kernel
theorem dX11_strongest_37 : decode cX11_strongest 37 = .ok (.goto 17, 3) := by decide +kernel
theorem dX11_strongest_40 : decode cX11_strongest 40 = .ok (.aload_n 0, 1) := by decide +kernel
theorem dX11_strongest_41 : decode cX11_strongest 41 = .ok (.getfield 67, 3) := by decide +kernel
theorem dX11_strongest_44 : decode cX11_strongest 44 = .ok (.getfield 204, 3) := by decide +kernel
theorem dX11_strongest_47 : decode cX11_strongest 47 = .ok (.iload_n 1, 1) := by decide +kernel
theorem dX11_strongest_48 : decode cX11_strongest 48 = .ok (.bipush 7, 2) := by decide +kernel
theorem dX11_strongest_50 : decode cX11_strongest 50 = .ok (.imul, 1) := by decide +kernel
theorem dX11_strongest_51 : decode cX11_strongest 51 = .ok (.iload_n 3, 1) := by decide +kernel
theorem dX11_strongest_52 : decode cX11_strongest 52 = .ok (.iadd, 1) := by decide +kernel
theorem dX11_strongest_53 : decode cX11_strongest 53 = .ok (.iaload, 1) := by decide +kernel
theorem dX11_strongest_54 : decode cX11_strongest 54 = .ok (.ireturn, 1) := by decide +kernel
theorem dX11_wouldStay_0 : decode cX11_wouldStay 0 = .ok (.iload_n 0, 1) := by decide +kernel
theorem dX11_wouldStay_1 : decode cX11_wouldStay 1 = .ok (.iload_n 1, 1) := by decide +kernel
theorem dX11_wouldStay_2 : decode cX11_wouldStay 2 = .ok (.iload_n 2, 1) := by decide +kernel
theorem dX11_wouldStay_3 : decode cX11_wouldStay 3 = .ok (.iload_n 3, 1) := by decide +kernel
theorem dX11_wouldStay_4 : decode cX11_wouldStay 4 = .ok (.invokestatic 341, 3) := by decide +kernel
theorem dX11_wouldStay_7 : decode cX11_wouldStay 7 = .ok (.iconst 1, 1) := by decide +kernel
theorem dX11_wouldStay_8 : decode cX11_wouldStay 8 = .ok (.iload_n 0, 1) := by decide +kernel
theorem dX11_wouldStay_9 : decode cX11_wouldStay 9 = .ok (.isub, 1) := by decide +kernel
theorem dX11_wouldStay_10 : decode cX11_wouldStay 10 = .ok (.iload_n 1, 1) := by decide +kernel
theorem dX11_wouldStay_11 : decode cX11_wouldStay 11 = .ok (.iload_n 2, 1) := by decide +kernel
theorem dX11_wouldStay_12 : decode cX11_wouldStay 12 = .ok (.iload_n 3, 1) := by decide +kernel
theorem dX11_wouldStay_13 : decode cX11_wouldStay 13 = .ok (.invokestatic 341, 3) := by decide +kernel
theorem dX11_wouldStay_16 : decode cX11_wouldStay 16 = .ok (.if_icmp .lt 7, 3) := by decide +kernel
theorem dX11_wouldStay_19 : decode cX11_wouldStay 19 = .ok (.iconst 1, 1) := by decide +kernel
theorem dX11_wouldStay_20 : decode cX11_wouldStay 20 = .ok (.goto 4, 3) := by decide +kernel
theorem dX11_wouldStay_23 : decode cX11_wouldStay 23 = .ok (.iconst 0, 1) := by decide +kernel
theorem dX11_wouldStay_24 : decode cX11_wouldStay 24 = .ok (.ireturn, 1) := by decide +kernel
theorem dX11_book_0 : decode cX11_book 0 = .ok (.aload_n 0, 1) := by decide +kernel
theorem dX11_book_1 : decode cX11_book 1 = .ok (.iload_n 1, 1) := by decide +kernel
theorem dX11_book_2 : decode cX11_book 2 = .ok (.bipush 60, 2) := by decide +kernel
theorem dX11_book_4 : decode cX11_book 4 = .ok (.invokevirtual 111, 3) := by decide +kernel
theorem dX11_book_7 : decode cX11_book 7 = .ok (.aload_n 0, 1) := by decide +kernel
theorem dX11_book_8 : decode cX11_book 8 = .ok (.getfield 43, 3) := by decide +kernel
theorem dX11_book_11 : decode cX11_book 11 = .ok (.aload_n 0, 1) := by decide +kernel
theorem dX11_book_12 : decode cX11_book 12 = .ok (.getfield 12, 3) := by decide +kernel
theorem dX11_book_15 : decode cX11_book 15 = .ok (.aload_n 0, 1) := by decide +kernel
theorem dX11_book_16 : decode cX11_book 16 = .ok (.getfield 19, 3) := by decide +kernel
theorem dX11_book_19 : decode cX11_book 19 = .ok (.getfield 171, 3) := by decide +kernel
theorem dX11_book_22 : decode cX11_book 22 = .ok (.invokevirtual 174, 3) := by decide +kernel
theorem dX11_book_25 : decode cX11_book 25 = .ok (.ifCond .ne 14, 3) := by decide +kernel
theorem dX11_book_28 : decode cX11_book 28 = .ok (.aload_n 0, 1) := by decide +kernel
theorem dX11_book_29 : decode cX11_book 29 = .ok (.getfield 12, 3) := by decide +kernel
theorem dX11_book_32 : decode cX11_book 32 = .ok (.getfield 119, 3) := by decide +kernel
theorem dX11_book_35 : decode cX11_book 35 = .ok (.bipush 10, 2) := by decide +kernel
theorem dX11_book_37 : decode cX11_book 37 = .ok (.isub, 1) := by decide +kernel
theorem dX11_book_38 : decode cX11_book 38 = .ok (.ireturn, 1) := by decide +kernel
theorem dX11_book_39 : decode cX11_book 39 = .ok (.aload_n 0, 1) := by decide +kernel
theorem dX11_book_40 : decode cX11_book 40 = .ok (.getfield 39, 3) := by decide +kernel
theorem dX11_book_43 : decode cX11_book 43 = .ok (.aload_n 0, 1) := by decide +kernel
theorem dX11_book_44 : decode cX11_book 44 = .ok (.getfield 43, 3) := by decide +kernel
theorem dX11_book_47 : decode cX11_book 47 = .ok (.invokevirtual 177, 3) := by decide +kernel
theorem dX11_book_50 : decode cX11_book 50 = .ok (.aload_n 0, 1) := by decide +kernel
theorem dX11_book_51 : decode cX11_book 51 = .ok (.getfield 39, 3) := by decide +kernel
theorem dX11_book_54 : decode cX11_book 54 = .ok (.getfield 129, 3) := by decide +kernel
theorem dX11_book_57 : decode cX11_book 57 = .ok (.ireturn, 1) := by decide +kernel
theorem dX11_bow_0 : decode cX11_bow 0 = .ok (.aload_n 0, 1) := by decide +kernel
theorem dX11_bow_1 : decode cX11_bow 1 = .ok (.iload_n 1, 1) := by decide +kernel
theorem dX11_bow_2 : decode cX11_bow 2 = .ok (.ifCond .eq 8, 3) := by decide +kernel
theorem dX11_bow_5 : decode cX11_bow 5 = .ok (.iload_n 1, 1) := by decide +kernel
theorem dX11_bow_6 : decode cX11_bow 6 = .ok (.iconst 1, 1) := by decide +kernel
theorem dX11_bow_7 : decode cX11_bow 7 = .ok (.if_icmp .ne 7, 3) := by decide +kernel
theorem dX11_bow_10 : decode cX11_bow 10 = .ok (.iconst 1, 1) := by decide +kernel
theorem dX11_bow_11 : decode cX11_bow 11 = .ok (.goto 4, 3) := by decide +kernel
theorem dX11_bow_14 : decode cX11_bow 14 = .ok (.iconst 0, 1) := by decide +kernel
theorem dX11_bow_15 : decode cX11_bow 15 = .ok (.invokevirtual 186, 3) := by decide +kernel
theorem dX11_bow_18 : decode cX11_bow 18 = .ok (.iconst (-1), 1) := by decide +kernel
theorem dX11_bow_19 : decode cX11_bow 19 = .ok (.istore_n 2, 1) := by decide +kernel
theorem dX11_bow_20 : decode cX11_bow 20 = .ok (.iconst (-1), 1) := by decide +kernel
theorem dX11_bow_21 : decode cX11_bow 21 = .ok (.istore_n 3, 1) := by decide +kernel
theorem dX11_bow_22 : decode cX11_bow 22 = .ok (.iconst 0, 1) := by decide +kernel
theorem dX11_bow_23 : decode cX11_bow 23 = .ok (.istore 4, 2) := by decide +kernel
theorem dX11_bow_25 : decode cX11_bow 25 = .ok (.iconst 3, 1) := by decide +kernel
theorem dX11_bow_26 : decode cX11_bow 26 = .ok (.istore 5, 2) := by decide +kernel
theorem dX11_bow_28 : decode cX11_bow 28 = .ok (.iload 5, 2) := by decide +kernel
theorem dX11_bow_30 : decode cX11_bow 30 = .ok (.iconst 1, 1) := by decide +kernel
theorem dX11_bow_31 : decode cX11_bow 31 = .ok (.aload_n 0, 1) := by decide +kernel
theorem dX11_bow_32 : decode cX11_bow 32 = .ok (.getfield 19, 3) := by decide +kernel
theorem dX11_bow_35 : decode cX11_bow 35 = .ok (.getfield 144, 3) := by decide +kernel
theorem dX11_bow_38 : decode cX11_bow 38 = .ok (.ishl, 1) := by decide +kernel
theorem dX11_bow_39 : decode cX11_bow 39 = .ok (.if_icmp .ge 77, 3) := by decide +kernel
theorem dX11_bow_42 : decode cX11_bow 42 = .ok (.iload 5, 2) := by decide +kernel
theorem dX11_bow_44 : decode cX11_bow 44 = .ok (.invokestatic 285, 3) := by decide +kernel
theorem dX11_bow_47 : decode cX11_bow 47 = .ok (.iconst 2, 1) := by decide +kernel
theorem dX11_bow_48 : decode cX11_bow 48 = .ok (.if_icmp .ge 6, 3) := by decide +kernel
theorem dX11_bow_51 : decode cX11_bow 51 = .ok (.goto 59, 3) := by decide +kernel
theorem dX11_bow_54 : decode cX11_bow 54 = .ok (.aload_n 0, 1) := by decide +kernel
theorem dX11_bow_55 : decode cX11_bow 55 = .ok (.getfield 67, 3) := by decide +kernel
theorem dX11_bow_58 : decode cX11_bow 58 = .ok (.iload 5, 2) := by decide +kernel
theorem dX11_bow_60 : decode cX11_bow 60 = .ok (.invokevirtual 282, 3) := by decide +kernel
theorem dX11_bow_63 : decode cX11_bow 63 = .ok (.istore 6, 2) := by decide +kernel
theorem dX11_bow_65 : decode cX11_bow 65 = .ok (.aload_n 0, 1) := by decide +kernel
theorem dX11_bow_66 : decode cX11_bow 66 = .ok (.getfield 67, 3) := by decide +kernel
theorem dX11_bow_69 : decode cX11_bow 69 = .ok (.iload 5, 2) := by decide +kernel
theorem dX11_bow_71 : decode cX11_bow 71 = .ok (.invokevirtual 290, 3) := by decide +kernel
theorem dX11_bow_74 : decode cX11_bow 74 = .ok (.istore 7, 2) := by decide +kernel
theorem dX11_bow_76 : decode cX11_bow 76 = .ok (.iload_n 2, 1) := by decide +kernel
theorem dX11_bow_77 : decode cX11_bow 77 = .ok (.iconst (-1), 1) := by decide +kernel
theorem dX11_bow_78 : decode cX11_bow 78 = .ok (.if_icmp .eq 22, 3) := by decide +kernel
theorem dX11_bow_81 : decode cX11_bow 81 = .ok (.iload 6, 2) := by decide +kernel
theorem dX11_bow_83 : decode cX11_bow 83 = .ok (.iload_n 3, 1) := by decide +kernel
theorem dX11_bow_84 : decode cX11_bow 84 = .ok (.if_icmp .lt 16, 3) := by decide +kernel
theorem dX11_bow_87 : decode cX11_bow 87 = .ok (.iload 6, 2) := by decide +kernel
theorem dX11_bow_89 : decode cX11_bow 89 = .ok (.iload_n 3, 1) := by decide +kernel
theorem dX11_bow_90 : decode cX11_bow 90 = .ok (.if_icmp .ne 20, 3) := by decide +kernel
theorem dX11_bow_93 : decode cX11_bow 93 = .ok (.iload 7, 2) := by decide +kernel
theorem dX11_bow_95 : decode cX11_bow 95 = .ok (.iload 4, 2) := by decide +kernel
theorem dX11_bow_97 : decode cX11_bow 97 = .ok (.if_icmp .le 13, 3) := by decide +kernel
theorem dX11_bow_100 : decode cX11_bow 100 = .ok (.iload 5, 2) := by decide +kernel
theorem dX11_bow_102 : decode cX11_bow 102 = .ok (.istore_n 2, 1) := by decide +kernel
theorem dX11_bow_103 : decode cX11_bow 103 = .ok (.iload 6, 2) := by decide +kernel
theorem dX11_bow_105 : decode cX11_bow 105 = .ok (.istore_n 3, 1) := by decide +kernel
theorem dX11_bow_106 : decode cX11_bow 106 = .ok (.iload 7, 2) := by decide +kernel
theorem dX11_bow_108 : decode cX11_bow 108 = .ok (.istore 4, 2) := by decide +kernel
theorem dX11_bow_110 : decode cX11_bow 110 = .ok (.iinc 5 1, 3) := by decide +kernel
theorem dX11_bow_113 : decode cX11_bow 113 = .ok (.goto (-85), 3) := by decide +kernel
theorem dX11_bow_116 : decode cX11_bow 116 = .ok (.iload_n 1, 1) := by decide +kernel
theorem dX11_bow_117 : decode cX11_bow 117 = .ok (.ifCond .ne 7, 3) := by decide +kernel
theorem dX11_bow_120 : decode cX11_bow 120 = .ok (.iload_n 2, 1) := by decide +kernel
theorem dX11_bow_121 : decode cX11_bow 121 = .ok (.goto 4, 3) := by decide +kernel
theorem dX11_bow_124 : decode cX11_bow 124 = .ok (.iload_n 3, 1) := by decide +kernel
theorem dX11_bow_125 : decode cX11_bow 125 = .ok (.ireturn, 1) := by decide +kernel
theorem dX11_joins_0 : decode cX11_joins 0 = .ok (.aload_n 0, 1) := by decide +kernel
theorem dX11_joins_1 : decode cX11_joins 1 = .ok (.iload_n 1, 1) := by decide +kernel
theorem dX11_joins_2 : decode cX11_joins 2 = .ok (.invokevirtual 221, 3) := by decide +kernel
theorem dX11_joins_5 : decode cX11_joins 5 = .ok (.aload_n 0, 1) := by decide +kernel
theorem dX11_joins_6 : decode cX11_joins 6 = .ok (.iload_n 2, 1) := by decide +kernel
theorem dX11_joins_7 : decode cX11_joins 7 = .ok (.invokevirtual 246, 3) := by decide +kernel
theorem dX11_joins_10 : decode cX11_joins 10 = .ok (.aload_n 0, 1) := by decide +kernel
theorem dX11_joins_11 : decode cX11_joins 11 = .ok (.getfield 51, 3) := by decide +kernel
theorem dX11_joins_14 : decode cX11_joins 14 = .ok (.aload_n 0, 1) := by decide +kernel
theorem dX11_joins_15 : decode cX11_joins 15 = .ok (.getfield 67, 3) := by decide +kernel
theorem dX11_joins_18 : decode cX11_joins 18 = .ok (.iload_n 1, 1) := by decide +kernel
theorem dX11_joins_19 : decode cX11_joins 19 = .ok (.iload_n 2, 1) := by decide +kernel
theorem dX11_joins_20 : decode cX11_joins 20 = .ok (.invokevirtual 354, 3) := by decide +kernel
theorem dX11_joins_23 : decode cX11_joins 23 = .ok (.ireturn, 1) := by decide +kernel
theorem dX11_green_0 : decode cX11_green 0 = .ok (.aload_n 0, 1) := by decide +kernel
theorem dX11_green_1 : decode cX11_green 1 = .ok (.iload_n 1, 1) := by decide +kernel
theorem dX11_green_2 : decode cX11_green 2 = .ok (.ifCond .lt 32, 3) := by decide +kernel
theorem dX11_green_5 : decode cX11_green 5 = .ok (.iload_n 1, 1) := by decide +kernel
theorem dX11_green_6 : decode cX11_green 6 = .ok (.bipush 12, 2) := by decide +kernel
theorem dX11_green_8 : decode cX11_green 8 = .ok (.if_icmp .gt 26, 3) := by decide +kernel
theorem dX11_green_11 : decode cX11_green 11 = .ok (.iload_n 2, 1) := by decide +kernel
theorem dX11_green_12 : decode cX11_green 12 = .ok (.ifCond .lt 22, 3) := by decide +kernel
theorem dX11_green_15 : decode cX11_green 15 = .ok (.iload_n 2, 1) := by decide +kernel
theorem dX11_green_16 : decode cX11_green 16 = .ok (.bipush 16, 2) := by decide +kernel
theorem dX11_green_18 : decode cX11_green 18 = .ok (.if_icmp .gt 16, 3) := by decide +kernel
theorem dX11_green_21 : decode cX11_green 21 = .ok (.iload_n 3, 1) := by decide +kernel
theorem dX11_green_22 : decode cX11_green 22 = .ok (.ifCond .eq 8, 3) := by decide +kernel
theorem dX11_green_25 : decode cX11_green 25 = .ok (.iload_n 3, 1) := by decide +kernel
theorem dX11_green_26 : decode cX11_green 26 = .ok (.iconst 1, 1) := by decide +kernel
theorem dX11_green_27 : decode cX11_green 27 = .ok (.if_icmp .ne 7, 3) := by decide +kernel
theorem dX11_green_30 : decode cX11_green 30 = .ok (.iconst 1, 1) := by decide +kernel
theorem dX11_green_31 : decode cX11_green 31 = .ok (.goto 4, 3) := by decide +kernel
theorem dX11_green_34 : decode cX11_green 34 = .ok (.iconst 0, 1) := by decide +kernel
theorem dX11_green_35 : decode cX11_green 35 = .ok (.invokevirtual 186, 3) := by decide +kernel
theorem dX11_green_38 : decode cX11_green 38 = .ok (.lconst 1, 1) := by decide +kernel
theorem dX11_green_39 : decode cX11_green 39 = .ok (.lstore 4, 2) := by decide +kernel
theorem dX11_green_41 : decode cX11_green 41 = .ok (.lconst 1, 1) := by decide +kernel
theorem dX11_green_42 : decode cX11_green 42 = .ok (.lstore 6, 2) := by decide +kernel
theorem dX11_green_44 : decode cX11_green 44 = .ok (.iconst 0, 1) := by decide +kernel
theorem dX11_green_45 : decode cX11_green 45 = .ok (.istore 8, 2) := by decide +kernel
theorem dX11_green_47 : decode cX11_green 47 = .ok (.iload 8, 2) := by decide +kernel
theorem dX11_green_49 : decode cX11_green 49 = .ok (.iload_n 1, 1) := by decide +kernel
theorem dX11_green_50 : decode cX11_green 50 = .ok (.if_icmp .ge 27, 3) := by decide +kernel
theorem dX11_green_53 : decode cX11_green 53 = .ok (.lload 4, 2) := by decide +kernel
theorem dX11_green_55 : decode cX11_green 55 = .ok (.ldc2_w 336, 3) := by decide +kernel
theorem dX11_green_58 : decode cX11_green 58 = .ok (.lmul, 1) := by decide +kernel
theorem dX11_green_59 : decode cX11_green 59 = .ok (.lstore 4, 2) := by decide +kernel
theorem dX11_green_61 : decode cX11_green 61 = .ok (.lload 6, 2) := by decide +kernel
theorem dX11_green_63 : decode cX11_green 63 = .ok (.bipush 16, 2) := by decide +kernel
theorem dX11_green_65 : decode cX11_green 65 = .ok (.iload_n 2, 1) := by decide +kernel
theorem dX11_green_66 : decode cX11_green 66 = .ok (.isub, 1) := by decide +kernel
theorem dX11_green_67 : decode cX11_green 67 = .ok (.i2l, 1) := by decide +kernel
theorem dX11_green_68 : decode cX11_green 68 = .ok (.lmul, 1) := by decide +kernel
theorem dX11_green_69 : decode cX11_green 69 = .ok (.lstore 6, 2) := by decide +kernel
theorem dX11_green_71 : decode cX11_green 71 = .ok (.iinc 8 1, 3) := by decide +kernel
theorem dX11_green_74 : decode cX11_green 74 = .ok (.goto (-27), 3) := by decide +kernel
theorem dX11_green_77 : decode cX11_green 77 = .ok (.lload 4, 2) := by decide +kernel
theorem dX11_green_79 : decode cX11_green 79 = .ok (.lload 6, 2) := by decide +kernel
theorem dX11_green_81 : decode cX11_green 81 = .ok (.lsub, 1) := by decide +kernel
theorem dX11_green_82 : decode cX11_green 82 = .ok (.lload 4, 2) := by decide +kernel
theorem dX11_green_84 : decode cX11_green 84 = .ok (.iload_n 3, 1) := by decide +kernel
theorem dX11_green_85 : decode cX11_green 85 = .ok (.invokestatic 332, 3) := by decide +kernel
theorem dX11_green_88 : decode cX11_green 88 = .ok (.lreturn, 1) := by decide +kernel
theorem dX11_halo_0 : decode cX11_halo 0 = .ok (.aload_n 0, 1) := by decide +kernel
theorem dX11_halo_1 : decode cX11_halo 1 = .ok (.aload_n 0, 1) := by decide +kernel
theorem dX11_halo_2 : decode cX11_halo 2 = .ok (.iload_n 1, 1) := by decide +kernel
theorem dX11_halo_3 : decode cX11_halo 3 = .ok (.invokevirtual 255, 3) := by decide +kernel
theorem dX11_halo_6 : decode cX11_halo 6 = .ok (.ifCond .eq 17, 3) := by decide +kernel
theorem dX11_halo_9 : decode cX11_halo 9 = .ok (.iload_n 2, 1) := by decide +kernel
theorem dX11_halo_10 : decode cX11_halo 10 = .ok (.ifCond .lt 13, 3) := by decide +kernel
theorem dX11_halo_13 : decode cX11_halo 13 = .ok (.iload_n 2, 1) := by decide +kernel
theorem dX11_halo_14 : decode cX11_halo 14 = .ok (.bipush 99, 2) := by decide +kernel
theorem dX11_halo_16 : decode cX11_halo 16 = .ok (.if_icmp .gt 7, 3) := by decide +kernel
theorem dX11_halo_19 : decode cX11_halo 19 = .ok (.iconst 1, 1) := by decide +kernel
theorem dX11_halo_20 : decode cX11_halo 20 = .ok (.goto 4, 3) := by decide +kernel
theorem dX11_halo_23 : decode cX11_halo 23 = .ok (.iconst 0, 1) := by decide +kernel
theorem dX11_halo_24 : decode cX11_halo 24 = .ok (.invokevirtual 186, 3) := by decide +kernel
theorem dX11_halo_27 : decode cX11_halo 27 = .ok (.aload_n 0, 1) := by decide +kernel
theorem dX11_halo_28 : decode cX11_halo 28 = .ok (.getfield 67, 3) := by decide +kernel
theorem dX11_halo_31 : decode cX11_halo 31 = .ok (.iload_n 1, 1) := by decide +kernel
theorem dX11_halo_32 : decode cX11_halo 32 = .ok (.iload_n 2, 1) := by decide +kernel
theorem dX11_halo_33 : decode cX11_halo 33 = .ok (.invokevirtual 258, 3) := by decide +kernel
theorem dX11_halo_36 : decode cX11_halo 36 = .ok (.ireturn, 1) := by decide +kernel
theorem dX11_areFellows_0 : decode cX11_areFellows 0 = .ok (.iload_n 1, 1) := by decide +kernel
theorem dX11_areFellows_1 : decode cX11_areFellows 1 = .ok (.ifCond .lt 20, 3) := by decide +kernel
theorem dX11_areFellows_4 : decode cX11_areFellows 4 = .ok (.iload_n 1, 1) := by decide +kernel
theorem dX11_areFellows_5 : decode cX11_areFellows 5 = .ok (.iconst 1, 1) := by decide +kernel
theorem dX11_areFellows_6 : decode cX11_areFellows 6 = .ok (.aload_n 0, 1) := by decide +kernel
theorem dX11_areFellows_7 : decode cX11_areFellows 7 = .ok (.getfield 19, 3) := by decide +kernel
theorem dX11_areFellows_10 : decode cX11_areFellows 10 = .ok (.getfield 144, 3) := by decide +kernel
theorem dX11_areFellows_13 : decode cX11_areFellows 13 = .ok (.ishl, 1) := by decide +kernel
theorem dX11_areFellows_14 : decode cX11_areFellows 14 = .ok (.if_icmp .ge 7, 3) := by decide +kernel
theorem dX11_areFellows_17 : decode cX11_areFellows 17 = .ok (.iconst 1, 1) := by decide +kernel
theorem dX11_areFellows_18 : decode cX11_areFellows 18 = .ok (.goto 4, 3) := by decide +kernel
theorem dX11_areFellows_21 : decode cX11_areFellows 21 = .ok (.iconst 0, 1) := by decide +kernel
theorem dX11_areFellows_22 : decode cX11_areFellows 22 = .ok (.ireturn, 1) := by decide +kernel
theorem dX11_term_0 : decode cX11_term 0 = .ok (.aload_n 0, 1) := by decide +kernel
theorem dX11_term_1 : decode cX11_term 1 = .ok (.iload_n 2, 1) := by decide +kernel
theorem dX11_term_2 : decode cX11_term 2 = .ok (.iload_n 3, 1) := by decide +kernel
theorem dX11_term_3 : decode cX11_term 3 = .ok (.invokestatic 362, 3) := by decide +kernel
theorem dX11_term_6 : decode cX11_term 6 = .ok (.ifCond .eq 18, 3) := by decide +kernel
theorem dX11_term_9 : decode cX11_term 9 = .ok (.iload 4, 2) := by decide +kernel
theorem dX11_term_11 : decode cX11_term 11 = .ok (.ifCond .lt 13, 3) := by decide +kernel
theorem dX11_term_14 : decode cX11_term 14 = .ok (.iload 4, 2) := by decide +kernel
theorem dX11_term_16 : decode cX11_term 16 = .ok (.iconst 3, 1) := by decide +kernel
theorem dX11_term_17 : decode cX11_term 17 = .ok (.if_icmp .gt 7, 3) := by decide +kernel
theorem dX11_term_20 : decode cX11_term 20 = .ok (.iconst 1, 1) := by decide +kernel
theorem dX11_term_21 : decode cX11_term 21 = .ok (.goto 4, 3) := by decide +kernel
theorem dX11_term_24 : decode cX11_term 24 = .ok (.iconst 0, 1) := by decide +kernel
theorem dX11_term_25 : decode cX11_term 25 = .ok (.invokevirtual 186, 3) := by decide +kernel
theorem dX11_term_28 : decode cX11_term 28 = .ok (.aload_n 0, 1) := by decide +kernel
theorem dX11_term_29 : decode cX11_term 29 = .ok (.getfield 99, 3) := by decide +kernel
theorem dX11_term_32 : decode cX11_term 32 = .ok (.aload_n 0, 1) := by decide +kernel
theorem dX11_term_33 : decode cX11_term 33 = .ok (.getfield 67, 3) := by decide +kernel
theorem dX11_term_36 : decode cX11_term 36 = .ok (.iload_n 1, 1) := by decide +kernel
theorem dX11_term_37 : decode cX11_term 37 = .ok (.iload_n 2, 1) := by decide +kernel
theorem dX11_term_38 : decode cX11_term 38 = .ok (.iload_n 3, 1) := by decide +kernel
theorem dX11_term_39 : decode cX11_term 39 = .ok (.invokevirtual 366, 3) := by decide +kernel
theorem dX11_term_42 : decode cX11_term 42 = .ok (.aload_n 0, 1) := by decide +kernel
theorem dX11_term_43 : decode cX11_term 43 = .ok (.getfield 99, 3) := by decide +kernel
theorem dX11_term_46 : decode cX11_term 46 = .ok (.getfield 369, 3) := by decide +kernel
theorem dX11_term_49 : decode cX11_term 49 = .ok (.astore 5, 2) := by decide +kernel
theorem dX11_term_51 : decode cX11_term 51 = .ok (.iload 4, 2) := by decide +kernel
theorem dX11_term_53 : decode cX11_term 53 = .ok (.tableswitch 77 0 2 #[27, 39, 51], 27) := by decide +kernel
theorem dX11_term_80 : decode cX11_term 80 = .ok (.aload 5, 2) := by decide +kernel
theorem dX11_term_82 : decode cX11_term 82 = .ok (.getfield 204, 3) := by decide +kernel
theorem dX11_term_85 : decode cX11_term 85 = .ok (.iconst 0, 1) := by decide +kernel
theorem dX11_term_86 : decode cX11_term 86 = .ok (.bipush 42, 2) := by decide +kernel
theorem dX11_term_88 : decode cX11_term 88 = .ok (.invokestatic 208, 3) := by decide +kernel
theorem dX11_term_91 : decode cX11_term 91 = .ok (.ireturn, 1) := by decide +kernel
theorem dX11_term_92 : decode cX11_term 92 = .ok (.aload 5, 2) := by decide +kernel
theorem dX11_term_94 : decode cX11_term 94 = .ok (.getfield 212, 3) := by decide +kernel
theorem dX11_term_97 : decode cX11_term 97 = .ok (.iconst 0, 1) := by decide +kernel
theorem dX11_term_98 : decode cX11_term 98 = .ok (.bipush 42, 2) := by decide +kernel
theorem dX11_term_100 : decode cX11_term 100 = .ok (.invokestatic 208, 3) := by decide +kernel
theorem dX11_term_103 : decode cX11_term 103 = .ok (.ireturn, 1) := by decide +kernel
theorem dX11_term_104 : decode cX11_term 104 = .ok (.aload 5, 2) := by decide +kernel
theorem dX11_term_106 : decode cX11_term 106 = .ok (.getfield 218, 3) := by decide +kernel
theorem dX11_term_109 : decode cX11_term 109 = .ok (.iconst 0, 1) := by decide +kernel
theorem dX11_term_110 : decode cX11_term 110 = .ok (.bipush 6, 2) := by decide +kernel
theorem dX11_term_112 : decode cX11_term 112 = .ok (.invokestatic 208, 3) := by decide +kernel
theorem dX11_term_115 : decode cX11_term 115 = .ok (.aload_n 0, 1) := by decide +kernel
theorem dX11_term_116 : decode cX11_term 116 = .ok (.getfield 67, 3) := by decide +kernel
theorem dX11_term_119 : decode cX11_term 119 = .ok (.getfield 218, 3) := by decide +kernel
theorem dX11_term_122 : decode cX11_term 122 = .ok (.iconst 0, 1) := by decide +kernel
theorem dX11_term_123 : decode cX11_term 123 = .ok (.bipush 6, 2) := by decide +kernel
theorem dX11_term_125 : decode cX11_term 125 = .ok (.invokestatic 208, 3) := by decide +kernel
theorem dX11_term_128 : decode cX11_term 128 = .ok (.isub, 1) := by decide +kernel
theorem dX11_term_129 : decode cX11_term 129 = .ok (.ireturn, 1) := by decide +kernel
theorem dX11_term_130 : decode cX11_term 130 = .ok (.aload 5, 2) := by decide +kernel
theorem dX11_term_132 : decode cX11_term 132 = .ok (.invokevirtual 196, 3) := by decide +kernel
theorem dX11_term_135 : decode cX11_term 135 = .ok (.ireturn, 1) := by decide +kernel
theorem dX11_power_0 : decode cX11_power 0 = .ok (.aload_n 0, 1) := by decide +kernel
theorem dX11_power_1 : decode cX11_power 1 = .ok (.iload_n 1, 1) := by decide +kernel
theorem dX11_power_2 : decode cX11_power 2 = .ok (.invokevirtual 221, 3) := by decide +kernel
theorem dX11_power_5 : decode cX11_power 5 = .ok (.aload_n 0, 1) := by decide +kernel
theorem dX11_power_6 : decode cX11_power 6 = .ok (.iload_n 2, 1) := by decide +kernel
theorem dX11_power_7 : decode cX11_power 7 = .ok (.invokestatic 240, 3) := by decide +kernel
theorem dX11_power_10 : decode cX11_power 10 = .ok (.ifCond .eq 25, 3) := by decide +kernel
theorem dX11_power_13 : decode cX11_power 13 = .ok (.iload_n 3, 1) := by decide +kernel
theorem dX11_power_14 : decode cX11_power 14 = .ok (.invokestatic 320, 3) := by decide +kernel
theorem dX11_power_17 : decode cX11_power 17 = .ok (.ifCond .eq 18, 3) := by decide +kernel
theorem dX11_power_20 : decode cX11_power 20 = .ok (.iload 4, 2) := by decide +kernel
theorem dX11_power_22 : decode cX11_power 22 = .ok (.ifCond .eq 9, 3) := by decide +kernel
theorem dX11_power_25 : decode cX11_power 25 = .ok (.iload 4, 2) := by decide +kernel
theorem dX11_power_27 : decode cX11_power 27 = .ok (.iconst 1, 1) := by decide +kernel
theorem dX11_power_28 : decode cX11_power 28 = .ok (.if_icmp .ne 7, 3) := by decide +kernel
theorem dX11_power_31 : decode cX11_power 31 = .ok (.iconst 1, 1) := by decide +kernel
theorem dX11_power_32 : decode cX11_power 32 = .ok (.goto 4, 3) := by decide +kernel
theorem dX11_power_35 : decode cX11_power 35 = .ok (.iconst 0, 1) := by decide +kernel
theorem dX11_power_36 : decode cX11_power 36 = .ok (.invokevirtual 186, 3) := by decide +kernel
theorem dX11_power_39 : decode cX11_power 39 = .ok (.iconst 0, 1) := by decide +kernel
theorem dX11_power_40 : decode cX11_power 40 = .ok (.istore 5, 2) := by decide +kernel
theorem dX11_power_42 : decode cX11_power 42 = .ok (.iconst 0, 1) := by decide +kernel
theorem dX11_power_43 : decode cX11_power 43 = .ok (.istore 6, 2) := by decide +kernel
theorem dX11_power_45 : decode cX11_power 45 = .ok (.iload 6, 2) := by decide +kernel
theorem dX11_power_47 : decode cX11_power 47 = .ok (.sipush 128, 3) := by decide +kernel
theorem dX11_power_50 : decode cX11_power 50 = .ok (.if_icmp .ge 49, 3) := by decide +kernel
theorem dX11_power_53 : decode cX11_power 53 = .ok (.aload_n 0, 1) := by decide +kernel
theorem dX11_power_54 : decode cX11_power 54 = .ok (.iload_n 1, 1) := by decide +kernel
theorem dX11_power_55 : decode cX11_power 55 = .ok (.iload_n 2, 1) := by decide +kernel
theorem dX11_power_56 : decode cX11_power 56 = .ok (.iload_n 3, 1) := by decide +kernel
theorem dX11_power_57 : decode cX11_power 57 = .ok (.iload 6, 2) := by decide +kernel
theorem dX11_power_59 : decode cX11_power 59 = .ok (.invokevirtual 323, 3) := by decide +kernel
theorem dX11_power_62 : decode cX11_power 62 = .ok (.ifCond .eq 31, 3) := by decide +kernel
theorem dX11_power_65 : decode cX11_power 65 = .ok (.iload 6, 2) := by decide +kernel
theorem dX11_power_67 : decode cX11_power 67 = .ok (.invokestatic 285, 3) := by decide +kernel
theorem dX11_power_70 : decode cX11_power 70 = .ok (.istore 7, 2) := by decide +kernel
theorem dX11_power_72 : decode cX11_power 72 = .ok (.iload 5, 2) := by decide +kernel
theorem dX11_power_74 : decode cX11_power 74 = .ok (.getstatic 327, 3) := by decide +kernel
theorem dX11_power_77 : decode cX11_power 77 = .ok (.iload 7, 2) := by decide +kernel
theorem dX11_power_79 : decode cX11_power 79 = .ok (.iaload, 1) := by decide +kernel
theorem dX11_power_80 : decode cX11_power 80 = .ok (.getstatic 327, 3) := by decide +kernel
theorem dX11_power_83 : decode cX11_power 83 = .ok (.bipush 6, 2) := by decide +kernel
theorem dX11_power_85 : decode cX11_power 85 = .ok (.iload 7, 2) := by decide +kernel
theorem dX11_power_87 : decode cX11_power 87 = .ok (.isub, 1) := by decide +kernel
theorem dX11_power_88 : decode cX11_power 88 = .ok (.iaload, 1) := by decide +kernel
theorem dX11_power_89 : decode cX11_power 89 = .ok (.imul, 1) := by decide +kernel
theorem dX11_power_90 : decode cX11_power 90 = .ok (.iadd, 1) := by decide +kernel
theorem dX11_power_91 : decode cX11_power 91 = .ok (.istore 5, 2) := by decide +kernel
theorem dX11_power_93 : decode cX11_power 93 = .ok (.iinc 6 1, 3) := by decide +kernel
theorem dX11_power_96 : decode cX11_power 96 = .ok (.goto (-51), 3) := by decide +kernel
theorem dX11_power_99 : decode cX11_power 99 = .ok (.iload 5, 2) := by decide +kernel
theorem dX11_power_101 : decode cX11_power 101 = .ok (.i2l, 1) := by decide +kernel
theorem dX11_power_102 : decode cX11_power 102 = .ok (.ldc2_w 330, 3) := by decide +kernel
theorem dX11_power_105 : decode cX11_power 105 = .ok (.iload 4, 2) := by decide +kernel
theorem dX11_power_107 : decode cX11_power 107 = .ok (.invokestatic 332, 3) := by decide +kernel
theorem dX11_power_110 : decode cX11_power 110 = .ok (.l2i, 1) := by decide +kernel
theorem dX11_power_111 : decode cX11_power 111 = .ok (.ireturn, 1) := by decide +kernel
theorem dX11_swings_0 : decode cX11_swings 0 = .ok (.aload_n 0, 1) := by decide +kernel
theorem dX11_swings_1 : decode cX11_swings 1 = .ok (.iload_n 1, 1) := by decide +kernel
theorem dX11_swings_2 : decode cX11_swings 2 = .ok (.invokevirtual 221, 3) := by decide +kernel
theorem dX11_swings_5 : decode cX11_swings 5 = .ok (.aload_n 0, 1) := by decide +kernel
theorem dX11_swings_6 : decode cX11_swings 6 = .ok (.iload_n 2, 1) := by decide +kernel
theorem dX11_swings_7 : decode cX11_swings 7 = .ok (.invokestatic 240, 3) := by decide +kernel
theorem dX11_swings_10 : decode cX11_swings 10 = .ok (.ifCond .eq 14, 3) := by decide +kernel
theorem dX11_swings_13 : decode cX11_swings 13 = .ok (.iload_n 3, 1) := by decide +kernel
theorem dX11_swings_14 : decode cX11_swings 14 = .ok (.invokestatic 320, 3) := by decide +kernel
theorem dX11_swings_17 : decode cX11_swings 17 = .ok (.ifCond .eq 7, 3) := by decide +kernel
theorem dX11_swings_20 : decode cX11_swings 20 = .ok (.iconst 1, 1) := by decide +kernel
theorem dX11_swings_21 : decode cX11_swings 21 = .ok (.goto 4, 3) := by decide +kernel
theorem dX11_swings_24 : decode cX11_swings 24 = .ok (.iconst 0, 1) := by decide +kernel
theorem dX11_swings_25 : decode cX11_swings 25 = .ok (.invokevirtual 186, 3) := by decide +kernel
theorem dX11_swings_28 : decode cX11_swings 28 = .ok (.iconst 0, 1) := by decide +kernel
theorem dX11_swings_29 : decode cX11_swings 29 = .ok (.istore 4, 2) := by decide +kernel
theorem dX11_swings_31 : decode cX11_swings 31 = .ok (.iconst 0, 1) := by decide +kernel
theorem dX11_swings_32 : decode cX11_swings 32 = .ok (.istore 5, 2) := by decide +kernel
theorem dX11_swings_34 : decode cX11_swings 34 = .ok (.iload 5, 2) := by decide +kernel
theorem dX11_swings_36 : decode cX11_swings 36 = .ok (.sipush 128, 3) := by decide +kernel
theorem dX11_swings_39 : decode cX11_swings 39 = .ok (.if_icmp .ge 31, 3) := by decide +kernel
theorem dX11_swings_42 : decode cX11_swings 42 = .ok (.iload 4, 2) := by decide +kernel
theorem dX11_swings_44 : decode cX11_swings 44 = .ok (.aload_n 0, 1) := by decide +kernel
theorem dX11_swings_45 : decode cX11_swings 45 = .ok (.iload_n 1, 1) := by decide +kernel
theorem dX11_swings_46 : decode cX11_swings 46 = .ok (.iload_n 2, 1) := by decide +kernel
theorem dX11_swings_47 : decode cX11_swings 47 = .ok (.iload_n 3, 1) := by decide +kernel
theorem dX11_swings_48 : decode cX11_swings 48 = .ok (.iload 5, 2) := by decide +kernel
theorem dX11_swings_50 : decode cX11_swings 50 = .ok (.invokevirtual 323, 3) := by decide +kernel
theorem dX11_swings_53 : decode cX11_swings 53 = .ok (.ifCond .eq 7, 3) := by decide +kernel
theorem dX11_swings_56 : decode cX11_swings 56 = .ok (.iconst 1, 1) := by decide +kernel
theorem dX11_swings_57 : decode cX11_swings 57 = .ok (.goto 4, 3) := by decide +kernel
theorem dX11_swings_60 : decode cX11_swings 60 = .ok (.iconst 0, 1) := by decide +kernel
theorem dX11_swings_61 : decode cX11_swings 61 = .ok (.iadd, 1) := by decide +kernel
theorem dX11_swings_62 : decode cX11_swings 62 = .ok (.istore 4, 2) := by decide +kernel
theorem dX11_swings_64 : decode cX11_swings 64 = .ok (.iinc 5 1, 3) := by decide +kernel
theorem dX11_swings_67 : decode cX11_swings 67 = .ok (.goto (-33), 3) := by decide +kernel
theorem dX11_swings_70 : decode cX11_swings 70 = .ok (.iload 4, 2) := by decide +kernel
theorem dX11_swings_72 : decode cX11_swings 72 = .ok (.ireturn, 1) := by decide +kernel
theorem dX11_isFellow_0 : decode cX11_isFellow 0 = .ok (.iload_n 1, 1) := by decide +kernel
theorem dX11_isFellow_1 : decode cX11_isFellow 1 = .ok (.ifCond .lt 18, 3) := by decide +kernel
theorem dX11_isFellow_4 : decode cX11_isFellow 4 = .ok (.iload_n 1, 1) := by decide +kernel
theorem dX11_isFellow_5 : decode cX11_isFellow 5 = .ok (.aload_n 0, 1) := by decide +kernel
theorem dX11_isFellow_6 : decode cX11_isFellow 6 = .ok (.getfield 19, 3) := by decide +kernel
theorem dX11_isFellow_9 : decode cX11_isFellow 9 = .ok (.getfield 144, 3) := by decide +kernel
theorem dX11_isFellow_12 : decode cX11_isFellow 12 = .ok (.if_icmp .ge 7, 3) := by decide +kernel
theorem dX11_isFellow_15 : decode cX11_isFellow 15 = .ok (.iconst 1, 1) := by decide +kernel
theorem dX11_isFellow_16 : decode cX11_isFellow 16 = .ok (.goto 4, 3) := by decide +kernel
theorem dX11_isFellow_19 : decode cX11_isFellow 19 = .ok (.iconst 0, 1) := by decide +kernel
theorem dX11_isFellow_20 : decode cX11_isFellow 20 = .ok (.ireturn, 1) := by decide +kernel
theorem inU_X11 : ∀ w ∈ u_ws RX11 TX11 18, w ∈ BIG := by
  have h : u_ws RX11 TX11 18 = [458, 460, 462, 464, 466, 468, 470, 472, 474, 476, 478, 480, 482, 484, 486, 488, 490, 492].filterMap (fun i => lw_tbl[i]?) := by decide +kernel
  have g : (u_ws RX11 TX11 18).all goodWord = true := by decide +kernel
  intro w hw
  refine inB ?_ (List.all_eq_true.mp g w hw)
  rw [h] at hw
  obtain ⟨i, -, hi⟩ := List.mem_filterMap.mp hw
  exact List.mem_of_getElem? hi
theorem fl_X11_12 : FL RX11 12 11 0 := ⟨RX11, TX11, 18, rfl, rfl, by decide, inU_X11, Or.inl (inBi 440 (by decide +kernel))⟩
theorem fl_X11_103 : FL RX11 103 8 1 := ⟨RX8, TX8, 6, rfl, rfl, by decide, inU_X8, Or.inr ⟨_, inNi (w := .fieldLinkNest "PartedFellows" 103 "PartedFellows$Tape" "filled" "I" "PartedFellows") 136 (by decide +kernel)⟩⟩
set_option maxRecDepth 20000 in
theorem cw_X8_put : Cond.code yX8_put cX8_put 3 none ∈ BIG := inB (List.mem_of_getElem? (i := 502) rfl) rfl
theorem mv_X11_107 : MV RX11 107 yX8_put cX8_put 3 none 1 := ⟨inBi 499 (by decide +kernel), inBi 500 (by decide +kernel), inBi 501 (by decide +kernel), inBi 96 (by decide +kernel), cw_X8_put, by decide +kernel, by decide +kernel, by decide +kernel⟩
theorem fl_X11_388 : FL RX11 388 11 17 := ⟨RX11, TX11, 18, rfl, rfl, by decide, inU_X11, Or.inl (inBi 457 (by decide +kernel))⟩
theorem fp_X11_388 : FP RX11 388 11 17 := ⟨RX11, TX11, 18, tyX11, rfl, rfl, by decide, inU_X11, Or.inl (inBi 457 (by decide +kernel)), tyX11_ok, nmX11, rfl, by decide +kernel⟩
theorem wn_1_391_395 : (wNew 1 391 395).all (fun w => decide (w ∈ lw_tbl) && (goodWord w || isNst w)) = true := by decide +kernel
theorem wg_1_391_395 : (wNew 1 391 395).all vx_ot = true := by decide +kernel
set_option maxRecDepth 20000 in
theorem cw_X8_open : Cond.code yX8_open cX8_open 2 none ∈ BIG := inB (List.mem_of_getElem? (i := 640) rfl) rfl
theorem mv_X11_405 : MV RX11 405 yX8_open cX8_open 2 none 1 := ⟨inBi 637 (by decide +kernel), inBi 638 (by decide +kernel), inBi 639 (by decide +kernel), inBi 96 (by decide +kernel), cw_X8_open, by decide +kernel, by decide +kernel, by decide +kernel⟩
set_option maxRecDepth 20000 in
theorem cw_X11_need : Cond.code yX11_need cX11_need 2 none ∈ BIG := inB (List.mem_of_getElem? (i := 569) rfl) rfl
theorem mv_X11_186 : MV RX11 186 yX11_need cX11_need 2 none 1 := ⟨inBi 566 (by decide +kernel), inBi 568 (by decide +kernel), inBi 1 (by decide +kernel), inBi 95 (by decide +kernel), cw_X11_need, by decide +kernel, by decide +kernel, by decide +kernel⟩
theorem fl_X11_23 : FL RX11 23 11 2 := ⟨RX11, TX11, 18, rfl, rfl, by decide, inU_X11, Or.inl (inBi 442 (by decide +kernel))⟩
theorem fl_X11_19 : FL RX11 19 11 1 := ⟨RX11, TX11, 18, rfl, rfl, by decide, inU_X11, Or.inl (inBi 441 (by decide +kernel))⟩
theorem fl_X11_29 : FL RX11 29 11 3 := ⟨RX11, TX11, 18, rfl, rfl, by decide, inU_X11, Or.inl (inBi 443 (by decide +kernel))⟩
theorem fl_X11_39 : FL RX11 39 11 5 := ⟨RX11, TX11, 18, rfl, rfl, by decide, inU_X11, Or.inl (inBi 445 (by decide +kernel))⟩
theorem fp_X11_129 : FP RX11 129 0 2 := ⟨RX0, TX0, 3, tyX0, rfl, rfl, by decide, inU_X0, Or.inr ⟨_, inNi (w := .fieldLinkNest "PartedFellows" 129 "PartedFellows$Book" "lines" "I" "PartedFellows") 227 (by decide +kernel)⟩, tyX0_ok, nmX0, rfl, by decide +kernel⟩
theorem fl_X11_67 : FL RX11 67 11 9 := ⟨RX11, TX11, 18, rfl, rfl, by decide, inU_X11, Or.inl (inBi 449 (by decide +kernel))⟩
theorem fl_X11_74 : FL RX11 74 11 10 := ⟨RX11, TX11, 18, rfl, rfl, by decide, inU_X11, Or.inl (inBi 450 (by decide +kernel))⟩
theorem fp_X11_135 : FP RX11 135 7 1 := ⟨RX7, TX7, 2, tyX7, rfl, rfl, by decide, inU_X7, Or.inr ⟨_, inNi (w := .fieldLinkNest "PartedFellows" 135 "PartedFellows$Past" "works" "I" "PartedFellows") 355 (by decide +kernel)⟩, tyX7_ok, nmX7, rfl, by decide +kernel⟩
theorem fp_X11_138 : FP RX11 138 11 12 := ⟨RX11, TX11, 18, tyX11, rfl, rfl, by decide, inU_X11, Or.inl (inBi 452 (by decide +kernel)), tyX11_ok, nmX11, rfl, by decide +kernel⟩
theorem fp_X11_141 : FP RX11 141 11 13 := ⟨RX11, TX11, 18, tyX11, rfl, rfl, by decide, inU_X11, Or.inl (inBi 453 (by decide +kernel)), tyX11_ok, nmX11, rfl, by decide +kernel⟩
theorem fl_X11_144 : FL RX11 144 1 3 := ⟨RX1, TX1, 6, rfl, rfl, by decide, inU_X1, Or.inr ⟨_, inNi (w := .fieldLinkNest "PartedFellows" 144 "PartedFellows$College" "fellows" "I" "PartedFellows") 174 (by decide +kernel)⟩⟩
set_option maxRecDepth 20000 in
theorem cw_X2_open : Cond.code yX2_open cX2_open 2 none ∈ BIG := inB (List.mem_of_getElem? (i := 759) rfl) rfl
theorem mv_X11_132 : MV RX11 132 yX2_open cX2_open 2 none 1 := ⟨inBi 756 (by decide +kernel), inBi 757 (by decide +kernel), inBi 758 (by decide +kernel), inBi 102 (by decide +kernel), cw_X2_open, by decide +kernel, by decide +kernel, by decide +kernel⟩
set_option maxRecDepth 20000 in
theorem cw_X4_becomePlain : Cond.code yX4_becomePlain cX4_becomePlain 1 none ∈ BIG := inB (List.mem_of_getElem? (i := 207) rfl) rfl
theorem mv_X11_126 : MV RX11 126 yX4_becomePlain cX4_becomePlain 1 none 0 := ⟨inBi 755 (by decide +kernel), inBi 205 (by decide +kernel), inBi 206 (by decide +kernel), inBi 98 (by decide +kernel), cw_X4_becomePlain, by decide +kernel, by decide +kernel, by decide +kernel⟩
set_option maxRecDepth 20000 in
theorem cw_X1_copyFrom : Cond.code yX1_copyFrom cX1_copyFrom 2 none ∈ BIG := inB (List.mem_of_getElem? (i := 753) rfl) rfl
theorem mv_X11_122 : MV RX11 122 yX1_copyFrom cX1_copyFrom 2 none 1 := ⟨inBi 750 (by decide +kernel), inBi 751 (by decide +kernel), inBi 752 (by decide +kernel), inBi 97 (by decide +kernel), cw_X1_copyFrom, by decide +kernel, by decide +kernel, by decide +kernel⟩
theorem fl_X11_119 : FL RX11 119 8 4 := ⟨RX8, TX8, 6, rfl, rfl, by decide, inU_X8, Or.inr ⟨_, inNi (w := .fieldLinkNest "PartedFellows" 119 "PartedFellows$Tape" "faultKind" "I" "PartedFellows") 141 (by decide +kernel)⟩⟩
set_option maxRecDepth 20000 in
theorem cw_X1_read : Cond.code yX1_read cX1_read 3 (some .boolean) ∈ BIG := inB (List.mem_of_getElem? (i := 644) rfl) rfl
theorem mv_X11_115 : MV RX11 115 yX1_read cX1_read 3 (some .boolean) 1 := ⟨inBi 641 (by decide +kernel), inBi 642 (by decide +kernel), inBi 643 (by decide +kernel), inBi 97 (by decide +kernel), cw_X1_read, by decide +kernel, by decide +kernel, by decide +kernel⟩
set_option maxRecDepth 20000 in
theorem cw_X11_startText : Cond.code yX11_startText cX11_startText 3 none ∈ BIG := inB (List.mem_of_getElem? (i := 565) rfl) rfl
theorem mv_X11_111 : MV RX11 111 yX11_startText cX11_startText 3 none 2 := ⟨inBi 562 (by decide +kernel), inBi 564 (by decide +kernel), inBi 0 (by decide +kernel), inBi 95 (by decide +kernel), cw_X11_startText, by decide +kernel, by decide +kernel, by decide +kernel⟩
theorem fl_X11_33 : FL RX11 33 11 4 := ⟨RX11, TX11, 18, rfl, rfl, by decide, inU_X11, Or.inl (inBi 444 (by decide +kernel))⟩
set_option maxRecDepth 20000 in
theorem cw_X4_copyFrom : Cond.code yX4_copyFrom cX4_copyFrom 2 none ∈ BIG := inB (List.mem_of_getElem? (i := 803) rfl) rfl
theorem mv_X11_148 : MV RX11 148 yX4_copyFrom cX4_copyFrom 2 none 1 := ⟨inBi 800 (by decide +kernel), inBi 801 (by decide +kernel), inBi 802 (by decide +kernel), inBi 98 (by decide +kernel), cw_X4_copyFrom, by decide +kernel, by decide +kernel, by decide +kernel⟩
set_option maxRecDepth 20000 in
theorem cw_X4_read : Cond.code yX4_read cX4_read 2 (some .boolean) ∈ BIG := inB (List.mem_of_getElem? (i := 771) rfl) rfl
theorem mv_X11_147 : MV RX11 147 yX4_read cX4_read 2 (some .boolean) 1 := ⟨inBi 768 (by decide +kernel), inBi 769 (by decide +kernel), inBi 770 (by decide +kernel), inBi 98 (by decide +kernel), cw_X4_read, by decide +kernel, by decide +kernel, by decide +kernel⟩
theorem fl_X11_135 : FL RX11 135 7 1 := ⟨RX7, TX7, 2, rfl, rfl, by decide, inU_X7, Or.inr ⟨_, inNi (w := .fieldLinkNest "PartedFellows" 135 "PartedFellows$Past" "works" "I" "PartedFellows") 355 (by decide +kernel)⟩⟩
theorem fl_X11_60 : FL RX11 60 11 8 := ⟨RX11, TX11, 18, rfl, rfl, by decide, inU_X11, Or.inl (inBi 448 (by decide +kernel))⟩
theorem fl_X11_158 : FL RX11 158 10 8 := ⟨RX10, TX10, 12, rfl, rfl, by decide, inU_X10, Or.inr ⟨_, inNi (w := .fieldLinkNest "PartedFellows" 158 "PartedFellows$Work" "written" "I" "PartedFellows") 273 (by decide +kernel)⟩⟩
theorem fl_X11_165 : FL RX11 165 10 11 := ⟨RX10, TX10, 12, rfl, rfl, by decide, inU_X10, Or.inr ⟨_, inNi (w := .fieldLinkNest "PartedFellows" 165 "PartedFellows$Work" "refused" "I" "PartedFellows") 278 (by decide +kernel)⟩⟩
theorem fl_X11_168 : FL RX11 168 10 10 := ⟨RX10, TX10, 12, rfl, rfl, by decide, inU_X10, Or.inr ⟨_, inNi (w := .fieldLinkNest "PartedFellows" 168 "PartedFellows$Work" "done" "I" "PartedFellows") 276 (by decide +kernel)⟩⟩
theorem mn_X11_161 : MVN RX11 161 yX10_perform cX10_perform 8 none 4 := ⟨⟨_, inNi (w := .methodLinkNest RX11 161 yX10_perform "PartedFellows") 844 (by decide +kernel)⟩, inBi 846 (by decide +kernel), inBi 13 (by decide +kernel), inBi 101 (by decide +kernel), cw_X10_perform, by decide +kernel, by decide +kernel, by decide +kernel⟩
set_option maxRecDepth 20000 in
theorem cw_X7_push : Cond.code yX7_push cX7_push 2 none ∈ BIG := inB (List.mem_of_getElem? (i := 843) rfl) rfl
theorem mv_X11_154 : MV RX11 154 yX7_push cX7_push 2 none 1 := ⟨inBi 840 (by decide +kernel), inBi 841 (by decide +kernel), inBi 842 (by decide +kernel), inBi 103 (by decide +kernel), cw_X7_push, by decide +kernel, by decide +kernel, by decide +kernel⟩
set_option maxRecDepth 20000 in
theorem cw_X10_read : Cond.code yX10_read cX10_read 1 (some .boolean) ∈ BIG := inB (List.mem_of_getElem? (i := 815) rfl) rfl
theorem mv_X11_151 : MV RX11 151 yX10_read cX10_read 1 (some .boolean) 0 := ⟨inBi 812 (by decide +kernel), inBi 813 (by decide +kernel), inBi 814 (by decide +kernel), inBi 101 (by decide +kernel), cw_X10_read, by decide +kernel, by decide +kernel, by decide +kernel⟩
theorem fl_X11_43 : FL RX11 43 11 6 := ⟨RX11, TX11, 18, rfl, rfl, by decide, inU_X11, Or.inl (inBi 446 (by decide +kernel))⟩
theorem fl_X11_171 : FL RX11 171 1 5 := ⟨RX1, TX1, 6, rfl, rfl, by decide, inU_X1, Or.inr ⟨_, inNi (w := .fieldLinkNest "PartedFellows" 171 "PartedFellows$College" "places" "I" "PartedFellows") 184 (by decide +kernel)⟩⟩
theorem fl_X11_129 : FL RX11 129 0 2 := ⟨RX0, TX0, 3, rfl, rfl, by decide, inU_X0, Or.inr ⟨_, inNi (w := .fieldLinkNest "PartedFellows" 129 "PartedFellows$Book" "lines" "I" "PartedFellows") 227 (by decide +kernel)⟩⟩
set_option maxRecDepth 20000 in
theorem cw_X0_copyFrom : Cond.code yX0_copyFrom cX0_copyFrom 2 none ∈ BIG := inB (List.mem_of_getElem? (i := 934) rfl) rfl
theorem mv_X11_177 : MV RX11 177 yX0_copyFrom cX0_copyFrom 2 none 1 := ⟨inBi 931 (by decide +kernel), inBi 932 (by decide +kernel), inBi 933 (by decide +kernel), inBi 99 (by decide +kernel), cw_X0_copyFrom, by decide +kernel, by decide +kernel, by decide +kernel⟩
set_option maxRecDepth 20000 in
theorem cw_X0_read : Cond.code yX0_read cX0_read 4 (some .boolean) ∈ BIG := inB (List.mem_of_getElem? (i := 920) rfl) rfl
theorem mv_X11_174 : MV RX11 174 yX0_read cX0_read 4 (some .boolean) 2 := ⟨inBi 917 (by decide +kernel), inBi 918 (by decide +kernel), inBi 919 (by decide +kernel), inBi 99 (by decide +kernel), cw_X0_read, by decide +kernel, by decide +kernel, by decide +kernel⟩
theorem fl_X11_180 : FL RX11 180 8 5 := ⟨RX8, TX8, 6, rfl, rfl, by decide, inU_X8, Or.inr ⟨_, inNi (w := .fieldLinkNest "PartedFellows" 180 "PartedFellows$Tape" "faultPlace" "I" "PartedFellows") 143 (by decide +kernel)⟩⟩
set_option maxRecDepth 20000 in
theorem cw_X7_popInto : Cond.code yX7_popInto cX7_popInto 2 none ∈ BIG := inB (List.mem_of_getElem? (i := 514) rfl) rfl
theorem mv_X11_183 : MV RX11 183 yX7_popInto cX7_popInto 2 none 1 := ⟨inBi 511 (by decide +kernel), inBi 512 (by decide +kernel), inBi 513 (by decide +kernel), inBi 103 (by decide +kernel), cw_X7_popInto, by decide +kernel, by decide +kernel, by decide +kernel⟩
theorem fl_X11_190 : FL RX11 190 1 4 := ⟨RX1, TX1, 6, rfl, rfl, by decide, inU_X1, Or.inr ⟨_, inNi (w := .fieldLinkNest "PartedFellows" 190 "PartedFellows$College" "glasses" "I" "PartedFellows") 181 (by decide +kernel)⟩⟩
theorem fl_X11_193 : FL RX11 193 2 5 := ⟨RX2, TX2, 6, rfl, rfl, by decide, inU_X2, Or.inr ⟨_, inNi (w := .fieldLinkNest "PartedFellows" 193 "PartedFellows$Hall" "day" "I" "PartedFellows") 330 (by decide +kernel)⟩⟩
set_option maxRecDepth 20000 in
theorem cw_X2_whiteBits : Cond.code yX2_whiteBits cX2_whiteBits 3 (some .int) ∈ BIG := inB (List.mem_of_getElem? (i := 946) rfl) rfl
theorem mv_X11_196 : MV RX11 196 yX2_whiteBits cX2_whiteBits 3 (some .int) 0 := ⟨inBi 943 (by decide +kernel), inBi 944 (by decide +kernel), inBi 945 (by decide +kernel), inBi 102 (by decide +kernel), cw_X2_whiteBits, by decide +kernel, by decide +kernel, by decide +kernel⟩
set_option maxRecDepth 20000 in
theorem cw_X2_litBits : Cond.code yX2_litBits cX2_litBits 4 (some .int) ∈ BIG := inB (List.mem_of_getElem? (i := 969) rfl) rfl
theorem mv_X11_200 : MV RX11 200 yX2_litBits cX2_litBits 4 (some .int) 1 := ⟨inBi 966 (by decide +kernel), inBi 967 (by decide +kernel), inBi 968 (by decide +kernel), inBi 102 (by decide +kernel), cw_X2_litBits, by decide +kernel, by decide +kernel, by decide +kernel⟩
theorem fl_X11_204 : FL RX11 204 2 0 := ⟨RX2, TX2, 6, rfl, rfl, by decide, inU_X2, Or.inr ⟨_, inNi (w := .fieldLinkNest "PartedFellows" 204 "PartedFellows$Hall" "within" "[I" "PartedFellows") 312 (by decide +kernel)⟩⟩
theorem ms_X11_208 : MS RX11 208 yX11_sum cX11_sum 5 (some .int) 3 := ⟨Or.inl (inBi 970 (by decide +kernel)), inBi 869 (by decide +kernel), inBi 95 (by decide +kernel), cw_X11_sum, by decide +kernel, by decide +kernel, by decide +kernel⟩
theorem fl_X11_212 : FL RX11 212 2 1 := ⟨RX2, TX2, 6, rfl, rfl, by decide, inU_X2, Or.inr ⟨_, inNi (w := .fieldLinkNest "PartedFellows" 212 "PartedFellows$Hall" "wall" "[I" "PartedFellows") 316 (by decide +kernel)⟩⟩
theorem fl_X11_215 : FL RX11 215 2 3 := ⟨RX2, TX2, 6, rfl, rfl, by decide, inU_X2, Or.inr ⟨_, inNi (w := .fieldLinkNest "PartedFellows" 215 "PartedFellows$Hall" "taken" "[I" "PartedFellows") 323 (by decide +kernel)⟩⟩
theorem fl_X11_141 : FL RX11 141 11 13 := ⟨RX11, TX11, 18, rfl, rfl, by decide, inU_X11, Or.inl (inBi 453 (by decide +kernel))⟩
theorem fl_X11_218 : FL RX11 218 2 4 := ⟨RX2, TX2, 6, rfl, rfl, by decide, inU_X2, Or.inr ⟨_, inNi (w := .fieldLinkNest "PartedFellows" 218 "PartedFellows$Hall" "turns" "[I" "PartedFellows") 326 (by decide +kernel)⟩⟩
theorem fl_X11_385 : FL RX11 385 11 16 := ⟨RX11, TX11, 18, rfl, rfl, by decide, inU_X11, Or.inl (inBi 456 (by decide +kernel))⟩
theorem fp_X11_385 : FP RX11 385 11 16 := ⟨RX11, TX11, 18, tyX11, rfl, rfl, by decide, inU_X11, Or.inl (inBi 456 (by decide +kernel)), tyX11_ok, nmX11, rfl, by decide +kernel⟩
theorem wn_0_398_402 : (wNew 0 398 402).all (fun w => decide (w ∈ lw_tbl) && (goodWord w || isNst w)) = true := by decide +kernel
theorem wg_0_398_402 : (wNew 0 398 402).all vx_ot = true := by decide +kernel
set_option maxRecDepth 20000 in
theorem cw_X11_isFellow : Cond.code yX11_isFellow cX11_isFellow 2 (some .boolean) ∈ BIG := inB (List.mem_of_getElem? (i := 986) rfl) rfl
theorem mv_X11_372 : MV RX11 372 yX11_isFellow cX11_isFellow 2 (some .boolean) 1 := ⟨inBi 983 (by decide +kernel), inBi 985 (by decide +kernel), inBi 17 (by decide +kernel), inBi 95 (by decide +kernel), cw_X11_isFellow, by decide +kernel, by decide +kernel, by decide +kernel⟩
theorem mv_X11_224 : MV RX11 224 yX2_allWithin cX2_allWithin 2 (some .int) 1 := ⟨inBi 1003 (by decide +kernel), inBi 865 (by decide +kernel), inBi 866 (by decide +kernel), inBi 102 (by decide +kernel), cw_X2_allWithin, by decide +kernel, by decide +kernel, by decide +kernel⟩
set_option maxRecDepth 20000 in
theorem cw_X2_darkBits : Cond.code yX2_darkBits cX2_darkBits 5 (some .int) ∈ BIG := inB (List.mem_of_getElem? (i := 1007) rfl) rfl
theorem mv_X11_227 : MV RX11 227 yX2_darkBits cX2_darkBits 5 (some .int) 1 := ⟨inBi 1004 (by decide +kernel), inBi 1005 (by decide +kernel), inBi 1006 (by decide +kernel), inBi 102 (by decide +kernel), cw_X2_darkBits, by decide +kernel, by decide +kernel, by decide +kernel⟩
theorem mv_X11_230 : MV RX11 230 yX2_isWhite cX2_isWhite 2 (some .boolean) 1 := ⟨inBi 1008 (by decide +kernel), inBi 948 (by decide +kernel), inBi 949 (by decide +kernel), inBi 102 (by decide +kernel), cw_X2_isWhite, by decide +kernel, by decide +kernel, by decide +kernel⟩
set_option maxRecDepth 20000 in
theorem cw_X2_leastPlace : Cond.code yX2_leastPlace cX2_leastPlace 4 (some .int) ∈ BIG := inB (List.mem_of_getElem? (i := 1012) rfl) rfl
theorem mv_X11_234 : MV RX11 234 yX2_leastPlace cX2_leastPlace 4 (some .int) 1 := ⟨inBi 1009 (by decide +kernel), inBi 1010 (by decide +kernel), inBi 1011 (by decide +kernel), inBi 102 (by decide +kernel), cw_X2_leastPlace, by decide +kernel, by decide +kernel, by decide +kernel⟩
set_option maxRecDepth 20000 in
theorem cw_X2_greatestPlace : Cond.code yX2_greatestPlace cX2_greatestPlace 4 (some .int) ∈ BIG := inB (List.mem_of_getElem? (i := 1016) rfl) rfl
theorem mv_X11_237 : MV RX11 237 yX2_greatestPlace cX2_greatestPlace 4 (some .int) 1 := ⟨inBi 1013 (by decide +kernel), inBi 1014 (by decide +kernel), inBi 1015 (by decide +kernel), inBi 102 (by decide +kernel), cw_X2_greatestPlace, by decide +kernel, by decide +kernel, by decide +kernel⟩
set_option maxRecDepth 20000 in
theorem cw_X11_needFellow : Cond.code yX11_needFellow cX11_needFellow 2 none ∈ BIG := inB (List.mem_of_getElem? (i := 982) rfl) rfl
theorem mv_X11_221 : MV RX11 221 yX11_needFellow cX11_needFellow 2 none 1 := ⟨inBi 979 (by decide +kernel), inBi 981 (by decide +kernel), inBi 16 (by decide +kernel), inBi 95 (by decide +kernel), cw_X11_needFellow, by decide +kernel, by decide +kernel, by decide +kernel⟩
theorem fl_X11_243 : FL RX11 243 2 2 := ⟨RX2, TX2, 6, rfl, rfl, by decide, inU_X2, Or.inr ⟨_, inNi (w := .fieldLinkNest "PartedFellows" 243 "PartedFellows$Hall" "at" "[I" "PartedFellows") 320 (by decide +kernel)⟩⟩
set_option maxRecDepth 20000 in
theorem cw_X11_isPart : Cond.code yX11_isPart cX11_isPart 1 (some .boolean) ∈ BIG := inB (List.mem_of_getElem? (i := 1026) rfl) rfl
theorem ms_X11_240 : MS RX11 240 yX11_isPart cX11_isPart 1 (some .boolean) 1 := ⟨Or.inl (inBi 1024 (by decide +kernel)), inBi 1025 (by decide +kernel), inBi 95 (by decide +kernel), cw_X11_isPart, by decide +kernel, by decide +kernel, by decide +kernel⟩
theorem fl_X11_252 : FL RX11 252 1 2 := ⟨RX1, TX1, 6, rfl, rfl, by decide, inU_X1, Or.inr ⟨_, inNi (w := .fieldLinkNest "PartedFellows" 252 "PartedFellows$College" "kinds" "[I" "PartedFellows") 170 (by decide +kernel)⟩⟩
theorem fl_X11_249 : FL RX11 249 1 1 := ⟨RX1, TX1, 6, rfl, rfl, by decide, inU_X1, Or.inr ⟨_, inNi (w := .fieldLinkNest "PartedFellows" 249 "PartedFellows$College" "bends" "[I" "PartedFellows") 168 (by decide +kernel)⟩⟩
set_option maxRecDepth 20000 in
theorem cw_X11_needGlass : Cond.code yX11_needGlass cX11_needGlass 2 none ∈ BIG := inB (List.mem_of_getElem? (i := 1037) rfl) rfl
theorem mv_X11_246 : MV RX11 246 yX11_needGlass cX11_needGlass 2 none 1 := ⟨inBi 1034 (by decide +kernel), inBi 1036 (by decide +kernel), inBi 18 (by decide +kernel), inBi 95 (by decide +kernel), cw_X11_needGlass, by decide +kernel, by decide +kernel, by decide +kernel⟩
set_option maxRecDepth 20000 in
theorem cw_X2_muchNear : Cond.code yX2_muchNear cX2_muchNear 5 (some .int) ∈ BIG := inB (List.mem_of_getElem? (i := 529) rfl) rfl
theorem mv_X11_258 : MV RX11 258 yX2_muchNear cX2_muchNear 5 (some .int) 2 := ⟨inBi 526 (by decide +kernel), inBi 527 (by decide +kernel), inBi 528 (by decide +kernel), inBi 102 (by decide +kernel), cw_X2_muchNear, by decide +kernel, by decide +kernel, by decide +kernel⟩
set_option maxRecDepth 20000 in
theorem cw_X11_isPlace : Cond.code yX11_isPlace cX11_isPlace 2 (some .boolean) ∈ BIG := inB (List.mem_of_getElem? (i := 1049) rfl) rfl
theorem mv_X11_255 : MV RX11 255 yX11_isPlace cX11_isPlace 2 (some .boolean) 1 := ⟨inBi 1046 (by decide +kernel), inBi 1048 (by decide +kernel), inBi 19 (by decide +kernel), inBi 95 (by decide +kernel), cw_X11_isPlace, by decide +kernel, by decide +kernel, by decide +kernel⟩
theorem fl_X11_51 : FL RX11 51 11 7 := ⟨RX11, TX11, 18, rfl, rfl, by decide, inU_X11, Or.inl (inBi 447 (by decide +kernel))⟩
theorem mv_X11_262 : MV RX11 262 yX5_turnOf cX5_turnOf 6 (some .int) 5 := ⟨inBi 1057 (by decide +kernel), inBi 872 (by decide +kernel), inBi 873 (by decide +kernel), inBi 100 (by decide +kernel), cw_X5_turnOf, by decide +kernel, by decide +kernel, by decide +kernel⟩
theorem fl_X11_266 : FL RX11 266 5 2 := ⟨RX5, TX5, 5, rfl, rfl, by decide, inU_X5, Or.inr ⟨_, inNi (w := .fieldLinkNest "PartedFellows" 266 "PartedFellows$Optics" "known" "[I" "PartedFellows") 244 (by decide +kernel)⟩⟩
theorem mv_X11_273 : MV RX11 273 yX5_bounded cX5_bounded 2 (some .int) 1 := ⟨inBi 1066 (by decide +kernel), inBi 883 (by decide +kernel), inBi 884 (by decide +kernel), inBi 100 (by decide +kernel), cw_X5_bounded, by decide +kernel, by decide +kernel, by decide +kernel⟩
theorem mv_X11_269 : MV RX11 269 yX4_valueFor cX4_valueFor 5 (some .int) 1 := ⟨inBi 1065 (by decide +kernel), inBi 876 (by decide +kernel), inBi 877 (by decide +kernel), inBi 98 (by decide +kernel), cw_X4_valueFor, by decide +kernel, by decide +kernel, by decide +kernel⟩
set_option maxRecDepth 20000 in
theorem cw_X2_wallAfter : Cond.code yX2_wallAfter cX2_wallAfter 4 (some .int) ∈ BIG := inB (List.mem_of_getElem? (i := 1077) rfl) rfl
theorem mv_X11_276 : MV RX11 276 yX2_wallAfter cX2_wallAfter 4 (some .int) 1 := ⟨inBi 1074 (by decide +kernel), inBi 1075 (by decide +kernel), inBi 1076 (by decide +kernel), inBi 102 (by decide +kernel), cw_X2_wallAfter, by decide +kernel, by decide +kernel, by decide +kernel⟩
theorem mv_X11_282 : MV RX11 282 yX2_spreadOf cX2_spreadOf 7 (some .int) 1 := ⟨inBi 1089 (by decide +kernel), inBi 952 (by decide +kernel), inBi 953 (by decide +kernel), inBi 102 (by decide +kernel), cw_X2_spreadOf, by decide +kernel, by decide +kernel, by decide +kernel⟩
set_option maxRecDepth 20000 in
theorem cw_X11_areFellows : Cond.code yX11_areFellows cX11_areFellows 2 (some .boolean) ∈ BIG := inB (List.mem_of_getElem? (i := 1088) rfl) rfl
theorem mv_X11_279 : MV RX11 279 yX11_areFellows cX11_areFellows 2 (some .boolean) 1 := ⟨inBi 1085 (by decide +kernel), inBi 1087 (by decide +kernel), inBi 20 (by decide +kernel), inBi 95 (by decide +kernel), cw_X11_areFellows, by decide +kernel, by decide +kernel, by decide +kernel⟩
theorem mv_X11_290 : MV RX11 290 yX2_muchWithin cX2_muchWithin 2 (some .int) 1 := ⟨inBi 1103 (by decide +kernel), inBi 958 (by decide +kernel), inBi 959 (by decide +kernel), inBi 102 (by decide +kernel), cw_X2_muchWithin, by decide +kernel, by decide +kernel, by decide +kernel⟩
set_option maxRecDepth 20000 in
theorem cw_J6_bitCount_0f7a4 : Cond.code yJ6_bitCount_0f7a4 cJ6_bitCount_0f7a4 1 (some .int) ∈ BIG := inB (List.mem_of_getElem? (i := 1099) rfl) rfl
theorem ms_X11_285 : MS RX11 285 yJ6_bitCount_0f7a4 cJ6_bitCount_0f7a4 1 (some .int) 1 := ⟨Or.inl (inBi 1097 (by decide +kernel)), inBi 1098 (by decide +kernel), inBi 120 (by decide +kernel), cw_J6_bitCount_0f7a4, by decide +kernel, by decide +kernel, by decide +kernel⟩
set_option maxRecDepth 20000 in
theorem cw_X5_sumOfTurns : Cond.code yX5_sumOfTurns cX5_sumOfTurns 4 (some .int) ∈ BIG := inB (List.mem_of_getElem? (i := 1118) rfl) rfl
theorem mv_X11_297 : MV RX11 297 yX5_sumOfTurns cX5_sumOfTurns 4 (some .int) 1 := ⟨inBi 1115 (by decide +kernel), inBi 1116 (by decide +kernel), inBi 1117 (by decide +kernel), inBi 100 (by decide +kernel), cw_X5_sumOfTurns, by decide +kernel, by decide +kernel, by decide +kernel⟩
set_option maxRecDepth 20000 in
theorem cw_X5_turnByAllGlasses : Cond.code yX5_turnByAllGlasses cX5_turnByAllGlasses 5 none ∈ BIG := inB (List.mem_of_getElem? (i := 1114) rfl) rfl
theorem mv_X11_293 : MV RX11 293 yX5_turnByAllGlasses cX5_turnByAllGlasses 5 none 3 := ⟨inBi 1111 (by decide +kernel), inBi 1112 (by decide +kernel), inBi 1113 (by decide +kernel), inBi 100 (by decide +kernel), cw_X5_turnByAllGlasses, by decide +kernel, by decide +kernel, by decide +kernel⟩
theorem fl_X11_90 : FL RX11 90 11 14 := ⟨RX11, TX11, 18, rfl, rfl, by decide, inU_X11, Or.inl (inBi 454 (by decide +kernel))⟩
theorem fl_X11_311 : FL RX11 311 6 7 := ⟨RX6, TX6, 8, rfl, rfl, by decide, inU_X6, Or.inr ⟨_, inNi (w := .fieldLinkNest "PartedFellows" 311 "PartedFellows$Pairs" "earliest" "I" "PartedFellows") 400 (by decide +kernel)⟩⟩
theorem fl_X11_308 : FL RX11 308 6 6 := ⟨RX6, TX6, 8, rfl, rfl, by decide, inU_X6, Or.inr ⟨_, inNi (w := .fieldLinkNest "PartedFellows" 308 "PartedFellows$Pairs" "found" "I" "PartedFellows") 398 (by decide +kernel)⟩⟩
set_option maxRecDepth 20000 in
theorem cw_X6_gather : Cond.code yX6_gather cX6_gather 4 none ∈ BIG := inB (List.mem_of_getElem? (i := 1137) rfl) rfl
theorem mv_X11_305 : MV RX11 305 yX6_gather cX6_gather 4 none 1 := ⟨inBi 1134 (by decide +kernel), inBi 1135 (by decide +kernel), inBi 1136 (by decide +kernel), inBi 105 (by decide +kernel), cw_X6_gather, by decide +kernel, by decide +kernel, by decide +kernel⟩
set_option maxRecDepth 20000 in
theorem cw_X6_leftAtWorst : Cond.code yX6_leftAtWorst cX6_leftAtWorst 5 (some .int) ∈ BIG := inB (List.mem_of_getElem? (i := 1164) rfl) rfl
theorem mv_X11_317 : MV RX11 317 yX6_leftAtWorst cX6_leftAtWorst 5 (some .int) 1 := ⟨inBi 1161 (by decide +kernel), inBi 1162 (by decide +kernel), inBi 1163 (by decide +kernel), inBi 105 (by decide +kernel), cw_X6_leftAtWorst, by decide +kernel, by decide +kernel, by decide +kernel⟩
set_option maxRecDepth 20000 in
theorem cw_X0_tells : Cond.code yX0_tells cX0_tells 3 (some .boolean) ∈ BIG := inB (List.mem_of_getElem? (i := 1160) rfl) rfl
theorem mv_X11_314 : MV RX11 314 yX0_tells cX0_tells 3 (some .boolean) 1 := ⟨inBi 1157 (by decide +kernel), inBi 1158 (by decide +kernel), inBi 1159 (by decide +kernel), inBi 99 (by decide +kernel), cw_X0_tells, by decide +kernel, by decide +kernel, by decide +kernel⟩
set_option maxRecDepth 20000 in
theorem cw_X11_isSwing : Cond.code yX11_isSwing cX11_isSwing 7 (some .boolean) ∈ BIG := inB (List.mem_of_getElem? (i := 1179) rfl) rfl
theorem mv_X11_323 : MV RX11 323 yX11_isSwing cX11_isSwing 7 (some .boolean) 4 := ⟨inBi 1176 (by decide +kernel), inBi 1178 (by decide +kernel), inBi 22 (by decide +kernel), inBi 95 (by decide +kernel), cw_X11_isSwing, by decide +kernel, by decide +kernel, by decide +kernel⟩
set_option maxRecDepth 20000 in
theorem cw_X11_isQuota : Cond.code yX11_isQuota cX11_isQuota 1 (some .boolean) ∈ BIG := inB (List.mem_of_getElem? (i := 1175) rfl) rfl
theorem ms_X11_320 : MS RX11 320 yX11_isQuota cX11_isQuota 1 (some .boolean) 1 := ⟨Or.inl (inBi 1173 (by decide +kernel)), inBi 1174 (by decide +kernel), inBi 95 (by decide +kernel), cw_X11_isQuota, by decide +kernel, by decide +kernel, by decide +kernel⟩
set_option maxRecDepth 20000 in
theorem cw_X11_inLeastTerms : Cond.code yX11_inLeastTerms cX11_inLeastTerms 12 (some .long) ∈ BIG := inB (List.mem_of_getElem? (i := 1192) rfl) rfl
theorem ms_X11_332 : MS RX11 332 yX11_inLeastTerms cX11_inLeastTerms 12 (some .long) 3 := ⟨Or.inl (inBi 1190 (by decide +kernel)), inBi 1191 (by decide +kernel), inBi 95 (by decide +kernel), cw_X11_inLeastTerms, by decide +kernel, by decide +kernel, by decide +kernel⟩
set_option maxRecDepth 20000 in
theorem cw_X11_gain : Cond.code yX11_gain cX11_gain 4 (some .int) ∈ BIG := inB (List.mem_of_getElem? (i := 1216) rfl) rfl
theorem ms_X11_341 : MS RX11 341 yX11_gain cX11_gain 4 (some .int) 4 := ⟨Or.inl (inBi 1214 (by decide +kernel)), inBi 1215 (by decide +kernel), inBi 95 (by decide +kernel), cw_X11_gain, by decide +kernel, by decide +kernel, by decide +kernel⟩
set_option maxRecDepth 20000 in
theorem cw_X11_wouldStay : Cond.code yX11_wouldStay cX11_wouldStay 4 (some .boolean) ∈ BIG := inB (List.mem_of_getElem? (i := 1213) rfl) rfl
theorem ms_X11_338 : MS RX11 338 yX11_wouldStay cX11_wouldStay 4 (some .boolean) 4 := ⟨Or.inl (inBi 1211 (by decide +kernel)), inBi 1212 (by decide +kernel), inBi 95 (by decide +kernel), cw_X11_wouldStay, by decide +kernel, by decide +kernel, by decide +kernel⟩
theorem mv_X11_345 : MV RX11 345 yX2_givenBy cX2_givenBy 5 (some .int) 2 := ⟨inBi 1224 (by decide +kernel), inBi 962 (by decide +kernel), inBi 963 (by decide +kernel), inBi 102 (by decide +kernel), cw_X2_givenBy, by decide +kernel, by decide +kernel, by decide +kernel⟩
set_option maxRecDepth 20000 in
theorem cw_X2_mostPart : Cond.code yX2_mostPart cX2_mostPart 4 (some .int) ∈ BIG := inB (List.mem_of_getElem? (i := 1243) rfl) rfl
theorem mv_X11_351 : MV RX11 351 yX2_mostPart cX2_mostPart 4 (some .int) 1 := ⟨inBi 1240 (by decide +kernel), inBi 1241 (by decide +kernel), inBi 1242 (by decide +kernel), inBi 102 (by decide +kernel), cw_X2_mostPart, by decide +kernel, by decide +kernel, by decide +kernel⟩
theorem mv_X11_354 : MV RX11 354 yX5_joinedBits cX5_joinedBits 8 (some .int) 3 := ⟨inBi 1251 (by decide +kernel), inBi 891 (by decide +kernel), inBi 892 (by decide +kernel), inBi 100 (by decide +kernel), cw_X5_joinedBits, by decide +kernel, by decide +kernel, by decide +kernel⟩
set_option maxRecDepth 20000 in
theorem cw_X6_blursBy : Cond.code yX6_blursBy cX6_blursBy 4 (some .boolean) ∈ BIG := inB (List.mem_of_getElem? (i := 1262) rfl) rfl
theorem mv_X11_358 : MV RX11 358 yX6_blursBy cX6_blursBy 4 (some .boolean) 3 := ⟨inBi 1259 (by decide +kernel), inBi 1260 (by decide +kernel), inBi 1261 (by decide +kernel), inBi 105 (by decide +kernel), cw_X6_blursBy, by decide +kernel, by decide +kernel, by decide +kernel⟩
theorem fl_X11_99 : FL RX11 99 11 15 := ⟨RX11, TX11, 18, rfl, rfl, by decide, inU_X11, Or.inl (inBi 455 (by decide +kernel))⟩
theorem fl_X11_369 : FL RX11 369 9 2 := ⟨RX9, TX9, 4, rfl, rfl, by decide, inU_X9, Or.inr ⟨_, inNi (w := .fieldLinkNest "PartedFellows" 369 "PartedFellows$Term" "hall" "LPartedFellows$Hall;" "PartedFellows") 429 (by decide +kernel)⟩⟩
set_option maxRecDepth 20000 in
theorem cw_X9_run : Cond.code yX9_run cX9_run 6 none ∈ BIG := inB (List.mem_of_getElem? (i := 1308) rfl) rfl
theorem mv_X11_366 : MV RX11 366 yX9_run cX9_run 6 none 4 := ⟨inBi 1305 (by decide +kernel), inBi 1306 (by decide +kernel), inBi 1307 (by decide +kernel), inBi 106 (by decide +kernel), cw_X9_run, by decide +kernel, by decide +kernel, by decide +kernel⟩
set_option maxRecDepth 20000 in
theorem cw_X11_isTerm : Cond.code yX11_isTerm cX11_isTerm 2 (some .boolean) ∈ BIG := inB (List.mem_of_getElem? (i := 1304) rfl) rfl
theorem ms_X11_362 : MS RX11 362 yX11_isTerm cX11_isTerm 2 (some .boolean) 2 := ⟨Or.inl (inBi 1302 (by decide +kernel)), inBi 1303 (by decide +kernel), inBi 95 (by decide +kernel), cw_X11_isTerm, by decide +kernel, by decide +kernel, by decide +kernel⟩
theorem fl_X11_138 : FL RX11 138 11 12 := ⟨RX11, TX11, 18, rfl, rfl, by decide, inU_X11, Or.inl (inBi 452 (by decide +kernel))⟩
theorem fl_X11_80 : FL RX11 80 11 11 := ⟨RX11, TX11, 18, rfl, rfl, by decide, inU_X11, Or.inl (inBi 451 (by decide +kernel))⟩
theorem inU_X3 : ∀ w ∈ u_ws RX3 TX3 2, w ∈ BIG := by
  have h : u_ws RX3 TX3 2 = [376, 378].filterMap (fun i => lw_tbl[i]?) := by decide +kernel
  have g : (u_ws RX3 TX3 2).all goodWord = true := by decide +kernel
  intro w hw
  refine inB ?_ (List.all_eq_true.mp g w hw)
  rw [h] at hw
  obtain ⟨i, -, hi⟩ := List.mem_filterMap.mp hw
  exact List.mem_of_getElem? hi
theorem fl_X11_378 : FL RX11 378 3 0 := ⟨RX3, TX3, 2, rfl, rfl, by decide, inU_X3, Or.inr ⟨_, inNi (w := .fieldLinkNest "PartedFellows" 378 "PartedFellows$Image" "hall" "LPartedFellows$Hall;" "PartedFellows") 373 (by decide +kernel)⟩⟩
theorem fl_X11_381 : FL RX11 381 3 1 := ⟨RX3, TX3, 2, rfl, rfl, by decide, inU_X3, Or.inr ⟨_, inNi (w := .fieldLinkNest "PartedFellows" 381 "PartedFellows$Image" "past" "LPartedFellows$Past;" "PartedFellows") 375 (by decide +kernel)⟩⟩
set_option maxRecDepth 20000 in
theorem cw_X7_copyFrom : Cond.code yX7_copyFrom cX7_copyFrom 3 none ∈ BIG := inB (List.mem_of_getElem? (i := 541) rfl) rfl
theorem mv_X11_382 : MV RX11 382 yX7_copyFrom cX7_copyFrom 3 none 1 := ⟨inBi 538 (by decide +kernel), inBi 539 (by decide +kernel), inBi 540 (by decide +kernel), inBi 103 (by decide +kernel), cw_X7_copyFrom, by decide +kernel, by decide +kernel, by decide +kernel⟩
theorem mv_X11_379 : MV RX11 379 yX2_copyFrom cX2_copyFrom 2 none 1 := ⟨inBi 537 (by decide +kernel), inBi 516 (by decide +kernel), inBi 517 (by decide +kernel), inBi 102 (by decide +kernel), cw_X2_copyFrom, by decide +kernel, by decide +kernel, by decide +kernel⟩
def fX11_feed (sh : Shp) (x0 : Nat) (x1 : Int32) (x2 : Int32) (x3 : Int32) (x4 : Int32) (x5 : Int32) (mm : Mem) : Option (Int32 × Mem) :=
  (rR sh 11 x0 0).bind fun a1 =>
  (rI sh mm 8 a1 1).bind fun v2 =>
  if (v2 + 20) ≤ 600 then ((rR sh 11 x0 0).bind fun a4 =>
  (isO sh 8 a4).bind fun _ =>
  (fX8_put sh a4 x1 mm).bind fun m5 =>
  (rR sh 11 x0 0).bind fun a6 =>
  (isO sh 8 a6).bind fun _ =>
  (fX8_put sh a6 x2 m5).bind fun m7 =>
  (rR sh 11 x0 0).bind fun a8 =>
  (isO sh 8 a8).bind fun _ =>
  (fX8_put sh a8 x3 m7).bind fun m9 =>
  (rR sh 11 x0 0).bind fun a10 =>
  (isO sh 8 a10).bind fun _ =>
  (fX8_put sh a10 x4 m9).bind fun m11 =>
  (rR sh 11 x0 0).bind fun a12 =>
  (isO sh 8 a12).bind fun _ =>
  (fX8_put sh a12 x5 m11).bind fun m13 =>
  (rR sh 11 x0 0).bind fun a14 =>
  (rI sh m13 8 a14 1).bind fun v15 =>
  some (v15, m13))
  else (some ((-1), mm))
def fX11_need (sh : Shp) (x0 : Nat) (x1 : Int32) (mm : Mem) : Option ((Unit ⊕ Nat) × Mem) :=
  if x1 = 0 then ((rI sh mm 11 x0 17).bind fun v2 =>
  (wI sh mm 11 x0 17 (v2 + 1)).bind fun m3 =>
  some (.inr 1, m3))
  else (some (.inl (), mm))
def fX11_startText_j26 (sh : Shp) (x0 : Nat) (x1 : Int32) (s0 : Nat) (s1 : Int32) (mm : Mem) : Option ((Unit ⊕ Nat) × Mem) :=
  (isO sh 11 s0).bind fun _ =>
  bd2 (fX11_need sh s0 s1 mm) fun u1 m2 =>
  sme u1 (fun v3 =>
  (rR sh 11 x0 0).bind fun a4 =>
  (isO sh 8 a4).bind fun _ =>
  (fX8_open sh a4 x1 m2).bind fun m5 =>
  some (.inl (), m5)) (fun k => some (.inr k, m2))
def fX11_startText_j25 (sh : Shp) (x0 : Nat) (x1 : Int32) (s0 : Nat) (mm : Mem) : Option ((Unit ⊕ Nat) × Mem) :=
  fX11_startText_j26 sh x0 x1 s0 0 mm
def fX11_startText (sh : Shp) (x0 : Nat) (x1 : Int32) (x2 : Int32) (mm : Mem) : Option ((Unit ⊕ Nat) × Mem) :=
  if x1 < 0 then (fX11_startText_j25 sh x0 x1 x0 mm)
  else ((rR sh 11 x0 0).bind fun a7 =>
  (rI sh mm 8 a7 1).bind fun v8 =>
  if v8 < x1 then (fX11_startText_j25 sh x0 x1 x0 mm)
  else (if x2 < x1 then (fX11_startText_j25 sh x0 x1 x0 mm)
  else (fX11_startText_j26 sh x0 x1 x0 1 mm)))
def fX11_college (sh : Shp) (x0 : Nat) (x1 : Int32) (mm : Mem) : Option ((Int32 ⊕ Nat) × Mem) :=
  (isO sh 11 x0).bind fun _ =>
  bd2 (fX11_startText sh x0 x1 600 mm) fun u1 m2 =>
  sme u1 (fun v3 =>
  (rR sh 11 x0 2).bind fun a4 =>
  (rR sh 11 x0 0).bind fun a5 =>
  (isO sh 1 a4).bind fun _ =>
  bd2 (fX1_read sh a4 a5 m2) fun v6 m7 =>
  if v6 = 0 then ((rR sh 11 x0 0).bind fun a25 =>
  (rI sh m7 8 a25 4).bind fun v26 =>
  some (.inl (v26 - 10), m7))
  else ((rR sh 11 x0 1).bind fun a9 =>
  (rR sh 11 x0 2).bind fun a10 =>
  (isO sh 1 a9).bind fun _ =>
  (fX1_copyFrom sh a9 a10 m7).bind fun m11 =>
  (rR sh 11 x0 3).bind fun a12 =>
  (isO sh 4 a12).bind fun _ =>
  (fX4_becomePlain sh a12 m11).bind fun m13 =>
  (rR sh 11 x0 5).bind fun a14 =>
  (wI sh m13 0 a14 2 0).bind fun m15 =>
  (rR sh 11 x0 9).bind fun a16 =>
  (rR sh 11 x0 1).bind fun a17 =>
  (isO sh 2 a16).bind fun _ =>
  (fX2_open sh a16 a17 m15).bind fun m18 =>
  (rR sh 11 x0 10).bind fun a19 =>
  (wI sh m18 7 a19 1 0).bind fun m20 =>
  (wI sh m20 11 x0 12 0).bind fun m21 =>
  (wI sh m21 11 x0 13 0).bind fun m22 =>
  (rR sh 11 x0 1).bind fun a23 =>
  (rI sh m22 1 a23 3).bind fun v24 =>
  some (.inl v24, m22))) (fun k => some (.inr k, m2))
def fX11_law (sh : Shp) (x0 : Nat) (x1 : Int32) (mm : Mem) : Option ((Int32 ⊕ Nat) × Mem) :=
  (isO sh 11 x0).bind fun _ =>
  bd2 (fX11_startText sh x0 x1 150 mm) fun u1 m2 =>
  sme u1 (fun v3 =>
  (rR sh 11 x0 4).bind fun a4 =>
  (rR sh 11 x0 0).bind fun a5 =>
  (isO sh 4 a4).bind fun _ =>
  bd2 (fX4_read sh a4 a5 m2) fun v6 m7 =>
  if v6 = 0 then ((rR sh 11 x0 0).bind fun a12 =>
  (rI sh m7 8 a12 4).bind fun v13 =>
  some (.inl (v13 - 10), m7))
  else ((rR sh 11 x0 3).bind fun a9 =>
  (rR sh 11 x0 4).bind fun a10 =>
  (isO sh 4 a9).bind fun _ =>
  (fX4_copyFrom sh a9 a10 m7).bind fun m11 =>
  some (.inl 1, m11))) (fun k => some (.inr k, m2))
def fX11_work (sh : Shp) (x0 : Nat) (x1 : Int32) (mm : Mem) : Option ((Int32 ⊕ Nat) × Mem) :=
  (isO sh 11 x0).bind fun _ =>
  bd2 (fX11_startText sh x0 x1 150 mm) fun u1 m2 =>
  sme u1 (fun v3 =>
  (rR sh 11 x0 10).bind fun a4 =>
  (rI sh m2 7 a4 1).bind fun v5 =>
  if v5 < 16 then ((rR sh 11 x0 8).bind fun a7 =>
  (isO sh 10 a7).bind fun _ =>
  bd2 (fX10_read sh a7 m2) fun v8 m9 =>
  if v8 = 0 then ((rR sh 11 x0 0).bind fun a24 =>
  (rI sh m9 8 a24 4).bind fun v25 =>
  some (.inl (v25 - 10), m9))
  else ((rR sh 11 x0 10).bind fun a11 =>
  (rR sh 11 x0 9).bind fun a12 =>
  (isO sh 7 a11).bind fun _ =>
  (fX7_push sh a11 a12 m9).bind fun m13 =>
  (rR sh 11 x0 8).bind fun a14 =>
  (rR sh 11 x0 9).bind fun a15 =>
  (rR sh 11 x0 8).bind fun a16 =>
  (rI sh m13 10 a16 8).bind fun v17 =>
  (isO sh 10 a14).bind fun _ =>
  (fX10_perform sh DP a14 a15 0 v17 0 m13).bind fun m18 =>
  (rR sh 11 x0 8).bind fun a19 =>
  (rI sh m18 10 a19 11).bind fun v20 =>
  (wI sh m18 11 x0 13 v20).bind fun m21 =>
  (rR sh 11 x0 8).bind fun a22 =>
  (rI sh m21 10 a22 10).bind fun v23 =>
  some (.inl v23, m21)))
  else (some (.inl (-20), m2))) (fun k => some (.inr k, m2))
def fX11_book (sh : Shp) (x0 : Nat) (x1 : Int32) (mm : Mem) : Option ((Int32 ⊕ Nat) × Mem) :=
  (isO sh 11 x0).bind fun _ =>
  bd2 (fX11_startText sh x0 x1 60 mm) fun u1 m2 =>
  sme u1 (fun v3 =>
  (rR sh 11 x0 6).bind fun a4 =>
  (rR sh 11 x0 0).bind fun a5 =>
  (rR sh 11 x0 1).bind fun a6 =>
  (rI sh m2 1 a6 5).bind fun v7 =>
  (isO sh 0 a4).bind fun _ =>
  bd2 (fX0_read sh a4 a5 v7 m2) fun v8 m9 =>
  if v8 = 0 then ((rR sh 11 x0 0).bind fun a16 =>
  (rI sh m9 8 a16 4).bind fun v17 =>
  some (.inl (v17 - 10), m9))
  else ((rR sh 11 x0 5).bind fun a11 =>
  (rR sh 11 x0 6).bind fun a12 =>
  (isO sh 0 a11).bind fun _ =>
  (fX0_copyFrom sh a11 a12 m9).bind fun m13 =>
  (rR sh 11 x0 5).bind fun a14 =>
  (rI sh m13 0 a14 2).bind fun v15 =>
  some (.inl v15, m13))) (fun k => some (.inr k, m2))
def fX11_fault (sh : Shp) (x0 : Nat) (mm : Mem) : Option (Int32) :=
  (rR sh 11 x0 0).bind fun a1 =>
  (rI sh mm 8 a1 5).bind fun v2 =>
  some v2
def fX11_undo (sh : Shp) (x0 : Nat) (mm : Mem) : Option (Int32 × Mem) :=
  (rR sh 11 x0 10).bind fun a1 =>
  (rI sh mm 7 a1 1).bind fun v2 =>
  if v2 = 0 then (some ((-1), mm))
  else ((rR sh 11 x0 10).bind fun a4 =>
  (rR sh 11 x0 9).bind fun a5 =>
  (isO sh 7 a4).bind fun _ =>
  (fX7_popInto sh a4 a5 mm).bind fun m6 =>
  (wI sh m6 11 x0 13 0).bind fun m7 =>
  (rR sh 11 x0 10).bind fun a8 =>
  (rI sh m7 7 a8 1).bind fun v9 =>
  some (v9, m7))
def fX11_told_j16 (sh : Shp) (x0 : Nat) (x1 : Int32) (s0 : Nat) (s1 : Int32) (mm : Mem) : Option ((Int32 ⊕ Nat) × Mem) :=
  (isO sh 11 s0).bind fun _ =>
  bd2 (fX11_need sh s0 s1 mm) fun u1 m2 =>
  sme u1 (fun v3 =>
  if x1 = 0 then ((rR sh 11 x0 1).bind fun a4 =>
  (rI sh m2 1 a4 3).bind fun v5 =>
  some (.inl v5, m2))
  else if x1 = 1 then ((rR sh 11 x0 1).bind fun a7 =>
  (rI sh m2 1 a7 4).bind fun v8 =>
  some (.inl v8, m2))
  else if x1 = 2 then ((rR sh 11 x0 1).bind fun a10 =>
  (rI sh m2 1 a10 5).bind fun v11 =>
  some (.inl v11, m2))
  else if x1 = 3 then ((rR sh 11 x0 9).bind fun a13 =>
  (rI sh m2 2 a13 5).bind fun v14 =>
  some (.inl v14, m2))
  else if x1 = 4 then ((rR sh 11 x0 9).bind fun a16 =>
  (isO sh 2 a16).bind fun _ =>
  (fX2_whiteBits sh a16 m2).bind fun v17 =>
  some (.inl v17, m2))
  else if x1 = 5 then ((rR sh 11 x0 9).bind fun a19 =>
  (isO sh 2 a19).bind fun _ =>
  (fX2_litBits sh a19 0 m2).bind fun v20 =>
  some (.inl v20, m2))
  else if x1 = 6 then ((rR sh 11 x0 9).bind fun a22 =>
  (rR sh 2 a22 0).bind fun a23 =>
  (fX11_sum sh a23 0 42 m2).bind fun v24 =>
  some (.inl v24, m2))
  else if x1 = 7 then ((rR sh 11 x0 9).bind fun a26 =>
  (rR sh 2 a26 1).bind fun a27 =>
  (fX11_sum sh a27 0 42 m2).bind fun v28 =>
  some (.inl v28, m2))
  else if x1 = 8 then ((rR sh 11 x0 9).bind fun a30 =>
  (rR sh 2 a30 3).bind fun a31 =>
  (fX11_sum sh a31 0 42 m2).bind fun v32 =>
  some (.inl v32, m2))
  else if x1 = 9 then ((rR sh 11 x0 5).bind fun a34 =>
  (rI sh m2 0 a34 2).bind fun v35 =>
  some (.inl v35, m2))
  else if x1 = 10 then ((rI sh m2 11 x0 13).bind fun v37 =>
  some (.inl v37, m2))
  else ((rR sh 11 x0 9).bind fun a39 =>
  (rR sh 2 a39 4).bind fun a40 =>
  (fX11_sum sh a40 0 6 m2).bind fun v41 =>
  some (.inl v41, m2))) (fun k => some (.inr k, m2))
def fX11_told_j15 (sh : Shp) (x0 : Nat) (x1 : Int32) (s0 : Nat) (mm : Mem) : Option ((Int32 ⊕ Nat) × Mem) :=
  fX11_told_j16 sh x0 x1 s0 0 mm
def fX11_told (sh : Shp) (x0 : Nat) (x1 : Int32) (mm : Mem) : Option ((Int32 ⊕ Nat) × Mem) :=
  if x1 < 0 then (fX11_told_j15 sh x0 x1 x0 mm)
  else (if 11 < x1 then (fX11_told_j15 sh x0 x1 x0 mm)
  else (fX11_told_j16 sh x0 x1 x0 1 mm))
def fX11_isFellow_j20 (sh : Shp) (s0 : Int32) (mm : Mem) : Option (Int32) :=
  (ckZ s0).bind fun v1 => some v1
def fX11_isFellow_j19 (sh : Shp) (mm : Mem) : Option (Int32) :=
  fX11_isFellow_j20 sh 0 mm
def fX11_isFellow (sh : Shp) (x0 : Nat) (x1 : Int32) (mm : Mem) : Option (Int32) :=
  if x1 < 0 then (fX11_isFellow_j19 sh mm)
  else ((rR sh 11 x0 1).bind fun a3 =>
  (rI sh mm 1 a3 3).bind fun v4 =>
  if v4 ≤ x1 then (fX11_isFellow_j19 sh mm)
  else (fX11_isFellow_j20 sh 1 mm))
def fX11_needFellow (sh : Shp) (x0 : Nat) (x1 : Int32) (mm : Mem) : Option ((Unit ⊕ Nat) × Mem) :=
  (isO sh 11 x0).bind fun _ =>
  (fX11_isFellow sh x0 x1 mm).bind fun v1 =>
  if v1 = 0 then ((rI sh mm 11 x0 16).bind fun v3 =>
  (wI sh mm 11 x0 16 (v3 + 1)).bind fun m4 =>
  some (.inr 0, m4))
  else (some (.inl (), mm))
def fX11_fellow_j140 (sh : Shp) (s0 : Int32) (mm : Mem) : Option ((Int32 ⊕ Nat) × Mem) :=
  some (.inl s0, mm)
def fX11_fellow_j21 (sh : Shp) (x0 : Nat) (x1 : Int32) (x2 : Int32) (s0 : Nat) (s1 : Int32) (mm : Mem) : Option ((Int32 ⊕ Nat) × Mem) :=
  (isO sh 11 s0).bind fun _ =>
  bd2 (fX11_need sh s0 s1 mm) fun u1 m2 =>
  sme u1 (fun v3 =>
  lt1 (x1 * 7) fun x3_4 =>
  if x2 = 0 then ((rR sh 11 x0 9).bind fun a5 =>
  (isO sh 2 a5).bind fun _ =>
  (fX2_allWithin sh a5 x1 m2).bind fun v6 =>
  some (.inl v6, m2))
  else if x2 = 1 then ((rR sh 11 x0 9).bind fun a8 =>
  (rR sh 2 a8 1).bind fun a9 =>
  (fX11_sum sh a9 x3_4 (x3_4 + 7) m2).bind fun v10 =>
  some (.inl v10, m2))
  else if x2 = 2 then ((rR sh 11 x0 9).bind fun a12 =>
  (rR sh 2 a12 3).bind fun a13 =>
  (fX11_sum sh a13 x3_4 (x3_4 + 7) m2).bind fun v14 =>
  some (.inl v14, m2))
  else if x2 = 3 then ((rR sh 11 x0 9).bind fun a16 =>
  (isO sh 2 a16).bind fun _ =>
  (fX2_darkBits sh a16 x1 m2).bind fun v17 =>
  some (.inl v17, m2))
  else if x2 = 4 then ((rR sh 11 x0 9).bind fun a19 =>
  (isO sh 2 a19).bind fun _ =>
  (fX2_isWhite sh a19 (1 <<< (x1 &&& 31)) m2).bind fun v20 =>
  if v20 = 0 then (fX11_fellow_j140 sh 0 m2)
  else (fX11_fellow_j140 sh 1 m2))
  else if x2 = 5 then ((rR sh 11 x0 9).bind fun a23 =>
  (rR sh 2 a23 4).bind fun a24 =>
  (aL sh m2 a24 x1).bind fun v25 =>
  some (.inl v25, m2))
  else if x2 = 6 then ((rR sh 11 x0 9).bind fun a27 =>
  (isO sh 2 a27).bind fun _ =>
  (fX2_leastPlace sh a27 x1 m2).bind fun v28 =>
  some (.inl v28, m2))
  else ((rR sh 11 x0 9).bind fun a30 =>
  (isO sh 2 a30).bind fun _ =>
  (fX2_greatestPlace sh a30 x1 m2).bind fun v31 =>
  some (.inl v31, m2))) (fun k => some (.inr k, m2))
def fX11_fellow_j20 (sh : Shp) (x0 : Nat) (x1 : Int32) (x2 : Int32) (s0 : Nat) (mm : Mem) : Option ((Int32 ⊕ Nat) × Mem) :=
  fX11_fellow_j21 sh x0 x1 x2 s0 0 mm
def fX11_fellow (sh : Shp) (x0 : Nat) (x1 : Int32) (x2 : Int32) (mm : Mem) : Option ((Int32 ⊕ Nat) × Mem) :=
  (isO sh 11 x0).bind fun _ =>
  bd2 (fX11_needFellow sh x0 x1 mm) fun u32 m33 =>
  sme u32 (fun v34 =>
  if x2 < 0 then (fX11_fellow_j20 sh x0 x1 x2 x0 m33)
  else (if 7 < x2 then (fX11_fellow_j20 sh x0 x1 x2 x0 m33)
  else (fX11_fellow_j21 sh x0 x1 x2 x0 1 m33))) (fun k => some (.inr k, m33))
def fX11_isPart_j15 (s0 : Int32) : Option (Int32) :=
  (ckZ s0).bind fun v1 => some v1
def fX11_isPart_j14 : Option (Int32) :=
  fX11_isPart_j15 0
def fX11_isPart (x0 : Int32) : Option (Int32) :=
  if x0 < 0 then (fX11_isPart_j14 )
  else (if 7 ≤ x0 then (fX11_isPart_j14 )
  else (fX11_isPart_j15 1))
def fX11_part_j113 (sh : Shp) (s0 : Int32) (mm : Mem) : Option ((Int32 ⊕ Nat) × Mem) :=
  some (.inl s0, mm)
def fX11_part_j27 (sh : Shp) (x0 : Nat) (x1 : Int32) (x2 : Int32) (x3 : Int32) (s0 : Nat) (s1 : Int32) (mm : Mem) : Option ((Int32 ⊕ Nat) × Mem) :=
  (isO sh 11 s0).bind fun _ =>
  bd2 (fX11_need sh s0 s1 mm) fun u1 m2 =>
  sme u1 (fun v3 =>
  lt1 ((x1 * 7) + x2) fun x4_4 =>
  if x3 = 0 then ((rR sh 11 x0 9).bind fun a5 =>
  (rR sh 2 a5 0).bind fun a6 =>
  (aL sh m2 a6 x4_4).bind fun v7 =>
  some (.inl v7, m2))
  else if x3 = 1 then ((rR sh 11 x0 9).bind fun a9 =>
  (rR sh 2 a9 1).bind fun a10 =>
  (aL sh m2 a10 x4_4).bind fun v11 =>
  some (.inl v11, m2))
  else if x3 = 2 then ((rR sh 11 x0 9).bind fun a13 =>
  (rR sh 2 a13 1).bind fun a14 =>
  (aL sh m2 a14 x4_4).bind fun v15 =>
  if v15 ≤ 0 then (fX11_part_j113 sh (-1) m2)
  else ((rR sh 11 x0 9).bind fun a17 =>
  (rR sh 2 a17 2).bind fun a18 =>
  (aL sh m2 a18 x4_4).bind fun v19 =>
  fX11_part_j113 sh v19 m2))
  else ((rR sh 11 x0 9).bind fun a21 =>
  (rR sh 2 a21 3).bind fun a22 =>
  (aL sh m2 a22 x4_4).bind fun v23 =>
  some (.inl v23, m2))) (fun k => some (.inr k, m2))
def fX11_part_j26 (sh : Shp) (x0 : Nat) (x1 : Int32) (x2 : Int32) (x3 : Int32) (s0 : Nat) (mm : Mem) : Option ((Int32 ⊕ Nat) × Mem) :=
  fX11_part_j27 sh x0 x1 x2 x3 s0 0 mm
def fX11_part (sh : Shp) (x0 : Nat) (x1 : Int32) (x2 : Int32) (x3 : Int32) (mm : Mem) : Option ((Int32 ⊕ Nat) × Mem) :=
  (isO sh 11 x0).bind fun _ =>
  bd2 (fX11_needFellow sh x0 x1 mm) fun u24 m25 =>
  sme u24 (fun v26 =>
  (fX11_isPart x2).bind fun v27 =>
  if v27 = 0 then (fX11_part_j26 sh x0 x1 x2 x3 x0 m25)
  else (if x3 < 0 then (fX11_part_j26 sh x0 x1 x2 x3 x0 m25)
  else (if 3 < x3 then (fX11_part_j26 sh x0 x1 x2 x3 x0 m25)
  else (fX11_part_j27 sh x0 x1 x2 x3 x0 1 m25)))) (fun k => some (.inr k, m25))
def fX11_needGlass_j15 (sh : Shp) (x0 : Nat) (mm : Mem) : Option ((Unit ⊕ Nat) × Mem) :=
  (rI sh mm 11 x0 16).bind fun v1 =>
  (wI sh mm 11 x0 16 (v1 + 1)).bind fun m2 =>
  some (.inr 0, m2)
def fX11_needGlass (sh : Shp) (x0 : Nat) (x1 : Int32) (mm : Mem) : Option ((Unit ⊕ Nat) × Mem) :=
  if x1 < 0 then (fX11_needGlass_j15 sh x0 mm)
  else ((rR sh 11 x0 1).bind fun a4 =>
  (rI sh mm 1 a4 4).bind fun v5 =>
  if x1 < v5 then (some (.inl (), mm))
  else (fX11_needGlass_j15 sh x0 mm))
def fX11_glass_j48 (sh : Shp) (s0 : Int32) (mm : Mem) : Option ((Int32 ⊕ Nat) × Mem) :=
  some (.inl s0, mm)
def fX11_glass_j20 (sh : Shp) (x0 : Nat) (x1 : Int32) (x2 : Int32) (s0 : Nat) (s1 : Int32) (mm : Mem) : Option ((Int32 ⊕ Nat) × Mem) :=
  (isO sh 11 s0).bind fun _ =>
  bd2 (fX11_need sh s0 s1 mm) fun u1 m2 =>
  sme u1 (fun v3 =>
  if x2 = 0 then ((rR sh 11 x0 1).bind fun a8 =>
  (rR sh 1 a8 1).bind fun a9 =>
  (aL sh m2 a9 x1).bind fun v10 =>
  fX11_glass_j48 sh v10 m2)
  else ((rR sh 11 x0 1).bind fun a5 =>
  (rR sh 1 a5 2).bind fun a6 =>
  (aL sh m2 a6 x1).bind fun v7 =>
  fX11_glass_j48 sh v7 m2)) (fun k => some (.inr k, m2))
def fX11_glass_j15 (sh : Shp) (x0 : Nat) (x1 : Int32) (x2 : Int32) (s0 : Nat) (mm : Mem) : Option ((Int32 ⊕ Nat) × Mem) :=
  fX11_glass_j20 sh x0 x1 x2 s0 1 mm
def fX11_glass (sh : Shp) (x0 : Nat) (x1 : Int32) (x2 : Int32) (mm : Mem) : Option ((Int32 ⊕ Nat) × Mem) :=
  (isO sh 11 x0).bind fun _ =>
  bd2 (fX11_needGlass sh x0 x1 mm) fun u11 m12 =>
  sme u11 (fun v13 =>
  if x2 = 0 then (fX11_glass_j15 sh x0 x1 x2 x0 m12)
  else (if x2 = 1 then (fX11_glass_j15 sh x0 x1 x2 x0 m12)
  else (fX11_glass_j20 sh x0 x1 x2 x0 0 m12))) (fun k => some (.inr k, m12))
def fX11_isPlace_j20 (sh : Shp) (s0 : Int32) (mm : Mem) : Option (Int32) :=
  (ckZ s0).bind fun v1 => some v1
def fX11_isPlace_j19 (sh : Shp) (mm : Mem) : Option (Int32) :=
  fX11_isPlace_j20 sh 0 mm
def fX11_isPlace (sh : Shp) (x0 : Nat) (x1 : Int32) (mm : Mem) : Option (Int32) :=
  if x1 < 0 then (fX11_isPlace_j19 sh mm)
  else ((rR sh 11 x0 1).bind fun a3 =>
  (rI sh mm 1 a3 5).bind fun v4 =>
  if v4 ≤ x1 then (fX11_isPlace_j19 sh mm)
  else (fX11_isPlace_j20 sh 1 mm))
def fX11_place (sh : Shp) (x0 : Nat) (x1 : Int32) (mm : Mem) : Option ((Int32 ⊕ Nat) × Mem) :=
  (isO sh 11 x0).bind fun _ =>
  (fX11_isPlace sh x0 x1 mm).bind fun v1 =>
  (isO sh 11 x0).bind fun _ =>
  bd2 (fX11_need sh x0 v1 mm) fun u2 m3 =>
  sme u2 (fun v4 =>
  (rR sh 11 x0 9).bind fun a5 =>
  (isO sh 2 a5).bind fun _ =>
  (fX2_muchNear sh a5 x1 0 m3).bind fun v6 =>
  some (.inl v6, m3)) (fun k => some (.inr k, m3))
def fX11_turn (sh : Shp) (x0 : Nat) (x1 : Int32) (x2 : Int32) (x3 : Int32) (mm : Mem) : Option ((Int32 ⊕ Nat) × Mem) :=
  (isO sh 11 x0).bind fun _ =>
  bd2 (fX11_needFellow sh x0 x1 mm) fun u1 m2 =>
  sme u1 (fun v3 =>
  (isO sh 11 x0).bind fun _ =>
  bd2 (fX11_needGlass sh x0 x3 m2) fun u4 m5 =>
  sme u4 (fun v6 =>
  (fX11_isPart x2).bind fun v7 =>
  (isO sh 11 x0).bind fun _ =>
  bd2 (fX11_need sh x0 v7 m5) fun u8 m9 =>
  sme u8 (fun v10 =>
  (rR sh 11 x0 7).bind fun a11 =>
  (rR sh 11 x0 9).bind fun a12 =>
  (rR sh 11 x0 9).bind fun a13 =>
  (rR sh 2 a13 0).bind fun a14 =>
  (aL sh m9 a14 ((x1 * 7) + x2)).bind fun v15 =>
  (isO sh 5 a11).bind fun _ =>
  bd2 (fX5_turnOf sh a11 a12 x1 x2 x3 v15 m9) fun v16 m17 =>
  some (.inl v16, m17)) (fun k => some (.inr k, m9))) (fun k => some (.inr k, m5))) (fun k => some (.inr k, m2))
def fX11_would_j126 (sh : Shp) (x0 : Nat) (x1 : Int32) (x2 : Int32) (x3 : Int32) (x4 : Int32) (x5 : Int32) (x6 : Int32) (x7 : Int32) (x8 : Int32) (s0 : Nat) (s1 : Int32) (mm : Mem) : Option ((Int32 ⊕ Nat) × Mem) :=
  (isO sh 11 s0).bind fun _ =>
  bd2 (fX11_need sh s0 s1 mm) fun u1 m2 =>
  sme u1 (fun v3 =>
  (rR sh 11 x0 7).bind fun a4 =>
  (rR sh 5 a4 2).bind fun a5 =>
  lt1 a5 fun x9_6 =>
  (aS sh m2 x9_6 0 x1).bind fun m7 =>
  (aS sh m7 x9_6 1 x2).bind fun m8 =>
  (aS sh m8 x9_6 2 x3).bind fun m9 =>
  (aS sh m9 x9_6 3 x4).bind fun m10 =>
  (aS sh m10 x9_6 4 x5).bind fun m11 =>
  (aS sh m11 x9_6 5 x6).bind fun m12 =>
  (aS sh m12 x9_6 6 x7).bind fun m13 =>
  (aS sh m13 x9_6 7 x8).bind fun m14 =>
  (rR sh 11 x0 7).bind fun a15 =>
  (rR sh 11 x0 3).bind fun a16 =>
  (isO sh 4 a16).bind fun _ =>
  bd2 (fX4_valueFor sh a16 x9_6 m14) fun v17 m18 =>
  (isO sh 5 a15).bind fun _ =>
  (fX5_bounded sh a15 v17 m18).bind fun v19 =>
  some (.inl v19, m18)) (fun k => some (.inr k, m2))
def fX11_would_j125 (sh : Shp) (x0 : Nat) (x1 : Int32) (x2 : Int32) (x3 : Int32) (x4 : Int32) (x5 : Int32) (x6 : Int32) (x7 : Int32) (x8 : Int32) (s0 : Nat) (mm : Mem) : Option ((Int32 ⊕ Nat) × Mem) :=
  fX11_would_j126 sh x0 x1 x2 x3 x4 x5 x6 x7 x8 s0 0 mm
def fX11_would_j105 (sh : Shp) (x0 : Nat) (x1 : Int32) (x2 : Int32) (x3 : Int32) (x4 : Int32) (x5 : Int32) (x6 : Int32) (x7 : Int32) (x8 : Int32) (s0 : Nat) (s1 : Int32) (mm : Mem) : Option ((Int32 ⊕ Nat) × Mem) :=
  (isO sh 11 s0).bind fun _ =>
  bd2 (fX11_need sh s0 s1 mm) fun u20 m21 =>
  sme u20 (fun v22 =>
  if x8 < 0 then (fX11_would_j125 sh x0 x1 x2 x3 x4 x5 x6 x7 x8 x0 m21)
  else (if 6 ≤ x8 then (fX11_would_j125 sh x0 x1 x2 x3 x4 x5 x6 x7 x8 x0 m21)
  else (fX11_would_j126 sh x0 x1 x2 x3 x4 x5 x6 x7 x8 x0 1 m21))) (fun k => some (.inr k, m21))
def fX11_would_j104 (sh : Shp) (x0 : Nat) (x1 : Int32) (x2 : Int32) (x3 : Int32) (x4 : Int32) (x5 : Int32) (x6 : Int32) (x7 : Int32) (x8 : Int32) (s0 : Nat) (mm : Mem) : Option ((Int32 ⊕ Nat) × Mem) :=
  fX11_would_j105 sh x0 x1 x2 x3 x4 x5 x6 x7 x8 s0 0 mm
def fX11_would_j70 (sh : Shp) (x0 : Nat) (x1 : Int32) (x2 : Int32) (x3 : Int32) (x4 : Int32) (x5 : Int32) (x6 : Int32) (x7 : Int32) (x8 : Int32) (s0 : Nat) (s1 : Int32) (mm : Mem) : Option ((Int32 ⊕ Nat) × Mem) :=
  (isO sh 11 s0).bind fun _ =>
  bd2 (fX11_need sh s0 s1 mm) fun u25 m26 =>
  sme u25 (fun v27 =>
  if x6 < 0 then (fX11_would_j104 sh x0 x1 x2 x3 x4 x5 x6 x7 x8 x0 m26)
  else (if 999 < x6 then (fX11_would_j104 sh x0 x1 x2 x3 x4 x5 x6 x7 x8 x0 m26)
  else (if x7 < 0 then (fX11_would_j104 sh x0 x1 x2 x3 x4 x5 x6 x7 x8 x0 m26)
  else (if 400 < x7 then (fX11_would_j104 sh x0 x1 x2 x3 x4 x5 x6 x7 x8 x0 m26)
  else (fX11_would_j105 sh x0 x1 x2 x3 x4 x5 x6 x7 x8 x0 1 m26))))) (fun k => some (.inr k, m26))
def fX11_would_j69 (sh : Shp) (x0 : Nat) (x1 : Int32) (x2 : Int32) (x3 : Int32) (x4 : Int32) (x5 : Int32) (x6 : Int32) (x7 : Int32) (x8 : Int32) (s0 : Nat) (mm : Mem) : Option ((Int32 ⊕ Nat) × Mem) :=
  fX11_would_j70 sh x0 x1 x2 x3 x4 x5 x6 x7 x8 s0 0 mm
def fX11_would_j35 (sh : Shp) (x0 : Nat) (x1 : Int32) (x2 : Int32) (x3 : Int32) (x4 : Int32) (x5 : Int32) (x6 : Int32) (x7 : Int32) (x8 : Int32) (s0 : Nat) (s1 : Int32) (mm : Mem) : Option ((Int32 ⊕ Nat) × Mem) :=
  (isO sh 11 s0).bind fun _ =>
  bd2 (fX11_need sh s0 s1 mm) fun u32 m33 =>
  sme u32 (fun v34 =>
  if x4 < 0 then (fX11_would_j69 sh x0 x1 x2 x3 x4 x5 x6 x7 x8 x0 m33)
  else (if 2800 < x4 then (fX11_would_j69 sh x0 x1 x2 x3 x4 x5 x6 x7 x8 x0 m33)
  else (if x5 < 0 then (fX11_would_j69 sh x0 x1 x2 x3 x4 x5 x6 x7 x8 x0 m33)
  else (if 400 < x5 then (fX11_would_j69 sh x0 x1 x2 x3 x4 x5 x6 x7 x8 x0 m33)
  else (fX11_would_j70 sh x0 x1 x2 x3 x4 x5 x6 x7 x8 x0 1 m33))))) (fun k => some (.inr k, m33))
def fX11_would_j34 (sh : Shp) (x0 : Nat) (x1 : Int32) (x2 : Int32) (x3 : Int32) (x4 : Int32) (x5 : Int32) (x6 : Int32) (x7 : Int32) (x8 : Int32) (s0 : Nat) (mm : Mem) : Option ((Int32 ⊕ Nat) × Mem) :=
  fX11_would_j35 sh x0 x1 x2 x3 x4 x5 x6 x7 x8 s0 0 mm
def fX11_would (sh : Shp) (x0 : Nat) (x1 : Int32) (x2 : Int32) (x3 : Int32) (x4 : Int32) (x5 : Int32) (x6 : Int32) (x7 : Int32) (x8 : Int32) (mm : Mem) : Option ((Int32 ⊕ Nat) × Mem) :=
  (fX11_isPart x1).bind fun v39 =>
  if v39 = 0 then (fX11_would_j34 sh x0 x1 x2 x3 x4 x5 x6 x7 x8 x0 mm)
  else (if x2 < 0 then (fX11_would_j34 sh x0 x1 x2 x3 x4 x5 x6 x7 x8 x0 mm)
  else (if 400 < x2 then (fX11_would_j34 sh x0 x1 x2 x3 x4 x5 x6 x7 x8 x0 mm)
  else (if x3 < 1 then (fX11_would_j34 sh x0 x1 x2 x3 x4 x5 x6 x7 x8 x0 mm)
  else (if 9 < x3 then (fX11_would_j34 sh x0 x1 x2 x3 x4 x5 x6 x7 x8 x0 mm)
  else (fX11_would_j35 sh x0 x1 x2 x3 x4 x5 x6 x7 x8 x0 1 mm)))))
def fX11_ahead_j51 (sh : Shp) (s0 : Int32) (mm : Mem) : Option ((Int32 ⊕ Nat) × Mem) :=
  some (.inl s0, mm)
def fX11_ahead_j25 (sh : Shp) (x0 : Nat) (x1 : Int32) (x2 : Int32) (s0 : Nat) (s1 : Int32) (mm : Mem) : Option ((Int32 ⊕ Nat) × Mem) :=
  (isO sh 11 s0).bind fun _ =>
  bd2 (fX11_need sh s0 s1 mm) fun u1 m2 =>
  sme u1 (fun v3 =>
  if x2 = 0 then ((rR sh 11 x0 9).bind fun a7 =>
  (isO sh 2 a7).bind fun _ =>
  (fX2_wallAfter sh a7 x1 m2).bind fun v8 =>
  fX11_ahead_j51 sh v8 m2)
  else ((rR sh 11 x0 9).bind fun a5 =>
  (isO sh 2 a5).bind fun _ =>
  (fX2_litBits sh a5 x1 m2).bind fun v6 =>
  fX11_ahead_j51 sh v6 m2)) (fun k => some (.inr k, m2))
def fX11_ahead_j24 (sh : Shp) (x0 : Nat) (x1 : Int32) (x2 : Int32) (s0 : Nat) (mm : Mem) : Option ((Int32 ⊕ Nat) × Mem) :=
  fX11_ahead_j25 sh x0 x1 x2 s0 0 mm
def fX11_ahead_j20 (sh : Shp) (x0 : Nat) (x1 : Int32) (x2 : Int32) (s0 : Nat) (mm : Mem) : Option ((Int32 ⊕ Nat) × Mem) :=
  fX11_ahead_j25 sh x0 x1 x2 s0 1 mm
def fX11_ahead (sh : Shp) (x0 : Nat) (x1 : Int32) (x2 : Int32) (mm : Mem) : Option ((Int32 ⊕ Nat) × Mem) :=
  if x1 < 0 then (fX11_ahead_j24 sh x0 x1 x2 x0 mm)
  else (if 99 < x1 then (fX11_ahead_j24 sh x0 x1 x2 x0 mm)
  else (if x2 = 0 then (fX11_ahead_j20 sh x0 x1 x2 x0 mm)
  else (if x2 = 1 then (fX11_ahead_j20 sh x0 x1 x2 x0 mm)
  else (fX11_ahead_j24 sh x0 x1 x2 x0 mm))))
def fX11_areFellows_j22 (sh : Shp) (s0 : Int32) (mm : Mem) : Option (Int32) :=
  (ckZ s0).bind fun v1 => some v1
def fX11_areFellows_j21 (sh : Shp) (mm : Mem) : Option (Int32) :=
  fX11_areFellows_j22 sh 0 mm
def fX11_areFellows (sh : Shp) (x0 : Nat) (x1 : Int32) (mm : Mem) : Option (Int32) :=
  if x1 < 0 then (fX11_areFellows_j21 sh mm)
  else ((rR sh 11 x0 1).bind fun a3 =>
  (rI sh mm 1 a3 3).bind fun v4 =>
  if (1 <<< (v4 &&& 31)) ≤ x1 then (fX11_areFellows_j21 sh mm)
  else (fX11_areFellows_j22 sh 1 mm))
def fX11_spread (sh : Shp) (x0 : Nat) (x1 : Int32) (mm : Mem) : Option ((Int32 ⊕ Nat) × Mem) :=
  (isO sh 11 x0).bind fun _ =>
  (fX11_areFellows sh x0 x1 mm).bind fun v1 =>
  (isO sh 11 x0).bind fun _ =>
  bd2 (fX11_need sh x0 v1 mm) fun u2 m3 =>
  sme u2 (fun v4 =>
  (rR sh 11 x0 9).bind fun a5 =>
  (isO sh 2 a5).bind fun _ =>
  (fX2_spreadOf sh a5 x1 m3).bind fun v6 =>
  some (.inl v6, m3)) (fun k => some (.inr k, m3))
def fX11_bow_j125 (sh : Shp) (s0 : Int32) (mm : Mem) : Option ((Int32 ⊕ Nat) × Mem) :=
  some (.inl s0, mm)
def fX11_bow_j116 (sh : Shp) (x1 : Int32) (x2 : Int32) (x3 : Int32) (mm : Mem) : Option ((Int32 ⊕ Nat) × Mem) :=
  if x1 = 0 then (fX11_bow_j125 sh x2 mm)
  else (fX11_bow_j125 sh x3 mm)
def fX11_bow_j110 (sh : Shp) (x0 : Nat) (x1 : Int32) (x2 : Int32) (x3 : Int32) (x4 : Int32) (x5 : Int32) (mm : Mem) : Option ((Int32 × Int32 × Int32 × Int32) ⊕ ((Int32 × Int32))) :=
  lt1 (x5 + 1) fun x5_9 =>
  some (.inl (x2, x3, x4, x5_9))
def fX11_bow_j100 (sh : Shp) (x0 : Nat) (x1 : Int32) (x5 : Int32) (x6 : Int32) (x7 : Int32) (mm : Mem) : Option ((Int32 × Int32 × Int32 × Int32) ⊕ ((Int32 × Int32))) :=
  lt1 x5 fun x2_10 =>
  lt1 x6 fun x3_11 =>
  lt1 x7 fun x4_12 =>
  fX11_bow_j110 sh x0 x1 x2_10 x3_11 x4_12 x5 mm
def fX11_bow_b28 (sh : Shp) (x0 : Nat) (x1 : Int32) (x2 : Int32) (x3 : Int32) (x4 : Int32) (x5 : Int32) (mm : Mem) : Option ((Int32 × Int32 × Int32 × Int32) ⊕ ((Int32 × Int32))) :=
  (rR sh 11 x0 1).bind fun a13 =>
  (rI sh mm 1 a13 3).bind fun v14 =>
  if (1 <<< (v14 &&& 31)) ≤ x5 then (some (.inr (x2, x3)))
  else ((fJ6_bitCount_0f7a4 x5).bind fun v16 =>
  if 2 ≤ v16 then ((rR sh 11 x0 9).bind fun a18 =>
  (isO sh 2 a18).bind fun _ =>
  (fX2_spreadOf sh a18 x5 mm).bind fun v19 =>
  lt1 v19 fun x6_20 =>
  (rR sh 11 x0 9).bind fun a21 =>
  (isO sh 2 a21).bind fun _ =>
  (fX2_muchWithin sh a21 x5 mm).bind fun v22 =>
  lt1 v22 fun x7_23 =>
  if x2 = (-1) then (fX11_bow_j100 sh x0 x1 x5 x6_20 x7_23 mm)
  else (if x6_20 < x3 then (fX11_bow_j100 sh x0 x1 x5 x6_20 x7_23 mm)
  else (if x6_20 = x3 then (if x7_23 ≤ x4 then (fX11_bow_j110 sh x0 x1 x2 x3 x4 x5 mm)
  else (fX11_bow_j100 sh x0 x1 x5 x6_20 x7_23 mm))
  else (fX11_bow_j110 sh x0 x1 x2 x3 x4 x5 mm))))
  else (fX11_bow_j110 sh x0 x1 x2 x3 x4 x5 mm))
def fX11_bow_j15 (sh : Shp) (x0 : Nat) (x1 : Int32) (s0 : Nat) (s1 : Int32) (mm : Mem) : Option ((Int32 ⊕ Nat) × Mem) :=
  (isO sh 11 s0).bind fun _ =>
  bd2 (fX11_need sh s0 s1 mm) fun u2 m3 =>
  sme u2 (fun v4 =>
  lt1 (-1) fun x2_5 =>
  lt1 (-1) fun x3_6 =>
  lt1 0 fun x4_7 =>
  lt1 3 fun x5_8 =>
  (loopN (fun st : Int32 × Int32 × Int32 × Int32 => fX11_bow_b28 sh x0 x1 st.1 st.2.1 st.2.2.1 st.2.2.2 m3) FU (x2_5, x3_6, x4_7, x5_8)).bind (fun t => fX11_bow_j116 sh x1 t.1 t.2 m3)) (fun k => some (.inr k, m3))
def fX11_bow_j10 (sh : Shp) (x0 : Nat) (x1 : Int32) (s0 : Nat) (mm : Mem) : Option ((Int32 ⊕ Nat) × Mem) :=
  fX11_bow_j15 sh x0 x1 s0 1 mm
def fX11_bow (sh : Shp) (x0 : Nat) (x1 : Int32) (mm : Mem) : Option ((Int32 ⊕ Nat) × Mem) :=
  if x1 = 0 then (fX11_bow_j10 sh x0 x1 x0 mm)
  else (if x1 = 1 then (fX11_bow_j10 sh x0 x1 x0 mm)
  else (fX11_bow_j15 sh x0 x1 x0 0 mm))
def fX11_through_j104 (sh : Shp) (x4 : Int32) (mm : Mem) : Option ((Int32 ⊕ Nat) × Mem) :=
  some (.inl x4, mm)
def fX11_through_j98 (sh : Shp) (x0 : Nat) (x3 : Int32) (x4 : Int32) (x5 : Int32) (mm : Mem) : Option ((Int32 × Int32) ⊕ ((Int32))) :=
  lt1 (x5 + 1) fun x5_9 =>
  some (.inl (x4, x5_9))
def fX11_through_j94 (sh : Shp) (x0 : Nat) (x3 : Int32) (x5 : Int32) (mm : Mem) : Option ((Int32 × Int32) ⊕ ((Int32))) :=
  lt1 x5 fun x4_10 =>
  fX11_through_j98 sh x0 x3 x4_10 x5 mm
def fX11_through_b48 (sh : Shp) (x0 : Nat) (x3 : Int32) (x4 : Int32) (x5 : Int32) (mm : Mem) : Option ((Int32 × Int32) ⊕ ((Int32))) :=
  (rR sh 11 x0 1).bind fun a11 =>
  (rI sh mm 1 a11 4).bind fun v12 =>
  if (1 <<< (v12 &&& 31)) ≤ x5 then (some (.inr x4))
  else ((rR sh 11 x0 7).bind fun a14 =>
  (isO sh 5 a14).bind fun _ =>
  (fX5_sumOfTurns sh a14 x5 mm).bind fun v15 =>
  if v15 = x3 then (if x4 = (-1) then (fX11_through_j94 sh x0 x3 x5 mm)
  else ((fJ6_bitCount_0f7a4 x5).bind fun v18 =>
  (fJ6_bitCount_0f7a4 x4).bind fun v19 =>
  if v19 ≤ v18 then (fX11_through_j98 sh x0 x3 x4 x5 mm)
  else (fX11_through_j94 sh x0 x3 x5 mm)))
  else (fX11_through_j98 sh x0 x3 x4 x5 mm))
def fX11_through_j26 (sh : Shp) (x0 : Nat) (x1 : Int32) (x2 : Int32) (x3 : Int32) (s0 : Nat) (s1 : Int32) (mm : Mem) : Option ((Int32 ⊕ Nat) × Mem) :=
  (isO sh 11 s0).bind fun _ =>
  bd2 (fX11_need sh s0 s1 mm) fun u1 m2 =>
  sme u1 (fun v3 =>
  (rR sh 11 x0 7).bind fun a4 =>
  (rR sh 11 x0 9).bind fun a5 =>
  (isO sh 5 a4).bind fun _ =>
  (fX5_turnByAllGlasses sh a4 a5 x1 x2 m2).bind fun m6 =>
  lt1 (-1) fun x4_7 =>
  lt1 0 fun x5_8 =>
  (loopN (fun st : Int32 × Int32 => fX11_through_b48 sh x0 x3 st.1 st.2 m6) FU (x4_7, x5_8)).bind (fun t => fX11_through_j104 sh t m6)) (fun k => some (.inr k, m2))
def fX11_through_j25 (sh : Shp) (x0 : Nat) (x1 : Int32) (x2 : Int32) (x3 : Int32) (s0 : Nat) (mm : Mem) : Option ((Int32 ⊕ Nat) × Mem) :=
  fX11_through_j26 sh x0 x1 x2 x3 s0 0 mm
def fX11_through (sh : Shp) (x0 : Nat) (x1 : Int32) (x2 : Int32) (x3 : Int32) (mm : Mem) : Option ((Int32 ⊕ Nat) × Mem) :=
  (isO sh 11 x0).bind fun _ =>
  bd2 (fX11_needFellow sh x0 x1 mm) fun u21 m22 =>
  sme u21 (fun v23 =>
  (fX11_isPart x2).bind fun v24 =>
  if v24 = 0 then (fX11_through_j25 sh x0 x1 x2 x3 x0 m22)
  else ((isO sh 11 x0).bind fun _ =>
  (fX11_isPlace sh x0 x3 m22).bind fun v26 =>
  if v26 = 0 then (fX11_through_j25 sh x0 x1 x2 x3 x0 m22)
  else (fX11_through_j26 sh x0 x1 x2 x3 x0 1 m22))) (fun k => some (.inr k, m22))
def fX11_serves_j94 (sh : Shp) (x3 : Int32) (mm : Mem) : Option ((Int32 ⊕ Nat) × Mem) :=
  some (.inl x3, mm)
def fX11_serves_j88 (sh : Shp) (x0 : Nat) (x1 : Int32) (x2 : Int32) (x3 : Int32) (x4 : Int32) (x5 : Int32) (mm : Mem) : Option ((Int32 × Int32 × Int32) ⊕ ((Int32))) :=
  lt1 (x5 + 1) fun x5_7 =>
  some (.inl (x3, x4, x5_7))
def fX11_serves_j81 (sh : Shp) (x0 : Nat) (x1 : Int32) (x2 : Int32) (x5 : Int32) (x6 : Int32) (mm : Mem) : Option ((Int32 × Int32 × Int32) ⊕ ((Int32))) :=
  lt1 x5 fun x3_8 =>
  lt1 x6 fun x4_9 =>
  fX11_serves_j88 sh x0 x1 x2 x3_8 x4_9 x5 mm
def fX11_serves_b35 (sh : Shp) (x0 : Nat) (x1 : Int32) (x2 : Int32) (x3 : Int32) (x4 : Int32) (x5 : Int32) (mm : Mem) : Option ((Int32 × Int32 × Int32) ⊕ ((Int32))) :=
  (rR sh 11 x0 1).bind fun a10 =>
  (rI sh mm 1 a10 3).bind fun v11 =>
  if v11 ≤ x5 then (some (.inr x3))
  else ((rR sh 11 x0 9).bind fun a13 =>
  (rR sh 2 a13 0).bind fun a14 =>
  (aL sh mm a14 ((x5 * 7) + x1)).bind fun v15 =>
  lt1 (abI (v15 - x2)) fun x6_16 =>
  if x3 = (-1) then (fX11_serves_j81 sh x0 x1 x2 x5 x6_16 mm)
  else (if x4 ≤ x6_16 then (fX11_serves_j88 sh x0 x1 x2 x3 x4 x5 mm)
  else (fX11_serves_j81 sh x0 x1 x2 x5 x6_16 mm)))
def fX11_serves_j24 (sh : Shp) (x0 : Nat) (x1 : Int32) (x2 : Int32) (s0 : Nat) (s1 : Int32) (mm : Mem) : Option ((Int32 ⊕ Nat) × Mem) :=
  (isO sh 11 s0).bind fun _ =>
  bd2 (fX11_need sh s0 s1 mm) fun u1 m2 =>
  sme u1 (fun v3 =>
  lt1 (-1) fun x3_4 =>
  lt1 0 fun x4_5 =>
  lt1 0 fun x5_6 =>
  (loopN (fun st : Int32 × Int32 × Int32 => fX11_serves_b35 sh x0 x1 x2 st.1 st.2.1 st.2.2 m2) FU (x3_4, x4_5, x5_6)).bind (fun t => fX11_serves_j94 sh t m2)) (fun k => some (.inr k, m2))
def fX11_serves_j23 (sh : Shp) (x0 : Nat) (x1 : Int32) (x2 : Int32) (s0 : Nat) (mm : Mem) : Option ((Int32 ⊕ Nat) × Mem) :=
  fX11_serves_j24 sh x0 x1 x2 s0 0 mm
def fX11_serves (sh : Shp) (x0 : Nat) (x1 : Int32) (x2 : Int32) (mm : Mem) : Option ((Int32 ⊕ Nat) × Mem) :=
  (fX11_isPart x1).bind fun v19 =>
  if v19 = 0 then (fX11_serves_j23 sh x0 x1 x2 x0 mm)
  else (if x2 < 0 then (fX11_serves_j23 sh x0 x1 x2 x0 mm)
  else (if 400 < x2 then (fX11_serves_j23 sh x0 x1 x2 x0 mm)
  else (fX11_serves_j24 sh x0 x1 x2 x0 1 mm)))
def fX11_fits_j50 (sh : Shp) (s0 : Int32) (mm : Mem) : Option ((Int32 ⊕ Nat) × Mem) :=
  some (.inl s0, mm)
def fX11_fits_j15 (sh : Shp) (x0 : Nat) (x1 : Int32) (s0 : Nat) (s1 : Int32) (mm : Mem) : Option ((Int32 ⊕ Nat) × Mem) :=
  (isO sh 11 s0).bind fun _ =>
  bd2 (fX11_need sh s0 s1 mm) fun u1 m2 =>
  sme u1 (fun v3 =>
  (rR sh 11 x0 14).bind fun a4 =>
  (rR sh 11 x0 9).bind fun a5 =>
  (isO sh 6 a4).bind fun _ =>
  (fX6_gather sh a4 a5 m2).bind fun m6 =>
  if x1 = 0 then ((rR sh 11 x0 14).bind fun a10 =>
  (rI sh m6 6 a10 6).bind fun v11 =>
  fX11_fits_j50 sh v11 m6)
  else ((rR sh 11 x0 14).bind fun a8 =>
  (rI sh m6 6 a8 7).bind fun v9 =>
  fX11_fits_j50 sh v9 m6)) (fun k => some (.inr k, m2))
def fX11_fits_j10 (sh : Shp) (x0 : Nat) (x1 : Int32) (s0 : Nat) (mm : Mem) : Option ((Int32 ⊕ Nat) × Mem) :=
  fX11_fits_j15 sh x0 x1 s0 1 mm
def fX11_fits (sh : Shp) (x0 : Nat) (x1 : Int32) (mm : Mem) : Option ((Int32 ⊕ Nat) × Mem) :=
  if x1 = 0 then (fX11_fits_j10 sh x0 x1 x0 mm)
  else (if x1 = 1 then (fX11_fits_j10 sh x0 x1 x0 mm)
  else (fX11_fits_j15 sh x0 x1 x0 0 mm))
def fX11_look_j106 (sh : Shp) (s0 : Int32) (mm : Mem) : Option ((Int32 ⊕ Nat) × Mem) :=
  some (.inl s0, mm)
def fX11_look_j97 (sh : Shp) (x1 : Int32) (x2 : Int32) (x3 : Int32) (mm : Mem) : Option ((Int32 ⊕ Nat) × Mem) :=
  if x1 = 0 then (fX11_look_j106 sh x2 mm)
  else (fX11_look_j106 sh x3 mm)
def fX11_look_j91 (sh : Shp) (x0 : Nat) (x1 : Int32) (x2 : Int32) (x3 : Int32) (x4 : Int32) (mm : Mem) : Option ((Int32 × Int32 × Int32 × Mem) ⊕ ((Int32 × Int32 × Mem))) :=
  lt1 (x4 + 1) fun x4_11 =>
  some (.inl (x2, x3, x4_11, mm))
def fX11_look_j85 (sh : Shp) (x0 : Nat) (x1 : Int32) (x4 : Int32) (x5 : Int32) (mm : Mem) : Option ((Int32 × Int32 × Int32 × Mem) ⊕ ((Int32 × Int32 × Mem))) :=
  lt1 x4 fun x2_12 =>
  lt1 x5 fun x3_13 =>
  fX11_look_j91 sh x0 x1 x2_12 x3_13 x4 mm
def fX11_look_b36 (sh : Shp) (x0 : Nat) (x1 : Int32) (x2 : Int32) (x3 : Int32) (x4 : Int32) (mm : Mem) : Option ((Int32 × Int32 × Int32 × Mem) ⊕ ((Int32 × Int32 × Mem))) :=
  (rR sh 11 x0 1).bind fun a14 =>
  (rI sh mm 1 a14 5).bind fun v15 =>
  if v15 ≤ x4 then (some (.inr (x2, x3, mm)))
  else ((rR sh 11 x0 5).bind fun a17 =>
  (isO sh 0 a17).bind fun _ =>
  (fX0_tells sh a17 x4 mm).bind fun v18 =>
  if v18 = 0 then ((rR sh 11 x0 14).bind fun a20 =>
  (isO sh 6 a20).bind fun _ =>
  bd2 (fX6_leftAtWorst sh a20 x4 mm) fun v21 m22 =>
  lt1 v21 fun x5_23 =>
  if x2 = (-1) then (fX11_look_j85 sh x0 x1 x4 x5_23 m22)
  else (if x3 ≤ x5_23 then (fX11_look_j91 sh x0 x1 x2 x3 x4 m22)
  else (fX11_look_j85 sh x0 x1 x4 x5_23 m22)))
  else (fX11_look_j91 sh x0 x1 x2 x3 x4 mm))
def fX11_look_j15 (sh : Shp) (x0 : Nat) (x1 : Int32) (s0 : Nat) (s1 : Int32) (mm : Mem) : Option ((Int32 ⊕ Nat) × Mem) :=
  (isO sh 11 s0).bind fun _ =>
  bd2 (fX11_need sh s0 s1 mm) fun u2 m3 =>
  sme u2 (fun v4 =>
  (rR sh 11 x0 14).bind fun a5 =>
  (rR sh 11 x0 9).bind fun a6 =>
  (isO sh 6 a5).bind fun _ =>
  (fX6_gather sh a5 a6 m3).bind fun m7 =>
  lt1 (-1) fun x2_8 =>
  lt1 (-1) fun x3_9 =>
  lt1 0 fun x4_10 =>
  (loopN (fun st : Int32 × Int32 × Int32 × Mem => fX11_look_b36 sh x0 x1 st.1 st.2.1 st.2.2.1 st.2.2.2) FU (x2_8, x3_9, x4_10, m7)).bind (fun t => fX11_look_j97 sh x1 t.1 t.2.1 t.2.2)) (fun k => some (.inr k, m3))
def fX11_look_j10 (sh : Shp) (x0 : Nat) (x1 : Int32) (s0 : Nat) (mm : Mem) : Option ((Int32 ⊕ Nat) × Mem) :=
  fX11_look_j15 sh x0 x1 s0 1 mm
def fX11_look (sh : Shp) (x0 : Nat) (x1 : Int32) (mm : Mem) : Option ((Int32 ⊕ Nat) × Mem) :=
  if x1 = 0 then (fX11_look_j10 sh x0 x1 x0 mm)
  else (if x1 = 1 then (fX11_look_j10 sh x0 x1 x0 mm)
  else (fX11_look_j15 sh x0 x1 x0 0 mm))
def fX11_isQuota_j17 (s0 : Int32) : Option (Int32) :=
  (ckZ s0).bind fun v1 => some v1
def fX11_isQuota_j16 : Option (Int32) :=
  fX11_isQuota_j17 0
def fX11_isQuota (x0 : Int32) : Option (Int32) :=
  if x0 < 1 then (fX11_isQuota_j16 )
  else (if 2800 < x0 then (fX11_isQuota_j16 )
  else (fX11_isQuota_j17 1))
def fX11_isSwing_j91 (sh : Shp) (s0 : Int32) (mm : Mem) : Option (Int32) :=
  (ckZ s0).bind fun v1 => some v1
def fX11_isSwing_j90 (sh : Shp) (mm : Mem) : Option (Int32) :=
  fX11_isSwing_j91 sh 0 mm
def fX11_isSwing_j59 (sh : Shp) (x0 : Nat) (x1 : Int32) (x2 : Int32) (x3 : Int32) (x5 : Int32) (mm : Mem) : Option (Int32) :=
  if x3 ≤ x5 then (fX11_isSwing_j90 sh mm)
  else ((rR sh 11 x0 9).bind fun a3 =>
  (rR sh 2 a3 0).bind fun a4 =>
  (aL sh mm a4 ((x1 * 7) + x2)).bind fun v5 =>
  if (x5 + v5) < x3 then (fX11_isSwing_j90 sh mm)
  else (fX11_isSwing_j91 sh 1 mm))
def fX11_isSwing_b18 (sh : Shp) (x0 : Nat) (x1 : Int32) (x2 : Int32) (x3 : Int32) (x4 : Int32) (x5 : Int32) (x6 : Int32) (mm : Mem) : Option ((Int32 × Int32) ⊕ ((Int32))) :=
  if 7 ≤ x6 then (some (.inr x5))
  else ((rR sh 11 x0 9).bind fun a11 =>
  (rR sh 2 a11 0).bind fun a12 =>
  (aL sh mm a12 ((x1 * 7) + x6)).bind fun v13 =>
  lt1 (x5 + (((x4 >>> (x6 &&& 31)) &&& 1) * v13)) fun x5_14 =>
  lt1 (x6 + 1) fun x6_15 =>
  some (.inl (x5_14, x6_15)))
def fX11_isSwing (sh : Shp) (x0 : Nat) (x1 : Int32) (x2 : Int32) (x3 : Int32) (x4 : Int32) (mm : Mem) : Option (Int32) :=
  if ((x4 >>> (x2 &&& 31)) &&& 1) = 1 then (some 0)
  else (lt1 0 fun x5_8 =>
  lt1 0 fun x6_9 =>
  (loopN (fun st : Int32 × Int32 => fX11_isSwing_b18 sh x0 x1 x2 x3 x4 st.1 st.2 mm) FU (x5_8, x6_9)).bind (fun t => fX11_isSwing_j59 sh x0 x1 x2 x3 t mm))
def fX11_swings_j70 (sh : Shp) (x4 : Int32) (mm : Mem) : Option ((Int32 ⊕ Nat) × Mem) :=
  some (.inl x4, mm)
def fX11_swings_j61 (sh : Shp) (x0 : Nat) (x1 : Int32) (x2 : Int32) (x3 : Int32) (x5 : Int32) (s0 : Int32) (s1 : Int32) (mm : Mem) : Option ((Int32 × Int32) ⊕ ((Int32))) :=
  lt1 (s0 + s1) fun x4_6 =>
  lt1 (x5 + 1) fun x5_7 =>
  some (.inl (x4_6, x5_7))
def fX11_swings_b34 (sh : Shp) (x0 : Nat) (x1 : Int32) (x2 : Int32) (x3 : Int32) (x4 : Int32) (x5 : Int32) (mm : Mem) : Option ((Int32 × Int32) ⊕ ((Int32))) :=
  if 128 ≤ x5 then (some (.inr x4))
  else ((isO sh 11 x0).bind fun _ =>
  (fX11_isSwing sh x0 x1 x2 x3 x5 mm).bind fun v9 =>
  if v9 = 0 then (fX11_swings_j61 sh x0 x1 x2 x3 x5 x4 0 mm)
  else (fX11_swings_j61 sh x0 x1 x2 x3 x5 x4 1 mm))
def fX11_swings_j25 (sh : Shp) (x0 : Nat) (x1 : Int32) (x2 : Int32) (x3 : Int32) (s0 : Nat) (s1 : Int32) (mm : Mem) : Option ((Int32 ⊕ Nat) × Mem) :=
  (isO sh 11 s0).bind fun _ =>
  bd2 (fX11_need sh s0 s1 mm) fun u1 m2 =>
  sme u1 (fun v3 =>
  lt1 0 fun x4_4 =>
  lt1 0 fun x5_5 =>
  (loopN (fun st : Int32 × Int32 => fX11_swings_b34 sh x0 x1 x2 x3 st.1 st.2 m2) FU (x4_4, x5_5)).bind (fun t => fX11_swings_j70 sh t m2)) (fun k => some (.inr k, m2))
def fX11_swings_j24 (sh : Shp) (x0 : Nat) (x1 : Int32) (x2 : Int32) (x3 : Int32) (s0 : Nat) (mm : Mem) : Option ((Int32 ⊕ Nat) × Mem) :=
  fX11_swings_j25 sh x0 x1 x2 x3 s0 0 mm
def fX11_swings (sh : Shp) (x0 : Nat) (x1 : Int32) (x2 : Int32) (x3 : Int32) (mm : Mem) : Option ((Int32 ⊕ Nat) × Mem) :=
  (isO sh 11 x0).bind fun _ =>
  bd2 (fX11_needFellow sh x0 x1 mm) fun u11 m12 =>
  sme u11 (fun v13 =>
  (fX11_isPart x2).bind fun v14 =>
  if v14 = 0 then (fX11_swings_j24 sh x0 x1 x2 x3 x0 m12)
  else ((fX11_isQuota x3).bind fun v16 =>
  if v16 = 0 then (fX11_swings_j24 sh x0 x1 x2 x3 x0 m12)
  else (fX11_swings_j25 sh x0 x1 x2 x3 x0 1 m12))) (fun k => some (.inr k, m12))
def fX11_inLeastTerms_j68 (s0 : Int64) : Option (Int64) :=
  some s0
def fX11_inLeastTerms_j44 (x0 : Int64) (x2 : Int64) (x4 : Int32) (x5 : Int64) : Option (Int64) :=
  lt1 (mxL 1 x5) fun x9_1 =>
  if x4 = 0 then ((dvL x0 x9_1).bind fun v4 =>
  fX11_inLeastTerms_j68 v4)
  else ((dvL x2 x9_1).bind fun v3 =>
  fX11_inLeastTerms_j68 v3)
def fX11_inLeastTerms_b9 (x0 : Int64) (x2 : Int64) (x4 : Int32) (x5 : Int64) (x7 : Int64) (x9 : Int32) : Option ((Int64 × Int64 × Int32) ⊕ ((Int64))) :=
  if 100 ≤ x9 then (some (.inr x5))
  else (if (lg_cmp x7 0) = 0 then (some (.inr x5))
  else ((rmL x5 x7).bind fun v10 =>
  lt1 v10 fun x10_11 =>
  lt1 x7 fun x5_12 =>
  lt1 x10_11 fun x7_13 =>
  lt1 (x9 + 1) fun x9_14 =>
  some (.inl (x5_12, x7_13, x9_14))))
def fX11_inLeastTerms (x0 : Int64) (x2 : Int64) (x4 : Int32) : Option (Int64) :=
  lt1 x0 fun x5_5 =>
  lt1 x2 fun x7_6 =>
  lt1 0 fun x9_7 =>
  (loopN (fun st : Int64 × Int64 × Int32 => fX11_inLeastTerms_b9 x0 x2 x4 st.1 st.2.1 st.2.2) FU (x5_5, x7_6, x9_7)).bind (fun t => fX11_inLeastTerms_j44 x0 x2 x4 t)
def fX11_power_j99 (sh : Shp) (x4 : Int32) (x5 : Int32) (mm : Mem) : Option ((Int32 ⊕ Nat) × Mem) :=
  (fX11_inLeastTerms ((x5).toInt64) 5040 x4).bind fun v1 =>
  some (.inl ((v1).toInt32), mm)
def fX11_power_j93 (sh : Shp) (x0 : Nat) (x1 : Int32) (x2 : Int32) (x3 : Int32) (x4 : Int32) (x5 : Int32) (x6 : Int32) (mm : Mem) : Option ((Int32 × Int32) ⊕ ((Int32))) :=
  lt1 (x6 + 1) fun x6_7 =>
  some (.inl (x5, x6_7))
def fX11_power_b45 (sh : Shp) (x0 : Nat) (x1 : Int32) (x2 : Int32) (x3 : Int32) (x4 : Int32) (x5 : Int32) (x6 : Int32) (mm : Mem) : Option ((Int32 × Int32) ⊕ ((Int32))) :=
  if 128 ≤ x6 then (some (.inr x5))
  else ((isO sh 11 x0).bind fun _ =>
  (fX11_isSwing sh x0 x1 x2 x3 x6 mm).bind fun v9 =>
  if v9 = 0 then (fX11_power_j93 sh x0 x1 x2 x3 x4 x5 x6 mm)
  else ((fJ6_bitCount_0f7a4 x6).bind fun v11 =>
  lt1 v11 fun x7_12 =>
  (fcL x7_12).bind fun v13 =>
  (fcL (6 - x7_12)).bind fun v14 =>
  lt1 (x5 + (v13 * v14)) fun x5_15 =>
  fX11_power_j93 sh x0 x1 x2 x3 x4 x5_15 x6 mm))
def fX11_power_j36 (sh : Shp) (x0 : Nat) (x1 : Int32) (x2 : Int32) (x3 : Int32) (x4 : Int32) (s0 : Nat) (s1 : Int32) (mm : Mem) : Option ((Int32 ⊕ Nat) × Mem) :=
  (isO sh 11 s0).bind fun _ =>
  bd2 (fX11_need sh s0 s1 mm) fun u2 m3 =>
  sme u2 (fun v4 =>
  lt1 0 fun x5_5 =>
  lt1 0 fun x6_6 =>
  (loopN (fun st : Int32 × Int32 => fX11_power_b45 sh x0 x1 x2 x3 x4 st.1 st.2 m3) FU (x5_5, x6_6)).bind (fun t => fX11_power_j99 sh x4 t m3)) (fun k => some (.inr k, m3))
def fX11_power_j35 (sh : Shp) (x0 : Nat) (x1 : Int32) (x2 : Int32) (x3 : Int32) (x4 : Int32) (s0 : Nat) (mm : Mem) : Option ((Int32 ⊕ Nat) × Mem) :=
  fX11_power_j36 sh x0 x1 x2 x3 x4 s0 0 mm
def fX11_power_j31 (sh : Shp) (x0 : Nat) (x1 : Int32) (x2 : Int32) (x3 : Int32) (x4 : Int32) (s0 : Nat) (mm : Mem) : Option ((Int32 ⊕ Nat) × Mem) :=
  fX11_power_j36 sh x0 x1 x2 x3 x4 s0 1 mm
def fX11_power (sh : Shp) (x0 : Nat) (x1 : Int32) (x2 : Int32) (x3 : Int32) (x4 : Int32) (mm : Mem) : Option ((Int32 ⊕ Nat) × Mem) :=
  (isO sh 11 x0).bind fun _ =>
  bd2 (fX11_needFellow sh x0 x1 mm) fun u16 m17 =>
  sme u16 (fun v18 =>
  (fX11_isPart x2).bind fun v19 =>
  if v19 = 0 then (fX11_power_j35 sh x0 x1 x2 x3 x4 x0 m17)
  else ((fX11_isQuota x3).bind fun v21 =>
  if v21 = 0 then (fX11_power_j35 sh x0 x1 x2 x3 x4 x0 m17)
  else (if x4 = 0 then (fX11_power_j31 sh x0 x1 x2 x3 x4 x0 m17)
  else (if x4 = 1 then (fX11_power_j31 sh x0 x1 x2 x3 x4 x0 m17)
  else (fX11_power_j35 sh x0 x1 x2 x3 x4 x0 m17))))) (fun k => some (.inr k, m17))
def fX11_green_j77 (sh : Shp) (x3 : Int32) (x4 : Int64) (x6 : Int64) (mm : Mem) : Option ((Int64 ⊕ Nat) × Mem) :=
  (fX11_inLeastTerms (x4 - x6) x4 x3).bind fun v1 =>
  some (.inl v1, mm)
def fX11_green_b47 (sh : Shp) (x1 : Int32) (x2 : Int32) (x3 : Int32) (x4 : Int64) (x6 : Int64) (x8 : Int32) (mm : Mem) : Option ((Int64 × Int64 × Int32) ⊕ ((Int64 × Int64))) :=
  if x1 ≤ x8 then (some (.inr (x4, x6)))
  else (lt1 (x4 * 16) fun x4_9 =>
  lt1 (x6 * (((16 - x2)).toInt64)) fun x6_10 =>
  lt1 (x8 + 1) fun x8_11 =>
  some (.inl (x4_9, x6_10, x8_11)))
def fX11_green_j35 (sh : Shp) (x1 : Int32) (x2 : Int32) (x3 : Int32) (s0 : Nat) (s1 : Int32) (mm : Mem) : Option ((Int64 ⊕ Nat) × Mem) :=
  (isO sh 11 s0).bind fun _ =>
  bd2 (fX11_need sh s0 s1 mm) fun u2 m3 =>
  sme u2 (fun v4 =>
  lt1 1 fun x4_5 =>
  lt1 1 fun x6_6 =>
  lt1 0 fun x8_7 =>
  (loopN (fun st : Int64 × Int64 × Int32 => fX11_green_b47 sh x1 x2 x3 st.1 st.2.1 st.2.2 m3) FU (x4_5, x6_6, x8_7)).bind (fun t => fX11_green_j77 sh x3 t.1 t.2 m3)) (fun k => some (.inr k, m3))
def fX11_green_j34 (sh : Shp) (x1 : Int32) (x2 : Int32) (x3 : Int32) (s0 : Nat) (mm : Mem) : Option ((Int64 ⊕ Nat) × Mem) :=
  fX11_green_j35 sh x1 x2 x3 s0 0 mm
def fX11_green_j30 (sh : Shp) (x1 : Int32) (x2 : Int32) (x3 : Int32) (s0 : Nat) (mm : Mem) : Option ((Int64 ⊕ Nat) × Mem) :=
  fX11_green_j35 sh x1 x2 x3 s0 1 mm
def fX11_green (sh : Shp) (x0 : Nat) (x1 : Int32) (x2 : Int32) (x3 : Int32) (mm : Mem) : Option ((Int64 ⊕ Nat) × Mem) :=
  if x1 < 0 then (fX11_green_j34 sh x1 x2 x3 x0 mm)
  else (if 12 < x1 then (fX11_green_j34 sh x1 x2 x3 x0 mm)
  else (if x2 < 0 then (fX11_green_j34 sh x1 x2 x3 x0 mm)
  else (if 16 < x2 then (fX11_green_j34 sh x1 x2 x3 x0 mm)
  else (if x3 = 0 then (fX11_green_j30 sh x1 x2 x3 x0 mm)
  else (if x3 = 1 then (fX11_green_j30 sh x1 x2 x3 x0 mm)
  else (fX11_green_j34 sh x1 x2 x3 x0 mm))))))
def fX11_gain_j18 (s0 : Int32) : Option (Int32) :=
  some s0
def fX11_gain (x0 : Int32) (x1 : Int32) (x2 : Int32) (x3 : Int32) : Option (Int32) :=
  if x0 = x1 then (fX11_gain_j18 0)
  else (if x0 = 0 then (fX11_gain_j18 x2)
  else (fX11_gain_j18 x3))
def fX11_wouldStay_j24 (s0 : Int32) : Option (Int32) :=
  (ckZ s0).bind fun v1 => some v1
def fX11_wouldStay (x0 : Int32) (x1 : Int32) (x2 : Int32) (x3 : Int32) : Option (Int32) :=
  (fX11_gain x0 x1 x2 x3).bind fun v2 =>
  (fX11_gain (1 - x0) x1 x2 x3).bind fun v3 =>
  if v2 < v3 then (fX11_wouldStay_j24 0)
  else (fX11_wouldStay_j24 1)
def fX11_lookers_j164 (sh : Shp) (s0 : Int32) (mm : Mem) : Option ((Int32 ⊕ Nat) × Mem) :=
  some (.inl s0, mm)
def fX11_lookers_j143 (sh : Shp) (x3 : Int32) (x4 : Int32) (x5 : Int32) (x6 : Int32) (mm : Mem) : Option ((Int32 ⊕ Nat) × Mem) :=
  if x3 = 0 then (fX11_lookers_j164 sh x4 mm)
  else (if x3 = 1 then (fX11_lookers_j164 sh x5 mm)
  else (fX11_lookers_j164 sh x6 mm))
def fX11_lookers_j137 (sh : Shp) (x1 : Int32) (x2 : Int32) (x3 : Int32) (x4 : Int32) (x5 : Int32) (x6 : Int32) (x7 : Int32) (mm : Mem) : Option ((Int32 × Int32 × Int32 × Int32) ⊕ ((Int32 × Int32 × Int32))) :=
  lt1 (x7 + 1) fun x7_10 =>
  some (.inl (x4, x5, x6, x7_10))
def fX11_lookers_j131 (sh : Shp) (x1 : Int32) (x2 : Int32) (x3 : Int32) (x4 : Int32) (x5 : Int32) (x6 : Int32) (x7 : Int32) (x8 : Int32) (mm : Mem) : Option ((Int32 × Int32 × Int32 × Int32) ⊕ ((Int32 × Int32 × Int32))) :=
  lt1 (x8 + 1) fun x8_13 =>
  some (.inl (x4, x5, x6, x8_13))
def fX11_lookers_j128 (sh : Shp) (x1 : Int32) (x2 : Int32) (x3 : Int32) (x4 : Int32) (x5 : Int32) (x6 : Int32) (x7 : Int32) (x8 : Int32) (mm : Mem) : Option ((Int32 × Int32 × Int32 × Int32) ⊕ ((Int32 × Int32 × Int32))) :=
  lt1 (x4 + 1) fun x4_14 =>
  fX11_lookers_j131 sh x1 x2 x3 x4_14 x5 x6 x7 x8 mm
def fX11_lookers_b59 (sh : Shp) (x1 : Int32) (x2 : Int32) (x3 : Int32) (x7 : Int32) (x4 : Int32) (x5 : Int32) (x6 : Int32) (x8 : Int32) (mm : Mem) : Option ((Int32 × Int32 × Int32 × Int32) ⊕ ((Int32 × Int32 × Int32))) :=
  if 1 < x8 then (some (.inr (x4, x5, x6)))
  else ((fX11_wouldStay x7 x8 x1 x2).bind fun v16 =>
  if v16 = 0 then (fX11_lookers_j131 sh x1 x2 x3 x4 x5 x6 x7 x8 mm)
  else ((fX11_wouldStay x8 x7 x1 x2).bind fun v18 =>
  if v18 = 0 then (fX11_lookers_j131 sh x1 x2 x3 x4 x5 x6 x7 x8 mm)
  else (if x4 = 0 then (lt1 ((10 * x7) + x8) fun x5_21 =>
  (fX11_gain x7 x8 x1 x2).bind fun v22 =>
  (fX11_gain x8 x7 x1 x2).bind fun v23 =>
  lt1 (v22 + v23) fun x6_24 =>
  fX11_lookers_j128 sh x1 x2 x3 x4 x5_21 x6_24 x7 x8 mm)
  else (fX11_lookers_j128 sh x1 x2 x3 x4 x5 x6 x7 x8 mm))))
def fX11_lookers_b50 (sh : Shp) (x1 : Int32) (x2 : Int32) (x3 : Int32) (x4 : Int32) (x5 : Int32) (x6 : Int32) (x7 : Int32) (mm : Mem) : Option ((Int32 × Int32 × Int32 × Int32) ⊕ ((Int32 × Int32 × Int32))) :=
  if 1 < x7 then (some (.inr (x4, x5, x6)))
  else (lt1 0 fun x8_12 =>
  (loopN (fun st : Int32 × Int32 × Int32 × Int32 => fX11_lookers_b59 sh x1 x2 x3 x7 st.1 st.2.1 st.2.2.1 st.2.2.2 mm) FU (x4, x5, x6, x8_12)).bind (fun t => fX11_lookers_j137 sh x1 x2 x3 t.1 t.2.1 t.2.2 x7 mm))
def fX11_lookers_j35 (sh : Shp) (x1 : Int32) (x2 : Int32) (x3 : Int32) (s0 : Nat) (s1 : Int32) (mm : Mem) : Option ((Int32 ⊕ Nat) × Mem) :=
  (isO sh 11 s0).bind fun _ =>
  bd2 (fX11_need sh s0 s1 mm) fun u3 m4 =>
  sme u3 (fun v5 =>
  lt1 0 fun x4_6 =>
  lt1 (-1) fun x5_7 =>
  lt1 0 fun x6_8 =>
  lt1 0 fun x7_9 =>
  (loopN (fun st : Int32 × Int32 × Int32 × Int32 => fX11_lookers_b50 sh x1 x2 x3 st.1 st.2.1 st.2.2.1 st.2.2.2 m4) FU (x4_6, x5_7, x6_8, x7_9)).bind (fun t => fX11_lookers_j143 sh x3 t.1 t.2.1 t.2.2 m4)) (fun k => some (.inr k, m4))
def fX11_lookers_j34 (sh : Shp) (x1 : Int32) (x2 : Int32) (x3 : Int32) (s0 : Nat) (mm : Mem) : Option ((Int32 ⊕ Nat) × Mem) :=
  fX11_lookers_j35 sh x1 x2 x3 s0 0 mm
def fX11_lookers (sh : Shp) (x0 : Nat) (x1 : Int32) (x2 : Int32) (x3 : Int32) (mm : Mem) : Option ((Int32 ⊕ Nat) × Mem) :=
  if x1 < 0 then (fX11_lookers_j34 sh x1 x2 x3 x0 mm)
  else (if 99 < x1 then (fX11_lookers_j34 sh x1 x2 x3 x0 mm)
  else (if x2 < 0 then (fX11_lookers_j34 sh x1 x2 x3 x0 mm)
  else (if 99 < x2 then (fX11_lookers_j34 sh x1 x2 x3 x0 mm)
  else (if x3 < 0 then (fX11_lookers_j34 sh x1 x2 x3 x0 mm)
  else (if 2 < x3 then (fX11_lookers_j34 sh x1 x2 x3 x0 mm)
  else (fX11_lookers_j35 sh x1 x2 x3 x0 1 mm))))))
def fX11_light_j89 (sh : Shp) (x0 : Nat) (x1 : Int32) (x4 : Int32) (mm : Mem) : Option ((Int32 ⊕ Nat) × Mem) :=
  (rR sh 11 x0 9).bind fun a1 =>
  (isO sh 2 a1).bind fun _ =>
  (fX2_allWithin sh a1 x1 mm).bind fun v2 =>
  some (.inl (mnI v2 x4), mm)
def fX11_light_j80 (sh : Shp) (x0 : Nat) (x1 : Int32) (x2 : Int32) (x3 : Int32) (x4 : Int32) (x5 : Int32) (mm : Mem) : Option ((Int32 × Int32) ⊕ ((Int32))) :=
  lt1 (x5 >>> (1 &&& 31)) fun x5_9 =>
  some (.inl (x4, x5_9))
def fX11_light_b51 (sh : Shp) (x0 : Nat) (x1 : Int32) (x2 : Int32) (x3 : Int32) (x4 : Int32) (x5 : Int32) (mm : Mem) : Option ((Int32 × Int32) ⊕ ((Int32))) :=
  if x5 ≤ 0 then (some (.inr x4))
  else ((rR sh 11 x0 9).bind fun a11 =>
  (isO sh 2 a11).bind fun _ =>
  (fX2_givenBy sh a11 x2 (x4 + x5) mm).bind fun v12 =>
  if x3 < v12 then (fX11_light_j80 sh x0 x1 x2 x3 x4 x5 mm)
  else (lt1 (x4 + x5) fun x4_14 =>
  fX11_light_j80 sh x0 x1 x2 x3 x4_14 x5 mm))
def fX11_light_j30 (sh : Shp) (x0 : Nat) (x1 : Int32) (x2 : Int32) (x3 : Int32) (s0 : Nat) (s1 : Int32) (mm : Mem) : Option ((Int32 ⊕ Nat) × Mem) :=
  (isO sh 11 s0).bind fun _ =>
  bd2 (fX11_need sh s0 s1 mm) fun u3 m4 =>
  sme u3 (fun v5 =>
  if ((x2 >>> (x1 &&& 31)) &&& 1) = 0 then (some (.inl 0, m4))
  else (lt1 0 fun x4_7 =>
  lt1 2048 fun x5_8 =>
  (loopN (fun st : Int32 × Int32 => fX11_light_b51 sh x0 x1 x2 x3 st.1 st.2 m4) FU (x4_7, x5_8)).bind (fun t => fX11_light_j89 sh x0 x1 t m4))) (fun k => some (.inr k, m4))
def fX11_light_j29 (sh : Shp) (x0 : Nat) (x1 : Int32) (x2 : Int32) (x3 : Int32) (s0 : Nat) (mm : Mem) : Option ((Int32 ⊕ Nat) × Mem) :=
  fX11_light_j30 sh x0 x1 x2 x3 s0 0 mm
def fX11_light (sh : Shp) (x0 : Nat) (x1 : Int32) (x2 : Int32) (x3 : Int32) (mm : Mem) : Option ((Int32 ⊕ Nat) × Mem) :=
  (isO sh 11 x0).bind fun _ =>
  bd2 (fX11_needFellow sh x0 x1 mm) fun u15 m16 =>
  sme u15 (fun v17 =>
  (isO sh 11 x0).bind fun _ =>
  (fX11_areFellows sh x0 x2 m16).bind fun v18 =>
  if v18 = 0 then (fX11_light_j29 sh x0 x1 x2 x3 x0 m16)
  else (if x3 < 0 then (fX11_light_j29 sh x0 x1 x2 x3 x0 m16)
  else (if 2800 < x3 then (fX11_light_j29 sh x0 x1 x2 x3 x0 m16)
  else (fX11_light_j30 sh x0 x1 x2 x3 x0 1 m16)))) (fun k => some (.inr k, m16))
def fX11_broadest_j75 (sh : Shp) (s0 : Int32) (mm : Mem) : Option ((Int32 ⊕ Nat) × Mem) :=
  some (.inl s0, mm)
def fX11_broadest_j66 (sh : Shp) (x1 : Int32) (x2 : Int32) (x3 : Int32) (mm : Mem) : Option ((Int32 ⊕ Nat) × Mem) :=
  if x1 = 0 then (fX11_broadest_j75 sh x2 mm)
  else (fX11_broadest_j75 sh x3 mm)
def fX11_broadest_j60 (sh : Shp) (x0 : Nat) (x1 : Int32) (x2 : Int32) (x3 : Int32) (x4 : Int32) (mm : Mem) : Option ((Int32 × Int32 × Int32) ⊕ ((Int32 × Int32))) :=
  lt1 (x4 + 1) fun x4_8 =>
  some (.inl (x2, x3, x4_8))
def fX11_broadest_b25 (sh : Shp) (x0 : Nat) (x1 : Int32) (x2 : Int32) (x3 : Int32) (x4 : Int32) (mm : Mem) : Option ((Int32 × Int32 × Int32) ⊕ ((Int32 × Int32))) :=
  (rR sh 11 x0 1).bind fun a9 =>
  (rI sh mm 1 a9 3).bind fun v10 =>
  if v10 ≤ x4 then (some (.inr (x2, x3)))
  else ((rR sh 11 x0 9).bind fun a12 =>
  (isO sh 2 a12).bind fun _ =>
  (fX2_allWithin sh a12 x4 mm).bind fun v13 =>
  lt1 v13 fun x5_14 =>
  if x5_14 ≤ x3 then (fX11_broadest_j60 sh x0 x1 x2 x3 x4 mm)
  else (lt1 x4 fun x2_16 =>
  lt1 x5_14 fun x3_17 =>
  fX11_broadest_j60 sh x0 x1 x2_16 x3_17 x4 mm))
def fX11_broadest_j15 (sh : Shp) (x0 : Nat) (x1 : Int32) (s0 : Nat) (s1 : Int32) (mm : Mem) : Option ((Int32 ⊕ Nat) × Mem) :=
  (isO sh 11 s0).bind fun _ =>
  bd2 (fX11_need sh s0 s1 mm) fun u2 m3 =>
  sme u2 (fun v4 =>
  lt1 (-1) fun x2_5 =>
  lt1 (-1) fun x3_6 =>
  lt1 0 fun x4_7 =>
  (loopN (fun st : Int32 × Int32 × Int32 => fX11_broadest_b25 sh x0 x1 st.1 st.2.1 st.2.2 m3) FU (x2_5, x3_6, x4_7)).bind (fun t => fX11_broadest_j66 sh x1 t.1 t.2 m3)) (fun k => some (.inr k, m3))
def fX11_broadest_j10 (sh : Shp) (x0 : Nat) (x1 : Int32) (s0 : Nat) (mm : Mem) : Option ((Int32 ⊕ Nat) × Mem) :=
  fX11_broadest_j15 sh x0 x1 s0 1 mm
def fX11_broadest (sh : Shp) (x0 : Nat) (x1 : Int32) (mm : Mem) : Option ((Int32 ⊕ Nat) × Mem) :=
  if x1 = 0 then (fX11_broadest_j10 sh x0 x1 x0 mm)
  else (if x1 = 1 then (fX11_broadest_j10 sh x0 x1 x0 mm)
  else (fX11_broadest_j15 sh x0 x1 x0 0 mm))
def fX11_strongest_j54 (sh : Shp) (s0 : Int32) (mm : Mem) : Option ((Int32 ⊕ Nat) × Mem) :=
  some (.inl s0, mm)
def fX11_strongest_j20 (sh : Shp) (x0 : Nat) (x1 : Int32) (x2 : Int32) (s0 : Nat) (s1 : Int32) (mm : Mem) : Option ((Int32 ⊕ Nat) × Mem) :=
  (isO sh 11 s0).bind fun _ =>
  bd2 (fX11_need sh s0 s1 mm) fun u1 m2 =>
  sme u1 (fun v3 =>
  (rR sh 11 x0 9).bind fun a4 =>
  (isO sh 2 a4).bind fun _ =>
  (fX2_mostPart sh a4 x1 m2).bind fun v5 =>
  lt1 v5 fun x3_6 =>
  if x2 = 0 then (fX11_strongest_j54 sh x3_6 m2)
  else ((rR sh 11 x0 9).bind fun a8 =>
  (rR sh 2 a8 0).bind fun a9 =>
  (aL sh m2 a9 ((x1 * 7) + x3_6)).bind fun v10 =>
  fX11_strongest_j54 sh v10 m2)) (fun k => some (.inr k, m2))
def fX11_strongest_j15 (sh : Shp) (x0 : Nat) (x1 : Int32) (x2 : Int32) (s0 : Nat) (mm : Mem) : Option ((Int32 ⊕ Nat) × Mem) :=
  fX11_strongest_j20 sh x0 x1 x2 s0 1 mm
def fX11_strongest (sh : Shp) (x0 : Nat) (x1 : Int32) (x2 : Int32) (mm : Mem) : Option ((Int32 ⊕ Nat) × Mem) :=
  (isO sh 11 x0).bind fun _ =>
  bd2 (fX11_needFellow sh x0 x1 mm) fun u11 m12 =>
  sme u11 (fun v13 =>
  if x2 = 0 then (fX11_strongest_j15 sh x0 x1 x2 x0 m12)
  else (if x2 = 1 then (fX11_strongest_j15 sh x0 x1 x2 x0 m12)
  else (fX11_strongest_j20 sh x0 x1 x2 x0 0 m12))) (fun k => some (.inr k, m12))
def fX11_joins (sh : Shp) (x0 : Nat) (x1 : Int32) (x2 : Int32) (mm : Mem) : Option ((Int32 ⊕ Nat) × Mem) :=
  (isO sh 11 x0).bind fun _ =>
  bd2 (fX11_needFellow sh x0 x1 mm) fun u1 m2 =>
  sme u1 (fun v3 =>
  (isO sh 11 x0).bind fun _ =>
  bd2 (fX11_needGlass sh x0 x2 m2) fun u4 m5 =>
  sme u4 (fun v6 =>
  (rR sh 11 x0 7).bind fun a7 =>
  (rR sh 11 x0 9).bind fun a8 =>
  (isO sh 5 a7).bind fun _ =>
  bd2 (fX5_joinedBits sh a7 a8 x1 x2 m5) fun v9 m10 =>
  some (.inl v9, m10)) (fun k => some (.inr k, m5))) (fun k => some (.inr k, m2))
def fX11_blurs_j48 (sh : Shp) (x2 : Int32) (mm : Mem) : Option ((Int32 ⊕ Nat) × Mem) :=
  some (.inl x2, mm)
def fX11_blurs_j42 (sh : Shp) (x0 : Nat) (x1 : Int32) (x2 : Int32) (x3 : Int32) (mm : Mem) : Option ((Int32 × Int32 × Mem) ⊕ ((Int32 × Mem))) :=
  lt1 (x3 + 1) fun x3_6 =>
  some (.inl (x2, x3_6, mm))
def fX11_blurs_b9 (sh : Shp) (x0 : Nat) (x1 : Int32) (x2 : Int32) (x3 : Int32) (mm : Mem) : Option ((Int32 × Int32 × Mem) ⊕ ((Int32 × Mem))) :=
  (rR sh 11 x0 1).bind fun a7 =>
  (rI sh mm 1 a7 4).bind fun v8 =>
  if v8 ≤ x3 then (some (.inr (x2, mm)))
  else ((rR sh 11 x0 14).bind fun a10 =>
  (rR sh 11 x0 9).bind fun a11 =>
  (isO sh 6 a10).bind fun _ =>
  bd2 (fX6_blursBy sh a10 a11 x1 x3 mm) fun v12 m13 =>
  if v12 = 0 then (fX11_blurs_j42 sh x0 x1 x2 x3 m13)
  else (lt1 (x2 ||| (1 <<< (x3 &&& 31))) fun x2_15 =>
  fX11_blurs_j42 sh x0 x1 x2_15 x3 m13))
def fX11_blurs (sh : Shp) (x0 : Nat) (x1 : Int32) (mm : Mem) : Option ((Int32 ⊕ Nat) × Mem) :=
  (isO sh 11 x0).bind fun _ =>
  bd2 (fX11_needFellow sh x0 x1 mm) fun u1 m2 =>
  sme u1 (fun v3 =>
  lt1 0 fun x2_4 =>
  lt1 0 fun x3_5 =>
  (loopN (fun st : Int32 × Int32 × Mem => fX11_blurs_b9 sh x0 x1 st.1 st.2.1 st.2.2) FU (x2_4, x3_5, m2)).bind (fun t => fX11_blurs_j48 sh t.1 t.2)) (fun k => some (.inr k, m2))
def fX11_lit_j41 (sh : Shp) (x1 : Int32) (mm : Mem) : Option (Int32) :=
  some x1
def fX11_lit_j33 (sh : Shp) (x0 : Nat) (x2 : Int32) (s0 : Int32) (s1 : Int32) (mm : Mem) : Option ((Int32 × Int32) ⊕ ((Int32))) :=
  lt1 (s0 + s1) fun x1_3 =>
  lt1 (x2 + 1) fun x2_4 =>
  some (.inl (x1_3, x2_4))
def fX11_lit_b4 (sh : Shp) (x0 : Nat) (x1 : Int32) (x2 : Int32) (mm : Mem) : Option ((Int32 × Int32) ⊕ ((Int32))) :=
  (rR sh 11 x0 1).bind fun a5 =>
  (rI sh mm 1 a5 5).bind fun v6 =>
  if v6 ≤ x2 then (some (.inr x1))
  else ((rR sh 11 x0 9).bind fun a8 =>
  (isO sh 2 a8).bind fun _ =>
  (fX2_muchNear sh a8 x2 0 mm).bind fun v9 =>
  if v9 ≤ 0 then (fX11_lit_j33 sh x0 x2 x1 0 mm)
  else (fX11_lit_j33 sh x0 x2 x1 1 mm))
def fX11_lit (sh : Shp) (x0 : Nat) (mm : Mem) : Option (Int32) :=
  lt1 0 fun x1_1 =>
  lt1 0 fun x2_2 =>
  (loopN (fun st : Int32 × Int32 => fX11_lit_b4 sh x0 st.1 st.2 mm) FU (x1_1, x2_2)).bind (fun t => fX11_lit_j41 sh t mm)
def fX11_lacks (sh : Shp) (x0 : Nat) (x1 : Int32) (x2 : Int32) (mm : Mem) : Option ((Int32 ⊕ Nat) × Mem) :=
  (isO sh 11 x0).bind fun _ =>
  bd2 (fX11_needFellow sh x0 x1 mm) fun u1 m2 =>
  sme u1 (fun v3 =>
  (fX11_isPart x2).bind fun v4 =>
  (isO sh 11 x0).bind fun _ =>
  bd2 (fX11_need sh x0 v4 m2) fun u5 m6 =>
  sme u5 (fun v7 =>
  lt1 (x1 * 7) fun x3_8 =>
  (rR sh 11 x0 9).bind fun a9 =>
  (rR sh 2 a9 0).bind fun a10 =>
  (rR sh 11 x0 9).bind fun a11 =>
  (isO sh 2 a11).bind fun _ =>
  (fX2_mostPart sh a11 x1 m6).bind fun v12 =>
  (aL sh m6 a10 (x3_8 + v12)).bind fun v13 =>
  (rR sh 11 x0 9).bind fun a14 =>
  (rR sh 2 a14 0).bind fun a15 =>
  (aL sh m6 a15 (x3_8 + x2)).bind fun v16 =>
  some (.inl (v13 - v16), m6)) (fun k => some (.inr k, m6))) (fun k => some (.inr k, m2))
def fX11_mates_j54 (sh : Shp) (x2 : Int32) (mm : Mem) : Option ((Int32 ⊕ Nat) × Mem) :=
  some (.inl x2, mm)
def fX11_mates_j48 (sh : Shp) (x0 : Nat) (x1 : Int32) (x2 : Int32) (x3 : Int32) (mm : Mem) : Option ((Int32 × Int32) ⊕ ((Int32))) :=
  lt1 (x3 + 1) fun x3_6 =>
  some (.inl (x2, x3_6))
def fX11_mates_b9 (sh : Shp) (x0 : Nat) (x1 : Int32) (x2 : Int32) (x3 : Int32) (mm : Mem) : Option ((Int32 × Int32) ⊕ ((Int32))) :=
  (rR sh 11 x0 1).bind fun a7 =>
  (rI sh mm 1 a7 3).bind fun v8 =>
  if v8 ≤ x3 then (some (.inr x2))
  else (if x3 = x1 then (fX11_mates_j48 sh x0 x1 x2 x3 mm)
  else ((rR sh 11 x0 9).bind fun a11 =>
  (isO sh 2 a11).bind fun _ =>
  (fX2_isWhite sh a11 ((1 <<< (x1 &&& 31)) ||| (1 <<< (x3 &&& 31))) mm).bind fun v12 =>
  if v12 = 0 then (fX11_mates_j48 sh x0 x1 x2 x3 mm)
  else (lt1 (x2 ||| (1 <<< (x3 &&& 31))) fun x2_14 =>
  fX11_mates_j48 sh x0 x1 x2_14 x3 mm)))
def fX11_mates (sh : Shp) (x0 : Nat) (x1 : Int32) (mm : Mem) : Option ((Int32 ⊕ Nat) × Mem) :=
  (isO sh 11 x0).bind fun _ =>
  bd2 (fX11_needFellow sh x0 x1 mm) fun u1 m2 =>
  sme u1 (fun v3 =>
  lt1 0 fun x2_4 =>
  lt1 0 fun x3_5 =>
  (loopN (fun st : Int32 × Int32 => fX11_mates_b9 sh x0 x1 st.1 st.2 m2) FU (x2_4, x3_5)).bind (fun t => fX11_mates_j54 sh t m2)) (fun k => some (.inr k, m2))
def fX11_first_j65 (sh : Shp) (mm : Mem) : Option ((Int32 ⊕ Nat) × Mem) :=
  some (.inl (-1), mm)
def fX11_first_j57 (sh : Shp) (x3 : Int32) (mm : Mem) : Option ((Int32 ⊕ Nat) × Mem) :=
  some (.inl x3, mm)
def fX11_first_j59 (sh : Shp) (x0 : Nat) (x1 : Int32) (x2 : Int32) (x3 : Int32) (mm : Mem) : Option ((Int32) ⊕ ((Int32) ⊕ (Unit))) :=
  lt1 (x3 + 1) fun x3_8 =>
  some (.inl x3_8)
def fX11_first_b16 (sh : Shp) (x0 : Nat) (x1 : Int32) (x2 : Int32) (x3 : Int32) (mm : Mem) : Option ((Int32) ⊕ ((Int32) ⊕ (Unit))) :=
  if 7 ≤ x3 then (some (.inr (Sum.inr (()))))
  else (lt1 ((x1 * 7) + x3) fun x4_10 =>
  (rR sh 11 x0 9).bind fun a11 =>
  (rR sh 2 a11 1).bind fun a12 =>
  (aL sh mm a12 x4_10).bind fun v13 =>
  if v13 ≤ 0 then (fX11_first_j59 sh x0 x1 x2 x3 mm)
  else ((rR sh 11 x0 9).bind fun a15 =>
  (rR sh 2 a15 2).bind fun a16 =>
  (aL sh mm a16 x4_10).bind fun v17 =>
  if v17 = x2 then (some (.inr (Sum.inl x3)))
  else (fX11_first_j59 sh x0 x1 x2 x3 mm)))
def fX11_first (sh : Shp) (x0 : Nat) (x1 : Int32) (mm : Mem) : Option ((Int32 ⊕ Nat) × Mem) :=
  (isO sh 11 x0).bind fun _ =>
  bd2 (fX11_needFellow sh x0 x1 mm) fun u1 m2 =>
  sme u1 (fun v3 =>
  (rR sh 11 x0 9).bind fun a4 =>
  (isO sh 2 a4).bind fun _ =>
  (fX2_leastPlace sh a4 x1 m2).bind fun v5 =>
  lt1 v5 fun x2_6 =>
  lt1 0 fun x3_7 =>
  (loopN (fun st : Int32 => fX11_first_b16 sh x0 x1 x2_6 st m2) FU x3_7).bind (Sum.elim (fun t => fX11_first_j57 sh t m2) (fun t => fX11_first_j65 sh m2))) (fun k => some (.inr k, m2))
def fX11_halo_j24 (sh : Shp) (x0 : Nat) (x1 : Int32) (x2 : Int32) (s0 : Nat) (s1 : Int32) (mm : Mem) : Option ((Int32 ⊕ Nat) × Mem) :=
  (isO sh 11 s0).bind fun _ =>
  bd2 (fX11_need sh s0 s1 mm) fun u1 m2 =>
  sme u1 (fun v3 =>
  (rR sh 11 x0 9).bind fun a4 =>
  (isO sh 2 a4).bind fun _ =>
  (fX2_muchNear sh a4 x1 x2 m2).bind fun v5 =>
  some (.inl v5, m2)) (fun k => some (.inr k, m2))
def fX11_halo_j23 (sh : Shp) (x0 : Nat) (x1 : Int32) (x2 : Int32) (s0 : Nat) (mm : Mem) : Option ((Int32 ⊕ Nat) × Mem) :=
  fX11_halo_j24 sh x0 x1 x2 s0 0 mm
def fX11_halo (sh : Shp) (x0 : Nat) (x1 : Int32) (x2 : Int32) (mm : Mem) : Option ((Int32 ⊕ Nat) × Mem) :=
  (isO sh 11 x0).bind fun _ =>
  (fX11_isPlace sh x0 x1 mm).bind fun v6 =>
  if v6 = 0 then (fX11_halo_j23 sh x0 x1 x2 x0 mm)
  else (if x2 < 0 then (fX11_halo_j23 sh x0 x1 x2 x0 mm)
  else (if 99 < x2 then (fX11_halo_j23 sh x0 x1 x2 x0 mm)
  else (fX11_halo_j24 sh x0 x1 x2 x0 1 mm)))
def fX11_isTerm_j26 (s0 : Int32) : Option (Int32) :=
  (ckZ s0).bind fun v1 => some v1
def fX11_isTerm_j25 : Option (Int32) :=
  fX11_isTerm_j26 0
def fX11_isTerm (x0 : Int32) (x1 : Int32) : Option (Int32) :=
  if x0 < 0 then (fX11_isTerm_j25 )
  else (if 16 < x0 then (fX11_isTerm_j25 )
  else (if x1 < 1 then (fX11_isTerm_j25 )
  else (if 48 < x1 then (fX11_isTerm_j25 )
  else (fX11_isTerm_j26 1))))
def fX11_term_j25 (sh : Shp) (x0 : Nat) (x1 : Int32) (x2 : Int32) (x3 : Int32) (x4 : Int32) (s0 : Nat) (s1 : Int32) (mm : Mem) : Option ((Int32 ⊕ Nat) × Mem) :=
  (isO sh 11 s0).bind fun _ =>
  bd2 (fX11_need sh s0 s1 mm) fun u1 m2 =>
  sme u1 (fun v3 =>
  (rR sh 11 x0 15).bind fun a4 =>
  (rR sh 11 x0 9).bind fun a5 =>
  (isO sh 9 a4).bind fun _ =>
  (fX9_run sh a4 a5 x1 x2 x3 m2).bind fun m6 =>
  (rR sh 11 x0 15).bind fun a7 =>
  (rR sh 9 a7 2).bind fun a8 =>
  lt1 a8 fun x5_9 =>
  if x4 = 0 then ((rR sh 2 x5_9 0).bind fun a10 =>
  (fX11_sum sh a10 0 42 m6).bind fun v11 =>
  some (.inl v11, m6))
  else if x4 = 1 then ((rR sh 2 x5_9 1).bind fun a13 =>
  (fX11_sum sh a13 0 42 m6).bind fun v14 =>
  some (.inl v14, m6))
  else if x4 = 2 then ((rR sh 2 x5_9 4).bind fun a16 =>
  (fX11_sum sh a16 0 6 m6).bind fun v17 =>
  (rR sh 11 x0 9).bind fun a18 =>
  (rR sh 2 a18 4).bind fun a19 =>
  (fX11_sum sh a19 0 6 m6).bind fun v20 =>
  some (.inl (v17 - v20), m6))
  else ((isO sh 2 x5_9).bind fun _ =>
  (fX2_whiteBits sh x5_9 m6).bind fun v22 =>
  some (.inl v22, m6))) (fun k => some (.inr k, m2))
def fX11_term_j24 (sh : Shp) (x0 : Nat) (x1 : Int32) (x2 : Int32) (x3 : Int32) (x4 : Int32) (s0 : Nat) (mm : Mem) : Option ((Int32 ⊕ Nat) × Mem) :=
  fX11_term_j25 sh x0 x1 x2 x3 x4 s0 0 mm
def fX11_term (sh : Shp) (x0 : Nat) (x1 : Int32) (x2 : Int32) (x3 : Int32) (x4 : Int32) (mm : Mem) : Option ((Int32 ⊕ Nat) × Mem) :=
  (fX11_isTerm x2 x3).bind fun v23 =>
  if v23 = 0 then (fX11_term_j24 sh x0 x1 x2 x3 x4 x0 mm)
  else (if x4 < 0 then (fX11_term_j24 sh x0 x1 x2 x3 x4 x0 mm)
  else (if 3 < x4 then (fX11_term_j24 sh x0 x1 x2 x3 x4 x0 mm)
  else (fX11_term_j25 sh x0 x1 x2 x3 x4 x0 1 mm)))
def fX11_span_j178 (sh : Shp) (s0 : Int32) (mm : Mem) : Option ((Int32 ⊕ Nat) × Mem) :=
  some (.inl s0, mm)
def fX11_span_j155 (sh : Shp) (x5 : Int32) (x7 : Int32) (x8 : Int32) (x9 : Int32) (mm : Mem) : Option ((Int32 ⊕ Nat) × Mem) :=
  if x5 = 0 then (fX11_span_j178 sh x7 mm)
  else (if x5 = 1 then (fX11_span_j178 sh x8 mm)
  else (fX11_span_j178 sh x9 mm))
def fX11_span_j146 (sh : Shp) (x0 : Nat) (x1 : Int32) (x2 : Int32) (x3 : Int32) (x4 : Int32) (x5 : Int32) (x6 : Int32) (x7 : Int32) (x8 : Int32) (x10 : Int32) (s0 : Int32) (s1 : Int32) (mm : Mem) : Option ((Int32 × Int32 × Int32 × Int32 × Mem) ⊕ ((Int32 × Int32 × Int32 × Mem))) :=
  lt1 (s0 + s1) fun x9_14 =>
  lt1 (x10 + 1) fun x10_15 =>
  some (.inl (x7, x8, x9_14, x10_15, mm))
def fX11_span_b64 (sh : Shp) (x0 : Nat) (x1 : Int32) (x2 : Int32) (x3 : Int32) (x4 : Int32) (x5 : Int32) (x6 : Int32) (x7 : Int32) (x8 : Int32) (x9 : Int32) (x10 : Int32) (mm : Mem) : Option ((Int32 × Int32 × Int32 × Int32 × Mem) ⊕ ((Int32 × Int32 × Int32 × Mem))) :=
  if x2 ≤ x10 then (some (.inr (x7, x8, x9, mm)))
  else ((rR sh 11 x0 15).bind fun a17 =>
  (rR sh 11 x0 9).bind fun a18 =>
  (isO sh 9 a17).bind fun _ =>
  (fX9_run sh a17 a18 (x1 + x10) x3 x4 mm).bind fun m19 =>
  (rR sh 11 x0 15).bind fun a20 =>
  (rR sh 9 a20 2).bind fun a21 =>
  (rR sh 2 a21 0).bind fun a22 =>
  (fX11_sum sh a22 0 42 m19).bind fun v23 =>
  lt1 v23 fun x11_24 =>
  lt1 (mnI x7 x11_24) fun x7_25 =>
  lt1 (mxI x8 x11_24) fun x8_26 =>
  (rR sh 11 x0 15).bind fun a27 =>
  (rR sh 9 a27 2).bind fun a28 =>
  (isO sh 2 a28).bind fun _ =>
  (fX2_allWithin sh a28 x6 m19).bind fun v29 =>
  if v29 ≤ 0 then (fX11_span_j146 sh x0 x1 x2 x3 x4 x5 x6 x7_25 x8_26 x10 x9 0 m19)
  else (fX11_span_j146 sh x0 x1 x2 x3 x4 x5 x6 x7_25 x8_26 x10 x9 1 m19))
def fX11_span_j37 (sh : Shp) (x0 : Nat) (x1 : Int32) (x2 : Int32) (x3 : Int32) (x4 : Int32) (x5 : Int32) (x6 : Int32) (s0 : Nat) (s1 : Int32) (mm : Mem) : Option ((Int32 ⊕ Nat) × Mem) :=
  (isO sh 11 s0).bind fun _ =>
  bd2 (fX11_need sh s0 s1 mm) fun u3 m4 =>
  sme u3 (fun v5 =>
  (isO sh 11 x0).bind fun _ =>
  (fX11_isFellow sh x0 x6 m4).bind fun v6 =>
  (isO sh 11 x0).bind fun _ =>
  bd2 (fX11_need sh x0 v6 m4) fun u7 m8 =>
  sme u7 (fun v9 =>
  lt1 1680 fun x7_10 =>
  lt1 0 fun x8_11 =>
  lt1 0 fun x9_12 =>
  lt1 0 fun x10_13 =>
  (loopN (fun st : Int32 × Int32 × Int32 × Int32 × Mem => fX11_span_b64 sh x0 x1 x2 x3 x4 x5 x6 st.1 st.2.1 st.2.2.1 st.2.2.2.1 st.2.2.2.2) FU (x7_10, x8_11, x9_12, x10_13, m8)).bind (fun t => fX11_span_j155 sh x5 t.1 t.2.1 t.2.2.1 t.2.2.2)) (fun k => some (.inr k, m8))) (fun k => some (.inr k, m4))
def fX11_span_j36 (sh : Shp) (x0 : Nat) (x1 : Int32) (x2 : Int32) (x3 : Int32) (x4 : Int32) (x5 : Int32) (x6 : Int32) (s0 : Nat) (mm : Mem) : Option ((Int32 ⊕ Nat) × Mem) :=
  fX11_span_j37 sh x0 x1 x2 x3 x4 x5 x6 s0 0 mm
def fX11_span (sh : Shp) (x0 : Nat) (x1 : Int32) (x2 : Int32) (x3 : Int32) (x4 : Int32) (x5 : Int32) (x6 : Int32) (mm : Mem) : Option ((Int32 ⊕ Nat) × Mem) :=
  if x2 < 1 then (fX11_span_j36 sh x0 x1 x2 x3 x4 x5 x6 x0 mm)
  else (if 10 < x2 then (fX11_span_j36 sh x0 x1 x2 x3 x4 x5 x6 x0 mm)
  else ((fX11_isTerm x3 x4).bind fun v33 =>
  if v33 = 0 then (fX11_span_j36 sh x0 x1 x2 x3 x4 x5 x6 x0 mm)
  else (if x5 < 0 then (fX11_span_j36 sh x0 x1 x2 x3 x4 x5 x6 x0 mm)
  else (if 2 < x5 then (fX11_span_j36 sh x0 x1 x2 x3 x4 x5 x6 x0 mm)
  else (fX11_span_j37 sh x0 x1 x2 x3 x4 x5 x6 x0 1 mm)))))
def fX11_image (sh : Shp) (x0 : Nat) (mm : Mem) : Option (Int32 × Mem) :=
  (rI sh mm 11 x0 12).bind fun v1 =>
  if v1 < 3 then ((rR sh 11 x0 11).bind fun a3 =>
  (rI sh mm 11 x0 12).bind fun v4 =>
  (aR sh a3 v4).bind fun a5 =>
  (rR sh 3 a5 0).bind fun a6 =>
  (rR sh 11 x0 9).bind fun a7 =>
  (isO sh 2 a6).bind fun _ =>
  (fX2_copyFrom sh a6 a7 mm).bind fun m8 =>
  (rR sh 11 x0 11).bind fun a9 =>
  (rI sh m8 11 x0 12).bind fun v10 =>
  (aR sh a9 v10).bind fun a11 =>
  (rR sh 3 a11 1).bind fun a12 =>
  (rR sh 11 x0 10).bind fun a13 =>
  (isO sh 7 a12).bind fun _ =>
  (fX7_copyFrom sh a12 a13 m8).bind fun m14 =>
  (rI sh m14 11 x0 12).bind fun v15 =>
  (wI sh m14 11 x0 12 (v15 + 1)).bind fun m16 =>
  (rI sh m16 11 x0 12).bind fun v17 =>
  some (v17, m16))
  else (some ((-1), mm))
def fX11_restore (sh : Shp) (x0 : Nat) (mm : Mem) : Option (Int32 × Mem) :=
  (rI sh mm 11 x0 12).bind fun v1 =>
  if v1 = 0 then (some ((-1), mm))
  else ((rI sh mm 11 x0 12).bind fun v3 =>
  (wI sh mm 11 x0 12 (v3 - 1)).bind fun m4 =>
  (rR sh 11 x0 9).bind fun a5 =>
  (rR sh 11 x0 11).bind fun a6 =>
  (rI sh m4 11 x0 12).bind fun v7 =>
  (aR sh a6 v7).bind fun a8 =>
  (rR sh 3 a8 0).bind fun a9 =>
  (isO sh 2 a5).bind fun _ =>
  (fX2_copyFrom sh a5 a9 m4).bind fun m10 =>
  (rR sh 11 x0 10).bind fun a11 =>
  (rR sh 11 x0 11).bind fun a12 =>
  (rI sh m10 11 x0 12).bind fun v13 =>
  (aR sh a12 v13).bind fun a14 =>
  (rR sh 3 a14 1).bind fun a15 =>
  (isO sh 7 a11).bind fun _ =>
  (fX7_copyFrom sh a11 a15 m10).bind fun m16 =>
  (wI sh m16 11 x0 13 0).bind fun m17 =>
  (rI sh m17 11 x0 12).bind fun v18 =>
  some (v18, m17))
def fX11_status_j24 (sh : Shp) (s0 : Int32) (mm : Mem) : Option (Int32) :=
  some s0
def fX11_status (sh : Shp) (x0 : Nat) (x1 : Int32) (mm : Mem) : Option (Int32) :=
  if x1 = 0 then ((rI sh mm 11 x0 16).bind fun v4 =>
  fX11_status_j24 sh v4 mm)
  else (if x1 = 1 then ((rI sh mm 11 x0 17).bind fun v3 =>
  fX11_status_j24 sh v3 mm)
  else (fX11_status_j24 sh (-1) mm))
def fX11_count (sh : Shp) (x0 : Nat) (x1 : Int32) (mm : Mem) : Option (Int32) :=
  if x1 = 0 then ((rI sh mm 11 x0 12).bind fun v1 =>
  some v1)
  else if x1 = 1 then ((rR sh 11 x0 0).bind fun a3 =>
  (rI sh mm 8 a3 1).bind fun v4 =>
  some v4)
  else if x1 = 2 then ((rR sh 11 x0 10).bind fun a6 =>
  (rI sh mm 7 a6 1).bind fun v7 =>
  some v7)
  else (some (-1))
set_option maxHeartbeats 4000000 in
set_option maxRecDepth 100000 in
theorem wX11_feed {p : Program} {l : Launch} {e : Env} {R : Room} {s : State} {m : MethodId} {args : Array Value} {below : List Frame} {meth : Method} {c : Code} {Q : State → Prop} {E : Ev} (X : Cx p s m args c cX11_feed RX11 E) (hml : c.maxLocals = 6) (hR : 1 ≤ R.frames ∧ 22 ≤ R.locals) {x0 : Nat} {x1 : Int32} {x2 : Int32} {x3 : Int32} {x4 : Int32} {x5 : Int32} {mm : Mem} {r : Int32} {mm1 : Mem} (hf : fX11_feed (eS E) x0 x1 x2 x3 x4 x5 mm = some (r, mm1)) (hret : ∀ (pc : Nat) (H : Heap) (locs : List Loc) (ls : Array Slot), narrow .int (.int r) = .int r → decode cX11_feed pc = .ok (.ireturn, 1) → wS E s mm1 H locs → W p l e R s m args below meth c H locs 0 0 Q (F0 m pc ls [.int r])) : ∀ (H : Heap) (locs : List Loc) (ls : Array Slot), wS E s mm H locs → lv_has ls 6 [(0, .ref x0), (1, .int x1), (2, .int x2), (3, .int x3), (4, .int x4), (5, .int x5)] → W p l e R s m args below meth c H locs 0 0 Q (F0 m 0 ls []) := by
  have hx := X.1
  have hb := X.2.1
  have hR1 := hR.1
  have hR2 := hR.2
  have hRa : 1 ≤ R.frames := by omega
  have hRb : 22 ≤ R.locals := by omega
  unfold fX11_feed at hf
  intro H locs ls hS hl
  refine lv_aload_n hx hb dX11_feed_0 rfl (lv_at hl 0 rfl) ?_
  obtain ⟨a1, h1, hf⟩ := bs hf
  refine am_gr X hS fl_X11_12 rfl h1 dX11_feed_1 ?_
  obtain ⟨v2, h1, hf⟩ := bs hf
  refine am_gi X hS fl_X11_103 rfl h1 dX11_feed_4 ?_
  refine lv_bipush (v := 20) hx hb dX11_feed_7 (by decide) ?_
  refine lv_iadd hx hb dX11_feed_9 ?_
  refine lv_sipush (v := 600) hx hb dX11_feed_10 (by decide) ?_
  refine lv_icmp_le (tgt := 18) hx hb dX11_feed_13 (by decide) (fun q3 => ?_) (fun q3 => ?_)
  · have hf := ifp hf q3
    refine lv_aload_n hx hb dX11_feed_18 rfl (lv_at hl 0 rfl) ?_
    obtain ⟨a4, h1, hf⟩ := bs hf
    refine am_gr X hS fl_X11_12 rfl h1 dX11_feed_19 ?_
    refine lv_iload_n hx hb dX11_feed_22 rfl (lv_at hl 1 rfl) ?_
    obtain ⟨u0, h0, hf⟩ := bs hf
    obtain ⟨_, hrc⟩ := isO_n h0
    obtain ⟨m5, h1, hf⟩ := bs hf
    refine am_endv hS (am_runV (As := [.int x1]) X (hml.trans hl.1.symm) hS (cX8_put_ok (l := l) (E := E) h1) mv_X11_107 hrc rfl ⟨Nat.le_trans (by decide) hRa, Nat.le_trans (by decide) hRb⟩ ⟨Nat.zero_le _, Nat.zero_le _⟩ rfl rfl (Nat.le_of_ble_eq_true rfl) dX11_feed_23) (fun H locs hS => ?_)
    refine lv_aload_n hx hb dX11_feed_26 rfl (lv_at hl 0 rfl) ?_
    obtain ⟨a6, h1, hf⟩ := bs hf
    refine am_gr X hS fl_X11_12 rfl h1 dX11_feed_27 ?_
    refine lv_iload_n hx hb dX11_feed_30 rfl (lv_at hl 2 rfl) ?_
    obtain ⟨u0, h0, hf⟩ := bs hf
    obtain ⟨_, hrc⟩ := isO_n h0
    obtain ⟨m7, h1, hf⟩ := bs hf
    refine am_endv hS (am_runV (As := [.int x2]) X (hml.trans hl.1.symm) hS (cX8_put_ok (l := l) (E := E) h1) mv_X11_107 hrc rfl ⟨Nat.le_trans (by decide) hRa, Nat.le_trans (by decide) hRb⟩ ⟨Nat.zero_le _, Nat.zero_le _⟩ rfl rfl (Nat.le_of_ble_eq_true rfl) dX11_feed_31) (fun H locs hS => ?_)
    refine lv_aload_n hx hb dX11_feed_34 rfl (lv_at hl 0 rfl) ?_
    obtain ⟨a8, h1, hf⟩ := bs hf
    refine am_gr X hS fl_X11_12 rfl h1 dX11_feed_35 ?_
    refine lv_iload_n hx hb dX11_feed_38 rfl (lv_at hl 3 rfl) ?_
    obtain ⟨u0, h0, hf⟩ := bs hf
    obtain ⟨_, hrc⟩ := isO_n h0
    obtain ⟨m9, h1, hf⟩ := bs hf
    refine am_endv hS (am_runV (As := [.int x3]) X (hml.trans hl.1.symm) hS (cX8_put_ok (l := l) (E := E) h1) mv_X11_107 hrc rfl ⟨Nat.le_trans (by decide) hRa, Nat.le_trans (by decide) hRb⟩ ⟨Nat.zero_le _, Nat.zero_le _⟩ rfl rfl (Nat.le_of_ble_eq_true rfl) dX11_feed_39) (fun H locs hS => ?_)
    refine lv_aload_n hx hb dX11_feed_42 rfl (lv_at hl 0 rfl) ?_
    obtain ⟨a10, h1, hf⟩ := bs hf
    refine am_gr X hS fl_X11_12 rfl h1 dX11_feed_43 ?_
    refine lv_iload hx hb dX11_feed_46 (lv_at hl 4 rfl) ?_
    obtain ⟨u0, h0, hf⟩ := bs hf
    obtain ⟨_, hrc⟩ := isO_n h0
    obtain ⟨m11, h1, hf⟩ := bs hf
    refine am_endv hS (am_runV (As := [.int x4]) X (hml.trans hl.1.symm) hS (cX8_put_ok (l := l) (E := E) h1) mv_X11_107 hrc rfl ⟨Nat.le_trans (by decide) hRa, Nat.le_trans (by decide) hRb⟩ ⟨Nat.zero_le _, Nat.zero_le _⟩ rfl rfl (Nat.le_of_ble_eq_true rfl) dX11_feed_48) (fun H locs hS => ?_)
    refine lv_aload_n hx hb dX11_feed_51 rfl (lv_at hl 0 rfl) ?_
    obtain ⟨a12, h1, hf⟩ := bs hf
    refine am_gr X hS fl_X11_12 rfl h1 dX11_feed_52 ?_
    refine lv_iload hx hb dX11_feed_55 (lv_at hl 5 rfl) ?_
    obtain ⟨u0, h0, hf⟩ := bs hf
    obtain ⟨_, hrc⟩ := isO_n h0
    obtain ⟨m13, h1, hf⟩ := bs hf
    refine am_endv hS (am_runV (As := [.int x5]) X (hml.trans hl.1.symm) hS (cX8_put_ok (l := l) (E := E) h1) mv_X11_107 hrc rfl ⟨Nat.le_trans (by decide) hRa, Nat.le_trans (by decide) hRb⟩ ⟨Nat.zero_le _, Nat.zero_le _⟩ rfl rfl (Nat.le_of_ble_eq_true rfl) dX11_feed_57) (fun H locs hS => ?_)
    refine lv_aload_n hx hb dX11_feed_60 rfl (lv_at hl 0 rfl) ?_
    obtain ⟨a14, h1, hf⟩ := bs hf
    refine am_gr X hS fl_X11_12 rfl h1 dX11_feed_61 ?_
    obtain ⟨v15, h1, hf⟩ := bs hf
    refine am_gi X hS fl_X11_103 rfl h1 dX11_feed_64 ?_
    cases hf
    exact hret _ _ _ _ rfl dX11_feed_67 hS
  · have hf := ifn hf q3
    refine lv_iconst (v := (-1)) hx hb dX11_feed_16 (by decide) ?_
    cases hf
    exact hret _ _ _ _ rfl dX11_feed_17 hS
set_option maxRecDepth 100000 in
theorem cX11_feed_ok {l : Launch} {E : Ev} {x0 : Nat} {x1 : Int32} {x2 : Int32} {x3 : Int32} {x4 : Int32} {x5 : Int32} {mm : Mem} {r : Int32} {mm1 : Mem} (hf : fX11_feed (eS E) x0 x1 x2 x3 x4 x5 mm = some (r, mm1)) : CtI l yX11_feed cX11_feed 6 (some .int) (1) (22) E [.ref x0, .int x1, .int x2, .int x3, .int x4, .int x5] mm r mm1 := by
  refine Met.ofW (cc := cX11_feed) (maxL := 6) (ret := (some .int)) (by decide) rfl ?_
  intro p e s m args below meth c s₁ B hml hv
  obtain ⟨rfl, X, hS, hr, hlocks⟩ := am_in B hv
  refine am_entry (Nat.le_of_ble_eq_true rfl) (fun ls hl => ?_)
  exact wX11_feed X hml ⟨Nat.le_refl _, Nat.le_refl _⟩ hf (fun pc H locs ls hn hd hS => am_ri X hS hr hn hd hlocks) _ _ ls hS hl
set_option maxHeartbeats 4000000 in
set_option maxRecDepth 100000 in
theorem wX11_need {p : Program} {l : Launch} {e : Env} {R : Room} {s : State} {m : MethodId} {args : Array Value} {below : List Frame} {meth : Method} {c : Code} {Q : State → Prop} {E : Ev} (hl0 : l.stackTraces = false) (X : Cx p s m args c cX11_need RX11 E) (hml : c.maxLocals = 2) (hR : 7 ≤ R.frames ∧ 120 ≤ R.locals) {x0 : Nat} {x1 : Int32} {mm : Mem} {res : Unit ⊕ Nat} {mm1 : Mem} (hf : fX11_need (eS E) x0 x1 mm = some (res, mm1)) (hret : ∀ r, res = .inl r → ∀ (pc : Nat) (H : Heap) (locs : List Loc) (ls : Array Slot), decode cX11_need pc = .ok (.return_, 1) → wS E s mm1 H locs → W p l e R s m args below meth c H locs 0 0 Q (F0 m pc ls [])) (hRc : ∀ k, res = .inr k → 1 ≤ R.cells ∧ 6 ≤ R.slots) (hthr : ∀ k, res = .inr k → ∀ (pc : Nat) (H : Heap) (locs : List Loc) (ls : Array Slot) (rest : List Value) (ce : Cell) (q9 : Addr), wS E s mm1 H locs → H[q9]? = some ce → ce.vm = .none → s.vm.findClass (exN k) = some ce.cls → vx_W p l e R s m args below meth c H locs 1 6 Q (F0 m pc ls rest) q9) : ∀ (H : Heap) (locs : List Loc) (ls : Array Slot), wS E s mm H locs → lv_has ls 2 [(0, .ref x0), (1, .int x1)] → W p l e R s m args below meth c H locs 0 0 Q (F0 m 0 ls []) := by
  have hx := X.1
  have hb := X.2.1
  have hRa := hR.1
  have hRb := hR.2
  unfold fX11_need at hf
  intro H locs ls hS hl
  refine lv_iload_n hx hb dX11_need_0 rfl (lv_at hl 1 rfl) ?_
  refine lv_if_ne (tgt := 25) hx hb dX11_need_1 (by decide) (fun q1 => ?_) (fun q1 => ?_)
  · have hf := ifn hf q1
    cases hf
    exact hret _ rfl _ _ _ _ dX11_need_25 hS
  · have hf := ifp hf q1
    refine lv_aload_n hx hb dX11_need_4 rfl (lv_at hl 0 rfl) ?_
    refine lv_dup hx hb dX11_need_5 rfl ?_
    obtain ⟨v2, h1, hf⟩ := bs hf
    refine am_gi X hS fl_X11_388 rfl h1 dX11_need_6 ?_
    refine lv_iconst (v := 1) hx hb dX11_need_9 (by decide) ?_
    refine lv_iadd hx hb dX11_need_10 ?_
    obtain ⟨m3, h1, hf⟩ := bs hf
    refine am_pi X hS fp_X11_388 rfl h1 dX11_need_11 (fun H locs hS => ?_)
    cases hf
    exact am_make (k := 1) (ik := 391) (is := 393) (ic := 395) (i := 0) X hS hl0 (by decide) (hl.1.trans hml.symm) (by decide) rfl rfl wn_1_391_395 wg_1_391_395 dX11_need_14 dX11_need_17 dX11_need_18 dX11_need_21 (Nat.lt_of_lt_of_le (by decide) hRa) (Nat.le_trans (Nat.le_of_ble_eq_true rfl) hRb) (hRc _ rfl).1 (hRc _ rfl).2 (fun q H1 ce hS a1 a2 a3 => vx_athrow hx hb dX11_need_24 (hthr _ rfl _ H1 locs ls _ ce q hS a1 a2 a3))
set_option maxRecDepth 100000 in
theorem cX11_need_ok {l : Launch} {E : Ev} (hl0 : l.stackTraces = false) {x0 : Nat} {x1 : Int32} {mm : Mem} {mm1 : Mem} (hf : fX11_need (eS E) x0 x1 mm = some (.inl (), mm1)) : CtV l yX11_need cX11_need 2 none 7 120 E [.ref x0, .int x1] mm mm1 := by
  refine Met.ofW (cc := cX11_need) (maxL := 2) (ret := none) (by decide) rfl ?_
  intro p e s m args below meth c s₁ B hml hv
  obtain ⟨rfl, X, hS, hr, hlocks⟩ := am_in B hv
  refine am_entry (Nat.le_of_ble_eq_true rfl) (fun ls hl => ?_)
  exact wX11_need hl0 X hml ⟨Nat.le_refl _, Nat.le_refl _⟩ hf (fun r e pc H locs ls hd hS => am_rv X hS hr hd hlocks) (fun k e => by cases e) (fun k e => by cases e) _ _ ls hS hl
set_option maxRecDepth 100000 in
theorem cX11_need_thr {l : Launch} {E : Ev} (hl0 : l.stackTraces = false) {x0 : Nat} {x1 : Int32} {mm : Mem} {k : Nat} {mm1 : Mem} (hf : fX11_need (eS E) x0 x1 mm = some (.inr k, mm1)) : CtX l yX11_need cX11_need 2 none 7 120 E [.ref x0, .int x1] mm k mm1 := by
  refine vx_ofW (cc := cX11_need) (maxL := 2) (ret := none) (by decide) rfl ?_
  intro p e s m args below meth c s₁ B hml hxt hv
  obtain ⟨rfl, X, hS, hr, hlocks⟩ := am_in B hv
  refine am_entry (Nat.le_of_ble_eq_true rfl) (fun ls hl => ?_)
  exact wX11_need hl0 X hml ⟨Nat.le_refl _, Nat.le_refl _⟩ hf (fun r e => by cases e) (fun k e => ⟨Nat.le_refl _, Nat.le_refl _⟩) (fun k1 e pc H locs ls rest ce q9 hS a1 a2 a3 => by cases e; exact am_out X hS hxt hlocks a1 a2 a3) _ _ ls hS hl
set_option maxHeartbeats 4000000 in
set_option maxRecDepth 100000 in
theorem wX11_startText {p : Program} {l : Launch} {e : Env} {R : Room} {s : State} {m : MethodId} {args : Array Value} {below : List Frame} {meth : Method} {c : Code} {Q : State → Prop} {E : Ev} (hl0 : l.stackTraces = false) (X : Cx p s m args c cX11_startText RX11 E) (hml : c.maxLocals = 3) (hR : 8 ≤ R.frames ∧ 141 ≤ R.locals) {x0 : Nat} {x1 : Int32} {x2 : Int32} {mm : Mem} {res : Unit ⊕ Nat} {mm1 : Mem} (hf : fX11_startText (eS E) x0 x1 x2 mm = some (res, mm1)) (hret : ∀ r, res = .inl r → ∀ (pc : Nat) (H : Heap) (locs : List Loc) (ls : Array Slot), decode cX11_startText pc = .ok (.return_, 1) → wS E s mm1 H locs → W p l e R s m args below meth c H locs 0 0 Q (F0 m pc ls [])) (hRc : ∀ k, res = .inr k → 1 ≤ R.cells ∧ 6 ≤ R.slots) (hthr : ∀ k, res = .inr k → ∀ (pc : Nat) (H : Heap) (locs : List Loc) (ls : Array Slot) (rest : List Value) (ce : Cell) (q9 : Addr), wS E s mm1 H locs → H[q9]? = some ce → ce.vm = .none → s.vm.findClass (exN k) = some ce.cls → vx_W p l e R s m args below meth c H locs 1 6 Q (F0 m pc ls rest) q9) : ∀ (H : Heap) (locs : List Loc) (ls : Array Slot), wS E s mm H locs → lv_has ls 3 [(0, .ref x0), (1, .int x1), (2, .int x2)] → W p l e R s m args below meth c H locs 0 0 Q (F0 m 0 ls []) := by
  have hx := X.1
  have hb := X.2.1
  have hRa := hR.1
  have hRb := hR.2
  unfold fX11_startText at hf
  have hj26 : ∀ (x0 : Nat) (x1 : Int32) (s0 : Nat) (s1 : Int32) (mm : Mem) (H : Heap) (locs : List Loc) (ls : Array Slot), fX11_startText_j26 (eS E) x0 x1 s0 s1 mm = some (res, mm1) → wS E s mm H locs → lv_has ls 3 [(0, .ref x0), (1, .int x1)] → W p l e R s m args below meth c H locs 0 0 Q (F0 m 26 ls [.int s1, .ref s0]) := by
    intro x0 x1 s0 s1 mm H locs ls hf hS hl
    unfold fX11_startText_j26 at hf
    obtain ⟨u0, h0, hf⟩ := bs hf
    obtain ⟨_, hrc⟩ := isO_n h0
    obtain ⟨u1, m2, h1, hf⟩ := bs2 hf
    rcases u1 with v3 | k1
    · have hf := sme_l hf
      refine am_endv hS (am_runV (As := [.int s1]) X (hml.trans hl.1.symm) hS (cX11_need_ok (l := l) (E := E) hl0 h1) mv_X11_186 hrc rfl ⟨Nat.le_trans (by decide) hRa, Nat.le_trans (by decide) hRb⟩ ⟨Nat.zero_le _, Nat.zero_le _⟩ rfl rfl (Nat.le_of_ble_eq_true rfl) dX11_startText_26) (fun H locs hS => ?_)
      refine lv_aload_n hx hb dX11_startText_29 rfl (lv_at hl 0 rfl) ?_
      obtain ⟨a4, h1, hf⟩ := bs hf
      refine am_gr X hS fl_X11_12 rfl h1 dX11_startText_30 ?_
      refine lv_iload_n hx hb dX11_startText_33 rfl (lv_at hl 1 rfl) ?_
      obtain ⟨u0, h0, hf⟩ := bs hf
      obtain ⟨_, hrc⟩ := isO_n h0
      obtain ⟨m5, h1, hf⟩ := bs hf
      refine am_endv hS (am_runV (As := [.int x1]) X (hml.trans hl.1.symm) hS (cX8_open_ok (l := l) (E := E) h1) mv_X11_405 hrc rfl ⟨Nat.le_trans (by decide) hRa, Nat.le_trans (by decide) hRb⟩ ⟨Nat.zero_le _, Nat.zero_le _⟩ rfl rfl (Nat.le_of_ble_eq_true rfl) dX11_startText_34) (fun H locs hS => ?_)
      cases hf
      exact hret _ rfl _ _ _ _ dX11_startText_37 hS
    · have hf := sme_r hf
      cases hf
      exact am_thrV (As := [.int s1]) X (hml.trans hl.1.symm) hS (cX11_need_thr (l := l) (E := E) hl0 h1) mv_X11_186 hrc rfl ⟨Nat.le_trans (by decide) hRa, Nat.le_trans (by decide) hRb⟩ (hRc _ rfl) rfl rfl (Nat.le_of_ble_eq_true rfl) dX11_startText_26 (fun H locs ce q9 hS a1 a2 a3 => hthr _ rfl _ H locs ls _ ce q9 hS a1 a2 a3)
  have hj25 : ∀ (x0 : Nat) (x1 : Int32) (s0 : Nat) (mm : Mem) (H : Heap) (locs : List Loc) (ls : Array Slot), fX11_startText_j25 (eS E) x0 x1 s0 mm = some (res, mm1) → wS E s mm H locs → lv_has ls 3 [(0, .ref x0), (1, .int x1)] → W p l e R s m args below meth c H locs 0 0 Q (F0 m 25 ls [.ref s0]) := by
    intro x0 x1 s0 mm H locs ls hf hS hl
    unfold fX11_startText_j25 at hf
    refine lv_iconst (v := 0) hx hb dX11_startText_25 (by decide) ?_
    exact hj26 x0 x1 s0 0 mm H locs ls hf hS hl
  intro H locs ls hS hl
  refine lv_aload_n hx hb dX11_startText_0 rfl (lv_at hl 0 rfl) ?_
  refine lv_iload_n hx hb dX11_startText_1 rfl (lv_at hl 1 rfl) ?_
  refine lv_if_lt (tgt := 25) hx hb dX11_startText_2 (by decide) (fun q6 => ?_) (fun q6 => ?_)
  · have hf := ifp hf q6
    exact hj25 x0 x1 x0 mm H locs ls hf hS (lv_sub hl [0, 1] rfl)
  · have hf := ifn hf q6
    refine lv_iload_n hx hb dX11_startText_5 rfl (lv_at hl 1 rfl) ?_
    refine lv_aload_n hx hb dX11_startText_6 rfl (lv_at hl 0 rfl) ?_
    obtain ⟨a7, h1, hf⟩ := bs hf
    refine am_gr X hS fl_X11_12 rfl h1 dX11_startText_7 ?_
    obtain ⟨v8, h1, hf⟩ := bs hf
    refine am_gi X hS fl_X11_103 rfl h1 dX11_startText_10 ?_
    refine lv_icmp_gt (tgt := 25) hx hb dX11_startText_13 (by decide) (fun q9 => ?_) (fun q9 => ?_)
    · have hf := ifp hf q9
      exact hj25 x0 x1 x0 mm H locs ls hf hS (lv_sub hl [0, 1] rfl)
    · have hf := ifn hf q9
      refine lv_iload_n hx hb dX11_startText_16 rfl (lv_at hl 1 rfl) ?_
      refine lv_iload_n hx hb dX11_startText_17 rfl (lv_at hl 2 rfl) ?_
      refine lv_icmp_gt (tgt := 25) hx hb dX11_startText_18 (by decide) (fun q10 => ?_) (fun q10 => ?_)
      · have hf := ifp hf q10
        exact hj25 x0 x1 x0 mm H locs ls hf hS (lv_sub hl [0, 1] rfl)
      · have hf := ifn hf q10
        refine lv_iconst (v := 1) hx hb dX11_startText_21 (by decide) ?_
        refine lv_goto (tgt := 26) hx hb dX11_startText_22 (by decide) ?_
        exact hj26 x0 x1 x0 1 mm H locs ls hf hS (lv_sub hl [0, 1] rfl)
set_option maxRecDepth 100000 in
theorem cX11_startText_ok {l : Launch} {E : Ev} (hl0 : l.stackTraces = false) {x0 : Nat} {x1 : Int32} {x2 : Int32} {mm : Mem} {mm1 : Mem} (hf : fX11_startText (eS E) x0 x1 x2 mm = some (.inl (), mm1)) : CtV l yX11_startText cX11_startText 3 none 8 141 E [.ref x0, .int x1, .int x2] mm mm1 := by
  refine Met.ofW (cc := cX11_startText) (maxL := 3) (ret := none) (by decide) rfl ?_
  intro p e s m args below meth c s₁ B hml hv
  obtain ⟨rfl, X, hS, hr, hlocks⟩ := am_in B hv
  refine am_entry (Nat.le_of_ble_eq_true rfl) (fun ls hl => ?_)
  exact wX11_startText hl0 X hml ⟨Nat.le_refl _, Nat.le_refl _⟩ hf (fun r e pc H locs ls hd hS => am_rv X hS hr hd hlocks) (fun k e => by cases e) (fun k e => by cases e) _ _ ls hS hl
set_option maxRecDepth 100000 in
theorem cX11_startText_thr {l : Launch} {E : Ev} (hl0 : l.stackTraces = false) {x0 : Nat} {x1 : Int32} {x2 : Int32} {mm : Mem} {k : Nat} {mm1 : Mem} (hf : fX11_startText (eS E) x0 x1 x2 mm = some (.inr k, mm1)) : CtX l yX11_startText cX11_startText 3 none 8 141 E [.ref x0, .int x1, .int x2] mm k mm1 := by
  refine vx_ofW (cc := cX11_startText) (maxL := 3) (ret := none) (by decide) rfl ?_
  intro p e s m args below meth c s₁ B hml hxt hv
  obtain ⟨rfl, X, hS, hr, hlocks⟩ := am_in B hv
  refine am_entry (Nat.le_of_ble_eq_true rfl) (fun ls hl => ?_)
  exact wX11_startText hl0 X hml ⟨Nat.le_refl _, Nat.le_refl _⟩ hf (fun r e => by cases e) (fun k e => ⟨Nat.le_refl _, Nat.le_refl _⟩) (fun k1 e pc H locs ls rest ce q9 hS a1 a2 a3 => by cases e; exact am_out X hS hxt hlocks a1 a2 a3) _ _ ls hS hl
set_option maxHeartbeats 4000000 in
set_option maxRecDepth 100000 in
theorem wX11_college {p : Program} {l : Launch} {e : Env} {R : Room} {s : State} {m : MethodId} {args : Array Value} {below : List Frame} {meth : Method} {c : Code} {Q : State → Prop} {E : Ev} (hl0 : l.stackTraces = false) (X : Cx p s m args c cX11_college RX11 E) (hml : c.maxLocals = 2) (hR : 9 ≤ R.frames ∧ 180 ≤ R.locals) {x0 : Nat} {x1 : Int32} {mm : Mem} {res : Int32 ⊕ Nat} {mm1 : Mem} (hf : fX11_college (eS E) x0 x1 mm = some (res, mm1)) (hret : ∀ r, res = .inl r → ∀ (pc : Nat) (H : Heap) (locs : List Loc) (ls : Array Slot), narrow .int (.int r) = .int r → decode cX11_college pc = .ok (.ireturn, 1) → wS E s mm1 H locs → W p l e R s m args below meth c H locs 0 0 Q (F0 m pc ls [.int r])) (hRc : ∀ k, res = .inr k → 1 ≤ R.cells ∧ 6 ≤ R.slots) (hthr : ∀ k, res = .inr k → ∀ (pc : Nat) (H : Heap) (locs : List Loc) (ls : Array Slot) (rest : List Value) (ce : Cell) (q9 : Addr), wS E s mm1 H locs → H[q9]? = some ce → ce.vm = .none → s.vm.findClass (exN k) = some ce.cls → vx_W p l e R s m args below meth c H locs 1 6 Q (F0 m pc ls rest) q9) : ∀ (H : Heap) (locs : List Loc) (ls : Array Slot), wS E s mm H locs → lv_has ls 2 [(0, .ref x0), (1, .int x1)] → W p l e R s m args below meth c H locs 0 0 Q (F0 m 0 ls []) := by
  have hx := X.1
  have hb := X.2.1
  have hRa := hR.1
  have hRb := hR.2
  unfold fX11_college at hf
  intro H locs ls hS hl
  refine lv_aload_n hx hb dX11_college_0 rfl (lv_at hl 0 rfl) ?_
  refine lv_iload_n hx hb dX11_college_1 rfl (lv_at hl 1 rfl) ?_
  refine lv_sipush (v := 600) hx hb dX11_college_2 (by decide) ?_
  obtain ⟨u0, h0, hf⟩ := bs hf
  obtain ⟨_, hrc⟩ := isO_n h0
  obtain ⟨u1, m2, h1, hf⟩ := bs2 hf
  rcases u1 with v3 | k1
  · have hf := sme_l hf
    refine am_endv hS (am_runV (As := [.int x1, .int 600]) X (hml.trans hl.1.symm) hS (cX11_startText_ok (l := l) (E := E) hl0 h1) mv_X11_111 hrc rfl ⟨Nat.le_trans (by decide) hRa, Nat.le_trans (by decide) hRb⟩ ⟨Nat.zero_le _, Nat.zero_le _⟩ rfl rfl (Nat.le_of_ble_eq_true rfl) dX11_college_5) (fun H locs hS => ?_)
    refine lv_aload_n hx hb dX11_college_8 rfl (lv_at hl 0 rfl) ?_
    obtain ⟨a4, h1, hf⟩ := bs hf
    refine am_gr X hS fl_X11_23 rfl h1 dX11_college_9 ?_
    refine lv_aload_n hx hb dX11_college_12 rfl (lv_at hl 0 rfl) ?_
    obtain ⟨a5, h1, hf⟩ := bs hf
    refine am_gr X hS fl_X11_12 rfl h1 dX11_college_13 ?_
    obtain ⟨u0, h0, hf⟩ := bs hf
    obtain ⟨_, hrc⟩ := isO_n h0
    obtain ⟨v6, m7, h1, hf⟩ := bs2 hf
    refine am_endi hS (am_runV (As := [.ref a5]) X (hml.trans hl.1.symm) hS (cX1_read_ok (l := l) (E := E) h1) mv_X11_115 hrc rfl ⟨Nat.le_trans (by decide) hRa, Nat.le_trans (by decide) hRb⟩ ⟨Nat.zero_le _, Nat.zero_le _⟩ rfl rfl (Nat.le_of_ble_eq_true rfl) dX11_college_16) (fun H locs hS => ?_)
    refine lv_if_ne (tgt := 33) hx hb dX11_college_19 (by decide) (fun q8 => ?_) (fun q8 => ?_)
    · have hf := ifn hf q8
      refine lv_aload_n hx hb dX11_college_33 rfl (lv_at hl 0 rfl) ?_
      obtain ⟨a9, h1, hf⟩ := bs hf
      refine am_gr X hS fl_X11_19 rfl h1 dX11_college_34 ?_
      refine lv_aload_n hx hb dX11_college_37 rfl (lv_at hl 0 rfl) ?_
      obtain ⟨a10, h1, hf⟩ := bs hf
      refine am_gr X hS fl_X11_23 rfl h1 dX11_college_38 ?_
      obtain ⟨u0, h0, hf⟩ := bs hf
      obtain ⟨_, hrc⟩ := isO_n h0
      obtain ⟨m11, h1, hf⟩ := bs hf
      refine am_endv hS (am_runV (As := [.ref a10]) X (hml.trans hl.1.symm) hS (cX1_copyFrom_ok (l := l) (E := E) h1) mv_X11_122 hrc rfl ⟨Nat.le_trans (by decide) hRa, Nat.le_trans (by decide) hRb⟩ ⟨Nat.zero_le _, Nat.zero_le _⟩ rfl rfl (Nat.le_of_ble_eq_true rfl) dX11_college_41) (fun H locs hS => ?_)
      refine lv_aload_n hx hb dX11_college_44 rfl (lv_at hl 0 rfl) ?_
      obtain ⟨a12, h1, hf⟩ := bs hf
      refine am_gr X hS fl_X11_29 rfl h1 dX11_college_45 ?_
      obtain ⟨u0, h0, hf⟩ := bs hf
      obtain ⟨_, hrc⟩ := isO_n h0
      obtain ⟨m13, h1, hf⟩ := bs hf
      refine am_endv hS (am_runV (As := []) X (hml.trans hl.1.symm) hS (cX4_becomePlain_ok (l := l) (E := E) h1) mv_X11_126 hrc rfl ⟨Nat.le_trans (by decide) hRa, Nat.le_trans (by decide) hRb⟩ ⟨Nat.zero_le _, Nat.zero_le _⟩ rfl rfl (Nat.le_of_ble_eq_true rfl) dX11_college_48) (fun H locs hS => ?_)
      refine lv_aload_n hx hb dX11_college_51 rfl (lv_at hl 0 rfl) ?_
      obtain ⟨a14, h1, hf⟩ := bs hf
      refine am_gr X hS fl_X11_39 rfl h1 dX11_college_52 ?_
      refine lv_iconst (v := 0) hx hb dX11_college_55 (by decide) ?_
      obtain ⟨m15, h1, hf⟩ := bs hf
      refine am_pi X hS fp_X11_129 rfl h1 dX11_college_56 (fun H locs hS => ?_)
      refine lv_aload_n hx hb dX11_college_59 rfl (lv_at hl 0 rfl) ?_
      obtain ⟨a16, h1, hf⟩ := bs hf
      refine am_gr X hS fl_X11_67 rfl h1 dX11_college_60 ?_
      refine lv_aload_n hx hb dX11_college_63 rfl (lv_at hl 0 rfl) ?_
      obtain ⟨a17, h1, hf⟩ := bs hf
      refine am_gr X hS fl_X11_19 rfl h1 dX11_college_64 ?_
      obtain ⟨u0, h0, hf⟩ := bs hf
      obtain ⟨_, hrc⟩ := isO_n h0
      obtain ⟨m18, h1, hf⟩ := bs hf
      refine am_endv hS (am_runV (As := [.ref a17]) X (hml.trans hl.1.symm) hS (cX2_open_ok (l := l) (E := E) h1) mv_X11_132 hrc rfl ⟨Nat.le_trans (by decide) hRa, Nat.le_trans (by decide) hRb⟩ ⟨Nat.zero_le _, Nat.zero_le _⟩ rfl rfl (Nat.le_of_ble_eq_true rfl) dX11_college_67) (fun H locs hS => ?_)
      refine lv_aload_n hx hb dX11_college_70 rfl (lv_at hl 0 rfl) ?_
      obtain ⟨a19, h1, hf⟩ := bs hf
      refine am_gr X hS fl_X11_74 rfl h1 dX11_college_71 ?_
      refine lv_iconst (v := 0) hx hb dX11_college_74 (by decide) ?_
      obtain ⟨m20, h1, hf⟩ := bs hf
      refine am_pi X hS fp_X11_135 rfl h1 dX11_college_75 (fun H locs hS => ?_)
      refine lv_aload_n hx hb dX11_college_78 rfl (lv_at hl 0 rfl) ?_
      refine lv_iconst (v := 0) hx hb dX11_college_79 (by decide) ?_
      obtain ⟨m21, h1, hf⟩ := bs hf
      refine am_pi X hS fp_X11_138 rfl h1 dX11_college_80 (fun H locs hS => ?_)
      refine lv_aload_n hx hb dX11_college_83 rfl (lv_at hl 0 rfl) ?_
      refine lv_iconst (v := 0) hx hb dX11_college_84 (by decide) ?_
      obtain ⟨m22, h1, hf⟩ := bs hf
      refine am_pi X hS fp_X11_141 rfl h1 dX11_college_85 (fun H locs hS => ?_)
      refine lv_aload_n hx hb dX11_college_88 rfl (lv_at hl 0 rfl) ?_
      obtain ⟨a23, h1, hf⟩ := bs hf
      refine am_gr X hS fl_X11_19 rfl h1 dX11_college_89 ?_
      obtain ⟨v24, h1, hf⟩ := bs hf
      refine am_gi X hS fl_X11_144 rfl h1 dX11_college_92 ?_
      cases hf
      exact hret _ rfl _ _ _ _ rfl dX11_college_95 hS
    · have hf := ifp hf q8
      refine lv_aload_n hx hb dX11_college_22 rfl (lv_at hl 0 rfl) ?_
      obtain ⟨a25, h1, hf⟩ := bs hf
      refine am_gr X hS fl_X11_12 rfl h1 dX11_college_23 ?_
      obtain ⟨v26, h1, hf⟩ := bs hf
      refine am_gi X hS fl_X11_119 rfl h1 dX11_college_26 ?_
      refine lv_bipush (v := 10) hx hb dX11_college_29 (by decide) ?_
      refine lv_isub hx hb dX11_college_31 ?_
      cases hf
      exact hret _ rfl _ _ _ _ rfl dX11_college_32 hS
  · have hf := sme_r hf
    cases hf
    exact am_thrV (As := [.int x1, .int 600]) X (hml.trans hl.1.symm) hS (cX11_startText_thr (l := l) (E := E) hl0 h1) mv_X11_111 hrc rfl ⟨Nat.le_trans (by decide) hRa, Nat.le_trans (by decide) hRb⟩ (hRc _ rfl) rfl rfl (Nat.le_of_ble_eq_true rfl) dX11_college_5 (fun H locs ce q9 hS a1 a2 a3 => hthr _ rfl _ H locs ls _ ce q9 hS a1 a2 a3)
set_option maxRecDepth 100000 in
theorem cX11_college_ok {l : Launch} {E : Ev} (hl0 : l.stackTraces = false) {x0 : Nat} {x1 : Int32} {mm : Mem} {r : Int32} {mm1 : Mem} (hf : fX11_college (eS E) x0 x1 mm = some (.inl r, mm1)) : CtI l yX11_college cX11_college 2 (some .int) 9 180 E [.ref x0, .int x1] mm r mm1 := by
  refine Met.ofW (cc := cX11_college) (maxL := 2) (ret := (some .int)) (by decide) rfl ?_
  intro p e s m args below meth c s₁ B hml hv
  obtain ⟨rfl, X, hS, hr, hlocks⟩ := am_in B hv
  refine am_entry (Nat.le_of_ble_eq_true rfl) (fun ls hl => ?_)
  exact wX11_college hl0 X hml ⟨Nat.le_refl _, Nat.le_refl _⟩ hf (fun r e pc H locs ls hn hd hS => by cases e; exact am_ri X hS hr hn hd hlocks) (fun k e => by cases e) (fun k e => by cases e) _ _ ls hS hl
set_option maxRecDepth 100000 in
theorem cX11_college_thr {l : Launch} {E : Ev} (hl0 : l.stackTraces = false) {x0 : Nat} {x1 : Int32} {mm : Mem} {k : Nat} {mm1 : Mem} (hf : fX11_college (eS E) x0 x1 mm = some (.inr k, mm1)) : CtX l yX11_college cX11_college 2 (some .int) 9 180 E [.ref x0, .int x1] mm k mm1 := by
  refine vx_ofW (cc := cX11_college) (maxL := 2) (ret := (some .int)) (by decide) rfl ?_
  intro p e s m args below meth c s₁ B hml hxt hv
  obtain ⟨rfl, X, hS, hr, hlocks⟩ := am_in B hv
  refine am_entry (Nat.le_of_ble_eq_true rfl) (fun ls hl => ?_)
  exact wX11_college hl0 X hml ⟨Nat.le_refl _, Nat.le_refl _⟩ hf (fun r e => by cases e) (fun k e => ⟨Nat.le_refl _, Nat.le_refl _⟩) (fun k1 e pc H locs ls rest ce q9 hS a1 a2 a3 => by cases e; exact am_out X hS hxt hlocks a1 a2 a3) _ _ ls hS hl
set_option maxHeartbeats 4000000 in
set_option maxRecDepth 100000 in
theorem wX11_law {p : Program} {l : Launch} {e : Env} {R : Room} {s : State} {m : MethodId} {args : Array Value} {below : List Frame} {meth : Method} {c : Code} {Q : State → Prop} {E : Ev} (hl0 : l.stackTraces = false) (X : Cx p s m args c cX11_law RX11 E) (hml : c.maxLocals = 2) (hR : 82 ≤ R.frames ∧ 1876 ≤ R.locals) {x0 : Nat} {x1 : Int32} {mm : Mem} {res : Int32 ⊕ Nat} {mm1 : Mem} (hf : fX11_law (eS E) x0 x1 mm = some (res, mm1)) (hret : ∀ r, res = .inl r → ∀ (pc : Nat) (H : Heap) (locs : List Loc) (ls : Array Slot), narrow .int (.int r) = .int r → decode cX11_law pc = .ok (.ireturn, 1) → wS E s mm1 H locs → W p l e R s m args below meth c H locs 0 0 Q (F0 m pc ls [.int r])) (hRc : ∀ k, res = .inr k → 1 ≤ R.cells ∧ 6 ≤ R.slots) (hthr : ∀ k, res = .inr k → ∀ (pc : Nat) (H : Heap) (locs : List Loc) (ls : Array Slot) (rest : List Value) (ce : Cell) (q9 : Addr), wS E s mm1 H locs → H[q9]? = some ce → ce.vm = .none → s.vm.findClass (exN k) = some ce.cls → vx_W p l e R s m args below meth c H locs 1 6 Q (F0 m pc ls rest) q9) : ∀ (H : Heap) (locs : List Loc) (ls : Array Slot), wS E s mm H locs → lv_has ls 2 [(0, .ref x0), (1, .int x1)] → W p l e R s m args below meth c H locs 0 0 Q (F0 m 0 ls []) := by
  have hx := X.1
  have hb := X.2.1
  have hRa := hR.1
  have hRb := hR.2
  unfold fX11_law at hf
  intro H locs ls hS hl
  refine lv_aload_n hx hb dX11_law_0 rfl (lv_at hl 0 rfl) ?_
  refine lv_iload_n hx hb dX11_law_1 rfl (lv_at hl 1 rfl) ?_
  refine lv_sipush (v := 150) hx hb dX11_law_2 (by decide) ?_
  obtain ⟨u0, h0, hf⟩ := bs hf
  obtain ⟨_, hrc⟩ := isO_n h0
  obtain ⟨u1, m2, h1, hf⟩ := bs2 hf
  rcases u1 with v3 | k1
  · have hf := sme_l hf
    refine am_endv hS (am_runV (As := [.int x1, .int 150]) X (hml.trans hl.1.symm) hS (cX11_startText_ok (l := l) (E := E) hl0 h1) mv_X11_111 hrc rfl ⟨Nat.le_trans (by decide) hRa, Nat.le_trans (by decide) hRb⟩ ⟨Nat.zero_le _, Nat.zero_le _⟩ rfl rfl (Nat.le_of_ble_eq_true rfl) dX11_law_5) (fun H locs hS => ?_)
    refine lv_aload_n hx hb dX11_law_8 rfl (lv_at hl 0 rfl) ?_
    obtain ⟨a4, h1, hf⟩ := bs hf
    refine am_gr X hS fl_X11_33 rfl h1 dX11_law_9 ?_
    refine lv_aload_n hx hb dX11_law_12 rfl (lv_at hl 0 rfl) ?_
    obtain ⟨a5, h1, hf⟩ := bs hf
    refine am_gr X hS fl_X11_12 rfl h1 dX11_law_13 ?_
    obtain ⟨u0, h0, hf⟩ := bs hf
    obtain ⟨_, hrc⟩ := isO_n h0
    obtain ⟨v6, m7, h1, hf⟩ := bs2 hf
    refine am_endi hS (am_runV (As := [.ref a5]) X (hml.trans hl.1.symm) hS (cX4_read_ok (l := l) (E := E) h1) mv_X11_147 hrc rfl ⟨Nat.le_trans (by decide) hRa, Nat.le_trans (by decide) hRb⟩ ⟨Nat.zero_le _, Nat.zero_le _⟩ rfl rfl (Nat.le_of_ble_eq_true rfl) dX11_law_16) (fun H locs hS => ?_)
    refine lv_if_ne (tgt := 33) hx hb dX11_law_19 (by decide) (fun q8 => ?_) (fun q8 => ?_)
    · have hf := ifn hf q8
      refine lv_aload_n hx hb dX11_law_33 rfl (lv_at hl 0 rfl) ?_
      obtain ⟨a9, h1, hf⟩ := bs hf
      refine am_gr X hS fl_X11_29 rfl h1 dX11_law_34 ?_
      refine lv_aload_n hx hb dX11_law_37 rfl (lv_at hl 0 rfl) ?_
      obtain ⟨a10, h1, hf⟩ := bs hf
      refine am_gr X hS fl_X11_33 rfl h1 dX11_law_38 ?_
      obtain ⟨u0, h0, hf⟩ := bs hf
      obtain ⟨_, hrc⟩ := isO_n h0
      obtain ⟨m11, h1, hf⟩ := bs hf
      refine am_endv hS (am_runV (As := [.ref a10]) X (hml.trans hl.1.symm) hS (cX4_copyFrom_ok (l := l) (E := E) h1) mv_X11_148 hrc rfl ⟨Nat.le_trans (by decide) hRa, Nat.le_trans (by decide) hRb⟩ ⟨Nat.zero_le _, Nat.zero_le _⟩ rfl rfl (Nat.le_of_ble_eq_true rfl) dX11_law_41) (fun H locs hS => ?_)
      refine lv_iconst (v := 1) hx hb dX11_law_44 (by decide) ?_
      cases hf
      exact hret _ rfl _ _ _ _ rfl dX11_law_45 hS
    · have hf := ifp hf q8
      refine lv_aload_n hx hb dX11_law_22 rfl (lv_at hl 0 rfl) ?_
      obtain ⟨a12, h1, hf⟩ := bs hf
      refine am_gr X hS fl_X11_12 rfl h1 dX11_law_23 ?_
      obtain ⟨v13, h1, hf⟩ := bs hf
      refine am_gi X hS fl_X11_119 rfl h1 dX11_law_26 ?_
      refine lv_bipush (v := 10) hx hb dX11_law_29 (by decide) ?_
      refine lv_isub hx hb dX11_law_31 ?_
      cases hf
      exact hret _ rfl _ _ _ _ rfl dX11_law_32 hS
  · have hf := sme_r hf
    cases hf
    exact am_thrV (As := [.int x1, .int 150]) X (hml.trans hl.1.symm) hS (cX11_startText_thr (l := l) (E := E) hl0 h1) mv_X11_111 hrc rfl ⟨Nat.le_trans (by decide) hRa, Nat.le_trans (by decide) hRb⟩ (hRc _ rfl) rfl rfl (Nat.le_of_ble_eq_true rfl) dX11_law_5 (fun H locs ce q9 hS a1 a2 a3 => hthr _ rfl _ H locs ls _ ce q9 hS a1 a2 a3)
set_option maxRecDepth 100000 in
theorem cX11_law_ok {l : Launch} {E : Ev} (hl0 : l.stackTraces = false) {x0 : Nat} {x1 : Int32} {mm : Mem} {r : Int32} {mm1 : Mem} (hf : fX11_law (eS E) x0 x1 mm = some (.inl r, mm1)) : CtI l yX11_law cX11_law 2 (some .int) 82 1876 E [.ref x0, .int x1] mm r mm1 := by
  refine Met.ofW (cc := cX11_law) (maxL := 2) (ret := (some .int)) (by decide) rfl ?_
  intro p e s m args below meth c s₁ B hml hv
  obtain ⟨rfl, X, hS, hr, hlocks⟩ := am_in B hv
  refine am_entry (Nat.le_of_ble_eq_true rfl) (fun ls hl => ?_)
  exact wX11_law hl0 X hml ⟨Nat.le_refl _, Nat.le_refl _⟩ hf (fun r e pc H locs ls hn hd hS => by cases e; exact am_ri X hS hr hn hd hlocks) (fun k e => by cases e) (fun k e => by cases e) _ _ ls hS hl
set_option maxRecDepth 100000 in
theorem cX11_law_thr {l : Launch} {E : Ev} (hl0 : l.stackTraces = false) {x0 : Nat} {x1 : Int32} {mm : Mem} {k : Nat} {mm1 : Mem} (hf : fX11_law (eS E) x0 x1 mm = some (.inr k, mm1)) : CtX l yX11_law cX11_law 2 (some .int) 82 1876 E [.ref x0, .int x1] mm k mm1 := by
  refine vx_ofW (cc := cX11_law) (maxL := 2) (ret := (some .int)) (by decide) rfl ?_
  intro p e s m args below meth c s₁ B hml hxt hv
  obtain ⟨rfl, X, hS, hr, hlocks⟩ := am_in B hv
  refine am_entry (Nat.le_of_ble_eq_true rfl) (fun ls hl => ?_)
  exact wX11_law hl0 X hml ⟨Nat.le_refl _, Nat.le_refl _⟩ hf (fun r e => by cases e) (fun k e => ⟨Nat.le_refl _, Nat.le_refl _⟩) (fun k1 e pc H locs ls rest ce q9 hS a1 a2 a3 => by cases e; exact am_out X hS hxt hlocks a1 a2 a3) _ _ ls hS hl
set_option maxHeartbeats 4000000 in
set_option maxRecDepth 100000 in
theorem wX11_work {p : Program} {l : Launch} {e : Env} {R : Room} {s : State} {m : MethodId} {args : Array Value} {below : List Frame} {meth : Method} {c : Code} {Q : State → Prop} {E : Ev} (hl0 : l.stackTraces = false) (X : Cx p s m args c cX11_work RX11 E) (hml : c.maxLocals = 2) (hR : 72 ≤ R.frames ∧ 1632 ≤ R.locals) {x0 : Nat} {x1 : Int32} {mm : Mem} {res : Int32 ⊕ Nat} {mm1 : Mem} (hf : fX11_work (eS E) x0 x1 mm = some (res, mm1)) (hret : ∀ r, res = .inl r → ∀ (pc : Nat) (H : Heap) (locs : List Loc) (ls : Array Slot), narrow .int (.int r) = .int r → decode cX11_work pc = .ok (.ireturn, 1) → wS E s mm1 H locs → W p l e R s m args below meth c H locs 0 0 Q (F0 m pc ls [.int r])) (hRc : ∀ k, res = .inr k → 1 ≤ R.cells ∧ 6 ≤ R.slots) (hthr : ∀ k, res = .inr k → ∀ (pc : Nat) (H : Heap) (locs : List Loc) (ls : Array Slot) (rest : List Value) (ce : Cell) (q9 : Addr), wS E s mm1 H locs → H[q9]? = some ce → ce.vm = .none → s.vm.findClass (exN k) = some ce.cls → vx_W p l e R s m args below meth c H locs 1 6 Q (F0 m pc ls rest) q9) : ∀ (H : Heap) (locs : List Loc) (ls : Array Slot), wS E s mm H locs → lv_has ls 2 [(0, .ref x0), (1, .int x1)] → W p l e R s m args below meth c H locs 0 0 Q (F0 m 0 ls []) := by
  have hx := X.1
  have hb := X.2.1
  have hRa := hR.1
  have hRb := hR.2
  unfold fX11_work at hf
  intro H locs ls hS hl
  refine lv_aload_n hx hb dX11_work_0 rfl (lv_at hl 0 rfl) ?_
  refine lv_iload_n hx hb dX11_work_1 rfl (lv_at hl 1 rfl) ?_
  refine lv_sipush (v := 150) hx hb dX11_work_2 (by decide) ?_
  obtain ⟨u0, h0, hf⟩ := bs hf
  obtain ⟨_, hrc⟩ := isO_n h0
  obtain ⟨u1, m2, h1, hf⟩ := bs2 hf
  rcases u1 with v3 | k1
  · have hf := sme_l hf
    refine am_endv hS (am_runV (As := [.int x1, .int 150]) X (hml.trans hl.1.symm) hS (cX11_startText_ok (l := l) (E := E) hl0 h1) mv_X11_111 hrc rfl ⟨Nat.le_trans (by decide) hRa, Nat.le_trans (by decide) hRb⟩ ⟨Nat.zero_le _, Nat.zero_le _⟩ rfl rfl (Nat.le_of_ble_eq_true rfl) dX11_work_5) (fun H locs hS => ?_)
    refine lv_aload_n hx hb dX11_work_8 rfl (lv_at hl 0 rfl) ?_
    obtain ⟨a4, h1, hf⟩ := bs hf
    refine am_gr X hS fl_X11_74 rfl h1 dX11_work_9 ?_
    obtain ⟨v5, h1, hf⟩ := bs hf
    refine am_gi X hS fl_X11_135 rfl h1 dX11_work_12 ?_
    refine lv_bipush (v := 16) hx hb dX11_work_15 (by decide) ?_
    refine lv_icmp_lt (tgt := 23) hx hb dX11_work_17 (by decide) (fun q6 => ?_) (fun q6 => ?_)
    · have hf := ifp hf q6
      refine lv_aload_n hx hb dX11_work_23 rfl (lv_at hl 0 rfl) ?_
      obtain ⟨a7, h1, hf⟩ := bs hf
      refine am_gr X hS fl_X11_60 rfl h1 dX11_work_24 ?_
      obtain ⟨u0, h0, hf⟩ := bs hf
      obtain ⟨_, hrc⟩ := isO_n h0
      obtain ⟨v8, m9, h1, hf⟩ := bs2 hf
      refine am_endi hS (am_runV (As := []) X (hml.trans hl.1.symm) hS (cX10_read_ok (l := l) (E := E) h1) mv_X11_151 hrc rfl ⟨Nat.le_trans (by decide) hRa, Nat.le_trans (by decide) hRb⟩ ⟨Nat.zero_le _, Nat.zero_le _⟩ rfl rfl (Nat.le_of_ble_eq_true rfl) dX11_work_27) (fun H locs hS => ?_)
      refine lv_if_ne (tgt := 44) hx hb dX11_work_30 (by decide) (fun q10 => ?_) (fun q10 => ?_)
      · have hf := ifn hf q10
        refine lv_aload_n hx hb dX11_work_44 rfl (lv_at hl 0 rfl) ?_
        obtain ⟨a11, h1, hf⟩ := bs hf
        refine am_gr X hS fl_X11_74 rfl h1 dX11_work_45 ?_
        refine lv_aload_n hx hb dX11_work_48 rfl (lv_at hl 0 rfl) ?_
        obtain ⟨a12, h1, hf⟩ := bs hf
        refine am_gr X hS fl_X11_67 rfl h1 dX11_work_49 ?_
        obtain ⟨u0, h0, hf⟩ := bs hf
        obtain ⟨_, hrc⟩ := isO_n h0
        obtain ⟨m13, h1, hf⟩ := bs hf
        refine am_endv hS (am_runV (As := [.ref a12]) X (hml.trans hl.1.symm) hS (cX7_push_ok (l := l) (E := E) h1) mv_X11_154 hrc rfl ⟨Nat.le_trans (by decide) hRa, Nat.le_trans (by decide) hRb⟩ ⟨Nat.zero_le _, Nat.zero_le _⟩ rfl rfl (Nat.le_of_ble_eq_true rfl) dX11_work_52) (fun H locs hS => ?_)
        refine lv_aload_n hx hb dX11_work_55 rfl (lv_at hl 0 rfl) ?_
        obtain ⟨a14, h1, hf⟩ := bs hf
        refine am_gr X hS fl_X11_60 rfl h1 dX11_work_56 ?_
        refine lv_aload_n hx hb dX11_work_59 rfl (lv_at hl 0 rfl) ?_
        obtain ⟨a15, h1, hf⟩ := bs hf
        refine am_gr X hS fl_X11_67 rfl h1 dX11_work_60 ?_
        refine lv_iconst (v := 0) hx hb dX11_work_63 (by decide) ?_
        refine lv_aload_n hx hb dX11_work_64 rfl (lv_at hl 0 rfl) ?_
        obtain ⟨a16, h1, hf⟩ := bs hf
        refine am_gr X hS fl_X11_60 rfl h1 dX11_work_65 ?_
        obtain ⟨v17, h1, hf⟩ := bs hf
        refine am_gi X hS fl_X11_158 rfl h1 dX11_work_68 ?_
        refine lv_iconst (v := 0) hx hb dX11_work_71 (by decide) ?_
        obtain ⟨u0, h0, hf⟩ := bs hf
        obtain ⟨_, hrc⟩ := isO_n h0
        obtain ⟨m18, h1, hf⟩ := bs hf
        refine am_endv hS (am_runVN (As := [.ref a15, .int 0, .int v17, .int 0]) X (hml.trans hl.1.symm) hS (cX10_perform_ok (l := l) (E := E) DP h1) mn_X11_161 hrc rfl ⟨Nat.le_trans (by decide) hRa, Nat.le_trans (by decide) hRb⟩ ⟨Nat.zero_le _, Nat.zero_le _⟩ rfl rfl (Nat.le_of_ble_eq_true rfl) dX11_work_72) (fun H locs hS => ?_)
        refine lv_aload_n hx hb dX11_work_75 rfl (lv_at hl 0 rfl) ?_
        refine lv_aload_n hx hb dX11_work_76 rfl (lv_at hl 0 rfl) ?_
        obtain ⟨a19, h1, hf⟩ := bs hf
        refine am_gr X hS fl_X11_60 rfl h1 dX11_work_77 ?_
        obtain ⟨v20, h1, hf⟩ := bs hf
        refine am_gi X hS fl_X11_165 rfl h1 dX11_work_80 ?_
        obtain ⟨m21, h1, hf⟩ := bs hf
        refine am_pi X hS fp_X11_141 rfl h1 dX11_work_83 (fun H locs hS => ?_)
        refine lv_aload_n hx hb dX11_work_86 rfl (lv_at hl 0 rfl) ?_
        obtain ⟨a22, h1, hf⟩ := bs hf
        refine am_gr X hS fl_X11_60 rfl h1 dX11_work_87 ?_
        obtain ⟨v23, h1, hf⟩ := bs hf
        refine am_gi X hS fl_X11_168 rfl h1 dX11_work_90 ?_
        cases hf
        exact hret _ rfl _ _ _ _ rfl dX11_work_93 hS
      · have hf := ifp hf q10
        refine lv_aload_n hx hb dX11_work_33 rfl (lv_at hl 0 rfl) ?_
        obtain ⟨a24, h1, hf⟩ := bs hf
        refine am_gr X hS fl_X11_12 rfl h1 dX11_work_34 ?_
        obtain ⟨v25, h1, hf⟩ := bs hf
        refine am_gi X hS fl_X11_119 rfl h1 dX11_work_37 ?_
        refine lv_bipush (v := 10) hx hb dX11_work_40 (by decide) ?_
        refine lv_isub hx hb dX11_work_42 ?_
        cases hf
        exact hret _ rfl _ _ _ _ rfl dX11_work_43 hS
    · have hf := ifn hf q6
      refine lv_bipush (v := (-20)) hx hb dX11_work_20 (by decide) ?_
      cases hf
      exact hret _ rfl _ _ _ _ rfl dX11_work_22 hS
  · have hf := sme_r hf
    cases hf
    exact am_thrV (As := [.int x1, .int 150]) X (hml.trans hl.1.symm) hS (cX11_startText_thr (l := l) (E := E) hl0 h1) mv_X11_111 hrc rfl ⟨Nat.le_trans (by decide) hRa, Nat.le_trans (by decide) hRb⟩ (hRc _ rfl) rfl rfl (Nat.le_of_ble_eq_true rfl) dX11_work_5 (fun H locs ce q9 hS a1 a2 a3 => hthr _ rfl _ H locs ls _ ce q9 hS a1 a2 a3)
set_option maxRecDepth 100000 in
theorem cX11_work_ok {l : Launch} {E : Ev} (hl0 : l.stackTraces = false) {x0 : Nat} {x1 : Int32} {mm : Mem} {r : Int32} {mm1 : Mem} (hf : fX11_work (eS E) x0 x1 mm = some (.inl r, mm1)) : CtI l yX11_work cX11_work 2 (some .int) 72 1632 E [.ref x0, .int x1] mm r mm1 := by
  refine Met.ofW (cc := cX11_work) (maxL := 2) (ret := (some .int)) (by decide) rfl ?_
  intro p e s m args below meth c s₁ B hml hv
  obtain ⟨rfl, X, hS, hr, hlocks⟩ := am_in B hv
  refine am_entry (Nat.le_of_ble_eq_true rfl) (fun ls hl => ?_)
  exact wX11_work hl0 X hml ⟨Nat.le_refl _, Nat.le_refl _⟩ hf (fun r e pc H locs ls hn hd hS => by cases e; exact am_ri X hS hr hn hd hlocks) (fun k e => by cases e) (fun k e => by cases e) _ _ ls hS hl
set_option maxRecDepth 100000 in
theorem cX11_work_thr {l : Launch} {E : Ev} (hl0 : l.stackTraces = false) {x0 : Nat} {x1 : Int32} {mm : Mem} {k : Nat} {mm1 : Mem} (hf : fX11_work (eS E) x0 x1 mm = some (.inr k, mm1)) : CtX l yX11_work cX11_work 2 (some .int) 72 1632 E [.ref x0, .int x1] mm k mm1 := by
  refine vx_ofW (cc := cX11_work) (maxL := 2) (ret := (some .int)) (by decide) rfl ?_
  intro p e s m args below meth c s₁ B hml hxt hv
  obtain ⟨rfl, X, hS, hr, hlocks⟩ := am_in B hv
  refine am_entry (Nat.le_of_ble_eq_true rfl) (fun ls hl => ?_)
  exact wX11_work hl0 X hml ⟨Nat.le_refl _, Nat.le_refl _⟩ hf (fun r e => by cases e) (fun k e => ⟨Nat.le_refl _, Nat.le_refl _⟩) (fun k1 e pc H locs ls rest ce q9 hS a1 a2 a3 => by cases e; exact am_out X hS hxt hlocks a1 a2 a3) _ _ ls hS hl
set_option maxHeartbeats 4000000 in
set_option maxRecDepth 100000 in
theorem wX11_book {p : Program} {l : Launch} {e : Env} {R : Room} {s : State} {m : MethodId} {args : Array Value} {below : List Frame} {meth : Method} {c : Code} {Q : State → Prop} {E : Ev} (hl0 : l.stackTraces = false) (X : Cx p s m args c cX11_book RX11 E) (hml : c.maxLocals = 2) (hR : 9 ≤ R.frames ∧ 163 ≤ R.locals) {x0 : Nat} {x1 : Int32} {mm : Mem} {res : Int32 ⊕ Nat} {mm1 : Mem} (hf : fX11_book (eS E) x0 x1 mm = some (res, mm1)) (hret : ∀ r, res = .inl r → ∀ (pc : Nat) (H : Heap) (locs : List Loc) (ls : Array Slot), narrow .int (.int r) = .int r → decode cX11_book pc = .ok (.ireturn, 1) → wS E s mm1 H locs → W p l e R s m args below meth c H locs 0 0 Q (F0 m pc ls [.int r])) (hRc : ∀ k, res = .inr k → 1 ≤ R.cells ∧ 6 ≤ R.slots) (hthr : ∀ k, res = .inr k → ∀ (pc : Nat) (H : Heap) (locs : List Loc) (ls : Array Slot) (rest : List Value) (ce : Cell) (q9 : Addr), wS E s mm1 H locs → H[q9]? = some ce → ce.vm = .none → s.vm.findClass (exN k) = some ce.cls → vx_W p l e R s m args below meth c H locs 1 6 Q (F0 m pc ls rest) q9) : ∀ (H : Heap) (locs : List Loc) (ls : Array Slot), wS E s mm H locs → lv_has ls 2 [(0, .ref x0), (1, .int x1)] → W p l e R s m args below meth c H locs 0 0 Q (F0 m 0 ls []) := by
  have hx := X.1
  have hb := X.2.1
  have hRa := hR.1
  have hRb := hR.2
  unfold fX11_book at hf
  intro H locs ls hS hl
  refine lv_aload_n hx hb dX11_book_0 rfl (lv_at hl 0 rfl) ?_
  refine lv_iload_n hx hb dX11_book_1 rfl (lv_at hl 1 rfl) ?_
  refine lv_bipush (v := 60) hx hb dX11_book_2 (by decide) ?_
  obtain ⟨u0, h0, hf⟩ := bs hf
  obtain ⟨_, hrc⟩ := isO_n h0
  obtain ⟨u1, m2, h1, hf⟩ := bs2 hf
  rcases u1 with v3 | k1
  · have hf := sme_l hf
    refine am_endv hS (am_runV (As := [.int x1, .int 60]) X (hml.trans hl.1.symm) hS (cX11_startText_ok (l := l) (E := E) hl0 h1) mv_X11_111 hrc rfl ⟨Nat.le_trans (by decide) hRa, Nat.le_trans (by decide) hRb⟩ ⟨Nat.zero_le _, Nat.zero_le _⟩ rfl rfl (Nat.le_of_ble_eq_true rfl) dX11_book_4) (fun H locs hS => ?_)
    refine lv_aload_n hx hb dX11_book_7 rfl (lv_at hl 0 rfl) ?_
    obtain ⟨a4, h1, hf⟩ := bs hf
    refine am_gr X hS fl_X11_43 rfl h1 dX11_book_8 ?_
    refine lv_aload_n hx hb dX11_book_11 rfl (lv_at hl 0 rfl) ?_
    obtain ⟨a5, h1, hf⟩ := bs hf
    refine am_gr X hS fl_X11_12 rfl h1 dX11_book_12 ?_
    refine lv_aload_n hx hb dX11_book_15 rfl (lv_at hl 0 rfl) ?_
    obtain ⟨a6, h1, hf⟩ := bs hf
    refine am_gr X hS fl_X11_19 rfl h1 dX11_book_16 ?_
    obtain ⟨v7, h1, hf⟩ := bs hf
    refine am_gi X hS fl_X11_171 rfl h1 dX11_book_19 ?_
    obtain ⟨u0, h0, hf⟩ := bs hf
    obtain ⟨_, hrc⟩ := isO_n h0
    obtain ⟨v8, m9, h1, hf⟩ := bs2 hf
    refine am_endi hS (am_runV (As := [.ref a5, .int v7]) X (hml.trans hl.1.symm) hS (cX0_read_ok (l := l) (E := E) h1) mv_X11_174 hrc rfl ⟨Nat.le_trans (by decide) hRa, Nat.le_trans (by decide) hRb⟩ ⟨Nat.zero_le _, Nat.zero_le _⟩ rfl rfl (Nat.le_of_ble_eq_true rfl) dX11_book_22) (fun H locs hS => ?_)
    refine lv_if_ne (tgt := 39) hx hb dX11_book_25 (by decide) (fun q10 => ?_) (fun q10 => ?_)
    · have hf := ifn hf q10
      refine lv_aload_n hx hb dX11_book_39 rfl (lv_at hl 0 rfl) ?_
      obtain ⟨a11, h1, hf⟩ := bs hf
      refine am_gr X hS fl_X11_39 rfl h1 dX11_book_40 ?_
      refine lv_aload_n hx hb dX11_book_43 rfl (lv_at hl 0 rfl) ?_
      obtain ⟨a12, h1, hf⟩ := bs hf
      refine am_gr X hS fl_X11_43 rfl h1 dX11_book_44 ?_
      obtain ⟨u0, h0, hf⟩ := bs hf
      obtain ⟨_, hrc⟩ := isO_n h0
      obtain ⟨m13, h1, hf⟩ := bs hf
      refine am_endv hS (am_runV (As := [.ref a12]) X (hml.trans hl.1.symm) hS (cX0_copyFrom_ok (l := l) (E := E) h1) mv_X11_177 hrc rfl ⟨Nat.le_trans (by decide) hRa, Nat.le_trans (by decide) hRb⟩ ⟨Nat.zero_le _, Nat.zero_le _⟩ rfl rfl (Nat.le_of_ble_eq_true rfl) dX11_book_47) (fun H locs hS => ?_)
      refine lv_aload_n hx hb dX11_book_50 rfl (lv_at hl 0 rfl) ?_
      obtain ⟨a14, h1, hf⟩ := bs hf
      refine am_gr X hS fl_X11_39 rfl h1 dX11_book_51 ?_
      obtain ⟨v15, h1, hf⟩ := bs hf
      refine am_gi X hS fl_X11_129 rfl h1 dX11_book_54 ?_
      cases hf
      exact hret _ rfl _ _ _ _ rfl dX11_book_57 hS
    · have hf := ifp hf q10
      refine lv_aload_n hx hb dX11_book_28 rfl (lv_at hl 0 rfl) ?_
      obtain ⟨a16, h1, hf⟩ := bs hf
      refine am_gr X hS fl_X11_12 rfl h1 dX11_book_29 ?_
      obtain ⟨v17, h1, hf⟩ := bs hf
      refine am_gi X hS fl_X11_119 rfl h1 dX11_book_32 ?_
      refine lv_bipush (v := 10) hx hb dX11_book_35 (by decide) ?_
      refine lv_isub hx hb dX11_book_37 ?_
      cases hf
      exact hret _ rfl _ _ _ _ rfl dX11_book_38 hS
  · have hf := sme_r hf
    cases hf
    exact am_thrV (As := [.int x1, .int 60]) X (hml.trans hl.1.symm) hS (cX11_startText_thr (l := l) (E := E) hl0 h1) mv_X11_111 hrc rfl ⟨Nat.le_trans (by decide) hRa, Nat.le_trans (by decide) hRb⟩ (hRc _ rfl) rfl rfl (Nat.le_of_ble_eq_true rfl) dX11_book_4 (fun H locs ce q9 hS a1 a2 a3 => hthr _ rfl _ H locs ls _ ce q9 hS a1 a2 a3)
set_option maxRecDepth 100000 in
theorem cX11_book_ok {l : Launch} {E : Ev} (hl0 : l.stackTraces = false) {x0 : Nat} {x1 : Int32} {mm : Mem} {r : Int32} {mm1 : Mem} (hf : fX11_book (eS E) x0 x1 mm = some (.inl r, mm1)) : CtI l yX11_book cX11_book 2 (some .int) 9 163 E [.ref x0, .int x1] mm r mm1 := by
  refine Met.ofW (cc := cX11_book) (maxL := 2) (ret := (some .int)) (by decide) rfl ?_
  intro p e s m args below meth c s₁ B hml hv
  obtain ⟨rfl, X, hS, hr, hlocks⟩ := am_in B hv
  refine am_entry (Nat.le_of_ble_eq_true rfl) (fun ls hl => ?_)
  exact wX11_book hl0 X hml ⟨Nat.le_refl _, Nat.le_refl _⟩ hf (fun r e pc H locs ls hn hd hS => by cases e; exact am_ri X hS hr hn hd hlocks) (fun k e => by cases e) (fun k e => by cases e) _ _ ls hS hl
set_option maxRecDepth 100000 in
theorem cX11_book_thr {l : Launch} {E : Ev} (hl0 : l.stackTraces = false) {x0 : Nat} {x1 : Int32} {mm : Mem} {k : Nat} {mm1 : Mem} (hf : fX11_book (eS E) x0 x1 mm = some (.inr k, mm1)) : CtX l yX11_book cX11_book 2 (some .int) 9 163 E [.ref x0, .int x1] mm k mm1 := by
  refine vx_ofW (cc := cX11_book) (maxL := 2) (ret := (some .int)) (by decide) rfl ?_
  intro p e s m args below meth c s₁ B hml hxt hv
  obtain ⟨rfl, X, hS, hr, hlocks⟩ := am_in B hv
  refine am_entry (Nat.le_of_ble_eq_true rfl) (fun ls hl => ?_)
  exact wX11_book hl0 X hml ⟨Nat.le_refl _, Nat.le_refl _⟩ hf (fun r e => by cases e) (fun k e => ⟨Nat.le_refl _, Nat.le_refl _⟩) (fun k1 e pc H locs ls rest ce q9 hS a1 a2 a3 => by cases e; exact am_out X hS hxt hlocks a1 a2 a3) _ _ ls hS hl
set_option maxHeartbeats 4000000 in
set_option maxRecDepth 100000 in
theorem wX11_fault {p : Program} {l : Launch} {e : Env} {R : Room} {s : State} {m : MethodId} {args : Array Value} {below : List Frame} {meth : Method} {c : Code} {Q : State → Prop} {E : Ev} (X : Cx p s m args c cX11_fault RX11 E) (hml : c.maxLocals = 1) (hR : 0 ≤ R.frames ∧ 0 ≤ R.locals) {x0 : Nat} {mm : Mem} {r : Int32} (hf : fX11_fault (eS E) x0 mm = some r) (hret : ∀ (pc : Nat) (H : Heap) (locs : List Loc) (ls : Array Slot), narrow .int (.int r) = .int r → decode cX11_fault pc = .ok (.ireturn, 1) → wS E s mm H locs → W p l e R s m args below meth c H locs 0 0 Q (F0 m pc ls [.int r])) : ∀ (H : Heap) (locs : List Loc) (ls : Array Slot), wS E s mm H locs → lv_has ls 1 [(0, .ref x0)] → W p l e R s m args below meth c H locs 0 0 Q (F0 m 0 ls []) := by
  have hx := X.1
  have hb := X.2.1
  have hR1 := hR.1
  have hR2 := hR.2
  have hRa : 0 ≤ R.frames := by omega
  have hRb : 0 ≤ R.locals := by omega
  unfold fX11_fault at hf
  intro H locs ls hS hl
  refine lv_aload_n hx hb dX11_fault_0 rfl (lv_at hl 0 rfl) ?_
  obtain ⟨a1, h1, hf⟩ := bs hf
  refine am_gr X hS fl_X11_12 rfl h1 dX11_fault_1 ?_
  obtain ⟨v2, h1, hf⟩ := bs hf
  refine am_gi X hS fl_X11_180 rfl h1 dX11_fault_4 ?_
  cases hf
  exact hret _ _ _ _ rfl dX11_fault_7 hS
set_option maxRecDepth 100000 in
theorem cX11_fault_ok {l : Launch} {E : Ev} {x0 : Nat} {mm : Mem} {r : Int32} (hf : fX11_fault (eS E) x0 mm = some r) : CtI l yX11_fault cX11_fault 1 (some .int) (0) (0) E [.ref x0] mm r mm := by
  refine Met.ofW (cc := cX11_fault) (maxL := 1) (ret := (some .int)) (by decide) rfl ?_
  intro p e s m args below meth c s₁ B hml hv
  obtain ⟨rfl, X, hS, hr, hlocks⟩ := am_in B hv
  refine am_entry (Nat.le_of_ble_eq_true rfl) (fun ls hl => ?_)
  exact wX11_fault X hml ⟨Nat.le_refl _, Nat.le_refl _⟩ hf (fun pc H locs ls hn hd hS => am_ri X hS hr hn hd hlocks) _ _ ls hS hl
set_option maxHeartbeats 4000000 in
set_option maxRecDepth 100000 in
theorem wX11_undo {p : Program} {l : Launch} {e : Env} {R : Room} {s : State} {m : MethodId} {args : Array Value} {below : List Frame} {meth : Method} {c : Code} {Q : State → Prop} {E : Ev} (X : Cx p s m args c cX11_undo RX11 E) (hml : c.maxLocals = 1) (hR : 3 ≤ R.frames ∧ 102 ≤ R.locals) {x0 : Nat} {mm : Mem} {r : Int32} {mm1 : Mem} (hf : fX11_undo (eS E) x0 mm = some (r, mm1)) (hret : ∀ (pc : Nat) (H : Heap) (locs : List Loc) (ls : Array Slot), narrow .int (.int r) = .int r → decode cX11_undo pc = .ok (.ireturn, 1) → wS E s mm1 H locs → W p l e R s m args below meth c H locs 0 0 Q (F0 m pc ls [.int r])) : ∀ (H : Heap) (locs : List Loc) (ls : Array Slot), wS E s mm H locs → lv_has ls 1 [(0, .ref x0)] → W p l e R s m args below meth c H locs 0 0 Q (F0 m 0 ls []) := by
  have hx := X.1
  have hb := X.2.1
  have hR1 := hR.1
  have hR2 := hR.2
  have hRa : 3 ≤ R.frames := by omega
  have hRb : 102 ≤ R.locals := by omega
  unfold fX11_undo at hf
  intro H locs ls hS hl
  refine lv_aload_n hx hb dX11_undo_0 rfl (lv_at hl 0 rfl) ?_
  obtain ⟨a1, h1, hf⟩ := bs hf
  refine am_gr X hS fl_X11_74 rfl h1 dX11_undo_1 ?_
  obtain ⟨v2, h1, hf⟩ := bs hf
  refine am_gi X hS fl_X11_135 rfl h1 dX11_undo_4 ?_
  refine lv_if_ne (tgt := 12) hx hb dX11_undo_7 (by decide) (fun q3 => ?_) (fun q3 => ?_)
  · have hf := ifn hf q3
    refine lv_aload_n hx hb dX11_undo_12 rfl (lv_at hl 0 rfl) ?_
    obtain ⟨a4, h1, hf⟩ := bs hf
    refine am_gr X hS fl_X11_74 rfl h1 dX11_undo_13 ?_
    refine lv_aload_n hx hb dX11_undo_16 rfl (lv_at hl 0 rfl) ?_
    obtain ⟨a5, h1, hf⟩ := bs hf
    refine am_gr X hS fl_X11_67 rfl h1 dX11_undo_17 ?_
    obtain ⟨u0, h0, hf⟩ := bs hf
    obtain ⟨_, hrc⟩ := isO_n h0
    obtain ⟨m6, h1, hf⟩ := bs hf
    refine am_endv hS (am_runV (As := [.ref a5]) X (hml.trans hl.1.symm) hS (cX7_popInto_ok (l := l) (E := E) h1) mv_X11_183 hrc rfl ⟨Nat.le_trans (by decide) hRa, Nat.le_trans (by decide) hRb⟩ ⟨Nat.zero_le _, Nat.zero_le _⟩ rfl rfl (Nat.le_of_ble_eq_true rfl) dX11_undo_20) (fun H locs hS => ?_)
    refine lv_aload_n hx hb dX11_undo_23 rfl (lv_at hl 0 rfl) ?_
    refine lv_iconst (v := 0) hx hb dX11_undo_24 (by decide) ?_
    obtain ⟨m7, h1, hf⟩ := bs hf
    refine am_pi X hS fp_X11_141 rfl h1 dX11_undo_25 (fun H locs hS => ?_)
    refine lv_aload_n hx hb dX11_undo_28 rfl (lv_at hl 0 rfl) ?_
    obtain ⟨a8, h1, hf⟩ := bs hf
    refine am_gr X hS fl_X11_74 rfl h1 dX11_undo_29 ?_
    obtain ⟨v9, h1, hf⟩ := bs hf
    refine am_gi X hS fl_X11_135 rfl h1 dX11_undo_32 ?_
    cases hf
    exact hret _ _ _ _ rfl dX11_undo_35 hS
  · have hf := ifp hf q3
    refine lv_iconst (v := (-1)) hx hb dX11_undo_10 (by decide) ?_
    cases hf
    exact hret _ _ _ _ rfl dX11_undo_11 hS
set_option maxRecDepth 100000 in
theorem cX11_undo_ok {l : Launch} {E : Ev} {x0 : Nat} {mm : Mem} {r : Int32} {mm1 : Mem} (hf : fX11_undo (eS E) x0 mm = some (r, mm1)) : CtI l yX11_undo cX11_undo 1 (some .int) (3) (102) E [.ref x0] mm r mm1 := by
  refine Met.ofW (cc := cX11_undo) (maxL := 1) (ret := (some .int)) (by decide) rfl ?_
  intro p e s m args below meth c s₁ B hml hv
  obtain ⟨rfl, X, hS, hr, hlocks⟩ := am_in B hv
  refine am_entry (Nat.le_of_ble_eq_true rfl) (fun ls hl => ?_)
  exact wX11_undo X hml ⟨Nat.le_refl _, Nat.le_refl _⟩ hf (fun pc H locs ls hn hd hS => am_ri X hS hr hn hd hlocks) _ _ ls hS hl
set_option maxHeartbeats 4000000 in
set_option maxRecDepth 100000 in
theorem wX11_told {p : Program} {l : Launch} {e : Env} {R : Room} {s : State} {m : MethodId} {args : Array Value} {below : List Frame} {meth : Method} {c : Code} {Q : State → Prop} {E : Ev} (hl0 : l.stackTraces = false) (X : Cx p s m args c cX11_told RX11 E) (hml : c.maxLocals = 2) (hR : 8 ≤ R.frames ∧ 141 ≤ R.locals) {x0 : Nat} {x1 : Int32} {mm : Mem} {res : Int32 ⊕ Nat} {mm1 : Mem} (hf : fX11_told (eS E) x0 x1 mm = some (res, mm1)) (hret : ∀ r, res = .inl r → ∀ (pc : Nat) (H : Heap) (locs : List Loc) (ls : Array Slot), narrow .int (.int r) = .int r → decode cX11_told pc = .ok (.ireturn, 1) → wS E s mm1 H locs → W p l e R s m args below meth c H locs 0 0 Q (F0 m pc ls [.int r])) (hRc : ∀ k, res = .inr k → 1 ≤ R.cells ∧ 6 ≤ R.slots) (hthr : ∀ k, res = .inr k → ∀ (pc : Nat) (H : Heap) (locs : List Loc) (ls : Array Slot) (rest : List Value) (ce : Cell) (q9 : Addr), wS E s mm1 H locs → H[q9]? = some ce → ce.vm = .none → s.vm.findClass (exN k) = some ce.cls → vx_W p l e R s m args below meth c H locs 1 6 Q (F0 m pc ls rest) q9) : ∀ (H : Heap) (locs : List Loc) (ls : Array Slot), wS E s mm H locs → lv_has ls 2 [(0, .ref x0), (1, .int x1)] → W p l e R s m args below meth c H locs 0 0 Q (F0 m 0 ls []) := by
  have hx := X.1
  have hb := X.2.1
  have hRa := hR.1
  have hRb := hR.2
  unfold fX11_told at hf
  have hj16 : ∀ (x0 : Nat) (x1 : Int32) (s0 : Nat) (s1 : Int32) (mm : Mem) (H : Heap) (locs : List Loc) (ls : Array Slot), fX11_told_j16 (eS E) x0 x1 s0 s1 mm = some (res, mm1) → wS E s mm H locs → lv_has ls 2 [(0, .ref x0), (1, .int x1)] → W p l e R s m args below meth c H locs 0 0 Q (F0 m 16 ls [.int s1, .ref s0]) := by
    intro x0 x1 s0 s1 mm H locs ls hf hS hl
    unfold fX11_told_j16 at hf
    obtain ⟨u0, h0, hf⟩ := bs hf
    obtain ⟨_, hrc⟩ := isO_n h0
    obtain ⟨u1, m2, h1, hf⟩ := bs2 hf
    rcases u1 with v3 | k1
    · have hf := sme_l hf
      refine am_endv hS (am_runV (As := [.int s1]) X (hml.trans hl.1.symm) hS (cX11_need_ok (l := l) (E := E) hl0 h1) mv_X11_186 hrc rfl ⟨Nat.le_trans (by decide) hRa, Nat.le_trans (by decide) hRb⟩ ⟨Nat.zero_le _, Nat.zero_le _⟩ rfl rfl (Nat.le_of_ble_eq_true rfl) dX11_told_16) (fun H locs hS => ?_)
      refine lv_iload_n hx hb dX11_told_19 rfl (lv_at hl 1 rfl) ?_
      by_cases q6 : x1 = 0
      · have hf := ifp hf q6
        refine lv_tableIn (off := 60) (tgt := 80) hx hb dX11_told_20 (by rw [q6]; decide) (by rw [q6]; decide) (by rw [q6]; decide) (by decide) ?_
        refine lv_aload_n hx hb dX11_told_80 rfl (lv_at hl 0 rfl) ?_
        obtain ⟨a4, h1, hf⟩ := bs hf
        refine am_gr X hS fl_X11_19 rfl h1 dX11_told_81 ?_
        obtain ⟨v5, h1, hf⟩ := bs hf
        refine am_gi X hS fl_X11_144 rfl h1 dX11_told_84 ?_
        cases hf
        exact hret _ rfl _ _ _ _ rfl dX11_told_87 hS
      · have hf := ifn hf q6
        by_cases q9 : x1 = 1
        · have hf := ifp hf q9
          refine lv_tableIn (off := 68) (tgt := 88) hx hb dX11_told_20 (by rw [q9]; decide) (by rw [q9]; decide) (by rw [q9]; decide) (by decide) ?_
          refine lv_aload_n hx hb dX11_told_88 rfl (lv_at hl 0 rfl) ?_
          obtain ⟨a7, h1, hf⟩ := bs hf
          refine am_gr X hS fl_X11_19 rfl h1 dX11_told_89 ?_
          obtain ⟨v8, h1, hf⟩ := bs hf
          refine am_gi X hS fl_X11_190 rfl h1 dX11_told_92 ?_
          cases hf
          exact hret _ rfl _ _ _ _ rfl dX11_told_95 hS
        · have hf := ifn hf q9
          by_cases q12 : x1 = 2
          · have hf := ifp hf q12
            refine lv_tableIn (off := 76) (tgt := 96) hx hb dX11_told_20 (by rw [q12]; decide) (by rw [q12]; decide) (by rw [q12]; decide) (by decide) ?_
            refine lv_aload_n hx hb dX11_told_96 rfl (lv_at hl 0 rfl) ?_
            obtain ⟨a10, h1, hf⟩ := bs hf
            refine am_gr X hS fl_X11_19 rfl h1 dX11_told_97 ?_
            obtain ⟨v11, h1, hf⟩ := bs hf
            refine am_gi X hS fl_X11_171 rfl h1 dX11_told_100 ?_
            cases hf
            exact hret _ rfl _ _ _ _ rfl dX11_told_103 hS
          · have hf := ifn hf q12
            by_cases q15 : x1 = 3
            · have hf := ifp hf q15
              refine lv_tableIn (off := 84) (tgt := 104) hx hb dX11_told_20 (by rw [q15]; decide) (by rw [q15]; decide) (by rw [q15]; decide) (by decide) ?_
              refine lv_aload_n hx hb dX11_told_104 rfl (lv_at hl 0 rfl) ?_
              obtain ⟨a13, h1, hf⟩ := bs hf
              refine am_gr X hS fl_X11_67 rfl h1 dX11_told_105 ?_
              obtain ⟨v14, h1, hf⟩ := bs hf
              refine am_gi X hS fl_X11_193 rfl h1 dX11_told_108 ?_
              cases hf
              exact hret _ rfl _ _ _ _ rfl dX11_told_111 hS
            · have hf := ifn hf q15
              by_cases q18 : x1 = 4
              · have hf := ifp hf q18
                refine lv_tableIn (off := 92) (tgt := 112) hx hb dX11_told_20 (by rw [q18]; decide) (by rw [q18]; decide) (by rw [q18]; decide) (by decide) ?_
                refine lv_aload_n hx hb dX11_told_112 rfl (lv_at hl 0 rfl) ?_
                obtain ⟨a16, h1, hf⟩ := bs hf
                refine am_gr X hS fl_X11_67 rfl h1 dX11_told_113 ?_
                obtain ⟨u0, h0, hf⟩ := bs hf
                obtain ⟨_, hrc⟩ := isO_n h0
                obtain ⟨v17, h1, hf⟩ := bs hf
                refine am_endi hS (am_runV (As := []) X (hml.trans hl.1.symm) hS (cX2_whiteBits_ok (l := l) (E := E) h1) mv_X11_196 hrc rfl ⟨Nat.le_trans (by decide) hRa, Nat.le_trans (by decide) hRb⟩ ⟨Nat.zero_le _, Nat.zero_le _⟩ rfl rfl (Nat.le_of_ble_eq_true rfl) dX11_told_116) (fun H locs hS => ?_)
                cases hf
                exact hret _ rfl _ _ _ _ rfl dX11_told_119 hS
              · have hf := ifn hf q18
                by_cases q21 : x1 = 5
                · have hf := ifp hf q21
                  refine lv_tableIn (off := 100) (tgt := 120) hx hb dX11_told_20 (by rw [q21]; decide) (by rw [q21]; decide) (by rw [q21]; decide) (by decide) ?_
                  refine lv_aload_n hx hb dX11_told_120 rfl (lv_at hl 0 rfl) ?_
                  obtain ⟨a19, h1, hf⟩ := bs hf
                  refine am_gr X hS fl_X11_67 rfl h1 dX11_told_121 ?_
                  refine lv_iconst (v := 0) hx hb dX11_told_124 (by decide) ?_
                  obtain ⟨u0, h0, hf⟩ := bs hf
                  obtain ⟨_, hrc⟩ := isO_n h0
                  obtain ⟨v20, h1, hf⟩ := bs hf
                  refine am_endi hS (am_runV (As := [.int 0]) X (hml.trans hl.1.symm) hS (cX2_litBits_ok (l := l) (E := E) h1) mv_X11_200 hrc rfl ⟨Nat.le_trans (by decide) hRa, Nat.le_trans (by decide) hRb⟩ ⟨Nat.zero_le _, Nat.zero_le _⟩ rfl rfl (Nat.le_of_ble_eq_true rfl) dX11_told_125) (fun H locs hS => ?_)
                  cases hf
                  exact hret _ rfl _ _ _ _ rfl dX11_told_128 hS
                · have hf := ifn hf q21
                  by_cases q25 : x1 = 6
                  · have hf := ifp hf q25
                    refine lv_tableIn (off := 109) (tgt := 129) hx hb dX11_told_20 (by rw [q25]; decide) (by rw [q25]; decide) (by rw [q25]; decide) (by decide) ?_
                    refine lv_aload_n hx hb dX11_told_129 rfl (lv_at hl 0 rfl) ?_
                    obtain ⟨a22, h1, hf⟩ := bs hf
                    refine am_gr X hS fl_X11_67 rfl h1 dX11_told_130 ?_
                    obtain ⟨a23, h1, hf⟩ := bs hf
                    refine am_gr X hS fl_X11_204 rfl h1 dX11_told_133 ?_
                    refine lv_iconst (v := 0) hx hb dX11_told_136 (by decide) ?_
                    refine lv_bipush (v := 42) hx hb dX11_told_137 (by decide) ?_
                    obtain ⟨v24, h1, hf⟩ := bs hf
                    refine am_endi hS (am_runS (As := [.ref a23, .int 0, .int 42]) X (hml.trans hl.1.symm) hS (cX11_sum_ok (l := l) (E := E) h1) ms_X11_208 ⟨Nat.le_trans (by decide) hRa, Nat.le_trans (by decide) hRb⟩ ⟨Nat.zero_le _, Nat.zero_le _⟩ rfl rfl (Nat.le_of_ble_eq_true rfl) dX11_told_139) (fun H locs hS => ?_)
                    cases hf
                    exact hret _ rfl _ _ _ _ rfl dX11_told_142 hS
                  · have hf := ifn hf q25
                    by_cases q29 : x1 = 7
                    · have hf := ifp hf q29
                      refine lv_tableIn (off := 123) (tgt := 143) hx hb dX11_told_20 (by rw [q29]; decide) (by rw [q29]; decide) (by rw [q29]; decide) (by decide) ?_
                      refine lv_aload_n hx hb dX11_told_143 rfl (lv_at hl 0 rfl) ?_
                      obtain ⟨a26, h1, hf⟩ := bs hf
                      refine am_gr X hS fl_X11_67 rfl h1 dX11_told_144 ?_
                      obtain ⟨a27, h1, hf⟩ := bs hf
                      refine am_gr X hS fl_X11_212 rfl h1 dX11_told_147 ?_
                      refine lv_iconst (v := 0) hx hb dX11_told_150 (by decide) ?_
                      refine lv_bipush (v := 42) hx hb dX11_told_151 (by decide) ?_
                      obtain ⟨v28, h1, hf⟩ := bs hf
                      refine am_endi hS (am_runS (As := [.ref a27, .int 0, .int 42]) X (hml.trans hl.1.symm) hS (cX11_sum_ok (l := l) (E := E) h1) ms_X11_208 ⟨Nat.le_trans (by decide) hRa, Nat.le_trans (by decide) hRb⟩ ⟨Nat.zero_le _, Nat.zero_le _⟩ rfl rfl (Nat.le_of_ble_eq_true rfl) dX11_told_153) (fun H locs hS => ?_)
                      cases hf
                      exact hret _ rfl _ _ _ _ rfl dX11_told_156 hS
                    · have hf := ifn hf q29
                      by_cases q33 : x1 = 8
                      · have hf := ifp hf q33
                        refine lv_tableIn (off := 137) (tgt := 157) hx hb dX11_told_20 (by rw [q33]; decide) (by rw [q33]; decide) (by rw [q33]; decide) (by decide) ?_
                        refine lv_aload_n hx hb dX11_told_157 rfl (lv_at hl 0 rfl) ?_
                        obtain ⟨a30, h1, hf⟩ := bs hf
                        refine am_gr X hS fl_X11_67 rfl h1 dX11_told_158 ?_
                        obtain ⟨a31, h1, hf⟩ := bs hf
                        refine am_gr X hS fl_X11_215 rfl h1 dX11_told_161 ?_
                        refine lv_iconst (v := 0) hx hb dX11_told_164 (by decide) ?_
                        refine lv_bipush (v := 42) hx hb dX11_told_165 (by decide) ?_
                        obtain ⟨v32, h1, hf⟩ := bs hf
                        refine am_endi hS (am_runS (As := [.ref a31, .int 0, .int 42]) X (hml.trans hl.1.symm) hS (cX11_sum_ok (l := l) (E := E) h1) ms_X11_208 ⟨Nat.le_trans (by decide) hRa, Nat.le_trans (by decide) hRb⟩ ⟨Nat.zero_le _, Nat.zero_le _⟩ rfl rfl (Nat.le_of_ble_eq_true rfl) dX11_told_167) (fun H locs hS => ?_)
                        cases hf
                        exact hret _ rfl _ _ _ _ rfl dX11_told_170 hS
                      · have hf := ifn hf q33
                        by_cases q36 : x1 = 9
                        · have hf := ifp hf q36
                          refine lv_tableIn (off := 151) (tgt := 171) hx hb dX11_told_20 (by rw [q36]; decide) (by rw [q36]; decide) (by rw [q36]; decide) (by decide) ?_
                          refine lv_aload_n hx hb dX11_told_171 rfl (lv_at hl 0 rfl) ?_
                          obtain ⟨a34, h1, hf⟩ := bs hf
                          refine am_gr X hS fl_X11_39 rfl h1 dX11_told_172 ?_
                          obtain ⟨v35, h1, hf⟩ := bs hf
                          refine am_gi X hS fl_X11_129 rfl h1 dX11_told_175 ?_
                          cases hf
                          exact hret _ rfl _ _ _ _ rfl dX11_told_178 hS
                        · have hf := ifn hf q36
                          by_cases q38 : x1 = 10
                          · have hf := ifp hf q38
                            refine lv_tableIn (off := 159) (tgt := 179) hx hb dX11_told_20 (by rw [q38]; decide) (by rw [q38]; decide) (by rw [q38]; decide) (by decide) ?_
                            refine lv_aload_n hx hb dX11_told_179 rfl (lv_at hl 0 rfl) ?_
                            obtain ⟨v37, h1, hf⟩ := bs hf
                            refine am_gi X hS fl_X11_141 rfl h1 dX11_told_180 ?_
                            cases hf
                            exact hret _ rfl _ _ _ _ rfl dX11_told_183 hS
                          · have hf := ifn hf q38
                            refine lv_tableOut (tgt := 184) hx hb dX11_told_20 (ts_out (x := x1) (lo := 0) (n := 11) (by decide) (by decide) (fun j hj => match j, hj with | 0, _ => fun h => q6 (h.trans (by decide))  | 1, _ => fun h => q9 (h.trans (by decide))  | 2, _ => fun h => q12 (h.trans (by decide))  | 3, _ => fun h => q15 (h.trans (by decide))  | 4, _ => fun h => q18 (h.trans (by decide))  | 5, _ => fun h => q21 (h.trans (by decide))  | 6, _ => fun h => q25 (h.trans (by decide))  | 7, _ => fun h => q29 (h.trans (by decide))  | 8, _ => fun h => q33 (h.trans (by decide))  | 9, _ => fun h => q36 (h.trans (by decide))  | 10, _ => fun h => q38 (h.trans (by decide)) | j + 11, hj => absurd hj (by omega))) (by decide) ?_
                            refine lv_aload_n hx hb dX11_told_184 rfl (lv_at hl 0 rfl) ?_
                            obtain ⟨a39, h1, hf⟩ := bs hf
                            refine am_gr X hS fl_X11_67 rfl h1 dX11_told_185 ?_
                            obtain ⟨a40, h1, hf⟩ := bs hf
                            refine am_gr X hS fl_X11_218 rfl h1 dX11_told_188 ?_
                            refine lv_iconst (v := 0) hx hb dX11_told_191 (by decide) ?_
                            refine lv_bipush (v := 6) hx hb dX11_told_192 (by decide) ?_
                            obtain ⟨v41, h1, hf⟩ := bs hf
                            refine am_endi hS (am_runS (As := [.ref a40, .int 0, .int 6]) X (hml.trans hl.1.symm) hS (cX11_sum_ok (l := l) (E := E) h1) ms_X11_208 ⟨Nat.le_trans (by decide) hRa, Nat.le_trans (by decide) hRb⟩ ⟨Nat.zero_le _, Nat.zero_le _⟩ rfl rfl (Nat.le_of_ble_eq_true rfl) dX11_told_194) (fun H locs hS => ?_)
                            cases hf
                            exact hret _ rfl _ _ _ _ rfl dX11_told_197 hS
    · have hf := sme_r hf
      cases hf
      exact am_thrV (As := [.int s1]) X (hml.trans hl.1.symm) hS (cX11_need_thr (l := l) (E := E) hl0 h1) mv_X11_186 hrc rfl ⟨Nat.le_trans (by decide) hRa, Nat.le_trans (by decide) hRb⟩ (hRc _ rfl) rfl rfl (Nat.le_of_ble_eq_true rfl) dX11_told_16 (fun H locs ce q9 hS a1 a2 a3 => hthr _ rfl _ H locs ls _ ce q9 hS a1 a2 a3)
  have hj15 : ∀ (x0 : Nat) (x1 : Int32) (s0 : Nat) (mm : Mem) (H : Heap) (locs : List Loc) (ls : Array Slot), fX11_told_j15 (eS E) x0 x1 s0 mm = some (res, mm1) → wS E s mm H locs → lv_has ls 2 [(0, .ref x0), (1, .int x1)] → W p l e R s m args below meth c H locs 0 0 Q (F0 m 15 ls [.ref s0]) := by
    intro x0 x1 s0 mm H locs ls hf hS hl
    unfold fX11_told_j15 at hf
    refine lv_iconst (v := 0) hx hb dX11_told_15 (by decide) ?_
    exact hj16 x0 x1 s0 0 mm H locs ls hf hS hl
  intro H locs ls hS hl
  refine lv_aload_n hx hb dX11_told_0 rfl (lv_at hl 0 rfl) ?_
  refine lv_iload_n hx hb dX11_told_1 rfl (lv_at hl 1 rfl) ?_
  refine lv_if_lt (tgt := 15) hx hb dX11_told_2 (by decide) (fun q42 => ?_) (fun q42 => ?_)
  · have hf := ifp hf q42
    exact hj15 x0 x1 x0 mm H locs ls hf hS hl
  · have hf := ifn hf q42
    refine lv_iload_n hx hb dX11_told_5 rfl (lv_at hl 1 rfl) ?_
    refine lv_bipush (v := 11) hx hb dX11_told_6 (by decide) ?_
    refine lv_icmp_gt (tgt := 15) hx hb dX11_told_8 (by decide) (fun q43 => ?_) (fun q43 => ?_)
    · have hf := ifp hf q43
      exact hj15 x0 x1 x0 mm H locs ls hf hS hl
    · have hf := ifn hf q43
      refine lv_iconst (v := 1) hx hb dX11_told_11 (by decide) ?_
      refine lv_goto (tgt := 16) hx hb dX11_told_12 (by decide) ?_
      exact hj16 x0 x1 x0 1 mm H locs ls hf hS hl
set_option maxRecDepth 100000 in
theorem cX11_told_ok {l : Launch} {E : Ev} (hl0 : l.stackTraces = false) {x0 : Nat} {x1 : Int32} {mm : Mem} {r : Int32} {mm1 : Mem} (hf : fX11_told (eS E) x0 x1 mm = some (.inl r, mm1)) : CtI l yX11_told cX11_told 2 (some .int) 8 141 E [.ref x0, .int x1] mm r mm1 := by
  refine Met.ofW (cc := cX11_told) (maxL := 2) (ret := (some .int)) (by decide) rfl ?_
  intro p e s m args below meth c s₁ B hml hv
  obtain ⟨rfl, X, hS, hr, hlocks⟩ := am_in B hv
  refine am_entry (Nat.le_of_ble_eq_true rfl) (fun ls hl => ?_)
  exact wX11_told hl0 X hml ⟨Nat.le_refl _, Nat.le_refl _⟩ hf (fun r e pc H locs ls hn hd hS => by cases e; exact am_ri X hS hr hn hd hlocks) (fun k e => by cases e) (fun k e => by cases e) _ _ ls hS hl
set_option maxRecDepth 100000 in
theorem cX11_told_thr {l : Launch} {E : Ev} (hl0 : l.stackTraces = false) {x0 : Nat} {x1 : Int32} {mm : Mem} {k : Nat} {mm1 : Mem} (hf : fX11_told (eS E) x0 x1 mm = some (.inr k, mm1)) : CtX l yX11_told cX11_told 2 (some .int) 8 141 E [.ref x0, .int x1] mm k mm1 := by
  refine vx_ofW (cc := cX11_told) (maxL := 2) (ret := (some .int)) (by decide) rfl ?_
  intro p e s m args below meth c s₁ B hml hxt hv
  obtain ⟨rfl, X, hS, hr, hlocks⟩ := am_in B hv
  refine am_entry (Nat.le_of_ble_eq_true rfl) (fun ls hl => ?_)
  exact wX11_told hl0 X hml ⟨Nat.le_refl _, Nat.le_refl _⟩ hf (fun r e => by cases e) (fun k e => ⟨Nat.le_refl _, Nat.le_refl _⟩) (fun k1 e pc H locs ls rest ce q9 hS a1 a2 a3 => by cases e; exact am_out X hS hxt hlocks a1 a2 a3) _ _ ls hS hl
set_option maxHeartbeats 4000000 in
set_option maxRecDepth 100000 in
theorem wX11_isFellow {p : Program} {l : Launch} {e : Env} {R : Room} {s : State} {m : MethodId} {args : Array Value} {below : List Frame} {meth : Method} {c : Code} {Q : State → Prop} {E : Ev} (X : Cx p s m args c cX11_isFellow RX11 E) (hml : c.maxLocals = 2) (hR : 0 ≤ R.frames ∧ 0 ≤ R.locals) {x0 : Nat} {x1 : Int32} {mm : Mem} {r : Int32} (hf : fX11_isFellow (eS E) x0 x1 mm = some r) (hret : ∀ (pc : Nat) (H : Heap) (locs : List Loc) (ls : Array Slot), narrow .boolean (.int r) = .int r → decode cX11_isFellow pc = .ok (.ireturn, 1) → wS E s mm H locs → W p l e R s m args below meth c H locs 0 0 Q (F0 m pc ls [.int r])) : ∀ (H : Heap) (locs : List Loc) (ls : Array Slot), wS E s mm H locs → lv_has ls 2 [(0, .ref x0), (1, .int x1)] → W p l e R s m args below meth c H locs 0 0 Q (F0 m 0 ls []) := by
  have hx := X.1
  have hb := X.2.1
  have hR1 := hR.1
  have hR2 := hR.2
  have hRa : 0 ≤ R.frames := by omega
  have hRb : 0 ≤ R.locals := by omega
  unfold fX11_isFellow at hf
  have hj20 : ∀ (s0 : Int32) (H : Heap) (locs : List Loc) (ls : Array Slot), fX11_isFellow_j20 (eS E) s0 mm = some r → wS E s mm H locs → lv_has ls 2 [] → W p l e R s m args below meth c H locs 0 0 Q (F0 m 20 ls [.int s0]) := by
    intro s0 H locs ls hf hS hl
    unfold fX11_isFellow_j20 at hf
    obtain ⟨v1, h1, hf⟩ := bs hf
    obtain ⟨rfl, h2⟩ := ckZ_n h1
    cases hf
    exact hret _ _ _ _ h2 dX11_isFellow_20 hS
  have hj19 : ∀ (H : Heap) (locs : List Loc) (ls : Array Slot), fX11_isFellow_j19 (eS E) mm = some r → wS E s mm H locs → lv_has ls 2 [] → W p l e R s m args below meth c H locs 0 0 Q (F0 m 19 ls []) := by
    intro H locs ls hf hS hl
    unfold fX11_isFellow_j19 at hf
    refine lv_iconst (v := 0) hx hb dX11_isFellow_19 (by decide) ?_
    exact hj20 0 H locs ls hf hS hl
  intro H locs ls hS hl
  refine lv_iload_n hx hb dX11_isFellow_0 rfl (lv_at hl 1 rfl) ?_
  refine lv_if_lt (tgt := 19) hx hb dX11_isFellow_1 (by decide) (fun q2 => ?_) (fun q2 => ?_)
  · have hf := ifp hf q2
    exact hj19  H locs ls hf hS (lv_sub hl [] rfl)
  · have hf := ifn hf q2
    refine lv_iload_n hx hb dX11_isFellow_4 rfl (lv_at hl 1 rfl) ?_
    refine lv_aload_n hx hb dX11_isFellow_5 rfl (lv_at hl 0 rfl) ?_
    obtain ⟨a3, h1, hf⟩ := bs hf
    refine am_gr X hS fl_X11_19 rfl h1 dX11_isFellow_6 ?_
    obtain ⟨v4, h1, hf⟩ := bs hf
    refine am_gi X hS fl_X11_144 rfl h1 dX11_isFellow_9 ?_
    refine lv_icmp_ge (tgt := 19) hx hb dX11_isFellow_12 (by decide) (fun q5 => ?_) (fun q5 => ?_)
    · have hf := ifp hf q5
      exact hj19  H locs ls hf hS (lv_sub hl [] rfl)
    · have hf := ifn hf q5
      refine lv_iconst (v := 1) hx hb dX11_isFellow_15 (by decide) ?_
      refine lv_goto (tgt := 20) hx hb dX11_isFellow_16 (by decide) ?_
      exact hj20 1 H locs ls hf hS (lv_sub hl [] rfl)
set_option maxRecDepth 100000 in
theorem cX11_isFellow_ok {l : Launch} {E : Ev} {x0 : Nat} {x1 : Int32} {mm : Mem} {r : Int32} (hf : fX11_isFellow (eS E) x0 x1 mm = some r) : CtI l yX11_isFellow cX11_isFellow 2 (some .boolean) (0) (0) E [.ref x0, .int x1] mm r mm := by
  refine Met.ofW (cc := cX11_isFellow) (maxL := 2) (ret := (some .boolean)) (by decide) rfl ?_
  intro p e s m args below meth c s₁ B hml hv
  obtain ⟨rfl, X, hS, hr, hlocks⟩ := am_in B hv
  refine am_entry (Nat.le_of_ble_eq_true rfl) (fun ls hl => ?_)
  exact wX11_isFellow X hml ⟨Nat.le_refl _, Nat.le_refl _⟩ hf (fun pc H locs ls hn hd hS => am_ri X hS hr hn hd hlocks) _ _ ls hS hl
set_option maxHeartbeats 4000000 in
set_option maxRecDepth 100000 in
theorem wX11_needFellow {p : Program} {l : Launch} {e : Env} {R : Room} {s : State} {m : MethodId} {args : Array Value} {below : List Frame} {meth : Method} {c : Code} {Q : State → Prop} {E : Ev} (hl0 : l.stackTraces = false) (X : Cx p s m args c cX11_needFellow RX11 E) (hml : c.maxLocals = 2) (hR : 7 ≤ R.frames ∧ 120 ≤ R.locals) {x0 : Nat} {x1 : Int32} {mm : Mem} {res : Unit ⊕ Nat} {mm1 : Mem} (hf : fX11_needFellow (eS E) x0 x1 mm = some (res, mm1)) (hret : ∀ r, res = .inl r → ∀ (pc : Nat) (H : Heap) (locs : List Loc) (ls : Array Slot), decode cX11_needFellow pc = .ok (.return_, 1) → wS E s mm1 H locs → W p l e R s m args below meth c H locs 0 0 Q (F0 m pc ls [])) (hRc : ∀ k, res = .inr k → 1 ≤ R.cells ∧ 6 ≤ R.slots) (hthr : ∀ k, res = .inr k → ∀ (pc : Nat) (H : Heap) (locs : List Loc) (ls : Array Slot) (rest : List Value) (ce : Cell) (q9 : Addr), wS E s mm1 H locs → H[q9]? = some ce → ce.vm = .none → s.vm.findClass (exN k) = some ce.cls → vx_W p l e R s m args below meth c H locs 1 6 Q (F0 m pc ls rest) q9) : ∀ (H : Heap) (locs : List Loc) (ls : Array Slot), wS E s mm H locs → lv_has ls 2 [(0, .ref x0), (1, .int x1)] → W p l e R s m args below meth c H locs 0 0 Q (F0 m 0 ls []) := by
  have hx := X.1
  have hb := X.2.1
  have hRa := hR.1
  have hRb := hR.2
  unfold fX11_needFellow at hf
  intro H locs ls hS hl
  refine lv_aload_n hx hb dX11_needFellow_0 rfl (lv_at hl 0 rfl) ?_
  refine lv_iload_n hx hb dX11_needFellow_1 rfl (lv_at hl 1 rfl) ?_
  obtain ⟨u0, h0, hf⟩ := bs hf
  obtain ⟨_, hrc⟩ := isO_n h0
  obtain ⟨v1, h1, hf⟩ := bs hf
  refine am_endi hS (am_runV (As := [.int x1]) X (hml.trans hl.1.symm) hS (cX11_isFellow_ok (l := l) (E := E) h1) mv_X11_372 hrc rfl ⟨Nat.le_trans (by decide) hRa, Nat.le_trans (by decide) hRb⟩ ⟨Nat.zero_le _, Nat.zero_le _⟩ rfl rfl (Nat.le_of_ble_eq_true rfl) dX11_needFellow_2) (fun H locs hS => ?_)
  refine lv_if_ne (tgt := 29) hx hb dX11_needFellow_5 (by decide) (fun q2 => ?_) (fun q2 => ?_)
  · have hf := ifn hf q2
    cases hf
    exact hret _ rfl _ _ _ _ dX11_needFellow_29 hS
  · have hf := ifp hf q2
    refine lv_aload_n hx hb dX11_needFellow_8 rfl (lv_at hl 0 rfl) ?_
    refine lv_dup hx hb dX11_needFellow_9 rfl ?_
    obtain ⟨v3, h1, hf⟩ := bs hf
    refine am_gi X hS fl_X11_385 rfl h1 dX11_needFellow_10 ?_
    refine lv_iconst (v := 1) hx hb dX11_needFellow_13 (by decide) ?_
    refine lv_iadd hx hb dX11_needFellow_14 ?_
    obtain ⟨m4, h1, hf⟩ := bs hf
    refine am_pi X hS fp_X11_385 rfl h1 dX11_needFellow_15 (fun H locs hS => ?_)
    cases hf
    exact am_make (k := 0) (ik := 398) (is := 400) (ic := 402) (i := 4) X hS hl0 (by decide) (hl.1.trans hml.symm) (by decide) rfl rfl wn_0_398_402 wg_0_398_402 dX11_needFellow_18 dX11_needFellow_21 dX11_needFellow_22 dX11_needFellow_25 (Nat.lt_of_lt_of_le (by decide) hRa) (Nat.le_trans (Nat.le_of_ble_eq_true rfl) hRb) (hRc _ rfl).1 (hRc _ rfl).2 (fun q H1 ce hS a1 a2 a3 => vx_athrow hx hb dX11_needFellow_28 (hthr _ rfl _ H1 locs ls _ ce q hS a1 a2 a3))
set_option maxRecDepth 100000 in
theorem cX11_needFellow_ok {l : Launch} {E : Ev} (hl0 : l.stackTraces = false) {x0 : Nat} {x1 : Int32} {mm : Mem} {mm1 : Mem} (hf : fX11_needFellow (eS E) x0 x1 mm = some (.inl (), mm1)) : CtV l yX11_needFellow cX11_needFellow 2 none 7 120 E [.ref x0, .int x1] mm mm1 := by
  refine Met.ofW (cc := cX11_needFellow) (maxL := 2) (ret := none) (by decide) rfl ?_
  intro p e s m args below meth c s₁ B hml hv
  obtain ⟨rfl, X, hS, hr, hlocks⟩ := am_in B hv
  refine am_entry (Nat.le_of_ble_eq_true rfl) (fun ls hl => ?_)
  exact wX11_needFellow hl0 X hml ⟨Nat.le_refl _, Nat.le_refl _⟩ hf (fun r e pc H locs ls hd hS => am_rv X hS hr hd hlocks) (fun k e => by cases e) (fun k e => by cases e) _ _ ls hS hl
set_option maxRecDepth 100000 in
theorem cX11_needFellow_thr {l : Launch} {E : Ev} (hl0 : l.stackTraces = false) {x0 : Nat} {x1 : Int32} {mm : Mem} {k : Nat} {mm1 : Mem} (hf : fX11_needFellow (eS E) x0 x1 mm = some (.inr k, mm1)) : CtX l yX11_needFellow cX11_needFellow 2 none 7 120 E [.ref x0, .int x1] mm k mm1 := by
  refine vx_ofW (cc := cX11_needFellow) (maxL := 2) (ret := none) (by decide) rfl ?_
  intro p e s m args below meth c s₁ B hml hxt hv
  obtain ⟨rfl, X, hS, hr, hlocks⟩ := am_in B hv
  refine am_entry (Nat.le_of_ble_eq_true rfl) (fun ls hl => ?_)
  exact wX11_needFellow hl0 X hml ⟨Nat.le_refl _, Nat.le_refl _⟩ hf (fun r e => by cases e) (fun k e => ⟨Nat.le_refl _, Nat.le_refl _⟩) (fun k1 e pc H locs ls rest ce q9 hS a1 a2 a3 => by cases e; exact am_out X hS hxt hlocks a1 a2 a3) _ _ ls hS hl
set_option maxHeartbeats 4000000 in
set_option maxRecDepth 100000 in
theorem wX11_fellow {p : Program} {l : Launch} {e : Env} {R : Room} {s : State} {m : MethodId} {args : Array Value} {below : List Frame} {meth : Method} {c : Code} {Q : State → Prop} {E : Ev} (hl0 : l.stackTraces = false) (X : Cx p s m args c cX11_fellow RX11 E) (hml : c.maxLocals = 4) (hR : 8 ≤ R.frames ∧ 141 ≤ R.locals) {x0 : Nat} {x1 : Int32} {x2 : Int32} {mm : Mem} {res : Int32 ⊕ Nat} {mm1 : Mem} (hf : fX11_fellow (eS E) x0 x1 x2 mm = some (res, mm1)) (hret : ∀ r, res = .inl r → ∀ (pc : Nat) (H : Heap) (locs : List Loc) (ls : Array Slot), narrow .int (.int r) = .int r → decode cX11_fellow pc = .ok (.ireturn, 1) → wS E s mm1 H locs → W p l e R s m args below meth c H locs 0 0 Q (F0 m pc ls [.int r])) (hRc : ∀ k, res = .inr k → 1 ≤ R.cells ∧ 6 ≤ R.slots) (hthr : ∀ k, res = .inr k → ∀ (pc : Nat) (H : Heap) (locs : List Loc) (ls : Array Slot) (rest : List Value) (ce : Cell) (q9 : Addr), wS E s mm1 H locs → H[q9]? = some ce → ce.vm = .none → s.vm.findClass (exN k) = some ce.cls → vx_W p l e R s m args below meth c H locs 1 6 Q (F0 m pc ls rest) q9) : ∀ (H : Heap) (locs : List Loc) (ls : Array Slot), wS E s mm H locs → lv_has ls 4 [(0, .ref x0), (1, .int x1), (2, .int x2)] → W p l e R s m args below meth c H locs 0 0 Q (F0 m 0 ls []) := by
  have hx := X.1
  have hb := X.2.1
  have hRa := hR.1
  have hRb := hR.2
  unfold fX11_fellow at hf
  have hj140 : ∀ (s0 : Int32) (mm : Mem) (H : Heap) (locs : List Loc) (ls : Array Slot), fX11_fellow_j140 (eS E) s0 mm = some (res, mm1) → wS E s mm H locs → lv_has ls 4 [] → W p l e R s m args below meth c H locs 0 0 Q (F0 m 140 ls [.int s0]) := by
    intro s0 mm H locs ls hf hS hl
    unfold fX11_fellow_j140 at hf
    cases hf
    exact hret _ rfl _ _ _ _ rfl dX11_fellow_140 hS
  have hj21 : ∀ (x0 : Nat) (x1 : Int32) (x2 : Int32) (s0 : Nat) (s1 : Int32) (mm : Mem) (H : Heap) (locs : List Loc) (ls : Array Slot), fX11_fellow_j21 (eS E) x0 x1 x2 s0 s1 mm = some (res, mm1) → wS E s mm H locs → lv_has ls 4 [(0, .ref x0), (1, .int x1), (2, .int x2)] → W p l e R s m args below meth c H locs 0 0 Q (F0 m 21 ls [.int s1, .ref s0]) := by
    intro x0 x1 x2 s0 s1 mm H locs ls hf hS hl
    unfold fX11_fellow_j21 at hf
    obtain ⟨u0, h0, hf⟩ := bs hf
    obtain ⟨_, hrc⟩ := isO_n h0
    obtain ⟨u1, m2, h1, hf⟩ := bs2 hf
    rcases u1 with v3 | k1
    · have hf := sme_l hf
      refine am_endv hS (am_runV (As := [.int s1]) X (hml.trans hl.1.symm) hS (cX11_need_ok (l := l) (E := E) hl0 h1) mv_X11_186 hrc rfl ⟨Nat.le_trans (by decide) hRa, Nat.le_trans (by decide) hRb⟩ ⟨Nat.zero_le _, Nat.zero_le _⟩ rfl rfl (Nat.le_of_ble_eq_true rfl) dX11_fellow_21) (fun H locs hS => ?_)
      refine lv_iload_n hx hb dX11_fellow_24 rfl (lv_at hl 1 rfl) ?_
      refine lv_bipush (v := 7) hx hb dX11_fellow_25 (by decide) ?_
      refine lv_imul hx hb dX11_fellow_27 ?_
      refine lv_topi (fun x3_4 e1 => ?_)
      have hf := lt1_n e1 hf
      refine lv_istore_n (lv' := [(3, .int x3_4), (0, .ref x0), (1, .int x1), (2, .int x2)]) hx hb dX11_fellow_28 rfl hl (by decide) rfl (fun ls hl => ?_)
      refine lv_iload_n hx hb dX11_fellow_29 rfl (lv_at hl 3 rfl) ?_
      by_cases q7 : x2 = 0
      · have hf := ifp hf q7
        refine lv_tableIn (off := 42) (tgt := 72) hx hb dX11_fellow_30 (by rw [q7]; decide) (by rw [q7]; decide) (by rw [q7]; decide) (by decide) ?_
        refine lv_aload_n hx hb dX11_fellow_72 rfl (lv_at hl 1 rfl) ?_
        obtain ⟨a5, h1, hf⟩ := bs hf
        refine am_gr X hS fl_X11_67 rfl h1 dX11_fellow_73 ?_
        refine lv_iload_n hx hb dX11_fellow_76 rfl (lv_at hl 2 rfl) ?_
        obtain ⟨u0, h0, hf⟩ := bs hf
        obtain ⟨_, hrc⟩ := isO_n h0
        obtain ⟨v6, h1, hf⟩ := bs hf
        refine am_endi hS (am_runV (As := [.int x1]) X (hml.trans hl.1.symm) hS (cX2_allWithin_ok (l := l) (E := E) h1) mv_X11_224 hrc rfl ⟨Nat.le_trans (by decide) hRa, Nat.le_trans (by decide) hRb⟩ ⟨Nat.zero_le _, Nat.zero_le _⟩ rfl rfl (Nat.le_of_ble_eq_true rfl) dX11_fellow_77) (fun H locs hS => ?_)
        cases hf
        exact hret _ rfl _ _ _ _ rfl dX11_fellow_80 hS
      · have hf := ifn hf q7
        by_cases q11 : x2 = 1
        · have hf := ifp hf q11
          refine lv_tableIn (off := 51) (tgt := 81) hx hb dX11_fellow_30 (by rw [q11]; decide) (by rw [q11]; decide) (by rw [q11]; decide) (by decide) ?_
          refine lv_aload_n hx hb dX11_fellow_81 rfl (lv_at hl 1 rfl) ?_
          obtain ⟨a8, h1, hf⟩ := bs hf
          refine am_gr X hS fl_X11_67 rfl h1 dX11_fellow_82 ?_
          obtain ⟨a9, h1, hf⟩ := bs hf
          refine am_gr X hS fl_X11_212 rfl h1 dX11_fellow_85 ?_
          refine lv_iload_n hx hb dX11_fellow_88 rfl (lv_at hl 0 rfl) ?_
          refine lv_iload_n hx hb dX11_fellow_89 rfl (lv_at hl 0 rfl) ?_
          refine lv_bipush (v := 7) hx hb dX11_fellow_90 (by decide) ?_
          refine lv_iadd hx hb dX11_fellow_92 ?_
          obtain ⟨v10, h1, hf⟩ := bs hf
          refine am_endi hS (am_runS (As := [.ref a9, .int x3_4, .int (x3_4 + 7)]) X (hml.trans hl.1.symm) hS (cX11_sum_ok (l := l) (E := E) h1) ms_X11_208 ⟨Nat.le_trans (by decide) hRa, Nat.le_trans (by decide) hRb⟩ ⟨Nat.zero_le _, Nat.zero_le _⟩ rfl rfl (Nat.le_of_ble_eq_true rfl) dX11_fellow_93) (fun H locs hS => ?_)
          cases hf
          exact hret _ rfl _ _ _ _ rfl dX11_fellow_96 hS
        · have hf := ifn hf q11
          by_cases q15 : x2 = 2
          · have hf := ifp hf q15
            refine lv_tableIn (off := 67) (tgt := 97) hx hb dX11_fellow_30 (by rw [q15]; decide) (by rw [q15]; decide) (by rw [q15]; decide) (by decide) ?_
            refine lv_aload_n hx hb dX11_fellow_97 rfl (lv_at hl 1 rfl) ?_
            obtain ⟨a12, h1, hf⟩ := bs hf
            refine am_gr X hS fl_X11_67 rfl h1 dX11_fellow_98 ?_
            obtain ⟨a13, h1, hf⟩ := bs hf
            refine am_gr X hS fl_X11_215 rfl h1 dX11_fellow_101 ?_
            refine lv_iload_n hx hb dX11_fellow_104 rfl (lv_at hl 0 rfl) ?_
            refine lv_iload_n hx hb dX11_fellow_105 rfl (lv_at hl 0 rfl) ?_
            refine lv_bipush (v := 7) hx hb dX11_fellow_106 (by decide) ?_
            refine lv_iadd hx hb dX11_fellow_108 ?_
            obtain ⟨v14, h1, hf⟩ := bs hf
            refine am_endi hS (am_runS (As := [.ref a13, .int x3_4, .int (x3_4 + 7)]) X (hml.trans hl.1.symm) hS (cX11_sum_ok (l := l) (E := E) h1) ms_X11_208 ⟨Nat.le_trans (by decide) hRa, Nat.le_trans (by decide) hRb⟩ ⟨Nat.zero_le _, Nat.zero_le _⟩ rfl rfl (Nat.le_of_ble_eq_true rfl) dX11_fellow_109) (fun H locs hS => ?_)
            cases hf
            exact hret _ rfl _ _ _ _ rfl dX11_fellow_112 hS
          · have hf := ifn hf q15
            by_cases q18 : x2 = 3
            · have hf := ifp hf q18
              refine lv_tableIn (off := 83) (tgt := 113) hx hb dX11_fellow_30 (by rw [q18]; decide) (by rw [q18]; decide) (by rw [q18]; decide) (by decide) ?_
              refine lv_aload_n hx hb dX11_fellow_113 rfl (lv_at hl 1 rfl) ?_
              obtain ⟨a16, h1, hf⟩ := bs hf
              refine am_gr X hS fl_X11_67 rfl h1 dX11_fellow_114 ?_
              refine lv_iload_n hx hb dX11_fellow_117 rfl (lv_at hl 2 rfl) ?_
              obtain ⟨u0, h0, hf⟩ := bs hf
              obtain ⟨_, hrc⟩ := isO_n h0
              obtain ⟨v17, h1, hf⟩ := bs hf
              refine am_endi hS (am_runV (As := [.int x1]) X (hml.trans hl.1.symm) hS (cX2_darkBits_ok (l := l) (E := E) h1) mv_X11_227 hrc rfl ⟨Nat.le_trans (by decide) hRa, Nat.le_trans (by decide) hRb⟩ ⟨Nat.zero_le _, Nat.zero_le _⟩ rfl rfl (Nat.le_of_ble_eq_true rfl) dX11_fellow_118) (fun H locs hS => ?_)
              cases hf
              exact hret _ rfl _ _ _ _ rfl dX11_fellow_121 hS
            · have hf := ifn hf q18
              by_cases q22 : x2 = 4
              · have hf := ifp hf q22
                refine lv_tableIn (off := 92) (tgt := 122) hx hb dX11_fellow_30 (by rw [q22]; decide) (by rw [q22]; decide) (by rw [q22]; decide) (by decide) ?_
                refine lv_aload_n hx hb dX11_fellow_122 rfl (lv_at hl 1 rfl) ?_
                obtain ⟨a19, h1, hf⟩ := bs hf
                refine am_gr X hS fl_X11_67 rfl h1 dX11_fellow_123 ?_
                refine lv_iconst (v := 1) hx hb dX11_fellow_126 (by decide) ?_
                refine lv_iload_n hx hb dX11_fellow_127 rfl (lv_at hl 2 rfl) ?_
                refine lv_ishl hx hb dX11_fellow_128 ?_
                obtain ⟨u0, h0, hf⟩ := bs hf
                obtain ⟨_, hrc⟩ := isO_n h0
                obtain ⟨v20, h1, hf⟩ := bs hf
                refine am_endi hS (am_runV (As := [.int (1 <<< (x1 &&& 31))]) X (hml.trans hl.1.symm) hS (cX2_isWhite_ok (l := l) (E := E) h1) mv_X11_230 hrc rfl ⟨Nat.le_trans (by decide) hRa, Nat.le_trans (by decide) hRb⟩ ⟨Nat.zero_le _, Nat.zero_le _⟩ rfl rfl (Nat.le_of_ble_eq_true rfl) dX11_fellow_129) (fun H locs hS => ?_)
                refine lv_if_eq (tgt := 139) hx hb dX11_fellow_132 (by decide) (fun q21 => ?_) (fun q21 => ?_)
                · have hf := ifp hf q21
                  refine lv_iconst (v := 0) hx hb dX11_fellow_139 (by decide) ?_
                  exact hj140 0 m2 H locs ls hf hS (lv_sub hl [] rfl)
                · have hf := ifn hf q21
                  refine lv_iconst (v := 1) hx hb dX11_fellow_135 (by decide) ?_
                  refine lv_goto (tgt := 140) hx hb dX11_fellow_136 (by decide) ?_
                  exact hj140 1 m2 H locs ls hf hS (lv_sub hl [] rfl)
              · have hf := ifn hf q22
                by_cases q26 : x2 = 5
                · have hf := ifp hf q26
                  refine lv_tableIn (off := 111) (tgt := 141) hx hb dX11_fellow_30 (by rw [q26]; decide) (by rw [q26]; decide) (by rw [q26]; decide) (by decide) ?_
                  refine lv_aload_n hx hb dX11_fellow_141 rfl (lv_at hl 1 rfl) ?_
                  obtain ⟨a23, h1, hf⟩ := bs hf
                  refine am_gr X hS fl_X11_67 rfl h1 dX11_fellow_142 ?_
                  obtain ⟨a24, h1, hf⟩ := bs hf
                  refine am_gr X hS fl_X11_218 rfl h1 dX11_fellow_145 ?_
                  refine lv_iload_n hx hb dX11_fellow_148 rfl (lv_at hl 2 rfl) ?_
                  obtain ⟨v25, h1, hf⟩ := bs hf
                  refine am_ald X hS h1 dX11_fellow_149 ?_
                  cases hf
                  exact hret _ rfl _ _ _ _ rfl dX11_fellow_150 hS
                · have hf := ifn hf q26
                  by_cases q29 : x2 = 6
                  · have hf := ifp hf q29
                    refine lv_tableIn (off := 121) (tgt := 151) hx hb dX11_fellow_30 (by rw [q29]; decide) (by rw [q29]; decide) (by rw [q29]; decide) (by decide) ?_
                    refine lv_aload_n hx hb dX11_fellow_151 rfl (lv_at hl 1 rfl) ?_
                    obtain ⟨a27, h1, hf⟩ := bs hf
                    refine am_gr X hS fl_X11_67 rfl h1 dX11_fellow_152 ?_
                    refine lv_iload_n hx hb dX11_fellow_155 rfl (lv_at hl 2 rfl) ?_
                    obtain ⟨u0, h0, hf⟩ := bs hf
                    obtain ⟨_, hrc⟩ := isO_n h0
                    obtain ⟨v28, h1, hf⟩ := bs hf
                    refine am_endi hS (am_runV (As := [.int x1]) X (hml.trans hl.1.symm) hS (cX2_leastPlace_ok (l := l) (E := E) h1) mv_X11_234 hrc rfl ⟨Nat.le_trans (by decide) hRa, Nat.le_trans (by decide) hRb⟩ ⟨Nat.zero_le _, Nat.zero_le _⟩ rfl rfl (Nat.le_of_ble_eq_true rfl) dX11_fellow_156) (fun H locs hS => ?_)
                    cases hf
                    exact hret _ rfl _ _ _ _ rfl dX11_fellow_159 hS
                  · have hf := ifn hf q29
                    refine lv_tableOut (tgt := 160) hx hb dX11_fellow_30 (ts_out (x := x2) (lo := 0) (n := 7) (by decide) (by decide) (fun j hj => match j, hj with | 0, _ => fun h => q7 (h.trans (by decide))  | 1, _ => fun h => q11 (h.trans (by decide))  | 2, _ => fun h => q15 (h.trans (by decide))  | 3, _ => fun h => q18 (h.trans (by decide))  | 4, _ => fun h => q22 (h.trans (by decide))  | 5, _ => fun h => q26 (h.trans (by decide))  | 6, _ => fun h => q29 (h.trans (by decide)) | j + 7, hj => absurd hj (by omega))) (by decide) ?_
                    refine lv_aload_n hx hb dX11_fellow_160 rfl (lv_at hl 1 rfl) ?_
                    obtain ⟨a30, h1, hf⟩ := bs hf
                    refine am_gr X hS fl_X11_67 rfl h1 dX11_fellow_161 ?_
                    refine lv_iload_n hx hb dX11_fellow_164 rfl (lv_at hl 2 rfl) ?_
                    obtain ⟨u0, h0, hf⟩ := bs hf
                    obtain ⟨_, hrc⟩ := isO_n h0
                    obtain ⟨v31, h1, hf⟩ := bs hf
                    refine am_endi hS (am_runV (As := [.int x1]) X (hml.trans hl.1.symm) hS (cX2_greatestPlace_ok (l := l) (E := E) h1) mv_X11_237 hrc rfl ⟨Nat.le_trans (by decide) hRa, Nat.le_trans (by decide) hRb⟩ ⟨Nat.zero_le _, Nat.zero_le _⟩ rfl rfl (Nat.le_of_ble_eq_true rfl) dX11_fellow_165) (fun H locs hS => ?_)
                    cases hf
                    exact hret _ rfl _ _ _ _ rfl dX11_fellow_168 hS
    · have hf := sme_r hf
      cases hf
      exact am_thrV (As := [.int s1]) X (hml.trans hl.1.symm) hS (cX11_need_thr (l := l) (E := E) hl0 h1) mv_X11_186 hrc rfl ⟨Nat.le_trans (by decide) hRa, Nat.le_trans (by decide) hRb⟩ (hRc _ rfl) rfl rfl (Nat.le_of_ble_eq_true rfl) dX11_fellow_21 (fun H locs ce q9 hS a1 a2 a3 => hthr _ rfl _ H locs ls _ ce q9 hS a1 a2 a3)
  have hj20 : ∀ (x0 : Nat) (x1 : Int32) (x2 : Int32) (s0 : Nat) (mm : Mem) (H : Heap) (locs : List Loc) (ls : Array Slot), fX11_fellow_j20 (eS E) x0 x1 x2 s0 mm = some (res, mm1) → wS E s mm H locs → lv_has ls 4 [(0, .ref x0), (1, .int x1), (2, .int x2)] → W p l e R s m args below meth c H locs 0 0 Q (F0 m 20 ls [.ref s0]) := by
    intro x0 x1 x2 s0 mm H locs ls hf hS hl
    unfold fX11_fellow_j20 at hf
    refine lv_iconst (v := 0) hx hb dX11_fellow_20 (by decide) ?_
    exact hj21 x0 x1 x2 s0 0 mm H locs ls hf hS hl
  intro H locs ls hS hl
  refine lv_aload_n hx hb dX11_fellow_0 rfl (lv_at hl 0 rfl) ?_
  refine lv_iload_n hx hb dX11_fellow_1 rfl (lv_at hl 1 rfl) ?_
  obtain ⟨u0, h0, hf⟩ := bs hf
  obtain ⟨_, hrc⟩ := isO_n h0
  obtain ⟨u32, m33, h1, hf⟩ := bs2 hf
  rcases u32 with v34 | k1
  · have hf := sme_l hf
    refine am_endv hS (am_runV (As := [.int x1]) X (hml.trans hl.1.symm) hS (cX11_needFellow_ok (l := l) (E := E) hl0 h1) mv_X11_221 hrc rfl ⟨Nat.le_trans (by decide) hRa, Nat.le_trans (by decide) hRb⟩ ⟨Nat.zero_le _, Nat.zero_le _⟩ rfl rfl (Nat.le_of_ble_eq_true rfl) dX11_fellow_2) (fun H locs hS => ?_)
    refine lv_aload_n hx hb dX11_fellow_5 rfl (lv_at hl 0 rfl) ?_
    refine lv_iload_n hx hb dX11_fellow_6 rfl (lv_at hl 2 rfl) ?_
    refine lv_if_lt (tgt := 20) hx hb dX11_fellow_7 (by decide) (fun q35 => ?_) (fun q35 => ?_)
    · have hf := ifp hf q35
      exact hj20 x0 x1 x2 x0 m33 H locs ls hf hS hl
    · have hf := ifn hf q35
      refine lv_iload_n hx hb dX11_fellow_10 rfl (lv_at hl 2 rfl) ?_
      refine lv_bipush (v := 7) hx hb dX11_fellow_11 (by decide) ?_
      refine lv_icmp_gt (tgt := 20) hx hb dX11_fellow_13 (by decide) (fun q36 => ?_) (fun q36 => ?_)
      · have hf := ifp hf q36
        exact hj20 x0 x1 x2 x0 m33 H locs ls hf hS hl
      · have hf := ifn hf q36
        refine lv_iconst (v := 1) hx hb dX11_fellow_16 (by decide) ?_
        refine lv_goto (tgt := 21) hx hb dX11_fellow_17 (by decide) ?_
        exact hj21 x0 x1 x2 x0 1 m33 H locs ls hf hS hl
  · have hf := sme_r hf
    cases hf
    exact am_thrV (As := [.int x1]) X (hml.trans hl.1.symm) hS (cX11_needFellow_thr (l := l) (E := E) hl0 h1) mv_X11_221 hrc rfl ⟨Nat.le_trans (by decide) hRa, Nat.le_trans (by decide) hRb⟩ (hRc _ rfl) rfl rfl (Nat.le_of_ble_eq_true rfl) dX11_fellow_2 (fun H locs ce q9 hS a1 a2 a3 => hthr _ rfl _ H locs ls _ ce q9 hS a1 a2 a3)
set_option maxRecDepth 100000 in
theorem cX11_fellow_ok {l : Launch} {E : Ev} (hl0 : l.stackTraces = false) {x0 : Nat} {x1 : Int32} {x2 : Int32} {mm : Mem} {r : Int32} {mm1 : Mem} (hf : fX11_fellow (eS E) x0 x1 x2 mm = some (.inl r, mm1)) : CtI l yX11_fellow cX11_fellow 4 (some .int) 8 141 E [.ref x0, .int x1, .int x2] mm r mm1 := by
  refine Met.ofW (cc := cX11_fellow) (maxL := 4) (ret := (some .int)) (by decide) rfl ?_
  intro p e s m args below meth c s₁ B hml hv
  obtain ⟨rfl, X, hS, hr, hlocks⟩ := am_in B hv
  refine am_entry (Nat.le_of_ble_eq_true rfl) (fun ls hl => ?_)
  exact wX11_fellow hl0 X hml ⟨Nat.le_refl _, Nat.le_refl _⟩ hf (fun r e pc H locs ls hn hd hS => by cases e; exact am_ri X hS hr hn hd hlocks) (fun k e => by cases e) (fun k e => by cases e) _ _ ls hS hl
set_option maxRecDepth 100000 in
theorem cX11_fellow_thr {l : Launch} {E : Ev} (hl0 : l.stackTraces = false) {x0 : Nat} {x1 : Int32} {x2 : Int32} {mm : Mem} {k : Nat} {mm1 : Mem} (hf : fX11_fellow (eS E) x0 x1 x2 mm = some (.inr k, mm1)) : CtX l yX11_fellow cX11_fellow 4 (some .int) 8 141 E [.ref x0, .int x1, .int x2] mm k mm1 := by
  refine vx_ofW (cc := cX11_fellow) (maxL := 4) (ret := (some .int)) (by decide) rfl ?_
  intro p e s m args below meth c s₁ B hml hxt hv
  obtain ⟨rfl, X, hS, hr, hlocks⟩ := am_in B hv
  refine am_entry (Nat.le_of_ble_eq_true rfl) (fun ls hl => ?_)
  exact wX11_fellow hl0 X hml ⟨Nat.le_refl _, Nat.le_refl _⟩ hf (fun r e => by cases e) (fun k e => ⟨Nat.le_refl _, Nat.le_refl _⟩) (fun k1 e pc H locs ls rest ce q9 hS a1 a2 a3 => by cases e; exact am_out X hS hxt hlocks a1 a2 a3) _ _ ls hS hl
set_option maxHeartbeats 4000000 in
set_option maxRecDepth 100000 in
theorem wX11_isPart {p : Program} {l : Launch} {e : Env} {R : Room} {s : State} {m : MethodId} {args : Array Value} {below : List Frame} {meth : Method} {c : Code} {Q : State → Prop} {E : Ev} (X : Cx p s m args c cX11_isPart RX11 E) (hml : c.maxLocals = 1) (hR : 0 ≤ R.frames ∧ 0 ≤ R.locals) {x0 : Int32} {mm : Mem} {r : Int32} (hf : fX11_isPart x0 = some r) (hret : ∀ (pc : Nat) (H : Heap) (locs : List Loc) (ls : Array Slot), narrow .boolean (.int r) = .int r → decode cX11_isPart pc = .ok (.ireturn, 1) → wS E s mm H locs → W p l e R s m args below meth c H locs 0 0 Q (F0 m pc ls [.int r])) : ∀ (H : Heap) (locs : List Loc) (ls : Array Slot), wS E s mm H locs → lv_has ls 1 [(0, .int x0)] → W p l e R s m args below meth c H locs 0 0 Q (F0 m 0 ls []) := by
  have hx := X.1
  have hb := X.2.1
  have hR1 := hR.1
  have hR2 := hR.2
  have hRa : 0 ≤ R.frames := by omega
  have hRb : 0 ≤ R.locals := by omega
  unfold fX11_isPart at hf
  have hj15 : ∀ (s0 : Int32) (H : Heap) (locs : List Loc) (ls : Array Slot), fX11_isPart_j15 s0 = some r → wS E s mm H locs → lv_has ls 1 [] → W p l e R s m args below meth c H locs 0 0 Q (F0 m 15 ls [.int s0]) := by
    intro s0 H locs ls hf hS hl
    unfold fX11_isPart_j15 at hf
    obtain ⟨v1, h1, hf⟩ := bs hf
    obtain ⟨rfl, h2⟩ := ckZ_n h1
    cases hf
    exact hret _ _ _ _ h2 dX11_isPart_15 hS
  have hj14 : ∀ (H : Heap) (locs : List Loc) (ls : Array Slot), fX11_isPart_j14 = some r → wS E s mm H locs → lv_has ls 1 [] → W p l e R s m args below meth c H locs 0 0 Q (F0 m 14 ls []) := by
    intro H locs ls hf hS hl
    unfold fX11_isPart_j14 at hf
    refine lv_iconst (v := 0) hx hb dX11_isPart_14 (by decide) ?_
    exact hj15 0 H locs ls hf hS hl
  intro H locs ls hS hl
  refine lv_iload_n hx hb dX11_isPart_0 rfl (lv_at hl 0 rfl) ?_
  refine lv_if_lt (tgt := 14) hx hb dX11_isPart_1 (by decide) (fun q2 => ?_) (fun q2 => ?_)
  · have hf := ifp hf q2
    exact hj14  H locs ls hf hS (lv_sub hl [] rfl)
  · have hf := ifn hf q2
    refine lv_iload_n hx hb dX11_isPart_4 rfl (lv_at hl 0 rfl) ?_
    refine lv_bipush (v := 7) hx hb dX11_isPart_5 (by decide) ?_
    refine lv_icmp_ge (tgt := 14) hx hb dX11_isPart_7 (by decide) (fun q3 => ?_) (fun q3 => ?_)
    · have hf := ifp hf q3
      exact hj14  H locs ls hf hS (lv_sub hl [] rfl)
    · have hf := ifn hf q3
      refine lv_iconst (v := 1) hx hb dX11_isPart_10 (by decide) ?_
      refine lv_goto (tgt := 15) hx hb dX11_isPart_11 (by decide) ?_
      exact hj15 1 H locs ls hf hS (lv_sub hl [] rfl)
set_option maxRecDepth 100000 in
theorem cX11_isPart_ok {l : Launch} {E : Ev} {x0 : Int32} {mm : Mem} {r : Int32} (hf : fX11_isPart x0 = some r) : CtI l yX11_isPart cX11_isPart 1 (some .boolean) (0) (0) E [.int x0] mm r mm := by
  refine Met.ofW (cc := cX11_isPart) (maxL := 1) (ret := (some .boolean)) (by decide) rfl ?_
  intro p e s m args below meth c s₁ B hml hv
  obtain ⟨rfl, X, hS, hr, hlocks⟩ := am_in B hv
  refine am_entry (Nat.le_of_ble_eq_true rfl) (fun ls hl => ?_)
  exact wX11_isPart X hml ⟨Nat.le_refl _, Nat.le_refl _⟩ hf (fun pc H locs ls hn hd hS => am_ri X hS hr hn hd hlocks) _ _ ls hS hl
set_option maxHeartbeats 4000000 in
set_option maxRecDepth 100000 in
theorem wX11_part {p : Program} {l : Launch} {e : Env} {R : Room} {s : State} {m : MethodId} {args : Array Value} {below : List Frame} {meth : Method} {c : Code} {Q : State → Prop} {E : Ev} (hl0 : l.stackTraces = false) (X : Cx p s m args c cX11_part RX11 E) (hml : c.maxLocals = 5) (hR : 8 ≤ R.frames ∧ 141 ≤ R.locals) {x0 : Nat} {x1 : Int32} {x2 : Int32} {x3 : Int32} {mm : Mem} {res : Int32 ⊕ Nat} {mm1 : Mem} (hf : fX11_part (eS E) x0 x1 x2 x3 mm = some (res, mm1)) (hret : ∀ r, res = .inl r → ∀ (pc : Nat) (H : Heap) (locs : List Loc) (ls : Array Slot), narrow .int (.int r) = .int r → decode cX11_part pc = .ok (.ireturn, 1) → wS E s mm1 H locs → W p l e R s m args below meth c H locs 0 0 Q (F0 m pc ls [.int r])) (hRc : ∀ k, res = .inr k → 1 ≤ R.cells ∧ 6 ≤ R.slots) (hthr : ∀ k, res = .inr k → ∀ (pc : Nat) (H : Heap) (locs : List Loc) (ls : Array Slot) (rest : List Value) (ce : Cell) (q9 : Addr), wS E s mm1 H locs → H[q9]? = some ce → ce.vm = .none → s.vm.findClass (exN k) = some ce.cls → vx_W p l e R s m args below meth c H locs 1 6 Q (F0 m pc ls rest) q9) : ∀ (H : Heap) (locs : List Loc) (ls : Array Slot), wS E s mm H locs → lv_has ls 5 [(0, .ref x0), (1, .int x1), (2, .int x2), (3, .int x3)] → W p l e R s m args below meth c H locs 0 0 Q (F0 m 0 ls []) := by
  have hx := X.1
  have hb := X.2.1
  have hRa := hR.1
  have hRb := hR.2
  unfold fX11_part at hf
  have hj113 : ∀ (s0 : Int32) (mm : Mem) (H : Heap) (locs : List Loc) (ls : Array Slot), fX11_part_j113 (eS E) s0 mm = some (res, mm1) → wS E s mm H locs → lv_has ls 5 [] → W p l e R s m args below meth c H locs 0 0 Q (F0 m 113 ls [.int s0]) := by
    intro s0 mm H locs ls hf hS hl
    unfold fX11_part_j113 at hf
    cases hf
    exact hret _ rfl _ _ _ _ rfl dX11_part_113 hS
  have hj27 : ∀ (x0 : Nat) (x1 : Int32) (x2 : Int32) (x3 : Int32) (s0 : Nat) (s1 : Int32) (mm : Mem) (H : Heap) (locs : List Loc) (ls : Array Slot), fX11_part_j27 (eS E) x0 x1 x2 x3 s0 s1 mm = some (res, mm1) → wS E s mm H locs → lv_has ls 5 [(0, .ref x0), (1, .int x1), (2, .int x2), (3, .int x3)] → W p l e R s m args below meth c H locs 0 0 Q (F0 m 27 ls [.int s1, .ref s0]) := by
    intro x0 x1 x2 x3 s0 s1 mm H locs ls hf hS hl
    unfold fX11_part_j27 at hf
    obtain ⟨u0, h0, hf⟩ := bs hf
    obtain ⟨_, hrc⟩ := isO_n h0
    obtain ⟨u1, m2, h1, hf⟩ := bs2 hf
    rcases u1 with v3 | k1
    · have hf := sme_l hf
      refine am_endv hS (am_runV (As := [.int s1]) X (hml.trans hl.1.symm) hS (cX11_need_ok (l := l) (E := E) hl0 h1) mv_X11_186 hrc rfl ⟨Nat.le_trans (by decide) hRa, Nat.le_trans (by decide) hRb⟩ ⟨Nat.zero_le _, Nat.zero_le _⟩ rfl rfl (Nat.le_of_ble_eq_true rfl) dX11_part_27) (fun H locs hS => ?_)
      refine lv_iload_n hx hb dX11_part_30 rfl (lv_at hl 1 rfl) ?_
      refine lv_bipush (v := 7) hx hb dX11_part_31 (by decide) ?_
      refine lv_imul hx hb dX11_part_33 ?_
      refine lv_iload_n hx hb dX11_part_34 rfl (lv_at hl 2 rfl) ?_
      refine lv_iadd hx hb dX11_part_35 ?_
      refine lv_topi (fun x4_4 e1 => ?_)
      have hf := lt1_n e1 hf
      refine lv_istore (lv' := [(4, .int x4_4), (0, .ref x0), (1, .int x1), (2, .int x2), (3, .int x3)]) hx hb dX11_part_36 hl (by decide) rfl (fun ls hl => ?_)
      refine lv_iload_n hx hb dX11_part_38 rfl (lv_at hl 4 rfl) ?_
      by_cases q8 : x3 = 0
      · have hf := ifp hf q8
        refine lv_tableIn (off := 25) (tgt := 64) hx hb dX11_part_39 (by rw [q8]; decide) (by rw [q8]; decide) (by rw [q8]; decide) (by decide) ?_
        refine lv_aload_n hx hb dX11_part_64 rfl (lv_at hl 1 rfl) ?_
        obtain ⟨a5, h1, hf⟩ := bs hf
        refine am_gr X hS fl_X11_67 rfl h1 dX11_part_65 ?_
        obtain ⟨a6, h1, hf⟩ := bs hf
        refine am_gr X hS fl_X11_204 rfl h1 dX11_part_68 ?_
        refine lv_iload hx hb dX11_part_71 (lv_at hl 0 rfl) ?_
        obtain ⟨v7, h1, hf⟩ := bs hf
        refine am_ald X hS h1 dX11_part_73 ?_
        cases hf
        exact hret _ rfl _ _ _ _ rfl dX11_part_74 hS
      · have hf := ifn hf q8
        by_cases q12 : x3 = 1
        · have hf := ifp hf q12
          refine lv_tableIn (off := 36) (tgt := 75) hx hb dX11_part_39 (by rw [q12]; decide) (by rw [q12]; decide) (by rw [q12]; decide) (by decide) ?_
          refine lv_aload_n hx hb dX11_part_75 rfl (lv_at hl 1 rfl) ?_
          obtain ⟨a9, h1, hf⟩ := bs hf
          refine am_gr X hS fl_X11_67 rfl h1 dX11_part_76 ?_
          obtain ⟨a10, h1, hf⟩ := bs hf
          refine am_gr X hS fl_X11_212 rfl h1 dX11_part_79 ?_
          refine lv_iload hx hb dX11_part_82 (lv_at hl 0 rfl) ?_
          obtain ⟨v11, h1, hf⟩ := bs hf
          refine am_ald X hS h1 dX11_part_84 ?_
          cases hf
          exact hret _ rfl _ _ _ _ rfl dX11_part_85 hS
        · have hf := ifn hf q12
          by_cases q20 : x3 = 2
          · have hf := ifp hf q20
            refine lv_tableIn (off := 47) (tgt := 86) hx hb dX11_part_39 (by rw [q20]; decide) (by rw [q20]; decide) (by rw [q20]; decide) (by decide) ?_
            refine lv_aload_n hx hb dX11_part_86 rfl (lv_at hl 1 rfl) ?_
            obtain ⟨a13, h1, hf⟩ := bs hf
            refine am_gr X hS fl_X11_67 rfl h1 dX11_part_87 ?_
            obtain ⟨a14, h1, hf⟩ := bs hf
            refine am_gr X hS fl_X11_212 rfl h1 dX11_part_90 ?_
            refine lv_iload hx hb dX11_part_93 (lv_at hl 0 rfl) ?_
            obtain ⟨v15, h1, hf⟩ := bs hf
            refine am_ald X hS h1 dX11_part_95 ?_
            refine lv_if_le (tgt := 112) hx hb dX11_part_96 (by decide) (fun q16 => ?_) (fun q16 => ?_)
            · have hf := ifp hf q16
              refine lv_iconst (v := (-1)) hx hb dX11_part_112 (by decide) ?_
              exact hj113 (-1) m2 H locs ls hf hS (lv_sub hl [] rfl)
            · have hf := ifn hf q16
              refine lv_aload_n hx hb dX11_part_99 rfl (lv_at hl 1 rfl) ?_
              obtain ⟨a17, h1, hf⟩ := bs hf
              refine am_gr X hS fl_X11_67 rfl h1 dX11_part_100 ?_
              obtain ⟨a18, h1, hf⟩ := bs hf
              refine am_gr X hS fl_X11_243 rfl h1 dX11_part_103 ?_
              refine lv_iload hx hb dX11_part_106 (lv_at hl 0 rfl) ?_
              obtain ⟨v19, h1, hf⟩ := bs hf
              refine am_ald X hS h1 dX11_part_108 ?_
              refine lv_goto (tgt := 113) hx hb dX11_part_109 (by decide) ?_
              exact hj113 v19 m2 H locs ls hf hS (lv_sub hl [] rfl)
          · have hf := ifn hf q20
            refine lv_tableOut (tgt := 114) hx hb dX11_part_39 (ts_out (x := x3) (lo := 0) (n := 3) (by decide) (by decide) (fun j hj => match j, hj with | 0, _ => fun h => q8 (h.trans (by decide))  | 1, _ => fun h => q12 (h.trans (by decide))  | 2, _ => fun h => q20 (h.trans (by decide)) | j + 3, hj => absurd hj (by omega))) (by decide) ?_
            refine lv_aload_n hx hb dX11_part_114 rfl (lv_at hl 1 rfl) ?_
            obtain ⟨a21, h1, hf⟩ := bs hf
            refine am_gr X hS fl_X11_67 rfl h1 dX11_part_115 ?_
            obtain ⟨a22, h1, hf⟩ := bs hf
            refine am_gr X hS fl_X11_215 rfl h1 dX11_part_118 ?_
            refine lv_iload hx hb dX11_part_121 (lv_at hl 0 rfl) ?_
            obtain ⟨v23, h1, hf⟩ := bs hf
            refine am_ald X hS h1 dX11_part_123 ?_
            cases hf
            exact hret _ rfl _ _ _ _ rfl dX11_part_124 hS
    · have hf := sme_r hf
      cases hf
      exact am_thrV (As := [.int s1]) X (hml.trans hl.1.symm) hS (cX11_need_thr (l := l) (E := E) hl0 h1) mv_X11_186 hrc rfl ⟨Nat.le_trans (by decide) hRa, Nat.le_trans (by decide) hRb⟩ (hRc _ rfl) rfl rfl (Nat.le_of_ble_eq_true rfl) dX11_part_27 (fun H locs ce q9 hS a1 a2 a3 => hthr _ rfl _ H locs ls _ ce q9 hS a1 a2 a3)
  have hj26 : ∀ (x0 : Nat) (x1 : Int32) (x2 : Int32) (x3 : Int32) (s0 : Nat) (mm : Mem) (H : Heap) (locs : List Loc) (ls : Array Slot), fX11_part_j26 (eS E) x0 x1 x2 x3 s0 mm = some (res, mm1) → wS E s mm H locs → lv_has ls 5 [(0, .ref x0), (1, .int x1), (2, .int x2), (3, .int x3)] → W p l e R s m args below meth c H locs 0 0 Q (F0 m 26 ls [.ref s0]) := by
    intro x0 x1 x2 x3 s0 mm H locs ls hf hS hl
    unfold fX11_part_j26 at hf
    refine lv_iconst (v := 0) hx hb dX11_part_26 (by decide) ?_
    exact hj27 x0 x1 x2 x3 s0 0 mm H locs ls hf hS hl
  intro H locs ls hS hl
  refine lv_aload_n hx hb dX11_part_0 rfl (lv_at hl 0 rfl) ?_
  refine lv_iload_n hx hb dX11_part_1 rfl (lv_at hl 1 rfl) ?_
  obtain ⟨u0, h0, hf⟩ := bs hf
  obtain ⟨_, hrc⟩ := isO_n h0
  obtain ⟨u24, m25, h1, hf⟩ := bs2 hf
  rcases u24 with v26 | k1
  · have hf := sme_l hf
    refine am_endv hS (am_runV (As := [.int x1]) X (hml.trans hl.1.symm) hS (cX11_needFellow_ok (l := l) (E := E) hl0 h1) mv_X11_221 hrc rfl ⟨Nat.le_trans (by decide) hRa, Nat.le_trans (by decide) hRb⟩ ⟨Nat.zero_le _, Nat.zero_le _⟩ rfl rfl (Nat.le_of_ble_eq_true rfl) dX11_part_2) (fun H locs hS => ?_)
    refine lv_aload_n hx hb dX11_part_5 rfl (lv_at hl 0 rfl) ?_
    refine lv_iload_n hx hb dX11_part_6 rfl (lv_at hl 2 rfl) ?_
    obtain ⟨v27, h1, hf⟩ := bs hf
    refine am_endi hS (am_runS (As := [.int x2]) X (hml.trans hl.1.symm) hS (cX11_isPart_ok (l := l) (E := E) h1) ms_X11_240 ⟨Nat.le_trans (by decide) hRa, Nat.le_trans (by decide) hRb⟩ ⟨Nat.zero_le _, Nat.zero_le _⟩ rfl rfl (Nat.le_of_ble_eq_true rfl) dX11_part_7) (fun H locs hS => ?_)
    refine lv_if_eq (tgt := 26) hx hb dX11_part_10 (by decide) (fun q28 => ?_) (fun q28 => ?_)
    · have hf := ifp hf q28
      exact hj26 x0 x1 x2 x3 x0 m25 H locs ls hf hS hl
    · have hf := ifn hf q28
      refine lv_iload_n hx hb dX11_part_13 rfl (lv_at hl 3 rfl) ?_
      refine lv_if_lt (tgt := 26) hx hb dX11_part_14 (by decide) (fun q29 => ?_) (fun q29 => ?_)
      · have hf := ifp hf q29
        exact hj26 x0 x1 x2 x3 x0 m25 H locs ls hf hS hl
      · have hf := ifn hf q29
        refine lv_iload_n hx hb dX11_part_17 rfl (lv_at hl 3 rfl) ?_
        refine lv_iconst (v := 3) hx hb dX11_part_18 (by decide) ?_
        refine lv_icmp_gt (tgt := 26) hx hb dX11_part_19 (by decide) (fun q30 => ?_) (fun q30 => ?_)
        · have hf := ifp hf q30
          exact hj26 x0 x1 x2 x3 x0 m25 H locs ls hf hS hl
        · have hf := ifn hf q30
          refine lv_iconst (v := 1) hx hb dX11_part_22 (by decide) ?_
          refine lv_goto (tgt := 27) hx hb dX11_part_23 (by decide) ?_
          exact hj27 x0 x1 x2 x3 x0 1 m25 H locs ls hf hS hl
  · have hf := sme_r hf
    cases hf
    exact am_thrV (As := [.int x1]) X (hml.trans hl.1.symm) hS (cX11_needFellow_thr (l := l) (E := E) hl0 h1) mv_X11_221 hrc rfl ⟨Nat.le_trans (by decide) hRa, Nat.le_trans (by decide) hRb⟩ (hRc _ rfl) rfl rfl (Nat.le_of_ble_eq_true rfl) dX11_part_2 (fun H locs ce q9 hS a1 a2 a3 => hthr _ rfl _ H locs ls _ ce q9 hS a1 a2 a3)
set_option maxRecDepth 100000 in
theorem cX11_part_ok {l : Launch} {E : Ev} (hl0 : l.stackTraces = false) {x0 : Nat} {x1 : Int32} {x2 : Int32} {x3 : Int32} {mm : Mem} {r : Int32} {mm1 : Mem} (hf : fX11_part (eS E) x0 x1 x2 x3 mm = some (.inl r, mm1)) : CtI l yX11_part cX11_part 5 (some .int) 8 141 E [.ref x0, .int x1, .int x2, .int x3] mm r mm1 := by
  refine Met.ofW (cc := cX11_part) (maxL := 5) (ret := (some .int)) (by decide) rfl ?_
  intro p e s m args below meth c s₁ B hml hv
  obtain ⟨rfl, X, hS, hr, hlocks⟩ := am_in B hv
  refine am_entry (Nat.le_of_ble_eq_true rfl) (fun ls hl => ?_)
  exact wX11_part hl0 X hml ⟨Nat.le_refl _, Nat.le_refl _⟩ hf (fun r e pc H locs ls hn hd hS => by cases e; exact am_ri X hS hr hn hd hlocks) (fun k e => by cases e) (fun k e => by cases e) _ _ ls hS hl
set_option maxRecDepth 100000 in
theorem cX11_part_thr {l : Launch} {E : Ev} (hl0 : l.stackTraces = false) {x0 : Nat} {x1 : Int32} {x2 : Int32} {x3 : Int32} {mm : Mem} {k : Nat} {mm1 : Mem} (hf : fX11_part (eS E) x0 x1 x2 x3 mm = some (.inr k, mm1)) : CtX l yX11_part cX11_part 5 (some .int) 8 141 E [.ref x0, .int x1, .int x2, .int x3] mm k mm1 := by
  refine vx_ofW (cc := cX11_part) (maxL := 5) (ret := (some .int)) (by decide) rfl ?_
  intro p e s m args below meth c s₁ B hml hxt hv
  obtain ⟨rfl, X, hS, hr, hlocks⟩ := am_in B hv
  refine am_entry (Nat.le_of_ble_eq_true rfl) (fun ls hl => ?_)
  exact wX11_part hl0 X hml ⟨Nat.le_refl _, Nat.le_refl _⟩ hf (fun r e => by cases e) (fun k e => ⟨Nat.le_refl _, Nat.le_refl _⟩) (fun k1 e pc H locs ls rest ce q9 hS a1 a2 a3 => by cases e; exact am_out X hS hxt hlocks a1 a2 a3) _ _ ls hS hl
set_option maxHeartbeats 4000000 in
set_option maxRecDepth 100000 in
theorem wX11_needGlass {p : Program} {l : Launch} {e : Env} {R : Room} {s : State} {m : MethodId} {args : Array Value} {below : List Frame} {meth : Method} {c : Code} {Q : State → Prop} {E : Ev} (hl0 : l.stackTraces = false) (X : Cx p s m args c cX11_needGlass RX11 E) (hml : c.maxLocals = 2) (hR : 7 ≤ R.frames ∧ 120 ≤ R.locals) {x0 : Nat} {x1 : Int32} {mm : Mem} {res : Unit ⊕ Nat} {mm1 : Mem} (hf : fX11_needGlass (eS E) x0 x1 mm = some (res, mm1)) (hret : ∀ r, res = .inl r → ∀ (pc : Nat) (H : Heap) (locs : List Loc) (ls : Array Slot), decode cX11_needGlass pc = .ok (.return_, 1) → wS E s mm1 H locs → W p l e R s m args below meth c H locs 0 0 Q (F0 m pc ls [])) (hRc : ∀ k, res = .inr k → 1 ≤ R.cells ∧ 6 ≤ R.slots) (hthr : ∀ k, res = .inr k → ∀ (pc : Nat) (H : Heap) (locs : List Loc) (ls : Array Slot) (rest : List Value) (ce : Cell) (q9 : Addr), wS E s mm1 H locs → H[q9]? = some ce → ce.vm = .none → s.vm.findClass (exN k) = some ce.cls → vx_W p l e R s m args below meth c H locs 1 6 Q (F0 m pc ls rest) q9) : ∀ (H : Heap) (locs : List Loc) (ls : Array Slot), wS E s mm H locs → lv_has ls 2 [(0, .ref x0), (1, .int x1)] → W p l e R s m args below meth c H locs 0 0 Q (F0 m 0 ls []) := by
  have hx := X.1
  have hb := X.2.1
  have hRa := hR.1
  have hRb := hR.2
  unfold fX11_needGlass at hf
  have hj15 : ∀ (x0 : Nat) (mm : Mem) (H : Heap) (locs : List Loc) (ls : Array Slot), fX11_needGlass_j15 (eS E) x0 mm = some (res, mm1) → wS E s mm H locs → lv_has ls 2 [(0, .ref x0)] → W p l e R s m args below meth c H locs 0 0 Q (F0 m 15 ls []) := by
    intro x0 mm H locs ls hf hS hl
    unfold fX11_needGlass_j15 at hf
    refine lv_aload_n hx hb dX11_needGlass_15 rfl (lv_at hl 0 rfl) ?_
    refine lv_dup hx hb dX11_needGlass_16 rfl ?_
    obtain ⟨v1, h1, hf⟩ := bs hf
    refine am_gi X hS fl_X11_385 rfl h1 dX11_needGlass_17 ?_
    refine lv_iconst (v := 1) hx hb dX11_needGlass_20 (by decide) ?_
    refine lv_iadd hx hb dX11_needGlass_21 ?_
    obtain ⟨m2, h1, hf⟩ := bs hf
    refine am_pi X hS fp_X11_385 rfl h1 dX11_needGlass_22 (fun H locs hS => ?_)
    cases hf
    exact am_make (k := 0) (ik := 398) (is := 403) (ic := 402) (i := 5) X hS hl0 (by decide) (hl.1.trans hml.symm) (by decide) rfl rfl wn_0_398_402 wg_0_398_402 dX11_needGlass_25 dX11_needGlass_28 dX11_needGlass_29 dX11_needGlass_32 (Nat.lt_of_lt_of_le (by decide) hRa) (Nat.le_trans (Nat.le_of_ble_eq_true rfl) hRb) (hRc _ rfl).1 (hRc _ rfl).2 (fun q H1 ce hS a1 a2 a3 => vx_athrow hx hb dX11_needGlass_35 (hthr _ rfl _ H1 locs ls _ ce q hS a1 a2 a3))
  intro H locs ls hS hl
  refine lv_iload_n hx hb dX11_needGlass_0 rfl (lv_at hl 1 rfl) ?_
  refine lv_if_lt (tgt := 15) hx hb dX11_needGlass_1 (by decide) (fun q3 => ?_) (fun q3 => ?_)
  · have hf := ifp hf q3
    exact hj15 x0 mm H locs ls hf hS (lv_sub hl [0] rfl)
  · have hf := ifn hf q3
    refine lv_iload_n hx hb dX11_needGlass_4 rfl (lv_at hl 1 rfl) ?_
    refine lv_aload_n hx hb dX11_needGlass_5 rfl (lv_at hl 0 rfl) ?_
    obtain ⟨a4, h1, hf⟩ := bs hf
    refine am_gr X hS fl_X11_19 rfl h1 dX11_needGlass_6 ?_
    obtain ⟨v5, h1, hf⟩ := bs hf
    refine am_gi X hS fl_X11_190 rfl h1 dX11_needGlass_9 ?_
    refine lv_icmp_lt (tgt := 36) hx hb dX11_needGlass_12 (by decide) (fun q6 => ?_) (fun q6 => ?_)
    · have hf := ifp hf q6
      cases hf
      exact hret _ rfl _ _ _ _ dX11_needGlass_36 hS
    · have hf := ifn hf q6
      exact hj15 x0 mm H locs ls hf hS (lv_sub hl [0] rfl)
set_option maxRecDepth 100000 in
theorem cX11_needGlass_ok {l : Launch} {E : Ev} (hl0 : l.stackTraces = false) {x0 : Nat} {x1 : Int32} {mm : Mem} {mm1 : Mem} (hf : fX11_needGlass (eS E) x0 x1 mm = some (.inl (), mm1)) : CtV l yX11_needGlass cX11_needGlass 2 none 7 120 E [.ref x0, .int x1] mm mm1 := by
  refine Met.ofW (cc := cX11_needGlass) (maxL := 2) (ret := none) (by decide) rfl ?_
  intro p e s m args below meth c s₁ B hml hv
  obtain ⟨rfl, X, hS, hr, hlocks⟩ := am_in B hv
  refine am_entry (Nat.le_of_ble_eq_true rfl) (fun ls hl => ?_)
  exact wX11_needGlass hl0 X hml ⟨Nat.le_refl _, Nat.le_refl _⟩ hf (fun r e pc H locs ls hd hS => am_rv X hS hr hd hlocks) (fun k e => by cases e) (fun k e => by cases e) _ _ ls hS hl
set_option maxRecDepth 100000 in
theorem cX11_needGlass_thr {l : Launch} {E : Ev} (hl0 : l.stackTraces = false) {x0 : Nat} {x1 : Int32} {mm : Mem} {k : Nat} {mm1 : Mem} (hf : fX11_needGlass (eS E) x0 x1 mm = some (.inr k, mm1)) : CtX l yX11_needGlass cX11_needGlass 2 none 7 120 E [.ref x0, .int x1] mm k mm1 := by
  refine vx_ofW (cc := cX11_needGlass) (maxL := 2) (ret := none) (by decide) rfl ?_
  intro p e s m args below meth c s₁ B hml hxt hv
  obtain ⟨rfl, X, hS, hr, hlocks⟩ := am_in B hv
  refine am_entry (Nat.le_of_ble_eq_true rfl) (fun ls hl => ?_)
  exact wX11_needGlass hl0 X hml ⟨Nat.le_refl _, Nat.le_refl _⟩ hf (fun r e => by cases e) (fun k e => ⟨Nat.le_refl _, Nat.le_refl _⟩) (fun k1 e pc H locs ls rest ce q9 hS a1 a2 a3 => by cases e; exact am_out X hS hxt hlocks a1 a2 a3) _ _ ls hS hl
set_option maxHeartbeats 4000000 in
set_option maxRecDepth 100000 in
theorem wX11_glass {p : Program} {l : Launch} {e : Env} {R : Room} {s : State} {m : MethodId} {args : Array Value} {below : List Frame} {meth : Method} {c : Code} {Q : State → Prop} {E : Ev} (hl0 : l.stackTraces = false) (X : Cx p s m args c cX11_glass RX11 E) (hml : c.maxLocals = 3) (hR : 8 ≤ R.frames ∧ 141 ≤ R.locals) {x0 : Nat} {x1 : Int32} {x2 : Int32} {mm : Mem} {res : Int32 ⊕ Nat} {mm1 : Mem} (hf : fX11_glass (eS E) x0 x1 x2 mm = some (res, mm1)) (hret : ∀ r, res = .inl r → ∀ (pc : Nat) (H : Heap) (locs : List Loc) (ls : Array Slot), narrow .int (.int r) = .int r → decode cX11_glass pc = .ok (.ireturn, 1) → wS E s mm1 H locs → W p l e R s m args below meth c H locs 0 0 Q (F0 m pc ls [.int r])) (hRc : ∀ k, res = .inr k → 1 ≤ R.cells ∧ 6 ≤ R.slots) (hthr : ∀ k, res = .inr k → ∀ (pc : Nat) (H : Heap) (locs : List Loc) (ls : Array Slot) (rest : List Value) (ce : Cell) (q9 : Addr), wS E s mm1 H locs → H[q9]? = some ce → ce.vm = .none → s.vm.findClass (exN k) = some ce.cls → vx_W p l e R s m args below meth c H locs 1 6 Q (F0 m pc ls rest) q9) : ∀ (H : Heap) (locs : List Loc) (ls : Array Slot), wS E s mm H locs → lv_has ls 3 [(0, .ref x0), (1, .int x1), (2, .int x2)] → W p l e R s m args below meth c H locs 0 0 Q (F0 m 0 ls []) := by
  have hx := X.1
  have hb := X.2.1
  have hRa := hR.1
  have hRb := hR.2
  unfold fX11_glass at hf
  have hj48 : ∀ (s0 : Int32) (mm : Mem) (H : Heap) (locs : List Loc) (ls : Array Slot), fX11_glass_j48 (eS E) s0 mm = some (res, mm1) → wS E s mm H locs → lv_has ls 3 [] → W p l e R s m args below meth c H locs 0 0 Q (F0 m 48 ls [.int s0]) := by
    intro s0 mm H locs ls hf hS hl
    unfold fX11_glass_j48 at hf
    cases hf
    exact hret _ rfl _ _ _ _ rfl dX11_glass_48 hS
  have hj20 : ∀ (x0 : Nat) (x1 : Int32) (x2 : Int32) (s0 : Nat) (s1 : Int32) (mm : Mem) (H : Heap) (locs : List Loc) (ls : Array Slot), fX11_glass_j20 (eS E) x0 x1 x2 s0 s1 mm = some (res, mm1) → wS E s mm H locs → lv_has ls 3 [(0, .ref x0), (1, .int x1), (2, .int x2)] → W p l e R s m args below meth c H locs 0 0 Q (F0 m 20 ls [.int s1, .ref s0]) := by
    intro x0 x1 x2 s0 s1 mm H locs ls hf hS hl
    unfold fX11_glass_j20 at hf
    obtain ⟨u0, h0, hf⟩ := bs hf
    obtain ⟨_, hrc⟩ := isO_n h0
    obtain ⟨u1, m2, h1, hf⟩ := bs2 hf
    rcases u1 with v3 | k1
    · have hf := sme_l hf
      refine am_endv hS (am_runV (As := [.int s1]) X (hml.trans hl.1.symm) hS (cX11_need_ok (l := l) (E := E) hl0 h1) mv_X11_186 hrc rfl ⟨Nat.le_trans (by decide) hRa, Nat.le_trans (by decide) hRb⟩ ⟨Nat.zero_le _, Nat.zero_le _⟩ rfl rfl (Nat.le_of_ble_eq_true rfl) dX11_glass_20) (fun H locs hS => ?_)
      refine lv_iload_n hx hb dX11_glass_23 rfl (lv_at hl 2 rfl) ?_
      refine lv_if_ne (tgt := 39) hx hb dX11_glass_24 (by decide) (fun q4 => ?_) (fun q4 => ?_)
      · have hf := ifn hf q4
        refine lv_aload_n hx hb dX11_glass_39 rfl (lv_at hl 0 rfl) ?_
        obtain ⟨a5, h1, hf⟩ := bs hf
        refine am_gr X hS fl_X11_19 rfl h1 dX11_glass_40 ?_
        obtain ⟨a6, h1, hf⟩ := bs hf
        refine am_gr X hS fl_X11_252 rfl h1 dX11_glass_43 ?_
        refine lv_iload_n hx hb dX11_glass_46 rfl (lv_at hl 1 rfl) ?_
        obtain ⟨v7, h1, hf⟩ := bs hf
        refine am_ald X hS h1 dX11_glass_47 ?_
        exact hj48 v7 m2 H locs ls hf hS (lv_sub hl [] rfl)
      · have hf := ifp hf q4
        refine lv_aload_n hx hb dX11_glass_27 rfl (lv_at hl 0 rfl) ?_
        obtain ⟨a8, h1, hf⟩ := bs hf
        refine am_gr X hS fl_X11_19 rfl h1 dX11_glass_28 ?_
        obtain ⟨a9, h1, hf⟩ := bs hf
        refine am_gr X hS fl_X11_249 rfl h1 dX11_glass_31 ?_
        refine lv_iload_n hx hb dX11_glass_34 rfl (lv_at hl 1 rfl) ?_
        obtain ⟨v10, h1, hf⟩ := bs hf
        refine am_ald X hS h1 dX11_glass_35 ?_
        refine lv_goto (tgt := 48) hx hb dX11_glass_36 (by decide) ?_
        exact hj48 v10 m2 H locs ls hf hS (lv_sub hl [] rfl)
    · have hf := sme_r hf
      cases hf
      exact am_thrV (As := [.int s1]) X (hml.trans hl.1.symm) hS (cX11_need_thr (l := l) (E := E) hl0 h1) mv_X11_186 hrc rfl ⟨Nat.le_trans (by decide) hRa, Nat.le_trans (by decide) hRb⟩ (hRc _ rfl) rfl rfl (Nat.le_of_ble_eq_true rfl) dX11_glass_20 (fun H locs ce q9 hS a1 a2 a3 => hthr _ rfl _ H locs ls _ ce q9 hS a1 a2 a3)
  have hj15 : ∀ (x0 : Nat) (x1 : Int32) (x2 : Int32) (s0 : Nat) (mm : Mem) (H : Heap) (locs : List Loc) (ls : Array Slot), fX11_glass_j15 (eS E) x0 x1 x2 s0 mm = some (res, mm1) → wS E s mm H locs → lv_has ls 3 [(0, .ref x0), (1, .int x1), (2, .int x2)] → W p l e R s m args below meth c H locs 0 0 Q (F0 m 15 ls [.ref s0]) := by
    intro x0 x1 x2 s0 mm H locs ls hf hS hl
    unfold fX11_glass_j15 at hf
    refine lv_iconst (v := 1) hx hb dX11_glass_15 (by decide) ?_
    refine lv_goto (tgt := 20) hx hb dX11_glass_16 (by decide) ?_
    exact hj20 x0 x1 x2 s0 1 mm H locs ls hf hS hl
  intro H locs ls hS hl
  refine lv_aload_n hx hb dX11_glass_0 rfl (lv_at hl 0 rfl) ?_
  refine lv_iload_n hx hb dX11_glass_1 rfl (lv_at hl 1 rfl) ?_
  obtain ⟨u0, h0, hf⟩ := bs hf
  obtain ⟨_, hrc⟩ := isO_n h0
  obtain ⟨u11, m12, h1, hf⟩ := bs2 hf
  rcases u11 with v13 | k1
  · have hf := sme_l hf
    refine am_endv hS (am_runV (As := [.int x1]) X (hml.trans hl.1.symm) hS (cX11_needGlass_ok (l := l) (E := E) hl0 h1) mv_X11_246 hrc rfl ⟨Nat.le_trans (by decide) hRa, Nat.le_trans (by decide) hRb⟩ ⟨Nat.zero_le _, Nat.zero_le _⟩ rfl rfl (Nat.le_of_ble_eq_true rfl) dX11_glass_2) (fun H locs hS => ?_)
    refine lv_aload_n hx hb dX11_glass_5 rfl (lv_at hl 0 rfl) ?_
    refine lv_iload_n hx hb dX11_glass_6 rfl (lv_at hl 2 rfl) ?_
    refine lv_if_eq (tgt := 15) hx hb dX11_glass_7 (by decide) (fun q14 => ?_) (fun q14 => ?_)
    · have hf := ifp hf q14
      exact hj15 x0 x1 x2 x0 m12 H locs ls hf hS hl
    · have hf := ifn hf q14
      refine lv_iload_n hx hb dX11_glass_10 rfl (lv_at hl 2 rfl) ?_
      refine lv_iconst (v := 1) hx hb dX11_glass_11 (by decide) ?_
      refine lv_icmp_ne (tgt := 19) hx hb dX11_glass_12 (by decide) (fun q15 => ?_) (fun q15 => ?_)
      · have hf := ifn hf q15
        refine lv_iconst (v := 0) hx hb dX11_glass_19 (by decide) ?_
        exact hj20 x0 x1 x2 x0 0 m12 H locs ls hf hS hl
      · have hf := ifp hf q15
        exact hj15 x0 x1 x2 x0 m12 H locs ls hf hS hl
  · have hf := sme_r hf
    cases hf
    exact am_thrV (As := [.int x1]) X (hml.trans hl.1.symm) hS (cX11_needGlass_thr (l := l) (E := E) hl0 h1) mv_X11_246 hrc rfl ⟨Nat.le_trans (by decide) hRa, Nat.le_trans (by decide) hRb⟩ (hRc _ rfl) rfl rfl (Nat.le_of_ble_eq_true rfl) dX11_glass_2 (fun H locs ce q9 hS a1 a2 a3 => hthr _ rfl _ H locs ls _ ce q9 hS a1 a2 a3)
set_option maxRecDepth 100000 in
theorem cX11_glass_ok {l : Launch} {E : Ev} (hl0 : l.stackTraces = false) {x0 : Nat} {x1 : Int32} {x2 : Int32} {mm : Mem} {r : Int32} {mm1 : Mem} (hf : fX11_glass (eS E) x0 x1 x2 mm = some (.inl r, mm1)) : CtI l yX11_glass cX11_glass 3 (some .int) 8 141 E [.ref x0, .int x1, .int x2] mm r mm1 := by
  refine Met.ofW (cc := cX11_glass) (maxL := 3) (ret := (some .int)) (by decide) rfl ?_
  intro p e s m args below meth c s₁ B hml hv
  obtain ⟨rfl, X, hS, hr, hlocks⟩ := am_in B hv
  refine am_entry (Nat.le_of_ble_eq_true rfl) (fun ls hl => ?_)
  exact wX11_glass hl0 X hml ⟨Nat.le_refl _, Nat.le_refl _⟩ hf (fun r e pc H locs ls hn hd hS => by cases e; exact am_ri X hS hr hn hd hlocks) (fun k e => by cases e) (fun k e => by cases e) _ _ ls hS hl
set_option maxRecDepth 100000 in
theorem cX11_glass_thr {l : Launch} {E : Ev} (hl0 : l.stackTraces = false) {x0 : Nat} {x1 : Int32} {x2 : Int32} {mm : Mem} {k : Nat} {mm1 : Mem} (hf : fX11_glass (eS E) x0 x1 x2 mm = some (.inr k, mm1)) : CtX l yX11_glass cX11_glass 3 (some .int) 8 141 E [.ref x0, .int x1, .int x2] mm k mm1 := by
  refine vx_ofW (cc := cX11_glass) (maxL := 3) (ret := (some .int)) (by decide) rfl ?_
  intro p e s m args below meth c s₁ B hml hxt hv
  obtain ⟨rfl, X, hS, hr, hlocks⟩ := am_in B hv
  refine am_entry (Nat.le_of_ble_eq_true rfl) (fun ls hl => ?_)
  exact wX11_glass hl0 X hml ⟨Nat.le_refl _, Nat.le_refl _⟩ hf (fun r e => by cases e) (fun k e => ⟨Nat.le_refl _, Nat.le_refl _⟩) (fun k1 e pc H locs ls rest ce q9 hS a1 a2 a3 => by cases e; exact am_out X hS hxt hlocks a1 a2 a3) _ _ ls hS hl
set_option maxHeartbeats 4000000 in
set_option maxRecDepth 100000 in
theorem wX11_isPlace {p : Program} {l : Launch} {e : Env} {R : Room} {s : State} {m : MethodId} {args : Array Value} {below : List Frame} {meth : Method} {c : Code} {Q : State → Prop} {E : Ev} (X : Cx p s m args c cX11_isPlace RX11 E) (hml : c.maxLocals = 2) (hR : 0 ≤ R.frames ∧ 0 ≤ R.locals) {x0 : Nat} {x1 : Int32} {mm : Mem} {r : Int32} (hf : fX11_isPlace (eS E) x0 x1 mm = some r) (hret : ∀ (pc : Nat) (H : Heap) (locs : List Loc) (ls : Array Slot), narrow .boolean (.int r) = .int r → decode cX11_isPlace pc = .ok (.ireturn, 1) → wS E s mm H locs → W p l e R s m args below meth c H locs 0 0 Q (F0 m pc ls [.int r])) : ∀ (H : Heap) (locs : List Loc) (ls : Array Slot), wS E s mm H locs → lv_has ls 2 [(0, .ref x0), (1, .int x1)] → W p l e R s m args below meth c H locs 0 0 Q (F0 m 0 ls []) := by
  have hx := X.1
  have hb := X.2.1
  have hR1 := hR.1
  have hR2 := hR.2
  have hRa : 0 ≤ R.frames := by omega
  have hRb : 0 ≤ R.locals := by omega
  unfold fX11_isPlace at hf
  have hj20 : ∀ (s0 : Int32) (H : Heap) (locs : List Loc) (ls : Array Slot), fX11_isPlace_j20 (eS E) s0 mm = some r → wS E s mm H locs → lv_has ls 2 [] → W p l e R s m args below meth c H locs 0 0 Q (F0 m 20 ls [.int s0]) := by
    intro s0 H locs ls hf hS hl
    unfold fX11_isPlace_j20 at hf
    obtain ⟨v1, h1, hf⟩ := bs hf
    obtain ⟨rfl, h2⟩ := ckZ_n h1
    cases hf
    exact hret _ _ _ _ h2 dX11_isPlace_20 hS
  have hj19 : ∀ (H : Heap) (locs : List Loc) (ls : Array Slot), fX11_isPlace_j19 (eS E) mm = some r → wS E s mm H locs → lv_has ls 2 [] → W p l e R s m args below meth c H locs 0 0 Q (F0 m 19 ls []) := by
    intro H locs ls hf hS hl
    unfold fX11_isPlace_j19 at hf
    refine lv_iconst (v := 0) hx hb dX11_isPlace_19 (by decide) ?_
    exact hj20 0 H locs ls hf hS hl
  intro H locs ls hS hl
  refine lv_iload_n hx hb dX11_isPlace_0 rfl (lv_at hl 1 rfl) ?_
  refine lv_if_lt (tgt := 19) hx hb dX11_isPlace_1 (by decide) (fun q2 => ?_) (fun q2 => ?_)
  · have hf := ifp hf q2
    exact hj19  H locs ls hf hS (lv_sub hl [] rfl)
  · have hf := ifn hf q2
    refine lv_iload_n hx hb dX11_isPlace_4 rfl (lv_at hl 1 rfl) ?_
    refine lv_aload_n hx hb dX11_isPlace_5 rfl (lv_at hl 0 rfl) ?_
    obtain ⟨a3, h1, hf⟩ := bs hf
    refine am_gr X hS fl_X11_19 rfl h1 dX11_isPlace_6 ?_
    obtain ⟨v4, h1, hf⟩ := bs hf
    refine am_gi X hS fl_X11_171 rfl h1 dX11_isPlace_9 ?_
    refine lv_icmp_ge (tgt := 19) hx hb dX11_isPlace_12 (by decide) (fun q5 => ?_) (fun q5 => ?_)
    · have hf := ifp hf q5
      exact hj19  H locs ls hf hS (lv_sub hl [] rfl)
    · have hf := ifn hf q5
      refine lv_iconst (v := 1) hx hb dX11_isPlace_15 (by decide) ?_
      refine lv_goto (tgt := 20) hx hb dX11_isPlace_16 (by decide) ?_
      exact hj20 1 H locs ls hf hS (lv_sub hl [] rfl)
set_option maxRecDepth 100000 in
theorem cX11_isPlace_ok {l : Launch} {E : Ev} {x0 : Nat} {x1 : Int32} {mm : Mem} {r : Int32} (hf : fX11_isPlace (eS E) x0 x1 mm = some r) : CtI l yX11_isPlace cX11_isPlace 2 (some .boolean) (0) (0) E [.ref x0, .int x1] mm r mm := by
  refine Met.ofW (cc := cX11_isPlace) (maxL := 2) (ret := (some .boolean)) (by decide) rfl ?_
  intro p e s m args below meth c s₁ B hml hv
  obtain ⟨rfl, X, hS, hr, hlocks⟩ := am_in B hv
  refine am_entry (Nat.le_of_ble_eq_true rfl) (fun ls hl => ?_)
  exact wX11_isPlace X hml ⟨Nat.le_refl _, Nat.le_refl _⟩ hf (fun pc H locs ls hn hd hS => am_ri X hS hr hn hd hlocks) _ _ ls hS hl
set_option maxHeartbeats 4000000 in
set_option maxRecDepth 100000 in
theorem wX11_place {p : Program} {l : Launch} {e : Env} {R : Room} {s : State} {m : MethodId} {args : Array Value} {below : List Frame} {meth : Method} {c : Code} {Q : State → Prop} {E : Ev} (hl0 : l.stackTraces = false) (X : Cx p s m args c cX11_place RX11 E) (hml : c.maxLocals = 2) (hR : 8 ≤ R.frames ∧ 141 ≤ R.locals) {x0 : Nat} {x1 : Int32} {mm : Mem} {res : Int32 ⊕ Nat} {mm1 : Mem} (hf : fX11_place (eS E) x0 x1 mm = some (res, mm1)) (hret : ∀ r, res = .inl r → ∀ (pc : Nat) (H : Heap) (locs : List Loc) (ls : Array Slot), narrow .int (.int r) = .int r → decode cX11_place pc = .ok (.ireturn, 1) → wS E s mm1 H locs → W p l e R s m args below meth c H locs 0 0 Q (F0 m pc ls [.int r])) (hRc : ∀ k, res = .inr k → 1 ≤ R.cells ∧ 6 ≤ R.slots) (hthr : ∀ k, res = .inr k → ∀ (pc : Nat) (H : Heap) (locs : List Loc) (ls : Array Slot) (rest : List Value) (ce : Cell) (q9 : Addr), wS E s mm1 H locs → H[q9]? = some ce → ce.vm = .none → s.vm.findClass (exN k) = some ce.cls → vx_W p l e R s m args below meth c H locs 1 6 Q (F0 m pc ls rest) q9) : ∀ (H : Heap) (locs : List Loc) (ls : Array Slot), wS E s mm H locs → lv_has ls 2 [(0, .ref x0), (1, .int x1)] → W p l e R s m args below meth c H locs 0 0 Q (F0 m 0 ls []) := by
  have hx := X.1
  have hb := X.2.1
  have hRa := hR.1
  have hRb := hR.2
  unfold fX11_place at hf
  intro H locs ls hS hl
  refine lv_aload_n hx hb dX11_place_0 rfl (lv_at hl 0 rfl) ?_
  refine lv_aload_n hx hb dX11_place_1 rfl (lv_at hl 0 rfl) ?_
  refine lv_iload_n hx hb dX11_place_2 rfl (lv_at hl 1 rfl) ?_
  obtain ⟨u0, h0, hf⟩ := bs hf
  obtain ⟨_, hrc⟩ := isO_n h0
  obtain ⟨v1, h1, hf⟩ := bs hf
  refine am_endi hS (am_runV (As := [.int x1]) X (hml.trans hl.1.symm) hS (cX11_isPlace_ok (l := l) (E := E) h1) mv_X11_255 hrc rfl ⟨Nat.le_trans (by decide) hRa, Nat.le_trans (by decide) hRb⟩ ⟨Nat.zero_le _, Nat.zero_le _⟩ rfl rfl (Nat.le_of_ble_eq_true rfl) dX11_place_3) (fun H locs hS => ?_)
  obtain ⟨u0, h0, hf⟩ := bs hf
  obtain ⟨_, hrc⟩ := isO_n h0
  obtain ⟨u2, m3, h1, hf⟩ := bs2 hf
  rcases u2 with v4 | k1
  · have hf := sme_l hf
    refine am_endv hS (am_runV (As := [.int v1]) X (hml.trans hl.1.symm) hS (cX11_need_ok (l := l) (E := E) hl0 h1) mv_X11_186 hrc rfl ⟨Nat.le_trans (by decide) hRa, Nat.le_trans (by decide) hRb⟩ ⟨Nat.zero_le _, Nat.zero_le _⟩ rfl rfl (Nat.le_of_ble_eq_true rfl) dX11_place_6) (fun H locs hS => ?_)
    refine lv_aload_n hx hb dX11_place_9 rfl (lv_at hl 0 rfl) ?_
    obtain ⟨a5, h1, hf⟩ := bs hf
    refine am_gr X hS fl_X11_67 rfl h1 dX11_place_10 ?_
    refine lv_iload_n hx hb dX11_place_13 rfl (lv_at hl 1 rfl) ?_
    refine lv_iconst (v := 0) hx hb dX11_place_14 (by decide) ?_
    obtain ⟨u0, h0, hf⟩ := bs hf
    obtain ⟨_, hrc⟩ := isO_n h0
    obtain ⟨v6, h1, hf⟩ := bs hf
    refine am_endi hS (am_runV (As := [.int x1, .int 0]) X (hml.trans hl.1.symm) hS (cX2_muchNear_ok (l := l) (E := E) h1) mv_X11_258 hrc rfl ⟨Nat.le_trans (by decide) hRa, Nat.le_trans (by decide) hRb⟩ ⟨Nat.zero_le _, Nat.zero_le _⟩ rfl rfl (Nat.le_of_ble_eq_true rfl) dX11_place_15) (fun H locs hS => ?_)
    cases hf
    exact hret _ rfl _ _ _ _ rfl dX11_place_18 hS
  · have hf := sme_r hf
    cases hf
    exact am_thrV (As := [.int v1]) X (hml.trans hl.1.symm) hS (cX11_need_thr (l := l) (E := E) hl0 h1) mv_X11_186 hrc rfl ⟨Nat.le_trans (by decide) hRa, Nat.le_trans (by decide) hRb⟩ (hRc _ rfl) rfl rfl (Nat.le_of_ble_eq_true rfl) dX11_place_6 (fun H locs ce q9 hS a1 a2 a3 => hthr _ rfl _ H locs ls _ ce q9 hS a1 a2 a3)
set_option maxRecDepth 100000 in
theorem cX11_place_ok {l : Launch} {E : Ev} (hl0 : l.stackTraces = false) {x0 : Nat} {x1 : Int32} {mm : Mem} {r : Int32} {mm1 : Mem} (hf : fX11_place (eS E) x0 x1 mm = some (.inl r, mm1)) : CtI l yX11_place cX11_place 2 (some .int) 8 141 E [.ref x0, .int x1] mm r mm1 := by
  refine Met.ofW (cc := cX11_place) (maxL := 2) (ret := (some .int)) (by decide) rfl ?_
  intro p e s m args below meth c s₁ B hml hv
  obtain ⟨rfl, X, hS, hr, hlocks⟩ := am_in B hv
  refine am_entry (Nat.le_of_ble_eq_true rfl) (fun ls hl => ?_)
  exact wX11_place hl0 X hml ⟨Nat.le_refl _, Nat.le_refl _⟩ hf (fun r e pc H locs ls hn hd hS => by cases e; exact am_ri X hS hr hn hd hlocks) (fun k e => by cases e) (fun k e => by cases e) _ _ ls hS hl
set_option maxRecDepth 100000 in
theorem cX11_place_thr {l : Launch} {E : Ev} (hl0 : l.stackTraces = false) {x0 : Nat} {x1 : Int32} {mm : Mem} {k : Nat} {mm1 : Mem} (hf : fX11_place (eS E) x0 x1 mm = some (.inr k, mm1)) : CtX l yX11_place cX11_place 2 (some .int) 8 141 E [.ref x0, .int x1] mm k mm1 := by
  refine vx_ofW (cc := cX11_place) (maxL := 2) (ret := (some .int)) (by decide) rfl ?_
  intro p e s m args below meth c s₁ B hml hxt hv
  obtain ⟨rfl, X, hS, hr, hlocks⟩ := am_in B hv
  refine am_entry (Nat.le_of_ble_eq_true rfl) (fun ls hl => ?_)
  exact wX11_place hl0 X hml ⟨Nat.le_refl _, Nat.le_refl _⟩ hf (fun r e => by cases e) (fun k e => ⟨Nat.le_refl _, Nat.le_refl _⟩) (fun k1 e pc H locs ls rest ce q9 hS a1 a2 a3 => by cases e; exact am_out X hS hxt hlocks a1 a2 a3) _ _ ls hS hl
set_option maxHeartbeats 4000000 in
set_option maxRecDepth 100000 in
theorem wX11_turn {p : Program} {l : Launch} {e : Env} {R : Room} {s : State} {m : MethodId} {args : Array Value} {below : List Frame} {meth : Method} {c : Code} {Q : State → Prop} {E : Ev} (hl0 : l.stackTraces = false) (X : Cx p s m args c cX11_turn RX11 E) (hml : c.maxLocals = 4) (hR : 8 ≤ R.frames ∧ 141 ≤ R.locals) {x0 : Nat} {x1 : Int32} {x2 : Int32} {x3 : Int32} {mm : Mem} {res : Int32 ⊕ Nat} {mm1 : Mem} (hf : fX11_turn (eS E) x0 x1 x2 x3 mm = some (res, mm1)) (hret : ∀ r, res = .inl r → ∀ (pc : Nat) (H : Heap) (locs : List Loc) (ls : Array Slot), narrow .int (.int r) = .int r → decode cX11_turn pc = .ok (.ireturn, 1) → wS E s mm1 H locs → W p l e R s m args below meth c H locs 0 0 Q (F0 m pc ls [.int r])) (hRc : ∀ k, res = .inr k → 1 ≤ R.cells ∧ 6 ≤ R.slots) (hthr : ∀ k, res = .inr k → ∀ (pc : Nat) (H : Heap) (locs : List Loc) (ls : Array Slot) (rest : List Value) (ce : Cell) (q9 : Addr), wS E s mm1 H locs → H[q9]? = some ce → ce.vm = .none → s.vm.findClass (exN k) = some ce.cls → vx_W p l e R s m args below meth c H locs 1 6 Q (F0 m pc ls rest) q9) : ∀ (H : Heap) (locs : List Loc) (ls : Array Slot), wS E s mm H locs → lv_has ls 4 [(0, .ref x0), (1, .int x1), (2, .int x2), (3, .int x3)] → W p l e R s m args below meth c H locs 0 0 Q (F0 m 0 ls []) := by
  have hx := X.1
  have hb := X.2.1
  have hRa := hR.1
  have hRb := hR.2
  unfold fX11_turn at hf
  intro H locs ls hS hl
  refine lv_aload_n hx hb dX11_turn_0 rfl (lv_at hl 0 rfl) ?_
  refine lv_iload_n hx hb dX11_turn_1 rfl (lv_at hl 1 rfl) ?_
  obtain ⟨u0, h0, hf⟩ := bs hf
  obtain ⟨_, hrc⟩ := isO_n h0
  obtain ⟨u1, m2, h1, hf⟩ := bs2 hf
  rcases u1 with v3 | k1
  · have hf := sme_l hf
    refine am_endv hS (am_runV (As := [.int x1]) X (hml.trans hl.1.symm) hS (cX11_needFellow_ok (l := l) (E := E) hl0 h1) mv_X11_221 hrc rfl ⟨Nat.le_trans (by decide) hRa, Nat.le_trans (by decide) hRb⟩ ⟨Nat.zero_le _, Nat.zero_le _⟩ rfl rfl (Nat.le_of_ble_eq_true rfl) dX11_turn_2) (fun H locs hS => ?_)
    refine lv_aload_n hx hb dX11_turn_5 rfl (lv_at hl 0 rfl) ?_
    refine lv_iload_n hx hb dX11_turn_6 rfl (lv_at hl 3 rfl) ?_
    obtain ⟨u0, h0, hf⟩ := bs hf
    obtain ⟨_, hrc⟩ := isO_n h0
    obtain ⟨u4, m5, h1, hf⟩ := bs2 hf
    rcases u4 with v6 | k1
    · have hf := sme_l hf
      refine am_endv hS (am_runV (As := [.int x3]) X (hml.trans hl.1.symm) hS (cX11_needGlass_ok (l := l) (E := E) hl0 h1) mv_X11_246 hrc rfl ⟨Nat.le_trans (by decide) hRa, Nat.le_trans (by decide) hRb⟩ ⟨Nat.zero_le _, Nat.zero_le _⟩ rfl rfl (Nat.le_of_ble_eq_true rfl) dX11_turn_7) (fun H locs hS => ?_)
      refine lv_aload_n hx hb dX11_turn_10 rfl (lv_at hl 0 rfl) ?_
      refine lv_iload_n hx hb dX11_turn_11 rfl (lv_at hl 2 rfl) ?_
      obtain ⟨v7, h1, hf⟩ := bs hf
      refine am_endi hS (am_runS (As := [.int x2]) X (hml.trans hl.1.symm) hS (cX11_isPart_ok (l := l) (E := E) h1) ms_X11_240 ⟨Nat.le_trans (by decide) hRa, Nat.le_trans (by decide) hRb⟩ ⟨Nat.zero_le _, Nat.zero_le _⟩ rfl rfl (Nat.le_of_ble_eq_true rfl) dX11_turn_12) (fun H locs hS => ?_)
      obtain ⟨u0, h0, hf⟩ := bs hf
      obtain ⟨_, hrc⟩ := isO_n h0
      obtain ⟨u8, m9, h1, hf⟩ := bs2 hf
      rcases u8 with v10 | k1
      · have hf := sme_l hf
        refine am_endv hS (am_runV (As := [.int v7]) X (hml.trans hl.1.symm) hS (cX11_need_ok (l := l) (E := E) hl0 h1) mv_X11_186 hrc rfl ⟨Nat.le_trans (by decide) hRa, Nat.le_trans (by decide) hRb⟩ ⟨Nat.zero_le _, Nat.zero_le _⟩ rfl rfl (Nat.le_of_ble_eq_true rfl) dX11_turn_15) (fun H locs hS => ?_)
        refine lv_aload_n hx hb dX11_turn_18 rfl (lv_at hl 0 rfl) ?_
        obtain ⟨a11, h1, hf⟩ := bs hf
        refine am_gr X hS fl_X11_51 rfl h1 dX11_turn_19 ?_
        refine lv_aload_n hx hb dX11_turn_22 rfl (lv_at hl 0 rfl) ?_
        obtain ⟨a12, h1, hf⟩ := bs hf
        refine am_gr X hS fl_X11_67 rfl h1 dX11_turn_23 ?_
        refine lv_iload_n hx hb dX11_turn_26 rfl (lv_at hl 1 rfl) ?_
        refine lv_iload_n hx hb dX11_turn_27 rfl (lv_at hl 2 rfl) ?_
        refine lv_iload_n hx hb dX11_turn_28 rfl (lv_at hl 3 rfl) ?_
        refine lv_aload_n hx hb dX11_turn_29 rfl (lv_at hl 0 rfl) ?_
        obtain ⟨a13, h1, hf⟩ := bs hf
        refine am_gr X hS fl_X11_67 rfl h1 dX11_turn_30 ?_
        obtain ⟨a14, h1, hf⟩ := bs hf
        refine am_gr X hS fl_X11_204 rfl h1 dX11_turn_33 ?_
        refine lv_iload_n hx hb dX11_turn_36 rfl (lv_at hl 1 rfl) ?_
        refine lv_bipush (v := 7) hx hb dX11_turn_37 (by decide) ?_
        refine lv_imul hx hb dX11_turn_39 ?_
        refine lv_iload_n hx hb dX11_turn_40 rfl (lv_at hl 2 rfl) ?_
        refine lv_iadd hx hb dX11_turn_41 ?_
        obtain ⟨v15, h1, hf⟩ := bs hf
        refine am_ald X hS h1 dX11_turn_42 ?_
        obtain ⟨u0, h0, hf⟩ := bs hf
        obtain ⟨_, hrc⟩ := isO_n h0
        obtain ⟨v16, m17, h1, hf⟩ := bs2 hf
        refine am_endi hS (am_runV (As := [.ref a12, .int x1, .int x2, .int x3, .int v15]) X (hml.trans hl.1.symm) hS (cX5_turnOf_ok (l := l) (E := E) h1) mv_X11_262 hrc rfl ⟨Nat.le_trans (by decide) hRa, Nat.le_trans (by decide) hRb⟩ ⟨Nat.zero_le _, Nat.zero_le _⟩ rfl rfl (Nat.le_of_ble_eq_true rfl) dX11_turn_43) (fun H locs hS => ?_)
        cases hf
        exact hret _ rfl _ _ _ _ rfl dX11_turn_46 hS
      · have hf := sme_r hf
        cases hf
        exact am_thrV (As := [.int v7]) X (hml.trans hl.1.symm) hS (cX11_need_thr (l := l) (E := E) hl0 h1) mv_X11_186 hrc rfl ⟨Nat.le_trans (by decide) hRa, Nat.le_trans (by decide) hRb⟩ (hRc _ rfl) rfl rfl (Nat.le_of_ble_eq_true rfl) dX11_turn_15 (fun H locs ce q9 hS a1 a2 a3 => hthr _ rfl _ H locs ls _ ce q9 hS a1 a2 a3)
    · have hf := sme_r hf
      cases hf
      exact am_thrV (As := [.int x3]) X (hml.trans hl.1.symm) hS (cX11_needGlass_thr (l := l) (E := E) hl0 h1) mv_X11_246 hrc rfl ⟨Nat.le_trans (by decide) hRa, Nat.le_trans (by decide) hRb⟩ (hRc _ rfl) rfl rfl (Nat.le_of_ble_eq_true rfl) dX11_turn_7 (fun H locs ce q9 hS a1 a2 a3 => hthr _ rfl _ H locs ls _ ce q9 hS a1 a2 a3)
  · have hf := sme_r hf
    cases hf
    exact am_thrV (As := [.int x1]) X (hml.trans hl.1.symm) hS (cX11_needFellow_thr (l := l) (E := E) hl0 h1) mv_X11_221 hrc rfl ⟨Nat.le_trans (by decide) hRa, Nat.le_trans (by decide) hRb⟩ (hRc _ rfl) rfl rfl (Nat.le_of_ble_eq_true rfl) dX11_turn_2 (fun H locs ce q9 hS a1 a2 a3 => hthr _ rfl _ H locs ls _ ce q9 hS a1 a2 a3)
set_option maxRecDepth 100000 in
theorem cX11_turn_ok {l : Launch} {E : Ev} (hl0 : l.stackTraces = false) {x0 : Nat} {x1 : Int32} {x2 : Int32} {x3 : Int32} {mm : Mem} {r : Int32} {mm1 : Mem} (hf : fX11_turn (eS E) x0 x1 x2 x3 mm = some (.inl r, mm1)) : CtI l yX11_turn cX11_turn 4 (some .int) 8 141 E [.ref x0, .int x1, .int x2, .int x3] mm r mm1 := by
  refine Met.ofW (cc := cX11_turn) (maxL := 4) (ret := (some .int)) (by decide) rfl ?_
  intro p e s m args below meth c s₁ B hml hv
  obtain ⟨rfl, X, hS, hr, hlocks⟩ := am_in B hv
  refine am_entry (Nat.le_of_ble_eq_true rfl) (fun ls hl => ?_)
  exact wX11_turn hl0 X hml ⟨Nat.le_refl _, Nat.le_refl _⟩ hf (fun r e pc H locs ls hn hd hS => by cases e; exact am_ri X hS hr hn hd hlocks) (fun k e => by cases e) (fun k e => by cases e) _ _ ls hS hl
set_option maxRecDepth 100000 in
theorem cX11_turn_thr {l : Launch} {E : Ev} (hl0 : l.stackTraces = false) {x0 : Nat} {x1 : Int32} {x2 : Int32} {x3 : Int32} {mm : Mem} {k : Nat} {mm1 : Mem} (hf : fX11_turn (eS E) x0 x1 x2 x3 mm = some (.inr k, mm1)) : CtX l yX11_turn cX11_turn 4 (some .int) 8 141 E [.ref x0, .int x1, .int x2, .int x3] mm k mm1 := by
  refine vx_ofW (cc := cX11_turn) (maxL := 4) (ret := (some .int)) (by decide) rfl ?_
  intro p e s m args below meth c s₁ B hml hxt hv
  obtain ⟨rfl, X, hS, hr, hlocks⟩ := am_in B hv
  refine am_entry (Nat.le_of_ble_eq_true rfl) (fun ls hl => ?_)
  exact wX11_turn hl0 X hml ⟨Nat.le_refl _, Nat.le_refl _⟩ hf (fun r e => by cases e) (fun k e => ⟨Nat.le_refl _, Nat.le_refl _⟩) (fun k1 e pc H locs ls rest ce q9 hS a1 a2 a3 => by cases e; exact am_out X hS hxt hlocks a1 a2 a3) _ _ ls hS hl
set_option maxHeartbeats 4000000 in
set_option maxRecDepth 100000 in
theorem wX11_would {p : Program} {l : Launch} {e : Env} {R : Room} {s : State} {m : MethodId} {args : Array Value} {below : List Frame} {meth : Method} {c : Code} {Q : State → Prop} {E : Ev} (hl0 : l.stackTraces = false) (X : Cx p s m args c cX11_would RX11 E) (hml : c.maxLocals = 10) (hR : 8 ≤ R.frames ∧ 141 ≤ R.locals) {x0 : Nat} {x1 : Int32} {x2 : Int32} {x3 : Int32} {x4 : Int32} {x5 : Int32} {x6 : Int32} {x7 : Int32} {x8 : Int32} {mm : Mem} {res : Int32 ⊕ Nat} {mm1 : Mem} (hf : fX11_would (eS E) x0 x1 x2 x3 x4 x5 x6 x7 x8 mm = some (res, mm1)) (hret : ∀ r, res = .inl r → ∀ (pc : Nat) (H : Heap) (locs : List Loc) (ls : Array Slot), narrow .int (.int r) = .int r → decode cX11_would pc = .ok (.ireturn, 1) → wS E s mm1 H locs → W p l e R s m args below meth c H locs 0 0 Q (F0 m pc ls [.int r])) (hRc : ∀ k, res = .inr k → 1 ≤ R.cells ∧ 6 ≤ R.slots) (hthr : ∀ k, res = .inr k → ∀ (pc : Nat) (H : Heap) (locs : List Loc) (ls : Array Slot) (rest : List Value) (ce : Cell) (q9 : Addr), wS E s mm1 H locs → H[q9]? = some ce → ce.vm = .none → s.vm.findClass (exN k) = some ce.cls → vx_W p l e R s m args below meth c H locs 1 6 Q (F0 m pc ls rest) q9) : ∀ (H : Heap) (locs : List Loc) (ls : Array Slot), wS E s mm H locs → lv_has ls 10 [(0, .ref x0), (1, .int x1), (2, .int x2), (3, .int x3), (4, .int x4), (5, .int x5), (6, .int x6), (7, .int x7), (8, .int x8)] → W p l e R s m args below meth c H locs 0 0 Q (F0 m 0 ls []) := by
  have hx := X.1
  have hb := X.2.1
  have hRa := hR.1
  have hRb := hR.2
  unfold fX11_would at hf
  have hj126 : ∀ (x0 : Nat) (x1 : Int32) (x2 : Int32) (x3 : Int32) (x4 : Int32) (x5 : Int32) (x6 : Int32) (x7 : Int32) (x8 : Int32) (s0 : Nat) (s1 : Int32) (mm : Mem) (H : Heap) (locs : List Loc) (ls : Array Slot), fX11_would_j126 (eS E) x0 x1 x2 x3 x4 x5 x6 x7 x8 s0 s1 mm = some (res, mm1) → wS E s mm H locs → lv_has ls 10 [(0, .ref x0), (1, .int x1), (2, .int x2), (3, .int x3), (4, .int x4), (5, .int x5), (6, .int x6), (7, .int x7), (8, .int x8)] → W p l e R s m args below meth c H locs 0 0 Q (F0 m 126 ls [.int s1, .ref s0]) := by
    intro x0 x1 x2 x3 x4 x5 x6 x7 x8 s0 s1 mm H locs ls hf hS hl
    unfold fX11_would_j126 at hf
    obtain ⟨u0, h0, hf⟩ := bs hf
    obtain ⟨_, hrc⟩ := isO_n h0
    obtain ⟨u1, m2, h1, hf⟩ := bs2 hf
    rcases u1 with v3 | k1
    · have hf := sme_l hf
      refine am_endv hS (am_runV (As := [.int s1]) X (hml.trans hl.1.symm) hS (cX11_need_ok (l := l) (E := E) hl0 h1) mv_X11_186 hrc rfl ⟨Nat.le_trans (by decide) hRa, Nat.le_trans (by decide) hRb⟩ ⟨Nat.zero_le _, Nat.zero_le _⟩ rfl rfl (Nat.le_of_ble_eq_true rfl) dX11_would_126) (fun H locs hS => ?_)
      refine lv_aload_n hx hb dX11_would_129 rfl (lv_at hl 0 rfl) ?_
      obtain ⟨a4, h1, hf⟩ := bs hf
      refine am_gr X hS fl_X11_51 rfl h1 dX11_would_130 ?_
      obtain ⟨a5, h1, hf⟩ := bs hf
      refine am_gr X hS fl_X11_266 rfl h1 dX11_would_133 ?_
      refine am_topr (fun x9_6 e1 => ?_)
      have hf := lt1_n e1 hf
      refine lv_astore (lv' := [(9, .ref x9_6), (0, .ref x0), (1, .int x1), (2, .int x2), (3, .int x3), (4, .int x4), (5, .int x5), (6, .int x6), (7, .int x7), (8, .int x8)]) hx hb dX11_would_136 hl (by decide) rfl (fun ls hl => ?_)
      refine lv_aload hx hb dX11_would_138 (lv_at hl 0 rfl) ?_
      refine lv_iconst (v := 0) hx hb dX11_would_140 (by decide) ?_
      refine lv_iload_n hx hb dX11_would_141 rfl (lv_at hl 2 rfl) ?_
      obtain ⟨m7, h1, hf⟩ := bs hf
      refine am_ast X hS h1 dX11_would_142 (fun H locs hS => ?_)
      refine lv_aload hx hb dX11_would_143 (lv_at hl 0 rfl) ?_
      refine lv_iconst (v := 1) hx hb dX11_would_145 (by decide) ?_
      refine lv_iload_n hx hb dX11_would_146 rfl (lv_at hl 3 rfl) ?_
      obtain ⟨m8, h1, hf⟩ := bs hf
      refine am_ast X hS h1 dX11_would_147 (fun H locs hS => ?_)
      refine lv_aload hx hb dX11_would_148 (lv_at hl 0 rfl) ?_
      refine lv_iconst (v := 2) hx hb dX11_would_150 (by decide) ?_
      refine lv_iload_n hx hb dX11_would_151 rfl (lv_at hl 4 rfl) ?_
      obtain ⟨m9, h1, hf⟩ := bs hf
      refine am_ast X hS h1 dX11_would_152 (fun H locs hS => ?_)
      refine lv_aload hx hb dX11_would_153 (lv_at hl 0 rfl) ?_
      refine lv_iconst (v := 3) hx hb dX11_would_155 (by decide) ?_
      refine lv_iload hx hb dX11_would_156 (lv_at hl 5 rfl) ?_
      obtain ⟨m10, h1, hf⟩ := bs hf
      refine am_ast X hS h1 dX11_would_158 (fun H locs hS => ?_)
      refine lv_aload hx hb dX11_would_159 (lv_at hl 0 rfl) ?_
      refine lv_iconst (v := 4) hx hb dX11_would_161 (by decide) ?_
      refine lv_iload hx hb dX11_would_162 (lv_at hl 6 rfl) ?_
      obtain ⟨m11, h1, hf⟩ := bs hf
      refine am_ast X hS h1 dX11_would_164 (fun H locs hS => ?_)
      refine lv_aload hx hb dX11_would_165 (lv_at hl 0 rfl) ?_
      refine lv_iconst (v := 5) hx hb dX11_would_167 (by decide) ?_
      refine lv_iload hx hb dX11_would_168 (lv_at hl 7 rfl) ?_
      obtain ⟨m12, h1, hf⟩ := bs hf
      refine am_ast X hS h1 dX11_would_170 (fun H locs hS => ?_)
      refine lv_aload hx hb dX11_would_171 (lv_at hl 0 rfl) ?_
      refine lv_bipush (v := 6) hx hb dX11_would_173 (by decide) ?_
      refine lv_iload hx hb dX11_would_175 (lv_at hl 8 rfl) ?_
      obtain ⟨m13, h1, hf⟩ := bs hf
      refine am_ast X hS h1 dX11_would_177 (fun H locs hS => ?_)
      refine lv_aload hx hb dX11_would_178 (lv_at hl 0 rfl) ?_
      refine lv_bipush (v := 7) hx hb dX11_would_180 (by decide) ?_
      refine lv_iload hx hb dX11_would_182 (lv_at hl 9 rfl) ?_
      obtain ⟨m14, h1, hf⟩ := bs hf
      refine am_ast X hS h1 dX11_would_184 (fun H locs hS => ?_)
      refine lv_aload_n hx hb dX11_would_185 rfl (lv_at hl 1 rfl) ?_
      obtain ⟨a15, h1, hf⟩ := bs hf
      refine am_gr X hS fl_X11_51 rfl h1 dX11_would_186 ?_
      refine lv_aload_n hx hb dX11_would_189 rfl (lv_at hl 1 rfl) ?_
      obtain ⟨a16, h1, hf⟩ := bs hf
      refine am_gr X hS fl_X11_29 rfl h1 dX11_would_190 ?_
      refine lv_aload hx hb dX11_would_193 (lv_at hl 0 rfl) ?_
      obtain ⟨u0, h0, hf⟩ := bs hf
      obtain ⟨_, hrc⟩ := isO_n h0
      obtain ⟨v17, m18, h1, hf⟩ := bs2 hf
      refine am_endi hS (am_runV (As := [.ref x9_6]) X (hml.trans hl.1.symm) hS (cX4_valueFor_ok (l := l) (E := E) h1) mv_X11_269 hrc rfl ⟨Nat.le_trans (by decide) hRa, Nat.le_trans (by decide) hRb⟩ ⟨Nat.zero_le _, Nat.zero_le _⟩ rfl rfl (Nat.le_of_ble_eq_true rfl) dX11_would_195) (fun H locs hS => ?_)
      obtain ⟨u0, h0, hf⟩ := bs hf
      obtain ⟨_, hrc⟩ := isO_n h0
      obtain ⟨v19, h1, hf⟩ := bs hf
      refine am_endi hS (am_runV (As := [.int v17]) X (hml.trans hl.1.symm) hS (cX5_bounded_ok (l := l) (E := E) h1) mv_X11_273 hrc rfl ⟨Nat.le_trans (by decide) hRa, Nat.le_trans (by decide) hRb⟩ ⟨Nat.zero_le _, Nat.zero_le _⟩ rfl rfl (Nat.le_of_ble_eq_true rfl) dX11_would_198) (fun H locs hS => ?_)
      cases hf
      exact hret _ rfl _ _ _ _ rfl dX11_would_201 hS
    · have hf := sme_r hf
      cases hf
      exact am_thrV (As := [.int s1]) X (hml.trans hl.1.symm) hS (cX11_need_thr (l := l) (E := E) hl0 h1) mv_X11_186 hrc rfl ⟨Nat.le_trans (by decide) hRa, Nat.le_trans (by decide) hRb⟩ (hRc _ rfl) rfl rfl (Nat.le_of_ble_eq_true rfl) dX11_would_126 (fun H locs ce q9 hS a1 a2 a3 => hthr _ rfl _ H locs ls _ ce q9 hS a1 a2 a3)
  have hj125 : ∀ (x0 : Nat) (x1 : Int32) (x2 : Int32) (x3 : Int32) (x4 : Int32) (x5 : Int32) (x6 : Int32) (x7 : Int32) (x8 : Int32) (s0 : Nat) (mm : Mem) (H : Heap) (locs : List Loc) (ls : Array Slot), fX11_would_j125 (eS E) x0 x1 x2 x3 x4 x5 x6 x7 x8 s0 mm = some (res, mm1) → wS E s mm H locs → lv_has ls 10 [(0, .ref x0), (1, .int x1), (2, .int x2), (3, .int x3), (4, .int x4), (5, .int x5), (6, .int x6), (7, .int x7), (8, .int x8)] → W p l e R s m args below meth c H locs 0 0 Q (F0 m 125 ls [.ref s0]) := by
    intro x0 x1 x2 x3 x4 x5 x6 x7 x8 s0 mm H locs ls hf hS hl
    unfold fX11_would_j125 at hf
    refine lv_iconst (v := 0) hx hb dX11_would_125 (by decide) ?_
    exact hj126 x0 x1 x2 x3 x4 x5 x6 x7 x8 s0 0 mm H locs ls hf hS hl
  have hj105 : ∀ (x0 : Nat) (x1 : Int32) (x2 : Int32) (x3 : Int32) (x4 : Int32) (x5 : Int32) (x6 : Int32) (x7 : Int32) (x8 : Int32) (s0 : Nat) (s1 : Int32) (mm : Mem) (H : Heap) (locs : List Loc) (ls : Array Slot), fX11_would_j105 (eS E) x0 x1 x2 x3 x4 x5 x6 x7 x8 s0 s1 mm = some (res, mm1) → wS E s mm H locs → lv_has ls 10 [(0, .ref x0), (1, .int x1), (2, .int x2), (3, .int x3), (4, .int x4), (5, .int x5), (6, .int x6), (7, .int x7), (8, .int x8)] → W p l e R s m args below meth c H locs 0 0 Q (F0 m 105 ls [.int s1, .ref s0]) := by
    intro x0 x1 x2 x3 x4 x5 x6 x7 x8 s0 s1 mm H locs ls hf hS hl
    unfold fX11_would_j105 at hf
    obtain ⟨u0, h0, hf⟩ := bs hf
    obtain ⟨_, hrc⟩ := isO_n h0
    obtain ⟨u20, m21, h1, hf⟩ := bs2 hf
    rcases u20 with v22 | k1
    · have hf := sme_l hf
      refine am_endv hS (am_runV (As := [.int s1]) X (hml.trans hl.1.symm) hS (cX11_need_ok (l := l) (E := E) hl0 h1) mv_X11_186 hrc rfl ⟨Nat.le_trans (by decide) hRa, Nat.le_trans (by decide) hRb⟩ ⟨Nat.zero_le _, Nat.zero_le _⟩ rfl rfl (Nat.le_of_ble_eq_true rfl) dX11_would_105) (fun H locs hS => ?_)
      refine lv_aload_n hx hb dX11_would_108 rfl (lv_at hl 0 rfl) ?_
      refine lv_iload hx hb dX11_would_109 (lv_at hl 8 rfl) ?_
      refine lv_if_lt (tgt := 125) hx hb dX11_would_111 (by decide) (fun q23 => ?_) (fun q23 => ?_)
      · have hf := ifp hf q23
        exact hj125 x0 x1 x2 x3 x4 x5 x6 x7 x8 x0 m21 H locs ls hf hS hl
      · have hf := ifn hf q23
        refine lv_iload hx hb dX11_would_114 (lv_at hl 8 rfl) ?_
        refine lv_bipush (v := 6) hx hb dX11_would_116 (by decide) ?_
        refine lv_icmp_ge (tgt := 125) hx hb dX11_would_118 (by decide) (fun q24 => ?_) (fun q24 => ?_)
        · have hf := ifp hf q24
          exact hj125 x0 x1 x2 x3 x4 x5 x6 x7 x8 x0 m21 H locs ls hf hS hl
        · have hf := ifn hf q24
          refine lv_iconst (v := 1) hx hb dX11_would_121 (by decide) ?_
          refine lv_goto (tgt := 126) hx hb dX11_would_122 (by decide) ?_
          exact hj126 x0 x1 x2 x3 x4 x5 x6 x7 x8 x0 1 m21 H locs ls hf hS hl
    · have hf := sme_r hf
      cases hf
      exact am_thrV (As := [.int s1]) X (hml.trans hl.1.symm) hS (cX11_need_thr (l := l) (E := E) hl0 h1) mv_X11_186 hrc rfl ⟨Nat.le_trans (by decide) hRa, Nat.le_trans (by decide) hRb⟩ (hRc _ rfl) rfl rfl (Nat.le_of_ble_eq_true rfl) dX11_would_105 (fun H locs ce q9 hS a1 a2 a3 => hthr _ rfl _ H locs ls _ ce q9 hS a1 a2 a3)
  have hj104 : ∀ (x0 : Nat) (x1 : Int32) (x2 : Int32) (x3 : Int32) (x4 : Int32) (x5 : Int32) (x6 : Int32) (x7 : Int32) (x8 : Int32) (s0 : Nat) (mm : Mem) (H : Heap) (locs : List Loc) (ls : Array Slot), fX11_would_j104 (eS E) x0 x1 x2 x3 x4 x5 x6 x7 x8 s0 mm = some (res, mm1) → wS E s mm H locs → lv_has ls 10 [(0, .ref x0), (1, .int x1), (2, .int x2), (3, .int x3), (4, .int x4), (5, .int x5), (6, .int x6), (7, .int x7), (8, .int x8)] → W p l e R s m args below meth c H locs 0 0 Q (F0 m 104 ls [.ref s0]) := by
    intro x0 x1 x2 x3 x4 x5 x6 x7 x8 s0 mm H locs ls hf hS hl
    unfold fX11_would_j104 at hf
    refine lv_iconst (v := 0) hx hb dX11_would_104 (by decide) ?_
    exact hj105 x0 x1 x2 x3 x4 x5 x6 x7 x8 s0 0 mm H locs ls hf hS hl
  have hj70 : ∀ (x0 : Nat) (x1 : Int32) (x2 : Int32) (x3 : Int32) (x4 : Int32) (x5 : Int32) (x6 : Int32) (x7 : Int32) (x8 : Int32) (s0 : Nat) (s1 : Int32) (mm : Mem) (H : Heap) (locs : List Loc) (ls : Array Slot), fX11_would_j70 (eS E) x0 x1 x2 x3 x4 x5 x6 x7 x8 s0 s1 mm = some (res, mm1) → wS E s mm H locs → lv_has ls 10 [(0, .ref x0), (1, .int x1), (2, .int x2), (3, .int x3), (4, .int x4), (5, .int x5), (6, .int x6), (7, .int x7), (8, .int x8)] → W p l e R s m args below meth c H locs 0 0 Q (F0 m 70 ls [.int s1, .ref s0]) := by
    intro x0 x1 x2 x3 x4 x5 x6 x7 x8 s0 s1 mm H locs ls hf hS hl
    unfold fX11_would_j70 at hf
    obtain ⟨u0, h0, hf⟩ := bs hf
    obtain ⟨_, hrc⟩ := isO_n h0
    obtain ⟨u25, m26, h1, hf⟩ := bs2 hf
    rcases u25 with v27 | k1
    · have hf := sme_l hf
      refine am_endv hS (am_runV (As := [.int s1]) X (hml.trans hl.1.symm) hS (cX11_need_ok (l := l) (E := E) hl0 h1) mv_X11_186 hrc rfl ⟨Nat.le_trans (by decide) hRa, Nat.le_trans (by decide) hRb⟩ ⟨Nat.zero_le _, Nat.zero_le _⟩ rfl rfl (Nat.le_of_ble_eq_true rfl) dX11_would_70) (fun H locs hS => ?_)
      refine lv_aload_n hx hb dX11_would_73 rfl (lv_at hl 0 rfl) ?_
      refine lv_iload hx hb dX11_would_74 (lv_at hl 6 rfl) ?_
      refine lv_if_lt (tgt := 104) hx hb dX11_would_76 (by decide) (fun q28 => ?_) (fun q28 => ?_)
      · have hf := ifp hf q28
        exact hj104 x0 x1 x2 x3 x4 x5 x6 x7 x8 x0 m26 H locs ls hf hS hl
      · have hf := ifn hf q28
        refine lv_iload hx hb dX11_would_79 (lv_at hl 6 rfl) ?_
        refine lv_sipush (v := 999) hx hb dX11_would_81 (by decide) ?_
        refine lv_icmp_gt (tgt := 104) hx hb dX11_would_84 (by decide) (fun q29 => ?_) (fun q29 => ?_)
        · have hf := ifp hf q29
          exact hj104 x0 x1 x2 x3 x4 x5 x6 x7 x8 x0 m26 H locs ls hf hS hl
        · have hf := ifn hf q29
          refine lv_iload hx hb dX11_would_87 (lv_at hl 7 rfl) ?_
          refine lv_if_lt (tgt := 104) hx hb dX11_would_89 (by decide) (fun q30 => ?_) (fun q30 => ?_)
          · have hf := ifp hf q30
            exact hj104 x0 x1 x2 x3 x4 x5 x6 x7 x8 x0 m26 H locs ls hf hS hl
          · have hf := ifn hf q30
            refine lv_iload hx hb dX11_would_92 (lv_at hl 7 rfl) ?_
            refine lv_sipush (v := 400) hx hb dX11_would_94 (by decide) ?_
            refine lv_icmp_gt (tgt := 104) hx hb dX11_would_97 (by decide) (fun q31 => ?_) (fun q31 => ?_)
            · have hf := ifp hf q31
              exact hj104 x0 x1 x2 x3 x4 x5 x6 x7 x8 x0 m26 H locs ls hf hS hl
            · have hf := ifn hf q31
              refine lv_iconst (v := 1) hx hb dX11_would_100 (by decide) ?_
              refine lv_goto (tgt := 105) hx hb dX11_would_101 (by decide) ?_
              exact hj105 x0 x1 x2 x3 x4 x5 x6 x7 x8 x0 1 m26 H locs ls hf hS hl
    · have hf := sme_r hf
      cases hf
      exact am_thrV (As := [.int s1]) X (hml.trans hl.1.symm) hS (cX11_need_thr (l := l) (E := E) hl0 h1) mv_X11_186 hrc rfl ⟨Nat.le_trans (by decide) hRa, Nat.le_trans (by decide) hRb⟩ (hRc _ rfl) rfl rfl (Nat.le_of_ble_eq_true rfl) dX11_would_70 (fun H locs ce q9 hS a1 a2 a3 => hthr _ rfl _ H locs ls _ ce q9 hS a1 a2 a3)
  have hj69 : ∀ (x0 : Nat) (x1 : Int32) (x2 : Int32) (x3 : Int32) (x4 : Int32) (x5 : Int32) (x6 : Int32) (x7 : Int32) (x8 : Int32) (s0 : Nat) (mm : Mem) (H : Heap) (locs : List Loc) (ls : Array Slot), fX11_would_j69 (eS E) x0 x1 x2 x3 x4 x5 x6 x7 x8 s0 mm = some (res, mm1) → wS E s mm H locs → lv_has ls 10 [(0, .ref x0), (1, .int x1), (2, .int x2), (3, .int x3), (4, .int x4), (5, .int x5), (6, .int x6), (7, .int x7), (8, .int x8)] → W p l e R s m args below meth c H locs 0 0 Q (F0 m 69 ls [.ref s0]) := by
    intro x0 x1 x2 x3 x4 x5 x6 x7 x8 s0 mm H locs ls hf hS hl
    unfold fX11_would_j69 at hf
    refine lv_iconst (v := 0) hx hb dX11_would_69 (by decide) ?_
    exact hj70 x0 x1 x2 x3 x4 x5 x6 x7 x8 s0 0 mm H locs ls hf hS hl
  have hj35 : ∀ (x0 : Nat) (x1 : Int32) (x2 : Int32) (x3 : Int32) (x4 : Int32) (x5 : Int32) (x6 : Int32) (x7 : Int32) (x8 : Int32) (s0 : Nat) (s1 : Int32) (mm : Mem) (H : Heap) (locs : List Loc) (ls : Array Slot), fX11_would_j35 (eS E) x0 x1 x2 x3 x4 x5 x6 x7 x8 s0 s1 mm = some (res, mm1) → wS E s mm H locs → lv_has ls 10 [(0, .ref x0), (1, .int x1), (2, .int x2), (3, .int x3), (4, .int x4), (5, .int x5), (6, .int x6), (7, .int x7), (8, .int x8)] → W p l e R s m args below meth c H locs 0 0 Q (F0 m 35 ls [.int s1, .ref s0]) := by
    intro x0 x1 x2 x3 x4 x5 x6 x7 x8 s0 s1 mm H locs ls hf hS hl
    unfold fX11_would_j35 at hf
    obtain ⟨u0, h0, hf⟩ := bs hf
    obtain ⟨_, hrc⟩ := isO_n h0
    obtain ⟨u32, m33, h1, hf⟩ := bs2 hf
    rcases u32 with v34 | k1
    · have hf := sme_l hf
      refine am_endv hS (am_runV (As := [.int s1]) X (hml.trans hl.1.symm) hS (cX11_need_ok (l := l) (E := E) hl0 h1) mv_X11_186 hrc rfl ⟨Nat.le_trans (by decide) hRa, Nat.le_trans (by decide) hRb⟩ ⟨Nat.zero_le _, Nat.zero_le _⟩ rfl rfl (Nat.le_of_ble_eq_true rfl) dX11_would_35) (fun H locs hS => ?_)
      refine lv_aload_n hx hb dX11_would_38 rfl (lv_at hl 0 rfl) ?_
      refine lv_iload hx hb dX11_would_39 (lv_at hl 4 rfl) ?_
      refine lv_if_lt (tgt := 69) hx hb dX11_would_41 (by decide) (fun q35 => ?_) (fun q35 => ?_)
      · have hf := ifp hf q35
        exact hj69 x0 x1 x2 x3 x4 x5 x6 x7 x8 x0 m33 H locs ls hf hS hl
      · have hf := ifn hf q35
        refine lv_iload hx hb dX11_would_44 (lv_at hl 4 rfl) ?_
        refine lv_sipush (v := 2800) hx hb dX11_would_46 (by decide) ?_
        refine lv_icmp_gt (tgt := 69) hx hb dX11_would_49 (by decide) (fun q36 => ?_) (fun q36 => ?_)
        · have hf := ifp hf q36
          exact hj69 x0 x1 x2 x3 x4 x5 x6 x7 x8 x0 m33 H locs ls hf hS hl
        · have hf := ifn hf q36
          refine lv_iload hx hb dX11_would_52 (lv_at hl 5 rfl) ?_
          refine lv_if_lt (tgt := 69) hx hb dX11_would_54 (by decide) (fun q37 => ?_) (fun q37 => ?_)
          · have hf := ifp hf q37
            exact hj69 x0 x1 x2 x3 x4 x5 x6 x7 x8 x0 m33 H locs ls hf hS hl
          · have hf := ifn hf q37
            refine lv_iload hx hb dX11_would_57 (lv_at hl 5 rfl) ?_
            refine lv_sipush (v := 400) hx hb dX11_would_59 (by decide) ?_
            refine lv_icmp_gt (tgt := 69) hx hb dX11_would_62 (by decide) (fun q38 => ?_) (fun q38 => ?_)
            · have hf := ifp hf q38
              exact hj69 x0 x1 x2 x3 x4 x5 x6 x7 x8 x0 m33 H locs ls hf hS hl
            · have hf := ifn hf q38
              refine lv_iconst (v := 1) hx hb dX11_would_65 (by decide) ?_
              refine lv_goto (tgt := 70) hx hb dX11_would_66 (by decide) ?_
              exact hj70 x0 x1 x2 x3 x4 x5 x6 x7 x8 x0 1 m33 H locs ls hf hS hl
    · have hf := sme_r hf
      cases hf
      exact am_thrV (As := [.int s1]) X (hml.trans hl.1.symm) hS (cX11_need_thr (l := l) (E := E) hl0 h1) mv_X11_186 hrc rfl ⟨Nat.le_trans (by decide) hRa, Nat.le_trans (by decide) hRb⟩ (hRc _ rfl) rfl rfl (Nat.le_of_ble_eq_true rfl) dX11_would_35 (fun H locs ce q9 hS a1 a2 a3 => hthr _ rfl _ H locs ls _ ce q9 hS a1 a2 a3)
  have hj34 : ∀ (x0 : Nat) (x1 : Int32) (x2 : Int32) (x3 : Int32) (x4 : Int32) (x5 : Int32) (x6 : Int32) (x7 : Int32) (x8 : Int32) (s0 : Nat) (mm : Mem) (H : Heap) (locs : List Loc) (ls : Array Slot), fX11_would_j34 (eS E) x0 x1 x2 x3 x4 x5 x6 x7 x8 s0 mm = some (res, mm1) → wS E s mm H locs → lv_has ls 10 [(0, .ref x0), (1, .int x1), (2, .int x2), (3, .int x3), (4, .int x4), (5, .int x5), (6, .int x6), (7, .int x7), (8, .int x8)] → W p l e R s m args below meth c H locs 0 0 Q (F0 m 34 ls [.ref s0]) := by
    intro x0 x1 x2 x3 x4 x5 x6 x7 x8 s0 mm H locs ls hf hS hl
    unfold fX11_would_j34 at hf
    refine lv_iconst (v := 0) hx hb dX11_would_34 (by decide) ?_
    exact hj35 x0 x1 x2 x3 x4 x5 x6 x7 x8 s0 0 mm H locs ls hf hS hl
  intro H locs ls hS hl
  refine lv_aload_n hx hb dX11_would_0 rfl (lv_at hl 0 rfl) ?_
  refine lv_iload_n hx hb dX11_would_1 rfl (lv_at hl 1 rfl) ?_
  obtain ⟨v39, h1, hf⟩ := bs hf
  refine am_endi hS (am_runS (As := [.int x1]) X (hml.trans hl.1.symm) hS (cX11_isPart_ok (l := l) (E := E) h1) ms_X11_240 ⟨Nat.le_trans (by decide) hRa, Nat.le_trans (by decide) hRb⟩ ⟨Nat.zero_le _, Nat.zero_le _⟩ rfl rfl (Nat.le_of_ble_eq_true rfl) dX11_would_2) (fun H locs hS => ?_)
  refine lv_if_eq (tgt := 34) hx hb dX11_would_5 (by decide) (fun q40 => ?_) (fun q40 => ?_)
  · have hf := ifp hf q40
    exact hj34 x0 x1 x2 x3 x4 x5 x6 x7 x8 x0 mm H locs ls hf hS hl
  · have hf := ifn hf q40
    refine lv_iload_n hx hb dX11_would_8 rfl (lv_at hl 2 rfl) ?_
    refine lv_if_lt (tgt := 34) hx hb dX11_would_9 (by decide) (fun q41 => ?_) (fun q41 => ?_)
    · have hf := ifp hf q41
      exact hj34 x0 x1 x2 x3 x4 x5 x6 x7 x8 x0 mm H locs ls hf hS hl
    · have hf := ifn hf q41
      refine lv_iload_n hx hb dX11_would_12 rfl (lv_at hl 2 rfl) ?_
      refine lv_sipush (v := 400) hx hb dX11_would_13 (by decide) ?_
      refine lv_icmp_gt (tgt := 34) hx hb dX11_would_16 (by decide) (fun q42 => ?_) (fun q42 => ?_)
      · have hf := ifp hf q42
        exact hj34 x0 x1 x2 x3 x4 x5 x6 x7 x8 x0 mm H locs ls hf hS hl
      · have hf := ifn hf q42
        refine lv_iload_n hx hb dX11_would_19 rfl (lv_at hl 3 rfl) ?_
        refine lv_iconst (v := 1) hx hb dX11_would_20 (by decide) ?_
        refine lv_icmp_lt (tgt := 34) hx hb dX11_would_21 (by decide) (fun q43 => ?_) (fun q43 => ?_)
        · have hf := ifp hf q43
          exact hj34 x0 x1 x2 x3 x4 x5 x6 x7 x8 x0 mm H locs ls hf hS hl
        · have hf := ifn hf q43
          refine lv_iload_n hx hb dX11_would_24 rfl (lv_at hl 3 rfl) ?_
          refine lv_bipush (v := 9) hx hb dX11_would_25 (by decide) ?_
          refine lv_icmp_gt (tgt := 34) hx hb dX11_would_27 (by decide) (fun q44 => ?_) (fun q44 => ?_)
          · have hf := ifp hf q44
            exact hj34 x0 x1 x2 x3 x4 x5 x6 x7 x8 x0 mm H locs ls hf hS hl
          · have hf := ifn hf q44
            refine lv_iconst (v := 1) hx hb dX11_would_30 (by decide) ?_
            refine lv_goto (tgt := 35) hx hb dX11_would_31 (by decide) ?_
            exact hj35 x0 x1 x2 x3 x4 x5 x6 x7 x8 x0 1 mm H locs ls hf hS hl
set_option maxRecDepth 100000 in
theorem cX11_would_ok {l : Launch} {E : Ev} (hl0 : l.stackTraces = false) {x0 : Nat} {x1 : Int32} {x2 : Int32} {x3 : Int32} {x4 : Int32} {x5 : Int32} {x6 : Int32} {x7 : Int32} {x8 : Int32} {mm : Mem} {r : Int32} {mm1 : Mem} (hf : fX11_would (eS E) x0 x1 x2 x3 x4 x5 x6 x7 x8 mm = some (.inl r, mm1)) : CtI l yX11_would cX11_would 10 (some .int) 8 141 E [.ref x0, .int x1, .int x2, .int x3, .int x4, .int x5, .int x6, .int x7, .int x8] mm r mm1 := by
  refine Met.ofW (cc := cX11_would) (maxL := 10) (ret := (some .int)) (by decide) rfl ?_
  intro p e s m args below meth c s₁ B hml hv
  obtain ⟨rfl, X, hS, hr, hlocks⟩ := am_in B hv
  refine am_entry (Nat.le_of_ble_eq_true rfl) (fun ls hl => ?_)
  exact wX11_would hl0 X hml ⟨Nat.le_refl _, Nat.le_refl _⟩ hf (fun r e pc H locs ls hn hd hS => by cases e; exact am_ri X hS hr hn hd hlocks) (fun k e => by cases e) (fun k e => by cases e) _ _ ls hS hl
set_option maxRecDepth 100000 in
theorem cX11_would_thr {l : Launch} {E : Ev} (hl0 : l.stackTraces = false) {x0 : Nat} {x1 : Int32} {x2 : Int32} {x3 : Int32} {x4 : Int32} {x5 : Int32} {x6 : Int32} {x7 : Int32} {x8 : Int32} {mm : Mem} {k : Nat} {mm1 : Mem} (hf : fX11_would (eS E) x0 x1 x2 x3 x4 x5 x6 x7 x8 mm = some (.inr k, mm1)) : CtX l yX11_would cX11_would 10 (some .int) 8 141 E [.ref x0, .int x1, .int x2, .int x3, .int x4, .int x5, .int x6, .int x7, .int x8] mm k mm1 := by
  refine vx_ofW (cc := cX11_would) (maxL := 10) (ret := (some .int)) (by decide) rfl ?_
  intro p e s m args below meth c s₁ B hml hxt hv
  obtain ⟨rfl, X, hS, hr, hlocks⟩ := am_in B hv
  refine am_entry (Nat.le_of_ble_eq_true rfl) (fun ls hl => ?_)
  exact wX11_would hl0 X hml ⟨Nat.le_refl _, Nat.le_refl _⟩ hf (fun r e => by cases e) (fun k e => ⟨Nat.le_refl _, Nat.le_refl _⟩) (fun k1 e pc H locs ls rest ce q9 hS a1 a2 a3 => by cases e; exact am_out X hS hxt hlocks a1 a2 a3) _ _ ls hS hl
set_option maxHeartbeats 4000000 in
set_option maxRecDepth 100000 in
theorem wX11_ahead {p : Program} {l : Launch} {e : Env} {R : Room} {s : State} {m : MethodId} {args : Array Value} {below : List Frame} {meth : Method} {c : Code} {Q : State → Prop} {E : Ev} (hl0 : l.stackTraces = false) (X : Cx p s m args c cX11_ahead RX11 E) (hml : c.maxLocals = 3) (hR : 8 ≤ R.frames ∧ 141 ≤ R.locals) {x0 : Nat} {x1 : Int32} {x2 : Int32} {mm : Mem} {res : Int32 ⊕ Nat} {mm1 : Mem} (hf : fX11_ahead (eS E) x0 x1 x2 mm = some (res, mm1)) (hret : ∀ r, res = .inl r → ∀ (pc : Nat) (H : Heap) (locs : List Loc) (ls : Array Slot), narrow .int (.int r) = .int r → decode cX11_ahead pc = .ok (.ireturn, 1) → wS E s mm1 H locs → W p l e R s m args below meth c H locs 0 0 Q (F0 m pc ls [.int r])) (hRc : ∀ k, res = .inr k → 1 ≤ R.cells ∧ 6 ≤ R.slots) (hthr : ∀ k, res = .inr k → ∀ (pc : Nat) (H : Heap) (locs : List Loc) (ls : Array Slot) (rest : List Value) (ce : Cell) (q9 : Addr), wS E s mm1 H locs → H[q9]? = some ce → ce.vm = .none → s.vm.findClass (exN k) = some ce.cls → vx_W p l e R s m args below meth c H locs 1 6 Q (F0 m pc ls rest) q9) : ∀ (H : Heap) (locs : List Loc) (ls : Array Slot), wS E s mm H locs → lv_has ls 3 [(0, .ref x0), (1, .int x1), (2, .int x2)] → W p l e R s m args below meth c H locs 0 0 Q (F0 m 0 ls []) := by
  have hx := X.1
  have hb := X.2.1
  have hRa := hR.1
  have hRb := hR.2
  unfold fX11_ahead at hf
  have hj51 : ∀ (s0 : Int32) (mm : Mem) (H : Heap) (locs : List Loc) (ls : Array Slot), fX11_ahead_j51 (eS E) s0 mm = some (res, mm1) → wS E s mm H locs → lv_has ls 3 [] → W p l e R s m args below meth c H locs 0 0 Q (F0 m 51 ls [.int s0]) := by
    intro s0 mm H locs ls hf hS hl
    unfold fX11_ahead_j51 at hf
    cases hf
    exact hret _ rfl _ _ _ _ rfl dX11_ahead_51 hS
  have hj25 : ∀ (x0 : Nat) (x1 : Int32) (x2 : Int32) (s0 : Nat) (s1 : Int32) (mm : Mem) (H : Heap) (locs : List Loc) (ls : Array Slot), fX11_ahead_j25 (eS E) x0 x1 x2 s0 s1 mm = some (res, mm1) → wS E s mm H locs → lv_has ls 3 [(0, .ref x0), (1, .int x1), (2, .int x2)] → W p l e R s m args below meth c H locs 0 0 Q (F0 m 25 ls [.int s1, .ref s0]) := by
    intro x0 x1 x2 s0 s1 mm H locs ls hf hS hl
    unfold fX11_ahead_j25 at hf
    obtain ⟨u0, h0, hf⟩ := bs hf
    obtain ⟨_, hrc⟩ := isO_n h0
    obtain ⟨u1, m2, h1, hf⟩ := bs2 hf
    rcases u1 with v3 | k1
    · have hf := sme_l hf
      refine am_endv hS (am_runV (As := [.int s1]) X (hml.trans hl.1.symm) hS (cX11_need_ok (l := l) (E := E) hl0 h1) mv_X11_186 hrc rfl ⟨Nat.le_trans (by decide) hRa, Nat.le_trans (by decide) hRb⟩ ⟨Nat.zero_le _, Nat.zero_le _⟩ rfl rfl (Nat.le_of_ble_eq_true rfl) dX11_ahead_25) (fun H locs hS => ?_)
      refine lv_iload_n hx hb dX11_ahead_28 rfl (lv_at hl 2 rfl) ?_
      refine lv_if_ne (tgt := 43) hx hb dX11_ahead_29 (by decide) (fun q4 => ?_) (fun q4 => ?_)
      · have hf := ifn hf q4
        refine lv_aload_n hx hb dX11_ahead_43 rfl (lv_at hl 0 rfl) ?_
        obtain ⟨a5, h1, hf⟩ := bs hf
        refine am_gr X hS fl_X11_67 rfl h1 dX11_ahead_44 ?_
        refine lv_iload_n hx hb dX11_ahead_47 rfl (lv_at hl 1 rfl) ?_
        obtain ⟨u0, h0, hf⟩ := bs hf
        obtain ⟨_, hrc⟩ := isO_n h0
        obtain ⟨v6, h1, hf⟩ := bs hf
        refine am_endi hS (am_runV (As := [.int x1]) X (hml.trans hl.1.symm) hS (cX2_litBits_ok (l := l) (E := E) h1) mv_X11_200 hrc rfl ⟨Nat.le_trans (by decide) hRa, Nat.le_trans (by decide) hRb⟩ ⟨Nat.zero_le _, Nat.zero_le _⟩ rfl rfl (Nat.le_of_ble_eq_true rfl) dX11_ahead_48) (fun H locs hS => ?_)
        exact hj51 v6 m2 H locs ls hf hS (lv_sub hl [] rfl)
      · have hf := ifp hf q4
        refine lv_aload_n hx hb dX11_ahead_32 rfl (lv_at hl 0 rfl) ?_
        obtain ⟨a7, h1, hf⟩ := bs hf
        refine am_gr X hS fl_X11_67 rfl h1 dX11_ahead_33 ?_
        refine lv_iload_n hx hb dX11_ahead_36 rfl (lv_at hl 1 rfl) ?_
        obtain ⟨u0, h0, hf⟩ := bs hf
        obtain ⟨_, hrc⟩ := isO_n h0
        obtain ⟨v8, h1, hf⟩ := bs hf
        refine am_endi hS (am_runV (As := [.int x1]) X (hml.trans hl.1.symm) hS (cX2_wallAfter_ok (l := l) (E := E) h1) mv_X11_276 hrc rfl ⟨Nat.le_trans (by decide) hRa, Nat.le_trans (by decide) hRb⟩ ⟨Nat.zero_le _, Nat.zero_le _⟩ rfl rfl (Nat.le_of_ble_eq_true rfl) dX11_ahead_37) (fun H locs hS => ?_)
        refine lv_goto (tgt := 51) hx hb dX11_ahead_40 (by decide) ?_
        exact hj51 v8 m2 H locs ls hf hS (lv_sub hl [] rfl)
    · have hf := sme_r hf
      cases hf
      exact am_thrV (As := [.int s1]) X (hml.trans hl.1.symm) hS (cX11_need_thr (l := l) (E := E) hl0 h1) mv_X11_186 hrc rfl ⟨Nat.le_trans (by decide) hRa, Nat.le_trans (by decide) hRb⟩ (hRc _ rfl) rfl rfl (Nat.le_of_ble_eq_true rfl) dX11_ahead_25 (fun H locs ce q9 hS a1 a2 a3 => hthr _ rfl _ H locs ls _ ce q9 hS a1 a2 a3)
  have hj24 : ∀ (x0 : Nat) (x1 : Int32) (x2 : Int32) (s0 : Nat) (mm : Mem) (H : Heap) (locs : List Loc) (ls : Array Slot), fX11_ahead_j24 (eS E) x0 x1 x2 s0 mm = some (res, mm1) → wS E s mm H locs → lv_has ls 3 [(0, .ref x0), (1, .int x1), (2, .int x2)] → W p l e R s m args below meth c H locs 0 0 Q (F0 m 24 ls [.ref s0]) := by
    intro x0 x1 x2 s0 mm H locs ls hf hS hl
    unfold fX11_ahead_j24 at hf
    refine lv_iconst (v := 0) hx hb dX11_ahead_24 (by decide) ?_
    exact hj25 x0 x1 x2 s0 0 mm H locs ls hf hS hl
  have hj20 : ∀ (x0 : Nat) (x1 : Int32) (x2 : Int32) (s0 : Nat) (mm : Mem) (H : Heap) (locs : List Loc) (ls : Array Slot), fX11_ahead_j20 (eS E) x0 x1 x2 s0 mm = some (res, mm1) → wS E s mm H locs → lv_has ls 3 [(0, .ref x0), (1, .int x1), (2, .int x2)] → W p l e R s m args below meth c H locs 0 0 Q (F0 m 20 ls [.ref s0]) := by
    intro x0 x1 x2 s0 mm H locs ls hf hS hl
    unfold fX11_ahead_j20 at hf
    refine lv_iconst (v := 1) hx hb dX11_ahead_20 (by decide) ?_
    refine lv_goto (tgt := 25) hx hb dX11_ahead_21 (by decide) ?_
    exact hj25 x0 x1 x2 s0 1 mm H locs ls hf hS hl
  intro H locs ls hS hl
  refine lv_aload_n hx hb dX11_ahead_0 rfl (lv_at hl 0 rfl) ?_
  refine lv_iload_n hx hb dX11_ahead_1 rfl (lv_at hl 1 rfl) ?_
  refine lv_if_lt (tgt := 24) hx hb dX11_ahead_2 (by decide) (fun q9 => ?_) (fun q9 => ?_)
  · have hf := ifp hf q9
    exact hj24 x0 x1 x2 x0 mm H locs ls hf hS hl
  · have hf := ifn hf q9
    refine lv_iload_n hx hb dX11_ahead_5 rfl (lv_at hl 1 rfl) ?_
    refine lv_bipush (v := 99) hx hb dX11_ahead_6 (by decide) ?_
    refine lv_icmp_gt (tgt := 24) hx hb dX11_ahead_8 (by decide) (fun q10 => ?_) (fun q10 => ?_)
    · have hf := ifp hf q10
      exact hj24 x0 x1 x2 x0 mm H locs ls hf hS hl
    · have hf := ifn hf q10
      refine lv_iload_n hx hb dX11_ahead_11 rfl (lv_at hl 2 rfl) ?_
      refine lv_if_eq (tgt := 20) hx hb dX11_ahead_12 (by decide) (fun q11 => ?_) (fun q11 => ?_)
      · have hf := ifp hf q11
        exact hj20 x0 x1 x2 x0 mm H locs ls hf hS hl
      · have hf := ifn hf q11
        refine lv_iload_n hx hb dX11_ahead_15 rfl (lv_at hl 2 rfl) ?_
        refine lv_iconst (v := 1) hx hb dX11_ahead_16 (by decide) ?_
        refine lv_icmp_ne (tgt := 24) hx hb dX11_ahead_17 (by decide) (fun q12 => ?_) (fun q12 => ?_)
        · have hf := ifn hf q12
          exact hj24 x0 x1 x2 x0 mm H locs ls hf hS hl
        · have hf := ifp hf q12
          exact hj20 x0 x1 x2 x0 mm H locs ls hf hS hl
set_option maxRecDepth 100000 in
theorem cX11_ahead_ok {l : Launch} {E : Ev} (hl0 : l.stackTraces = false) {x0 : Nat} {x1 : Int32} {x2 : Int32} {mm : Mem} {r : Int32} {mm1 : Mem} (hf : fX11_ahead (eS E) x0 x1 x2 mm = some (.inl r, mm1)) : CtI l yX11_ahead cX11_ahead 3 (some .int) 8 141 E [.ref x0, .int x1, .int x2] mm r mm1 := by
  refine Met.ofW (cc := cX11_ahead) (maxL := 3) (ret := (some .int)) (by decide) rfl ?_
  intro p e s m args below meth c s₁ B hml hv
  obtain ⟨rfl, X, hS, hr, hlocks⟩ := am_in B hv
  refine am_entry (Nat.le_of_ble_eq_true rfl) (fun ls hl => ?_)
  exact wX11_ahead hl0 X hml ⟨Nat.le_refl _, Nat.le_refl _⟩ hf (fun r e pc H locs ls hn hd hS => by cases e; exact am_ri X hS hr hn hd hlocks) (fun k e => by cases e) (fun k e => by cases e) _ _ ls hS hl
set_option maxRecDepth 100000 in
theorem cX11_ahead_thr {l : Launch} {E : Ev} (hl0 : l.stackTraces = false) {x0 : Nat} {x1 : Int32} {x2 : Int32} {mm : Mem} {k : Nat} {mm1 : Mem} (hf : fX11_ahead (eS E) x0 x1 x2 mm = some (.inr k, mm1)) : CtX l yX11_ahead cX11_ahead 3 (some .int) 8 141 E [.ref x0, .int x1, .int x2] mm k mm1 := by
  refine vx_ofW (cc := cX11_ahead) (maxL := 3) (ret := (some .int)) (by decide) rfl ?_
  intro p e s m args below meth c s₁ B hml hxt hv
  obtain ⟨rfl, X, hS, hr, hlocks⟩ := am_in B hv
  refine am_entry (Nat.le_of_ble_eq_true rfl) (fun ls hl => ?_)
  exact wX11_ahead hl0 X hml ⟨Nat.le_refl _, Nat.le_refl _⟩ hf (fun r e => by cases e) (fun k e => ⟨Nat.le_refl _, Nat.le_refl _⟩) (fun k1 e pc H locs ls rest ce q9 hS a1 a2 a3 => by cases e; exact am_out X hS hxt hlocks a1 a2 a3) _ _ ls hS hl
set_option maxHeartbeats 4000000 in
set_option maxRecDepth 100000 in
theorem wX11_areFellows {p : Program} {l : Launch} {e : Env} {R : Room} {s : State} {m : MethodId} {args : Array Value} {below : List Frame} {meth : Method} {c : Code} {Q : State → Prop} {E : Ev} (X : Cx p s m args c cX11_areFellows RX11 E) (hml : c.maxLocals = 2) (hR : 0 ≤ R.frames ∧ 0 ≤ R.locals) {x0 : Nat} {x1 : Int32} {mm : Mem} {r : Int32} (hf : fX11_areFellows (eS E) x0 x1 mm = some r) (hret : ∀ (pc : Nat) (H : Heap) (locs : List Loc) (ls : Array Slot), narrow .boolean (.int r) = .int r → decode cX11_areFellows pc = .ok (.ireturn, 1) → wS E s mm H locs → W p l e R s m args below meth c H locs 0 0 Q (F0 m pc ls [.int r])) : ∀ (H : Heap) (locs : List Loc) (ls : Array Slot), wS E s mm H locs → lv_has ls 2 [(0, .ref x0), (1, .int x1)] → W p l e R s m args below meth c H locs 0 0 Q (F0 m 0 ls []) := by
  have hx := X.1
  have hb := X.2.1
  have hR1 := hR.1
  have hR2 := hR.2
  have hRa : 0 ≤ R.frames := by omega
  have hRb : 0 ≤ R.locals := by omega
  unfold fX11_areFellows at hf
  have hj22 : ∀ (s0 : Int32) (H : Heap) (locs : List Loc) (ls : Array Slot), fX11_areFellows_j22 (eS E) s0 mm = some r → wS E s mm H locs → lv_has ls 2 [] → W p l e R s m args below meth c H locs 0 0 Q (F0 m 22 ls [.int s0]) := by
    intro s0 H locs ls hf hS hl
    unfold fX11_areFellows_j22 at hf
    obtain ⟨v1, h1, hf⟩ := bs hf
    obtain ⟨rfl, h2⟩ := ckZ_n h1
    cases hf
    exact hret _ _ _ _ h2 dX11_areFellows_22 hS
  have hj21 : ∀ (H : Heap) (locs : List Loc) (ls : Array Slot), fX11_areFellows_j21 (eS E) mm = some r → wS E s mm H locs → lv_has ls 2 [] → W p l e R s m args below meth c H locs 0 0 Q (F0 m 21 ls []) := by
    intro H locs ls hf hS hl
    unfold fX11_areFellows_j21 at hf
    refine lv_iconst (v := 0) hx hb dX11_areFellows_21 (by decide) ?_
    exact hj22 0 H locs ls hf hS hl
  intro H locs ls hS hl
  refine lv_iload_n hx hb dX11_areFellows_0 rfl (lv_at hl 1 rfl) ?_
  refine lv_if_lt (tgt := 21) hx hb dX11_areFellows_1 (by decide) (fun q2 => ?_) (fun q2 => ?_)
  · have hf := ifp hf q2
    exact hj21  H locs ls hf hS (lv_sub hl [] rfl)
  · have hf := ifn hf q2
    refine lv_iload_n hx hb dX11_areFellows_4 rfl (lv_at hl 1 rfl) ?_
    refine lv_iconst (v := 1) hx hb dX11_areFellows_5 (by decide) ?_
    refine lv_aload_n hx hb dX11_areFellows_6 rfl (lv_at hl 0 rfl) ?_
    obtain ⟨a3, h1, hf⟩ := bs hf
    refine am_gr X hS fl_X11_19 rfl h1 dX11_areFellows_7 ?_
    obtain ⟨v4, h1, hf⟩ := bs hf
    refine am_gi X hS fl_X11_144 rfl h1 dX11_areFellows_10 ?_
    refine lv_ishl hx hb dX11_areFellows_13 ?_
    refine lv_icmp_ge (tgt := 21) hx hb dX11_areFellows_14 (by decide) (fun q5 => ?_) (fun q5 => ?_)
    · have hf := ifp hf q5
      exact hj21  H locs ls hf hS (lv_sub hl [] rfl)
    · have hf := ifn hf q5
      refine lv_iconst (v := 1) hx hb dX11_areFellows_17 (by decide) ?_
      refine lv_goto (tgt := 22) hx hb dX11_areFellows_18 (by decide) ?_
      exact hj22 1 H locs ls hf hS (lv_sub hl [] rfl)
set_option maxRecDepth 100000 in
theorem cX11_areFellows_ok {l : Launch} {E : Ev} {x0 : Nat} {x1 : Int32} {mm : Mem} {r : Int32} (hf : fX11_areFellows (eS E) x0 x1 mm = some r) : CtI l yX11_areFellows cX11_areFellows 2 (some .boolean) (0) (0) E [.ref x0, .int x1] mm r mm := by
  refine Met.ofW (cc := cX11_areFellows) (maxL := 2) (ret := (some .boolean)) (by decide) rfl ?_
  intro p e s m args below meth c s₁ B hml hv
  obtain ⟨rfl, X, hS, hr, hlocks⟩ := am_in B hv
  refine am_entry (Nat.le_of_ble_eq_true rfl) (fun ls hl => ?_)
  exact wX11_areFellows X hml ⟨Nat.le_refl _, Nat.le_refl _⟩ hf (fun pc H locs ls hn hd hS => am_ri X hS hr hn hd hlocks) _ _ ls hS hl
set_option maxHeartbeats 4000000 in
set_option maxRecDepth 100000 in
theorem wX11_spread {p : Program} {l : Launch} {e : Env} {R : Room} {s : State} {m : MethodId} {args : Array Value} {below : List Frame} {meth : Method} {c : Code} {Q : State → Prop} {E : Ev} (hl0 : l.stackTraces = false) (X : Cx p s m args c cX11_spread RX11 E) (hml : c.maxLocals = 2) (hR : 8 ≤ R.frames ∧ 141 ≤ R.locals) {x0 : Nat} {x1 : Int32} {mm : Mem} {res : Int32 ⊕ Nat} {mm1 : Mem} (hf : fX11_spread (eS E) x0 x1 mm = some (res, mm1)) (hret : ∀ r, res = .inl r → ∀ (pc : Nat) (H : Heap) (locs : List Loc) (ls : Array Slot), narrow .int (.int r) = .int r → decode cX11_spread pc = .ok (.ireturn, 1) → wS E s mm1 H locs → W p l e R s m args below meth c H locs 0 0 Q (F0 m pc ls [.int r])) (hRc : ∀ k, res = .inr k → 1 ≤ R.cells ∧ 6 ≤ R.slots) (hthr : ∀ k, res = .inr k → ∀ (pc : Nat) (H : Heap) (locs : List Loc) (ls : Array Slot) (rest : List Value) (ce : Cell) (q9 : Addr), wS E s mm1 H locs → H[q9]? = some ce → ce.vm = .none → s.vm.findClass (exN k) = some ce.cls → vx_W p l e R s m args below meth c H locs 1 6 Q (F0 m pc ls rest) q9) : ∀ (H : Heap) (locs : List Loc) (ls : Array Slot), wS E s mm H locs → lv_has ls 2 [(0, .ref x0), (1, .int x1)] → W p l e R s m args below meth c H locs 0 0 Q (F0 m 0 ls []) := by
  have hx := X.1
  have hb := X.2.1
  have hRa := hR.1
  have hRb := hR.2
  unfold fX11_spread at hf
  intro H locs ls hS hl
  refine lv_aload_n hx hb dX11_spread_0 rfl (lv_at hl 0 rfl) ?_
  refine lv_aload_n hx hb dX11_spread_1 rfl (lv_at hl 0 rfl) ?_
  refine lv_iload_n hx hb dX11_spread_2 rfl (lv_at hl 1 rfl) ?_
  obtain ⟨u0, h0, hf⟩ := bs hf
  obtain ⟨_, hrc⟩ := isO_n h0
  obtain ⟨v1, h1, hf⟩ := bs hf
  refine am_endi hS (am_runV (As := [.int x1]) X (hml.trans hl.1.symm) hS (cX11_areFellows_ok (l := l) (E := E) h1) mv_X11_279 hrc rfl ⟨Nat.le_trans (by decide) hRa, Nat.le_trans (by decide) hRb⟩ ⟨Nat.zero_le _, Nat.zero_le _⟩ rfl rfl (Nat.le_of_ble_eq_true rfl) dX11_spread_3) (fun H locs hS => ?_)
  obtain ⟨u0, h0, hf⟩ := bs hf
  obtain ⟨_, hrc⟩ := isO_n h0
  obtain ⟨u2, m3, h1, hf⟩ := bs2 hf
  rcases u2 with v4 | k1
  · have hf := sme_l hf
    refine am_endv hS (am_runV (As := [.int v1]) X (hml.trans hl.1.symm) hS (cX11_need_ok (l := l) (E := E) hl0 h1) mv_X11_186 hrc rfl ⟨Nat.le_trans (by decide) hRa, Nat.le_trans (by decide) hRb⟩ ⟨Nat.zero_le _, Nat.zero_le _⟩ rfl rfl (Nat.le_of_ble_eq_true rfl) dX11_spread_6) (fun H locs hS => ?_)
    refine lv_aload_n hx hb dX11_spread_9 rfl (lv_at hl 0 rfl) ?_
    obtain ⟨a5, h1, hf⟩ := bs hf
    refine am_gr X hS fl_X11_67 rfl h1 dX11_spread_10 ?_
    refine lv_iload_n hx hb dX11_spread_13 rfl (lv_at hl 1 rfl) ?_
    obtain ⟨u0, h0, hf⟩ := bs hf
    obtain ⟨_, hrc⟩ := isO_n h0
    obtain ⟨v6, h1, hf⟩ := bs hf
    refine am_endi hS (am_runV (As := [.int x1]) X (hml.trans hl.1.symm) hS (cX2_spreadOf_ok (l := l) (E := E) h1) mv_X11_282 hrc rfl ⟨Nat.le_trans (by decide) hRa, Nat.le_trans (by decide) hRb⟩ ⟨Nat.zero_le _, Nat.zero_le _⟩ rfl rfl (Nat.le_of_ble_eq_true rfl) dX11_spread_14) (fun H locs hS => ?_)
    cases hf
    exact hret _ rfl _ _ _ _ rfl dX11_spread_17 hS
  · have hf := sme_r hf
    cases hf
    exact am_thrV (As := [.int v1]) X (hml.trans hl.1.symm) hS (cX11_need_thr (l := l) (E := E) hl0 h1) mv_X11_186 hrc rfl ⟨Nat.le_trans (by decide) hRa, Nat.le_trans (by decide) hRb⟩ (hRc _ rfl) rfl rfl (Nat.le_of_ble_eq_true rfl) dX11_spread_6 (fun H locs ce q9 hS a1 a2 a3 => hthr _ rfl _ H locs ls _ ce q9 hS a1 a2 a3)
set_option maxRecDepth 100000 in
theorem cX11_spread_ok {l : Launch} {E : Ev} (hl0 : l.stackTraces = false) {x0 : Nat} {x1 : Int32} {mm : Mem} {r : Int32} {mm1 : Mem} (hf : fX11_spread (eS E) x0 x1 mm = some (.inl r, mm1)) : CtI l yX11_spread cX11_spread 2 (some .int) 8 141 E [.ref x0, .int x1] mm r mm1 := by
  refine Met.ofW (cc := cX11_spread) (maxL := 2) (ret := (some .int)) (by decide) rfl ?_
  intro p e s m args below meth c s₁ B hml hv
  obtain ⟨rfl, X, hS, hr, hlocks⟩ := am_in B hv
  refine am_entry (Nat.le_of_ble_eq_true rfl) (fun ls hl => ?_)
  exact wX11_spread hl0 X hml ⟨Nat.le_refl _, Nat.le_refl _⟩ hf (fun r e pc H locs ls hn hd hS => by cases e; exact am_ri X hS hr hn hd hlocks) (fun k e => by cases e) (fun k e => by cases e) _ _ ls hS hl
set_option maxRecDepth 100000 in
theorem cX11_spread_thr {l : Launch} {E : Ev} (hl0 : l.stackTraces = false) {x0 : Nat} {x1 : Int32} {mm : Mem} {k : Nat} {mm1 : Mem} (hf : fX11_spread (eS E) x0 x1 mm = some (.inr k, mm1)) : CtX l yX11_spread cX11_spread 2 (some .int) 8 141 E [.ref x0, .int x1] mm k mm1 := by
  refine vx_ofW (cc := cX11_spread) (maxL := 2) (ret := (some .int)) (by decide) rfl ?_
  intro p e s m args below meth c s₁ B hml hxt hv
  obtain ⟨rfl, X, hS, hr, hlocks⟩ := am_in B hv
  refine am_entry (Nat.le_of_ble_eq_true rfl) (fun ls hl => ?_)
  exact wX11_spread hl0 X hml ⟨Nat.le_refl _, Nat.le_refl _⟩ hf (fun r e => by cases e) (fun k e => ⟨Nat.le_refl _, Nat.le_refl _⟩) (fun k1 e pc H locs ls rest ce q9 hS a1 a2 a3 => by cases e; exact am_out X hS hxt hlocks a1 a2 a3) _ _ ls hS hl
set_option maxHeartbeats 4000000 in
set_option maxRecDepth 100000 in
theorem wX11_bow {p : Program} {l : Launch} {e : Env} {R : Room} {s : State} {m : MethodId} {args : Array Value} {below : List Frame} {meth : Method} {c : Code} {Q : State → Prop} {E : Ev} (hl0 : l.stackTraces = false) (X : Cx p s m args c cX11_bow RX11 E) (hml : c.maxLocals = 8) (hR : 8 ≤ R.frames ∧ 141 ≤ R.locals) {x0 : Nat} {x1 : Int32} {mm : Mem} {res : Int32 ⊕ Nat} {mm1 : Mem} (hf : fX11_bow (eS E) x0 x1 mm = some (res, mm1)) (hret : ∀ r, res = .inl r → ∀ (pc : Nat) (H : Heap) (locs : List Loc) (ls : Array Slot), narrow .int (.int r) = .int r → decode cX11_bow pc = .ok (.ireturn, 1) → wS E s mm1 H locs → W p l e R s m args below meth c H locs 0 0 Q (F0 m pc ls [.int r])) (hRc : ∀ k, res = .inr k → 1 ≤ R.cells ∧ 6 ≤ R.slots) (hthr : ∀ k, res = .inr k → ∀ (pc : Nat) (H : Heap) (locs : List Loc) (ls : Array Slot) (rest : List Value) (ce : Cell) (q9 : Addr), wS E s mm1 H locs → H[q9]? = some ce → ce.vm = .none → s.vm.findClass (exN k) = some ce.cls → vx_W p l e R s m args below meth c H locs 1 6 Q (F0 m pc ls rest) q9) : ∀ (H : Heap) (locs : List Loc) (ls : Array Slot), wS E s mm H locs → lv_has ls 8 [(0, .ref x0), (1, .int x1)] → W p l e R s m args below meth c H locs 0 0 Q (F0 m 0 ls []) := by
  have hx := X.1
  have hb := X.2.1
  have hRa := hR.1
  have hRb := hR.2
  unfold fX11_bow at hf
  have hj125 : ∀ (s0 : Int32) (mm : Mem) (H : Heap) (locs : List Loc) (ls : Array Slot), fX11_bow_j125 (eS E) s0 mm = some (res, mm1) → wS E s mm H locs → lv_has ls 8 [] → W p l e R s m args below meth c H locs 0 0 Q (F0 m 125 ls [.int s0]) := by
    intro s0 mm H locs ls hf hS hl
    unfold fX11_bow_j125 at hf
    cases hf
    exact hret _ rfl _ _ _ _ rfl dX11_bow_125 hS
  have hj116 : ∀ (x1 : Int32) (x2 : Int32) (x3 : Int32) (mm : Mem) (H : Heap) (locs : List Loc) (ls : Array Slot), fX11_bow_j116 (eS E) x1 x2 x3 mm = some (res, mm1) → wS E s mm H locs → lv_has ls 8 [(1, .int x1), (2, .int x2), (3, .int x3)] → W p l e R s m args below meth c H locs 0 0 Q (F0 m 116 ls []) := by
    intro x1 x2 x3 mm H locs ls hf hS hl
    unfold fX11_bow_j116 at hf
    refine lv_iload_n hx hb dX11_bow_116 rfl (lv_at hl 0 rfl) ?_
    refine lv_if_ne (tgt := 124) hx hb dX11_bow_117 (by decide) (fun q1 => ?_) (fun q1 => ?_)
    · have hf := ifn hf q1
      refine lv_iload_n hx hb dX11_bow_124 rfl (lv_at hl 2 rfl) ?_
      exact hj125 x3 mm H locs ls hf hS (lv_sub hl [] rfl)
    · have hf := ifp hf q1
      refine lv_iload_n hx hb dX11_bow_120 rfl (lv_at hl 1 rfl) ?_
      refine lv_goto (tgt := 125) hx hb dX11_bow_121 (by decide) ?_
      exact hj125 x2 mm H locs ls hf hS (lv_sub hl [] rfl)
  have hj15 : ∀ (x0 : Nat) (x1 : Int32) (s0 : Nat) (s1 : Int32) (mm : Mem) (H : Heap) (locs : List Loc) (ls : Array Slot), fX11_bow_j15 (eS E) x0 x1 s0 s1 mm = some (res, mm1) → wS E s mm H locs → lv_has ls 8 [(0, .ref x0), (1, .int x1)] → W p l e R s m args below meth c H locs 0 0 Q (F0 m 15 ls [.int s1, .ref s0]) := by
    intro x0 x1 s0 s1 mm H locs ls hf hS hl
    unfold fX11_bow_j15 at hf
    obtain ⟨u0, h0, hf⟩ := bs hf
    obtain ⟨_, hrc⟩ := isO_n h0
    obtain ⟨u2, m3, h1, hf⟩ := bs2 hf
    rcases u2 with v4 | k1
    · have hf := sme_l hf
      refine am_endv hS (am_runV (As := [.int s1]) X (hml.trans hl.1.symm) hS (cX11_need_ok (l := l) (E := E) hl0 h1) mv_X11_186 hrc rfl ⟨Nat.le_trans (by decide) hRa, Nat.le_trans (by decide) hRb⟩ ⟨Nat.zero_le _, Nat.zero_le _⟩ rfl rfl (Nat.le_of_ble_eq_true rfl) dX11_bow_15) (fun H locs hS => ?_)
      refine lv_iconst (v := (-1)) hx hb dX11_bow_18 (by decide) ?_
      refine lv_topi (fun x2_5 e1 => ?_)
      have hf := lt1_n e1 hf
      refine lv_istore_n (lv' := [(2, .int x2_5), (0, .ref x0), (1, .int x1)]) hx hb dX11_bow_19 rfl hl (by decide) rfl (fun ls hl => ?_)
      refine lv_iconst (v := (-1)) hx hb dX11_bow_20 (by decide) ?_
      refine lv_topi (fun x3_6 e1 => ?_)
      have hf := lt1_n e1 hf
      refine lv_istore_n (lv' := [(3, .int x3_6), (2, .int x2_5), (0, .ref x0), (1, .int x1)]) hx hb dX11_bow_21 rfl hl (by decide) rfl (fun ls hl => ?_)
      refine lv_iconst (v := 0) hx hb dX11_bow_22 (by decide) ?_
      refine lv_topi (fun x4_7 e1 => ?_)
      have hf := lt1_n e1 hf
      refine lv_istore (lv' := [(4, .int x4_7), (3, .int x3_6), (2, .int x2_5), (0, .ref x0), (1, .int x1)]) hx hb dX11_bow_23 hl (by decide) rfl (fun ls hl => ?_)
      refine lv_iconst (v := 3) hx hb dX11_bow_25 (by decide) ?_
      refine lv_topi (fun x5_8 e1 => ?_)
      have hf := lt1_n e1 hf
      refine lv_istore (lv' := [(5, .int x5_8), (4, .int x4_7), (3, .int x3_6), (2, .int x2_5), (0, .ref x0), (1, .int x1)]) hx hb dX11_bow_26 hl (by decide) rfl (fun ls hl => ?_)
      obtain ⟨ex28, hl28, hk28⟩ := bs hf
      refine loop_W (P := fun st => ∀ (H : Heap) (locs : List Loc) (ls : Array Slot), wS E s m3 H locs → lv_has ls 8 [(0, .ref x0), (1, .int x1), (2, .int st.1), (3, .int st.2.1), (4, .int st.2.2.1), (5, .int st.2.2.2)] → W p l e R s m args below meth c H locs 0 0 Q (F0 m 28 ls [])) (ex := ex28) ?_ FU _ hl28 H locs ls hS (lv_sub hl [4, 5, 3, 2, 1, 0] rfl)
      intro st y28 hf hyL28 hyR28 H locs ls hS hl
      obtain ⟨x2, x3, x4, x5⟩ := st
      obtain ⟨mm, rfl⟩ : ∃ z, z = m3 := ⟨_, rfl⟩
      have hf : fX11_bow_b28 (eS E) x0 x1 x2 x3 x4 x5 mm = some y28 := hf
      have hS : wS E s mm H locs := hS
      have hl : lv_has ls 8 [(0, .ref x0), (1, .int x1), (2, .int x2), (3, .int x3), (4, .int x4), (5, .int x5)] := hl
      unfold fX11_bow_b28 at hf
      have hj110 : ∀ (x2 : Int32) (x3 : Int32) (x4 : Int32) (x5 : Int32) (H : Heap) (locs : List Loc) (ls : Array Slot), fX11_bow_j110 (eS E) x0 x1 x2 x3 x4 x5 mm = some y28 → wS E s mm H locs → lv_has ls 8 [(0, .ref x0), (1, .int x1), (2, .int x2), (3, .int x3), (4, .int x4), (5, .int x5)] → W p l e R s m args below meth c H locs 0 0 Q (F0 m 110 ls []) := by
        intro x2 x3 x4 x5 H locs ls hf hS hl
        unfold fX11_bow_j110 at hf
        obtain ⟨x5_9, e1⟩ : ∃ z : Int32, z = x5 + 1 := ⟨_, rfl⟩
        have hf := lt1_n e1 hf
        refine lv_iinc (v := x5_9) (lv' := [(5, .int x5_9), (0, .ref x0), (1, .int x1), (2, .int x2), (3, .int x3), (4, .int x4)]) hx hb dX11_bow_110 hl (k := 5) rfl (by rw [e1]; rfl) (by decide) rfl (fun ls hl => ?_)
        refine lv_goto (tgt := 28) hx hb dX11_bow_113 (by decide) ?_
        exact hyL28 _ (Option.some.inj hf).symm H locs ls hS (lv_sub hl [1, 2, 3, 4, 5, 0] rfl)
      have hj100 : ∀ (x5 : Int32) (x6 : Int32) (x7 : Int32) (H : Heap) (locs : List Loc) (ls : Array Slot), fX11_bow_j100 (eS E) x0 x1 x5 x6 x7 mm = some y28 → wS E s mm H locs → lv_has ls 8 [(0, .ref x0), (1, .int x1), (5, .int x5), (6, .int x6), (7, .int x7)] → W p l e R s m args below meth c H locs 0 0 Q (F0 m 100 ls []) := by
        intro x5 x6 x7 H locs ls hf hS hl
        unfold fX11_bow_j100 at hf
        refine lv_iload hx hb dX11_bow_100 (lv_at hl 2 rfl) ?_
        refine lv_topi (fun x2_10 e1 => ?_)
        have hf := lt1_n e1 hf
        refine lv_istore_n (lv' := [(2, .int x2_10), (0, .ref x0), (1, .int x1), (5, .int x5), (6, .int x6), (7, .int x7)]) hx hb dX11_bow_102 rfl hl (by decide) rfl (fun ls hl => ?_)
        refine lv_iload hx hb dX11_bow_103 (lv_at hl 4 rfl) ?_
        refine lv_topi (fun x3_11 e1 => ?_)
        have hf := lt1_n e1 hf
        refine lv_istore_n (lv' := [(3, .int x3_11), (2, .int x2_10), (0, .ref x0), (1, .int x1), (5, .int x5), (6, .int x6), (7, .int x7)]) hx hb dX11_bow_105 rfl hl (by decide) rfl (fun ls hl => ?_)
        refine lv_iload hx hb dX11_bow_106 (lv_at hl 6 rfl) ?_
        refine lv_topi (fun x4_12 e1 => ?_)
        have hf := lt1_n e1 hf
        refine lv_istore (lv' := [(4, .int x4_12), (3, .int x3_11), (2, .int x2_10), (0, .ref x0), (1, .int x1), (5, .int x5), (6, .int x6), (7, .int x7)]) hx hb dX11_bow_108 hl (by decide) rfl (fun ls hl => ?_)
        exact hj110 x2_10 x3_11 x4_12 x5 H locs ls hf hS (lv_sub hl [3, 4, 2, 1, 0, 5] rfl)
      refine lv_iload hx hb dX11_bow_28 (lv_at hl 5 rfl) ?_
      refine lv_iconst (v := 1) hx hb dX11_bow_30 (by decide) ?_
      refine lv_aload_n hx hb dX11_bow_31 rfl (lv_at hl 0 rfl) ?_
      obtain ⟨a13, h1, hf⟩ := bs hf
      refine am_gr X hS fl_X11_19 rfl h1 dX11_bow_32 ?_
      obtain ⟨v14, h1, hf⟩ := bs hf
      refine am_gi X hS fl_X11_144 rfl h1 dX11_bow_35 ?_
      refine lv_ishl hx hb dX11_bow_38 ?_
      refine lv_icmp_ge (tgt := 116) hx hb dX11_bow_39 (by decide) (fun q15 => ?_) (fun q15 => ?_)
      · have hf := ifp hf q15
        obtain rfl : (x2, x3) = ex28 := hyR28 _ (Option.some.inj hf).symm
        exact hj116 x1 x2 x3 mm H locs ls hk28 hS (lv_sub hl [1, 2, 3] rfl)
      · have hf := ifn hf q15
        refine lv_iload hx hb dX11_bow_42 (lv_at hl 5 rfl) ?_
        obtain ⟨v16, h1, hf⟩ := bs hf
        refine am_endi hS (am_runS (As := [.int x5]) X (hml.trans hl.1.symm) hS (cJ6_bitCount_0f7a4_ok (l := l) (E := E) h1) ms_X11_285 ⟨Nat.le_trans (by decide) hRa, Nat.le_trans (by decide) hRb⟩ ⟨Nat.zero_le _, Nat.zero_le _⟩ rfl rfl (Nat.le_of_ble_eq_true rfl) dX11_bow_44) (fun H locs hS => ?_)
        refine lv_iconst (v := 2) hx hb dX11_bow_47 (by decide) ?_
        refine lv_icmp_ge (tgt := 54) hx hb dX11_bow_48 (by decide) (fun q17 => ?_) (fun q17 => ?_)
        · have hf := ifp hf q17
          refine lv_aload_n hx hb dX11_bow_54 rfl (lv_at hl 0 rfl) ?_
          obtain ⟨a18, h1, hf⟩ := bs hf
          refine am_gr X hS fl_X11_67 rfl h1 dX11_bow_55 ?_
          refine lv_iload hx hb dX11_bow_58 (lv_at hl 5 rfl) ?_
          obtain ⟨u0, h0, hf⟩ := bs hf
          obtain ⟨_, hrc⟩ := isO_n h0
          obtain ⟨v19, h1, hf⟩ := bs hf
          refine am_endi hS (am_runV (As := [.int x5]) X (hml.trans hl.1.symm) hS (cX2_spreadOf_ok (l := l) (E := E) h1) mv_X11_282 hrc rfl ⟨Nat.le_trans (by decide) hRa, Nat.le_trans (by decide) hRb⟩ ⟨Nat.zero_le _, Nat.zero_le _⟩ rfl rfl (Nat.le_of_ble_eq_true rfl) dX11_bow_60) (fun H locs hS => ?_)
          refine lv_topi (fun x6_20 e1 => ?_)
          have hf := lt1_n e1 hf
          refine lv_istore (lv' := [(6, .int x6_20), (0, .ref x0), (1, .int x1), (2, .int x2), (3, .int x3), (4, .int x4), (5, .int x5)]) hx hb dX11_bow_63 hl (by decide) rfl (fun ls hl => ?_)
          refine lv_aload_n hx hb dX11_bow_65 rfl (lv_at hl 1 rfl) ?_
          obtain ⟨a21, h1, hf⟩ := bs hf
          refine am_gr X hS fl_X11_67 rfl h1 dX11_bow_66 ?_
          refine lv_iload hx hb dX11_bow_69 (lv_at hl 6 rfl) ?_
          obtain ⟨u0, h0, hf⟩ := bs hf
          obtain ⟨_, hrc⟩ := isO_n h0
          obtain ⟨v22, h1, hf⟩ := bs hf
          refine am_endi hS (am_runV (As := [.int x5]) X (hml.trans hl.1.symm) hS (cX2_muchWithin_ok (l := l) (E := E) h1) mv_X11_290 hrc rfl ⟨Nat.le_trans (by decide) hRa, Nat.le_trans (by decide) hRb⟩ ⟨Nat.zero_le _, Nat.zero_le _⟩ rfl rfl (Nat.le_of_ble_eq_true rfl) dX11_bow_71) (fun H locs hS => ?_)
          refine lv_topi (fun x7_23 e1 => ?_)
          have hf := lt1_n e1 hf
          refine lv_istore (lv' := [(7, .int x7_23), (6, .int x6_20), (0, .ref x0), (1, .int x1), (2, .int x2), (3, .int x3), (4, .int x4), (5, .int x5)]) hx hb dX11_bow_74 hl (by decide) rfl (fun ls hl => ?_)
          refine lv_iload_n hx hb dX11_bow_76 rfl (lv_at hl 4 rfl) ?_
          refine lv_iconst (v := (-1)) hx hb dX11_bow_77 (by decide) ?_
          refine lv_icmp_eq (tgt := 100) hx hb dX11_bow_78 (by decide) (fun q24 => ?_) (fun q24 => ?_)
          · have hf := ifp hf q24
            exact hj100 x5 x6_20 x7_23 H locs ls hf hS (lv_sub hl [2, 3, 7, 1, 0] rfl)
          · have hf := ifn hf q24
            refine lv_iload hx hb dX11_bow_81 (lv_at hl 1 rfl) ?_
            refine lv_iload_n hx hb dX11_bow_83 rfl (lv_at hl 5 rfl) ?_
            refine lv_icmp_lt (tgt := 100) hx hb dX11_bow_84 (by decide) (fun q25 => ?_) (fun q25 => ?_)
            · have hf := ifp hf q25
              exact hj100 x5 x6_20 x7_23 H locs ls hf hS (lv_sub hl [2, 3, 7, 1, 0] rfl)
            · have hf := ifn hf q25
              refine lv_iload hx hb dX11_bow_87 (lv_at hl 1 rfl) ?_
              refine lv_iload_n hx hb dX11_bow_89 rfl (lv_at hl 5 rfl) ?_
              refine lv_icmp_ne (tgt := 110) hx hb dX11_bow_90 (by decide) (fun q26 => ?_) (fun q26 => ?_)
              · have hf := ifn hf q26
                exact hj110 x2 x3 x4 x5 H locs ls hf hS (lv_sub hl [2, 3, 4, 5, 6, 7] rfl)
              · have hf := ifp hf q26
                refine lv_iload hx hb dX11_bow_93 (lv_at hl 0 rfl) ?_
                refine lv_iload hx hb dX11_bow_95 (lv_at hl 6 rfl) ?_
                refine lv_icmp_le (tgt := 110) hx hb dX11_bow_97 (by decide) (fun q27 => ?_) (fun q27 => ?_)
                · have hf := ifp hf q27
                  exact hj110 x2 x3 x4 x5 H locs ls hf hS (lv_sub hl [2, 3, 4, 5, 6, 7] rfl)
                · have hf := ifn hf q27
                  exact hj100 x5 x6_20 x7_23 H locs ls hf hS (lv_sub hl [2, 3, 7, 1, 0] rfl)
        · have hf := ifn hf q17
          refine lv_goto (tgt := 110) hx hb dX11_bow_51 (by decide) ?_
          exact hj110 x2 x3 x4 x5 H locs ls hf hS hl
    · have hf := sme_r hf
      cases hf
      exact am_thrV (As := [.int s1]) X (hml.trans hl.1.symm) hS (cX11_need_thr (l := l) (E := E) hl0 h1) mv_X11_186 hrc rfl ⟨Nat.le_trans (by decide) hRa, Nat.le_trans (by decide) hRb⟩ (hRc _ rfl) rfl rfl (Nat.le_of_ble_eq_true rfl) dX11_bow_15 (fun H locs ce q9 hS a1 a2 a3 => hthr _ rfl _ H locs ls _ ce q9 hS a1 a2 a3)
  have hj10 : ∀ (x0 : Nat) (x1 : Int32) (s0 : Nat) (mm : Mem) (H : Heap) (locs : List Loc) (ls : Array Slot), fX11_bow_j10 (eS E) x0 x1 s0 mm = some (res, mm1) → wS E s mm H locs → lv_has ls 8 [(0, .ref x0), (1, .int x1)] → W p l e R s m args below meth c H locs 0 0 Q (F0 m 10 ls [.ref s0]) := by
    intro x0 x1 s0 mm H locs ls hf hS hl
    unfold fX11_bow_j10 at hf
    refine lv_iconst (v := 1) hx hb dX11_bow_10 (by decide) ?_
    refine lv_goto (tgt := 15) hx hb dX11_bow_11 (by decide) ?_
    exact hj15 x0 x1 s0 1 mm H locs ls hf hS hl
  intro H locs ls hS hl
  refine lv_aload_n hx hb dX11_bow_0 rfl (lv_at hl 0 rfl) ?_
  refine lv_iload_n hx hb dX11_bow_1 rfl (lv_at hl 1 rfl) ?_
  refine lv_if_eq (tgt := 10) hx hb dX11_bow_2 (by decide) (fun q28 => ?_) (fun q28 => ?_)
  · have hf := ifp hf q28
    exact hj10 x0 x1 x0 mm H locs ls hf hS hl
  · have hf := ifn hf q28
    refine lv_iload_n hx hb dX11_bow_5 rfl (lv_at hl 1 rfl) ?_
    refine lv_iconst (v := 1) hx hb dX11_bow_6 (by decide) ?_
    refine lv_icmp_ne (tgt := 14) hx hb dX11_bow_7 (by decide) (fun q29 => ?_) (fun q29 => ?_)
    · have hf := ifn hf q29
      refine lv_iconst (v := 0) hx hb dX11_bow_14 (by decide) ?_
      exact hj15 x0 x1 x0 0 mm H locs ls hf hS hl
    · have hf := ifp hf q29
      exact hj10 x0 x1 x0 mm H locs ls hf hS hl
set_option maxRecDepth 100000 in
theorem cX11_bow_ok {l : Launch} {E : Ev} (hl0 : l.stackTraces = false) {x0 : Nat} {x1 : Int32} {mm : Mem} {r : Int32} {mm1 : Mem} (hf : fX11_bow (eS E) x0 x1 mm = some (.inl r, mm1)) : CtI l yX11_bow cX11_bow 8 (some .int) 8 141 E [.ref x0, .int x1] mm r mm1 := by
  refine Met.ofW (cc := cX11_bow) (maxL := 8) (ret := (some .int)) (by decide) rfl ?_
  intro p e s m args below meth c s₁ B hml hv
  obtain ⟨rfl, X, hS, hr, hlocks⟩ := am_in B hv
  refine am_entry (Nat.le_of_ble_eq_true rfl) (fun ls hl => ?_)
  exact wX11_bow hl0 X hml ⟨Nat.le_refl _, Nat.le_refl _⟩ hf (fun r e pc H locs ls hn hd hS => by cases e; exact am_ri X hS hr hn hd hlocks) (fun k e => by cases e) (fun k e => by cases e) _ _ ls hS hl
set_option maxRecDepth 100000 in
theorem cX11_bow_thr {l : Launch} {E : Ev} (hl0 : l.stackTraces = false) {x0 : Nat} {x1 : Int32} {mm : Mem} {k : Nat} {mm1 : Mem} (hf : fX11_bow (eS E) x0 x1 mm = some (.inr k, mm1)) : CtX l yX11_bow cX11_bow 8 (some .int) 8 141 E [.ref x0, .int x1] mm k mm1 := by
  refine vx_ofW (cc := cX11_bow) (maxL := 8) (ret := (some .int)) (by decide) rfl ?_
  intro p e s m args below meth c s₁ B hml hxt hv
  obtain ⟨rfl, X, hS, hr, hlocks⟩ := am_in B hv
  refine am_entry (Nat.le_of_ble_eq_true rfl) (fun ls hl => ?_)
  exact wX11_bow hl0 X hml ⟨Nat.le_refl _, Nat.le_refl _⟩ hf (fun r e => by cases e) (fun k e => ⟨Nat.le_refl _, Nat.le_refl _⟩) (fun k1 e pc H locs ls rest ce q9 hS a1 a2 a3 => by cases e; exact am_out X hS hxt hlocks a1 a2 a3) _ _ ls hS hl
set_option maxHeartbeats 4000000 in
set_option maxRecDepth 100000 in
theorem wX11_through {p : Program} {l : Launch} {e : Env} {R : Room} {s : State} {m : MethodId} {args : Array Value} {below : List Frame} {meth : Method} {c : Code} {Q : State → Prop} {E : Ev} (hl0 : l.stackTraces = false) (X : Cx p s m args c cX11_through RX11 E) (hml : c.maxLocals = 6) (hR : 8 ≤ R.frames ∧ 141 ≤ R.locals) {x0 : Nat} {x1 : Int32} {x2 : Int32} {x3 : Int32} {mm : Mem} {res : Int32 ⊕ Nat} {mm1 : Mem} (hf : fX11_through (eS E) x0 x1 x2 x3 mm = some (res, mm1)) (hret : ∀ r, res = .inl r → ∀ (pc : Nat) (H : Heap) (locs : List Loc) (ls : Array Slot), narrow .int (.int r) = .int r → decode cX11_through pc = .ok (.ireturn, 1) → wS E s mm1 H locs → W p l e R s m args below meth c H locs 0 0 Q (F0 m pc ls [.int r])) (hRc : ∀ k, res = .inr k → 1 ≤ R.cells ∧ 6 ≤ R.slots) (hthr : ∀ k, res = .inr k → ∀ (pc : Nat) (H : Heap) (locs : List Loc) (ls : Array Slot) (rest : List Value) (ce : Cell) (q9 : Addr), wS E s mm1 H locs → H[q9]? = some ce → ce.vm = .none → s.vm.findClass (exN k) = some ce.cls → vx_W p l e R s m args below meth c H locs 1 6 Q (F0 m pc ls rest) q9) : ∀ (H : Heap) (locs : List Loc) (ls : Array Slot), wS E s mm H locs → lv_has ls 6 [(0, .ref x0), (1, .int x1), (2, .int x2), (3, .int x3)] → W p l e R s m args below meth c H locs 0 0 Q (F0 m 0 ls []) := by
  have hx := X.1
  have hb := X.2.1
  have hRa := hR.1
  have hRb := hR.2
  unfold fX11_through at hf
  have hj104 : ∀ (x4 : Int32) (mm : Mem) (H : Heap) (locs : List Loc) (ls : Array Slot), fX11_through_j104 (eS E) x4 mm = some (res, mm1) → wS E s mm H locs → lv_has ls 6 [(4, .int x4)] → W p l e R s m args below meth c H locs 0 0 Q (F0 m 104 ls []) := by
    intro x4 mm H locs ls hf hS hl
    unfold fX11_through_j104 at hf
    refine lv_iload hx hb dX11_through_104 (lv_at hl 0 rfl) ?_
    cases hf
    exact hret _ rfl _ _ _ _ rfl dX11_through_106 hS
  have hj26 : ∀ (x0 : Nat) (x1 : Int32) (x2 : Int32) (x3 : Int32) (s0 : Nat) (s1 : Int32) (mm : Mem) (H : Heap) (locs : List Loc) (ls : Array Slot), fX11_through_j26 (eS E) x0 x1 x2 x3 s0 s1 mm = some (res, mm1) → wS E s mm H locs → lv_has ls 6 [(0, .ref x0), (1, .int x1), (2, .int x2), (3, .int x3)] → W p l e R s m args below meth c H locs 0 0 Q (F0 m 26 ls [.int s1, .ref s0]) := by
    intro x0 x1 x2 x3 s0 s1 mm H locs ls hf hS hl
    unfold fX11_through_j26 at hf
    obtain ⟨u0, h0, hf⟩ := bs hf
    obtain ⟨_, hrc⟩ := isO_n h0
    obtain ⟨u1, m2, h1, hf⟩ := bs2 hf
    rcases u1 with v3 | k1
    · have hf := sme_l hf
      refine am_endv hS (am_runV (As := [.int s1]) X (hml.trans hl.1.symm) hS (cX11_need_ok (l := l) (E := E) hl0 h1) mv_X11_186 hrc rfl ⟨Nat.le_trans (by decide) hRa, Nat.le_trans (by decide) hRb⟩ ⟨Nat.zero_le _, Nat.zero_le _⟩ rfl rfl (Nat.le_of_ble_eq_true rfl) dX11_through_26) (fun H locs hS => ?_)
      refine lv_aload_n hx hb dX11_through_29 rfl (lv_at hl 0 rfl) ?_
      obtain ⟨a4, h1, hf⟩ := bs hf
      refine am_gr X hS fl_X11_51 rfl h1 dX11_through_30 ?_
      refine lv_aload_n hx hb dX11_through_33 rfl (lv_at hl 0 rfl) ?_
      obtain ⟨a5, h1, hf⟩ := bs hf
      refine am_gr X hS fl_X11_67 rfl h1 dX11_through_34 ?_
      refine lv_iload_n hx hb dX11_through_37 rfl (lv_at hl 1 rfl) ?_
      refine lv_iload_n hx hb dX11_through_38 rfl (lv_at hl 2 rfl) ?_
      obtain ⟨u0, h0, hf⟩ := bs hf
      obtain ⟨_, hrc⟩ := isO_n h0
      obtain ⟨m6, h1, hf⟩ := bs hf
      refine am_endv hS (am_runV (As := [.ref a5, .int x1, .int x2]) X (hml.trans hl.1.symm) hS (cX5_turnByAllGlasses_ok (l := l) (E := E) h1) mv_X11_293 hrc rfl ⟨Nat.le_trans (by decide) hRa, Nat.le_trans (by decide) hRb⟩ ⟨Nat.zero_le _, Nat.zero_le _⟩ rfl rfl (Nat.le_of_ble_eq_true rfl) dX11_through_39) (fun H locs hS => ?_)
      refine lv_iconst (v := (-1)) hx hb dX11_through_42 (by decide) ?_
      refine lv_topi (fun x4_7 e1 => ?_)
      have hf := lt1_n e1 hf
      refine lv_istore (lv' := [(4, .int x4_7), (0, .ref x0), (1, .int x1), (2, .int x2), (3, .int x3)]) hx hb dX11_through_43 hl (by decide) rfl (fun ls hl => ?_)
      refine lv_iconst (v := 0) hx hb dX11_through_45 (by decide) ?_
      refine lv_topi (fun x5_8 e1 => ?_)
      have hf := lt1_n e1 hf
      refine lv_istore (lv' := [(5, .int x5_8), (4, .int x4_7), (0, .ref x0), (1, .int x1), (2, .int x2), (3, .int x3)]) hx hb dX11_through_46 hl (by decide) rfl (fun ls hl => ?_)
      obtain ⟨ex48, hl48, hk48⟩ := bs hf
      refine loop_W (P := fun st => ∀ (H : Heap) (locs : List Loc) (ls : Array Slot), wS E s m6 H locs → lv_has ls 6 [(0, .ref x0), (3, .int x3), (4, .int st.1), (5, .int st.2)] → W p l e R s m args below meth c H locs 0 0 Q (F0 m 48 ls [])) (ex := ex48) ?_ FU _ hl48 H locs ls hS (lv_sub hl [2, 5, 1, 0] rfl)
      intro st y48 hf hyL48 hyR48 H locs ls hS hl
      obtain ⟨x4, x5⟩ := st
      obtain ⟨mm, rfl⟩ : ∃ z, z = m6 := ⟨_, rfl⟩
      have hf : fX11_through_b48 (eS E) x0 x3 x4 x5 mm = some y48 := hf
      have hS : wS E s mm H locs := hS
      have hl : lv_has ls 6 [(0, .ref x0), (3, .int x3), (4, .int x4), (5, .int x5)] := hl
      unfold fX11_through_b48 at hf
      have hj98 : ∀ (x4 : Int32) (x5 : Int32) (H : Heap) (locs : List Loc) (ls : Array Slot), fX11_through_j98 (eS E) x0 x3 x4 x5 mm = some y48 → wS E s mm H locs → lv_has ls 6 [(0, .ref x0), (3, .int x3), (4, .int x4), (5, .int x5)] → W p l e R s m args below meth c H locs 0 0 Q (F0 m 98 ls []) := by
        intro x4 x5 H locs ls hf hS hl
        unfold fX11_through_j98 at hf
        obtain ⟨x5_9, e1⟩ : ∃ z : Int32, z = x5 + 1 := ⟨_, rfl⟩
        have hf := lt1_n e1 hf
        refine lv_iinc (v := x5_9) (lv' := [(5, .int x5_9), (0, .ref x0), (3, .int x3), (4, .int x4)]) hx hb dX11_through_98 hl (k := 3) rfl (by rw [e1]; rfl) (by decide) rfl (fun ls hl => ?_)
        refine lv_goto (tgt := 48) hx hb dX11_through_101 (by decide) ?_
        exact hyL48 _ (Option.some.inj hf).symm H locs ls hS (lv_sub hl [1, 2, 3, 0] rfl)
      have hj94 : ∀ (x5 : Int32) (H : Heap) (locs : List Loc) (ls : Array Slot), fX11_through_j94 (eS E) x0 x3 x5 mm = some y48 → wS E s mm H locs → lv_has ls 6 [(0, .ref x0), (3, .int x3), (5, .int x5)] → W p l e R s m args below meth c H locs 0 0 Q (F0 m 94 ls []) := by
        intro x5 H locs ls hf hS hl
        unfold fX11_through_j94 at hf
        refine lv_iload hx hb dX11_through_94 (lv_at hl 2 rfl) ?_
        refine lv_topi (fun x4_10 e1 => ?_)
        have hf := lt1_n e1 hf
        refine lv_istore (lv' := [(4, .int x4_10), (0, .ref x0), (3, .int x3), (5, .int x5)]) hx hb dX11_through_96 hl (by decide) rfl (fun ls hl => ?_)
        exact hj98 x4_10 x5 H locs ls hf hS (lv_sub hl [1, 2, 0, 3] rfl)
      refine lv_iload hx hb dX11_through_48 (lv_at hl 3 rfl) ?_
      refine lv_iconst (v := 1) hx hb dX11_through_50 (by decide) ?_
      refine lv_aload_n hx hb dX11_through_51 rfl (lv_at hl 0 rfl) ?_
      obtain ⟨a11, h1, hf⟩ := bs hf
      refine am_gr X hS fl_X11_19 rfl h1 dX11_through_52 ?_
      obtain ⟨v12, h1, hf⟩ := bs hf
      refine am_gi X hS fl_X11_190 rfl h1 dX11_through_55 ?_
      refine lv_ishl hx hb dX11_through_58 ?_
      refine lv_icmp_ge (tgt := 104) hx hb dX11_through_59 (by decide) (fun q13 => ?_) (fun q13 => ?_)
      · have hf := ifp hf q13
        obtain rfl : x4 = ex48 := hyR48 _ (Option.some.inj hf).symm
        exact hj104 x4 mm H locs ls hk48 hS (lv_sub hl [2] rfl)
      · have hf := ifn hf q13
        refine lv_aload_n hx hb dX11_through_62 rfl (lv_at hl 0 rfl) ?_
        obtain ⟨a14, h1, hf⟩ := bs hf
        refine am_gr X hS fl_X11_51 rfl h1 dX11_through_63 ?_
        refine lv_iload hx hb dX11_through_66 (lv_at hl 3 rfl) ?_
        obtain ⟨u0, h0, hf⟩ := bs hf
        obtain ⟨_, hrc⟩ := isO_n h0
        obtain ⟨v15, h1, hf⟩ := bs hf
        refine am_endi hS (am_runV (As := [.int x5]) X (hml.trans hl.1.symm) hS (cX5_sumOfTurns_ok (l := l) (E := E) h1) mv_X11_297 hrc rfl ⟨Nat.le_trans (by decide) hRa, Nat.le_trans (by decide) hRb⟩ ⟨Nat.zero_le _, Nat.zero_le _⟩ rfl rfl (Nat.le_of_ble_eq_true rfl) dX11_through_68) (fun H locs hS => ?_)
        refine lv_iload_n hx hb dX11_through_71 rfl (lv_at hl 1 rfl) ?_
        refine lv_icmp_ne (tgt := 98) hx hb dX11_through_72 (by decide) (fun q16 => ?_) (fun q16 => ?_)
        · have hf := ifn hf q16
          exact hj98 x4 x5 H locs ls hf hS hl
        · have hf := ifp hf q16
          refine lv_iload hx hb dX11_through_75 (lv_at hl 2 rfl) ?_
          refine lv_iconst (v := (-1)) hx hb dX11_through_77 (by decide) ?_
          refine lv_icmp_eq (tgt := 94) hx hb dX11_through_78 (by decide) (fun q17 => ?_) (fun q17 => ?_)
          · have hf := ifp hf q17
            exact hj94 x5 H locs ls hf hS (lv_sub hl [0, 1, 3] rfl)
          · have hf := ifn hf q17
            refine lv_iload hx hb dX11_through_81 (lv_at hl 3 rfl) ?_
            obtain ⟨v18, h1, hf⟩ := bs hf
            refine am_endi hS (am_runS (As := [.int x5]) X (hml.trans hl.1.symm) hS (cJ6_bitCount_0f7a4_ok (l := l) (E := E) h1) ms_X11_285 ⟨Nat.le_trans (by decide) hRa, Nat.le_trans (by decide) hRb⟩ ⟨Nat.zero_le _, Nat.zero_le _⟩ rfl rfl (Nat.le_of_ble_eq_true rfl) dX11_through_83) (fun H locs hS => ?_)
            refine lv_iload hx hb dX11_through_86 (lv_at hl 2 rfl) ?_
            obtain ⟨v19, h1, hf⟩ := bs hf
            refine am_endi hS (am_runS (As := [.int x4]) X (hml.trans hl.1.symm) hS (cJ6_bitCount_0f7a4_ok (l := l) (E := E) h1) ms_X11_285 ⟨Nat.le_trans (by decide) hRa, Nat.le_trans (by decide) hRb⟩ ⟨Nat.zero_le _, Nat.zero_le _⟩ rfl rfl (Nat.le_of_ble_eq_true rfl) dX11_through_88) (fun H locs hS => ?_)
            refine lv_icmp_ge (tgt := 98) hx hb dX11_through_91 (by decide) (fun q20 => ?_) (fun q20 => ?_)
            · have hf := ifp hf q20
              exact hj98 x4 x5 H locs ls hf hS hl
            · have hf := ifn hf q20
              exact hj94 x5 H locs ls hf hS (lv_sub hl [0, 1, 3] rfl)
    · have hf := sme_r hf
      cases hf
      exact am_thrV (As := [.int s1]) X (hml.trans hl.1.symm) hS (cX11_need_thr (l := l) (E := E) hl0 h1) mv_X11_186 hrc rfl ⟨Nat.le_trans (by decide) hRa, Nat.le_trans (by decide) hRb⟩ (hRc _ rfl) rfl rfl (Nat.le_of_ble_eq_true rfl) dX11_through_26 (fun H locs ce q9 hS a1 a2 a3 => hthr _ rfl _ H locs ls _ ce q9 hS a1 a2 a3)
  have hj25 : ∀ (x0 : Nat) (x1 : Int32) (x2 : Int32) (x3 : Int32) (s0 : Nat) (mm : Mem) (H : Heap) (locs : List Loc) (ls : Array Slot), fX11_through_j25 (eS E) x0 x1 x2 x3 s0 mm = some (res, mm1) → wS E s mm H locs → lv_has ls 6 [(0, .ref x0), (1, .int x1), (2, .int x2), (3, .int x3)] → W p l e R s m args below meth c H locs 0 0 Q (F0 m 25 ls [.ref s0]) := by
    intro x0 x1 x2 x3 s0 mm H locs ls hf hS hl
    unfold fX11_through_j25 at hf
    refine lv_iconst (v := 0) hx hb dX11_through_25 (by decide) ?_
    exact hj26 x0 x1 x2 x3 s0 0 mm H locs ls hf hS hl
  intro H locs ls hS hl
  refine lv_aload_n hx hb dX11_through_0 rfl (lv_at hl 0 rfl) ?_
  refine lv_iload_n hx hb dX11_through_1 rfl (lv_at hl 1 rfl) ?_
  obtain ⟨u0, h0, hf⟩ := bs hf
  obtain ⟨_, hrc⟩ := isO_n h0
  obtain ⟨u21, m22, h1, hf⟩ := bs2 hf
  rcases u21 with v23 | k1
  · have hf := sme_l hf
    refine am_endv hS (am_runV (As := [.int x1]) X (hml.trans hl.1.symm) hS (cX11_needFellow_ok (l := l) (E := E) hl0 h1) mv_X11_221 hrc rfl ⟨Nat.le_trans (by decide) hRa, Nat.le_trans (by decide) hRb⟩ ⟨Nat.zero_le _, Nat.zero_le _⟩ rfl rfl (Nat.le_of_ble_eq_true rfl) dX11_through_2) (fun H locs hS => ?_)
    refine lv_aload_n hx hb dX11_through_5 rfl (lv_at hl 0 rfl) ?_
    refine lv_iload_n hx hb dX11_through_6 rfl (lv_at hl 2 rfl) ?_
    obtain ⟨v24, h1, hf⟩ := bs hf
    refine am_endi hS (am_runS (As := [.int x2]) X (hml.trans hl.1.symm) hS (cX11_isPart_ok (l := l) (E := E) h1) ms_X11_240 ⟨Nat.le_trans (by decide) hRa, Nat.le_trans (by decide) hRb⟩ ⟨Nat.zero_le _, Nat.zero_le _⟩ rfl rfl (Nat.le_of_ble_eq_true rfl) dX11_through_7) (fun H locs hS => ?_)
    refine lv_if_eq (tgt := 25) hx hb dX11_through_10 (by decide) (fun q25 => ?_) (fun q25 => ?_)
    · have hf := ifp hf q25
      exact hj25 x0 x1 x2 x3 x0 m22 H locs ls hf hS hl
    · have hf := ifn hf q25
      refine lv_aload_n hx hb dX11_through_13 rfl (lv_at hl 0 rfl) ?_
      refine lv_iload_n hx hb dX11_through_14 rfl (lv_at hl 3 rfl) ?_
      obtain ⟨u0, h0, hf⟩ := bs hf
      obtain ⟨_, hrc⟩ := isO_n h0
      obtain ⟨v26, h1, hf⟩ := bs hf
      refine am_endi hS (am_runV (As := [.int x3]) X (hml.trans hl.1.symm) hS (cX11_isPlace_ok (l := l) (E := E) h1) mv_X11_255 hrc rfl ⟨Nat.le_trans (by decide) hRa, Nat.le_trans (by decide) hRb⟩ ⟨Nat.zero_le _, Nat.zero_le _⟩ rfl rfl (Nat.le_of_ble_eq_true rfl) dX11_through_15) (fun H locs hS => ?_)
      refine lv_if_eq (tgt := 25) hx hb dX11_through_18 (by decide) (fun q27 => ?_) (fun q27 => ?_)
      · have hf := ifp hf q27
        exact hj25 x0 x1 x2 x3 x0 m22 H locs ls hf hS hl
      · have hf := ifn hf q27
        refine lv_iconst (v := 1) hx hb dX11_through_21 (by decide) ?_
        refine lv_goto (tgt := 26) hx hb dX11_through_22 (by decide) ?_
        exact hj26 x0 x1 x2 x3 x0 1 m22 H locs ls hf hS hl
  · have hf := sme_r hf
    cases hf
    exact am_thrV (As := [.int x1]) X (hml.trans hl.1.symm) hS (cX11_needFellow_thr (l := l) (E := E) hl0 h1) mv_X11_221 hrc rfl ⟨Nat.le_trans (by decide) hRa, Nat.le_trans (by decide) hRb⟩ (hRc _ rfl) rfl rfl (Nat.le_of_ble_eq_true rfl) dX11_through_2 (fun H locs ce q9 hS a1 a2 a3 => hthr _ rfl _ H locs ls _ ce q9 hS a1 a2 a3)
set_option maxRecDepth 100000 in
theorem cX11_through_ok {l : Launch} {E : Ev} (hl0 : l.stackTraces = false) {x0 : Nat} {x1 : Int32} {x2 : Int32} {x3 : Int32} {mm : Mem} {r : Int32} {mm1 : Mem} (hf : fX11_through (eS E) x0 x1 x2 x3 mm = some (.inl r, mm1)) : CtI l yX11_through cX11_through 6 (some .int) 8 141 E [.ref x0, .int x1, .int x2, .int x3] mm r mm1 := by
  refine Met.ofW (cc := cX11_through) (maxL := 6) (ret := (some .int)) (by decide) rfl ?_
  intro p e s m args below meth c s₁ B hml hv
  obtain ⟨rfl, X, hS, hr, hlocks⟩ := am_in B hv
  refine am_entry (Nat.le_of_ble_eq_true rfl) (fun ls hl => ?_)
  exact wX11_through hl0 X hml ⟨Nat.le_refl _, Nat.le_refl _⟩ hf (fun r e pc H locs ls hn hd hS => by cases e; exact am_ri X hS hr hn hd hlocks) (fun k e => by cases e) (fun k e => by cases e) _ _ ls hS hl
set_option maxRecDepth 100000 in
theorem cX11_through_thr {l : Launch} {E : Ev} (hl0 : l.stackTraces = false) {x0 : Nat} {x1 : Int32} {x2 : Int32} {x3 : Int32} {mm : Mem} {k : Nat} {mm1 : Mem} (hf : fX11_through (eS E) x0 x1 x2 x3 mm = some (.inr k, mm1)) : CtX l yX11_through cX11_through 6 (some .int) 8 141 E [.ref x0, .int x1, .int x2, .int x3] mm k mm1 := by
  refine vx_ofW (cc := cX11_through) (maxL := 6) (ret := (some .int)) (by decide) rfl ?_
  intro p e s m args below meth c s₁ B hml hxt hv
  obtain ⟨rfl, X, hS, hr, hlocks⟩ := am_in B hv
  refine am_entry (Nat.le_of_ble_eq_true rfl) (fun ls hl => ?_)
  exact wX11_through hl0 X hml ⟨Nat.le_refl _, Nat.le_refl _⟩ hf (fun r e => by cases e) (fun k e => ⟨Nat.le_refl _, Nat.le_refl _⟩) (fun k1 e pc H locs ls rest ce q9 hS a1 a2 a3 => by cases e; exact am_out X hS hxt hlocks a1 a2 a3) _ _ ls hS hl
set_option maxHeartbeats 4000000 in
set_option maxRecDepth 100000 in
theorem wX11_serves {p : Program} {l : Launch} {e : Env} {R : Room} {s : State} {m : MethodId} {args : Array Value} {below : List Frame} {meth : Method} {c : Code} {Q : State → Prop} {E : Ev} (hl0 : l.stackTraces = false) (X : Cx p s m args c cX11_serves RX11 E) (hml : c.maxLocals = 7) (hR : 8 ≤ R.frames ∧ 141 ≤ R.locals) {x0 : Nat} {x1 : Int32} {x2 : Int32} {mm : Mem} {res : Int32 ⊕ Nat} {mm1 : Mem} (hf : fX11_serves (eS E) x0 x1 x2 mm = some (res, mm1)) (hret : ∀ r, res = .inl r → ∀ (pc : Nat) (H : Heap) (locs : List Loc) (ls : Array Slot), narrow .int (.int r) = .int r → decode cX11_serves pc = .ok (.ireturn, 1) → wS E s mm1 H locs → W p l e R s m args below meth c H locs 0 0 Q (F0 m pc ls [.int r])) (hRc : ∀ k, res = .inr k → 1 ≤ R.cells ∧ 6 ≤ R.slots) (hthr : ∀ k, res = .inr k → ∀ (pc : Nat) (H : Heap) (locs : List Loc) (ls : Array Slot) (rest : List Value) (ce : Cell) (q9 : Addr), wS E s mm1 H locs → H[q9]? = some ce → ce.vm = .none → s.vm.findClass (exN k) = some ce.cls → vx_W p l e R s m args below meth c H locs 1 6 Q (F0 m pc ls rest) q9) : ∀ (H : Heap) (locs : List Loc) (ls : Array Slot), wS E s mm H locs → lv_has ls 7 [(0, .ref x0), (1, .int x1), (2, .int x2)] → W p l e R s m args below meth c H locs 0 0 Q (F0 m 0 ls []) := by
  have hx := X.1
  have hb := X.2.1
  have hRa := hR.1
  have hRb := hR.2
  unfold fX11_serves at hf
  have hj94 : ∀ (x3 : Int32) (mm : Mem) (H : Heap) (locs : List Loc) (ls : Array Slot), fX11_serves_j94 (eS E) x3 mm = some (res, mm1) → wS E s mm H locs → lv_has ls 7 [(3, .int x3)] → W p l e R s m args below meth c H locs 0 0 Q (F0 m 94 ls []) := by
    intro x3 mm H locs ls hf hS hl
    unfold fX11_serves_j94 at hf
    refine lv_iload_n hx hb dX11_serves_94 rfl (lv_at hl 0 rfl) ?_
    cases hf
    exact hret _ rfl _ _ _ _ rfl dX11_serves_95 hS
  have hj24 : ∀ (x0 : Nat) (x1 : Int32) (x2 : Int32) (s0 : Nat) (s1 : Int32) (mm : Mem) (H : Heap) (locs : List Loc) (ls : Array Slot), fX11_serves_j24 (eS E) x0 x1 x2 s0 s1 mm = some (res, mm1) → wS E s mm H locs → lv_has ls 7 [(0, .ref x0), (1, .int x1), (2, .int x2)] → W p l e R s m args below meth c H locs 0 0 Q (F0 m 24 ls [.int s1, .ref s0]) := by
    intro x0 x1 x2 s0 s1 mm H locs ls hf hS hl
    unfold fX11_serves_j24 at hf
    obtain ⟨u0, h0, hf⟩ := bs hf
    obtain ⟨_, hrc⟩ := isO_n h0
    obtain ⟨u1, m2, h1, hf⟩ := bs2 hf
    rcases u1 with v3 | k1
    · have hf := sme_l hf
      refine am_endv hS (am_runV (As := [.int s1]) X (hml.trans hl.1.symm) hS (cX11_need_ok (l := l) (E := E) hl0 h1) mv_X11_186 hrc rfl ⟨Nat.le_trans (by decide) hRa, Nat.le_trans (by decide) hRb⟩ ⟨Nat.zero_le _, Nat.zero_le _⟩ rfl rfl (Nat.le_of_ble_eq_true rfl) dX11_serves_24) (fun H locs hS => ?_)
      refine lv_iconst (v := (-1)) hx hb dX11_serves_27 (by decide) ?_
      refine lv_topi (fun x3_4 e1 => ?_)
      have hf := lt1_n e1 hf
      refine lv_istore_n (lv' := [(3, .int x3_4), (0, .ref x0), (1, .int x1), (2, .int x2)]) hx hb dX11_serves_28 rfl hl (by decide) rfl (fun ls hl => ?_)
      refine lv_iconst (v := 0) hx hb dX11_serves_29 (by decide) ?_
      refine lv_topi (fun x4_5 e1 => ?_)
      have hf := lt1_n e1 hf
      refine lv_istore (lv' := [(4, .int x4_5), (3, .int x3_4), (0, .ref x0), (1, .int x1), (2, .int x2)]) hx hb dX11_serves_30 hl (by decide) rfl (fun ls hl => ?_)
      refine lv_iconst (v := 0) hx hb dX11_serves_32 (by decide) ?_
      refine lv_topi (fun x5_6 e1 => ?_)
      have hf := lt1_n e1 hf
      refine lv_istore (lv' := [(5, .int x5_6), (4, .int x4_5), (3, .int x3_4), (0, .ref x0), (1, .int x1), (2, .int x2)]) hx hb dX11_serves_33 hl (by decide) rfl (fun ls hl => ?_)
      obtain ⟨ex35, hl35, hk35⟩ := bs hf
      refine loop_W (P := fun st => ∀ (H : Heap) (locs : List Loc) (ls : Array Slot), wS E s m2 H locs → lv_has ls 7 [(0, .ref x0), (1, .int x1), (2, .int x2), (3, .int st.1), (4, .int st.2.1), (5, .int st.2.2)] → W p l e R s m args below meth c H locs 0 0 Q (F0 m 35 ls [])) (ex := ex35) ?_ FU _ hl35 H locs ls hS (lv_sub hl [3, 4, 5, 2, 1, 0] rfl)
      intro st y35 hf hyL35 hyR35 H locs ls hS hl
      obtain ⟨x3, x4, x5⟩ := st
      obtain ⟨mm, rfl⟩ : ∃ z, z = m2 := ⟨_, rfl⟩
      have hf : fX11_serves_b35 (eS E) x0 x1 x2 x3 x4 x5 mm = some y35 := hf
      have hS : wS E s mm H locs := hS
      have hl : lv_has ls 7 [(0, .ref x0), (1, .int x1), (2, .int x2), (3, .int x3), (4, .int x4), (5, .int x5)] := hl
      unfold fX11_serves_b35 at hf
      have hj88 : ∀ (x3 : Int32) (x4 : Int32) (x5 : Int32) (H : Heap) (locs : List Loc) (ls : Array Slot), fX11_serves_j88 (eS E) x0 x1 x2 x3 x4 x5 mm = some y35 → wS E s mm H locs → lv_has ls 7 [(0, .ref x0), (1, .int x1), (2, .int x2), (3, .int x3), (4, .int x4), (5, .int x5)] → W p l e R s m args below meth c H locs 0 0 Q (F0 m 88 ls []) := by
        intro x3 x4 x5 H locs ls hf hS hl
        unfold fX11_serves_j88 at hf
        obtain ⟨x5_7, e1⟩ : ∃ z : Int32, z = x5 + 1 := ⟨_, rfl⟩
        have hf := lt1_n e1 hf
        refine lv_iinc (v := x5_7) (lv' := [(5, .int x5_7), (0, .ref x0), (1, .int x1), (2, .int x2), (3, .int x3), (4, .int x4)]) hx hb dX11_serves_88 hl (k := 5) rfl (by rw [e1]; rfl) (by decide) rfl (fun ls hl => ?_)
        refine lv_goto (tgt := 35) hx hb dX11_serves_91 (by decide) ?_
        exact hyL35 _ (Option.some.inj hf).symm H locs ls hS (lv_sub hl [1, 2, 3, 4, 5, 0] rfl)
      have hj81 : ∀ (x5 : Int32) (x6 : Int32) (H : Heap) (locs : List Loc) (ls : Array Slot), fX11_serves_j81 (eS E) x0 x1 x2 x5 x6 mm = some y35 → wS E s mm H locs → lv_has ls 7 [(0, .ref x0), (1, .int x1), (2, .int x2), (5, .int x5), (6, .int x6)] → W p l e R s m args below meth c H locs 0 0 Q (F0 m 81 ls []) := by
        intro x5 x6 H locs ls hf hS hl
        unfold fX11_serves_j81 at hf
        refine lv_iload hx hb dX11_serves_81 (lv_at hl 3 rfl) ?_
        refine lv_topi (fun x3_8 e1 => ?_)
        have hf := lt1_n e1 hf
        refine lv_istore_n (lv' := [(3, .int x3_8), (0, .ref x0), (1, .int x1), (2, .int x2), (5, .int x5), (6, .int x6)]) hx hb dX11_serves_83 rfl hl (by decide) rfl (fun ls hl => ?_)
        refine lv_iload hx hb dX11_serves_84 (lv_at hl 5 rfl) ?_
        refine lv_topi (fun x4_9 e1 => ?_)
        have hf := lt1_n e1 hf
        refine lv_istore (lv' := [(4, .int x4_9), (3, .int x3_8), (0, .ref x0), (1, .int x1), (2, .int x2), (5, .int x5), (6, .int x6)]) hx hb dX11_serves_86 hl (by decide) rfl (fun ls hl => ?_)
        exact hj88 x3_8 x4_9 x5 H locs ls hf hS (lv_sub hl [2, 3, 4, 1, 0, 5] rfl)
      refine lv_iload hx hb dX11_serves_35 (lv_at hl 5 rfl) ?_
      refine lv_aload_n hx hb dX11_serves_37 rfl (lv_at hl 0 rfl) ?_
      obtain ⟨a10, h1, hf⟩ := bs hf
      refine am_gr X hS fl_X11_19 rfl h1 dX11_serves_38 ?_
      obtain ⟨v11, h1, hf⟩ := bs hf
      refine am_gi X hS fl_X11_144 rfl h1 dX11_serves_41 ?_
      refine lv_icmp_ge (tgt := 94) hx hb dX11_serves_44 (by decide) (fun q12 => ?_) (fun q12 => ?_)
      · have hf := ifp hf q12
        obtain rfl : x3 = ex35 := hyR35 _ (Option.some.inj hf).symm
        exact hj94 x3 mm H locs ls hk35 hS (lv_sub hl [3] rfl)
      · have hf := ifn hf q12
        refine lv_aload_n hx hb dX11_serves_47 rfl (lv_at hl 0 rfl) ?_
        obtain ⟨a13, h1, hf⟩ := bs hf
        refine am_gr X hS fl_X11_67 rfl h1 dX11_serves_48 ?_
        obtain ⟨a14, h1, hf⟩ := bs hf
        refine am_gr X hS fl_X11_204 rfl h1 dX11_serves_51 ?_
        refine lv_iload hx hb dX11_serves_54 (lv_at hl 5 rfl) ?_
        refine lv_bipush (v := 7) hx hb dX11_serves_56 (by decide) ?_
        refine lv_imul hx hb dX11_serves_58 ?_
        refine lv_iload_n hx hb dX11_serves_59 rfl (lv_at hl 1 rfl) ?_
        refine lv_iadd hx hb dX11_serves_60 ?_
        obtain ⟨v15, h1, hf⟩ := bs hf
        refine am_ald X hS h1 dX11_serves_61 ?_
        refine lv_iload_n hx hb dX11_serves_62 rfl (lv_at hl 2 rfl) ?_
        refine lv_isub hx hb dX11_serves_63 ?_
        refine va_mabs hx hb (hml.trans hl.1.symm) X.2.2.2.1 (X.2.2.1 _ (inBi 1126 (by decide +kernel))) (X.2.2.1 _ (inBi 531 (by decide +kernel))) (X.2.2.1 _ (inBi 117 (by decide +kernel))) (X.2.2.1 _ (inBi 532 (by decide +kernel))) (Nat.le_trans (by decide) hRa) (Nat.le_trans (Nat.le_of_ble_eq_true rfl) hRb) (Nat.zero_le _) (Nat.zero_le _) dX11_serves_64 ?_
        refine lv_topi (fun x6_16 e1 => ?_)
        have hf := lt1_n e1 hf
        refine lv_istore (lv' := [(6, .int x6_16), (0, .ref x0), (1, .int x1), (2, .int x2), (3, .int x3), (4, .int x4), (5, .int x5)]) hx hb dX11_serves_67 hl (by decide) rfl (fun ls hl => ?_)
        refine lv_iload_n hx hb dX11_serves_69 rfl (lv_at hl 4 rfl) ?_
        refine lv_iconst (v := (-1)) hx hb dX11_serves_70 (by decide) ?_
        refine lv_icmp_eq (tgt := 81) hx hb dX11_serves_71 (by decide) (fun q17 => ?_) (fun q17 => ?_)
        · have hf := ifp hf q17
          exact hj81 x5 x6_16 H locs ls hf hS (lv_sub hl [1, 2, 3, 6, 0] rfl)
        · have hf := ifn hf q17
          refine lv_iload hx hb dX11_serves_74 (lv_at hl 0 rfl) ?_
          refine lv_iload hx hb dX11_serves_76 (lv_at hl 5 rfl) ?_
          refine lv_icmp_ge (tgt := 88) hx hb dX11_serves_78 (by decide) (fun q18 => ?_) (fun q18 => ?_)
          · have hf := ifp hf q18
            exact hj88 x3 x4 x5 H locs ls hf hS (lv_sub hl [1, 2, 3, 4, 5, 6] rfl)
          · have hf := ifn hf q18
            exact hj81 x5 x6_16 H locs ls hf hS (lv_sub hl [1, 2, 3, 6, 0] rfl)
    · have hf := sme_r hf
      cases hf
      exact am_thrV (As := [.int s1]) X (hml.trans hl.1.symm) hS (cX11_need_thr (l := l) (E := E) hl0 h1) mv_X11_186 hrc rfl ⟨Nat.le_trans (by decide) hRa, Nat.le_trans (by decide) hRb⟩ (hRc _ rfl) rfl rfl (Nat.le_of_ble_eq_true rfl) dX11_serves_24 (fun H locs ce q9 hS a1 a2 a3 => hthr _ rfl _ H locs ls _ ce q9 hS a1 a2 a3)
  have hj23 : ∀ (x0 : Nat) (x1 : Int32) (x2 : Int32) (s0 : Nat) (mm : Mem) (H : Heap) (locs : List Loc) (ls : Array Slot), fX11_serves_j23 (eS E) x0 x1 x2 s0 mm = some (res, mm1) → wS E s mm H locs → lv_has ls 7 [(0, .ref x0), (1, .int x1), (2, .int x2)] → W p l e R s m args below meth c H locs 0 0 Q (F0 m 23 ls [.ref s0]) := by
    intro x0 x1 x2 s0 mm H locs ls hf hS hl
    unfold fX11_serves_j23 at hf
    refine lv_iconst (v := 0) hx hb dX11_serves_23 (by decide) ?_
    exact hj24 x0 x1 x2 s0 0 mm H locs ls hf hS hl
  intro H locs ls hS hl
  refine lv_aload_n hx hb dX11_serves_0 rfl (lv_at hl 0 rfl) ?_
  refine lv_iload_n hx hb dX11_serves_1 rfl (lv_at hl 1 rfl) ?_
  obtain ⟨v19, h1, hf⟩ := bs hf
  refine am_endi hS (am_runS (As := [.int x1]) X (hml.trans hl.1.symm) hS (cX11_isPart_ok (l := l) (E := E) h1) ms_X11_240 ⟨Nat.le_trans (by decide) hRa, Nat.le_trans (by decide) hRb⟩ ⟨Nat.zero_le _, Nat.zero_le _⟩ rfl rfl (Nat.le_of_ble_eq_true rfl) dX11_serves_2) (fun H locs hS => ?_)
  refine lv_if_eq (tgt := 23) hx hb dX11_serves_5 (by decide) (fun q20 => ?_) (fun q20 => ?_)
  · have hf := ifp hf q20
    exact hj23 x0 x1 x2 x0 mm H locs ls hf hS hl
  · have hf := ifn hf q20
    refine lv_iload_n hx hb dX11_serves_8 rfl (lv_at hl 2 rfl) ?_
    refine lv_if_lt (tgt := 23) hx hb dX11_serves_9 (by decide) (fun q21 => ?_) (fun q21 => ?_)
    · have hf := ifp hf q21
      exact hj23 x0 x1 x2 x0 mm H locs ls hf hS hl
    · have hf := ifn hf q21
      refine lv_iload_n hx hb dX11_serves_12 rfl (lv_at hl 2 rfl) ?_
      refine lv_sipush (v := 400) hx hb dX11_serves_13 (by decide) ?_
      refine lv_icmp_gt (tgt := 23) hx hb dX11_serves_16 (by decide) (fun q22 => ?_) (fun q22 => ?_)
      · have hf := ifp hf q22
        exact hj23 x0 x1 x2 x0 mm H locs ls hf hS hl
      · have hf := ifn hf q22
        refine lv_iconst (v := 1) hx hb dX11_serves_19 (by decide) ?_
        refine lv_goto (tgt := 24) hx hb dX11_serves_20 (by decide) ?_
        exact hj24 x0 x1 x2 x0 1 mm H locs ls hf hS hl
set_option maxRecDepth 100000 in
theorem cX11_serves_ok {l : Launch} {E : Ev} (hl0 : l.stackTraces = false) {x0 : Nat} {x1 : Int32} {x2 : Int32} {mm : Mem} {r : Int32} {mm1 : Mem} (hf : fX11_serves (eS E) x0 x1 x2 mm = some (.inl r, mm1)) : CtI l yX11_serves cX11_serves 7 (some .int) 8 141 E [.ref x0, .int x1, .int x2] mm r mm1 := by
  refine Met.ofW (cc := cX11_serves) (maxL := 7) (ret := (some .int)) (by decide) rfl ?_
  intro p e s m args below meth c s₁ B hml hv
  obtain ⟨rfl, X, hS, hr, hlocks⟩ := am_in B hv
  refine am_entry (Nat.le_of_ble_eq_true rfl) (fun ls hl => ?_)
  exact wX11_serves hl0 X hml ⟨Nat.le_refl _, Nat.le_refl _⟩ hf (fun r e pc H locs ls hn hd hS => by cases e; exact am_ri X hS hr hn hd hlocks) (fun k e => by cases e) (fun k e => by cases e) _ _ ls hS hl
set_option maxRecDepth 100000 in
theorem cX11_serves_thr {l : Launch} {E : Ev} (hl0 : l.stackTraces = false) {x0 : Nat} {x1 : Int32} {x2 : Int32} {mm : Mem} {k : Nat} {mm1 : Mem} (hf : fX11_serves (eS E) x0 x1 x2 mm = some (.inr k, mm1)) : CtX l yX11_serves cX11_serves 7 (some .int) 8 141 E [.ref x0, .int x1, .int x2] mm k mm1 := by
  refine vx_ofW (cc := cX11_serves) (maxL := 7) (ret := (some .int)) (by decide) rfl ?_
  intro p e s m args below meth c s₁ B hml hxt hv
  obtain ⟨rfl, X, hS, hr, hlocks⟩ := am_in B hv
  refine am_entry (Nat.le_of_ble_eq_true rfl) (fun ls hl => ?_)
  exact wX11_serves hl0 X hml ⟨Nat.le_refl _, Nat.le_refl _⟩ hf (fun r e => by cases e) (fun k e => ⟨Nat.le_refl _, Nat.le_refl _⟩) (fun k1 e pc H locs ls rest ce q9 hS a1 a2 a3 => by cases e; exact am_out X hS hxt hlocks a1 a2 a3) _ _ ls hS hl
set_option maxHeartbeats 4000000 in
set_option maxRecDepth 100000 in
theorem wX11_fits {p : Program} {l : Launch} {e : Env} {R : Room} {s : State} {m : MethodId} {args : Array Value} {below : List Frame} {meth : Method} {c : Code} {Q : State → Prop} {E : Ev} (hl0 : l.stackTraces = false) (X : Cx p s m args c cX11_fits RX11 E) (hml : c.maxLocals = 2) (hR : 8 ≤ R.frames ∧ 146 ≤ R.locals) {x0 : Nat} {x1 : Int32} {mm : Mem} {res : Int32 ⊕ Nat} {mm1 : Mem} (hf : fX11_fits (eS E) x0 x1 mm = some (res, mm1)) (hret : ∀ r, res = .inl r → ∀ (pc : Nat) (H : Heap) (locs : List Loc) (ls : Array Slot), narrow .int (.int r) = .int r → decode cX11_fits pc = .ok (.ireturn, 1) → wS E s mm1 H locs → W p l e R s m args below meth c H locs 0 0 Q (F0 m pc ls [.int r])) (hRc : ∀ k, res = .inr k → 1 ≤ R.cells ∧ 6 ≤ R.slots) (hthr : ∀ k, res = .inr k → ∀ (pc : Nat) (H : Heap) (locs : List Loc) (ls : Array Slot) (rest : List Value) (ce : Cell) (q9 : Addr), wS E s mm1 H locs → H[q9]? = some ce → ce.vm = .none → s.vm.findClass (exN k) = some ce.cls → vx_W p l e R s m args below meth c H locs 1 6 Q (F0 m pc ls rest) q9) : ∀ (H : Heap) (locs : List Loc) (ls : Array Slot), wS E s mm H locs → lv_has ls 2 [(0, .ref x0), (1, .int x1)] → W p l e R s m args below meth c H locs 0 0 Q (F0 m 0 ls []) := by
  have hx := X.1
  have hb := X.2.1
  have hRa := hR.1
  have hRb := hR.2
  unfold fX11_fits at hf
  have hj50 : ∀ (s0 : Int32) (mm : Mem) (H : Heap) (locs : List Loc) (ls : Array Slot), fX11_fits_j50 (eS E) s0 mm = some (res, mm1) → wS E s mm H locs → lv_has ls 2 [] → W p l e R s m args below meth c H locs 0 0 Q (F0 m 50 ls [.int s0]) := by
    intro s0 mm H locs ls hf hS hl
    unfold fX11_fits_j50 at hf
    cases hf
    exact hret _ rfl _ _ _ _ rfl dX11_fits_50 hS
  have hj15 : ∀ (x0 : Nat) (x1 : Int32) (s0 : Nat) (s1 : Int32) (mm : Mem) (H : Heap) (locs : List Loc) (ls : Array Slot), fX11_fits_j15 (eS E) x0 x1 s0 s1 mm = some (res, mm1) → wS E s mm H locs → lv_has ls 2 [(0, .ref x0), (1, .int x1)] → W p l e R s m args below meth c H locs 0 0 Q (F0 m 15 ls [.int s1, .ref s0]) := by
    intro x0 x1 s0 s1 mm H locs ls hf hS hl
    unfold fX11_fits_j15 at hf
    obtain ⟨u0, h0, hf⟩ := bs hf
    obtain ⟨_, hrc⟩ := isO_n h0
    obtain ⟨u1, m2, h1, hf⟩ := bs2 hf
    rcases u1 with v3 | k1
    · have hf := sme_l hf
      refine am_endv hS (am_runV (As := [.int s1]) X (hml.trans hl.1.symm) hS (cX11_need_ok (l := l) (E := E) hl0 h1) mv_X11_186 hrc rfl ⟨Nat.le_trans (by decide) hRa, Nat.le_trans (by decide) hRb⟩ ⟨Nat.zero_le _, Nat.zero_le _⟩ rfl rfl (Nat.le_of_ble_eq_true rfl) dX11_fits_15) (fun H locs hS => ?_)
      refine lv_aload_n hx hb dX11_fits_18 rfl (lv_at hl 0 rfl) ?_
      obtain ⟨a4, h1, hf⟩ := bs hf
      refine am_gr X hS fl_X11_90 rfl h1 dX11_fits_19 ?_
      refine lv_aload_n hx hb dX11_fits_22 rfl (lv_at hl 0 rfl) ?_
      obtain ⟨a5, h1, hf⟩ := bs hf
      refine am_gr X hS fl_X11_67 rfl h1 dX11_fits_23 ?_
      obtain ⟨u0, h0, hf⟩ := bs hf
      obtain ⟨_, hrc⟩ := isO_n h0
      obtain ⟨m6, h1, hf⟩ := bs hf
      refine am_endv hS (am_runV (As := [.ref a5]) X (hml.trans hl.1.symm) hS (cX6_gather_ok (l := l) (E := E) h1) mv_X11_305 hrc rfl ⟨Nat.le_trans (by decide) hRa, Nat.le_trans (by decide) hRb⟩ ⟨Nat.zero_le _, Nat.zero_le _⟩ rfl rfl (Nat.le_of_ble_eq_true rfl) dX11_fits_26) (fun H locs hS => ?_)
      refine lv_iload_n hx hb dX11_fits_29 rfl (lv_at hl 1 rfl) ?_
      refine lv_if_ne (tgt := 43) hx hb dX11_fits_30 (by decide) (fun q7 => ?_) (fun q7 => ?_)
      · have hf := ifn hf q7
        refine lv_aload_n hx hb dX11_fits_43 rfl (lv_at hl 0 rfl) ?_
        obtain ⟨a8, h1, hf⟩ := bs hf
        refine am_gr X hS fl_X11_90 rfl h1 dX11_fits_44 ?_
        obtain ⟨v9, h1, hf⟩ := bs hf
        refine am_gi X hS fl_X11_311 rfl h1 dX11_fits_47 ?_
        exact hj50 v9 m6 H locs ls hf hS (lv_sub hl [] rfl)
      · have hf := ifp hf q7
        refine lv_aload_n hx hb dX11_fits_33 rfl (lv_at hl 0 rfl) ?_
        obtain ⟨a10, h1, hf⟩ := bs hf
        refine am_gr X hS fl_X11_90 rfl h1 dX11_fits_34 ?_
        obtain ⟨v11, h1, hf⟩ := bs hf
        refine am_gi X hS fl_X11_308 rfl h1 dX11_fits_37 ?_
        refine lv_goto (tgt := 50) hx hb dX11_fits_40 (by decide) ?_
        exact hj50 v11 m6 H locs ls hf hS (lv_sub hl [] rfl)
    · have hf := sme_r hf
      cases hf
      exact am_thrV (As := [.int s1]) X (hml.trans hl.1.symm) hS (cX11_need_thr (l := l) (E := E) hl0 h1) mv_X11_186 hrc rfl ⟨Nat.le_trans (by decide) hRa, Nat.le_trans (by decide) hRb⟩ (hRc _ rfl) rfl rfl (Nat.le_of_ble_eq_true rfl) dX11_fits_15 (fun H locs ce q9 hS a1 a2 a3 => hthr _ rfl _ H locs ls _ ce q9 hS a1 a2 a3)
  have hj10 : ∀ (x0 : Nat) (x1 : Int32) (s0 : Nat) (mm : Mem) (H : Heap) (locs : List Loc) (ls : Array Slot), fX11_fits_j10 (eS E) x0 x1 s0 mm = some (res, mm1) → wS E s mm H locs → lv_has ls 2 [(0, .ref x0), (1, .int x1)] → W p l e R s m args below meth c H locs 0 0 Q (F0 m 10 ls [.ref s0]) := by
    intro x0 x1 s0 mm H locs ls hf hS hl
    unfold fX11_fits_j10 at hf
    refine lv_iconst (v := 1) hx hb dX11_fits_10 (by decide) ?_
    refine lv_goto (tgt := 15) hx hb dX11_fits_11 (by decide) ?_
    exact hj15 x0 x1 s0 1 mm H locs ls hf hS hl
  intro H locs ls hS hl
  refine lv_aload_n hx hb dX11_fits_0 rfl (lv_at hl 0 rfl) ?_
  refine lv_iload_n hx hb dX11_fits_1 rfl (lv_at hl 1 rfl) ?_
  refine lv_if_eq (tgt := 10) hx hb dX11_fits_2 (by decide) (fun q12 => ?_) (fun q12 => ?_)
  · have hf := ifp hf q12
    exact hj10 x0 x1 x0 mm H locs ls hf hS hl
  · have hf := ifn hf q12
    refine lv_iload_n hx hb dX11_fits_5 rfl (lv_at hl 1 rfl) ?_
    refine lv_iconst (v := 1) hx hb dX11_fits_6 (by decide) ?_
    refine lv_icmp_ne (tgt := 14) hx hb dX11_fits_7 (by decide) (fun q13 => ?_) (fun q13 => ?_)
    · have hf := ifn hf q13
      refine lv_iconst (v := 0) hx hb dX11_fits_14 (by decide) ?_
      exact hj15 x0 x1 x0 0 mm H locs ls hf hS hl
    · have hf := ifp hf q13
      exact hj10 x0 x1 x0 mm H locs ls hf hS hl
set_option maxRecDepth 100000 in
theorem cX11_fits_ok {l : Launch} {E : Ev} (hl0 : l.stackTraces = false) {x0 : Nat} {x1 : Int32} {mm : Mem} {r : Int32} {mm1 : Mem} (hf : fX11_fits (eS E) x0 x1 mm = some (.inl r, mm1)) : CtI l yX11_fits cX11_fits 2 (some .int) 8 146 E [.ref x0, .int x1] mm r mm1 := by
  refine Met.ofW (cc := cX11_fits) (maxL := 2) (ret := (some .int)) (by decide) rfl ?_
  intro p e s m args below meth c s₁ B hml hv
  obtain ⟨rfl, X, hS, hr, hlocks⟩ := am_in B hv
  refine am_entry (Nat.le_of_ble_eq_true rfl) (fun ls hl => ?_)
  exact wX11_fits hl0 X hml ⟨Nat.le_refl _, Nat.le_refl _⟩ hf (fun r e pc H locs ls hn hd hS => by cases e; exact am_ri X hS hr hn hd hlocks) (fun k e => by cases e) (fun k e => by cases e) _ _ ls hS hl
set_option maxRecDepth 100000 in
theorem cX11_fits_thr {l : Launch} {E : Ev} (hl0 : l.stackTraces = false) {x0 : Nat} {x1 : Int32} {mm : Mem} {k : Nat} {mm1 : Mem} (hf : fX11_fits (eS E) x0 x1 mm = some (.inr k, mm1)) : CtX l yX11_fits cX11_fits 2 (some .int) 8 146 E [.ref x0, .int x1] mm k mm1 := by
  refine vx_ofW (cc := cX11_fits) (maxL := 2) (ret := (some .int)) (by decide) rfl ?_
  intro p e s m args below meth c s₁ B hml hxt hv
  obtain ⟨rfl, X, hS, hr, hlocks⟩ := am_in B hv
  refine am_entry (Nat.le_of_ble_eq_true rfl) (fun ls hl => ?_)
  exact wX11_fits hl0 X hml ⟨Nat.le_refl _, Nat.le_refl _⟩ hf (fun r e => by cases e) (fun k e => ⟨Nat.le_refl _, Nat.le_refl _⟩) (fun k1 e pc H locs ls rest ce q9 hS a1 a2 a3 => by cases e; exact am_out X hS hxt hlocks a1 a2 a3) _ _ ls hS hl
set_option maxHeartbeats 4000000 in
set_option maxRecDepth 100000 in
theorem wX11_look {p : Program} {l : Launch} {e : Env} {R : Room} {s : State} {m : MethodId} {args : Array Value} {below : List Frame} {meth : Method} {c : Code} {Q : State → Prop} {E : Ev} (hl0 : l.stackTraces = false) (X : Cx p s m args c cX11_look RX11 E) (hml : c.maxLocals = 6) (hR : 8 ≤ R.frames ∧ 146 ≤ R.locals) {x0 : Nat} {x1 : Int32} {mm : Mem} {res : Int32 ⊕ Nat} {mm1 : Mem} (hf : fX11_look (eS E) x0 x1 mm = some (res, mm1)) (hret : ∀ r, res = .inl r → ∀ (pc : Nat) (H : Heap) (locs : List Loc) (ls : Array Slot), narrow .int (.int r) = .int r → decode cX11_look pc = .ok (.ireturn, 1) → wS E s mm1 H locs → W p l e R s m args below meth c H locs 0 0 Q (F0 m pc ls [.int r])) (hRc : ∀ k, res = .inr k → 1 ≤ R.cells ∧ 6 ≤ R.slots) (hthr : ∀ k, res = .inr k → ∀ (pc : Nat) (H : Heap) (locs : List Loc) (ls : Array Slot) (rest : List Value) (ce : Cell) (q9 : Addr), wS E s mm1 H locs → H[q9]? = some ce → ce.vm = .none → s.vm.findClass (exN k) = some ce.cls → vx_W p l e R s m args below meth c H locs 1 6 Q (F0 m pc ls rest) q9) : ∀ (H : Heap) (locs : List Loc) (ls : Array Slot), wS E s mm H locs → lv_has ls 6 [(0, .ref x0), (1, .int x1)] → W p l e R s m args below meth c H locs 0 0 Q (F0 m 0 ls []) := by
  have hx := X.1
  have hb := X.2.1
  have hRa := hR.1
  have hRb := hR.2
  unfold fX11_look at hf
  have hj106 : ∀ (s0 : Int32) (mm : Mem) (H : Heap) (locs : List Loc) (ls : Array Slot), fX11_look_j106 (eS E) s0 mm = some (res, mm1) → wS E s mm H locs → lv_has ls 6 [] → W p l e R s m args below meth c H locs 0 0 Q (F0 m 106 ls [.int s0]) := by
    intro s0 mm H locs ls hf hS hl
    unfold fX11_look_j106 at hf
    cases hf
    exact hret _ rfl _ _ _ _ rfl dX11_look_106 hS
  have hj97 : ∀ (x1 : Int32) (x2 : Int32) (x3 : Int32) (mm : Mem) (H : Heap) (locs : List Loc) (ls : Array Slot), fX11_look_j97 (eS E) x1 x2 x3 mm = some (res, mm1) → wS E s mm H locs → lv_has ls 6 [(1, .int x1), (2, .int x2), (3, .int x3)] → W p l e R s m args below meth c H locs 0 0 Q (F0 m 97 ls []) := by
    intro x1 x2 x3 mm H locs ls hf hS hl
    unfold fX11_look_j97 at hf
    refine lv_iload_n hx hb dX11_look_97 rfl (lv_at hl 0 rfl) ?_
    refine lv_if_ne (tgt := 105) hx hb dX11_look_98 (by decide) (fun q1 => ?_) (fun q1 => ?_)
    · have hf := ifn hf q1
      refine lv_iload_n hx hb dX11_look_105 rfl (lv_at hl 2 rfl) ?_
      exact hj106 x3 mm H locs ls hf hS (lv_sub hl [] rfl)
    · have hf := ifp hf q1
      refine lv_iload_n hx hb dX11_look_101 rfl (lv_at hl 1 rfl) ?_
      refine lv_goto (tgt := 106) hx hb dX11_look_102 (by decide) ?_
      exact hj106 x2 mm H locs ls hf hS (lv_sub hl [] rfl)
  have hj15 : ∀ (x0 : Nat) (x1 : Int32) (s0 : Nat) (s1 : Int32) (mm : Mem) (H : Heap) (locs : List Loc) (ls : Array Slot), fX11_look_j15 (eS E) x0 x1 s0 s1 mm = some (res, mm1) → wS E s mm H locs → lv_has ls 6 [(0, .ref x0), (1, .int x1)] → W p l e R s m args below meth c H locs 0 0 Q (F0 m 15 ls [.int s1, .ref s0]) := by
    intro x0 x1 s0 s1 mm H locs ls hf hS hl
    unfold fX11_look_j15 at hf
    obtain ⟨u0, h0, hf⟩ := bs hf
    obtain ⟨_, hrc⟩ := isO_n h0
    obtain ⟨u2, m3, h1, hf⟩ := bs2 hf
    rcases u2 with v4 | k1
    · have hf := sme_l hf
      refine am_endv hS (am_runV (As := [.int s1]) X (hml.trans hl.1.symm) hS (cX11_need_ok (l := l) (E := E) hl0 h1) mv_X11_186 hrc rfl ⟨Nat.le_trans (by decide) hRa, Nat.le_trans (by decide) hRb⟩ ⟨Nat.zero_le _, Nat.zero_le _⟩ rfl rfl (Nat.le_of_ble_eq_true rfl) dX11_look_15) (fun H locs hS => ?_)
      refine lv_aload_n hx hb dX11_look_18 rfl (lv_at hl 0 rfl) ?_
      obtain ⟨a5, h1, hf⟩ := bs hf
      refine am_gr X hS fl_X11_90 rfl h1 dX11_look_19 ?_
      refine lv_aload_n hx hb dX11_look_22 rfl (lv_at hl 0 rfl) ?_
      obtain ⟨a6, h1, hf⟩ := bs hf
      refine am_gr X hS fl_X11_67 rfl h1 dX11_look_23 ?_
      obtain ⟨u0, h0, hf⟩ := bs hf
      obtain ⟨_, hrc⟩ := isO_n h0
      obtain ⟨m7, h1, hf⟩ := bs hf
      refine am_endv hS (am_runV (As := [.ref a6]) X (hml.trans hl.1.symm) hS (cX6_gather_ok (l := l) (E := E) h1) mv_X11_305 hrc rfl ⟨Nat.le_trans (by decide) hRa, Nat.le_trans (by decide) hRb⟩ ⟨Nat.zero_le _, Nat.zero_le _⟩ rfl rfl (Nat.le_of_ble_eq_true rfl) dX11_look_26) (fun H locs hS => ?_)
      refine lv_iconst (v := (-1)) hx hb dX11_look_29 (by decide) ?_
      refine lv_topi (fun x2_8 e1 => ?_)
      have hf := lt1_n e1 hf
      refine lv_istore_n (lv' := [(2, .int x2_8), (0, .ref x0), (1, .int x1)]) hx hb dX11_look_30 rfl hl (by decide) rfl (fun ls hl => ?_)
      refine lv_iconst (v := (-1)) hx hb dX11_look_31 (by decide) ?_
      refine lv_topi (fun x3_9 e1 => ?_)
      have hf := lt1_n e1 hf
      refine lv_istore_n (lv' := [(3, .int x3_9), (2, .int x2_8), (0, .ref x0), (1, .int x1)]) hx hb dX11_look_32 rfl hl (by decide) rfl (fun ls hl => ?_)
      refine lv_iconst (v := 0) hx hb dX11_look_33 (by decide) ?_
      refine lv_topi (fun x4_10 e1 => ?_)
      have hf := lt1_n e1 hf
      refine lv_istore (lv' := [(4, .int x4_10), (3, .int x3_9), (2, .int x2_8), (0, .ref x0), (1, .int x1)]) hx hb dX11_look_34 hl (by decide) rfl (fun ls hl => ?_)
      obtain ⟨ex36, hl36, hk36⟩ := bs hf
      refine loop_W (P := fun st => ∀ (H : Heap) (locs : List Loc) (ls : Array Slot), wS E s st.2.2.2 H locs → lv_has ls 6 [(0, .ref x0), (1, .int x1), (2, .int st.1), (3, .int st.2.1), (4, .int st.2.2.1)] → W p l e R s m args below meth c H locs 0 0 Q (F0 m 36 ls [])) (ex := ex36) ?_ FU _ hl36 H locs ls hS (lv_sub hl [3, 4, 2, 1, 0] rfl)
      intro st y36 hf hyL36 hyR36 H locs ls hS hl
      obtain ⟨x2, x3, x4, mm⟩ := st
      have hf : fX11_look_b36 (eS E) x0 x1 x2 x3 x4 mm = some y36 := hf
      have hS : wS E s mm H locs := hS
      have hl : lv_has ls 6 [(0, .ref x0), (1, .int x1), (2, .int x2), (3, .int x3), (4, .int x4)] := hl
      unfold fX11_look_b36 at hf
      have hj91 : ∀ (x2 : Int32) (x3 : Int32) (x4 : Int32) (mm : Mem) (H : Heap) (locs : List Loc) (ls : Array Slot), fX11_look_j91 (eS E) x0 x1 x2 x3 x4 mm = some y36 → wS E s mm H locs → lv_has ls 6 [(0, .ref x0), (1, .int x1), (2, .int x2), (3, .int x3), (4, .int x4)] → W p l e R s m args below meth c H locs 0 0 Q (F0 m 91 ls []) := by
        intro x2 x3 x4 mm H locs ls hf hS hl
        unfold fX11_look_j91 at hf
        obtain ⟨x4_11, e1⟩ : ∃ z : Int32, z = x4 + 1 := ⟨_, rfl⟩
        have hf := lt1_n e1 hf
        refine lv_iinc (v := x4_11) (lv' := [(4, .int x4_11), (0, .ref x0), (1, .int x1), (2, .int x2), (3, .int x3)]) hx hb dX11_look_91 hl (k := 4) rfl (by rw [e1]; rfl) (by decide) rfl (fun ls hl => ?_)
        refine lv_goto (tgt := 36) hx hb dX11_look_94 (by decide) ?_
        exact hyL36 _ (Option.some.inj hf).symm H locs ls hS (lv_sub hl [1, 2, 3, 4, 0] rfl)
      have hj85 : ∀ (x4 : Int32) (x5 : Int32) (mm : Mem) (H : Heap) (locs : List Loc) (ls : Array Slot), fX11_look_j85 (eS E) x0 x1 x4 x5 mm = some y36 → wS E s mm H locs → lv_has ls 6 [(0, .ref x0), (1, .int x1), (4, .int x4), (5, .int x5)] → W p l e R s m args below meth c H locs 0 0 Q (F0 m 85 ls []) := by
        intro x4 x5 mm H locs ls hf hS hl
        unfold fX11_look_j85 at hf
        refine lv_iload hx hb dX11_look_85 (lv_at hl 2 rfl) ?_
        refine lv_topi (fun x2_12 e1 => ?_)
        have hf := lt1_n e1 hf
        refine lv_istore_n (lv' := [(2, .int x2_12), (0, .ref x0), (1, .int x1), (4, .int x4), (5, .int x5)]) hx hb dX11_look_87 rfl hl (by decide) rfl (fun ls hl => ?_)
        refine lv_iload hx hb dX11_look_88 (lv_at hl 4 rfl) ?_
        refine lv_topi (fun x3_13 e1 => ?_)
        have hf := lt1_n e1 hf
        refine lv_istore_n (lv' := [(3, .int x3_13), (2, .int x2_12), (0, .ref x0), (1, .int x1), (4, .int x4), (5, .int x5)]) hx hb dX11_look_90 rfl hl (by decide) rfl (fun ls hl => ?_)
        exact hj91 x2_12 x3_13 x4 mm H locs ls hf hS (lv_sub hl [2, 3, 1, 0, 4] rfl)
      refine lv_iload hx hb dX11_look_36 (lv_at hl 4 rfl) ?_
      refine lv_aload_n hx hb dX11_look_38 rfl (lv_at hl 0 rfl) ?_
      obtain ⟨a14, h1, hf⟩ := bs hf
      refine am_gr X hS fl_X11_19 rfl h1 dX11_look_39 ?_
      obtain ⟨v15, h1, hf⟩ := bs hf
      refine am_gi X hS fl_X11_171 rfl h1 dX11_look_42 ?_
      refine lv_icmp_ge (tgt := 97) hx hb dX11_look_45 (by decide) (fun q16 => ?_) (fun q16 => ?_)
      · have hf := ifp hf q16
        obtain rfl : (x2, x3, mm) = ex36 := hyR36 _ (Option.some.inj hf).symm
        exact hj97 x1 x2 x3 mm H locs ls hk36 hS (lv_sub hl [1, 2, 3] rfl)
      · have hf := ifn hf q16
        refine lv_aload_n hx hb dX11_look_48 rfl (lv_at hl 0 rfl) ?_
        obtain ⟨a17, h1, hf⟩ := bs hf
        refine am_gr X hS fl_X11_39 rfl h1 dX11_look_49 ?_
        refine lv_iload hx hb dX11_look_52 (lv_at hl 4 rfl) ?_
        obtain ⟨u0, h0, hf⟩ := bs hf
        obtain ⟨_, hrc⟩ := isO_n h0
        obtain ⟨v18, h1, hf⟩ := bs hf
        refine am_endi hS (am_runV (As := [.int x4]) X (hml.trans hl.1.symm) hS (cX0_tells_ok (l := l) (E := E) h1) mv_X11_314 hrc rfl ⟨Nat.le_trans (by decide) hRa, Nat.le_trans (by decide) hRb⟩ ⟨Nat.zero_le _, Nat.zero_le _⟩ rfl rfl (Nat.le_of_ble_eq_true rfl) dX11_look_54) (fun H locs hS => ?_)
        refine lv_if_eq (tgt := 63) hx hb dX11_look_57 (by decide) (fun q19 => ?_) (fun q19 => ?_)
        · have hf := ifp hf q19
          refine lv_aload_n hx hb dX11_look_63 rfl (lv_at hl 0 rfl) ?_
          obtain ⟨a20, h1, hf⟩ := bs hf
          refine am_gr X hS fl_X11_90 rfl h1 dX11_look_64 ?_
          refine lv_iload hx hb dX11_look_67 (lv_at hl 4 rfl) ?_
          obtain ⟨u0, h0, hf⟩ := bs hf
          obtain ⟨_, hrc⟩ := isO_n h0
          obtain ⟨v21, m22, h1, hf⟩ := bs2 hf
          refine am_endi hS (am_runV (As := [.int x4]) X (hml.trans hl.1.symm) hS (cX6_leftAtWorst_ok (l := l) (E := E) h1) mv_X11_317 hrc rfl ⟨Nat.le_trans (by decide) hRa, Nat.le_trans (by decide) hRb⟩ ⟨Nat.zero_le _, Nat.zero_le _⟩ rfl rfl (Nat.le_of_ble_eq_true rfl) dX11_look_69) (fun H locs hS => ?_)
          refine lv_topi (fun x5_23 e1 => ?_)
          have hf := lt1_n e1 hf
          refine lv_istore (lv' := [(5, .int x5_23), (0, .ref x0), (1, .int x1), (2, .int x2), (3, .int x3), (4, .int x4)]) hx hb dX11_look_72 hl (by decide) rfl (fun ls hl => ?_)
          refine lv_iload_n hx hb dX11_look_74 rfl (lv_at hl 3 rfl) ?_
          refine lv_iconst (v := (-1)) hx hb dX11_look_75 (by decide) ?_
          refine lv_icmp_eq (tgt := 85) hx hb dX11_look_76 (by decide) (fun q24 => ?_) (fun q24 => ?_)
          · have hf := ifp hf q24
            exact hj85 x4 x5_23 m22 H locs ls hf hS (lv_sub hl [1, 2, 5, 0] rfl)
          · have hf := ifn hf q24
            refine lv_iload hx hb dX11_look_79 (lv_at hl 0 rfl) ?_
            refine lv_iload_n hx hb dX11_look_81 rfl (lv_at hl 4 rfl) ?_
            refine lv_icmp_ge (tgt := 91) hx hb dX11_look_82 (by decide) (fun q25 => ?_) (fun q25 => ?_)
            · have hf := ifp hf q25
              exact hj91 x2 x3 x4 m22 H locs ls hf hS (lv_sub hl [1, 2, 3, 4, 5] rfl)
            · have hf := ifn hf q25
              exact hj85 x4 x5_23 m22 H locs ls hf hS (lv_sub hl [1, 2, 5, 0] rfl)
        · have hf := ifn hf q19
          refine lv_goto (tgt := 91) hx hb dX11_look_60 (by decide) ?_
          exact hj91 x2 x3 x4 mm H locs ls hf hS hl
    · have hf := sme_r hf
      cases hf
      exact am_thrV (As := [.int s1]) X (hml.trans hl.1.symm) hS (cX11_need_thr (l := l) (E := E) hl0 h1) mv_X11_186 hrc rfl ⟨Nat.le_trans (by decide) hRa, Nat.le_trans (by decide) hRb⟩ (hRc _ rfl) rfl rfl (Nat.le_of_ble_eq_true rfl) dX11_look_15 (fun H locs ce q9 hS a1 a2 a3 => hthr _ rfl _ H locs ls _ ce q9 hS a1 a2 a3)
  have hj10 : ∀ (x0 : Nat) (x1 : Int32) (s0 : Nat) (mm : Mem) (H : Heap) (locs : List Loc) (ls : Array Slot), fX11_look_j10 (eS E) x0 x1 s0 mm = some (res, mm1) → wS E s mm H locs → lv_has ls 6 [(0, .ref x0), (1, .int x1)] → W p l e R s m args below meth c H locs 0 0 Q (F0 m 10 ls [.ref s0]) := by
    intro x0 x1 s0 mm H locs ls hf hS hl
    unfold fX11_look_j10 at hf
    refine lv_iconst (v := 1) hx hb dX11_look_10 (by decide) ?_
    refine lv_goto (tgt := 15) hx hb dX11_look_11 (by decide) ?_
    exact hj15 x0 x1 s0 1 mm H locs ls hf hS hl
  intro H locs ls hS hl
  refine lv_aload_n hx hb dX11_look_0 rfl (lv_at hl 0 rfl) ?_
  refine lv_iload_n hx hb dX11_look_1 rfl (lv_at hl 1 rfl) ?_
  refine lv_if_eq (tgt := 10) hx hb dX11_look_2 (by decide) (fun q26 => ?_) (fun q26 => ?_)
  · have hf := ifp hf q26
    exact hj10 x0 x1 x0 mm H locs ls hf hS hl
  · have hf := ifn hf q26
    refine lv_iload_n hx hb dX11_look_5 rfl (lv_at hl 1 rfl) ?_
    refine lv_iconst (v := 1) hx hb dX11_look_6 (by decide) ?_
    refine lv_icmp_ne (tgt := 14) hx hb dX11_look_7 (by decide) (fun q27 => ?_) (fun q27 => ?_)
    · have hf := ifn hf q27
      refine lv_iconst (v := 0) hx hb dX11_look_14 (by decide) ?_
      exact hj15 x0 x1 x0 0 mm H locs ls hf hS hl
    · have hf := ifp hf q27
      exact hj10 x0 x1 x0 mm H locs ls hf hS hl
set_option maxRecDepth 100000 in
theorem cX11_look_ok {l : Launch} {E : Ev} (hl0 : l.stackTraces = false) {x0 : Nat} {x1 : Int32} {mm : Mem} {r : Int32} {mm1 : Mem} (hf : fX11_look (eS E) x0 x1 mm = some (.inl r, mm1)) : CtI l yX11_look cX11_look 6 (some .int) 8 146 E [.ref x0, .int x1] mm r mm1 := by
  refine Met.ofW (cc := cX11_look) (maxL := 6) (ret := (some .int)) (by decide) rfl ?_
  intro p e s m args below meth c s₁ B hml hv
  obtain ⟨rfl, X, hS, hr, hlocks⟩ := am_in B hv
  refine am_entry (Nat.le_of_ble_eq_true rfl) (fun ls hl => ?_)
  exact wX11_look hl0 X hml ⟨Nat.le_refl _, Nat.le_refl _⟩ hf (fun r e pc H locs ls hn hd hS => by cases e; exact am_ri X hS hr hn hd hlocks) (fun k e => by cases e) (fun k e => by cases e) _ _ ls hS hl
set_option maxRecDepth 100000 in
theorem cX11_look_thr {l : Launch} {E : Ev} (hl0 : l.stackTraces = false) {x0 : Nat} {x1 : Int32} {mm : Mem} {k : Nat} {mm1 : Mem} (hf : fX11_look (eS E) x0 x1 mm = some (.inr k, mm1)) : CtX l yX11_look cX11_look 6 (some .int) 8 146 E [.ref x0, .int x1] mm k mm1 := by
  refine vx_ofW (cc := cX11_look) (maxL := 6) (ret := (some .int)) (by decide) rfl ?_
  intro p e s m args below meth c s₁ B hml hxt hv
  obtain ⟨rfl, X, hS, hr, hlocks⟩ := am_in B hv
  refine am_entry (Nat.le_of_ble_eq_true rfl) (fun ls hl => ?_)
  exact wX11_look hl0 X hml ⟨Nat.le_refl _, Nat.le_refl _⟩ hf (fun r e => by cases e) (fun k e => ⟨Nat.le_refl _, Nat.le_refl _⟩) (fun k1 e pc H locs ls rest ce q9 hS a1 a2 a3 => by cases e; exact am_out X hS hxt hlocks a1 a2 a3) _ _ ls hS hl
set_option maxHeartbeats 4000000 in
set_option maxRecDepth 100000 in
theorem wX11_isQuota {p : Program} {l : Launch} {e : Env} {R : Room} {s : State} {m : MethodId} {args : Array Value} {below : List Frame} {meth : Method} {c : Code} {Q : State → Prop} {E : Ev} (X : Cx p s m args c cX11_isQuota RX11 E) (hml : c.maxLocals = 1) (hR : 0 ≤ R.frames ∧ 0 ≤ R.locals) {x0 : Int32} {mm : Mem} {r : Int32} (hf : fX11_isQuota x0 = some r) (hret : ∀ (pc : Nat) (H : Heap) (locs : List Loc) (ls : Array Slot), narrow .boolean (.int r) = .int r → decode cX11_isQuota pc = .ok (.ireturn, 1) → wS E s mm H locs → W p l e R s m args below meth c H locs 0 0 Q (F0 m pc ls [.int r])) : ∀ (H : Heap) (locs : List Loc) (ls : Array Slot), wS E s mm H locs → lv_has ls 1 [(0, .int x0)] → W p l e R s m args below meth c H locs 0 0 Q (F0 m 0 ls []) := by
  have hx := X.1
  have hb := X.2.1
  have hR1 := hR.1
  have hR2 := hR.2
  have hRa : 0 ≤ R.frames := by omega
  have hRb : 0 ≤ R.locals := by omega
  unfold fX11_isQuota at hf
  have hj17 : ∀ (s0 : Int32) (H : Heap) (locs : List Loc) (ls : Array Slot), fX11_isQuota_j17 s0 = some r → wS E s mm H locs → lv_has ls 1 [] → W p l e R s m args below meth c H locs 0 0 Q (F0 m 17 ls [.int s0]) := by
    intro s0 H locs ls hf hS hl
    unfold fX11_isQuota_j17 at hf
    obtain ⟨v1, h1, hf⟩ := bs hf
    obtain ⟨rfl, h2⟩ := ckZ_n h1
    cases hf
    exact hret _ _ _ _ h2 dX11_isQuota_17 hS
  have hj16 : ∀ (H : Heap) (locs : List Loc) (ls : Array Slot), fX11_isQuota_j16 = some r → wS E s mm H locs → lv_has ls 1 [] → W p l e R s m args below meth c H locs 0 0 Q (F0 m 16 ls []) := by
    intro H locs ls hf hS hl
    unfold fX11_isQuota_j16 at hf
    refine lv_iconst (v := 0) hx hb dX11_isQuota_16 (by decide) ?_
    exact hj17 0 H locs ls hf hS hl
  intro H locs ls hS hl
  refine lv_iload_n hx hb dX11_isQuota_0 rfl (lv_at hl 0 rfl) ?_
  refine lv_iconst (v := 1) hx hb dX11_isQuota_1 (by decide) ?_
  refine lv_icmp_lt (tgt := 16) hx hb dX11_isQuota_2 (by decide) (fun q2 => ?_) (fun q2 => ?_)
  · have hf := ifp hf q2
    exact hj16  H locs ls hf hS (lv_sub hl [] rfl)
  · have hf := ifn hf q2
    refine lv_iload_n hx hb dX11_isQuota_5 rfl (lv_at hl 0 rfl) ?_
    refine lv_sipush (v := 2800) hx hb dX11_isQuota_6 (by decide) ?_
    refine lv_icmp_gt (tgt := 16) hx hb dX11_isQuota_9 (by decide) (fun q3 => ?_) (fun q3 => ?_)
    · have hf := ifp hf q3
      exact hj16  H locs ls hf hS (lv_sub hl [] rfl)
    · have hf := ifn hf q3
      refine lv_iconst (v := 1) hx hb dX11_isQuota_12 (by decide) ?_
      refine lv_goto (tgt := 17) hx hb dX11_isQuota_13 (by decide) ?_
      exact hj17 1 H locs ls hf hS (lv_sub hl [] rfl)
set_option maxRecDepth 100000 in
theorem cX11_isQuota_ok {l : Launch} {E : Ev} {x0 : Int32} {mm : Mem} {r : Int32} (hf : fX11_isQuota x0 = some r) : CtI l yX11_isQuota cX11_isQuota 1 (some .boolean) (0) (0) E [.int x0] mm r mm := by
  refine Met.ofW (cc := cX11_isQuota) (maxL := 1) (ret := (some .boolean)) (by decide) rfl ?_
  intro p e s m args below meth c s₁ B hml hv
  obtain ⟨rfl, X, hS, hr, hlocks⟩ := am_in B hv
  refine am_entry (Nat.le_of_ble_eq_true rfl) (fun ls hl => ?_)
  exact wX11_isQuota X hml ⟨Nat.le_refl _, Nat.le_refl _⟩ hf (fun pc H locs ls hn hd hS => am_ri X hS hr hn hd hlocks) _ _ ls hS hl
set_option maxHeartbeats 4000000 in
set_option maxRecDepth 100000 in
theorem wX11_isSwing {p : Program} {l : Launch} {e : Env} {R : Room} {s : State} {m : MethodId} {args : Array Value} {below : List Frame} {meth : Method} {c : Code} {Q : State → Prop} {E : Ev} (X : Cx p s m args c cX11_isSwing RX11 E) (hml : c.maxLocals = 7) (hR : 0 ≤ R.frames ∧ 0 ≤ R.locals) {x0 : Nat} {x1 : Int32} {x2 : Int32} {x3 : Int32} {x4 : Int32} {mm : Mem} {r : Int32} (hf : fX11_isSwing (eS E) x0 x1 x2 x3 x4 mm = some r) (hret : ∀ (pc : Nat) (H : Heap) (locs : List Loc) (ls : Array Slot), narrow .boolean (.int r) = .int r → decode cX11_isSwing pc = .ok (.ireturn, 1) → wS E s mm H locs → W p l e R s m args below meth c H locs 0 0 Q (F0 m pc ls [.int r])) : ∀ (H : Heap) (locs : List Loc) (ls : Array Slot), wS E s mm H locs → lv_has ls 7 [(0, .ref x0), (1, .int x1), (2, .int x2), (3, .int x3), (4, .int x4)] → W p l e R s m args below meth c H locs 0 0 Q (F0 m 0 ls []) := by
  have hx := X.1
  have hb := X.2.1
  have hR1 := hR.1
  have hR2 := hR.2
  have hRa : 0 ≤ R.frames := by omega
  have hRb : 0 ≤ R.locals := by omega
  unfold fX11_isSwing at hf
  have hj91 : ∀ (s0 : Int32) (H : Heap) (locs : List Loc) (ls : Array Slot), fX11_isSwing_j91 (eS E) s0 mm = some r → wS E s mm H locs → lv_has ls 7 [] → W p l e R s m args below meth c H locs 0 0 Q (F0 m 91 ls [.int s0]) := by
    intro s0 H locs ls hf hS hl
    unfold fX11_isSwing_j91 at hf
    obtain ⟨v1, h1, hf⟩ := bs hf
    obtain ⟨rfl, h2⟩ := ckZ_n h1
    cases hf
    exact hret _ _ _ _ h2 dX11_isSwing_91 hS
  have hj90 : ∀ (H : Heap) (locs : List Loc) (ls : Array Slot), fX11_isSwing_j90 (eS E) mm = some r → wS E s mm H locs → lv_has ls 7 [] → W p l e R s m args below meth c H locs 0 0 Q (F0 m 90 ls []) := by
    intro H locs ls hf hS hl
    unfold fX11_isSwing_j90 at hf
    refine lv_iconst (v := 0) hx hb dX11_isSwing_90 (by decide) ?_
    exact hj91 0 H locs ls hf hS hl
  have hj59 : ∀ (x0 : Nat) (x1 : Int32) (x2 : Int32) (x3 : Int32) (x5 : Int32) (H : Heap) (locs : List Loc) (ls : Array Slot), fX11_isSwing_j59 (eS E) x0 x1 x2 x3 x5 mm = some r → wS E s mm H locs → lv_has ls 7 [(0, .ref x0), (1, .int x1), (2, .int x2), (3, .int x3), (5, .int x5)] → W p l e R s m args below meth c H locs 0 0 Q (F0 m 59 ls []) := by
    intro x0 x1 x2 x3 x5 H locs ls hf hS hl
    unfold fX11_isSwing_j59 at hf
    refine lv_iload hx hb dX11_isSwing_59 (lv_at hl 4 rfl) ?_
    refine lv_iload_n hx hb dX11_isSwing_61 rfl (lv_at hl 3 rfl) ?_
    refine lv_icmp_ge (tgt := 90) hx hb dX11_isSwing_62 (by decide) (fun q2 => ?_) (fun q2 => ?_)
    · have hf := ifp hf q2
      exact hj90  H locs ls hf hS (lv_sub hl [] rfl)
    · have hf := ifn hf q2
      refine lv_iload hx hb dX11_isSwing_65 (lv_at hl 4 rfl) ?_
      refine lv_aload_n hx hb dX11_isSwing_67 rfl (lv_at hl 0 rfl) ?_
      obtain ⟨a3, h1, hf⟩ := bs hf
      refine am_gr X hS fl_X11_67 rfl h1 dX11_isSwing_68 ?_
      obtain ⟨a4, h1, hf⟩ := bs hf
      refine am_gr X hS fl_X11_204 rfl h1 dX11_isSwing_71 ?_
      refine lv_iload_n hx hb dX11_isSwing_74 rfl (lv_at hl 1 rfl) ?_
      refine lv_bipush (v := 7) hx hb dX11_isSwing_75 (by decide) ?_
      refine lv_imul hx hb dX11_isSwing_77 ?_
      refine lv_iload_n hx hb dX11_isSwing_78 rfl (lv_at hl 2 rfl) ?_
      refine lv_iadd hx hb dX11_isSwing_79 ?_
      obtain ⟨v5, h1, hf⟩ := bs hf
      refine am_ald X hS h1 dX11_isSwing_80 ?_
      refine lv_iadd hx hb dX11_isSwing_81 ?_
      refine lv_iload_n hx hb dX11_isSwing_82 rfl (lv_at hl 3 rfl) ?_
      refine lv_icmp_lt (tgt := 90) hx hb dX11_isSwing_83 (by decide) (fun q6 => ?_) (fun q6 => ?_)
      · have hf := ifp hf q6
        exact hj90  H locs ls hf hS (lv_sub hl [] rfl)
      · have hf := ifn hf q6
        refine lv_iconst (v := 1) hx hb dX11_isSwing_86 (by decide) ?_
        refine lv_goto (tgt := 91) hx hb dX11_isSwing_87 (by decide) ?_
        exact hj91 1 H locs ls hf hS (lv_sub hl [] rfl)
  intro H locs ls hS hl
  refine lv_iload hx hb dX11_isSwing_0 (lv_at hl 4 rfl) ?_
  refine lv_iload_n hx hb dX11_isSwing_2 rfl (lv_at hl 2 rfl) ?_
  refine lv_ishr hx hb dX11_isSwing_3 ?_
  refine lv_iconst (v := 1) hx hb dX11_isSwing_4 (by decide) ?_
  refine lv_iand hx hb dX11_isSwing_5 ?_
  refine lv_iconst (v := 1) hx hb dX11_isSwing_6 (by decide) ?_
  refine lv_icmp_ne (tgt := 12) hx hb dX11_isSwing_7 (by decide) (fun q7 => ?_) (fun q7 => ?_)
  · have hf := ifn hf q7
    refine lv_iconst (v := 0) hx hb dX11_isSwing_12 (by decide) ?_
    refine lv_topi (fun x5_8 e1 => ?_)
    have hf := lt1_n e1 hf
    refine lv_istore (lv' := [(5, .int x5_8), (0, .ref x0), (1, .int x1), (2, .int x2), (3, .int x3), (4, .int x4)]) hx hb dX11_isSwing_13 hl (by decide) rfl (fun ls hl => ?_)
    refine lv_iconst (v := 0) hx hb dX11_isSwing_15 (by decide) ?_
    refine lv_topi (fun x6_9 e1 => ?_)
    have hf := lt1_n e1 hf
    refine lv_istore (lv' := [(6, .int x6_9), (5, .int x5_8), (0, .ref x0), (1, .int x1), (2, .int x2), (3, .int x3), (4, .int x4)]) hx hb dX11_isSwing_16 hl (by decide) rfl (fun ls hl => ?_)
    obtain ⟨ex18, hl18, hk18⟩ := bs hf
    refine loop_W (P := fun st => ∀ (H : Heap) (locs : List Loc) (ls : Array Slot), wS E s mm H locs → lv_has ls 7 [(0, .ref x0), (1, .int x1), (2, .int x2), (3, .int x3), (4, .int x4), (5, .int st.1), (6, .int st.2)] → W p l e R s m args below meth c H locs 0 0 Q (F0 m 18 ls [])) (ex := ex18) ?_ FU _ hl18 H locs ls hS (lv_sub hl [2, 3, 4, 5, 6, 1, 0] rfl)
    intro st y18 hf hyL18 hyR18 H locs ls hS hl
    obtain ⟨x5, x6⟩ := st
    have hf : fX11_isSwing_b18 (eS E) x0 x1 x2 x3 x4 x5 x6 mm = some y18 := hf
    have hS : wS E s mm H locs := hS
    have hl : lv_has ls 7 [(0, .ref x0), (1, .int x1), (2, .int x2), (3, .int x3), (4, .int x4), (5, .int x5), (6, .int x6)] := hl
    unfold fX11_isSwing_b18 at hf
    refine lv_iload hx hb dX11_isSwing_18 (lv_at hl 6 rfl) ?_
    refine lv_bipush (v := 7) hx hb dX11_isSwing_20 (by decide) ?_
    refine lv_icmp_ge (tgt := 59) hx hb dX11_isSwing_22 (by decide) (fun q10 => ?_) (fun q10 => ?_)
    · have hf := ifp hf q10
      obtain rfl : x5 = ex18 := hyR18 _ (Option.some.inj hf).symm
      exact hj59 x0 x1 x2 x3 x5 H locs ls hk18 hS (lv_sub hl [0, 1, 2, 3, 5] rfl)
    · have hf := ifn hf q10
      refine lv_iload hx hb dX11_isSwing_25 (lv_at hl 5 rfl) ?_
      refine lv_iload hx hb dX11_isSwing_27 (lv_at hl 4 rfl) ?_
      refine lv_iload hx hb dX11_isSwing_29 (lv_at hl 6 rfl) ?_
      refine lv_ishr hx hb dX11_isSwing_31 ?_
      refine lv_iconst (v := 1) hx hb dX11_isSwing_32 (by decide) ?_
      refine lv_iand hx hb dX11_isSwing_33 ?_
      refine lv_aload_n hx hb dX11_isSwing_34 rfl (lv_at hl 0 rfl) ?_
      obtain ⟨a11, h1, hf⟩ := bs hf
      refine am_gr X hS fl_X11_67 rfl h1 dX11_isSwing_35 ?_
      obtain ⟨a12, h1, hf⟩ := bs hf
      refine am_gr X hS fl_X11_204 rfl h1 dX11_isSwing_38 ?_
      refine lv_iload_n hx hb dX11_isSwing_41 rfl (lv_at hl 1 rfl) ?_
      refine lv_bipush (v := 7) hx hb dX11_isSwing_42 (by decide) ?_
      refine lv_imul hx hb dX11_isSwing_44 ?_
      refine lv_iload hx hb dX11_isSwing_45 (lv_at hl 6 rfl) ?_
      refine lv_iadd hx hb dX11_isSwing_47 ?_
      obtain ⟨v13, h1, hf⟩ := bs hf
      refine am_ald X hS h1 dX11_isSwing_48 ?_
      refine lv_imul hx hb dX11_isSwing_49 ?_
      refine lv_iadd hx hb dX11_isSwing_50 ?_
      refine lv_topi (fun x5_14 e1 => ?_)
      have hf := lt1_n e1 hf
      refine lv_istore (lv' := [(5, .int x5_14), (0, .ref x0), (1, .int x1), (2, .int x2), (3, .int x3), (4, .int x4), (6, .int x6)]) hx hb dX11_isSwing_51 hl (by decide) rfl (fun ls hl => ?_)
      obtain ⟨x6_15, e1⟩ : ∃ z : Int32, z = x6 + 1 := ⟨_, rfl⟩
      have hf := lt1_n e1 hf
      refine lv_iinc (v := x6_15) (lv' := [(6, .int x6_15), (5, .int x5_14), (0, .ref x0), (1, .int x1), (2, .int x2), (3, .int x3), (4, .int x4)]) hx hb dX11_isSwing_53 hl (k := 6) rfl (by rw [e1]; rfl) (by decide) rfl (fun ls hl => ?_)
      refine lv_goto (tgt := 18) hx hb dX11_isSwing_56 (by decide) ?_
      exact hyL18 _ (Option.some.inj hf).symm H locs ls hS (lv_sub hl [2, 3, 4, 5, 6, 1, 0] rfl)
  · have hf := ifp hf q7
    refine lv_iconst (v := 0) hx hb dX11_isSwing_10 (by decide) ?_
    cases hf
    exact hret _ _ _ _ rfl dX11_isSwing_11 hS
set_option maxRecDepth 100000 in
theorem cX11_isSwing_ok {l : Launch} {E : Ev} {x0 : Nat} {x1 : Int32} {x2 : Int32} {x3 : Int32} {x4 : Int32} {mm : Mem} {r : Int32} (hf : fX11_isSwing (eS E) x0 x1 x2 x3 x4 mm = some r) : CtI l yX11_isSwing cX11_isSwing 7 (some .boolean) (0) (0) E [.ref x0, .int x1, .int x2, .int x3, .int x4] mm r mm := by
  refine Met.ofW (cc := cX11_isSwing) (maxL := 7) (ret := (some .boolean)) (by decide) rfl ?_
  intro p e s m args below meth c s₁ B hml hv
  obtain ⟨rfl, X, hS, hr, hlocks⟩ := am_in B hv
  refine am_entry (Nat.le_of_ble_eq_true rfl) (fun ls hl => ?_)
  exact wX11_isSwing X hml ⟨Nat.le_refl _, Nat.le_refl _⟩ hf (fun pc H locs ls hn hd hS => am_ri X hS hr hn hd hlocks) _ _ ls hS hl
set_option maxHeartbeats 4000000 in
set_option maxRecDepth 100000 in
theorem wX11_swings {p : Program} {l : Launch} {e : Env} {R : Room} {s : State} {m : MethodId} {args : Array Value} {below : List Frame} {meth : Method} {c : Code} {Q : State → Prop} {E : Ev} (hl0 : l.stackTraces = false) (X : Cx p s m args c cX11_swings RX11 E) (hml : c.maxLocals = 6) (hR : 8 ≤ R.frames ∧ 141 ≤ R.locals) {x0 : Nat} {x1 : Int32} {x2 : Int32} {x3 : Int32} {mm : Mem} {res : Int32 ⊕ Nat} {mm1 : Mem} (hf : fX11_swings (eS E) x0 x1 x2 x3 mm = some (res, mm1)) (hret : ∀ r, res = .inl r → ∀ (pc : Nat) (H : Heap) (locs : List Loc) (ls : Array Slot), narrow .int (.int r) = .int r → decode cX11_swings pc = .ok (.ireturn, 1) → wS E s mm1 H locs → W p l e R s m args below meth c H locs 0 0 Q (F0 m pc ls [.int r])) (hRc : ∀ k, res = .inr k → 1 ≤ R.cells ∧ 6 ≤ R.slots) (hthr : ∀ k, res = .inr k → ∀ (pc : Nat) (H : Heap) (locs : List Loc) (ls : Array Slot) (rest : List Value) (ce : Cell) (q9 : Addr), wS E s mm1 H locs → H[q9]? = some ce → ce.vm = .none → s.vm.findClass (exN k) = some ce.cls → vx_W p l e R s m args below meth c H locs 1 6 Q (F0 m pc ls rest) q9) : ∀ (H : Heap) (locs : List Loc) (ls : Array Slot), wS E s mm H locs → lv_has ls 6 [(0, .ref x0), (1, .int x1), (2, .int x2), (3, .int x3)] → W p l e R s m args below meth c H locs 0 0 Q (F0 m 0 ls []) := by
  have hx := X.1
  have hb := X.2.1
  have hRa := hR.1
  have hRb := hR.2
  unfold fX11_swings at hf
  have hj70 : ∀ (x4 : Int32) (mm : Mem) (H : Heap) (locs : List Loc) (ls : Array Slot), fX11_swings_j70 (eS E) x4 mm = some (res, mm1) → wS E s mm H locs → lv_has ls 6 [(4, .int x4)] → W p l e R s m args below meth c H locs 0 0 Q (F0 m 70 ls []) := by
    intro x4 mm H locs ls hf hS hl
    unfold fX11_swings_j70 at hf
    refine lv_iload hx hb dX11_swings_70 (lv_at hl 0 rfl) ?_
    cases hf
    exact hret _ rfl _ _ _ _ rfl dX11_swings_72 hS
  have hj25 : ∀ (x0 : Nat) (x1 : Int32) (x2 : Int32) (x3 : Int32) (s0 : Nat) (s1 : Int32) (mm : Mem) (H : Heap) (locs : List Loc) (ls : Array Slot), fX11_swings_j25 (eS E) x0 x1 x2 x3 s0 s1 mm = some (res, mm1) → wS E s mm H locs → lv_has ls 6 [(0, .ref x0), (1, .int x1), (2, .int x2), (3, .int x3)] → W p l e R s m args below meth c H locs 0 0 Q (F0 m 25 ls [.int s1, .ref s0]) := by
    intro x0 x1 x2 x3 s0 s1 mm H locs ls hf hS hl
    unfold fX11_swings_j25 at hf
    obtain ⟨u0, h0, hf⟩ := bs hf
    obtain ⟨_, hrc⟩ := isO_n h0
    obtain ⟨u1, m2, h1, hf⟩ := bs2 hf
    rcases u1 with v3 | k1
    · have hf := sme_l hf
      refine am_endv hS (am_runV (As := [.int s1]) X (hml.trans hl.1.symm) hS (cX11_need_ok (l := l) (E := E) hl0 h1) mv_X11_186 hrc rfl ⟨Nat.le_trans (by decide) hRa, Nat.le_trans (by decide) hRb⟩ ⟨Nat.zero_le _, Nat.zero_le _⟩ rfl rfl (Nat.le_of_ble_eq_true rfl) dX11_swings_25) (fun H locs hS => ?_)
      refine lv_iconst (v := 0) hx hb dX11_swings_28 (by decide) ?_
      refine lv_topi (fun x4_4 e1 => ?_)
      have hf := lt1_n e1 hf
      refine lv_istore (lv' := [(4, .int x4_4), (0, .ref x0), (1, .int x1), (2, .int x2), (3, .int x3)]) hx hb dX11_swings_29 hl (by decide) rfl (fun ls hl => ?_)
      refine lv_iconst (v := 0) hx hb dX11_swings_31 (by decide) ?_
      refine lv_topi (fun x5_5 e1 => ?_)
      have hf := lt1_n e1 hf
      refine lv_istore (lv' := [(5, .int x5_5), (4, .int x4_4), (0, .ref x0), (1, .int x1), (2, .int x2), (3, .int x3)]) hx hb dX11_swings_32 hl (by decide) rfl (fun ls hl => ?_)
      obtain ⟨ex34, hl34, hk34⟩ := bs hf
      refine loop_W (P := fun st => ∀ (H : Heap) (locs : List Loc) (ls : Array Slot), wS E s m2 H locs → lv_has ls 6 [(0, .ref x0), (1, .int x1), (2, .int x2), (3, .int x3), (4, .int st.1), (5, .int st.2)] → W p l e R s m args below meth c H locs 0 0 Q (F0 m 34 ls [])) (ex := ex34) ?_ FU _ hl34 H locs ls hS (lv_sub hl [2, 3, 4, 5, 1, 0] rfl)
      intro st y34 hf hyL34 hyR34 H locs ls hS hl
      obtain ⟨x4, x5⟩ := st
      obtain ⟨mm, rfl⟩ : ∃ z, z = m2 := ⟨_, rfl⟩
      have hf : fX11_swings_b34 (eS E) x0 x1 x2 x3 x4 x5 mm = some y34 := hf
      have hS : wS E s mm H locs := hS
      have hl : lv_has ls 6 [(0, .ref x0), (1, .int x1), (2, .int x2), (3, .int x3), (4, .int x4), (5, .int x5)] := hl
      unfold fX11_swings_b34 at hf
      have hj61 : ∀ (x5 : Int32) (s0 : Int32) (s1 : Int32) (H : Heap) (locs : List Loc) (ls : Array Slot), fX11_swings_j61 (eS E) x0 x1 x2 x3 x5 s0 s1 mm = some y34 → wS E s mm H locs → lv_has ls 6 [(0, .ref x0), (1, .int x1), (2, .int x2), (3, .int x3), (5, .int x5)] → W p l e R s m args below meth c H locs 0 0 Q (F0 m 61 ls [.int s1, .int s0]) := by
        intro x5 s0 s1 H locs ls hf hS hl
        unfold fX11_swings_j61 at hf
        refine lv_iadd hx hb dX11_swings_61 ?_
        refine lv_topi (fun x4_6 e1 => ?_)
        have hf := lt1_n e1 hf
        refine lv_istore (lv' := [(4, .int x4_6), (0, .ref x0), (1, .int x1), (2, .int x2), (3, .int x3), (5, .int x5)]) hx hb dX11_swings_62 hl (by decide) rfl (fun ls hl => ?_)
        obtain ⟨x5_7, e1⟩ : ∃ z : Int32, z = x5 + 1 := ⟨_, rfl⟩
        have hf := lt1_n e1 hf
        refine lv_iinc (v := x5_7) (lv' := [(5, .int x5_7), (4, .int x4_6), (0, .ref x0), (1, .int x1), (2, .int x2), (3, .int x3)]) hx hb dX11_swings_64 hl (k := 5) rfl (by rw [e1]; rfl) (by decide) rfl (fun ls hl => ?_)
        refine lv_goto (tgt := 34) hx hb dX11_swings_67 (by decide) ?_
        exact hyL34 _ (Option.some.inj hf).symm H locs ls hS (lv_sub hl [2, 3, 4, 5, 1, 0] rfl)
      refine lv_iload hx hb dX11_swings_34 (lv_at hl 5 rfl) ?_
      refine lv_sipush (v := 128) hx hb dX11_swings_36 (by decide) ?_
      refine lv_icmp_ge (tgt := 70) hx hb dX11_swings_39 (by decide) (fun q8 => ?_) (fun q8 => ?_)
      · have hf := ifp hf q8
        obtain rfl : x4 = ex34 := hyR34 _ (Option.some.inj hf).symm
        exact hj70 x4 mm H locs ls hk34 hS (lv_sub hl [4] rfl)
      · have hf := ifn hf q8
        refine lv_iload hx hb dX11_swings_42 (lv_at hl 4 rfl) ?_
        refine lv_aload_n hx hb dX11_swings_44 rfl (lv_at hl 0 rfl) ?_
        refine lv_iload_n hx hb dX11_swings_45 rfl (lv_at hl 1 rfl) ?_
        refine lv_iload_n hx hb dX11_swings_46 rfl (lv_at hl 2 rfl) ?_
        refine lv_iload_n hx hb dX11_swings_47 rfl (lv_at hl 3 rfl) ?_
        refine lv_iload hx hb dX11_swings_48 (lv_at hl 5 rfl) ?_
        obtain ⟨u0, h0, hf⟩ := bs hf
        obtain ⟨_, hrc⟩ := isO_n h0
        obtain ⟨v9, h1, hf⟩ := bs hf
        refine am_endi hS (am_runV (As := [.int x1, .int x2, .int x3, .int x5]) X (hml.trans hl.1.symm) hS (cX11_isSwing_ok (l := l) (E := E) h1) mv_X11_323 hrc rfl ⟨Nat.le_trans (by decide) hRa, Nat.le_trans (by decide) hRb⟩ ⟨Nat.zero_le _, Nat.zero_le _⟩ rfl rfl (Nat.le_of_ble_eq_true rfl) dX11_swings_50) (fun H locs hS => ?_)
        refine lv_if_eq (tgt := 60) hx hb dX11_swings_53 (by decide) (fun q10 => ?_) (fun q10 => ?_)
        · have hf := ifp hf q10
          refine lv_iconst (v := 0) hx hb dX11_swings_60 (by decide) ?_
          exact hj61 x5 x4 0 H locs ls hf hS (lv_sub hl [0, 1, 2, 3, 5] rfl)
        · have hf := ifn hf q10
          refine lv_iconst (v := 1) hx hb dX11_swings_56 (by decide) ?_
          refine lv_goto (tgt := 61) hx hb dX11_swings_57 (by decide) ?_
          exact hj61 x5 x4 1 H locs ls hf hS (lv_sub hl [0, 1, 2, 3, 5] rfl)
    · have hf := sme_r hf
      cases hf
      exact am_thrV (As := [.int s1]) X (hml.trans hl.1.symm) hS (cX11_need_thr (l := l) (E := E) hl0 h1) mv_X11_186 hrc rfl ⟨Nat.le_trans (by decide) hRa, Nat.le_trans (by decide) hRb⟩ (hRc _ rfl) rfl rfl (Nat.le_of_ble_eq_true rfl) dX11_swings_25 (fun H locs ce q9 hS a1 a2 a3 => hthr _ rfl _ H locs ls _ ce q9 hS a1 a2 a3)
  have hj24 : ∀ (x0 : Nat) (x1 : Int32) (x2 : Int32) (x3 : Int32) (s0 : Nat) (mm : Mem) (H : Heap) (locs : List Loc) (ls : Array Slot), fX11_swings_j24 (eS E) x0 x1 x2 x3 s0 mm = some (res, mm1) → wS E s mm H locs → lv_has ls 6 [(0, .ref x0), (1, .int x1), (2, .int x2), (3, .int x3)] → W p l e R s m args below meth c H locs 0 0 Q (F0 m 24 ls [.ref s0]) := by
    intro x0 x1 x2 x3 s0 mm H locs ls hf hS hl
    unfold fX11_swings_j24 at hf
    refine lv_iconst (v := 0) hx hb dX11_swings_24 (by decide) ?_
    exact hj25 x0 x1 x2 x3 s0 0 mm H locs ls hf hS hl
  intro H locs ls hS hl
  refine lv_aload_n hx hb dX11_swings_0 rfl (lv_at hl 0 rfl) ?_
  refine lv_iload_n hx hb dX11_swings_1 rfl (lv_at hl 1 rfl) ?_
  obtain ⟨u0, h0, hf⟩ := bs hf
  obtain ⟨_, hrc⟩ := isO_n h0
  obtain ⟨u11, m12, h1, hf⟩ := bs2 hf
  rcases u11 with v13 | k1
  · have hf := sme_l hf
    refine am_endv hS (am_runV (As := [.int x1]) X (hml.trans hl.1.symm) hS (cX11_needFellow_ok (l := l) (E := E) hl0 h1) mv_X11_221 hrc rfl ⟨Nat.le_trans (by decide) hRa, Nat.le_trans (by decide) hRb⟩ ⟨Nat.zero_le _, Nat.zero_le _⟩ rfl rfl (Nat.le_of_ble_eq_true rfl) dX11_swings_2) (fun H locs hS => ?_)
    refine lv_aload_n hx hb dX11_swings_5 rfl (lv_at hl 0 rfl) ?_
    refine lv_iload_n hx hb dX11_swings_6 rfl (lv_at hl 2 rfl) ?_
    obtain ⟨v14, h1, hf⟩ := bs hf
    refine am_endi hS (am_runS (As := [.int x2]) X (hml.trans hl.1.symm) hS (cX11_isPart_ok (l := l) (E := E) h1) ms_X11_240 ⟨Nat.le_trans (by decide) hRa, Nat.le_trans (by decide) hRb⟩ ⟨Nat.zero_le _, Nat.zero_le _⟩ rfl rfl (Nat.le_of_ble_eq_true rfl) dX11_swings_7) (fun H locs hS => ?_)
    refine lv_if_eq (tgt := 24) hx hb dX11_swings_10 (by decide) (fun q15 => ?_) (fun q15 => ?_)
    · have hf := ifp hf q15
      exact hj24 x0 x1 x2 x3 x0 m12 H locs ls hf hS hl
    · have hf := ifn hf q15
      refine lv_iload_n hx hb dX11_swings_13 rfl (lv_at hl 3 rfl) ?_
      obtain ⟨v16, h1, hf⟩ := bs hf
      refine am_endi hS (am_runS (As := [.int x3]) X (hml.trans hl.1.symm) hS (cX11_isQuota_ok (l := l) (E := E) h1) ms_X11_320 ⟨Nat.le_trans (by decide) hRa, Nat.le_trans (by decide) hRb⟩ ⟨Nat.zero_le _, Nat.zero_le _⟩ rfl rfl (Nat.le_of_ble_eq_true rfl) dX11_swings_14) (fun H locs hS => ?_)
      refine lv_if_eq (tgt := 24) hx hb dX11_swings_17 (by decide) (fun q17 => ?_) (fun q17 => ?_)
      · have hf := ifp hf q17
        exact hj24 x0 x1 x2 x3 x0 m12 H locs ls hf hS hl
      · have hf := ifn hf q17
        refine lv_iconst (v := 1) hx hb dX11_swings_20 (by decide) ?_
        refine lv_goto (tgt := 25) hx hb dX11_swings_21 (by decide) ?_
        exact hj25 x0 x1 x2 x3 x0 1 m12 H locs ls hf hS hl
  · have hf := sme_r hf
    cases hf
    exact am_thrV (As := [.int x1]) X (hml.trans hl.1.symm) hS (cX11_needFellow_thr (l := l) (E := E) hl0 h1) mv_X11_221 hrc rfl ⟨Nat.le_trans (by decide) hRa, Nat.le_trans (by decide) hRb⟩ (hRc _ rfl) rfl rfl (Nat.le_of_ble_eq_true rfl) dX11_swings_2 (fun H locs ce q9 hS a1 a2 a3 => hthr _ rfl _ H locs ls _ ce q9 hS a1 a2 a3)
set_option maxRecDepth 100000 in
theorem cX11_swings_ok {l : Launch} {E : Ev} (hl0 : l.stackTraces = false) {x0 : Nat} {x1 : Int32} {x2 : Int32} {x3 : Int32} {mm : Mem} {r : Int32} {mm1 : Mem} (hf : fX11_swings (eS E) x0 x1 x2 x3 mm = some (.inl r, mm1)) : CtI l yX11_swings cX11_swings 6 (some .int) 8 141 E [.ref x0, .int x1, .int x2, .int x3] mm r mm1 := by
  refine Met.ofW (cc := cX11_swings) (maxL := 6) (ret := (some .int)) (by decide) rfl ?_
  intro p e s m args below meth c s₁ B hml hv
  obtain ⟨rfl, X, hS, hr, hlocks⟩ := am_in B hv
  refine am_entry (Nat.le_of_ble_eq_true rfl) (fun ls hl => ?_)
  exact wX11_swings hl0 X hml ⟨Nat.le_refl _, Nat.le_refl _⟩ hf (fun r e pc H locs ls hn hd hS => by cases e; exact am_ri X hS hr hn hd hlocks) (fun k e => by cases e) (fun k e => by cases e) _ _ ls hS hl
set_option maxRecDepth 100000 in
theorem cX11_swings_thr {l : Launch} {E : Ev} (hl0 : l.stackTraces = false) {x0 : Nat} {x1 : Int32} {x2 : Int32} {x3 : Int32} {mm : Mem} {k : Nat} {mm1 : Mem} (hf : fX11_swings (eS E) x0 x1 x2 x3 mm = some (.inr k, mm1)) : CtX l yX11_swings cX11_swings 6 (some .int) 8 141 E [.ref x0, .int x1, .int x2, .int x3] mm k mm1 := by
  refine vx_ofW (cc := cX11_swings) (maxL := 6) (ret := (some .int)) (by decide) rfl ?_
  intro p e s m args below meth c s₁ B hml hxt hv
  obtain ⟨rfl, X, hS, hr, hlocks⟩ := am_in B hv
  refine am_entry (Nat.le_of_ble_eq_true rfl) (fun ls hl => ?_)
  exact wX11_swings hl0 X hml ⟨Nat.le_refl _, Nat.le_refl _⟩ hf (fun r e => by cases e) (fun k e => ⟨Nat.le_refl _, Nat.le_refl _⟩) (fun k1 e pc H locs ls rest ce q9 hS a1 a2 a3 => by cases e; exact am_out X hS hxt hlocks a1 a2 a3) _ _ ls hS hl
set_option maxHeartbeats 4000000 in
set_option maxRecDepth 100000 in
theorem wX11_inLeastTerms {p : Program} {l : Launch} {e : Env} {R : Room} {s : State} {m : MethodId} {args : Array Value} {below : List Frame} {meth : Method} {c : Code} {Q : State → Prop} {E : Ev} (X : Cx p s m args c cX11_inLeastTerms RX11 E) (hml : c.maxLocals = 12) (hR : 1 ≤ R.frames ∧ 23 ≤ R.locals) {x0 : Int64} {x2 : Int64} {x4 : Int32} {mm : Mem} {r : Int64} (hf : fX11_inLeastTerms x0 x2 x4 = some r) (hret : ∀ (pc : Nat) (H : Heap) (locs : List Loc) (ls : Array Slot), decode cX11_inLeastTerms pc = .ok (.lreturn, 1) → wS E s mm H locs → W p l e R s m args below meth c H locs 0 0 Q (F0 m pc ls [.long r])) : ∀ (H : Heap) (locs : List Loc) (ls : Array Slot), wS E s mm H locs → lv_has ls 12 [(0, .long x0), (2, .long x2), (4, .int x4)] → W p l e R s m args below meth c H locs 0 0 Q (F0 m 0 ls []) := by
  have hx := X.1
  have hb := X.2.1
  have hR1 := hR.1
  have hR2 := hR.2
  have hRa : 1 ≤ R.frames := by omega
  have hRb : 23 ≤ R.locals := by omega
  unfold fX11_inLeastTerms at hf
  have hj68 : ∀ (s0 : Int64) (H : Heap) (locs : List Loc) (ls : Array Slot), fX11_inLeastTerms_j68 s0 = some r → wS E s mm H locs → lv_has ls 12 [] → W p l e R s m args below meth c H locs 0 0 Q (F0 m 68 ls [.long s0]) := by
    intro s0 H locs ls hf hS hl
    unfold fX11_inLeastTerms_j68 at hf
    cases hf
    exact hret _ _ _ _ dX11_inLeastTerms_68 hS
  have hj44 : ∀ (x0 : Int64) (x2 : Int64) (x4 : Int32) (x5 : Int64) (H : Heap) (locs : List Loc) (ls : Array Slot), fX11_inLeastTerms_j44 x0 x2 x4 x5 = some r → wS E s mm H locs → lv_has ls 12 [(0, .long x0), (2, .long x2), (4, .int x4), (5, .long x5)] → W p l e R s m args below meth c H locs 0 0 Q (F0 m 44 ls []) := by
    intro x0 x2 x4 x5 H locs ls hf hS hl
    unfold fX11_inLeastTerms_j44 at hf
    refine lv_lconst (v := 1) hx hb dX11_inLeastTerms_44 (by decide) ?_
    refine lv_lload hx hb dX11_inLeastTerms_45 (lv_at hl 3 rfl) ?_
    refine va_mmax_long hx hb (hml.trans hl.1.symm) X.2.2.2.1 (X.2.2.1 _ (inBi 1193 (by decide +kernel))) (X.2.2.1 _ (inBi 1194 (by decide +kernel))) (X.2.2.1 _ (inBi 117 (by decide +kernel))) (X.2.2.1 _ (inBi 1195 (by decide +kernel))) (Nat.le_trans (by decide) hRa) (Nat.le_trans (Nat.le_of_ble_eq_true rfl) hRb) (Nat.zero_le _) (Nat.zero_le _) dX11_inLeastTerms_47 ?_
    refine lv_topl (fun x9_1 e1 => ?_)
    have hf := lt1_n e1 hf
    refine lv_lstore (lv' := [(9, .long x9_1), (0, .long x0), (2, .long x2), (4, .int x4), (5, .long x5)]) hx hb dX11_inLeastTerms_50 hl (by decide) rfl (fun ls hl => ?_)
    refine lv_iload hx hb dX11_inLeastTerms_52 (lv_at hl 3 rfl) ?_
    refine lv_if_ne (tgt := 64) hx hb dX11_inLeastTerms_54 (by decide) (fun q2 => ?_) (fun q2 => ?_)
    · have hf := ifn hf q2
      refine lv_lload_n hx hb dX11_inLeastTerms_64 rfl (lv_at hl 2 rfl) ?_
      refine lv_lload hx hb dX11_inLeastTerms_65 (lv_at hl 0 rfl) ?_
      obtain ⟨v3, h1, hf⟩ := bs hf
      obtain ⟨h1, h2⟩ := dvL_n h1
      refine lv_ldiv hx hb dX11_inLeastTerms_67 h1 ?_
      rw [h2]
      exact hj68 v3 H locs ls hf hS (lv_sub hl [] rfl)
    · have hf := ifp hf q2
      refine lv_lload_n hx hb dX11_inLeastTerms_57 rfl (lv_at hl 1 rfl) ?_
      refine lv_lload hx hb dX11_inLeastTerms_58 (lv_at hl 0 rfl) ?_
      obtain ⟨v4, h1, hf⟩ := bs hf
      obtain ⟨h1, h2⟩ := dvL_n h1
      refine lv_ldiv hx hb dX11_inLeastTerms_60 h1 ?_
      rw [h2]
      refine lv_goto (tgt := 68) hx hb dX11_inLeastTerms_61 (by decide) ?_
      exact hj68 v4 H locs ls hf hS (lv_sub hl [] rfl)
  intro H locs ls hS hl
  refine lv_lload_n hx hb dX11_inLeastTerms_0 rfl (lv_at hl 0 rfl) ?_
  refine lv_topl (fun x5_5 e1 => ?_)
  have hf := lt1_n e1 hf
  refine lv_lstore (lv' := [(5, .long x5_5), (0, .long x0), (2, .long x2), (4, .int x4)]) hx hb dX11_inLeastTerms_1 hl (by decide) rfl (fun ls hl => ?_)
  refine lv_lload_n hx hb dX11_inLeastTerms_3 rfl (lv_at hl 2 rfl) ?_
  refine lv_topl (fun x7_6 e1 => ?_)
  have hf := lt1_n e1 hf
  refine lv_lstore (lv' := [(7, .long x7_6), (5, .long x5_5), (0, .long x0), (2, .long x2), (4, .int x4)]) hx hb dX11_inLeastTerms_4 hl (by decide) rfl (fun ls hl => ?_)
  refine lv_iconst (v := 0) hx hb dX11_inLeastTerms_6 (by decide) ?_
  refine lv_topi (fun x9_7 e1 => ?_)
  have hf := lt1_n e1 hf
  refine lv_istore (lv' := [(9, .int x9_7), (7, .long x7_6), (5, .long x5_5), (0, .long x0), (2, .long x2), (4, .int x4)]) hx hb dX11_inLeastTerms_7 hl (by decide) rfl (fun ls hl => ?_)
  obtain ⟨ex9, hl9, hk9⟩ := bs hf
  refine loop_W (P := fun st => ∀ (H : Heap) (locs : List Loc) (ls : Array Slot), wS E s mm H locs → lv_has ls 12 [(0, .long x0), (2, .long x2), (4, .int x4), (5, .long st.1), (7, .long st.2.1), (9, .int st.2.2)] → W p l e R s m args below meth c H locs 0 0 Q (F0 m 9 ls [])) (ex := ex9) ?_ FU _ hl9 H locs ls hS (lv_sub hl [3, 4, 5, 2, 1, 0] rfl)
  intro st y9 hf hyL9 hyR9 H locs ls hS hl
  obtain ⟨x5, x7, x9⟩ := st
  have hf : fX11_inLeastTerms_b9 x0 x2 x4 x5 x7 x9 = some y9 := hf
  have hS : wS E s mm H locs := hS
  have hl : lv_has ls 12 [(0, .long x0), (2, .long x2), (4, .int x4), (5, .long x5), (7, .long x7), (9, .int x9)] := hl
  unfold fX11_inLeastTerms_b9 at hf
  refine lv_iload hx hb dX11_inLeastTerms_9 (lv_at hl 5 rfl) ?_
  refine lv_bipush (v := 100) hx hb dX11_inLeastTerms_11 (by decide) ?_
  refine lv_icmp_ge (tgt := 44) hx hb dX11_inLeastTerms_13 (by decide) (fun q8 => ?_) (fun q8 => ?_)
  · have hf := ifp hf q8
    obtain rfl : x5 = ex9 := hyR9 _ (Option.some.inj hf).symm
    exact hj44 x0 x2 x4 x5 H locs ls hk9 hS (lv_sub hl [0, 1, 2, 3] rfl)
  · have hf := ifn hf q8
    refine lv_lload hx hb dX11_inLeastTerms_16 (lv_at hl 4 rfl) ?_
    refine lv_lconst (v := 0) hx hb dX11_inLeastTerms_18 (by decide) ?_
    refine W.lcmp hx hb dX11_inLeastTerms_19 ?_
    refine lv_if_eq (tgt := 44) hx hb dX11_inLeastTerms_20 (by decide) (fun q9 => ?_) (fun q9 => ?_)
    · have hf := ifp hf q9
      obtain rfl : x5 = ex9 := hyR9 _ (Option.some.inj hf).symm
      exact hj44 x0 x2 x4 x5 H locs ls hk9 hS (lv_sub hl [0, 1, 2, 3] rfl)
    · have hf := ifn hf q9
      refine lv_lload hx hb dX11_inLeastTerms_23 (lv_at hl 3 rfl) ?_
      refine lv_lload hx hb dX11_inLeastTerms_25 (lv_at hl 4 rfl) ?_
      obtain ⟨v10, h1, hf⟩ := bs hf
      obtain ⟨h1, h2⟩ := rmL_n h1
      refine lv_lrem hx hb dX11_inLeastTerms_27 h1 ?_
      rw [h2]
      refine lv_topl (fun x10_11 e1 => ?_)
      have hf := lt1_n e1 hf
      refine lv_lstore (lv' := [(10, .long x10_11), (0, .long x0), (2, .long x2), (4, .int x4), (5, .long x5), (7, .long x7), (9, .int x9)]) hx hb dX11_inLeastTerms_28 hl (by decide) rfl (fun ls hl => ?_)
      refine lv_lload hx hb dX11_inLeastTerms_30 (lv_at hl 5 rfl) ?_
      refine lv_topl (fun x5_12 e1 => ?_)
      have hf := lt1_n e1 hf
      refine lv_lstore (lv' := [(5, .long x5_12), (10, .long x10_11), (0, .long x0), (2, .long x2), (4, .int x4), (7, .long x7), (9, .int x9)]) hx hb dX11_inLeastTerms_32 hl (by decide) rfl (fun ls hl => ?_)
      refine lv_lload hx hb dX11_inLeastTerms_34 (lv_at hl 1 rfl) ?_
      refine lv_topl (fun x7_13 e1 => ?_)
      have hf := lt1_n e1 hf
      refine lv_lstore (lv' := [(7, .long x7_13), (5, .long x5_12), (10, .long x10_11), (0, .long x0), (2, .long x2), (4, .int x4), (9, .int x9)]) hx hb dX11_inLeastTerms_36 hl (by decide) rfl (fun ls hl => ?_)
      obtain ⟨x9_14, e1⟩ : ∃ z : Int32, z = x9 + 1 := ⟨_, rfl⟩
      have hf := lt1_n e1 hf
      refine lv_iinc (v := x9_14) (lv' := [(9, .int x9_14), (7, .long x7_13), (5, .long x5_12), (10, .long x10_11), (0, .long x0), (2, .long x2), (4, .int x4)]) hx hb dX11_inLeastTerms_38 hl (k := 6) rfl (by rw [e1]; rfl) (by decide) rfl (fun ls hl => ?_)
      refine lv_goto (tgt := 9) hx hb dX11_inLeastTerms_41 (by decide) ?_
      exact hyL9 _ (Option.some.inj hf).symm H locs ls hS (lv_sub hl [4, 5, 6, 2, 1, 0] rfl)
set_option maxRecDepth 100000 in
theorem cX11_inLeastTerms_ok {l : Launch} {E : Ev} {x0 : Int64} {x2 : Int64} {x4 : Int32} {mm : Mem} {r : Int64} (hf : fX11_inLeastTerms x0 x2 x4 = some r) : CtL l yX11_inLeastTerms cX11_inLeastTerms 12 (some .long) (1) (23) E [.long x0, .long x2, .int x4] mm r mm := by
  refine Met.ofW (cc := cX11_inLeastTerms) (maxL := 12) (ret := (some .long)) (by decide) rfl ?_
  intro p e s m args below meth c s₁ B hml hv
  obtain ⟨rfl, X, hS, hr, hlocks⟩ := am_in B hv
  refine am_entry (Nat.le_of_ble_eq_true rfl) (fun ls hl => ?_)
  exact wX11_inLeastTerms X hml ⟨Nat.le_refl _, Nat.le_refl _⟩ hf (fun pc H locs ls hd hS => am_rl X hS hr hd hlocks) _ _ ls hS hl
set_option maxHeartbeats 4000000 in
set_option maxRecDepth 100000 in
theorem wX11_power {p : Program} {l : Launch} {e : Env} {R : Room} {s : State} {m : MethodId} {args : Array Value} {below : List Frame} {meth : Method} {c : Code} {Q : State → Prop} {E : Ev} (hl0 : l.stackTraces = false) (X : Cx p s m args c cX11_power RX11 E) (hml : c.maxLocals = 8) (hR : 8 ≤ R.frames ∧ 141 ≤ R.locals) {x0 : Nat} {x1 : Int32} {x2 : Int32} {x3 : Int32} {x4 : Int32} {mm : Mem} {res : Int32 ⊕ Nat} {mm1 : Mem} (hf : fX11_power (eS E) x0 x1 x2 x3 x4 mm = some (res, mm1)) (hret : ∀ r, res = .inl r → ∀ (pc : Nat) (H : Heap) (locs : List Loc) (ls : Array Slot), narrow .int (.int r) = .int r → decode cX11_power pc = .ok (.ireturn, 1) → wS E s mm1 H locs → W p l e R s m args below meth c H locs 0 0 Q (F0 m pc ls [.int r])) (hRc : ∀ k, res = .inr k → 1 ≤ R.cells ∧ 6 ≤ R.slots) (hthr : ∀ k, res = .inr k → ∀ (pc : Nat) (H : Heap) (locs : List Loc) (ls : Array Slot) (rest : List Value) (ce : Cell) (q9 : Addr), wS E s mm1 H locs → H[q9]? = some ce → ce.vm = .none → s.vm.findClass (exN k) = some ce.cls → vx_W p l e R s m args below meth c H locs 1 6 Q (F0 m pc ls rest) q9) : ∀ (H : Heap) (locs : List Loc) (ls : Array Slot), wS E s mm H locs → lv_has ls 8 [(0, .ref x0), (1, .int x1), (2, .int x2), (3, .int x3), (4, .int x4)] → W p l e R s m args below meth c H locs 0 0 Q (F0 m 0 ls []) := by
  have hx := X.1
  have hb := X.2.1
  have hRa := hR.1
  have hRb := hR.2
  unfold fX11_power at hf
  have hj99 : ∀ (x4 : Int32) (x5 : Int32) (mm : Mem) (H : Heap) (locs : List Loc) (ls : Array Slot), fX11_power_j99 (eS E) x4 x5 mm = some (res, mm1) → wS E s mm H locs → lv_has ls 8 [(4, .int x4), (5, .int x5)] → W p l e R s m args below meth c H locs 0 0 Q (F0 m 99 ls []) := by
    intro x4 x5 mm H locs ls hf hS hl
    unfold fX11_power_j99 at hf
    refine lv_iload hx hb dX11_power_99 (lv_at hl 1 rfl) ?_
    refine lv_i2l (v := ((x5).toInt64)) hx hb dX11_power_101 rfl ?_
    refine lv_ldc2 (v := 5040) hx hb X.2.2.2.1 (X.2.2.1 _ (inBi 1189 (by decide +kernel))) dX11_power_102 ?_
    refine lv_iload hx hb dX11_power_105 (lv_at hl 0 rfl) ?_
    obtain ⟨v1, h1, hf⟩ := bs hf
    refine am_endl hS (am_runS (As := [.long ((x5).toInt64), .long 5040, .int x4]) X (hml.trans hl.1.symm) hS (cX11_inLeastTerms_ok (l := l) (E := E) h1) ms_X11_332 ⟨Nat.le_trans (by decide) hRa, Nat.le_trans (by decide) hRb⟩ ⟨Nat.zero_le _, Nat.zero_le _⟩ rfl rfl (Nat.le_of_ble_eq_true rfl) dX11_power_107) (fun H locs hS => ?_)
    refine lv_l2i (v := ((v1).toInt32)) hx hb dX11_power_110 rfl ?_
    cases hf
    exact hret _ rfl _ _ _ _ rfl dX11_power_111 hS
  have hj36 : ∀ (x0 : Nat) (x1 : Int32) (x2 : Int32) (x3 : Int32) (x4 : Int32) (s0 : Nat) (s1 : Int32) (mm : Mem) (H : Heap) (locs : List Loc) (ls : Array Slot), fX11_power_j36 (eS E) x0 x1 x2 x3 x4 s0 s1 mm = some (res, mm1) → wS E s mm H locs → lv_has ls 8 [(0, .ref x0), (1, .int x1), (2, .int x2), (3, .int x3), (4, .int x4)] → W p l e R s m args below meth c H locs 0 0 Q (F0 m 36 ls [.int s1, .ref s0]) := by
    intro x0 x1 x2 x3 x4 s0 s1 mm H locs ls hf hS hl
    unfold fX11_power_j36 at hf
    obtain ⟨u0, h0, hf⟩ := bs hf
    obtain ⟨_, hrc⟩ := isO_n h0
    obtain ⟨u2, m3, h1, hf⟩ := bs2 hf
    rcases u2 with v4 | k1
    · have hf := sme_l hf
      refine am_endv hS (am_runV (As := [.int s1]) X (hml.trans hl.1.symm) hS (cX11_need_ok (l := l) (E := E) hl0 h1) mv_X11_186 hrc rfl ⟨Nat.le_trans (by decide) hRa, Nat.le_trans (by decide) hRb⟩ ⟨Nat.zero_le _, Nat.zero_le _⟩ rfl rfl (Nat.le_of_ble_eq_true rfl) dX11_power_36) (fun H locs hS => ?_)
      refine lv_iconst (v := 0) hx hb dX11_power_39 (by decide) ?_
      refine lv_topi (fun x5_5 e1 => ?_)
      have hf := lt1_n e1 hf
      refine lv_istore (lv' := [(5, .int x5_5), (0, .ref x0), (1, .int x1), (2, .int x2), (3, .int x3), (4, .int x4)]) hx hb dX11_power_40 hl (by decide) rfl (fun ls hl => ?_)
      refine lv_iconst (v := 0) hx hb dX11_power_42 (by decide) ?_
      refine lv_topi (fun x6_6 e1 => ?_)
      have hf := lt1_n e1 hf
      refine lv_istore (lv' := [(6, .int x6_6), (5, .int x5_5), (0, .ref x0), (1, .int x1), (2, .int x2), (3, .int x3), (4, .int x4)]) hx hb dX11_power_43 hl (by decide) rfl (fun ls hl => ?_)
      obtain ⟨ex45, hl45, hk45⟩ := bs hf
      refine loop_W (P := fun st => ∀ (H : Heap) (locs : List Loc) (ls : Array Slot), wS E s m3 H locs → lv_has ls 8 [(0, .ref x0), (1, .int x1), (2, .int x2), (3, .int x3), (4, .int x4), (5, .int st.1), (6, .int st.2)] → W p l e R s m args below meth c H locs 0 0 Q (F0 m 45 ls [])) (ex := ex45) ?_ FU _ hl45 H locs ls hS (lv_sub hl [2, 3, 4, 5, 6, 1, 0] rfl)
      intro st y45 hf hyL45 hyR45 H locs ls hS hl
      obtain ⟨x5, x6⟩ := st
      obtain ⟨mm, rfl⟩ : ∃ z, z = m3 := ⟨_, rfl⟩
      have hf : fX11_power_b45 (eS E) x0 x1 x2 x3 x4 x5 x6 mm = some y45 := hf
      have hS : wS E s mm H locs := hS
      have hl : lv_has ls 8 [(0, .ref x0), (1, .int x1), (2, .int x2), (3, .int x3), (4, .int x4), (5, .int x5), (6, .int x6)] := hl
      unfold fX11_power_b45 at hf
      have hj93 : ∀ (x5 : Int32) (x6 : Int32) (H : Heap) (locs : List Loc) (ls : Array Slot), fX11_power_j93 (eS E) x0 x1 x2 x3 x4 x5 x6 mm = some y45 → wS E s mm H locs → lv_has ls 8 [(0, .ref x0), (1, .int x1), (2, .int x2), (3, .int x3), (4, .int x4), (5, .int x5), (6, .int x6)] → W p l e R s m args below meth c H locs 0 0 Q (F0 m 93 ls []) := by
        intro x5 x6 H locs ls hf hS hl
        unfold fX11_power_j93 at hf
        obtain ⟨x6_7, e1⟩ : ∃ z : Int32, z = x6 + 1 := ⟨_, rfl⟩
        have hf := lt1_n e1 hf
        refine lv_iinc (v := x6_7) (lv' := [(6, .int x6_7), (0, .ref x0), (1, .int x1), (2, .int x2), (3, .int x3), (4, .int x4), (5, .int x5)]) hx hb dX11_power_93 hl (k := 6) rfl (by rw [e1]; rfl) (by decide) rfl (fun ls hl => ?_)
        refine lv_goto (tgt := 45) hx hb dX11_power_96 (by decide) ?_
        exact hyL45 _ (Option.some.inj hf).symm H locs ls hS (lv_sub hl [1, 2, 3, 4, 5, 6, 0] rfl)
      refine lv_iload hx hb dX11_power_45 (lv_at hl 6 rfl) ?_
      refine lv_sipush (v := 128) hx hb dX11_power_47 (by decide) ?_
      refine lv_icmp_ge (tgt := 99) hx hb dX11_power_50 (by decide) (fun q8 => ?_) (fun q8 => ?_)
      · have hf := ifp hf q8
        obtain rfl : x5 = ex45 := hyR45 _ (Option.some.inj hf).symm
        exact hj99 x4 x5 mm H locs ls hk45 hS (lv_sub hl [4, 5] rfl)
      · have hf := ifn hf q8
        refine lv_aload_n hx hb dX11_power_53 rfl (lv_at hl 0 rfl) ?_
        refine lv_iload_n hx hb dX11_power_54 rfl (lv_at hl 1 rfl) ?_
        refine lv_iload_n hx hb dX11_power_55 rfl (lv_at hl 2 rfl) ?_
        refine lv_iload_n hx hb dX11_power_56 rfl (lv_at hl 3 rfl) ?_
        refine lv_iload hx hb dX11_power_57 (lv_at hl 6 rfl) ?_
        obtain ⟨u0, h0, hf⟩ := bs hf
        obtain ⟨_, hrc⟩ := isO_n h0
        obtain ⟨v9, h1, hf⟩ := bs hf
        refine am_endi hS (am_runV (As := [.int x1, .int x2, .int x3, .int x6]) X (hml.trans hl.1.symm) hS (cX11_isSwing_ok (l := l) (E := E) h1) mv_X11_323 hrc rfl ⟨Nat.le_trans (by decide) hRa, Nat.le_trans (by decide) hRb⟩ ⟨Nat.zero_le _, Nat.zero_le _⟩ rfl rfl (Nat.le_of_ble_eq_true rfl) dX11_power_59) (fun H locs hS => ?_)
        refine lv_if_eq (tgt := 93) hx hb dX11_power_62 (by decide) (fun q10 => ?_) (fun q10 => ?_)
        · have hf := ifp hf q10
          exact hj93 x5 x6 H locs ls hf hS hl
        · have hf := ifn hf q10
          refine lv_iload hx hb dX11_power_65 (lv_at hl 6 rfl) ?_
          obtain ⟨v11, h1, hf⟩ := bs hf
          refine am_endi hS (am_runS (As := [.int x6]) X (hml.trans hl.1.symm) hS (cJ6_bitCount_0f7a4_ok (l := l) (E := E) h1) ms_X11_285 ⟨Nat.le_trans (by decide) hRa, Nat.le_trans (by decide) hRb⟩ ⟨Nat.zero_le _, Nat.zero_le _⟩ rfl rfl (Nat.le_of_ble_eq_true rfl) dX11_power_67) (fun H locs hS => ?_)
          refine lv_topi (fun x7_12 e1 => ?_)
          have hf := lt1_n e1 hf
          refine lv_istore (lv' := [(7, .int x7_12), (0, .ref x0), (1, .int x1), (2, .int x2), (3, .int x3), (4, .int x4), (5, .int x5), (6, .int x6)]) hx hb dX11_power_70 hl (by decide) rfl (fun ls hl => ?_)
          refine lv_iload hx hb dX11_power_72 (lv_at hl 6 rfl) ?_
          refine am_gfac X hS (inBi 1187 (by decide +kernel)) dX11_power_74 ?_
          refine lv_iload hx hb dX11_power_77 (lv_at hl 0 rfl) ?_
          obtain ⟨v13, h1, hf⟩ := bs hf
          refine am_fac X hS h1 dX11_power_79 ?_
          refine am_gfac X hS (inBi 1187 (by decide +kernel)) dX11_power_80 ?_
          refine lv_bipush (v := 6) hx hb dX11_power_83 (by decide) ?_
          refine lv_iload hx hb dX11_power_85 (lv_at hl 0 rfl) ?_
          refine lv_isub hx hb dX11_power_87 ?_
          obtain ⟨v14, h1, hf⟩ := bs hf
          refine am_fac X hS h1 dX11_power_88 ?_
          refine lv_imul hx hb dX11_power_89 ?_
          refine lv_iadd hx hb dX11_power_90 ?_
          refine lv_topi (fun x5_15 e1 => ?_)
          have hf := lt1_n e1 hf
          refine lv_istore (lv' := [(5, .int x5_15), (7, .int x7_12), (0, .ref x0), (1, .int x1), (2, .int x2), (3, .int x3), (4, .int x4), (6, .int x6)]) hx hb dX11_power_91 hl (by decide) rfl (fun ls hl => ?_)
          exact hj93 x5_15 x6 H locs ls hf hS (lv_sub hl [2, 3, 4, 5, 6, 0, 7] rfl)
    · have hf := sme_r hf
      cases hf
      exact am_thrV (As := [.int s1]) X (hml.trans hl.1.symm) hS (cX11_need_thr (l := l) (E := E) hl0 h1) mv_X11_186 hrc rfl ⟨Nat.le_trans (by decide) hRa, Nat.le_trans (by decide) hRb⟩ (hRc _ rfl) rfl rfl (Nat.le_of_ble_eq_true rfl) dX11_power_36 (fun H locs ce q9 hS a1 a2 a3 => hthr _ rfl _ H locs ls _ ce q9 hS a1 a2 a3)
  have hj35 : ∀ (x0 : Nat) (x1 : Int32) (x2 : Int32) (x3 : Int32) (x4 : Int32) (s0 : Nat) (mm : Mem) (H : Heap) (locs : List Loc) (ls : Array Slot), fX11_power_j35 (eS E) x0 x1 x2 x3 x4 s0 mm = some (res, mm1) → wS E s mm H locs → lv_has ls 8 [(0, .ref x0), (1, .int x1), (2, .int x2), (3, .int x3), (4, .int x4)] → W p l e R s m args below meth c H locs 0 0 Q (F0 m 35 ls [.ref s0]) := by
    intro x0 x1 x2 x3 x4 s0 mm H locs ls hf hS hl
    unfold fX11_power_j35 at hf
    refine lv_iconst (v := 0) hx hb dX11_power_35 (by decide) ?_
    exact hj36 x0 x1 x2 x3 x4 s0 0 mm H locs ls hf hS hl
  have hj31 : ∀ (x0 : Nat) (x1 : Int32) (x2 : Int32) (x3 : Int32) (x4 : Int32) (s0 : Nat) (mm : Mem) (H : Heap) (locs : List Loc) (ls : Array Slot), fX11_power_j31 (eS E) x0 x1 x2 x3 x4 s0 mm = some (res, mm1) → wS E s mm H locs → lv_has ls 8 [(0, .ref x0), (1, .int x1), (2, .int x2), (3, .int x3), (4, .int x4)] → W p l e R s m args below meth c H locs 0 0 Q (F0 m 31 ls [.ref s0]) := by
    intro x0 x1 x2 x3 x4 s0 mm H locs ls hf hS hl
    unfold fX11_power_j31 at hf
    refine lv_iconst (v := 1) hx hb dX11_power_31 (by decide) ?_
    refine lv_goto (tgt := 36) hx hb dX11_power_32 (by decide) ?_
    exact hj36 x0 x1 x2 x3 x4 s0 1 mm H locs ls hf hS hl
  intro H locs ls hS hl
  refine lv_aload_n hx hb dX11_power_0 rfl (lv_at hl 0 rfl) ?_
  refine lv_iload_n hx hb dX11_power_1 rfl (lv_at hl 1 rfl) ?_
  obtain ⟨u0, h0, hf⟩ := bs hf
  obtain ⟨_, hrc⟩ := isO_n h0
  obtain ⟨u16, m17, h1, hf⟩ := bs2 hf
  rcases u16 with v18 | k1
  · have hf := sme_l hf
    refine am_endv hS (am_runV (As := [.int x1]) X (hml.trans hl.1.symm) hS (cX11_needFellow_ok (l := l) (E := E) hl0 h1) mv_X11_221 hrc rfl ⟨Nat.le_trans (by decide) hRa, Nat.le_trans (by decide) hRb⟩ ⟨Nat.zero_le _, Nat.zero_le _⟩ rfl rfl (Nat.le_of_ble_eq_true rfl) dX11_power_2) (fun H locs hS => ?_)
    refine lv_aload_n hx hb dX11_power_5 rfl (lv_at hl 0 rfl) ?_
    refine lv_iload_n hx hb dX11_power_6 rfl (lv_at hl 2 rfl) ?_
    obtain ⟨v19, h1, hf⟩ := bs hf
    refine am_endi hS (am_runS (As := [.int x2]) X (hml.trans hl.1.symm) hS (cX11_isPart_ok (l := l) (E := E) h1) ms_X11_240 ⟨Nat.le_trans (by decide) hRa, Nat.le_trans (by decide) hRb⟩ ⟨Nat.zero_le _, Nat.zero_le _⟩ rfl rfl (Nat.le_of_ble_eq_true rfl) dX11_power_7) (fun H locs hS => ?_)
    refine lv_if_eq (tgt := 35) hx hb dX11_power_10 (by decide) (fun q20 => ?_) (fun q20 => ?_)
    · have hf := ifp hf q20
      exact hj35 x0 x1 x2 x3 x4 x0 m17 H locs ls hf hS hl
    · have hf := ifn hf q20
      refine lv_iload_n hx hb dX11_power_13 rfl (lv_at hl 3 rfl) ?_
      obtain ⟨v21, h1, hf⟩ := bs hf
      refine am_endi hS (am_runS (As := [.int x3]) X (hml.trans hl.1.symm) hS (cX11_isQuota_ok (l := l) (E := E) h1) ms_X11_320 ⟨Nat.le_trans (by decide) hRa, Nat.le_trans (by decide) hRb⟩ ⟨Nat.zero_le _, Nat.zero_le _⟩ rfl rfl (Nat.le_of_ble_eq_true rfl) dX11_power_14) (fun H locs hS => ?_)
      refine lv_if_eq (tgt := 35) hx hb dX11_power_17 (by decide) (fun q22 => ?_) (fun q22 => ?_)
      · have hf := ifp hf q22
        exact hj35 x0 x1 x2 x3 x4 x0 m17 H locs ls hf hS hl
      · have hf := ifn hf q22
        refine lv_iload hx hb dX11_power_20 (lv_at hl 4 rfl) ?_
        refine lv_if_eq (tgt := 31) hx hb dX11_power_22 (by decide) (fun q23 => ?_) (fun q23 => ?_)
        · have hf := ifp hf q23
          exact hj31 x0 x1 x2 x3 x4 x0 m17 H locs ls hf hS hl
        · have hf := ifn hf q23
          refine lv_iload hx hb dX11_power_25 (lv_at hl 4 rfl) ?_
          refine lv_iconst (v := 1) hx hb dX11_power_27 (by decide) ?_
          refine lv_icmp_ne (tgt := 35) hx hb dX11_power_28 (by decide) (fun q24 => ?_) (fun q24 => ?_)
          · have hf := ifn hf q24
            exact hj35 x0 x1 x2 x3 x4 x0 m17 H locs ls hf hS hl
          · have hf := ifp hf q24
            exact hj31 x0 x1 x2 x3 x4 x0 m17 H locs ls hf hS hl
  · have hf := sme_r hf
    cases hf
    exact am_thrV (As := [.int x1]) X (hml.trans hl.1.symm) hS (cX11_needFellow_thr (l := l) (E := E) hl0 h1) mv_X11_221 hrc rfl ⟨Nat.le_trans (by decide) hRa, Nat.le_trans (by decide) hRb⟩ (hRc _ rfl) rfl rfl (Nat.le_of_ble_eq_true rfl) dX11_power_2 (fun H locs ce q9 hS a1 a2 a3 => hthr _ rfl _ H locs ls _ ce q9 hS a1 a2 a3)
set_option maxRecDepth 100000 in
theorem cX11_power_ok {l : Launch} {E : Ev} (hl0 : l.stackTraces = false) {x0 : Nat} {x1 : Int32} {x2 : Int32} {x3 : Int32} {x4 : Int32} {mm : Mem} {r : Int32} {mm1 : Mem} (hf : fX11_power (eS E) x0 x1 x2 x3 x4 mm = some (.inl r, mm1)) : CtI l yX11_power cX11_power 8 (some .int) 8 141 E [.ref x0, .int x1, .int x2, .int x3, .int x4] mm r mm1 := by
  refine Met.ofW (cc := cX11_power) (maxL := 8) (ret := (some .int)) (by decide) rfl ?_
  intro p e s m args below meth c s₁ B hml hv
  obtain ⟨rfl, X, hS, hr, hlocks⟩ := am_in B hv
  refine am_entry (Nat.le_of_ble_eq_true rfl) (fun ls hl => ?_)
  exact wX11_power hl0 X hml ⟨Nat.le_refl _, Nat.le_refl _⟩ hf (fun r e pc H locs ls hn hd hS => by cases e; exact am_ri X hS hr hn hd hlocks) (fun k e => by cases e) (fun k e => by cases e) _ _ ls hS hl
set_option maxRecDepth 100000 in
theorem cX11_power_thr {l : Launch} {E : Ev} (hl0 : l.stackTraces = false) {x0 : Nat} {x1 : Int32} {x2 : Int32} {x3 : Int32} {x4 : Int32} {mm : Mem} {k : Nat} {mm1 : Mem} (hf : fX11_power (eS E) x0 x1 x2 x3 x4 mm = some (.inr k, mm1)) : CtX l yX11_power cX11_power 8 (some .int) 8 141 E [.ref x0, .int x1, .int x2, .int x3, .int x4] mm k mm1 := by
  refine vx_ofW (cc := cX11_power) (maxL := 8) (ret := (some .int)) (by decide) rfl ?_
  intro p e s m args below meth c s₁ B hml hxt hv
  obtain ⟨rfl, X, hS, hr, hlocks⟩ := am_in B hv
  refine am_entry (Nat.le_of_ble_eq_true rfl) (fun ls hl => ?_)
  exact wX11_power hl0 X hml ⟨Nat.le_refl _, Nat.le_refl _⟩ hf (fun r e => by cases e) (fun k e => ⟨Nat.le_refl _, Nat.le_refl _⟩) (fun k1 e pc H locs ls rest ce q9 hS a1 a2 a3 => by cases e; exact am_out X hS hxt hlocks a1 a2 a3) _ _ ls hS hl
set_option maxHeartbeats 4000000 in
set_option maxRecDepth 100000 in
theorem wX11_green {p : Program} {l : Launch} {e : Env} {R : Room} {s : State} {m : MethodId} {args : Array Value} {below : List Frame} {meth : Method} {c : Code} {Q : State → Prop} {E : Ev} (hl0 : l.stackTraces = false) (X : Cx p s m args c cX11_green RX11 E) (hml : c.maxLocals = 9) (hR : 8 ≤ R.frames ∧ 141 ≤ R.locals) {x0 : Nat} {x1 : Int32} {x2 : Int32} {x3 : Int32} {mm : Mem} {res : Int64 ⊕ Nat} {mm1 : Mem} (hf : fX11_green (eS E) x0 x1 x2 x3 mm = some (res, mm1)) (hret : ∀ r, res = .inl r → ∀ (pc : Nat) (H : Heap) (locs : List Loc) (ls : Array Slot), decode cX11_green pc = .ok (.lreturn, 1) → wS E s mm1 H locs → W p l e R s m args below meth c H locs 0 0 Q (F0 m pc ls [.long r])) (hRc : ∀ k, res = .inr k → 1 ≤ R.cells ∧ 6 ≤ R.slots) (hthr : ∀ k, res = .inr k → ∀ (pc : Nat) (H : Heap) (locs : List Loc) (ls : Array Slot) (rest : List Value) (ce : Cell) (q9 : Addr), wS E s mm1 H locs → H[q9]? = some ce → ce.vm = .none → s.vm.findClass (exN k) = some ce.cls → vx_W p l e R s m args below meth c H locs 1 6 Q (F0 m pc ls rest) q9) : ∀ (H : Heap) (locs : List Loc) (ls : Array Slot), wS E s mm H locs → lv_has ls 9 [(0, .ref x0), (1, .int x1), (2, .int x2), (3, .int x3)] → W p l e R s m args below meth c H locs 0 0 Q (F0 m 0 ls []) := by
  have hx := X.1
  have hb := X.2.1
  have hRa := hR.1
  have hRb := hR.2
  unfold fX11_green at hf
  have hj77 : ∀ (x3 : Int32) (x4 : Int64) (x6 : Int64) (mm : Mem) (H : Heap) (locs : List Loc) (ls : Array Slot), fX11_green_j77 (eS E) x3 x4 x6 mm = some (res, mm1) → wS E s mm H locs → lv_has ls 9 [(3, .int x3), (4, .long x4), (6, .long x6)] → W p l e R s m args below meth c H locs 0 0 Q (F0 m 77 ls []) := by
    intro x3 x4 x6 mm H locs ls hf hS hl
    unfold fX11_green_j77 at hf
    refine lv_lload hx hb dX11_green_77 (lv_at hl 1 rfl) ?_
    refine lv_lload hx hb dX11_green_79 (lv_at hl 2 rfl) ?_
    refine lv_lsub hx hb dX11_green_81 ?_
    refine lv_lload hx hb dX11_green_82 (lv_at hl 1 rfl) ?_
    refine lv_iload_n hx hb dX11_green_84 rfl (lv_at hl 0 rfl) ?_
    obtain ⟨v1, h1, hf⟩ := bs hf
    refine am_endl hS (am_runS (As := [.long (x4 - x6), .long x4, .int x3]) X (hml.trans hl.1.symm) hS (cX11_inLeastTerms_ok (l := l) (E := E) h1) ms_X11_332 ⟨Nat.le_trans (by decide) hRa, Nat.le_trans (by decide) hRb⟩ ⟨Nat.zero_le _, Nat.zero_le _⟩ rfl rfl (Nat.le_of_ble_eq_true rfl) dX11_green_85) (fun H locs hS => ?_)
    cases hf
    exact hret _ rfl _ _ _ _ dX11_green_88 hS
  have hj35 : ∀ (x1 : Int32) (x2 : Int32) (x3 : Int32) (s0 : Nat) (s1 : Int32) (mm : Mem) (H : Heap) (locs : List Loc) (ls : Array Slot), fX11_green_j35 (eS E) x1 x2 x3 s0 s1 mm = some (res, mm1) → wS E s mm H locs → lv_has ls 9 [(1, .int x1), (2, .int x2), (3, .int x3)] → W p l e R s m args below meth c H locs 0 0 Q (F0 m 35 ls [.int s1, .ref s0]) := by
    intro x1 x2 x3 s0 s1 mm H locs ls hf hS hl
    unfold fX11_green_j35 at hf
    obtain ⟨u0, h0, hf⟩ := bs hf
    obtain ⟨_, hrc⟩ := isO_n h0
    obtain ⟨u2, m3, h1, hf⟩ := bs2 hf
    rcases u2 with v4 | k1
    · have hf := sme_l hf
      refine am_endv hS (am_runV (As := [.int s1]) X (hml.trans hl.1.symm) hS (cX11_need_ok (l := l) (E := E) hl0 h1) mv_X11_186 hrc rfl ⟨Nat.le_trans (by decide) hRa, Nat.le_trans (by decide) hRb⟩ ⟨Nat.zero_le _, Nat.zero_le _⟩ rfl rfl (Nat.le_of_ble_eq_true rfl) dX11_green_35) (fun H locs hS => ?_)
      refine lv_lconst (v := 1) hx hb dX11_green_38 (by decide) ?_
      refine lv_topl (fun x4_5 e1 => ?_)
      have hf := lt1_n e1 hf
      refine lv_lstore (lv' := [(4, .long x4_5), (1, .int x1), (2, .int x2), (3, .int x3)]) hx hb dX11_green_39 hl (by decide) rfl (fun ls hl => ?_)
      refine lv_lconst (v := 1) hx hb dX11_green_41 (by decide) ?_
      refine lv_topl (fun x6_6 e1 => ?_)
      have hf := lt1_n e1 hf
      refine lv_lstore (lv' := [(6, .long x6_6), (4, .long x4_5), (1, .int x1), (2, .int x2), (3, .int x3)]) hx hb dX11_green_42 hl (by decide) rfl (fun ls hl => ?_)
      refine lv_iconst (v := 0) hx hb dX11_green_44 (by decide) ?_
      refine lv_topi (fun x8_7 e1 => ?_)
      have hf := lt1_n e1 hf
      refine lv_istore (lv' := [(8, .int x8_7), (6, .long x6_6), (4, .long x4_5), (1, .int x1), (2, .int x2), (3, .int x3)]) hx hb dX11_green_45 hl (by decide) rfl (fun ls hl => ?_)
      obtain ⟨ex47, hl47, hk47⟩ := bs hf
      refine loop_W (P := fun st => ∀ (H : Heap) (locs : List Loc) (ls : Array Slot), wS E s m3 H locs → lv_has ls 9 [(1, .int x1), (2, .int x2), (3, .int x3), (4, .long st.1), (6, .long st.2.1), (8, .int st.2.2)] → W p l e R s m args below meth c H locs 0 0 Q (F0 m 47 ls [])) (ex := ex47) ?_ FU _ hl47 H locs ls hS (lv_sub hl [3, 4, 5, 2, 1, 0] rfl)
      intro st y47 hf hyL47 hyR47 H locs ls hS hl
      obtain ⟨x4, x6, x8⟩ := st
      obtain ⟨mm, rfl⟩ : ∃ z, z = m3 := ⟨_, rfl⟩
      have hf : fX11_green_b47 (eS E) x1 x2 x3 x4 x6 x8 mm = some y47 := hf
      have hS : wS E s mm H locs := hS
      have hl : lv_has ls 9 [(1, .int x1), (2, .int x2), (3, .int x3), (4, .long x4), (6, .long x6), (8, .int x8)] := hl
      unfold fX11_green_b47 at hf
      refine lv_iload hx hb dX11_green_47 (lv_at hl 5 rfl) ?_
      refine lv_iload_n hx hb dX11_green_49 rfl (lv_at hl 0 rfl) ?_
      refine lv_icmp_ge (tgt := 77) hx hb dX11_green_50 (by decide) (fun q8 => ?_) (fun q8 => ?_)
      · have hf := ifp hf q8
        obtain rfl : (x4, x6) = ex47 := hyR47 _ (Option.some.inj hf).symm
        exact hj77 x3 x4 x6 mm H locs ls hk47 hS (lv_sub hl [2, 3, 4] rfl)
      · have hf := ifn hf q8
        refine lv_lload hx hb dX11_green_53 (lv_at hl 3 rfl) ?_
        refine lv_ldc2 (v := 16) hx hb X.2.2.2.1 (X.2.2.1 _ (inBi 1203 (by decide +kernel))) dX11_green_55 ?_
        refine lv_lmul hx hb dX11_green_58 ?_
        refine lv_topl (fun x4_9 e1 => ?_)
        have hf := lt1_n e1 hf
        refine lv_lstore (lv' := [(4, .long x4_9), (1, .int x1), (2, .int x2), (3, .int x3), (6, .long x6), (8, .int x8)]) hx hb dX11_green_59 hl (by decide) rfl (fun ls hl => ?_)
        refine lv_lload hx hb dX11_green_61 (lv_at hl 4 rfl) ?_
        refine lv_bipush (v := 16) hx hb dX11_green_63 (by decide) ?_
        refine lv_iload_n hx hb dX11_green_65 rfl (lv_at hl 2 rfl) ?_
        refine lv_isub hx hb dX11_green_66 ?_
        refine lv_i2l (v := (((16 - x2)).toInt64)) hx hb dX11_green_67 rfl ?_
        refine lv_lmul hx hb dX11_green_68 ?_
        refine lv_topl (fun x6_10 e1 => ?_)
        have hf := lt1_n e1 hf
        refine lv_lstore (lv' := [(6, .long x6_10), (4, .long x4_9), (1, .int x1), (2, .int x2), (3, .int x3), (8, .int x8)]) hx hb dX11_green_69 hl (by decide) rfl (fun ls hl => ?_)
        obtain ⟨x8_11, e1⟩ : ∃ z : Int32, z = x8 + 1 := ⟨_, rfl⟩
        have hf := lt1_n e1 hf
        refine lv_iinc (v := x8_11) (lv' := [(8, .int x8_11), (6, .long x6_10), (4, .long x4_9), (1, .int x1), (2, .int x2), (3, .int x3)]) hx hb dX11_green_71 hl (k := 5) rfl (by rw [e1]; rfl) (by decide) rfl (fun ls hl => ?_)
        refine lv_goto (tgt := 47) hx hb dX11_green_74 (by decide) ?_
        exact hyL47 _ (Option.some.inj hf).symm H locs ls hS (lv_sub hl [3, 4, 5, 2, 1, 0] rfl)
    · have hf := sme_r hf
      cases hf
      exact am_thrV (As := [.int s1]) X (hml.trans hl.1.symm) hS (cX11_need_thr (l := l) (E := E) hl0 h1) mv_X11_186 hrc rfl ⟨Nat.le_trans (by decide) hRa, Nat.le_trans (by decide) hRb⟩ (hRc _ rfl) rfl rfl (Nat.le_of_ble_eq_true rfl) dX11_green_35 (fun H locs ce q9 hS a1 a2 a3 => hthr _ rfl _ H locs ls _ ce q9 hS a1 a2 a3)
  have hj34 : ∀ (x1 : Int32) (x2 : Int32) (x3 : Int32) (s0 : Nat) (mm : Mem) (H : Heap) (locs : List Loc) (ls : Array Slot), fX11_green_j34 (eS E) x1 x2 x3 s0 mm = some (res, mm1) → wS E s mm H locs → lv_has ls 9 [(1, .int x1), (2, .int x2), (3, .int x3)] → W p l e R s m args below meth c H locs 0 0 Q (F0 m 34 ls [.ref s0]) := by
    intro x1 x2 x3 s0 mm H locs ls hf hS hl
    unfold fX11_green_j34 at hf
    refine lv_iconst (v := 0) hx hb dX11_green_34 (by decide) ?_
    exact hj35 x1 x2 x3 s0 0 mm H locs ls hf hS hl
  have hj30 : ∀ (x1 : Int32) (x2 : Int32) (x3 : Int32) (s0 : Nat) (mm : Mem) (H : Heap) (locs : List Loc) (ls : Array Slot), fX11_green_j30 (eS E) x1 x2 x3 s0 mm = some (res, mm1) → wS E s mm H locs → lv_has ls 9 [(1, .int x1), (2, .int x2), (3, .int x3)] → W p l e R s m args below meth c H locs 0 0 Q (F0 m 30 ls [.ref s0]) := by
    intro x1 x2 x3 s0 mm H locs ls hf hS hl
    unfold fX11_green_j30 at hf
    refine lv_iconst (v := 1) hx hb dX11_green_30 (by decide) ?_
    refine lv_goto (tgt := 35) hx hb dX11_green_31 (by decide) ?_
    exact hj35 x1 x2 x3 s0 1 mm H locs ls hf hS hl
  intro H locs ls hS hl
  refine lv_aload_n hx hb dX11_green_0 rfl (lv_at hl 0 rfl) ?_
  refine lv_iload_n hx hb dX11_green_1 rfl (lv_at hl 1 rfl) ?_
  refine lv_if_lt (tgt := 34) hx hb dX11_green_2 (by decide) (fun q12 => ?_) (fun q12 => ?_)
  · have hf := ifp hf q12
    exact hj34 x1 x2 x3 x0 mm H locs ls hf hS (lv_sub hl [1, 2, 3] rfl)
  · have hf := ifn hf q12
    refine lv_iload_n hx hb dX11_green_5 rfl (lv_at hl 1 rfl) ?_
    refine lv_bipush (v := 12) hx hb dX11_green_6 (by decide) ?_
    refine lv_icmp_gt (tgt := 34) hx hb dX11_green_8 (by decide) (fun q13 => ?_) (fun q13 => ?_)
    · have hf := ifp hf q13
      exact hj34 x1 x2 x3 x0 mm H locs ls hf hS (lv_sub hl [1, 2, 3] rfl)
    · have hf := ifn hf q13
      refine lv_iload_n hx hb dX11_green_11 rfl (lv_at hl 2 rfl) ?_
      refine lv_if_lt (tgt := 34) hx hb dX11_green_12 (by decide) (fun q14 => ?_) (fun q14 => ?_)
      · have hf := ifp hf q14
        exact hj34 x1 x2 x3 x0 mm H locs ls hf hS (lv_sub hl [1, 2, 3] rfl)
      · have hf := ifn hf q14
        refine lv_iload_n hx hb dX11_green_15 rfl (lv_at hl 2 rfl) ?_
        refine lv_bipush (v := 16) hx hb dX11_green_16 (by decide) ?_
        refine lv_icmp_gt (tgt := 34) hx hb dX11_green_18 (by decide) (fun q15 => ?_) (fun q15 => ?_)
        · have hf := ifp hf q15
          exact hj34 x1 x2 x3 x0 mm H locs ls hf hS (lv_sub hl [1, 2, 3] rfl)
        · have hf := ifn hf q15
          refine lv_iload_n hx hb dX11_green_21 rfl (lv_at hl 3 rfl) ?_
          refine lv_if_eq (tgt := 30) hx hb dX11_green_22 (by decide) (fun q16 => ?_) (fun q16 => ?_)
          · have hf := ifp hf q16
            exact hj30 x1 x2 x3 x0 mm H locs ls hf hS (lv_sub hl [1, 2, 3] rfl)
          · have hf := ifn hf q16
            refine lv_iload_n hx hb dX11_green_25 rfl (lv_at hl 3 rfl) ?_
            refine lv_iconst (v := 1) hx hb dX11_green_26 (by decide) ?_
            refine lv_icmp_ne (tgt := 34) hx hb dX11_green_27 (by decide) (fun q17 => ?_) (fun q17 => ?_)
            · have hf := ifn hf q17
              exact hj34 x1 x2 x3 x0 mm H locs ls hf hS (lv_sub hl [1, 2, 3] rfl)
            · have hf := ifp hf q17
              exact hj30 x1 x2 x3 x0 mm H locs ls hf hS (lv_sub hl [1, 2, 3] rfl)
set_option maxRecDepth 100000 in
theorem cX11_green_ok {l : Launch} {E : Ev} (hl0 : l.stackTraces = false) {x0 : Nat} {x1 : Int32} {x2 : Int32} {x3 : Int32} {mm : Mem} {r : Int64} {mm1 : Mem} (hf : fX11_green (eS E) x0 x1 x2 x3 mm = some (.inl r, mm1)) : CtL l yX11_green cX11_green 9 (some .long) 8 141 E [.ref x0, .int x1, .int x2, .int x3] mm r mm1 := by
  refine Met.ofW (cc := cX11_green) (maxL := 9) (ret := (some .long)) (by decide) rfl ?_
  intro p e s m args below meth c s₁ B hml hv
  obtain ⟨rfl, X, hS, hr, hlocks⟩ := am_in B hv
  refine am_entry (Nat.le_of_ble_eq_true rfl) (fun ls hl => ?_)
  exact wX11_green hl0 X hml ⟨Nat.le_refl _, Nat.le_refl _⟩ hf (fun r e pc H locs ls hd hS => by cases e; exact am_rl X hS hr hd hlocks) (fun k e => by cases e) (fun k e => by cases e) _ _ ls hS hl
set_option maxRecDepth 100000 in
theorem cX11_green_thr {l : Launch} {E : Ev} (hl0 : l.stackTraces = false) {x0 : Nat} {x1 : Int32} {x2 : Int32} {x3 : Int32} {mm : Mem} {k : Nat} {mm1 : Mem} (hf : fX11_green (eS E) x0 x1 x2 x3 mm = some (.inr k, mm1)) : CtX l yX11_green cX11_green 9 (some .long) 8 141 E [.ref x0, .int x1, .int x2, .int x3] mm k mm1 := by
  refine vx_ofW (cc := cX11_green) (maxL := 9) (ret := (some .long)) (by decide) rfl ?_
  intro p e s m args below meth c s₁ B hml hxt hv
  obtain ⟨rfl, X, hS, hr, hlocks⟩ := am_in B hv
  refine am_entry (Nat.le_of_ble_eq_true rfl) (fun ls hl => ?_)
  exact wX11_green hl0 X hml ⟨Nat.le_refl _, Nat.le_refl _⟩ hf (fun r e => by cases e) (fun k e => ⟨Nat.le_refl _, Nat.le_refl _⟩) (fun k1 e pc H locs ls rest ce q9 hS a1 a2 a3 => by cases e; exact am_out X hS hxt hlocks a1 a2 a3) _ _ ls hS hl
set_option maxHeartbeats 4000000 in
set_option maxRecDepth 100000 in
theorem wX11_gain {p : Program} {l : Launch} {e : Env} {R : Room} {s : State} {m : MethodId} {args : Array Value} {below : List Frame} {meth : Method} {c : Code} {Q : State → Prop} {E : Ev} (X : Cx p s m args c cX11_gain RX11 E) (hml : c.maxLocals = 4) (hR : 0 ≤ R.frames ∧ 0 ≤ R.locals) {x0 : Int32} {x1 : Int32} {x2 : Int32} {x3 : Int32} {mm : Mem} {r : Int32} (hf : fX11_gain x0 x1 x2 x3 = some r) (hret : ∀ (pc : Nat) (H : Heap) (locs : List Loc) (ls : Array Slot), narrow .int (.int r) = .int r → decode cX11_gain pc = .ok (.ireturn, 1) → wS E s mm H locs → W p l e R s m args below meth c H locs 0 0 Q (F0 m pc ls [.int r])) : ∀ (H : Heap) (locs : List Loc) (ls : Array Slot), wS E s mm H locs → lv_has ls 4 [(0, .int x0), (1, .int x1), (2, .int x2), (3, .int x3)] → W p l e R s m args below meth c H locs 0 0 Q (F0 m 0 ls []) := by
  have hx := X.1
  have hb := X.2.1
  have hR1 := hR.1
  have hR2 := hR.2
  have hRa : 0 ≤ R.frames := by omega
  have hRb : 0 ≤ R.locals := by omega
  unfold fX11_gain at hf
  have hj18 : ∀ (s0 : Int32) (H : Heap) (locs : List Loc) (ls : Array Slot), fX11_gain_j18 s0 = some r → wS E s mm H locs → lv_has ls 4 [] → W p l e R s m args below meth c H locs 0 0 Q (F0 m 18 ls [.int s0]) := by
    intro s0 H locs ls hf hS hl
    unfold fX11_gain_j18 at hf
    cases hf
    exact hret _ _ _ _ rfl dX11_gain_18 hS
  intro H locs ls hS hl
  refine lv_iload_n hx hb dX11_gain_0 rfl (lv_at hl 0 rfl) ?_
  refine lv_iload_n hx hb dX11_gain_1 rfl (lv_at hl 1 rfl) ?_
  refine lv_icmp_ne (tgt := 9) hx hb dX11_gain_2 (by decide) (fun q1 => ?_) (fun q1 => ?_)
  · have hf := ifn hf q1
    refine lv_iload_n hx hb dX11_gain_9 rfl (lv_at hl 0 rfl) ?_
    refine lv_if_ne (tgt := 17) hx hb dX11_gain_10 (by decide) (fun q2 => ?_) (fun q2 => ?_)
    · have hf := ifn hf q2
      refine lv_iload_n hx hb dX11_gain_17 rfl (lv_at hl 3 rfl) ?_
      exact hj18 x3 H locs ls hf hS (lv_sub hl [] rfl)
    · have hf := ifp hf q2
      refine lv_iload_n hx hb dX11_gain_13 rfl (lv_at hl 2 rfl) ?_
      refine lv_goto (tgt := 18) hx hb dX11_gain_14 (by decide) ?_
      exact hj18 x2 H locs ls hf hS (lv_sub hl [] rfl)
  · have hf := ifp hf q1
    refine lv_iconst (v := 0) hx hb dX11_gain_5 (by decide) ?_
    refine lv_goto (tgt := 18) hx hb dX11_gain_6 (by decide) ?_
    exact hj18 0 H locs ls hf hS (lv_sub hl [] rfl)
set_option maxRecDepth 100000 in
theorem cX11_gain_ok {l : Launch} {E : Ev} {x0 : Int32} {x1 : Int32} {x2 : Int32} {x3 : Int32} {mm : Mem} {r : Int32} (hf : fX11_gain x0 x1 x2 x3 = some r) : CtI l yX11_gain cX11_gain 4 (some .int) (0) (0) E [.int x0, .int x1, .int x2, .int x3] mm r mm := by
  refine Met.ofW (cc := cX11_gain) (maxL := 4) (ret := (some .int)) (by decide) rfl ?_
  intro p e s m args below meth c s₁ B hml hv
  obtain ⟨rfl, X, hS, hr, hlocks⟩ := am_in B hv
  refine am_entry (Nat.le_of_ble_eq_true rfl) (fun ls hl => ?_)
  exact wX11_gain X hml ⟨Nat.le_refl _, Nat.le_refl _⟩ hf (fun pc H locs ls hn hd hS => am_ri X hS hr hn hd hlocks) _ _ ls hS hl
set_option maxHeartbeats 4000000 in
set_option maxRecDepth 100000 in
theorem wX11_wouldStay {p : Program} {l : Launch} {e : Env} {R : Room} {s : State} {m : MethodId} {args : Array Value} {below : List Frame} {meth : Method} {c : Code} {Q : State → Prop} {E : Ev} (X : Cx p s m args c cX11_wouldStay RX11 E) (hml : c.maxLocals = 4) (hR : 1 ≤ R.frames ∧ 23 ≤ R.locals) {x0 : Int32} {x1 : Int32} {x2 : Int32} {x3 : Int32} {mm : Mem} {r : Int32} (hf : fX11_wouldStay x0 x1 x2 x3 = some r) (hret : ∀ (pc : Nat) (H : Heap) (locs : List Loc) (ls : Array Slot), narrow .boolean (.int r) = .int r → decode cX11_wouldStay pc = .ok (.ireturn, 1) → wS E s mm H locs → W p l e R s m args below meth c H locs 0 0 Q (F0 m pc ls [.int r])) : ∀ (H : Heap) (locs : List Loc) (ls : Array Slot), wS E s mm H locs → lv_has ls 4 [(0, .int x0), (1, .int x1), (2, .int x2), (3, .int x3)] → W p l e R s m args below meth c H locs 0 0 Q (F0 m 0 ls []) := by
  have hx := X.1
  have hb := X.2.1
  have hR1 := hR.1
  have hR2 := hR.2
  have hRa : 1 ≤ R.frames := by omega
  have hRb : 23 ≤ R.locals := by omega
  unfold fX11_wouldStay at hf
  have hj24 : ∀ (s0 : Int32) (H : Heap) (locs : List Loc) (ls : Array Slot), fX11_wouldStay_j24 s0 = some r → wS E s mm H locs → lv_has ls 4 [] → W p l e R s m args below meth c H locs 0 0 Q (F0 m 24 ls [.int s0]) := by
    intro s0 H locs ls hf hS hl
    unfold fX11_wouldStay_j24 at hf
    obtain ⟨v1, h1, hf⟩ := bs hf
    obtain ⟨rfl, h2⟩ := ckZ_n h1
    cases hf
    exact hret _ _ _ _ h2 dX11_wouldStay_24 hS
  intro H locs ls hS hl
  refine lv_iload_n hx hb dX11_wouldStay_0 rfl (lv_at hl 0 rfl) ?_
  refine lv_iload_n hx hb dX11_wouldStay_1 rfl (lv_at hl 1 rfl) ?_
  refine lv_iload_n hx hb dX11_wouldStay_2 rfl (lv_at hl 2 rfl) ?_
  refine lv_iload_n hx hb dX11_wouldStay_3 rfl (lv_at hl 3 rfl) ?_
  obtain ⟨v2, h1, hf⟩ := bs hf
  refine am_endi hS (am_runS (As := [.int x0, .int x1, .int x2, .int x3]) X (hml.trans hl.1.symm) hS (cX11_gain_ok (l := l) (E := E) h1) ms_X11_341 ⟨Nat.le_trans (by decide) hRa, Nat.le_trans (by decide) hRb⟩ ⟨Nat.zero_le _, Nat.zero_le _⟩ rfl rfl (Nat.le_of_ble_eq_true rfl) dX11_wouldStay_4) (fun H locs hS => ?_)
  refine lv_iconst (v := 1) hx hb dX11_wouldStay_7 (by decide) ?_
  refine lv_iload_n hx hb dX11_wouldStay_8 rfl (lv_at hl 0 rfl) ?_
  refine lv_isub hx hb dX11_wouldStay_9 ?_
  refine lv_iload_n hx hb dX11_wouldStay_10 rfl (lv_at hl 1 rfl) ?_
  refine lv_iload_n hx hb dX11_wouldStay_11 rfl (lv_at hl 2 rfl) ?_
  refine lv_iload_n hx hb dX11_wouldStay_12 rfl (lv_at hl 3 rfl) ?_
  obtain ⟨v3, h1, hf⟩ := bs hf
  refine am_endi hS (am_runS (As := [.int (1 - x0), .int x1, .int x2, .int x3]) X (hml.trans hl.1.symm) hS (cX11_gain_ok (l := l) (E := E) h1) ms_X11_341 ⟨Nat.le_trans (by decide) hRa, Nat.le_trans (by decide) hRb⟩ ⟨Nat.zero_le _, Nat.zero_le _⟩ rfl rfl (Nat.le_of_ble_eq_true rfl) dX11_wouldStay_13) (fun H locs hS => ?_)
  refine lv_icmp_lt (tgt := 23) hx hb dX11_wouldStay_16 (by decide) (fun q4 => ?_) (fun q4 => ?_)
  · have hf := ifp hf q4
    refine lv_iconst (v := 0) hx hb dX11_wouldStay_23 (by decide) ?_
    exact hj24 0 H locs ls hf hS (lv_sub hl [] rfl)
  · have hf := ifn hf q4
    refine lv_iconst (v := 1) hx hb dX11_wouldStay_19 (by decide) ?_
    refine lv_goto (tgt := 24) hx hb dX11_wouldStay_20 (by decide) ?_
    exact hj24 1 H locs ls hf hS (lv_sub hl [] rfl)
set_option maxRecDepth 100000 in
theorem cX11_wouldStay_ok {l : Launch} {E : Ev} {x0 : Int32} {x1 : Int32} {x2 : Int32} {x3 : Int32} {mm : Mem} {r : Int32} (hf : fX11_wouldStay x0 x1 x2 x3 = some r) : CtI l yX11_wouldStay cX11_wouldStay 4 (some .boolean) (1) (23) E [.int x0, .int x1, .int x2, .int x3] mm r mm := by
  refine Met.ofW (cc := cX11_wouldStay) (maxL := 4) (ret := (some .boolean)) (by decide) rfl ?_
  intro p e s m args below meth c s₁ B hml hv
  obtain ⟨rfl, X, hS, hr, hlocks⟩ := am_in B hv
  refine am_entry (Nat.le_of_ble_eq_true rfl) (fun ls hl => ?_)
  exact wX11_wouldStay X hml ⟨Nat.le_refl _, Nat.le_refl _⟩ hf (fun pc H locs ls hn hd hS => am_ri X hS hr hn hd hlocks) _ _ ls hS hl
set_option maxHeartbeats 4000000 in
set_option maxRecDepth 100000 in
theorem wX11_lookers {p : Program} {l : Launch} {e : Env} {R : Room} {s : State} {m : MethodId} {args : Array Value} {below : List Frame} {meth : Method} {c : Code} {Q : State → Prop} {E : Ev} (hl0 : l.stackTraces = false) (X : Cx p s m args c cX11_lookers RX11 E) (hml : c.maxLocals = 9) (hR : 8 ≤ R.frames ∧ 141 ≤ R.locals) {x0 : Nat} {x1 : Int32} {x2 : Int32} {x3 : Int32} {mm : Mem} {res : Int32 ⊕ Nat} {mm1 : Mem} (hf : fX11_lookers (eS E) x0 x1 x2 x3 mm = some (res, mm1)) (hret : ∀ r, res = .inl r → ∀ (pc : Nat) (H : Heap) (locs : List Loc) (ls : Array Slot), narrow .int (.int r) = .int r → decode cX11_lookers pc = .ok (.ireturn, 1) → wS E s mm1 H locs → W p l e R s m args below meth c H locs 0 0 Q (F0 m pc ls [.int r])) (hRc : ∀ k, res = .inr k → 1 ≤ R.cells ∧ 6 ≤ R.slots) (hthr : ∀ k, res = .inr k → ∀ (pc : Nat) (H : Heap) (locs : List Loc) (ls : Array Slot) (rest : List Value) (ce : Cell) (q9 : Addr), wS E s mm1 H locs → H[q9]? = some ce → ce.vm = .none → s.vm.findClass (exN k) = some ce.cls → vx_W p l e R s m args below meth c H locs 1 6 Q (F0 m pc ls rest) q9) : ∀ (H : Heap) (locs : List Loc) (ls : Array Slot), wS E s mm H locs → lv_has ls 9 [(0, .ref x0), (1, .int x1), (2, .int x2), (3, .int x3)] → W p l e R s m args below meth c H locs 0 0 Q (F0 m 0 ls []) := by
  have hx := X.1
  have hb := X.2.1
  have hRa := hR.1
  have hRb := hR.2
  unfold fX11_lookers at hf
  have hj164 : ∀ (s0 : Int32) (mm : Mem) (H : Heap) (locs : List Loc) (ls : Array Slot), fX11_lookers_j164 (eS E) s0 mm = some (res, mm1) → wS E s mm H locs → lv_has ls 9 [] → W p l e R s m args below meth c H locs 0 0 Q (F0 m 164 ls [.int s0]) := by
    intro s0 mm H locs ls hf hS hl
    unfold fX11_lookers_j164 at hf
    cases hf
    exact hret _ rfl _ _ _ _ rfl dX11_lookers_164 hS
  have hj143 : ∀ (x3 : Int32) (x4 : Int32) (x5 : Int32) (x6 : Int32) (mm : Mem) (H : Heap) (locs : List Loc) (ls : Array Slot), fX11_lookers_j143 (eS E) x3 x4 x5 x6 mm = some (res, mm1) → wS E s mm H locs → lv_has ls 9 [(3, .int x3), (4, .int x4), (5, .int x5), (6, .int x6)] → W p l e R s m args below meth c H locs 0 0 Q (F0 m 143 ls []) := by
    intro x3 x4 x5 x6 mm H locs ls hf hS hl
    unfold fX11_lookers_j143 at hf
    refine lv_iload_n hx hb dX11_lookers_143 rfl (lv_at hl 0 rfl) ?_
    refine lv_if_ne (tgt := 152) hx hb dX11_lookers_144 (by decide) (fun q1 => ?_) (fun q1 => ?_)
    · have hf := ifn hf q1
      refine lv_iload_n hx hb dX11_lookers_152 rfl (lv_at hl 0 rfl) ?_
      refine lv_iconst (v := 1) hx hb dX11_lookers_153 (by decide) ?_
      refine lv_icmp_ne (tgt := 162) hx hb dX11_lookers_154 (by decide) (fun q2 => ?_) (fun q2 => ?_)
      · have hf := ifn hf q2
        refine lv_iload hx hb dX11_lookers_162 (lv_at hl 3 rfl) ?_
        exact hj164 x6 mm H locs ls hf hS (lv_sub hl [] rfl)
      · have hf := ifp hf q2
        refine lv_iload hx hb dX11_lookers_157 (lv_at hl 2 rfl) ?_
        refine lv_goto (tgt := 164) hx hb dX11_lookers_159 (by decide) ?_
        exact hj164 x5 mm H locs ls hf hS (lv_sub hl [] rfl)
    · have hf := ifp hf q1
      refine lv_iload hx hb dX11_lookers_147 (lv_at hl 1 rfl) ?_
      refine lv_goto (tgt := 164) hx hb dX11_lookers_149 (by decide) ?_
      exact hj164 x4 mm H locs ls hf hS (lv_sub hl [] rfl)
  have hj35 : ∀ (x1 : Int32) (x2 : Int32) (x3 : Int32) (s0 : Nat) (s1 : Int32) (mm : Mem) (H : Heap) (locs : List Loc) (ls : Array Slot), fX11_lookers_j35 (eS E) x1 x2 x3 s0 s1 mm = some (res, mm1) → wS E s mm H locs → lv_has ls 9 [(1, .int x1), (2, .int x2), (3, .int x3)] → W p l e R s m args below meth c H locs 0 0 Q (F0 m 35 ls [.int s1, .ref s0]) := by
    intro x1 x2 x3 s0 s1 mm H locs ls hf hS hl
    unfold fX11_lookers_j35 at hf
    obtain ⟨u0, h0, hf⟩ := bs hf
    obtain ⟨_, hrc⟩ := isO_n h0
    obtain ⟨u3, m4, h1, hf⟩ := bs2 hf
    rcases u3 with v5 | k1
    · have hf := sme_l hf
      refine am_endv hS (am_runV (As := [.int s1]) X (hml.trans hl.1.symm) hS (cX11_need_ok (l := l) (E := E) hl0 h1) mv_X11_186 hrc rfl ⟨Nat.le_trans (by decide) hRa, Nat.le_trans (by decide) hRb⟩ ⟨Nat.zero_le _, Nat.zero_le _⟩ rfl rfl (Nat.le_of_ble_eq_true rfl) dX11_lookers_35) (fun H locs hS => ?_)
      refine lv_iconst (v := 0) hx hb dX11_lookers_38 (by decide) ?_
      refine lv_topi (fun x4_6 e1 => ?_)
      have hf := lt1_n e1 hf
      refine lv_istore (lv' := [(4, .int x4_6), (1, .int x1), (2, .int x2), (3, .int x3)]) hx hb dX11_lookers_39 hl (by decide) rfl (fun ls hl => ?_)
      refine lv_iconst (v := (-1)) hx hb dX11_lookers_41 (by decide) ?_
      refine lv_topi (fun x5_7 e1 => ?_)
      have hf := lt1_n e1 hf
      refine lv_istore (lv' := [(5, .int x5_7), (4, .int x4_6), (1, .int x1), (2, .int x2), (3, .int x3)]) hx hb dX11_lookers_42 hl (by decide) rfl (fun ls hl => ?_)
      refine lv_iconst (v := 0) hx hb dX11_lookers_44 (by decide) ?_
      refine lv_topi (fun x6_8 e1 => ?_)
      have hf := lt1_n e1 hf
      refine lv_istore (lv' := [(6, .int x6_8), (5, .int x5_7), (4, .int x4_6), (1, .int x1), (2, .int x2), (3, .int x3)]) hx hb dX11_lookers_45 hl (by decide) rfl (fun ls hl => ?_)
      refine lv_iconst (v := 0) hx hb dX11_lookers_47 (by decide) ?_
      refine lv_topi (fun x7_9 e1 => ?_)
      have hf := lt1_n e1 hf
      refine lv_istore (lv' := [(7, .int x7_9), (6, .int x6_8), (5, .int x5_7), (4, .int x4_6), (1, .int x1), (2, .int x2), (3, .int x3)]) hx hb dX11_lookers_48 hl (by decide) rfl (fun ls hl => ?_)
      obtain ⟨ex50, hl50, hk50⟩ := bs hf
      refine loop_W (P := fun st => ∀ (H : Heap) (locs : List Loc) (ls : Array Slot), wS E s m4 H locs → lv_has ls 9 [(1, .int x1), (2, .int x2), (3, .int x3), (4, .int st.1), (5, .int st.2.1), (6, .int st.2.2.1), (7, .int st.2.2.2)] → W p l e R s m args below meth c H locs 0 0 Q (F0 m 50 ls [])) (ex := ex50) ?_ FU _ hl50 H locs ls hS (lv_sub hl [4, 5, 6, 3, 2, 1, 0] rfl)
      intro st y50 hf hyL50 hyR50 H locs ls hS hl
      obtain ⟨x4, x5, x6, x7⟩ := st
      obtain ⟨mm, rfl⟩ : ∃ z, z = m4 := ⟨_, rfl⟩
      have hf : fX11_lookers_b50 (eS E) x1 x2 x3 x4 x5 x6 x7 mm = some y50 := hf
      have hS : wS E s mm H locs := hS
      have hl : lv_has ls 9 [(1, .int x1), (2, .int x2), (3, .int x3), (4, .int x4), (5, .int x5), (6, .int x6), (7, .int x7)] := hl
      unfold fX11_lookers_b50 at hf
      have hj137 : ∀ (x4 : Int32) (x5 : Int32) (x6 : Int32) (x7 : Int32) (H : Heap) (locs : List Loc) (ls : Array Slot), fX11_lookers_j137 (eS E) x1 x2 x3 x4 x5 x6 x7 mm = some y50 → wS E s mm H locs → lv_has ls 9 [(1, .int x1), (2, .int x2), (3, .int x3), (4, .int x4), (5, .int x5), (6, .int x6), (7, .int x7)] → W p l e R s m args below meth c H locs 0 0 Q (F0 m 137 ls []) := by
        intro x4 x5 x6 x7 H locs ls hf hS hl
        unfold fX11_lookers_j137 at hf
        obtain ⟨x7_10, e1⟩ : ∃ z : Int32, z = x7 + 1 := ⟨_, rfl⟩
        have hf := lt1_n e1 hf
        refine lv_iinc (v := x7_10) (lv' := [(7, .int x7_10), (1, .int x1), (2, .int x2), (3, .int x3), (4, .int x4), (5, .int x5), (6, .int x6)]) hx hb dX11_lookers_137 hl (k := 6) rfl (by rw [e1]; rfl) (by decide) rfl (fun ls hl => ?_)
        refine lv_goto (tgt := 50) hx hb dX11_lookers_140 (by decide) ?_
        exact hyL50 _ (Option.some.inj hf).symm H locs ls hS (lv_sub hl [1, 2, 3, 4, 5, 6, 0] rfl)
      refine lv_iload hx hb dX11_lookers_50 (lv_at hl 6 rfl) ?_
      refine lv_iconst (v := 1) hx hb dX11_lookers_52 (by decide) ?_
      refine lv_icmp_gt (tgt := 143) hx hb dX11_lookers_53 (by decide) (fun q11 => ?_) (fun q11 => ?_)
      · have hf := ifp hf q11
        obtain rfl : (x4, x5, x6) = ex50 := hyR50 _ (Option.some.inj hf).symm
        exact hj143 x3 x4 x5 x6 mm H locs ls hk50 hS (lv_sub hl [2, 3, 4, 5] rfl)
      · have hf := ifn hf q11
        refine lv_iconst (v := 0) hx hb dX11_lookers_56 (by decide) ?_
        refine lv_topi (fun x8_12 e1 => ?_)
        have hf := lt1_n e1 hf
        refine lv_istore (lv' := [(8, .int x8_12), (1, .int x1), (2, .int x2), (3, .int x3), (4, .int x4), (5, .int x5), (6, .int x6), (7, .int x7)]) hx hb dX11_lookers_57 hl (by decide) rfl (fun ls hl => ?_)
        obtain ⟨ex59, hl59, hk59⟩ := bs hf
        refine loop_W (P := fun st => ∀ (H : Heap) (locs : List Loc) (ls : Array Slot), wS E s mm H locs → lv_has ls 9 [(1, .int x1), (2, .int x2), (3, .int x3), (4, .int st.1), (5, .int st.2.1), (6, .int st.2.2.1), (7, .int x7), (8, .int st.2.2.2)] → W p l e R s m args below meth c H locs 0 0 Q (F0 m 59 ls [])) (ex := ex59) ?_ FU _ hl59 H locs ls hS (lv_sub hl [1, 2, 3, 4, 5, 6, 7, 0] rfl)
        intro st y59 hf hyL59 hyR59 H locs ls hS hl
        obtain ⟨x4, x5, x6, x8⟩ := st
        have hf : fX11_lookers_b59 (eS E) x1 x2 x3 x7 x4 x5 x6 x8 mm = some y59 := hf
        have hS : wS E s mm H locs := hS
        have hl : lv_has ls 9 [(1, .int x1), (2, .int x2), (3, .int x3), (4, .int x4), (5, .int x5), (6, .int x6), (7, .int x7), (8, .int x8)] := hl
        unfold fX11_lookers_b59 at hf
        have hj131 : ∀ (x4 : Int32) (x5 : Int32) (x6 : Int32) (x8 : Int32) (H : Heap) (locs : List Loc) (ls : Array Slot), fX11_lookers_j131 (eS E) x1 x2 x3 x4 x5 x6 x7 x8 mm = some y59 → wS E s mm H locs → lv_has ls 9 [(1, .int x1), (2, .int x2), (3, .int x3), (4, .int x4), (5, .int x5), (6, .int x6), (7, .int x7), (8, .int x8)] → W p l e R s m args below meth c H locs 0 0 Q (F0 m 131 ls []) := by
          intro x4 x5 x6 x8 H locs ls hf hS hl
          unfold fX11_lookers_j131 at hf
          obtain ⟨x8_13, e1⟩ : ∃ z : Int32, z = x8 + 1 := ⟨_, rfl⟩
          have hf := lt1_n e1 hf
          refine lv_iinc (v := x8_13) (lv' := [(8, .int x8_13), (1, .int x1), (2, .int x2), (3, .int x3), (4, .int x4), (5, .int x5), (6, .int x6), (7, .int x7)]) hx hb dX11_lookers_131 hl (k := 7) rfl (by rw [e1]; rfl) (by decide) rfl (fun ls hl => ?_)
          refine lv_goto (tgt := 59) hx hb dX11_lookers_134 (by decide) ?_
          exact hyL59 _ (Option.some.inj hf).symm H locs ls hS (lv_sub hl [1, 2, 3, 4, 5, 6, 7, 0] rfl)
        have hj128 : ∀ (x4 : Int32) (x5 : Int32) (x6 : Int32) (x8 : Int32) (H : Heap) (locs : List Loc) (ls : Array Slot), fX11_lookers_j128 (eS E) x1 x2 x3 x4 x5 x6 x7 x8 mm = some y59 → wS E s mm H locs → lv_has ls 9 [(1, .int x1), (2, .int x2), (3, .int x3), (4, .int x4), (5, .int x5), (6, .int x6), (7, .int x7), (8, .int x8)] → W p l e R s m args below meth c H locs 0 0 Q (F0 m 128 ls []) := by
          intro x4 x5 x6 x8 H locs ls hf hS hl
          unfold fX11_lookers_j128 at hf
          obtain ⟨x4_14, e1⟩ : ∃ z : Int32, z = x4 + 1 := ⟨_, rfl⟩
          have hf := lt1_n e1 hf
          refine lv_iinc (v := x4_14) (lv' := [(4, .int x4_14), (1, .int x1), (2, .int x2), (3, .int x3), (5, .int x5), (6, .int x6), (7, .int x7), (8, .int x8)]) hx hb dX11_lookers_128 hl (k := 3) rfl (by rw [e1]; rfl) (by decide) rfl (fun ls hl => ?_)
          exact hj131 x4_14 x5 x6 x8 H locs ls hf hS (lv_sub hl [1, 2, 3, 0, 4, 5, 6, 7] rfl)
        refine lv_iload hx hb dX11_lookers_59 (lv_at hl 7 rfl) ?_
        refine lv_iconst (v := 1) hx hb dX11_lookers_61 (by decide) ?_
        refine lv_icmp_gt (tgt := 137) hx hb dX11_lookers_62 (by decide) (fun q15 => ?_) (fun q15 => ?_)
        · have hf := ifp hf q15
          obtain rfl : (x4, x5, x6) = ex59 := hyR59 _ (Option.some.inj hf).symm
          exact hj137 x4 x5 x6 x7 H locs ls hk59 hS (lv_sub hl [0, 1, 2, 3, 4, 5, 6] rfl)
        · have hf := ifn hf q15
          refine lv_iload hx hb dX11_lookers_65 (lv_at hl 6 rfl) ?_
          refine lv_iload hx hb dX11_lookers_67 (lv_at hl 7 rfl) ?_
          refine lv_iload_n hx hb dX11_lookers_69 rfl (lv_at hl 0 rfl) ?_
          refine lv_iload_n hx hb dX11_lookers_70 rfl (lv_at hl 1 rfl) ?_
          obtain ⟨v16, h1, hf⟩ := bs hf
          refine am_endi hS (am_runS (As := [.int x7, .int x8, .int x1, .int x2]) X (hml.trans hl.1.symm) hS (cX11_wouldStay_ok (l := l) (E := E) h1) ms_X11_338 ⟨Nat.le_trans (by decide) hRa, Nat.le_trans (by decide) hRb⟩ ⟨Nat.zero_le _, Nat.zero_le _⟩ rfl rfl (Nat.le_of_ble_eq_true rfl) dX11_lookers_71) (fun H locs hS => ?_)
          refine lv_if_eq (tgt := 131) hx hb dX11_lookers_74 (by decide) (fun q17 => ?_) (fun q17 => ?_)
          · have hf := ifp hf q17
            exact hj131 x4 x5 x6 x8 H locs ls hf hS hl
          · have hf := ifn hf q17
            refine lv_iload hx hb dX11_lookers_77 (lv_at hl 7 rfl) ?_
            refine lv_iload hx hb dX11_lookers_79 (lv_at hl 6 rfl) ?_
            refine lv_iload_n hx hb dX11_lookers_81 rfl (lv_at hl 0 rfl) ?_
            refine lv_iload_n hx hb dX11_lookers_82 rfl (lv_at hl 1 rfl) ?_
            obtain ⟨v18, h1, hf⟩ := bs hf
            refine am_endi hS (am_runS (As := [.int x8, .int x7, .int x1, .int x2]) X (hml.trans hl.1.symm) hS (cX11_wouldStay_ok (l := l) (E := E) h1) ms_X11_338 ⟨Nat.le_trans (by decide) hRa, Nat.le_trans (by decide) hRb⟩ ⟨Nat.zero_le _, Nat.zero_le _⟩ rfl rfl (Nat.le_of_ble_eq_true rfl) dX11_lookers_83) (fun H locs hS => ?_)
            refine lv_if_ne (tgt := 92) hx hb dX11_lookers_86 (by decide) (fun q19 => ?_) (fun q19 => ?_)
            · have hf := ifn hf q19
              refine lv_iload hx hb dX11_lookers_92 (lv_at hl 3 rfl) ?_
              refine lv_if_ne (tgt := 128) hx hb dX11_lookers_94 (by decide) (fun q20 => ?_) (fun q20 => ?_)
              · have hf := ifn hf q20
                exact hj128 x4 x5 x6 x8 H locs ls hf hS hl
              · have hf := ifp hf q20
                refine lv_bipush (v := 10) hx hb dX11_lookers_97 (by decide) ?_
                refine lv_iload hx hb dX11_lookers_99 (lv_at hl 6 rfl) ?_
                refine lv_imul hx hb dX11_lookers_101 ?_
                refine lv_iload hx hb dX11_lookers_102 (lv_at hl 7 rfl) ?_
                refine lv_iadd hx hb dX11_lookers_104 ?_
                refine lv_topi (fun x5_21 e1 => ?_)
                have hf := lt1_n e1 hf
                refine lv_istore (lv' := [(5, .int x5_21), (1, .int x1), (2, .int x2), (3, .int x3), (4, .int x4), (6, .int x6), (7, .int x7), (8, .int x8)]) hx hb dX11_lookers_105 hl (by decide) rfl (fun ls hl => ?_)
                refine lv_iload hx hb dX11_lookers_107 (lv_at hl 6 rfl) ?_
                refine lv_iload hx hb dX11_lookers_109 (lv_at hl 7 rfl) ?_
                refine lv_iload_n hx hb dX11_lookers_111 rfl (lv_at hl 1 rfl) ?_
                refine lv_iload_n hx hb dX11_lookers_112 rfl (lv_at hl 2 rfl) ?_
                obtain ⟨v22, h1, hf⟩ := bs hf
                refine am_endi hS (am_runS (As := [.int x7, .int x8, .int x1, .int x2]) X (hml.trans hl.1.symm) hS (cX11_gain_ok (l := l) (E := E) h1) ms_X11_341 ⟨Nat.le_trans (by decide) hRa, Nat.le_trans (by decide) hRb⟩ ⟨Nat.zero_le _, Nat.zero_le _⟩ rfl rfl (Nat.le_of_ble_eq_true rfl) dX11_lookers_113) (fun H locs hS => ?_)
                refine lv_iload hx hb dX11_lookers_116 (lv_at hl 7 rfl) ?_
                refine lv_iload hx hb dX11_lookers_118 (lv_at hl 6 rfl) ?_
                refine lv_iload_n hx hb dX11_lookers_120 rfl (lv_at hl 1 rfl) ?_
                refine lv_iload_n hx hb dX11_lookers_121 rfl (lv_at hl 2 rfl) ?_
                obtain ⟨v23, h1, hf⟩ := bs hf
                refine am_endi hS (am_runS (As := [.int x8, .int x7, .int x1, .int x2]) X (hml.trans hl.1.symm) hS (cX11_gain_ok (l := l) (E := E) h1) ms_X11_341 ⟨Nat.le_trans (by decide) hRa, Nat.le_trans (by decide) hRb⟩ ⟨Nat.zero_le _, Nat.zero_le _⟩ rfl rfl (Nat.le_of_ble_eq_true rfl) dX11_lookers_122) (fun H locs hS => ?_)
                refine lv_iadd hx hb dX11_lookers_125 ?_
                refine lv_topi (fun x6_24 e1 => ?_)
                have hf := lt1_n e1 hf
                refine lv_istore (lv' := [(6, .int x6_24), (5, .int x5_21), (1, .int x1), (2, .int x2), (3, .int x3), (4, .int x4), (7, .int x7), (8, .int x8)]) hx hb dX11_lookers_126 hl (by decide) rfl (fun ls hl => ?_)
                exact hj128 x4 x5_21 x6_24 x8 H locs ls hf hS (lv_sub hl [2, 3, 4, 5, 1, 0, 6, 7] rfl)
            · have hf := ifp hf q19
              refine lv_goto (tgt := 131) hx hb dX11_lookers_89 (by decide) ?_
              exact hj131 x4 x5 x6 x8 H locs ls hf hS hl
    · have hf := sme_r hf
      cases hf
      exact am_thrV (As := [.int s1]) X (hml.trans hl.1.symm) hS (cX11_need_thr (l := l) (E := E) hl0 h1) mv_X11_186 hrc rfl ⟨Nat.le_trans (by decide) hRa, Nat.le_trans (by decide) hRb⟩ (hRc _ rfl) rfl rfl (Nat.le_of_ble_eq_true rfl) dX11_lookers_35 (fun H locs ce q9 hS a1 a2 a3 => hthr _ rfl _ H locs ls _ ce q9 hS a1 a2 a3)
  have hj34 : ∀ (x1 : Int32) (x2 : Int32) (x3 : Int32) (s0 : Nat) (mm : Mem) (H : Heap) (locs : List Loc) (ls : Array Slot), fX11_lookers_j34 (eS E) x1 x2 x3 s0 mm = some (res, mm1) → wS E s mm H locs → lv_has ls 9 [(1, .int x1), (2, .int x2), (3, .int x3)] → W p l e R s m args below meth c H locs 0 0 Q (F0 m 34 ls [.ref s0]) := by
    intro x1 x2 x3 s0 mm H locs ls hf hS hl
    unfold fX11_lookers_j34 at hf
    refine lv_iconst (v := 0) hx hb dX11_lookers_34 (by decide) ?_
    exact hj35 x1 x2 x3 s0 0 mm H locs ls hf hS hl
  intro H locs ls hS hl
  refine lv_aload_n hx hb dX11_lookers_0 rfl (lv_at hl 0 rfl) ?_
  refine lv_iload_n hx hb dX11_lookers_1 rfl (lv_at hl 1 rfl) ?_
  refine lv_if_lt (tgt := 34) hx hb dX11_lookers_2 (by decide) (fun q25 => ?_) (fun q25 => ?_)
  · have hf := ifp hf q25
    exact hj34 x1 x2 x3 x0 mm H locs ls hf hS (lv_sub hl [1, 2, 3] rfl)
  · have hf := ifn hf q25
    refine lv_iload_n hx hb dX11_lookers_5 rfl (lv_at hl 1 rfl) ?_
    refine lv_bipush (v := 99) hx hb dX11_lookers_6 (by decide) ?_
    refine lv_icmp_gt (tgt := 34) hx hb dX11_lookers_8 (by decide) (fun q26 => ?_) (fun q26 => ?_)
    · have hf := ifp hf q26
      exact hj34 x1 x2 x3 x0 mm H locs ls hf hS (lv_sub hl [1, 2, 3] rfl)
    · have hf := ifn hf q26
      refine lv_iload_n hx hb dX11_lookers_11 rfl (lv_at hl 2 rfl) ?_
      refine lv_if_lt (tgt := 34) hx hb dX11_lookers_12 (by decide) (fun q27 => ?_) (fun q27 => ?_)
      · have hf := ifp hf q27
        exact hj34 x1 x2 x3 x0 mm H locs ls hf hS (lv_sub hl [1, 2, 3] rfl)
      · have hf := ifn hf q27
        refine lv_iload_n hx hb dX11_lookers_15 rfl (lv_at hl 2 rfl) ?_
        refine lv_bipush (v := 99) hx hb dX11_lookers_16 (by decide) ?_
        refine lv_icmp_gt (tgt := 34) hx hb dX11_lookers_18 (by decide) (fun q28 => ?_) (fun q28 => ?_)
        · have hf := ifp hf q28
          exact hj34 x1 x2 x3 x0 mm H locs ls hf hS (lv_sub hl [1, 2, 3] rfl)
        · have hf := ifn hf q28
          refine lv_iload_n hx hb dX11_lookers_21 rfl (lv_at hl 3 rfl) ?_
          refine lv_if_lt (tgt := 34) hx hb dX11_lookers_22 (by decide) (fun q29 => ?_) (fun q29 => ?_)
          · have hf := ifp hf q29
            exact hj34 x1 x2 x3 x0 mm H locs ls hf hS (lv_sub hl [1, 2, 3] rfl)
          · have hf := ifn hf q29
            refine lv_iload_n hx hb dX11_lookers_25 rfl (lv_at hl 3 rfl) ?_
            refine lv_iconst (v := 2) hx hb dX11_lookers_26 (by decide) ?_
            refine lv_icmp_gt (tgt := 34) hx hb dX11_lookers_27 (by decide) (fun q30 => ?_) (fun q30 => ?_)
            · have hf := ifp hf q30
              exact hj34 x1 x2 x3 x0 mm H locs ls hf hS (lv_sub hl [1, 2, 3] rfl)
            · have hf := ifn hf q30
              refine lv_iconst (v := 1) hx hb dX11_lookers_30 (by decide) ?_
              refine lv_goto (tgt := 35) hx hb dX11_lookers_31 (by decide) ?_
              exact hj35 x1 x2 x3 x0 1 mm H locs ls hf hS (lv_sub hl [1, 2, 3] rfl)
set_option maxRecDepth 100000 in
theorem cX11_lookers_ok {l : Launch} {E : Ev} (hl0 : l.stackTraces = false) {x0 : Nat} {x1 : Int32} {x2 : Int32} {x3 : Int32} {mm : Mem} {r : Int32} {mm1 : Mem} (hf : fX11_lookers (eS E) x0 x1 x2 x3 mm = some (.inl r, mm1)) : CtI l yX11_lookers cX11_lookers 9 (some .int) 8 141 E [.ref x0, .int x1, .int x2, .int x3] mm r mm1 := by
  refine Met.ofW (cc := cX11_lookers) (maxL := 9) (ret := (some .int)) (by decide) rfl ?_
  intro p e s m args below meth c s₁ B hml hv
  obtain ⟨rfl, X, hS, hr, hlocks⟩ := am_in B hv
  refine am_entry (Nat.le_of_ble_eq_true rfl) (fun ls hl => ?_)
  exact wX11_lookers hl0 X hml ⟨Nat.le_refl _, Nat.le_refl _⟩ hf (fun r e pc H locs ls hn hd hS => by cases e; exact am_ri X hS hr hn hd hlocks) (fun k e => by cases e) (fun k e => by cases e) _ _ ls hS hl
set_option maxRecDepth 100000 in
theorem cX11_lookers_thr {l : Launch} {E : Ev} (hl0 : l.stackTraces = false) {x0 : Nat} {x1 : Int32} {x2 : Int32} {x3 : Int32} {mm : Mem} {k : Nat} {mm1 : Mem} (hf : fX11_lookers (eS E) x0 x1 x2 x3 mm = some (.inr k, mm1)) : CtX l yX11_lookers cX11_lookers 9 (some .int) 8 141 E [.ref x0, .int x1, .int x2, .int x3] mm k mm1 := by
  refine vx_ofW (cc := cX11_lookers) (maxL := 9) (ret := (some .int)) (by decide) rfl ?_
  intro p e s m args below meth c s₁ B hml hxt hv
  obtain ⟨rfl, X, hS, hr, hlocks⟩ := am_in B hv
  refine am_entry (Nat.le_of_ble_eq_true rfl) (fun ls hl => ?_)
  exact wX11_lookers hl0 X hml ⟨Nat.le_refl _, Nat.le_refl _⟩ hf (fun r e => by cases e) (fun k e => ⟨Nat.le_refl _, Nat.le_refl _⟩) (fun k1 e pc H locs ls rest ce q9 hS a1 a2 a3 => by cases e; exact am_out X hS hxt hlocks a1 a2 a3) _ _ ls hS hl
set_option maxHeartbeats 4000000 in
set_option maxRecDepth 100000 in
theorem wX11_light {p : Program} {l : Launch} {e : Env} {R : Room} {s : State} {m : MethodId} {args : Array Value} {below : List Frame} {meth : Method} {c : Code} {Q : State → Prop} {E : Ev} (hl0 : l.stackTraces = false) (X : Cx p s m args c cX11_light RX11 E) (hml : c.maxLocals = 6) (hR : 8 ≤ R.frames ∧ 141 ≤ R.locals) {x0 : Nat} {x1 : Int32} {x2 : Int32} {x3 : Int32} {mm : Mem} {res : Int32 ⊕ Nat} {mm1 : Mem} (hf : fX11_light (eS E) x0 x1 x2 x3 mm = some (res, mm1)) (hret : ∀ r, res = .inl r → ∀ (pc : Nat) (H : Heap) (locs : List Loc) (ls : Array Slot), narrow .int (.int r) = .int r → decode cX11_light pc = .ok (.ireturn, 1) → wS E s mm1 H locs → W p l e R s m args below meth c H locs 0 0 Q (F0 m pc ls [.int r])) (hRc : ∀ k, res = .inr k → 1 ≤ R.cells ∧ 6 ≤ R.slots) (hthr : ∀ k, res = .inr k → ∀ (pc : Nat) (H : Heap) (locs : List Loc) (ls : Array Slot) (rest : List Value) (ce : Cell) (q9 : Addr), wS E s mm1 H locs → H[q9]? = some ce → ce.vm = .none → s.vm.findClass (exN k) = some ce.cls → vx_W p l e R s m args below meth c H locs 1 6 Q (F0 m pc ls rest) q9) : ∀ (H : Heap) (locs : List Loc) (ls : Array Slot), wS E s mm H locs → lv_has ls 6 [(0, .ref x0), (1, .int x1), (2, .int x2), (3, .int x3)] → W p l e R s m args below meth c H locs 0 0 Q (F0 m 0 ls []) := by
  have hx := X.1
  have hb := X.2.1
  have hRa := hR.1
  have hRb := hR.2
  unfold fX11_light at hf
  have hj89 : ∀ (x0 : Nat) (x1 : Int32) (x4 : Int32) (mm : Mem) (H : Heap) (locs : List Loc) (ls : Array Slot), fX11_light_j89 (eS E) x0 x1 x4 mm = some (res, mm1) → wS E s mm H locs → lv_has ls 6 [(0, .ref x0), (1, .int x1), (4, .int x4)] → W p l e R s m args below meth c H locs 0 0 Q (F0 m 89 ls []) := by
    intro x0 x1 x4 mm H locs ls hf hS hl
    unfold fX11_light_j89 at hf
    refine lv_aload_n hx hb dX11_light_89 rfl (lv_at hl 0 rfl) ?_
    obtain ⟨a1, h1, hf⟩ := bs hf
    refine am_gr X hS fl_X11_67 rfl h1 dX11_light_90 ?_
    refine lv_iload_n hx hb dX11_light_93 rfl (lv_at hl 1 rfl) ?_
    obtain ⟨u0, h0, hf⟩ := bs hf
    obtain ⟨_, hrc⟩ := isO_n h0
    obtain ⟨v2, h1, hf⟩ := bs hf
    refine am_endi hS (am_runV (As := [.int x1]) X (hml.trans hl.1.symm) hS (cX2_allWithin_ok (l := l) (E := E) h1) mv_X11_224 hrc rfl ⟨Nat.le_trans (by decide) hRa, Nat.le_trans (by decide) hRb⟩ ⟨Nat.zero_le _, Nat.zero_le _⟩ rfl rfl (Nat.le_of_ble_eq_true rfl) dX11_light_94) (fun H locs hS => ?_)
    refine lv_iload hx hb dX11_light_97 (lv_at hl 2 rfl) ?_
    refine va_mmin hx hb (hml.trans hl.1.symm) X.2.2.2.1 (X.2.2.1 _ (inBi 1225 (by decide +kernel))) (X.2.2.1 _ (inBi 736 (by decide +kernel))) (X.2.2.1 _ (inBi 117 (by decide +kernel))) (X.2.2.1 _ (inBi 737 (by decide +kernel))) (Nat.le_trans (by decide) hRa) (Nat.le_trans (Nat.le_of_ble_eq_true rfl) hRb) (Nat.zero_le _) (Nat.zero_le _) dX11_light_99 ?_
    cases hf
    exact hret _ rfl _ _ _ _ rfl dX11_light_102 hS
  have hj30 : ∀ (x0 : Nat) (x1 : Int32) (x2 : Int32) (x3 : Int32) (s0 : Nat) (s1 : Int32) (mm : Mem) (H : Heap) (locs : List Loc) (ls : Array Slot), fX11_light_j30 (eS E) x0 x1 x2 x3 s0 s1 mm = some (res, mm1) → wS E s mm H locs → lv_has ls 6 [(0, .ref x0), (1, .int x1), (2, .int x2), (3, .int x3)] → W p l e R s m args below meth c H locs 0 0 Q (F0 m 30 ls [.int s1, .ref s0]) := by
    intro x0 x1 x2 x3 s0 s1 mm H locs ls hf hS hl
    unfold fX11_light_j30 at hf
    obtain ⟨u0, h0, hf⟩ := bs hf
    obtain ⟨_, hrc⟩ := isO_n h0
    obtain ⟨u3, m4, h1, hf⟩ := bs2 hf
    rcases u3 with v5 | k1
    · have hf := sme_l hf
      refine am_endv hS (am_runV (As := [.int s1]) X (hml.trans hl.1.symm) hS (cX11_need_ok (l := l) (E := E) hl0 h1) mv_X11_186 hrc rfl ⟨Nat.le_trans (by decide) hRa, Nat.le_trans (by decide) hRb⟩ ⟨Nat.zero_le _, Nat.zero_le _⟩ rfl rfl (Nat.le_of_ble_eq_true rfl) dX11_light_30) (fun H locs hS => ?_)
      refine lv_iload_n hx hb dX11_light_33 rfl (lv_at hl 2 rfl) ?_
      refine lv_iload_n hx hb dX11_light_34 rfl (lv_at hl 1 rfl) ?_
      refine lv_ishr hx hb dX11_light_35 ?_
      refine lv_iconst (v := 1) hx hb dX11_light_36 (by decide) ?_
      refine lv_iand hx hb dX11_light_37 ?_
      refine lv_if_ne (tgt := 43) hx hb dX11_light_38 (by decide) (fun q6 => ?_) (fun q6 => ?_)
      · have hf := ifn hf q6
        refine lv_iconst (v := 0) hx hb dX11_light_43 (by decide) ?_
        refine lv_topi (fun x4_7 e1 => ?_)
        have hf := lt1_n e1 hf
        refine lv_istore (lv' := [(4, .int x4_7), (0, .ref x0), (1, .int x1), (2, .int x2), (3, .int x3)]) hx hb dX11_light_44 hl (by decide) rfl (fun ls hl => ?_)
        refine lv_sipush (v := 2048) hx hb dX11_light_46 (by decide) ?_
        refine lv_topi (fun x5_8 e1 => ?_)
        have hf := lt1_n e1 hf
        refine lv_istore (lv' := [(5, .int x5_8), (4, .int x4_7), (0, .ref x0), (1, .int x1), (2, .int x2), (3, .int x3)]) hx hb dX11_light_49 hl (by decide) rfl (fun ls hl => ?_)
        obtain ⟨ex51, hl51, hk51⟩ := bs hf
        refine loop_W (P := fun st => ∀ (H : Heap) (locs : List Loc) (ls : Array Slot), wS E s m4 H locs → lv_has ls 6 [(0, .ref x0), (1, .int x1), (2, .int x2), (3, .int x3), (4, .int st.1), (5, .int st.2)] → W p l e R s m args below meth c H locs 0 0 Q (F0 m 51 ls [])) (ex := ex51) ?_ FU _ hl51 H locs ls hS (lv_sub hl [2, 3, 4, 5, 1, 0] rfl)
        intro st y51 hf hyL51 hyR51 H locs ls hS hl
        obtain ⟨x4, x5⟩ := st
        obtain ⟨mm, rfl⟩ : ∃ z, z = m4 := ⟨_, rfl⟩
        have hf : fX11_light_b51 (eS E) x0 x1 x2 x3 x4 x5 mm = some y51 := hf
        have hS : wS E s mm H locs := hS
        have hl : lv_has ls 6 [(0, .ref x0), (1, .int x1), (2, .int x2), (3, .int x3), (4, .int x4), (5, .int x5)] := hl
        unfold fX11_light_b51 at hf
        have hj80 : ∀ (x4 : Int32) (x5 : Int32) (H : Heap) (locs : List Loc) (ls : Array Slot), fX11_light_j80 (eS E) x0 x1 x2 x3 x4 x5 mm = some y51 → wS E s mm H locs → lv_has ls 6 [(0, .ref x0), (1, .int x1), (2, .int x2), (3, .int x3), (4, .int x4), (5, .int x5)] → W p l e R s m args below meth c H locs 0 0 Q (F0 m 80 ls []) := by
          intro x4 x5 H locs ls hf hS hl
          unfold fX11_light_j80 at hf
          refine lv_iload hx hb dX11_light_80 (lv_at hl 5 rfl) ?_
          refine lv_iconst (v := 1) hx hb dX11_light_82 (by decide) ?_
          refine lv_ishr hx hb dX11_light_83 ?_
          refine lv_topi (fun x5_9 e1 => ?_)
          have hf := lt1_n e1 hf
          refine lv_istore (lv' := [(5, .int x5_9), (0, .ref x0), (1, .int x1), (2, .int x2), (3, .int x3), (4, .int x4)]) hx hb dX11_light_84 hl (by decide) rfl (fun ls hl => ?_)
          refine lv_goto (tgt := 51) hx hb dX11_light_86 (by decide) ?_
          exact hyL51 _ (Option.some.inj hf).symm H locs ls hS (lv_sub hl [1, 2, 3, 4, 5, 0] rfl)
        refine lv_iload hx hb dX11_light_51 (lv_at hl 5 rfl) ?_
        refine lv_if_le (tgt := 89) hx hb dX11_light_53 (by decide) (fun q10 => ?_) (fun q10 => ?_)
        · have hf := ifp hf q10
          obtain rfl : x4 = ex51 := hyR51 _ (Option.some.inj hf).symm
          exact hj89 x0 x1 x4 mm H locs ls hk51 hS (lv_sub hl [0, 1, 4] rfl)
        · have hf := ifn hf q10
          refine lv_aload_n hx hb dX11_light_56 rfl (lv_at hl 0 rfl) ?_
          obtain ⟨a11, h1, hf⟩ := bs hf
          refine am_gr X hS fl_X11_67 rfl h1 dX11_light_57 ?_
          refine lv_iload_n hx hb dX11_light_60 rfl (lv_at hl 2 rfl) ?_
          refine lv_iload hx hb dX11_light_61 (lv_at hl 4 rfl) ?_
          refine lv_iload hx hb dX11_light_63 (lv_at hl 5 rfl) ?_
          refine lv_iadd hx hb dX11_light_65 ?_
          obtain ⟨u0, h0, hf⟩ := bs hf
          obtain ⟨_, hrc⟩ := isO_n h0
          obtain ⟨v12, h1, hf⟩ := bs hf
          refine am_endi hS (am_runV (As := [.int x2, .int (x4 + x5)]) X (hml.trans hl.1.symm) hS (cX2_givenBy_ok (l := l) (E := E) h1) mv_X11_345 hrc rfl ⟨Nat.le_trans (by decide) hRa, Nat.le_trans (by decide) hRb⟩ ⟨Nat.zero_le _, Nat.zero_le _⟩ rfl rfl (Nat.le_of_ble_eq_true rfl) dX11_light_66) (fun H locs hS => ?_)
          refine lv_iload_n hx hb dX11_light_69 rfl (lv_at hl 3 rfl) ?_
          refine lv_icmp_gt (tgt := 80) hx hb dX11_light_70 (by decide) (fun q13 => ?_) (fun q13 => ?_)
          · have hf := ifp hf q13
            exact hj80 x4 x5 H locs ls hf hS hl
          · have hf := ifn hf q13
            refine lv_iload hx hb dX11_light_73 (lv_at hl 4 rfl) ?_
            refine lv_iload hx hb dX11_light_75 (lv_at hl 5 rfl) ?_
            refine lv_iadd hx hb dX11_light_77 ?_
            refine lv_topi (fun x4_14 e1 => ?_)
            have hf := lt1_n e1 hf
            refine lv_istore (lv' := [(4, .int x4_14), (0, .ref x0), (1, .int x1), (2, .int x2), (3, .int x3), (5, .int x5)]) hx hb dX11_light_78 hl (by decide) rfl (fun ls hl => ?_)
            exact hj80 x4_14 x5 H locs ls hf hS (lv_sub hl [1, 2, 3, 4, 0, 5] rfl)
      · have hf := ifp hf q6
        refine lv_iconst (v := 0) hx hb dX11_light_41 (by decide) ?_
        cases hf
        exact hret _ rfl _ _ _ _ rfl dX11_light_42 hS
    · have hf := sme_r hf
      cases hf
      exact am_thrV (As := [.int s1]) X (hml.trans hl.1.symm) hS (cX11_need_thr (l := l) (E := E) hl0 h1) mv_X11_186 hrc rfl ⟨Nat.le_trans (by decide) hRa, Nat.le_trans (by decide) hRb⟩ (hRc _ rfl) rfl rfl (Nat.le_of_ble_eq_true rfl) dX11_light_30 (fun H locs ce q9 hS a1 a2 a3 => hthr _ rfl _ H locs ls _ ce q9 hS a1 a2 a3)
  have hj29 : ∀ (x0 : Nat) (x1 : Int32) (x2 : Int32) (x3 : Int32) (s0 : Nat) (mm : Mem) (H : Heap) (locs : List Loc) (ls : Array Slot), fX11_light_j29 (eS E) x0 x1 x2 x3 s0 mm = some (res, mm1) → wS E s mm H locs → lv_has ls 6 [(0, .ref x0), (1, .int x1), (2, .int x2), (3, .int x3)] → W p l e R s m args below meth c H locs 0 0 Q (F0 m 29 ls [.ref s0]) := by
    intro x0 x1 x2 x3 s0 mm H locs ls hf hS hl
    unfold fX11_light_j29 at hf
    refine lv_iconst (v := 0) hx hb dX11_light_29 (by decide) ?_
    exact hj30 x0 x1 x2 x3 s0 0 mm H locs ls hf hS hl
  intro H locs ls hS hl
  refine lv_aload_n hx hb dX11_light_0 rfl (lv_at hl 0 rfl) ?_
  refine lv_iload_n hx hb dX11_light_1 rfl (lv_at hl 1 rfl) ?_
  obtain ⟨u0, h0, hf⟩ := bs hf
  obtain ⟨_, hrc⟩ := isO_n h0
  obtain ⟨u15, m16, h1, hf⟩ := bs2 hf
  rcases u15 with v17 | k1
  · have hf := sme_l hf
    refine am_endv hS (am_runV (As := [.int x1]) X (hml.trans hl.1.symm) hS (cX11_needFellow_ok (l := l) (E := E) hl0 h1) mv_X11_221 hrc rfl ⟨Nat.le_trans (by decide) hRa, Nat.le_trans (by decide) hRb⟩ ⟨Nat.zero_le _, Nat.zero_le _⟩ rfl rfl (Nat.le_of_ble_eq_true rfl) dX11_light_2) (fun H locs hS => ?_)
    refine lv_aload_n hx hb dX11_light_5 rfl (lv_at hl 0 rfl) ?_
    refine lv_aload_n hx hb dX11_light_6 rfl (lv_at hl 0 rfl) ?_
    refine lv_iload_n hx hb dX11_light_7 rfl (lv_at hl 2 rfl) ?_
    obtain ⟨u0, h0, hf⟩ := bs hf
    obtain ⟨_, hrc⟩ := isO_n h0
    obtain ⟨v18, h1, hf⟩ := bs hf
    refine am_endi hS (am_runV (As := [.int x2]) X (hml.trans hl.1.symm) hS (cX11_areFellows_ok (l := l) (E := E) h1) mv_X11_279 hrc rfl ⟨Nat.le_trans (by decide) hRa, Nat.le_trans (by decide) hRb⟩ ⟨Nat.zero_le _, Nat.zero_le _⟩ rfl rfl (Nat.le_of_ble_eq_true rfl) dX11_light_8) (fun H locs hS => ?_)
    refine lv_if_eq (tgt := 29) hx hb dX11_light_11 (by decide) (fun q19 => ?_) (fun q19 => ?_)
    · have hf := ifp hf q19
      exact hj29 x0 x1 x2 x3 x0 m16 H locs ls hf hS hl
    · have hf := ifn hf q19
      refine lv_iload_n hx hb dX11_light_14 rfl (lv_at hl 3 rfl) ?_
      refine lv_if_lt (tgt := 29) hx hb dX11_light_15 (by decide) (fun q20 => ?_) (fun q20 => ?_)
      · have hf := ifp hf q20
        exact hj29 x0 x1 x2 x3 x0 m16 H locs ls hf hS hl
      · have hf := ifn hf q20
        refine lv_iload_n hx hb dX11_light_18 rfl (lv_at hl 3 rfl) ?_
        refine lv_sipush (v := 2800) hx hb dX11_light_19 (by decide) ?_
        refine lv_icmp_gt (tgt := 29) hx hb dX11_light_22 (by decide) (fun q21 => ?_) (fun q21 => ?_)
        · have hf := ifp hf q21
          exact hj29 x0 x1 x2 x3 x0 m16 H locs ls hf hS hl
        · have hf := ifn hf q21
          refine lv_iconst (v := 1) hx hb dX11_light_25 (by decide) ?_
          refine lv_goto (tgt := 30) hx hb dX11_light_26 (by decide) ?_
          exact hj30 x0 x1 x2 x3 x0 1 m16 H locs ls hf hS hl
  · have hf := sme_r hf
    cases hf
    exact am_thrV (As := [.int x1]) X (hml.trans hl.1.symm) hS (cX11_needFellow_thr (l := l) (E := E) hl0 h1) mv_X11_221 hrc rfl ⟨Nat.le_trans (by decide) hRa, Nat.le_trans (by decide) hRb⟩ (hRc _ rfl) rfl rfl (Nat.le_of_ble_eq_true rfl) dX11_light_2 (fun H locs ce q9 hS a1 a2 a3 => hthr _ rfl _ H locs ls _ ce q9 hS a1 a2 a3)
set_option maxRecDepth 100000 in
theorem cX11_light_ok {l : Launch} {E : Ev} (hl0 : l.stackTraces = false) {x0 : Nat} {x1 : Int32} {x2 : Int32} {x3 : Int32} {mm : Mem} {r : Int32} {mm1 : Mem} (hf : fX11_light (eS E) x0 x1 x2 x3 mm = some (.inl r, mm1)) : CtI l yX11_light cX11_light 6 (some .int) 8 141 E [.ref x0, .int x1, .int x2, .int x3] mm r mm1 := by
  refine Met.ofW (cc := cX11_light) (maxL := 6) (ret := (some .int)) (by decide) rfl ?_
  intro p e s m args below meth c s₁ B hml hv
  obtain ⟨rfl, X, hS, hr, hlocks⟩ := am_in B hv
  refine am_entry (Nat.le_of_ble_eq_true rfl) (fun ls hl => ?_)
  exact wX11_light hl0 X hml ⟨Nat.le_refl _, Nat.le_refl _⟩ hf (fun r e pc H locs ls hn hd hS => by cases e; exact am_ri X hS hr hn hd hlocks) (fun k e => by cases e) (fun k e => by cases e) _ _ ls hS hl
set_option maxRecDepth 100000 in
theorem cX11_light_thr {l : Launch} {E : Ev} (hl0 : l.stackTraces = false) {x0 : Nat} {x1 : Int32} {x2 : Int32} {x3 : Int32} {mm : Mem} {k : Nat} {mm1 : Mem} (hf : fX11_light (eS E) x0 x1 x2 x3 mm = some (.inr k, mm1)) : CtX l yX11_light cX11_light 6 (some .int) 8 141 E [.ref x0, .int x1, .int x2, .int x3] mm k mm1 := by
  refine vx_ofW (cc := cX11_light) (maxL := 6) (ret := (some .int)) (by decide) rfl ?_
  intro p e s m args below meth c s₁ B hml hxt hv
  obtain ⟨rfl, X, hS, hr, hlocks⟩ := am_in B hv
  refine am_entry (Nat.le_of_ble_eq_true rfl) (fun ls hl => ?_)
  exact wX11_light hl0 X hml ⟨Nat.le_refl _, Nat.le_refl _⟩ hf (fun r e => by cases e) (fun k e => ⟨Nat.le_refl _, Nat.le_refl _⟩) (fun k1 e pc H locs ls rest ce q9 hS a1 a2 a3 => by cases e; exact am_out X hS hxt hlocks a1 a2 a3) _ _ ls hS hl
set_option maxHeartbeats 4000000 in
set_option maxRecDepth 100000 in
theorem wX11_broadest {p : Program} {l : Launch} {e : Env} {R : Room} {s : State} {m : MethodId} {args : Array Value} {below : List Frame} {meth : Method} {c : Code} {Q : State → Prop} {E : Ev} (hl0 : l.stackTraces = false) (X : Cx p s m args c cX11_broadest RX11 E) (hml : c.maxLocals = 6) (hR : 8 ≤ R.frames ∧ 141 ≤ R.locals) {x0 : Nat} {x1 : Int32} {mm : Mem} {res : Int32 ⊕ Nat} {mm1 : Mem} (hf : fX11_broadest (eS E) x0 x1 mm = some (res, mm1)) (hret : ∀ r, res = .inl r → ∀ (pc : Nat) (H : Heap) (locs : List Loc) (ls : Array Slot), narrow .int (.int r) = .int r → decode cX11_broadest pc = .ok (.ireturn, 1) → wS E s mm1 H locs → W p l e R s m args below meth c H locs 0 0 Q (F0 m pc ls [.int r])) (hRc : ∀ k, res = .inr k → 1 ≤ R.cells ∧ 6 ≤ R.slots) (hthr : ∀ k, res = .inr k → ∀ (pc : Nat) (H : Heap) (locs : List Loc) (ls : Array Slot) (rest : List Value) (ce : Cell) (q9 : Addr), wS E s mm1 H locs → H[q9]? = some ce → ce.vm = .none → s.vm.findClass (exN k) = some ce.cls → vx_W p l e R s m args below meth c H locs 1 6 Q (F0 m pc ls rest) q9) : ∀ (H : Heap) (locs : List Loc) (ls : Array Slot), wS E s mm H locs → lv_has ls 6 [(0, .ref x0), (1, .int x1)] → W p l e R s m args below meth c H locs 0 0 Q (F0 m 0 ls []) := by
  have hx := X.1
  have hb := X.2.1
  have hRa := hR.1
  have hRb := hR.2
  unfold fX11_broadest at hf
  have hj75 : ∀ (s0 : Int32) (mm : Mem) (H : Heap) (locs : List Loc) (ls : Array Slot), fX11_broadest_j75 (eS E) s0 mm = some (res, mm1) → wS E s mm H locs → lv_has ls 6 [] → W p l e R s m args below meth c H locs 0 0 Q (F0 m 75 ls [.int s0]) := by
    intro s0 mm H locs ls hf hS hl
    unfold fX11_broadest_j75 at hf
    cases hf
    exact hret _ rfl _ _ _ _ rfl dX11_broadest_75 hS
  have hj66 : ∀ (x1 : Int32) (x2 : Int32) (x3 : Int32) (mm : Mem) (H : Heap) (locs : List Loc) (ls : Array Slot), fX11_broadest_j66 (eS E) x1 x2 x3 mm = some (res, mm1) → wS E s mm H locs → lv_has ls 6 [(1, .int x1), (2, .int x2), (3, .int x3)] → W p l e R s m args below meth c H locs 0 0 Q (F0 m 66 ls []) := by
    intro x1 x2 x3 mm H locs ls hf hS hl
    unfold fX11_broadest_j66 at hf
    refine lv_iload_n hx hb dX11_broadest_66 rfl (lv_at hl 0 rfl) ?_
    refine lv_if_ne (tgt := 74) hx hb dX11_broadest_67 (by decide) (fun q1 => ?_) (fun q1 => ?_)
    · have hf := ifn hf q1
      refine lv_iload_n hx hb dX11_broadest_74 rfl (lv_at hl 2 rfl) ?_
      exact hj75 x3 mm H locs ls hf hS (lv_sub hl [] rfl)
    · have hf := ifp hf q1
      refine lv_iload_n hx hb dX11_broadest_70 rfl (lv_at hl 1 rfl) ?_
      refine lv_goto (tgt := 75) hx hb dX11_broadest_71 (by decide) ?_
      exact hj75 x2 mm H locs ls hf hS (lv_sub hl [] rfl)
  have hj15 : ∀ (x0 : Nat) (x1 : Int32) (s0 : Nat) (s1 : Int32) (mm : Mem) (H : Heap) (locs : List Loc) (ls : Array Slot), fX11_broadest_j15 (eS E) x0 x1 s0 s1 mm = some (res, mm1) → wS E s mm H locs → lv_has ls 6 [(0, .ref x0), (1, .int x1)] → W p l e R s m args below meth c H locs 0 0 Q (F0 m 15 ls [.int s1, .ref s0]) := by
    intro x0 x1 s0 s1 mm H locs ls hf hS hl
    unfold fX11_broadest_j15 at hf
    obtain ⟨u0, h0, hf⟩ := bs hf
    obtain ⟨_, hrc⟩ := isO_n h0
    obtain ⟨u2, m3, h1, hf⟩ := bs2 hf
    rcases u2 with v4 | k1
    · have hf := sme_l hf
      refine am_endv hS (am_runV (As := [.int s1]) X (hml.trans hl.1.symm) hS (cX11_need_ok (l := l) (E := E) hl0 h1) mv_X11_186 hrc rfl ⟨Nat.le_trans (by decide) hRa, Nat.le_trans (by decide) hRb⟩ ⟨Nat.zero_le _, Nat.zero_le _⟩ rfl rfl (Nat.le_of_ble_eq_true rfl) dX11_broadest_15) (fun H locs hS => ?_)
      refine lv_iconst (v := (-1)) hx hb dX11_broadest_18 (by decide) ?_
      refine lv_topi (fun x2_5 e1 => ?_)
      have hf := lt1_n e1 hf
      refine lv_istore_n (lv' := [(2, .int x2_5), (0, .ref x0), (1, .int x1)]) hx hb dX11_broadest_19 rfl hl (by decide) rfl (fun ls hl => ?_)
      refine lv_iconst (v := (-1)) hx hb dX11_broadest_20 (by decide) ?_
      refine lv_topi (fun x3_6 e1 => ?_)
      have hf := lt1_n e1 hf
      refine lv_istore_n (lv' := [(3, .int x3_6), (2, .int x2_5), (0, .ref x0), (1, .int x1)]) hx hb dX11_broadest_21 rfl hl (by decide) rfl (fun ls hl => ?_)
      refine lv_iconst (v := 0) hx hb dX11_broadest_22 (by decide) ?_
      refine lv_topi (fun x4_7 e1 => ?_)
      have hf := lt1_n e1 hf
      refine lv_istore (lv' := [(4, .int x4_7), (3, .int x3_6), (2, .int x2_5), (0, .ref x0), (1, .int x1)]) hx hb dX11_broadest_23 hl (by decide) rfl (fun ls hl => ?_)
      obtain ⟨ex25, hl25, hk25⟩ := bs hf
      refine loop_W (P := fun st => ∀ (H : Heap) (locs : List Loc) (ls : Array Slot), wS E s m3 H locs → lv_has ls 6 [(0, .ref x0), (1, .int x1), (2, .int st.1), (3, .int st.2.1), (4, .int st.2.2)] → W p l e R s m args below meth c H locs 0 0 Q (F0 m 25 ls [])) (ex := ex25) ?_ FU _ hl25 H locs ls hS (lv_sub hl [3, 4, 2, 1, 0] rfl)
      intro st y25 hf hyL25 hyR25 H locs ls hS hl
      obtain ⟨x2, x3, x4⟩ := st
      obtain ⟨mm, rfl⟩ : ∃ z, z = m3 := ⟨_, rfl⟩
      have hf : fX11_broadest_b25 (eS E) x0 x1 x2 x3 x4 mm = some y25 := hf
      have hS : wS E s mm H locs := hS
      have hl : lv_has ls 6 [(0, .ref x0), (1, .int x1), (2, .int x2), (3, .int x3), (4, .int x4)] := hl
      unfold fX11_broadest_b25 at hf
      have hj60 : ∀ (x2 : Int32) (x3 : Int32) (x4 : Int32) (H : Heap) (locs : List Loc) (ls : Array Slot), fX11_broadest_j60 (eS E) x0 x1 x2 x3 x4 mm = some y25 → wS E s mm H locs → lv_has ls 6 [(0, .ref x0), (1, .int x1), (2, .int x2), (3, .int x3), (4, .int x4)] → W p l e R s m args below meth c H locs 0 0 Q (F0 m 60 ls []) := by
        intro x2 x3 x4 H locs ls hf hS hl
        unfold fX11_broadest_j60 at hf
        obtain ⟨x4_8, e1⟩ : ∃ z : Int32, z = x4 + 1 := ⟨_, rfl⟩
        have hf := lt1_n e1 hf
        refine lv_iinc (v := x4_8) (lv' := [(4, .int x4_8), (0, .ref x0), (1, .int x1), (2, .int x2), (3, .int x3)]) hx hb dX11_broadest_60 hl (k := 4) rfl (by rw [e1]; rfl) (by decide) rfl (fun ls hl => ?_)
        refine lv_goto (tgt := 25) hx hb dX11_broadest_63 (by decide) ?_
        exact hyL25 _ (Option.some.inj hf).symm H locs ls hS (lv_sub hl [1, 2, 3, 4, 0] rfl)
      refine lv_iload hx hb dX11_broadest_25 (lv_at hl 4 rfl) ?_
      refine lv_aload_n hx hb dX11_broadest_27 rfl (lv_at hl 0 rfl) ?_
      obtain ⟨a9, h1, hf⟩ := bs hf
      refine am_gr X hS fl_X11_19 rfl h1 dX11_broadest_28 ?_
      obtain ⟨v10, h1, hf⟩ := bs hf
      refine am_gi X hS fl_X11_144 rfl h1 dX11_broadest_31 ?_
      refine lv_icmp_ge (tgt := 66) hx hb dX11_broadest_34 (by decide) (fun q11 => ?_) (fun q11 => ?_)
      · have hf := ifp hf q11
        obtain rfl : (x2, x3) = ex25 := hyR25 _ (Option.some.inj hf).symm
        exact hj66 x1 x2 x3 mm H locs ls hk25 hS (lv_sub hl [1, 2, 3] rfl)
      · have hf := ifn hf q11
        refine lv_aload_n hx hb dX11_broadest_37 rfl (lv_at hl 0 rfl) ?_
        obtain ⟨a12, h1, hf⟩ := bs hf
        refine am_gr X hS fl_X11_67 rfl h1 dX11_broadest_38 ?_
        refine lv_iload hx hb dX11_broadest_41 (lv_at hl 4 rfl) ?_
        obtain ⟨u0, h0, hf⟩ := bs hf
        obtain ⟨_, hrc⟩ := isO_n h0
        obtain ⟨v13, h1, hf⟩ := bs hf
        refine am_endi hS (am_runV (As := [.int x4]) X (hml.trans hl.1.symm) hS (cX2_allWithin_ok (l := l) (E := E) h1) mv_X11_224 hrc rfl ⟨Nat.le_trans (by decide) hRa, Nat.le_trans (by decide) hRb⟩ ⟨Nat.zero_le _, Nat.zero_le _⟩ rfl rfl (Nat.le_of_ble_eq_true rfl) dX11_broadest_43) (fun H locs hS => ?_)
        refine lv_topi (fun x5_14 e1 => ?_)
        have hf := lt1_n e1 hf
        refine lv_istore (lv' := [(5, .int x5_14), (0, .ref x0), (1, .int x1), (2, .int x2), (3, .int x3), (4, .int x4)]) hx hb dX11_broadest_46 hl (by decide) rfl (fun ls hl => ?_)
        refine lv_iload hx hb dX11_broadest_48 (lv_at hl 0 rfl) ?_
        refine lv_iload_n hx hb dX11_broadest_50 rfl (lv_at hl 4 rfl) ?_
        refine lv_icmp_le (tgt := 60) hx hb dX11_broadest_51 (by decide) (fun q15 => ?_) (fun q15 => ?_)
        · have hf := ifp hf q15
          exact hj60 x2 x3 x4 H locs ls hf hS (lv_sub hl [1, 2, 3, 4, 5] rfl)
        · have hf := ifn hf q15
          refine lv_iload hx hb dX11_broadest_54 (lv_at hl 5 rfl) ?_
          refine lv_topi (fun x2_16 e1 => ?_)
          have hf := lt1_n e1 hf
          refine lv_istore_n (lv' := [(2, .int x2_16), (5, .int x5_14), (0, .ref x0), (1, .int x1), (3, .int x3), (4, .int x4)]) hx hb dX11_broadest_56 rfl hl (by decide) rfl (fun ls hl => ?_)
          refine lv_iload hx hb dX11_broadest_57 (lv_at hl 1 rfl) ?_
          refine lv_topi (fun x3_17 e1 => ?_)
          have hf := lt1_n e1 hf
          refine lv_istore_n (lv' := [(3, .int x3_17), (2, .int x2_16), (5, .int x5_14), (0, .ref x0), (1, .int x1), (4, .int x4)]) hx hb dX11_broadest_59 rfl hl (by decide) rfl (fun ls hl => ?_)
          exact hj60 x2_16 x3_17 x4 H locs ls hf hS (lv_sub hl [3, 4, 1, 0, 5] rfl)
    · have hf := sme_r hf
      cases hf
      exact am_thrV (As := [.int s1]) X (hml.trans hl.1.symm) hS (cX11_need_thr (l := l) (E := E) hl0 h1) mv_X11_186 hrc rfl ⟨Nat.le_trans (by decide) hRa, Nat.le_trans (by decide) hRb⟩ (hRc _ rfl) rfl rfl (Nat.le_of_ble_eq_true rfl) dX11_broadest_15 (fun H locs ce q9 hS a1 a2 a3 => hthr _ rfl _ H locs ls _ ce q9 hS a1 a2 a3)
  have hj10 : ∀ (x0 : Nat) (x1 : Int32) (s0 : Nat) (mm : Mem) (H : Heap) (locs : List Loc) (ls : Array Slot), fX11_broadest_j10 (eS E) x0 x1 s0 mm = some (res, mm1) → wS E s mm H locs → lv_has ls 6 [(0, .ref x0), (1, .int x1)] → W p l e R s m args below meth c H locs 0 0 Q (F0 m 10 ls [.ref s0]) := by
    intro x0 x1 s0 mm H locs ls hf hS hl
    unfold fX11_broadest_j10 at hf
    refine lv_iconst (v := 1) hx hb dX11_broadest_10 (by decide) ?_
    refine lv_goto (tgt := 15) hx hb dX11_broadest_11 (by decide) ?_
    exact hj15 x0 x1 s0 1 mm H locs ls hf hS hl
  intro H locs ls hS hl
  refine lv_aload_n hx hb dX11_broadest_0 rfl (lv_at hl 0 rfl) ?_
  refine lv_iload_n hx hb dX11_broadest_1 rfl (lv_at hl 1 rfl) ?_
  refine lv_if_eq (tgt := 10) hx hb dX11_broadest_2 (by decide) (fun q18 => ?_) (fun q18 => ?_)
  · have hf := ifp hf q18
    exact hj10 x0 x1 x0 mm H locs ls hf hS hl
  · have hf := ifn hf q18
    refine lv_iload_n hx hb dX11_broadest_5 rfl (lv_at hl 1 rfl) ?_
    refine lv_iconst (v := 1) hx hb dX11_broadest_6 (by decide) ?_
    refine lv_icmp_ne (tgt := 14) hx hb dX11_broadest_7 (by decide) (fun q19 => ?_) (fun q19 => ?_)
    · have hf := ifn hf q19
      refine lv_iconst (v := 0) hx hb dX11_broadest_14 (by decide) ?_
      exact hj15 x0 x1 x0 0 mm H locs ls hf hS hl
    · have hf := ifp hf q19
      exact hj10 x0 x1 x0 mm H locs ls hf hS hl
set_option maxRecDepth 100000 in
theorem cX11_broadest_ok {l : Launch} {E : Ev} (hl0 : l.stackTraces = false) {x0 : Nat} {x1 : Int32} {mm : Mem} {r : Int32} {mm1 : Mem} (hf : fX11_broadest (eS E) x0 x1 mm = some (.inl r, mm1)) : CtI l yX11_broadest cX11_broadest 6 (some .int) 8 141 E [.ref x0, .int x1] mm r mm1 := by
  refine Met.ofW (cc := cX11_broadest) (maxL := 6) (ret := (some .int)) (by decide) rfl ?_
  intro p e s m args below meth c s₁ B hml hv
  obtain ⟨rfl, X, hS, hr, hlocks⟩ := am_in B hv
  refine am_entry (Nat.le_of_ble_eq_true rfl) (fun ls hl => ?_)
  exact wX11_broadest hl0 X hml ⟨Nat.le_refl _, Nat.le_refl _⟩ hf (fun r e pc H locs ls hn hd hS => by cases e; exact am_ri X hS hr hn hd hlocks) (fun k e => by cases e) (fun k e => by cases e) _ _ ls hS hl
set_option maxRecDepth 100000 in
theorem cX11_broadest_thr {l : Launch} {E : Ev} (hl0 : l.stackTraces = false) {x0 : Nat} {x1 : Int32} {mm : Mem} {k : Nat} {mm1 : Mem} (hf : fX11_broadest (eS E) x0 x1 mm = some (.inr k, mm1)) : CtX l yX11_broadest cX11_broadest 6 (some .int) 8 141 E [.ref x0, .int x1] mm k mm1 := by
  refine vx_ofW (cc := cX11_broadest) (maxL := 6) (ret := (some .int)) (by decide) rfl ?_
  intro p e s m args below meth c s₁ B hml hxt hv
  obtain ⟨rfl, X, hS, hr, hlocks⟩ := am_in B hv
  refine am_entry (Nat.le_of_ble_eq_true rfl) (fun ls hl => ?_)
  exact wX11_broadest hl0 X hml ⟨Nat.le_refl _, Nat.le_refl _⟩ hf (fun r e => by cases e) (fun k e => ⟨Nat.le_refl _, Nat.le_refl _⟩) (fun k1 e pc H locs ls rest ce q9 hS a1 a2 a3 => by cases e; exact am_out X hS hxt hlocks a1 a2 a3) _ _ ls hS hl
set_option maxHeartbeats 4000000 in
set_option maxRecDepth 100000 in
theorem wX11_strongest {p : Program} {l : Launch} {e : Env} {R : Room} {s : State} {m : MethodId} {args : Array Value} {below : List Frame} {meth : Method} {c : Code} {Q : State → Prop} {E : Ev} (hl0 : l.stackTraces = false) (X : Cx p s m args c cX11_strongest RX11 E) (hml : c.maxLocals = 4) (hR : 8 ≤ R.frames ∧ 141 ≤ R.locals) {x0 : Nat} {x1 : Int32} {x2 : Int32} {mm : Mem} {res : Int32 ⊕ Nat} {mm1 : Mem} (hf : fX11_strongest (eS E) x0 x1 x2 mm = some (res, mm1)) (hret : ∀ r, res = .inl r → ∀ (pc : Nat) (H : Heap) (locs : List Loc) (ls : Array Slot), narrow .int (.int r) = .int r → decode cX11_strongest pc = .ok (.ireturn, 1) → wS E s mm1 H locs → W p l e R s m args below meth c H locs 0 0 Q (F0 m pc ls [.int r])) (hRc : ∀ k, res = .inr k → 1 ≤ R.cells ∧ 6 ≤ R.slots) (hthr : ∀ k, res = .inr k → ∀ (pc : Nat) (H : Heap) (locs : List Loc) (ls : Array Slot) (rest : List Value) (ce : Cell) (q9 : Addr), wS E s mm1 H locs → H[q9]? = some ce → ce.vm = .none → s.vm.findClass (exN k) = some ce.cls → vx_W p l e R s m args below meth c H locs 1 6 Q (F0 m pc ls rest) q9) : ∀ (H : Heap) (locs : List Loc) (ls : Array Slot), wS E s mm H locs → lv_has ls 4 [(0, .ref x0), (1, .int x1), (2, .int x2)] → W p l e R s m args below meth c H locs 0 0 Q (F0 m 0 ls []) := by
  have hx := X.1
  have hb := X.2.1
  have hRa := hR.1
  have hRb := hR.2
  unfold fX11_strongest at hf
  have hj54 : ∀ (s0 : Int32) (mm : Mem) (H : Heap) (locs : List Loc) (ls : Array Slot), fX11_strongest_j54 (eS E) s0 mm = some (res, mm1) → wS E s mm H locs → lv_has ls 4 [] → W p l e R s m args below meth c H locs 0 0 Q (F0 m 54 ls [.int s0]) := by
    intro s0 mm H locs ls hf hS hl
    unfold fX11_strongest_j54 at hf
    cases hf
    exact hret _ rfl _ _ _ _ rfl dX11_strongest_54 hS
  have hj20 : ∀ (x0 : Nat) (x1 : Int32) (x2 : Int32) (s0 : Nat) (s1 : Int32) (mm : Mem) (H : Heap) (locs : List Loc) (ls : Array Slot), fX11_strongest_j20 (eS E) x0 x1 x2 s0 s1 mm = some (res, mm1) → wS E s mm H locs → lv_has ls 4 [(0, .ref x0), (1, .int x1), (2, .int x2)] → W p l e R s m args below meth c H locs 0 0 Q (F0 m 20 ls [.int s1, .ref s0]) := by
    intro x0 x1 x2 s0 s1 mm H locs ls hf hS hl
    unfold fX11_strongest_j20 at hf
    obtain ⟨u0, h0, hf⟩ := bs hf
    obtain ⟨_, hrc⟩ := isO_n h0
    obtain ⟨u1, m2, h1, hf⟩ := bs2 hf
    rcases u1 with v3 | k1
    · have hf := sme_l hf
      refine am_endv hS (am_runV (As := [.int s1]) X (hml.trans hl.1.symm) hS (cX11_need_ok (l := l) (E := E) hl0 h1) mv_X11_186 hrc rfl ⟨Nat.le_trans (by decide) hRa, Nat.le_trans (by decide) hRb⟩ ⟨Nat.zero_le _, Nat.zero_le _⟩ rfl rfl (Nat.le_of_ble_eq_true rfl) dX11_strongest_20) (fun H locs hS => ?_)
      refine lv_aload_n hx hb dX11_strongest_23 rfl (lv_at hl 0 rfl) ?_
      obtain ⟨a4, h1, hf⟩ := bs hf
      refine am_gr X hS fl_X11_67 rfl h1 dX11_strongest_24 ?_
      refine lv_iload_n hx hb dX11_strongest_27 rfl (lv_at hl 1 rfl) ?_
      obtain ⟨u0, h0, hf⟩ := bs hf
      obtain ⟨_, hrc⟩ := isO_n h0
      obtain ⟨v5, h1, hf⟩ := bs hf
      refine am_endi hS (am_runV (As := [.int x1]) X (hml.trans hl.1.symm) hS (cX2_mostPart_ok (l := l) (E := E) h1) mv_X11_351 hrc rfl ⟨Nat.le_trans (by decide) hRa, Nat.le_trans (by decide) hRb⟩ ⟨Nat.zero_le _, Nat.zero_le _⟩ rfl rfl (Nat.le_of_ble_eq_true rfl) dX11_strongest_28) (fun H locs hS => ?_)
      refine lv_topi (fun x3_6 e1 => ?_)
      have hf := lt1_n e1 hf
      refine lv_istore_n (lv' := [(3, .int x3_6), (0, .ref x0), (1, .int x1), (2, .int x2)]) hx hb dX11_strongest_31 rfl hl (by decide) rfl (fun ls hl => ?_)
      refine lv_iload_n hx hb dX11_strongest_32 rfl (lv_at hl 3 rfl) ?_
      refine lv_if_ne (tgt := 40) hx hb dX11_strongest_33 (by decide) (fun q7 => ?_) (fun q7 => ?_)
      · have hf := ifn hf q7
        refine lv_aload_n hx hb dX11_strongest_40 rfl (lv_at hl 1 rfl) ?_
        obtain ⟨a8, h1, hf⟩ := bs hf
        refine am_gr X hS fl_X11_67 rfl h1 dX11_strongest_41 ?_
        obtain ⟨a9, h1, hf⟩ := bs hf
        refine am_gr X hS fl_X11_204 rfl h1 dX11_strongest_44 ?_
        refine lv_iload_n hx hb dX11_strongest_47 rfl (lv_at hl 2 rfl) ?_
        refine lv_bipush (v := 7) hx hb dX11_strongest_48 (by decide) ?_
        refine lv_imul hx hb dX11_strongest_50 ?_
        refine lv_iload_n hx hb dX11_strongest_51 rfl (lv_at hl 0 rfl) ?_
        refine lv_iadd hx hb dX11_strongest_52 ?_
        obtain ⟨v10, h1, hf⟩ := bs hf
        refine am_ald X hS h1 dX11_strongest_53 ?_
        exact hj54 v10 m2 H locs ls hf hS (lv_sub hl [] rfl)
      · have hf := ifp hf q7
        refine lv_iload_n hx hb dX11_strongest_36 rfl (lv_at hl 0 rfl) ?_
        refine lv_goto (tgt := 54) hx hb dX11_strongest_37 (by decide) ?_
        exact hj54 x3_6 m2 H locs ls hf hS (lv_sub hl [] rfl)
    · have hf := sme_r hf
      cases hf
      exact am_thrV (As := [.int s1]) X (hml.trans hl.1.symm) hS (cX11_need_thr (l := l) (E := E) hl0 h1) mv_X11_186 hrc rfl ⟨Nat.le_trans (by decide) hRa, Nat.le_trans (by decide) hRb⟩ (hRc _ rfl) rfl rfl (Nat.le_of_ble_eq_true rfl) dX11_strongest_20 (fun H locs ce q9 hS a1 a2 a3 => hthr _ rfl _ H locs ls _ ce q9 hS a1 a2 a3)
  have hj15 : ∀ (x0 : Nat) (x1 : Int32) (x2 : Int32) (s0 : Nat) (mm : Mem) (H : Heap) (locs : List Loc) (ls : Array Slot), fX11_strongest_j15 (eS E) x0 x1 x2 s0 mm = some (res, mm1) → wS E s mm H locs → lv_has ls 4 [(0, .ref x0), (1, .int x1), (2, .int x2)] → W p l e R s m args below meth c H locs 0 0 Q (F0 m 15 ls [.ref s0]) := by
    intro x0 x1 x2 s0 mm H locs ls hf hS hl
    unfold fX11_strongest_j15 at hf
    refine lv_iconst (v := 1) hx hb dX11_strongest_15 (by decide) ?_
    refine lv_goto (tgt := 20) hx hb dX11_strongest_16 (by decide) ?_
    exact hj20 x0 x1 x2 s0 1 mm H locs ls hf hS hl
  intro H locs ls hS hl
  refine lv_aload_n hx hb dX11_strongest_0 rfl (lv_at hl 0 rfl) ?_
  refine lv_iload_n hx hb dX11_strongest_1 rfl (lv_at hl 1 rfl) ?_
  obtain ⟨u0, h0, hf⟩ := bs hf
  obtain ⟨_, hrc⟩ := isO_n h0
  obtain ⟨u11, m12, h1, hf⟩ := bs2 hf
  rcases u11 with v13 | k1
  · have hf := sme_l hf
    refine am_endv hS (am_runV (As := [.int x1]) X (hml.trans hl.1.symm) hS (cX11_needFellow_ok (l := l) (E := E) hl0 h1) mv_X11_221 hrc rfl ⟨Nat.le_trans (by decide) hRa, Nat.le_trans (by decide) hRb⟩ ⟨Nat.zero_le _, Nat.zero_le _⟩ rfl rfl (Nat.le_of_ble_eq_true rfl) dX11_strongest_2) (fun H locs hS => ?_)
    refine lv_aload_n hx hb dX11_strongest_5 rfl (lv_at hl 0 rfl) ?_
    refine lv_iload_n hx hb dX11_strongest_6 rfl (lv_at hl 2 rfl) ?_
    refine lv_if_eq (tgt := 15) hx hb dX11_strongest_7 (by decide) (fun q14 => ?_) (fun q14 => ?_)
    · have hf := ifp hf q14
      exact hj15 x0 x1 x2 x0 m12 H locs ls hf hS hl
    · have hf := ifn hf q14
      refine lv_iload_n hx hb dX11_strongest_10 rfl (lv_at hl 2 rfl) ?_
      refine lv_iconst (v := 1) hx hb dX11_strongest_11 (by decide) ?_
      refine lv_icmp_ne (tgt := 19) hx hb dX11_strongest_12 (by decide) (fun q15 => ?_) (fun q15 => ?_)
      · have hf := ifn hf q15
        refine lv_iconst (v := 0) hx hb dX11_strongest_19 (by decide) ?_
        exact hj20 x0 x1 x2 x0 0 m12 H locs ls hf hS hl
      · have hf := ifp hf q15
        exact hj15 x0 x1 x2 x0 m12 H locs ls hf hS hl
  · have hf := sme_r hf
    cases hf
    exact am_thrV (As := [.int x1]) X (hml.trans hl.1.symm) hS (cX11_needFellow_thr (l := l) (E := E) hl0 h1) mv_X11_221 hrc rfl ⟨Nat.le_trans (by decide) hRa, Nat.le_trans (by decide) hRb⟩ (hRc _ rfl) rfl rfl (Nat.le_of_ble_eq_true rfl) dX11_strongest_2 (fun H locs ce q9 hS a1 a2 a3 => hthr _ rfl _ H locs ls _ ce q9 hS a1 a2 a3)
set_option maxRecDepth 100000 in
theorem cX11_strongest_ok {l : Launch} {E : Ev} (hl0 : l.stackTraces = false) {x0 : Nat} {x1 : Int32} {x2 : Int32} {mm : Mem} {r : Int32} {mm1 : Mem} (hf : fX11_strongest (eS E) x0 x1 x2 mm = some (.inl r, mm1)) : CtI l yX11_strongest cX11_strongest 4 (some .int) 8 141 E [.ref x0, .int x1, .int x2] mm r mm1 := by
  refine Met.ofW (cc := cX11_strongest) (maxL := 4) (ret := (some .int)) (by decide) rfl ?_
  intro p e s m args below meth c s₁ B hml hv
  obtain ⟨rfl, X, hS, hr, hlocks⟩ := am_in B hv
  refine am_entry (Nat.le_of_ble_eq_true rfl) (fun ls hl => ?_)
  exact wX11_strongest hl0 X hml ⟨Nat.le_refl _, Nat.le_refl _⟩ hf (fun r e pc H locs ls hn hd hS => by cases e; exact am_ri X hS hr hn hd hlocks) (fun k e => by cases e) (fun k e => by cases e) _ _ ls hS hl
set_option maxRecDepth 100000 in
theorem cX11_strongest_thr {l : Launch} {E : Ev} (hl0 : l.stackTraces = false) {x0 : Nat} {x1 : Int32} {x2 : Int32} {mm : Mem} {k : Nat} {mm1 : Mem} (hf : fX11_strongest (eS E) x0 x1 x2 mm = some (.inr k, mm1)) : CtX l yX11_strongest cX11_strongest 4 (some .int) 8 141 E [.ref x0, .int x1, .int x2] mm k mm1 := by
  refine vx_ofW (cc := cX11_strongest) (maxL := 4) (ret := (some .int)) (by decide) rfl ?_
  intro p e s m args below meth c s₁ B hml hxt hv
  obtain ⟨rfl, X, hS, hr, hlocks⟩ := am_in B hv
  refine am_entry (Nat.le_of_ble_eq_true rfl) (fun ls hl => ?_)
  exact wX11_strongest hl0 X hml ⟨Nat.le_refl _, Nat.le_refl _⟩ hf (fun r e => by cases e) (fun k e => ⟨Nat.le_refl _, Nat.le_refl _⟩) (fun k1 e pc H locs ls rest ce q9 hS a1 a2 a3 => by cases e; exact am_out X hS hxt hlocks a1 a2 a3) _ _ ls hS hl
set_option maxHeartbeats 4000000 in
set_option maxRecDepth 100000 in
theorem wX11_joins {p : Program} {l : Launch} {e : Env} {R : Room} {s : State} {m : MethodId} {args : Array Value} {below : List Frame} {meth : Method} {c : Code} {Q : State → Prop} {E : Ev} (hl0 : l.stackTraces = false) (X : Cx p s m args c cX11_joins RX11 E) (hml : c.maxLocals = 3) (hR : 8 ≤ R.frames ∧ 141 ≤ R.locals) {x0 : Nat} {x1 : Int32} {x2 : Int32} {mm : Mem} {res : Int32 ⊕ Nat} {mm1 : Mem} (hf : fX11_joins (eS E) x0 x1 x2 mm = some (res, mm1)) (hret : ∀ r, res = .inl r → ∀ (pc : Nat) (H : Heap) (locs : List Loc) (ls : Array Slot), narrow .int (.int r) = .int r → decode cX11_joins pc = .ok (.ireturn, 1) → wS E s mm1 H locs → W p l e R s m args below meth c H locs 0 0 Q (F0 m pc ls [.int r])) (hRc : ∀ k, res = .inr k → 1 ≤ R.cells ∧ 6 ≤ R.slots) (hthr : ∀ k, res = .inr k → ∀ (pc : Nat) (H : Heap) (locs : List Loc) (ls : Array Slot) (rest : List Value) (ce : Cell) (q9 : Addr), wS E s mm1 H locs → H[q9]? = some ce → ce.vm = .none → s.vm.findClass (exN k) = some ce.cls → vx_W p l e R s m args below meth c H locs 1 6 Q (F0 m pc ls rest) q9) : ∀ (H : Heap) (locs : List Loc) (ls : Array Slot), wS E s mm H locs → lv_has ls 3 [(0, .ref x0), (1, .int x1), (2, .int x2)] → W p l e R s m args below meth c H locs 0 0 Q (F0 m 0 ls []) := by
  have hx := X.1
  have hb := X.2.1
  have hRa := hR.1
  have hRb := hR.2
  unfold fX11_joins at hf
  intro H locs ls hS hl
  refine lv_aload_n hx hb dX11_joins_0 rfl (lv_at hl 0 rfl) ?_
  refine lv_iload_n hx hb dX11_joins_1 rfl (lv_at hl 1 rfl) ?_
  obtain ⟨u0, h0, hf⟩ := bs hf
  obtain ⟨_, hrc⟩ := isO_n h0
  obtain ⟨u1, m2, h1, hf⟩ := bs2 hf
  rcases u1 with v3 | k1
  · have hf := sme_l hf
    refine am_endv hS (am_runV (As := [.int x1]) X (hml.trans hl.1.symm) hS (cX11_needFellow_ok (l := l) (E := E) hl0 h1) mv_X11_221 hrc rfl ⟨Nat.le_trans (by decide) hRa, Nat.le_trans (by decide) hRb⟩ ⟨Nat.zero_le _, Nat.zero_le _⟩ rfl rfl (Nat.le_of_ble_eq_true rfl) dX11_joins_2) (fun H locs hS => ?_)
    refine lv_aload_n hx hb dX11_joins_5 rfl (lv_at hl 0 rfl) ?_
    refine lv_iload_n hx hb dX11_joins_6 rfl (lv_at hl 2 rfl) ?_
    obtain ⟨u0, h0, hf⟩ := bs hf
    obtain ⟨_, hrc⟩ := isO_n h0
    obtain ⟨u4, m5, h1, hf⟩ := bs2 hf
    rcases u4 with v6 | k1
    · have hf := sme_l hf
      refine am_endv hS (am_runV (As := [.int x2]) X (hml.trans hl.1.symm) hS (cX11_needGlass_ok (l := l) (E := E) hl0 h1) mv_X11_246 hrc rfl ⟨Nat.le_trans (by decide) hRa, Nat.le_trans (by decide) hRb⟩ ⟨Nat.zero_le _, Nat.zero_le _⟩ rfl rfl (Nat.le_of_ble_eq_true rfl) dX11_joins_7) (fun H locs hS => ?_)
      refine lv_aload_n hx hb dX11_joins_10 rfl (lv_at hl 0 rfl) ?_
      obtain ⟨a7, h1, hf⟩ := bs hf
      refine am_gr X hS fl_X11_51 rfl h1 dX11_joins_11 ?_
      refine lv_aload_n hx hb dX11_joins_14 rfl (lv_at hl 0 rfl) ?_
      obtain ⟨a8, h1, hf⟩ := bs hf
      refine am_gr X hS fl_X11_67 rfl h1 dX11_joins_15 ?_
      refine lv_iload_n hx hb dX11_joins_18 rfl (lv_at hl 1 rfl) ?_
      refine lv_iload_n hx hb dX11_joins_19 rfl (lv_at hl 2 rfl) ?_
      obtain ⟨u0, h0, hf⟩ := bs hf
      obtain ⟨_, hrc⟩ := isO_n h0
      obtain ⟨v9, m10, h1, hf⟩ := bs2 hf
      refine am_endi hS (am_runV (As := [.ref a8, .int x1, .int x2]) X (hml.trans hl.1.symm) hS (cX5_joinedBits_ok (l := l) (E := E) h1) mv_X11_354 hrc rfl ⟨Nat.le_trans (by decide) hRa, Nat.le_trans (by decide) hRb⟩ ⟨Nat.zero_le _, Nat.zero_le _⟩ rfl rfl (Nat.le_of_ble_eq_true rfl) dX11_joins_20) (fun H locs hS => ?_)
      cases hf
      exact hret _ rfl _ _ _ _ rfl dX11_joins_23 hS
    · have hf := sme_r hf
      cases hf
      exact am_thrV (As := [.int x2]) X (hml.trans hl.1.symm) hS (cX11_needGlass_thr (l := l) (E := E) hl0 h1) mv_X11_246 hrc rfl ⟨Nat.le_trans (by decide) hRa, Nat.le_trans (by decide) hRb⟩ (hRc _ rfl) rfl rfl (Nat.le_of_ble_eq_true rfl) dX11_joins_7 (fun H locs ce q9 hS a1 a2 a3 => hthr _ rfl _ H locs ls _ ce q9 hS a1 a2 a3)
  · have hf := sme_r hf
    cases hf
    exact am_thrV (As := [.int x1]) X (hml.trans hl.1.symm) hS (cX11_needFellow_thr (l := l) (E := E) hl0 h1) mv_X11_221 hrc rfl ⟨Nat.le_trans (by decide) hRa, Nat.le_trans (by decide) hRb⟩ (hRc _ rfl) rfl rfl (Nat.le_of_ble_eq_true rfl) dX11_joins_2 (fun H locs ce q9 hS a1 a2 a3 => hthr _ rfl _ H locs ls _ ce q9 hS a1 a2 a3)
set_option maxRecDepth 100000 in
theorem cX11_joins_ok {l : Launch} {E : Ev} (hl0 : l.stackTraces = false) {x0 : Nat} {x1 : Int32} {x2 : Int32} {mm : Mem} {r : Int32} {mm1 : Mem} (hf : fX11_joins (eS E) x0 x1 x2 mm = some (.inl r, mm1)) : CtI l yX11_joins cX11_joins 3 (some .int) 8 141 E [.ref x0, .int x1, .int x2] mm r mm1 := by
  refine Met.ofW (cc := cX11_joins) (maxL := 3) (ret := (some .int)) (by decide) rfl ?_
  intro p e s m args below meth c s₁ B hml hv
  obtain ⟨rfl, X, hS, hr, hlocks⟩ := am_in B hv
  refine am_entry (Nat.le_of_ble_eq_true rfl) (fun ls hl => ?_)
  exact wX11_joins hl0 X hml ⟨Nat.le_refl _, Nat.le_refl _⟩ hf (fun r e pc H locs ls hn hd hS => by cases e; exact am_ri X hS hr hn hd hlocks) (fun k e => by cases e) (fun k e => by cases e) _ _ ls hS hl
set_option maxRecDepth 100000 in
theorem cX11_joins_thr {l : Launch} {E : Ev} (hl0 : l.stackTraces = false) {x0 : Nat} {x1 : Int32} {x2 : Int32} {mm : Mem} {k : Nat} {mm1 : Mem} (hf : fX11_joins (eS E) x0 x1 x2 mm = some (.inr k, mm1)) : CtX l yX11_joins cX11_joins 3 (some .int) 8 141 E [.ref x0, .int x1, .int x2] mm k mm1 := by
  refine vx_ofW (cc := cX11_joins) (maxL := 3) (ret := (some .int)) (by decide) rfl ?_
  intro p e s m args below meth c s₁ B hml hxt hv
  obtain ⟨rfl, X, hS, hr, hlocks⟩ := am_in B hv
  refine am_entry (Nat.le_of_ble_eq_true rfl) (fun ls hl => ?_)
  exact wX11_joins hl0 X hml ⟨Nat.le_refl _, Nat.le_refl _⟩ hf (fun r e => by cases e) (fun k e => ⟨Nat.le_refl _, Nat.le_refl _⟩) (fun k1 e pc H locs ls rest ce q9 hS a1 a2 a3 => by cases e; exact am_out X hS hxt hlocks a1 a2 a3) _ _ ls hS hl
set_option maxHeartbeats 4000000 in
set_option maxRecDepth 100000 in
theorem wX11_blurs {p : Program} {l : Launch} {e : Env} {R : Room} {s : State} {m : MethodId} {args : Array Value} {below : List Frame} {meth : Method} {c : Code} {Q : State → Prop} {E : Ev} (hl0 : l.stackTraces = false) (X : Cx p s m args c cX11_blurs RX11 E) (hml : c.maxLocals = 4) (hR : 8 ≤ R.frames ∧ 141 ≤ R.locals) {x0 : Nat} {x1 : Int32} {mm : Mem} {res : Int32 ⊕ Nat} {mm1 : Mem} (hf : fX11_blurs (eS E) x0 x1 mm = some (res, mm1)) (hret : ∀ r, res = .inl r → ∀ (pc : Nat) (H : Heap) (locs : List Loc) (ls : Array Slot), narrow .int (.int r) = .int r → decode cX11_blurs pc = .ok (.ireturn, 1) → wS E s mm1 H locs → W p l e R s m args below meth c H locs 0 0 Q (F0 m pc ls [.int r])) (hRc : ∀ k, res = .inr k → 1 ≤ R.cells ∧ 6 ≤ R.slots) (hthr : ∀ k, res = .inr k → ∀ (pc : Nat) (H : Heap) (locs : List Loc) (ls : Array Slot) (rest : List Value) (ce : Cell) (q9 : Addr), wS E s mm1 H locs → H[q9]? = some ce → ce.vm = .none → s.vm.findClass (exN k) = some ce.cls → vx_W p l e R s m args below meth c H locs 1 6 Q (F0 m pc ls rest) q9) : ∀ (H : Heap) (locs : List Loc) (ls : Array Slot), wS E s mm H locs → lv_has ls 4 [(0, .ref x0), (1, .int x1)] → W p l e R s m args below meth c H locs 0 0 Q (F0 m 0 ls []) := by
  have hx := X.1
  have hb := X.2.1
  have hRa := hR.1
  have hRb := hR.2
  unfold fX11_blurs at hf
  have hj48 : ∀ (x2 : Int32) (mm : Mem) (H : Heap) (locs : List Loc) (ls : Array Slot), fX11_blurs_j48 (eS E) x2 mm = some (res, mm1) → wS E s mm H locs → lv_has ls 4 [(2, .int x2)] → W p l e R s m args below meth c H locs 0 0 Q (F0 m 48 ls []) := by
    intro x2 mm H locs ls hf hS hl
    unfold fX11_blurs_j48 at hf
    refine lv_iload_n hx hb dX11_blurs_48 rfl (lv_at hl 0 rfl) ?_
    cases hf
    exact hret _ rfl _ _ _ _ rfl dX11_blurs_49 hS
  intro H locs ls hS hl
  refine lv_aload_n hx hb dX11_blurs_0 rfl (lv_at hl 0 rfl) ?_
  refine lv_iload_n hx hb dX11_blurs_1 rfl (lv_at hl 1 rfl) ?_
  obtain ⟨u0, h0, hf⟩ := bs hf
  obtain ⟨_, hrc⟩ := isO_n h0
  obtain ⟨u1, m2, h1, hf⟩ := bs2 hf
  rcases u1 with v3 | k1
  · have hf := sme_l hf
    refine am_endv hS (am_runV (As := [.int x1]) X (hml.trans hl.1.symm) hS (cX11_needFellow_ok (l := l) (E := E) hl0 h1) mv_X11_221 hrc rfl ⟨Nat.le_trans (by decide) hRa, Nat.le_trans (by decide) hRb⟩ ⟨Nat.zero_le _, Nat.zero_le _⟩ rfl rfl (Nat.le_of_ble_eq_true rfl) dX11_blurs_2) (fun H locs hS => ?_)
    refine lv_iconst (v := 0) hx hb dX11_blurs_5 (by decide) ?_
    refine lv_topi (fun x2_4 e1 => ?_)
    have hf := lt1_n e1 hf
    refine lv_istore_n (lv' := [(2, .int x2_4), (0, .ref x0), (1, .int x1)]) hx hb dX11_blurs_6 rfl hl (by decide) rfl (fun ls hl => ?_)
    refine lv_iconst (v := 0) hx hb dX11_blurs_7 (by decide) ?_
    refine lv_topi (fun x3_5 e1 => ?_)
    have hf := lt1_n e1 hf
    refine lv_istore_n (lv' := [(3, .int x3_5), (2, .int x2_4), (0, .ref x0), (1, .int x1)]) hx hb dX11_blurs_8 rfl hl (by decide) rfl (fun ls hl => ?_)
    obtain ⟨ex9, hl9, hk9⟩ := bs hf
    refine loop_W (P := fun st => ∀ (H : Heap) (locs : List Loc) (ls : Array Slot), wS E s st.2.2 H locs → lv_has ls 4 [(0, .ref x0), (1, .int x1), (2, .int st.1), (3, .int st.2.1)] → W p l e R s m args below meth c H locs 0 0 Q (F0 m 9 ls [])) (ex := ex9) ?_ FU _ hl9 H locs ls hS (lv_sub hl [2, 3, 1, 0] rfl)
    intro st y9 hf hyL9 hyR9 H locs ls hS hl
    obtain ⟨x2, x3, mm⟩ := st
    have hf : fX11_blurs_b9 (eS E) x0 x1 x2 x3 mm = some y9 := hf
    have hS : wS E s mm H locs := hS
    have hl : lv_has ls 4 [(0, .ref x0), (1, .int x1), (2, .int x2), (3, .int x3)] := hl
    unfold fX11_blurs_b9 at hf
    have hj42 : ∀ (x2 : Int32) (x3 : Int32) (mm : Mem) (H : Heap) (locs : List Loc) (ls : Array Slot), fX11_blurs_j42 (eS E) x0 x1 x2 x3 mm = some y9 → wS E s mm H locs → lv_has ls 4 [(0, .ref x0), (1, .int x1), (2, .int x2), (3, .int x3)] → W p l e R s m args below meth c H locs 0 0 Q (F0 m 42 ls []) := by
      intro x2 x3 mm H locs ls hf hS hl
      unfold fX11_blurs_j42 at hf
      obtain ⟨x3_6, e1⟩ : ∃ z : Int32, z = x3 + 1 := ⟨_, rfl⟩
      have hf := lt1_n e1 hf
      refine lv_iinc (v := x3_6) (lv' := [(3, .int x3_6), (0, .ref x0), (1, .int x1), (2, .int x2)]) hx hb dX11_blurs_42 hl (k := 3) rfl (by rw [e1]; rfl) (by decide) rfl (fun ls hl => ?_)
      refine lv_goto (tgt := 9) hx hb dX11_blurs_45 (by decide) ?_
      exact hyL9 _ (Option.some.inj hf).symm H locs ls hS (lv_sub hl [1, 2, 3, 0] rfl)
    refine lv_iload_n hx hb dX11_blurs_9 rfl (lv_at hl 3 rfl) ?_
    refine lv_aload_n hx hb dX11_blurs_10 rfl (lv_at hl 0 rfl) ?_
    obtain ⟨a7, h1, hf⟩ := bs hf
    refine am_gr X hS fl_X11_19 rfl h1 dX11_blurs_11 ?_
    obtain ⟨v8, h1, hf⟩ := bs hf
    refine am_gi X hS fl_X11_190 rfl h1 dX11_blurs_14 ?_
    refine lv_icmp_ge (tgt := 48) hx hb dX11_blurs_17 (by decide) (fun q9 => ?_) (fun q9 => ?_)
    · have hf := ifp hf q9
      obtain rfl : (x2, mm) = ex9 := hyR9 _ (Option.some.inj hf).symm
      exact hj48 x2 mm H locs ls hk9 hS (lv_sub hl [2] rfl)
    · have hf := ifn hf q9
      refine lv_aload_n hx hb dX11_blurs_20 rfl (lv_at hl 0 rfl) ?_
      obtain ⟨a10, h1, hf⟩ := bs hf
      refine am_gr X hS fl_X11_90 rfl h1 dX11_blurs_21 ?_
      refine lv_aload_n hx hb dX11_blurs_24 rfl (lv_at hl 0 rfl) ?_
      obtain ⟨a11, h1, hf⟩ := bs hf
      refine am_gr X hS fl_X11_67 rfl h1 dX11_blurs_25 ?_
      refine lv_iload_n hx hb dX11_blurs_28 rfl (lv_at hl 1 rfl) ?_
      refine lv_iload_n hx hb dX11_blurs_29 rfl (lv_at hl 3 rfl) ?_
      obtain ⟨u0, h0, hf⟩ := bs hf
      obtain ⟨_, hrc⟩ := isO_n h0
      obtain ⟨v12, m13, h1, hf⟩ := bs2 hf
      refine am_endi hS (am_runV (As := [.ref a11, .int x1, .int x3]) X (hml.trans hl.1.symm) hS (cX6_blursBy_ok (l := l) (E := E) h1) mv_X11_358 hrc rfl ⟨Nat.le_trans (by decide) hRa, Nat.le_trans (by decide) hRb⟩ ⟨Nat.zero_le _, Nat.zero_le _⟩ rfl rfl (Nat.le_of_ble_eq_true rfl) dX11_blurs_30) (fun H locs hS => ?_)
      refine lv_if_eq (tgt := 42) hx hb dX11_blurs_33 (by decide) (fun q14 => ?_) (fun q14 => ?_)
      · have hf := ifp hf q14
        exact hj42 x2 x3 m13 H locs ls hf hS hl
      · have hf := ifn hf q14
        refine lv_iload_n hx hb dX11_blurs_36 rfl (lv_at hl 2 rfl) ?_
        refine lv_iconst (v := 1) hx hb dX11_blurs_37 (by decide) ?_
        refine lv_iload_n hx hb dX11_blurs_38 rfl (lv_at hl 3 rfl) ?_
        refine lv_ishl hx hb dX11_blurs_39 ?_
        refine lv_ior hx hb dX11_blurs_40 ?_
        refine lv_topi (fun x2_15 e1 => ?_)
        have hf := lt1_n e1 hf
        refine lv_istore_n (lv' := [(2, .int x2_15), (0, .ref x0), (1, .int x1), (3, .int x3)]) hx hb dX11_blurs_41 rfl hl (by decide) rfl (fun ls hl => ?_)
        exact hj42 x2_15 x3 m13 H locs ls hf hS (lv_sub hl [1, 2, 0, 3] rfl)
  · have hf := sme_r hf
    cases hf
    exact am_thrV (As := [.int x1]) X (hml.trans hl.1.symm) hS (cX11_needFellow_thr (l := l) (E := E) hl0 h1) mv_X11_221 hrc rfl ⟨Nat.le_trans (by decide) hRa, Nat.le_trans (by decide) hRb⟩ (hRc _ rfl) rfl rfl (Nat.le_of_ble_eq_true rfl) dX11_blurs_2 (fun H locs ce q9 hS a1 a2 a3 => hthr _ rfl _ H locs ls _ ce q9 hS a1 a2 a3)
set_option maxRecDepth 100000 in
theorem cX11_blurs_ok {l : Launch} {E : Ev} (hl0 : l.stackTraces = false) {x0 : Nat} {x1 : Int32} {mm : Mem} {r : Int32} {mm1 : Mem} (hf : fX11_blurs (eS E) x0 x1 mm = some (.inl r, mm1)) : CtI l yX11_blurs cX11_blurs 4 (some .int) 8 141 E [.ref x0, .int x1] mm r mm1 := by
  refine Met.ofW (cc := cX11_blurs) (maxL := 4) (ret := (some .int)) (by decide) rfl ?_
  intro p e s m args below meth c s₁ B hml hv
  obtain ⟨rfl, X, hS, hr, hlocks⟩ := am_in B hv
  refine am_entry (Nat.le_of_ble_eq_true rfl) (fun ls hl => ?_)
  exact wX11_blurs hl0 X hml ⟨Nat.le_refl _, Nat.le_refl _⟩ hf (fun r e pc H locs ls hn hd hS => by cases e; exact am_ri X hS hr hn hd hlocks) (fun k e => by cases e) (fun k e => by cases e) _ _ ls hS hl
set_option maxRecDepth 100000 in
theorem cX11_blurs_thr {l : Launch} {E : Ev} (hl0 : l.stackTraces = false) {x0 : Nat} {x1 : Int32} {mm : Mem} {k : Nat} {mm1 : Mem} (hf : fX11_blurs (eS E) x0 x1 mm = some (.inr k, mm1)) : CtX l yX11_blurs cX11_blurs 4 (some .int) 8 141 E [.ref x0, .int x1] mm k mm1 := by
  refine vx_ofW (cc := cX11_blurs) (maxL := 4) (ret := (some .int)) (by decide) rfl ?_
  intro p e s m args below meth c s₁ B hml hxt hv
  obtain ⟨rfl, X, hS, hr, hlocks⟩ := am_in B hv
  refine am_entry (Nat.le_of_ble_eq_true rfl) (fun ls hl => ?_)
  exact wX11_blurs hl0 X hml ⟨Nat.le_refl _, Nat.le_refl _⟩ hf (fun r e => by cases e) (fun k e => ⟨Nat.le_refl _, Nat.le_refl _⟩) (fun k1 e pc H locs ls rest ce q9 hS a1 a2 a3 => by cases e; exact am_out X hS hxt hlocks a1 a2 a3) _ _ ls hS hl
set_option maxHeartbeats 4000000 in
set_option maxRecDepth 100000 in
theorem wX11_lit {p : Program} {l : Launch} {e : Env} {R : Room} {s : State} {m : MethodId} {args : Array Value} {below : List Frame} {meth : Method} {c : Code} {Q : State → Prop} {E : Ev} (X : Cx p s m args c cX11_lit RX11 E) (hml : c.maxLocals = 3) (hR : 2 ≤ R.frames ∧ 47 ≤ R.locals) {x0 : Nat} {mm : Mem} {r : Int32} (hf : fX11_lit (eS E) x0 mm = some r) (hret : ∀ (pc : Nat) (H : Heap) (locs : List Loc) (ls : Array Slot), narrow .int (.int r) = .int r → decode cX11_lit pc = .ok (.ireturn, 1) → wS E s mm H locs → W p l e R s m args below meth c H locs 0 0 Q (F0 m pc ls [.int r])) : ∀ (H : Heap) (locs : List Loc) (ls : Array Slot), wS E s mm H locs → lv_has ls 3 [(0, .ref x0)] → W p l e R s m args below meth c H locs 0 0 Q (F0 m 0 ls []) := by
  have hx := X.1
  have hb := X.2.1
  have hR1 := hR.1
  have hR2 := hR.2
  have hRa : 2 ≤ R.frames := by omega
  have hRb : 47 ≤ R.locals := by omega
  unfold fX11_lit at hf
  have hj41 : ∀ (x1 : Int32) (H : Heap) (locs : List Loc) (ls : Array Slot), fX11_lit_j41 (eS E) x1 mm = some r → wS E s mm H locs → lv_has ls 3 [(1, .int x1)] → W p l e R s m args below meth c H locs 0 0 Q (F0 m 41 ls []) := by
    intro x1 H locs ls hf hS hl
    unfold fX11_lit_j41 at hf
    refine lv_iload_n hx hb dX11_lit_41 rfl (lv_at hl 0 rfl) ?_
    cases hf
    exact hret _ _ _ _ rfl dX11_lit_42 hS
  intro H locs ls hS hl
  refine lv_iconst (v := 0) hx hb dX11_lit_0 (by decide) ?_
  refine lv_topi (fun x1_1 e1 => ?_)
  have hf := lt1_n e1 hf
  refine lv_istore_n (lv' := [(1, .int x1_1), (0, .ref x0)]) hx hb dX11_lit_1 rfl hl (by decide) rfl (fun ls hl => ?_)
  refine lv_iconst (v := 0) hx hb dX11_lit_2 (by decide) ?_
  refine lv_topi (fun x2_2 e1 => ?_)
  have hf := lt1_n e1 hf
  refine lv_istore_n (lv' := [(2, .int x2_2), (1, .int x1_1), (0, .ref x0)]) hx hb dX11_lit_3 rfl hl (by decide) rfl (fun ls hl => ?_)
  obtain ⟨ex4, hl4, hk4⟩ := bs hf
  refine loop_W (P := fun st => ∀ (H : Heap) (locs : List Loc) (ls : Array Slot), wS E s mm H locs → lv_has ls 3 [(0, .ref x0), (1, .int st.1), (2, .int st.2)] → W p l e R s m args below meth c H locs 0 0 Q (F0 m 4 ls [])) (ex := ex4) ?_ FU _ hl4 H locs ls hS (lv_sub hl [2, 1, 0] rfl)
  intro st y4 hf hyL4 hyR4 H locs ls hS hl
  obtain ⟨x1, x2⟩ := st
  have hf : fX11_lit_b4 (eS E) x0 x1 x2 mm = some y4 := hf
  have hS : wS E s mm H locs := hS
  have hl : lv_has ls 3 [(0, .ref x0), (1, .int x1), (2, .int x2)] := hl
  unfold fX11_lit_b4 at hf
  have hj33 : ∀ (x2 : Int32) (s0 : Int32) (s1 : Int32) (H : Heap) (locs : List Loc) (ls : Array Slot), fX11_lit_j33 (eS E) x0 x2 s0 s1 mm = some y4 → wS E s mm H locs → lv_has ls 3 [(0, .ref x0), (2, .int x2)] → W p l e R s m args below meth c H locs 0 0 Q (F0 m 33 ls [.int s1, .int s0]) := by
    intro x2 s0 s1 H locs ls hf hS hl
    unfold fX11_lit_j33 at hf
    refine lv_iadd hx hb dX11_lit_33 ?_
    refine lv_topi (fun x1_3 e1 => ?_)
    have hf := lt1_n e1 hf
    refine lv_istore_n (lv' := [(1, .int x1_3), (0, .ref x0), (2, .int x2)]) hx hb dX11_lit_34 rfl hl (by decide) rfl (fun ls hl => ?_)
    obtain ⟨x2_4, e1⟩ : ∃ z : Int32, z = x2 + 1 := ⟨_, rfl⟩
    have hf := lt1_n e1 hf
    refine lv_iinc (v := x2_4) (lv' := [(2, .int x2_4), (1, .int x1_3), (0, .ref x0)]) hx hb dX11_lit_35 hl (k := 2) rfl (by rw [e1]; rfl) (by decide) rfl (fun ls hl => ?_)
    refine lv_goto (tgt := 4) hx hb dX11_lit_38 (by decide) ?_
    exact hyL4 _ (Option.some.inj hf).symm H locs ls hS (lv_sub hl [2, 1, 0] rfl)
  refine lv_iload_n hx hb dX11_lit_4 rfl (lv_at hl 2 rfl) ?_
  refine lv_aload_n hx hb dX11_lit_5 rfl (lv_at hl 0 rfl) ?_
  obtain ⟨a5, h1, hf⟩ := bs hf
  refine am_gr X hS fl_X11_19 rfl h1 dX11_lit_6 ?_
  obtain ⟨v6, h1, hf⟩ := bs hf
  refine am_gi X hS fl_X11_171 rfl h1 dX11_lit_9 ?_
  refine lv_icmp_ge (tgt := 41) hx hb dX11_lit_12 (by decide) (fun q7 => ?_) (fun q7 => ?_)
  · have hf := ifp hf q7
    obtain rfl : x1 = ex4 := hyR4 _ (Option.some.inj hf).symm
    exact hj41 x1 H locs ls hk4 hS (lv_sub hl [1] rfl)
  · have hf := ifn hf q7
    refine lv_iload_n hx hb dX11_lit_15 rfl (lv_at hl 1 rfl) ?_
    refine lv_aload_n hx hb dX11_lit_16 rfl (lv_at hl 0 rfl) ?_
    obtain ⟨a8, h1, hf⟩ := bs hf
    refine am_gr X hS fl_X11_67 rfl h1 dX11_lit_17 ?_
    refine lv_iload_n hx hb dX11_lit_20 rfl (lv_at hl 2 rfl) ?_
    refine lv_iconst (v := 0) hx hb dX11_lit_21 (by decide) ?_
    obtain ⟨u0, h0, hf⟩ := bs hf
    obtain ⟨_, hrc⟩ := isO_n h0
    obtain ⟨v9, h1, hf⟩ := bs hf
    refine am_endi hS (am_runV (As := [.int x2, .int 0]) X (hml.trans hl.1.symm) hS (cX2_muchNear_ok (l := l) (E := E) h1) mv_X11_258 hrc rfl ⟨Nat.le_trans (by decide) hRa, Nat.le_trans (by decide) hRb⟩ ⟨Nat.zero_le _, Nat.zero_le _⟩ rfl rfl (Nat.le_of_ble_eq_true rfl) dX11_lit_22) (fun H locs hS => ?_)
    refine lv_if_le (tgt := 32) hx hb dX11_lit_25 (by decide) (fun q10 => ?_) (fun q10 => ?_)
    · have hf := ifp hf q10
      refine lv_iconst (v := 0) hx hb dX11_lit_32 (by decide) ?_
      exact hj33 x2 x1 0 H locs ls hf hS (lv_sub hl [0, 2] rfl)
    · have hf := ifn hf q10
      refine lv_iconst (v := 1) hx hb dX11_lit_28 (by decide) ?_
      refine lv_goto (tgt := 33) hx hb dX11_lit_29 (by decide) ?_
      exact hj33 x2 x1 1 H locs ls hf hS (lv_sub hl [0, 2] rfl)
set_option maxRecDepth 100000 in
theorem cX11_lit_ok {l : Launch} {E : Ev} {x0 : Nat} {mm : Mem} {r : Int32} (hf : fX11_lit (eS E) x0 mm = some r) : CtI l yX11_lit cX11_lit 3 (some .int) (2) (47) E [.ref x0] mm r mm := by
  refine Met.ofW (cc := cX11_lit) (maxL := 3) (ret := (some .int)) (by decide) rfl ?_
  intro p e s m args below meth c s₁ B hml hv
  obtain ⟨rfl, X, hS, hr, hlocks⟩ := am_in B hv
  refine am_entry (Nat.le_of_ble_eq_true rfl) (fun ls hl => ?_)
  exact wX11_lit X hml ⟨Nat.le_refl _, Nat.le_refl _⟩ hf (fun pc H locs ls hn hd hS => am_ri X hS hr hn hd hlocks) _ _ ls hS hl
set_option maxHeartbeats 4000000 in
set_option maxRecDepth 100000 in
theorem wX11_lacks {p : Program} {l : Launch} {e : Env} {R : Room} {s : State} {m : MethodId} {args : Array Value} {below : List Frame} {meth : Method} {c : Code} {Q : State → Prop} {E : Ev} (hl0 : l.stackTraces = false) (X : Cx p s m args c cX11_lacks RX11 E) (hml : c.maxLocals = 4) (hR : 8 ≤ R.frames ∧ 141 ≤ R.locals) {x0 : Nat} {x1 : Int32} {x2 : Int32} {mm : Mem} {res : Int32 ⊕ Nat} {mm1 : Mem} (hf : fX11_lacks (eS E) x0 x1 x2 mm = some (res, mm1)) (hret : ∀ r, res = .inl r → ∀ (pc : Nat) (H : Heap) (locs : List Loc) (ls : Array Slot), narrow .int (.int r) = .int r → decode cX11_lacks pc = .ok (.ireturn, 1) → wS E s mm1 H locs → W p l e R s m args below meth c H locs 0 0 Q (F0 m pc ls [.int r])) (hRc : ∀ k, res = .inr k → 1 ≤ R.cells ∧ 6 ≤ R.slots) (hthr : ∀ k, res = .inr k → ∀ (pc : Nat) (H : Heap) (locs : List Loc) (ls : Array Slot) (rest : List Value) (ce : Cell) (q9 : Addr), wS E s mm1 H locs → H[q9]? = some ce → ce.vm = .none → s.vm.findClass (exN k) = some ce.cls → vx_W p l e R s m args below meth c H locs 1 6 Q (F0 m pc ls rest) q9) : ∀ (H : Heap) (locs : List Loc) (ls : Array Slot), wS E s mm H locs → lv_has ls 4 [(0, .ref x0), (1, .int x1), (2, .int x2)] → W p l e R s m args below meth c H locs 0 0 Q (F0 m 0 ls []) := by
  have hx := X.1
  have hb := X.2.1
  have hRa := hR.1
  have hRb := hR.2
  unfold fX11_lacks at hf
  intro H locs ls hS hl
  refine lv_aload_n hx hb dX11_lacks_0 rfl (lv_at hl 0 rfl) ?_
  refine lv_iload_n hx hb dX11_lacks_1 rfl (lv_at hl 1 rfl) ?_
  obtain ⟨u0, h0, hf⟩ := bs hf
  obtain ⟨_, hrc⟩ := isO_n h0
  obtain ⟨u1, m2, h1, hf⟩ := bs2 hf
  rcases u1 with v3 | k1
  · have hf := sme_l hf
    refine am_endv hS (am_runV (As := [.int x1]) X (hml.trans hl.1.symm) hS (cX11_needFellow_ok (l := l) (E := E) hl0 h1) mv_X11_221 hrc rfl ⟨Nat.le_trans (by decide) hRa, Nat.le_trans (by decide) hRb⟩ ⟨Nat.zero_le _, Nat.zero_le _⟩ rfl rfl (Nat.le_of_ble_eq_true rfl) dX11_lacks_2) (fun H locs hS => ?_)
    refine lv_aload_n hx hb dX11_lacks_5 rfl (lv_at hl 0 rfl) ?_
    refine lv_iload_n hx hb dX11_lacks_6 rfl (lv_at hl 2 rfl) ?_
    obtain ⟨v4, h1, hf⟩ := bs hf
    refine am_endi hS (am_runS (As := [.int x2]) X (hml.trans hl.1.symm) hS (cX11_isPart_ok (l := l) (E := E) h1) ms_X11_240 ⟨Nat.le_trans (by decide) hRa, Nat.le_trans (by decide) hRb⟩ ⟨Nat.zero_le _, Nat.zero_le _⟩ rfl rfl (Nat.le_of_ble_eq_true rfl) dX11_lacks_7) (fun H locs hS => ?_)
    obtain ⟨u0, h0, hf⟩ := bs hf
    obtain ⟨_, hrc⟩ := isO_n h0
    obtain ⟨u5, m6, h1, hf⟩ := bs2 hf
    rcases u5 with v7 | k1
    · have hf := sme_l hf
      refine am_endv hS (am_runV (As := [.int v4]) X (hml.trans hl.1.symm) hS (cX11_need_ok (l := l) (E := E) hl0 h1) mv_X11_186 hrc rfl ⟨Nat.le_trans (by decide) hRa, Nat.le_trans (by decide) hRb⟩ ⟨Nat.zero_le _, Nat.zero_le _⟩ rfl rfl (Nat.le_of_ble_eq_true rfl) dX11_lacks_10) (fun H locs hS => ?_)
      refine lv_iload_n hx hb dX11_lacks_13 rfl (lv_at hl 1 rfl) ?_
      refine lv_bipush (v := 7) hx hb dX11_lacks_14 (by decide) ?_
      refine lv_imul hx hb dX11_lacks_16 ?_
      refine lv_topi (fun x3_8 e1 => ?_)
      have hf := lt1_n e1 hf
      refine lv_istore_n (lv' := [(3, .int x3_8), (0, .ref x0), (1, .int x1), (2, .int x2)]) hx hb dX11_lacks_17 rfl hl (by decide) rfl (fun ls hl => ?_)
      refine lv_aload_n hx hb dX11_lacks_18 rfl (lv_at hl 1 rfl) ?_
      obtain ⟨a9, h1, hf⟩ := bs hf
      refine am_gr X hS fl_X11_67 rfl h1 dX11_lacks_19 ?_
      obtain ⟨a10, h1, hf⟩ := bs hf
      refine am_gr X hS fl_X11_204 rfl h1 dX11_lacks_22 ?_
      refine lv_iload_n hx hb dX11_lacks_25 rfl (lv_at hl 0 rfl) ?_
      refine lv_aload_n hx hb dX11_lacks_26 rfl (lv_at hl 1 rfl) ?_
      obtain ⟨a11, h1, hf⟩ := bs hf
      refine am_gr X hS fl_X11_67 rfl h1 dX11_lacks_27 ?_
      refine lv_iload_n hx hb dX11_lacks_30 rfl (lv_at hl 2 rfl) ?_
      obtain ⟨u0, h0, hf⟩ := bs hf
      obtain ⟨_, hrc⟩ := isO_n h0
      obtain ⟨v12, h1, hf⟩ := bs hf
      refine am_endi hS (am_runV (As := [.int x1]) X (hml.trans hl.1.symm) hS (cX2_mostPart_ok (l := l) (E := E) h1) mv_X11_351 hrc rfl ⟨Nat.le_trans (by decide) hRa, Nat.le_trans (by decide) hRb⟩ ⟨Nat.zero_le _, Nat.zero_le _⟩ rfl rfl (Nat.le_of_ble_eq_true rfl) dX11_lacks_31) (fun H locs hS => ?_)
      refine lv_iadd hx hb dX11_lacks_34 ?_
      obtain ⟨v13, h1, hf⟩ := bs hf
      refine am_ald X hS h1 dX11_lacks_35 ?_
      refine lv_aload_n hx hb dX11_lacks_36 rfl (lv_at hl 1 rfl) ?_
      obtain ⟨a14, h1, hf⟩ := bs hf
      refine am_gr X hS fl_X11_67 rfl h1 dX11_lacks_37 ?_
      obtain ⟨a15, h1, hf⟩ := bs hf
      refine am_gr X hS fl_X11_204 rfl h1 dX11_lacks_40 ?_
      refine lv_iload_n hx hb dX11_lacks_43 rfl (lv_at hl 0 rfl) ?_
      refine lv_iload_n hx hb dX11_lacks_44 rfl (lv_at hl 3 rfl) ?_
      refine lv_iadd hx hb dX11_lacks_45 ?_
      obtain ⟨v16, h1, hf⟩ := bs hf
      refine am_ald X hS h1 dX11_lacks_46 ?_
      refine lv_isub hx hb dX11_lacks_47 ?_
      cases hf
      exact hret _ rfl _ _ _ _ rfl dX11_lacks_48 hS
    · have hf := sme_r hf
      cases hf
      exact am_thrV (As := [.int v4]) X (hml.trans hl.1.symm) hS (cX11_need_thr (l := l) (E := E) hl0 h1) mv_X11_186 hrc rfl ⟨Nat.le_trans (by decide) hRa, Nat.le_trans (by decide) hRb⟩ (hRc _ rfl) rfl rfl (Nat.le_of_ble_eq_true rfl) dX11_lacks_10 (fun H locs ce q9 hS a1 a2 a3 => hthr _ rfl _ H locs ls _ ce q9 hS a1 a2 a3)
  · have hf := sme_r hf
    cases hf
    exact am_thrV (As := [.int x1]) X (hml.trans hl.1.symm) hS (cX11_needFellow_thr (l := l) (E := E) hl0 h1) mv_X11_221 hrc rfl ⟨Nat.le_trans (by decide) hRa, Nat.le_trans (by decide) hRb⟩ (hRc _ rfl) rfl rfl (Nat.le_of_ble_eq_true rfl) dX11_lacks_2 (fun H locs ce q9 hS a1 a2 a3 => hthr _ rfl _ H locs ls _ ce q9 hS a1 a2 a3)
set_option maxRecDepth 100000 in
theorem cX11_lacks_ok {l : Launch} {E : Ev} (hl0 : l.stackTraces = false) {x0 : Nat} {x1 : Int32} {x2 : Int32} {mm : Mem} {r : Int32} {mm1 : Mem} (hf : fX11_lacks (eS E) x0 x1 x2 mm = some (.inl r, mm1)) : CtI l yX11_lacks cX11_lacks 4 (some .int) 8 141 E [.ref x0, .int x1, .int x2] mm r mm1 := by
  refine Met.ofW (cc := cX11_lacks) (maxL := 4) (ret := (some .int)) (by decide) rfl ?_
  intro p e s m args below meth c s₁ B hml hv
  obtain ⟨rfl, X, hS, hr, hlocks⟩ := am_in B hv
  refine am_entry (Nat.le_of_ble_eq_true rfl) (fun ls hl => ?_)
  exact wX11_lacks hl0 X hml ⟨Nat.le_refl _, Nat.le_refl _⟩ hf (fun r e pc H locs ls hn hd hS => by cases e; exact am_ri X hS hr hn hd hlocks) (fun k e => by cases e) (fun k e => by cases e) _ _ ls hS hl
set_option maxRecDepth 100000 in
theorem cX11_lacks_thr {l : Launch} {E : Ev} (hl0 : l.stackTraces = false) {x0 : Nat} {x1 : Int32} {x2 : Int32} {mm : Mem} {k : Nat} {mm1 : Mem} (hf : fX11_lacks (eS E) x0 x1 x2 mm = some (.inr k, mm1)) : CtX l yX11_lacks cX11_lacks 4 (some .int) 8 141 E [.ref x0, .int x1, .int x2] mm k mm1 := by
  refine vx_ofW (cc := cX11_lacks) (maxL := 4) (ret := (some .int)) (by decide) rfl ?_
  intro p e s m args below meth c s₁ B hml hxt hv
  obtain ⟨rfl, X, hS, hr, hlocks⟩ := am_in B hv
  refine am_entry (Nat.le_of_ble_eq_true rfl) (fun ls hl => ?_)
  exact wX11_lacks hl0 X hml ⟨Nat.le_refl _, Nat.le_refl _⟩ hf (fun r e => by cases e) (fun k e => ⟨Nat.le_refl _, Nat.le_refl _⟩) (fun k1 e pc H locs ls rest ce q9 hS a1 a2 a3 => by cases e; exact am_out X hS hxt hlocks a1 a2 a3) _ _ ls hS hl
set_option maxHeartbeats 4000000 in
set_option maxRecDepth 100000 in
theorem wX11_mates {p : Program} {l : Launch} {e : Env} {R : Room} {s : State} {m : MethodId} {args : Array Value} {below : List Frame} {meth : Method} {c : Code} {Q : State → Prop} {E : Ev} (hl0 : l.stackTraces = false) (X : Cx p s m args c cX11_mates RX11 E) (hml : c.maxLocals = 4) (hR : 8 ≤ R.frames ∧ 141 ≤ R.locals) {x0 : Nat} {x1 : Int32} {mm : Mem} {res : Int32 ⊕ Nat} {mm1 : Mem} (hf : fX11_mates (eS E) x0 x1 mm = some (res, mm1)) (hret : ∀ r, res = .inl r → ∀ (pc : Nat) (H : Heap) (locs : List Loc) (ls : Array Slot), narrow .int (.int r) = .int r → decode cX11_mates pc = .ok (.ireturn, 1) → wS E s mm1 H locs → W p l e R s m args below meth c H locs 0 0 Q (F0 m pc ls [.int r])) (hRc : ∀ k, res = .inr k → 1 ≤ R.cells ∧ 6 ≤ R.slots) (hthr : ∀ k, res = .inr k → ∀ (pc : Nat) (H : Heap) (locs : List Loc) (ls : Array Slot) (rest : List Value) (ce : Cell) (q9 : Addr), wS E s mm1 H locs → H[q9]? = some ce → ce.vm = .none → s.vm.findClass (exN k) = some ce.cls → vx_W p l e R s m args below meth c H locs 1 6 Q (F0 m pc ls rest) q9) : ∀ (H : Heap) (locs : List Loc) (ls : Array Slot), wS E s mm H locs → lv_has ls 4 [(0, .ref x0), (1, .int x1)] → W p l e R s m args below meth c H locs 0 0 Q (F0 m 0 ls []) := by
  have hx := X.1
  have hb := X.2.1
  have hRa := hR.1
  have hRb := hR.2
  unfold fX11_mates at hf
  have hj54 : ∀ (x2 : Int32) (mm : Mem) (H : Heap) (locs : List Loc) (ls : Array Slot), fX11_mates_j54 (eS E) x2 mm = some (res, mm1) → wS E s mm H locs → lv_has ls 4 [(2, .int x2)] → W p l e R s m args below meth c H locs 0 0 Q (F0 m 54 ls []) := by
    intro x2 mm H locs ls hf hS hl
    unfold fX11_mates_j54 at hf
    refine lv_iload_n hx hb dX11_mates_54 rfl (lv_at hl 0 rfl) ?_
    cases hf
    exact hret _ rfl _ _ _ _ rfl dX11_mates_55 hS
  intro H locs ls hS hl
  refine lv_aload_n hx hb dX11_mates_0 rfl (lv_at hl 0 rfl) ?_
  refine lv_iload_n hx hb dX11_mates_1 rfl (lv_at hl 1 rfl) ?_
  obtain ⟨u0, h0, hf⟩ := bs hf
  obtain ⟨_, hrc⟩ := isO_n h0
  obtain ⟨u1, m2, h1, hf⟩ := bs2 hf
  rcases u1 with v3 | k1
  · have hf := sme_l hf
    refine am_endv hS (am_runV (As := [.int x1]) X (hml.trans hl.1.symm) hS (cX11_needFellow_ok (l := l) (E := E) hl0 h1) mv_X11_221 hrc rfl ⟨Nat.le_trans (by decide) hRa, Nat.le_trans (by decide) hRb⟩ ⟨Nat.zero_le _, Nat.zero_le _⟩ rfl rfl (Nat.le_of_ble_eq_true rfl) dX11_mates_2) (fun H locs hS => ?_)
    refine lv_iconst (v := 0) hx hb dX11_mates_5 (by decide) ?_
    refine lv_topi (fun x2_4 e1 => ?_)
    have hf := lt1_n e1 hf
    refine lv_istore_n (lv' := [(2, .int x2_4), (0, .ref x0), (1, .int x1)]) hx hb dX11_mates_6 rfl hl (by decide) rfl (fun ls hl => ?_)
    refine lv_iconst (v := 0) hx hb dX11_mates_7 (by decide) ?_
    refine lv_topi (fun x3_5 e1 => ?_)
    have hf := lt1_n e1 hf
    refine lv_istore_n (lv' := [(3, .int x3_5), (2, .int x2_4), (0, .ref x0), (1, .int x1)]) hx hb dX11_mates_8 rfl hl (by decide) rfl (fun ls hl => ?_)
    obtain ⟨ex9, hl9, hk9⟩ := bs hf
    refine loop_W (P := fun st => ∀ (H : Heap) (locs : List Loc) (ls : Array Slot), wS E s m2 H locs → lv_has ls 4 [(0, .ref x0), (1, .int x1), (2, .int st.1), (3, .int st.2)] → W p l e R s m args below meth c H locs 0 0 Q (F0 m 9 ls [])) (ex := ex9) ?_ FU _ hl9 H locs ls hS (lv_sub hl [2, 3, 1, 0] rfl)
    intro st y9 hf hyL9 hyR9 H locs ls hS hl
    obtain ⟨x2, x3⟩ := st
    obtain ⟨mm, rfl⟩ : ∃ z, z = m2 := ⟨_, rfl⟩
    have hf : fX11_mates_b9 (eS E) x0 x1 x2 x3 mm = some y9 := hf
    have hS : wS E s mm H locs := hS
    have hl : lv_has ls 4 [(0, .ref x0), (1, .int x1), (2, .int x2), (3, .int x3)] := hl
    unfold fX11_mates_b9 at hf
    have hj48 : ∀ (x2 : Int32) (x3 : Int32) (H : Heap) (locs : List Loc) (ls : Array Slot), fX11_mates_j48 (eS E) x0 x1 x2 x3 mm = some y9 → wS E s mm H locs → lv_has ls 4 [(0, .ref x0), (1, .int x1), (2, .int x2), (3, .int x3)] → W p l e R s m args below meth c H locs 0 0 Q (F0 m 48 ls []) := by
      intro x2 x3 H locs ls hf hS hl
      unfold fX11_mates_j48 at hf
      obtain ⟨x3_6, e1⟩ : ∃ z : Int32, z = x3 + 1 := ⟨_, rfl⟩
      have hf := lt1_n e1 hf
      refine lv_iinc (v := x3_6) (lv' := [(3, .int x3_6), (0, .ref x0), (1, .int x1), (2, .int x2)]) hx hb dX11_mates_48 hl (k := 3) rfl (by rw [e1]; rfl) (by decide) rfl (fun ls hl => ?_)
      refine lv_goto (tgt := 9) hx hb dX11_mates_51 (by decide) ?_
      exact hyL9 _ (Option.some.inj hf).symm H locs ls hS (lv_sub hl [1, 2, 3, 0] rfl)
    refine lv_iload_n hx hb dX11_mates_9 rfl (lv_at hl 3 rfl) ?_
    refine lv_aload_n hx hb dX11_mates_10 rfl (lv_at hl 0 rfl) ?_
    obtain ⟨a7, h1, hf⟩ := bs hf
    refine am_gr X hS fl_X11_19 rfl h1 dX11_mates_11 ?_
    obtain ⟨v8, h1, hf⟩ := bs hf
    refine am_gi X hS fl_X11_144 rfl h1 dX11_mates_14 ?_
    refine lv_icmp_ge (tgt := 54) hx hb dX11_mates_17 (by decide) (fun q9 => ?_) (fun q9 => ?_)
    · have hf := ifp hf q9
      obtain rfl : x2 = ex9 := hyR9 _ (Option.some.inj hf).symm
      exact hj54 x2 mm H locs ls hk9 hS (lv_sub hl [2] rfl)
    · have hf := ifn hf q9
      refine lv_iload_n hx hb dX11_mates_20 rfl (lv_at hl 3 rfl) ?_
      refine lv_iload_n hx hb dX11_mates_21 rfl (lv_at hl 1 rfl) ?_
      refine lv_icmp_eq (tgt := 48) hx hb dX11_mates_22 (by decide) (fun q10 => ?_) (fun q10 => ?_)
      · have hf := ifp hf q10
        exact hj48 x2 x3 H locs ls hf hS hl
      · have hf := ifn hf q10
        refine lv_aload_n hx hb dX11_mates_25 rfl (lv_at hl 0 rfl) ?_
        obtain ⟨a11, h1, hf⟩ := bs hf
        refine am_gr X hS fl_X11_67 rfl h1 dX11_mates_26 ?_
        refine lv_iconst (v := 1) hx hb dX11_mates_29 (by decide) ?_
        refine lv_iload_n hx hb dX11_mates_30 rfl (lv_at hl 1 rfl) ?_
        refine lv_ishl hx hb dX11_mates_31 ?_
        refine lv_iconst (v := 1) hx hb dX11_mates_32 (by decide) ?_
        refine lv_iload_n hx hb dX11_mates_33 rfl (lv_at hl 3 rfl) ?_
        refine lv_ishl hx hb dX11_mates_34 ?_
        refine lv_ior hx hb dX11_mates_35 ?_
        obtain ⟨u0, h0, hf⟩ := bs hf
        obtain ⟨_, hrc⟩ := isO_n h0
        obtain ⟨v12, h1, hf⟩ := bs hf
        refine am_endi hS (am_runV (As := [.int ((1 <<< (x1 &&& 31)) ||| (1 <<< (x3 &&& 31)))]) X (hml.trans hl.1.symm) hS (cX2_isWhite_ok (l := l) (E := E) h1) mv_X11_230 hrc rfl ⟨Nat.le_trans (by decide) hRa, Nat.le_trans (by decide) hRb⟩ ⟨Nat.zero_le _, Nat.zero_le _⟩ rfl rfl (Nat.le_of_ble_eq_true rfl) dX11_mates_36) (fun H locs hS => ?_)
        refine lv_if_eq (tgt := 48) hx hb dX11_mates_39 (by decide) (fun q13 => ?_) (fun q13 => ?_)
        · have hf := ifp hf q13
          exact hj48 x2 x3 H locs ls hf hS hl
        · have hf := ifn hf q13
          refine lv_iload_n hx hb dX11_mates_42 rfl (lv_at hl 2 rfl) ?_
          refine lv_iconst (v := 1) hx hb dX11_mates_43 (by decide) ?_
          refine lv_iload_n hx hb dX11_mates_44 rfl (lv_at hl 3 rfl) ?_
          refine lv_ishl hx hb dX11_mates_45 ?_
          refine lv_ior hx hb dX11_mates_46 ?_
          refine lv_topi (fun x2_14 e1 => ?_)
          have hf := lt1_n e1 hf
          refine lv_istore_n (lv' := [(2, .int x2_14), (0, .ref x0), (1, .int x1), (3, .int x3)]) hx hb dX11_mates_47 rfl hl (by decide) rfl (fun ls hl => ?_)
          exact hj48 x2_14 x3 H locs ls hf hS (lv_sub hl [1, 2, 0, 3] rfl)
  · have hf := sme_r hf
    cases hf
    exact am_thrV (As := [.int x1]) X (hml.trans hl.1.symm) hS (cX11_needFellow_thr (l := l) (E := E) hl0 h1) mv_X11_221 hrc rfl ⟨Nat.le_trans (by decide) hRa, Nat.le_trans (by decide) hRb⟩ (hRc _ rfl) rfl rfl (Nat.le_of_ble_eq_true rfl) dX11_mates_2 (fun H locs ce q9 hS a1 a2 a3 => hthr _ rfl _ H locs ls _ ce q9 hS a1 a2 a3)
set_option maxRecDepth 100000 in
theorem cX11_mates_ok {l : Launch} {E : Ev} (hl0 : l.stackTraces = false) {x0 : Nat} {x1 : Int32} {mm : Mem} {r : Int32} {mm1 : Mem} (hf : fX11_mates (eS E) x0 x1 mm = some (.inl r, mm1)) : CtI l yX11_mates cX11_mates 4 (some .int) 8 141 E [.ref x0, .int x1] mm r mm1 := by
  refine Met.ofW (cc := cX11_mates) (maxL := 4) (ret := (some .int)) (by decide) rfl ?_
  intro p e s m args below meth c s₁ B hml hv
  obtain ⟨rfl, X, hS, hr, hlocks⟩ := am_in B hv
  refine am_entry (Nat.le_of_ble_eq_true rfl) (fun ls hl => ?_)
  exact wX11_mates hl0 X hml ⟨Nat.le_refl _, Nat.le_refl _⟩ hf (fun r e pc H locs ls hn hd hS => by cases e; exact am_ri X hS hr hn hd hlocks) (fun k e => by cases e) (fun k e => by cases e) _ _ ls hS hl
set_option maxRecDepth 100000 in
theorem cX11_mates_thr {l : Launch} {E : Ev} (hl0 : l.stackTraces = false) {x0 : Nat} {x1 : Int32} {mm : Mem} {k : Nat} {mm1 : Mem} (hf : fX11_mates (eS E) x0 x1 mm = some (.inr k, mm1)) : CtX l yX11_mates cX11_mates 4 (some .int) 8 141 E [.ref x0, .int x1] mm k mm1 := by
  refine vx_ofW (cc := cX11_mates) (maxL := 4) (ret := (some .int)) (by decide) rfl ?_
  intro p e s m args below meth c s₁ B hml hxt hv
  obtain ⟨rfl, X, hS, hr, hlocks⟩ := am_in B hv
  refine am_entry (Nat.le_of_ble_eq_true rfl) (fun ls hl => ?_)
  exact wX11_mates hl0 X hml ⟨Nat.le_refl _, Nat.le_refl _⟩ hf (fun r e => by cases e) (fun k e => ⟨Nat.le_refl _, Nat.le_refl _⟩) (fun k1 e pc H locs ls rest ce q9 hS a1 a2 a3 => by cases e; exact am_out X hS hxt hlocks a1 a2 a3) _ _ ls hS hl
set_option maxHeartbeats 4000000 in
set_option maxRecDepth 100000 in
theorem wX11_first {p : Program} {l : Launch} {e : Env} {R : Room} {s : State} {m : MethodId} {args : Array Value} {below : List Frame} {meth : Method} {c : Code} {Q : State → Prop} {E : Ev} (hl0 : l.stackTraces = false) (X : Cx p s m args c cX11_first RX11 E) (hml : c.maxLocals = 5) (hR : 8 ≤ R.frames ∧ 141 ≤ R.locals) {x0 : Nat} {x1 : Int32} {mm : Mem} {res : Int32 ⊕ Nat} {mm1 : Mem} (hf : fX11_first (eS E) x0 x1 mm = some (res, mm1)) (hret : ∀ r, res = .inl r → ∀ (pc : Nat) (H : Heap) (locs : List Loc) (ls : Array Slot), narrow .int (.int r) = .int r → decode cX11_first pc = .ok (.ireturn, 1) → wS E s mm1 H locs → W p l e R s m args below meth c H locs 0 0 Q (F0 m pc ls [.int r])) (hRc : ∀ k, res = .inr k → 1 ≤ R.cells ∧ 6 ≤ R.slots) (hthr : ∀ k, res = .inr k → ∀ (pc : Nat) (H : Heap) (locs : List Loc) (ls : Array Slot) (rest : List Value) (ce : Cell) (q9 : Addr), wS E s mm1 H locs → H[q9]? = some ce → ce.vm = .none → s.vm.findClass (exN k) = some ce.cls → vx_W p l e R s m args below meth c H locs 1 6 Q (F0 m pc ls rest) q9) : ∀ (H : Heap) (locs : List Loc) (ls : Array Slot), wS E s mm H locs → lv_has ls 5 [(0, .ref x0), (1, .int x1)] → W p l e R s m args below meth c H locs 0 0 Q (F0 m 0 ls []) := by
  have hx := X.1
  have hb := X.2.1
  have hRa := hR.1
  have hRb := hR.2
  unfold fX11_first at hf
  have hj65 : ∀ (mm : Mem) (H : Heap) (locs : List Loc) (ls : Array Slot), fX11_first_j65 (eS E) mm = some (res, mm1) → wS E s mm H locs → lv_has ls 5 [] → W p l e R s m args below meth c H locs 0 0 Q (F0 m 65 ls []) := by
    intro mm H locs ls hf hS hl
    unfold fX11_first_j65 at hf
    refine lv_iconst (v := (-1)) hx hb dX11_first_65 (by decide) ?_
    cases hf
    exact hret _ rfl _ _ _ _ rfl dX11_first_66 hS
  have hj57 : ∀ (x3 : Int32) (mm : Mem) (H : Heap) (locs : List Loc) (ls : Array Slot), fX11_first_j57 (eS E) x3 mm = some (res, mm1) → wS E s mm H locs → lv_has ls 5 [(3, .int x3)] → W p l e R s m args below meth c H locs 0 0 Q (F0 m 57 ls []) := by
    intro x3 mm H locs ls hf hS hl
    unfold fX11_first_j57 at hf
    refine lv_iload_n hx hb dX11_first_57 rfl (lv_at hl 0 rfl) ?_
    cases hf
    exact hret _ rfl _ _ _ _ rfl dX11_first_58 hS
  intro H locs ls hS hl
  refine lv_aload_n hx hb dX11_first_0 rfl (lv_at hl 0 rfl) ?_
  refine lv_iload_n hx hb dX11_first_1 rfl (lv_at hl 1 rfl) ?_
  obtain ⟨u0, h0, hf⟩ := bs hf
  obtain ⟨_, hrc⟩ := isO_n h0
  obtain ⟨u1, m2, h1, hf⟩ := bs2 hf
  rcases u1 with v3 | k1
  · have hf := sme_l hf
    refine am_endv hS (am_runV (As := [.int x1]) X (hml.trans hl.1.symm) hS (cX11_needFellow_ok (l := l) (E := E) hl0 h1) mv_X11_221 hrc rfl ⟨Nat.le_trans (by decide) hRa, Nat.le_trans (by decide) hRb⟩ ⟨Nat.zero_le _, Nat.zero_le _⟩ rfl rfl (Nat.le_of_ble_eq_true rfl) dX11_first_2) (fun H locs hS => ?_)
    refine lv_aload_n hx hb dX11_first_5 rfl (lv_at hl 0 rfl) ?_
    obtain ⟨a4, h1, hf⟩ := bs hf
    refine am_gr X hS fl_X11_67 rfl h1 dX11_first_6 ?_
    refine lv_iload_n hx hb dX11_first_9 rfl (lv_at hl 1 rfl) ?_
    obtain ⟨u0, h0, hf⟩ := bs hf
    obtain ⟨_, hrc⟩ := isO_n h0
    obtain ⟨v5, h1, hf⟩ := bs hf
    refine am_endi hS (am_runV (As := [.int x1]) X (hml.trans hl.1.symm) hS (cX2_leastPlace_ok (l := l) (E := E) h1) mv_X11_234 hrc rfl ⟨Nat.le_trans (by decide) hRa, Nat.le_trans (by decide) hRb⟩ ⟨Nat.zero_le _, Nat.zero_le _⟩ rfl rfl (Nat.le_of_ble_eq_true rfl) dX11_first_10) (fun H locs hS => ?_)
    refine lv_topi (fun x2_6 e1 => ?_)
    have hf := lt1_n e1 hf
    refine lv_istore_n (lv' := [(2, .int x2_6), (0, .ref x0), (1, .int x1)]) hx hb dX11_first_13 rfl hl (by decide) rfl (fun ls hl => ?_)
    refine lv_iconst (v := 0) hx hb dX11_first_14 (by decide) ?_
    refine lv_topi (fun x3_7 e1 => ?_)
    have hf := lt1_n e1 hf
    refine lv_istore_n (lv' := [(3, .int x3_7), (2, .int x2_6), (0, .ref x0), (1, .int x1)]) hx hb dX11_first_15 rfl hl (by decide) rfl (fun ls hl => ?_)
    obtain ⟨ex16, hl16, hk16⟩ := bs hf
    refine loop_W (P := fun st => ∀ (H : Heap) (locs : List Loc) (ls : Array Slot), wS E s m2 H locs → lv_has ls 5 [(0, .ref x0), (1, .int x1), (2, .int x2_6), (3, .int st)] → W p l e R s m args below meth c H locs 0 0 Q (F0 m 16 ls [])) (ex := ex16) ?_ FU _ hl16 H locs ls hS (lv_sub hl [2, 3, 1, 0] rfl)
    intro st y16 hf hyL16 hyR16 H locs ls hS hl
    obtain ⟨x3, rfl⟩ : ∃ z, z = st := ⟨_, rfl⟩
    obtain ⟨x2, rfl⟩ : ∃ z, z = x2_6 := ⟨_, rfl⟩
    obtain ⟨mm, rfl⟩ : ∃ z, z = m2 := ⟨_, rfl⟩
    have hf : fX11_first_b16 (eS E) x0 x1 x2 x3 mm = some y16 := hf
    have hS : wS E s mm H locs := hS
    have hl : lv_has ls 5 [(0, .ref x0), (1, .int x1), (2, .int x2), (3, .int x3)] := hl
    unfold fX11_first_b16 at hf
    have hj59 : ∀ (x3 : Int32) (H : Heap) (locs : List Loc) (ls : Array Slot), fX11_first_j59 (eS E) x0 x1 x2 x3 mm = some y16 → wS E s mm H locs → lv_has ls 5 [(0, .ref x0), (1, .int x1), (2, .int x2), (3, .int x3)] → W p l e R s m args below meth c H locs 0 0 Q (F0 m 59 ls []) := by
      intro x3 H locs ls hf hS hl
      unfold fX11_first_j59 at hf
      obtain ⟨x3_8, e1⟩ : ∃ z : Int32, z = x3 + 1 := ⟨_, rfl⟩
      have hf := lt1_n e1 hf
      refine lv_iinc (v := x3_8) (lv' := [(3, .int x3_8), (0, .ref x0), (1, .int x1), (2, .int x2)]) hx hb dX11_first_59 hl (k := 3) rfl (by rw [e1]; rfl) (by decide) rfl (fun ls hl => ?_)
      refine lv_goto (tgt := 16) hx hb dX11_first_62 (by decide) ?_
      exact hyL16 _ (Option.some.inj hf).symm H locs ls hS (lv_sub hl [1, 2, 3, 0] rfl)
    refine lv_iload_n hx hb dX11_first_16 rfl (lv_at hl 3 rfl) ?_
    refine lv_bipush (v := 7) hx hb dX11_first_17 (by decide) ?_
    refine lv_icmp_ge (tgt := 65) hx hb dX11_first_19 (by decide) (fun q9 => ?_) (fun q9 => ?_)
    · have hf := ifp hf q9
      obtain rfl : Sum.inr (()) = ex16 := hyR16 _ (Option.some.inj hf).symm
      exact hj65 mm H locs ls hk16 hS (lv_sub hl [] rfl)
    · have hf := ifn hf q9
      refine lv_iload_n hx hb dX11_first_22 rfl (lv_at hl 1 rfl) ?_
      refine lv_bipush (v := 7) hx hb dX11_first_23 (by decide) ?_
      refine lv_imul hx hb dX11_first_25 ?_
      refine lv_iload_n hx hb dX11_first_26 rfl (lv_at hl 3 rfl) ?_
      refine lv_iadd hx hb dX11_first_27 ?_
      refine lv_topi (fun x4_10 e1 => ?_)
      have hf := lt1_n e1 hf
      refine lv_istore (lv' := [(4, .int x4_10), (0, .ref x0), (1, .int x1), (2, .int x2), (3, .int x3)]) hx hb dX11_first_28 hl (by decide) rfl (fun ls hl => ?_)
      refine lv_aload_n hx hb dX11_first_30 rfl (lv_at hl 1 rfl) ?_
      obtain ⟨a11, h1, hf⟩ := bs hf
      refine am_gr X hS fl_X11_67 rfl h1 dX11_first_31 ?_
      obtain ⟨a12, h1, hf⟩ := bs hf
      refine am_gr X hS fl_X11_212 rfl h1 dX11_first_34 ?_
      refine lv_iload hx hb dX11_first_37 (lv_at hl 0 rfl) ?_
      obtain ⟨v13, h1, hf⟩ := bs hf
      refine am_ald X hS h1 dX11_first_39 ?_
      refine lv_if_le (tgt := 59) hx hb dX11_first_40 (by decide) (fun q14 => ?_) (fun q14 => ?_)
      · have hf := ifp hf q14
        exact hj59 x3 H locs ls hf hS (lv_sub hl [1, 2, 3, 4] rfl)
      · have hf := ifn hf q14
        refine lv_aload_n hx hb dX11_first_43 rfl (lv_at hl 1 rfl) ?_
        obtain ⟨a15, h1, hf⟩ := bs hf
        refine am_gr X hS fl_X11_67 rfl h1 dX11_first_44 ?_
        obtain ⟨a16, h1, hf⟩ := bs hf
        refine am_gr X hS fl_X11_243 rfl h1 dX11_first_47 ?_
        refine lv_iload hx hb dX11_first_50 (lv_at hl 0 rfl) ?_
        obtain ⟨v17, h1, hf⟩ := bs hf
        refine am_ald X hS h1 dX11_first_52 ?_
        refine lv_iload_n hx hb dX11_first_53 rfl (lv_at hl 3 rfl) ?_
        refine lv_icmp_ne (tgt := 59) hx hb dX11_first_54 (by decide) (fun q18 => ?_) (fun q18 => ?_)
        · have hf := ifn hf q18
          exact hj59 x3 H locs ls hf hS (lv_sub hl [1, 2, 3, 4] rfl)
        · have hf := ifp hf q18
          obtain rfl : Sum.inl x3 = ex16 := hyR16 _ (Option.some.inj hf).symm
          exact hj57 x3 mm H locs ls hk16 hS (lv_sub hl [4] rfl)
  · have hf := sme_r hf
    cases hf
    exact am_thrV (As := [.int x1]) X (hml.trans hl.1.symm) hS (cX11_needFellow_thr (l := l) (E := E) hl0 h1) mv_X11_221 hrc rfl ⟨Nat.le_trans (by decide) hRa, Nat.le_trans (by decide) hRb⟩ (hRc _ rfl) rfl rfl (Nat.le_of_ble_eq_true rfl) dX11_first_2 (fun H locs ce q9 hS a1 a2 a3 => hthr _ rfl _ H locs ls _ ce q9 hS a1 a2 a3)
set_option maxRecDepth 100000 in
theorem cX11_first_ok {l : Launch} {E : Ev} (hl0 : l.stackTraces = false) {x0 : Nat} {x1 : Int32} {mm : Mem} {r : Int32} {mm1 : Mem} (hf : fX11_first (eS E) x0 x1 mm = some (.inl r, mm1)) : CtI l yX11_first cX11_first 5 (some .int) 8 141 E [.ref x0, .int x1] mm r mm1 := by
  refine Met.ofW (cc := cX11_first) (maxL := 5) (ret := (some .int)) (by decide) rfl ?_
  intro p e s m args below meth c s₁ B hml hv
  obtain ⟨rfl, X, hS, hr, hlocks⟩ := am_in B hv
  refine am_entry (Nat.le_of_ble_eq_true rfl) (fun ls hl => ?_)
  exact wX11_first hl0 X hml ⟨Nat.le_refl _, Nat.le_refl _⟩ hf (fun r e pc H locs ls hn hd hS => by cases e; exact am_ri X hS hr hn hd hlocks) (fun k e => by cases e) (fun k e => by cases e) _ _ ls hS hl
set_option maxRecDepth 100000 in
theorem cX11_first_thr {l : Launch} {E : Ev} (hl0 : l.stackTraces = false) {x0 : Nat} {x1 : Int32} {mm : Mem} {k : Nat} {mm1 : Mem} (hf : fX11_first (eS E) x0 x1 mm = some (.inr k, mm1)) : CtX l yX11_first cX11_first 5 (some .int) 8 141 E [.ref x0, .int x1] mm k mm1 := by
  refine vx_ofW (cc := cX11_first) (maxL := 5) (ret := (some .int)) (by decide) rfl ?_
  intro p e s m args below meth c s₁ B hml hxt hv
  obtain ⟨rfl, X, hS, hr, hlocks⟩ := am_in B hv
  refine am_entry (Nat.le_of_ble_eq_true rfl) (fun ls hl => ?_)
  exact wX11_first hl0 X hml ⟨Nat.le_refl _, Nat.le_refl _⟩ hf (fun r e => by cases e) (fun k e => ⟨Nat.le_refl _, Nat.le_refl _⟩) (fun k1 e pc H locs ls rest ce q9 hS a1 a2 a3 => by cases e; exact am_out X hS hxt hlocks a1 a2 a3) _ _ ls hS hl
set_option maxHeartbeats 4000000 in
set_option maxRecDepth 100000 in
theorem wX11_halo {p : Program} {l : Launch} {e : Env} {R : Room} {s : State} {m : MethodId} {args : Array Value} {below : List Frame} {meth : Method} {c : Code} {Q : State → Prop} {E : Ev} (hl0 : l.stackTraces = false) (X : Cx p s m args c cX11_halo RX11 E) (hml : c.maxLocals = 3) (hR : 8 ≤ R.frames ∧ 141 ≤ R.locals) {x0 : Nat} {x1 : Int32} {x2 : Int32} {mm : Mem} {res : Int32 ⊕ Nat} {mm1 : Mem} (hf : fX11_halo (eS E) x0 x1 x2 mm = some (res, mm1)) (hret : ∀ r, res = .inl r → ∀ (pc : Nat) (H : Heap) (locs : List Loc) (ls : Array Slot), narrow .int (.int r) = .int r → decode cX11_halo pc = .ok (.ireturn, 1) → wS E s mm1 H locs → W p l e R s m args below meth c H locs 0 0 Q (F0 m pc ls [.int r])) (hRc : ∀ k, res = .inr k → 1 ≤ R.cells ∧ 6 ≤ R.slots) (hthr : ∀ k, res = .inr k → ∀ (pc : Nat) (H : Heap) (locs : List Loc) (ls : Array Slot) (rest : List Value) (ce : Cell) (q9 : Addr), wS E s mm1 H locs → H[q9]? = some ce → ce.vm = .none → s.vm.findClass (exN k) = some ce.cls → vx_W p l e R s m args below meth c H locs 1 6 Q (F0 m pc ls rest) q9) : ∀ (H : Heap) (locs : List Loc) (ls : Array Slot), wS E s mm H locs → lv_has ls 3 [(0, .ref x0), (1, .int x1), (2, .int x2)] → W p l e R s m args below meth c H locs 0 0 Q (F0 m 0 ls []) := by
  have hx := X.1
  have hb := X.2.1
  have hRa := hR.1
  have hRb := hR.2
  unfold fX11_halo at hf
  have hj24 : ∀ (x0 : Nat) (x1 : Int32) (x2 : Int32) (s0 : Nat) (s1 : Int32) (mm : Mem) (H : Heap) (locs : List Loc) (ls : Array Slot), fX11_halo_j24 (eS E) x0 x1 x2 s0 s1 mm = some (res, mm1) → wS E s mm H locs → lv_has ls 3 [(0, .ref x0), (1, .int x1), (2, .int x2)] → W p l e R s m args below meth c H locs 0 0 Q (F0 m 24 ls [.int s1, .ref s0]) := by
    intro x0 x1 x2 s0 s1 mm H locs ls hf hS hl
    unfold fX11_halo_j24 at hf
    obtain ⟨u0, h0, hf⟩ := bs hf
    obtain ⟨_, hrc⟩ := isO_n h0
    obtain ⟨u1, m2, h1, hf⟩ := bs2 hf
    rcases u1 with v3 | k1
    · have hf := sme_l hf
      refine am_endv hS (am_runV (As := [.int s1]) X (hml.trans hl.1.symm) hS (cX11_need_ok (l := l) (E := E) hl0 h1) mv_X11_186 hrc rfl ⟨Nat.le_trans (by decide) hRa, Nat.le_trans (by decide) hRb⟩ ⟨Nat.zero_le _, Nat.zero_le _⟩ rfl rfl (Nat.le_of_ble_eq_true rfl) dX11_halo_24) (fun H locs hS => ?_)
      refine lv_aload_n hx hb dX11_halo_27 rfl (lv_at hl 0 rfl) ?_
      obtain ⟨a4, h1, hf⟩ := bs hf
      refine am_gr X hS fl_X11_67 rfl h1 dX11_halo_28 ?_
      refine lv_iload_n hx hb dX11_halo_31 rfl (lv_at hl 1 rfl) ?_
      refine lv_iload_n hx hb dX11_halo_32 rfl (lv_at hl 2 rfl) ?_
      obtain ⟨u0, h0, hf⟩ := bs hf
      obtain ⟨_, hrc⟩ := isO_n h0
      obtain ⟨v5, h1, hf⟩ := bs hf
      refine am_endi hS (am_runV (As := [.int x1, .int x2]) X (hml.trans hl.1.symm) hS (cX2_muchNear_ok (l := l) (E := E) h1) mv_X11_258 hrc rfl ⟨Nat.le_trans (by decide) hRa, Nat.le_trans (by decide) hRb⟩ ⟨Nat.zero_le _, Nat.zero_le _⟩ rfl rfl (Nat.le_of_ble_eq_true rfl) dX11_halo_33) (fun H locs hS => ?_)
      cases hf
      exact hret _ rfl _ _ _ _ rfl dX11_halo_36 hS
    · have hf := sme_r hf
      cases hf
      exact am_thrV (As := [.int s1]) X (hml.trans hl.1.symm) hS (cX11_need_thr (l := l) (E := E) hl0 h1) mv_X11_186 hrc rfl ⟨Nat.le_trans (by decide) hRa, Nat.le_trans (by decide) hRb⟩ (hRc _ rfl) rfl rfl (Nat.le_of_ble_eq_true rfl) dX11_halo_24 (fun H locs ce q9 hS a1 a2 a3 => hthr _ rfl _ H locs ls _ ce q9 hS a1 a2 a3)
  have hj23 : ∀ (x0 : Nat) (x1 : Int32) (x2 : Int32) (s0 : Nat) (mm : Mem) (H : Heap) (locs : List Loc) (ls : Array Slot), fX11_halo_j23 (eS E) x0 x1 x2 s0 mm = some (res, mm1) → wS E s mm H locs → lv_has ls 3 [(0, .ref x0), (1, .int x1), (2, .int x2)] → W p l e R s m args below meth c H locs 0 0 Q (F0 m 23 ls [.ref s0]) := by
    intro x0 x1 x2 s0 mm H locs ls hf hS hl
    unfold fX11_halo_j23 at hf
    refine lv_iconst (v := 0) hx hb dX11_halo_23 (by decide) ?_
    exact hj24 x0 x1 x2 s0 0 mm H locs ls hf hS hl
  intro H locs ls hS hl
  refine lv_aload_n hx hb dX11_halo_0 rfl (lv_at hl 0 rfl) ?_
  refine lv_aload_n hx hb dX11_halo_1 rfl (lv_at hl 0 rfl) ?_
  refine lv_iload_n hx hb dX11_halo_2 rfl (lv_at hl 1 rfl) ?_
  obtain ⟨u0, h0, hf⟩ := bs hf
  obtain ⟨_, hrc⟩ := isO_n h0
  obtain ⟨v6, h1, hf⟩ := bs hf
  refine am_endi hS (am_runV (As := [.int x1]) X (hml.trans hl.1.symm) hS (cX11_isPlace_ok (l := l) (E := E) h1) mv_X11_255 hrc rfl ⟨Nat.le_trans (by decide) hRa, Nat.le_trans (by decide) hRb⟩ ⟨Nat.zero_le _, Nat.zero_le _⟩ rfl rfl (Nat.le_of_ble_eq_true rfl) dX11_halo_3) (fun H locs hS => ?_)
  refine lv_if_eq (tgt := 23) hx hb dX11_halo_6 (by decide) (fun q7 => ?_) (fun q7 => ?_)
  · have hf := ifp hf q7
    exact hj23 x0 x1 x2 x0 mm H locs ls hf hS hl
  · have hf := ifn hf q7
    refine lv_iload_n hx hb dX11_halo_9 rfl (lv_at hl 2 rfl) ?_
    refine lv_if_lt (tgt := 23) hx hb dX11_halo_10 (by decide) (fun q8 => ?_) (fun q8 => ?_)
    · have hf := ifp hf q8
      exact hj23 x0 x1 x2 x0 mm H locs ls hf hS hl
    · have hf := ifn hf q8
      refine lv_iload_n hx hb dX11_halo_13 rfl (lv_at hl 2 rfl) ?_
      refine lv_bipush (v := 99) hx hb dX11_halo_14 (by decide) ?_
      refine lv_icmp_gt (tgt := 23) hx hb dX11_halo_16 (by decide) (fun q9 => ?_) (fun q9 => ?_)
      · have hf := ifp hf q9
        exact hj23 x0 x1 x2 x0 mm H locs ls hf hS hl
      · have hf := ifn hf q9
        refine lv_iconst (v := 1) hx hb dX11_halo_19 (by decide) ?_
        refine lv_goto (tgt := 24) hx hb dX11_halo_20 (by decide) ?_
        exact hj24 x0 x1 x2 x0 1 mm H locs ls hf hS hl
set_option maxRecDepth 100000 in
theorem cX11_halo_ok {l : Launch} {E : Ev} (hl0 : l.stackTraces = false) {x0 : Nat} {x1 : Int32} {x2 : Int32} {mm : Mem} {r : Int32} {mm1 : Mem} (hf : fX11_halo (eS E) x0 x1 x2 mm = some (.inl r, mm1)) : CtI l yX11_halo cX11_halo 3 (some .int) 8 141 E [.ref x0, .int x1, .int x2] mm r mm1 := by
  refine Met.ofW (cc := cX11_halo) (maxL := 3) (ret := (some .int)) (by decide) rfl ?_
  intro p e s m args below meth c s₁ B hml hv
  obtain ⟨rfl, X, hS, hr, hlocks⟩ := am_in B hv
  refine am_entry (Nat.le_of_ble_eq_true rfl) (fun ls hl => ?_)
  exact wX11_halo hl0 X hml ⟨Nat.le_refl _, Nat.le_refl _⟩ hf (fun r e pc H locs ls hn hd hS => by cases e; exact am_ri X hS hr hn hd hlocks) (fun k e => by cases e) (fun k e => by cases e) _ _ ls hS hl
set_option maxRecDepth 100000 in
theorem cX11_halo_thr {l : Launch} {E : Ev} (hl0 : l.stackTraces = false) {x0 : Nat} {x1 : Int32} {x2 : Int32} {mm : Mem} {k : Nat} {mm1 : Mem} (hf : fX11_halo (eS E) x0 x1 x2 mm = some (.inr k, mm1)) : CtX l yX11_halo cX11_halo 3 (some .int) 8 141 E [.ref x0, .int x1, .int x2] mm k mm1 := by
  refine vx_ofW (cc := cX11_halo) (maxL := 3) (ret := (some .int)) (by decide) rfl ?_
  intro p e s m args below meth c s₁ B hml hxt hv
  obtain ⟨rfl, X, hS, hr, hlocks⟩ := am_in B hv
  refine am_entry (Nat.le_of_ble_eq_true rfl) (fun ls hl => ?_)
  exact wX11_halo hl0 X hml ⟨Nat.le_refl _, Nat.le_refl _⟩ hf (fun r e => by cases e) (fun k e => ⟨Nat.le_refl _, Nat.le_refl _⟩) (fun k1 e pc H locs ls rest ce q9 hS a1 a2 a3 => by cases e; exact am_out X hS hxt hlocks a1 a2 a3) _ _ ls hS hl
set_option maxHeartbeats 4000000 in
set_option maxRecDepth 100000 in
theorem wX11_isTerm {p : Program} {l : Launch} {e : Env} {R : Room} {s : State} {m : MethodId} {args : Array Value} {below : List Frame} {meth : Method} {c : Code} {Q : State → Prop} {E : Ev} (X : Cx p s m args c cX11_isTerm RX11 E) (hml : c.maxLocals = 2) (hR : 0 ≤ R.frames ∧ 0 ≤ R.locals) {x0 : Int32} {x1 : Int32} {mm : Mem} {r : Int32} (hf : fX11_isTerm x0 x1 = some r) (hret : ∀ (pc : Nat) (H : Heap) (locs : List Loc) (ls : Array Slot), narrow .boolean (.int r) = .int r → decode cX11_isTerm pc = .ok (.ireturn, 1) → wS E s mm H locs → W p l e R s m args below meth c H locs 0 0 Q (F0 m pc ls [.int r])) : ∀ (H : Heap) (locs : List Loc) (ls : Array Slot), wS E s mm H locs → lv_has ls 2 [(0, .int x0), (1, .int x1)] → W p l e R s m args below meth c H locs 0 0 Q (F0 m 0 ls []) := by
  have hx := X.1
  have hb := X.2.1
  have hR1 := hR.1
  have hR2 := hR.2
  have hRa : 0 ≤ R.frames := by omega
  have hRb : 0 ≤ R.locals := by omega
  unfold fX11_isTerm at hf
  have hj26 : ∀ (s0 : Int32) (H : Heap) (locs : List Loc) (ls : Array Slot), fX11_isTerm_j26 s0 = some r → wS E s mm H locs → lv_has ls 2 [] → W p l e R s m args below meth c H locs 0 0 Q (F0 m 26 ls [.int s0]) := by
    intro s0 H locs ls hf hS hl
    unfold fX11_isTerm_j26 at hf
    obtain ⟨v1, h1, hf⟩ := bs hf
    obtain ⟨rfl, h2⟩ := ckZ_n h1
    cases hf
    exact hret _ _ _ _ h2 dX11_isTerm_26 hS
  have hj25 : ∀ (H : Heap) (locs : List Loc) (ls : Array Slot), fX11_isTerm_j25 = some r → wS E s mm H locs → lv_has ls 2 [] → W p l e R s m args below meth c H locs 0 0 Q (F0 m 25 ls []) := by
    intro H locs ls hf hS hl
    unfold fX11_isTerm_j25 at hf
    refine lv_iconst (v := 0) hx hb dX11_isTerm_25 (by decide) ?_
    exact hj26 0 H locs ls hf hS hl
  intro H locs ls hS hl
  refine lv_iload_n hx hb dX11_isTerm_0 rfl (lv_at hl 0 rfl) ?_
  refine lv_if_lt (tgt := 25) hx hb dX11_isTerm_1 (by decide) (fun q2 => ?_) (fun q2 => ?_)
  · have hf := ifp hf q2
    exact hj25  H locs ls hf hS (lv_sub hl [] rfl)
  · have hf := ifn hf q2
    refine lv_iload_n hx hb dX11_isTerm_4 rfl (lv_at hl 0 rfl) ?_
    refine lv_bipush (v := 16) hx hb dX11_isTerm_5 (by decide) ?_
    refine lv_icmp_gt (tgt := 25) hx hb dX11_isTerm_7 (by decide) (fun q3 => ?_) (fun q3 => ?_)
    · have hf := ifp hf q3
      exact hj25  H locs ls hf hS (lv_sub hl [] rfl)
    · have hf := ifn hf q3
      refine lv_iload_n hx hb dX11_isTerm_10 rfl (lv_at hl 1 rfl) ?_
      refine lv_iconst (v := 1) hx hb dX11_isTerm_11 (by decide) ?_
      refine lv_icmp_lt (tgt := 25) hx hb dX11_isTerm_12 (by decide) (fun q4 => ?_) (fun q4 => ?_)
      · have hf := ifp hf q4
        exact hj25  H locs ls hf hS (lv_sub hl [] rfl)
      · have hf := ifn hf q4
        refine lv_iload_n hx hb dX11_isTerm_15 rfl (lv_at hl 1 rfl) ?_
        refine lv_bipush (v := 48) hx hb dX11_isTerm_16 (by decide) ?_
        refine lv_icmp_gt (tgt := 25) hx hb dX11_isTerm_18 (by decide) (fun q5 => ?_) (fun q5 => ?_)
        · have hf := ifp hf q5
          exact hj25  H locs ls hf hS (lv_sub hl [] rfl)
        · have hf := ifn hf q5
          refine lv_iconst (v := 1) hx hb dX11_isTerm_21 (by decide) ?_
          refine lv_goto (tgt := 26) hx hb dX11_isTerm_22 (by decide) ?_
          exact hj26 1 H locs ls hf hS (lv_sub hl [] rfl)
set_option maxRecDepth 100000 in
theorem cX11_isTerm_ok {l : Launch} {E : Ev} {x0 : Int32} {x1 : Int32} {mm : Mem} {r : Int32} (hf : fX11_isTerm x0 x1 = some r) : CtI l yX11_isTerm cX11_isTerm 2 (some .boolean) (0) (0) E [.int x0, .int x1] mm r mm := by
  refine Met.ofW (cc := cX11_isTerm) (maxL := 2) (ret := (some .boolean)) (by decide) rfl ?_
  intro p e s m args below meth c s₁ B hml hv
  obtain ⟨rfl, X, hS, hr, hlocks⟩ := am_in B hv
  refine am_entry (Nat.le_of_ble_eq_true rfl) (fun ls hl => ?_)
  exact wX11_isTerm X hml ⟨Nat.le_refl _, Nat.le_refl _⟩ hf (fun pc H locs ls hn hd hS => am_ri X hS hr hn hd hlocks) _ _ ls hS hl
set_option maxHeartbeats 4000000 in
set_option maxRecDepth 100000 in
theorem wX11_term {p : Program} {l : Launch} {e : Env} {R : Room} {s : State} {m : MethodId} {args : Array Value} {below : List Frame} {meth : Method} {c : Code} {Q : State → Prop} {E : Ev} (hl0 : l.stackTraces = false) (X : Cx p s m args c cX11_term RX11 E) (hml : c.maxLocals = 6) (hR : 8 ≤ R.frames ∧ 171 ≤ R.locals) {x0 : Nat} {x1 : Int32} {x2 : Int32} {x3 : Int32} {x4 : Int32} {mm : Mem} {res : Int32 ⊕ Nat} {mm1 : Mem} (hf : fX11_term (eS E) x0 x1 x2 x3 x4 mm = some (res, mm1)) (hret : ∀ r, res = .inl r → ∀ (pc : Nat) (H : Heap) (locs : List Loc) (ls : Array Slot), narrow .int (.int r) = .int r → decode cX11_term pc = .ok (.ireturn, 1) → wS E s mm1 H locs → W p l e R s m args below meth c H locs 0 0 Q (F0 m pc ls [.int r])) (hRc : ∀ k, res = .inr k → 1 ≤ R.cells ∧ 6 ≤ R.slots) (hthr : ∀ k, res = .inr k → ∀ (pc : Nat) (H : Heap) (locs : List Loc) (ls : Array Slot) (rest : List Value) (ce : Cell) (q9 : Addr), wS E s mm1 H locs → H[q9]? = some ce → ce.vm = .none → s.vm.findClass (exN k) = some ce.cls → vx_W p l e R s m args below meth c H locs 1 6 Q (F0 m pc ls rest) q9) : ∀ (H : Heap) (locs : List Loc) (ls : Array Slot), wS E s mm H locs → lv_has ls 6 [(0, .ref x0), (1, .int x1), (2, .int x2), (3, .int x3), (4, .int x4)] → W p l e R s m args below meth c H locs 0 0 Q (F0 m 0 ls []) := by
  have hx := X.1
  have hb := X.2.1
  have hRa := hR.1
  have hRb := hR.2
  unfold fX11_term at hf
  have hj25 : ∀ (x0 : Nat) (x1 : Int32) (x2 : Int32) (x3 : Int32) (x4 : Int32) (s0 : Nat) (s1 : Int32) (mm : Mem) (H : Heap) (locs : List Loc) (ls : Array Slot), fX11_term_j25 (eS E) x0 x1 x2 x3 x4 s0 s1 mm = some (res, mm1) → wS E s mm H locs → lv_has ls 6 [(0, .ref x0), (1, .int x1), (2, .int x2), (3, .int x3), (4, .int x4)] → W p l e R s m args below meth c H locs 0 0 Q (F0 m 25 ls [.int s1, .ref s0]) := by
    intro x0 x1 x2 x3 x4 s0 s1 mm H locs ls hf hS hl
    unfold fX11_term_j25 at hf
    obtain ⟨u0, h0, hf⟩ := bs hf
    obtain ⟨_, hrc⟩ := isO_n h0
    obtain ⟨u1, m2, h1, hf⟩ := bs2 hf
    rcases u1 with v3 | k1
    · have hf := sme_l hf
      refine am_endv hS (am_runV (As := [.int s1]) X (hml.trans hl.1.symm) hS (cX11_need_ok (l := l) (E := E) hl0 h1) mv_X11_186 hrc rfl ⟨Nat.le_trans (by decide) hRa, Nat.le_trans (by decide) hRb⟩ ⟨Nat.zero_le _, Nat.zero_le _⟩ rfl rfl (Nat.le_of_ble_eq_true rfl) dX11_term_25) (fun H locs hS => ?_)
      refine lv_aload_n hx hb dX11_term_28 rfl (lv_at hl 0 rfl) ?_
      obtain ⟨a4, h1, hf⟩ := bs hf
      refine am_gr X hS fl_X11_99 rfl h1 dX11_term_29 ?_
      refine lv_aload_n hx hb dX11_term_32 rfl (lv_at hl 0 rfl) ?_
      obtain ⟨a5, h1, hf⟩ := bs hf
      refine am_gr X hS fl_X11_67 rfl h1 dX11_term_33 ?_
      refine lv_iload_n hx hb dX11_term_36 rfl (lv_at hl 1 rfl) ?_
      refine lv_iload_n hx hb dX11_term_37 rfl (lv_at hl 2 rfl) ?_
      refine lv_iload_n hx hb dX11_term_38 rfl (lv_at hl 3 rfl) ?_
      obtain ⟨u0, h0, hf⟩ := bs hf
      obtain ⟨_, hrc⟩ := isO_n h0
      obtain ⟨m6, h1, hf⟩ := bs hf
      refine am_endv hS (am_runV (As := [.ref a5, .int x1, .int x2, .int x3]) X (hml.trans hl.1.symm) hS (cX9_run_ok (l := l) (E := E) h1) mv_X11_366 hrc rfl ⟨Nat.le_trans (by decide) hRa, Nat.le_trans (by decide) hRb⟩ ⟨Nat.zero_le _, Nat.zero_le _⟩ rfl rfl (Nat.le_of_ble_eq_true rfl) dX11_term_39) (fun H locs hS => ?_)
      refine lv_aload_n hx hb dX11_term_42 rfl (lv_at hl 0 rfl) ?_
      obtain ⟨a7, h1, hf⟩ := bs hf
      refine am_gr X hS fl_X11_99 rfl h1 dX11_term_43 ?_
      obtain ⟨a8, h1, hf⟩ := bs hf
      refine am_gr X hS fl_X11_369 rfl h1 dX11_term_46 ?_
      refine am_topr (fun x5_9 e1 => ?_)
      have hf := lt1_n e1 hf
      refine lv_astore (lv' := [(5, .ref x5_9), (0, .ref x0), (1, .int x1), (2, .int x2), (3, .int x3), (4, .int x4)]) hx hb dX11_term_49 hl (by decide) rfl (fun ls hl => ?_)
      refine lv_iload hx hb dX11_term_51 (lv_at hl 5 rfl) ?_
      by_cases q12 : x4 = 0
      · have hf := ifp hf q12
        refine lv_tableIn (off := 27) (tgt := 80) hx hb dX11_term_53 (by rw [q12]; decide) (by rw [q12]; decide) (by rw [q12]; decide) (by decide) ?_
        refine lv_aload hx hb dX11_term_80 (lv_at hl 0 rfl) ?_
        obtain ⟨a10, h1, hf⟩ := bs hf
        refine am_gr X hS fl_X11_204 rfl h1 dX11_term_82 ?_
        refine lv_iconst (v := 0) hx hb dX11_term_85 (by decide) ?_
        refine lv_bipush (v := 42) hx hb dX11_term_86 (by decide) ?_
        obtain ⟨v11, h1, hf⟩ := bs hf
        refine am_endi hS (am_runS (As := [.ref a10, .int 0, .int 42]) X (hml.trans hl.1.symm) hS (cX11_sum_ok (l := l) (E := E) h1) ms_X11_208 ⟨Nat.le_trans (by decide) hRa, Nat.le_trans (by decide) hRb⟩ ⟨Nat.zero_le _, Nat.zero_le _⟩ rfl rfl (Nat.le_of_ble_eq_true rfl) dX11_term_88) (fun H locs hS => ?_)
        cases hf
        exact hret _ rfl _ _ _ _ rfl dX11_term_91 hS
      · have hf := ifn hf q12
        by_cases q15 : x4 = 1
        · have hf := ifp hf q15
          refine lv_tableIn (off := 39) (tgt := 92) hx hb dX11_term_53 (by rw [q15]; decide) (by rw [q15]; decide) (by rw [q15]; decide) (by decide) ?_
          refine lv_aload hx hb dX11_term_92 (lv_at hl 0 rfl) ?_
          obtain ⟨a13, h1, hf⟩ := bs hf
          refine am_gr X hS fl_X11_212 rfl h1 dX11_term_94 ?_
          refine lv_iconst (v := 0) hx hb dX11_term_97 (by decide) ?_
          refine lv_bipush (v := 42) hx hb dX11_term_98 (by decide) ?_
          obtain ⟨v14, h1, hf⟩ := bs hf
          refine am_endi hS (am_runS (As := [.ref a13, .int 0, .int 42]) X (hml.trans hl.1.symm) hS (cX11_sum_ok (l := l) (E := E) h1) ms_X11_208 ⟨Nat.le_trans (by decide) hRa, Nat.le_trans (by decide) hRb⟩ ⟨Nat.zero_le _, Nat.zero_le _⟩ rfl rfl (Nat.le_of_ble_eq_true rfl) dX11_term_100) (fun H locs hS => ?_)
          cases hf
          exact hret _ rfl _ _ _ _ rfl dX11_term_103 hS
        · have hf := ifn hf q15
          by_cases q21 : x4 = 2
          · have hf := ifp hf q21
            refine lv_tableIn (off := 51) (tgt := 104) hx hb dX11_term_53 (by rw [q21]; decide) (by rw [q21]; decide) (by rw [q21]; decide) (by decide) ?_
            refine lv_aload hx hb dX11_term_104 (lv_at hl 0 rfl) ?_
            obtain ⟨a16, h1, hf⟩ := bs hf
            refine am_gr X hS fl_X11_218 rfl h1 dX11_term_106 ?_
            refine lv_iconst (v := 0) hx hb dX11_term_109 (by decide) ?_
            refine lv_bipush (v := 6) hx hb dX11_term_110 (by decide) ?_
            obtain ⟨v17, h1, hf⟩ := bs hf
            refine am_endi hS (am_runS (As := [.ref a16, .int 0, .int 6]) X (hml.trans hl.1.symm) hS (cX11_sum_ok (l := l) (E := E) h1) ms_X11_208 ⟨Nat.le_trans (by decide) hRa, Nat.le_trans (by decide) hRb⟩ ⟨Nat.zero_le _, Nat.zero_le _⟩ rfl rfl (Nat.le_of_ble_eq_true rfl) dX11_term_112) (fun H locs hS => ?_)
            refine lv_aload_n hx hb dX11_term_115 rfl (lv_at hl 1 rfl) ?_
            obtain ⟨a18, h1, hf⟩ := bs hf
            refine am_gr X hS fl_X11_67 rfl h1 dX11_term_116 ?_
            obtain ⟨a19, h1, hf⟩ := bs hf
            refine am_gr X hS fl_X11_218 rfl h1 dX11_term_119 ?_
            refine lv_iconst (v := 0) hx hb dX11_term_122 (by decide) ?_
            refine lv_bipush (v := 6) hx hb dX11_term_123 (by decide) ?_
            obtain ⟨v20, h1, hf⟩ := bs hf
            refine am_endi hS (am_runS (As := [.ref a19, .int 0, .int 6]) X (hml.trans hl.1.symm) hS (cX11_sum_ok (l := l) (E := E) h1) ms_X11_208 ⟨Nat.le_trans (by decide) hRa, Nat.le_trans (by decide) hRb⟩ ⟨Nat.zero_le _, Nat.zero_le _⟩ rfl rfl (Nat.le_of_ble_eq_true rfl) dX11_term_125) (fun H locs hS => ?_)
            refine lv_isub hx hb dX11_term_128 ?_
            cases hf
            exact hret _ rfl _ _ _ _ rfl dX11_term_129 hS
          · have hf := ifn hf q21
            refine lv_tableOut (tgt := 130) hx hb dX11_term_53 (ts_out (x := x4) (lo := 0) (n := 3) (by decide) (by decide) (fun j hj => match j, hj with | 0, _ => fun h => q12 (h.trans (by decide))  | 1, _ => fun h => q15 (h.trans (by decide))  | 2, _ => fun h => q21 (h.trans (by decide)) | j + 3, hj => absurd hj (by omega))) (by decide) ?_
            refine lv_aload hx hb dX11_term_130 (lv_at hl 0 rfl) ?_
            obtain ⟨u0, h0, hf⟩ := bs hf
            obtain ⟨_, hrc⟩ := isO_n h0
            obtain ⟨v22, h1, hf⟩ := bs hf
            refine am_endi hS (am_runV (As := []) X (hml.trans hl.1.symm) hS (cX2_whiteBits_ok (l := l) (E := E) h1) mv_X11_196 hrc rfl ⟨Nat.le_trans (by decide) hRa, Nat.le_trans (by decide) hRb⟩ ⟨Nat.zero_le _, Nat.zero_le _⟩ rfl rfl (Nat.le_of_ble_eq_true rfl) dX11_term_132) (fun H locs hS => ?_)
            cases hf
            exact hret _ rfl _ _ _ _ rfl dX11_term_135 hS
    · have hf := sme_r hf
      cases hf
      exact am_thrV (As := [.int s1]) X (hml.trans hl.1.symm) hS (cX11_need_thr (l := l) (E := E) hl0 h1) mv_X11_186 hrc rfl ⟨Nat.le_trans (by decide) hRa, Nat.le_trans (by decide) hRb⟩ (hRc _ rfl) rfl rfl (Nat.le_of_ble_eq_true rfl) dX11_term_25 (fun H locs ce q9 hS a1 a2 a3 => hthr _ rfl _ H locs ls _ ce q9 hS a1 a2 a3)
  have hj24 : ∀ (x0 : Nat) (x1 : Int32) (x2 : Int32) (x3 : Int32) (x4 : Int32) (s0 : Nat) (mm : Mem) (H : Heap) (locs : List Loc) (ls : Array Slot), fX11_term_j24 (eS E) x0 x1 x2 x3 x4 s0 mm = some (res, mm1) → wS E s mm H locs → lv_has ls 6 [(0, .ref x0), (1, .int x1), (2, .int x2), (3, .int x3), (4, .int x4)] → W p l e R s m args below meth c H locs 0 0 Q (F0 m 24 ls [.ref s0]) := by
    intro x0 x1 x2 x3 x4 s0 mm H locs ls hf hS hl
    unfold fX11_term_j24 at hf
    refine lv_iconst (v := 0) hx hb dX11_term_24 (by decide) ?_
    exact hj25 x0 x1 x2 x3 x4 s0 0 mm H locs ls hf hS hl
  intro H locs ls hS hl
  refine lv_aload_n hx hb dX11_term_0 rfl (lv_at hl 0 rfl) ?_
  refine lv_iload_n hx hb dX11_term_1 rfl (lv_at hl 2 rfl) ?_
  refine lv_iload_n hx hb dX11_term_2 rfl (lv_at hl 3 rfl) ?_
  obtain ⟨v23, h1, hf⟩ := bs hf
  refine am_endi hS (am_runS (As := [.int x2, .int x3]) X (hml.trans hl.1.symm) hS (cX11_isTerm_ok (l := l) (E := E) h1) ms_X11_362 ⟨Nat.le_trans (by decide) hRa, Nat.le_trans (by decide) hRb⟩ ⟨Nat.zero_le _, Nat.zero_le _⟩ rfl rfl (Nat.le_of_ble_eq_true rfl) dX11_term_3) (fun H locs hS => ?_)
  refine lv_if_eq (tgt := 24) hx hb dX11_term_6 (by decide) (fun q24 => ?_) (fun q24 => ?_)
  · have hf := ifp hf q24
    exact hj24 x0 x1 x2 x3 x4 x0 mm H locs ls hf hS hl
  · have hf := ifn hf q24
    refine lv_iload hx hb dX11_term_9 (lv_at hl 4 rfl) ?_
    refine lv_if_lt (tgt := 24) hx hb dX11_term_11 (by decide) (fun q25 => ?_) (fun q25 => ?_)
    · have hf := ifp hf q25
      exact hj24 x0 x1 x2 x3 x4 x0 mm H locs ls hf hS hl
    · have hf := ifn hf q25
      refine lv_iload hx hb dX11_term_14 (lv_at hl 4 rfl) ?_
      refine lv_iconst (v := 3) hx hb dX11_term_16 (by decide) ?_
      refine lv_icmp_gt (tgt := 24) hx hb dX11_term_17 (by decide) (fun q26 => ?_) (fun q26 => ?_)
      · have hf := ifp hf q26
        exact hj24 x0 x1 x2 x3 x4 x0 mm H locs ls hf hS hl
      · have hf := ifn hf q26
        refine lv_iconst (v := 1) hx hb dX11_term_20 (by decide) ?_
        refine lv_goto (tgt := 25) hx hb dX11_term_21 (by decide) ?_
        exact hj25 x0 x1 x2 x3 x4 x0 1 mm H locs ls hf hS hl
set_option maxRecDepth 100000 in
theorem cX11_term_ok {l : Launch} {E : Ev} (hl0 : l.stackTraces = false) {x0 : Nat} {x1 : Int32} {x2 : Int32} {x3 : Int32} {x4 : Int32} {mm : Mem} {r : Int32} {mm1 : Mem} (hf : fX11_term (eS E) x0 x1 x2 x3 x4 mm = some (.inl r, mm1)) : CtI l yX11_term cX11_term 6 (some .int) 8 171 E [.ref x0, .int x1, .int x2, .int x3, .int x4] mm r mm1 := by
  refine Met.ofW (cc := cX11_term) (maxL := 6) (ret := (some .int)) (by decide) rfl ?_
  intro p e s m args below meth c s₁ B hml hv
  obtain ⟨rfl, X, hS, hr, hlocks⟩ := am_in B hv
  refine am_entry (Nat.le_of_ble_eq_true rfl) (fun ls hl => ?_)
  exact wX11_term hl0 X hml ⟨Nat.le_refl _, Nat.le_refl _⟩ hf (fun r e pc H locs ls hn hd hS => by cases e; exact am_ri X hS hr hn hd hlocks) (fun k e => by cases e) (fun k e => by cases e) _ _ ls hS hl
set_option maxRecDepth 100000 in
theorem cX11_term_thr {l : Launch} {E : Ev} (hl0 : l.stackTraces = false) {x0 : Nat} {x1 : Int32} {x2 : Int32} {x3 : Int32} {x4 : Int32} {mm : Mem} {k : Nat} {mm1 : Mem} (hf : fX11_term (eS E) x0 x1 x2 x3 x4 mm = some (.inr k, mm1)) : CtX l yX11_term cX11_term 6 (some .int) 8 171 E [.ref x0, .int x1, .int x2, .int x3, .int x4] mm k mm1 := by
  refine vx_ofW (cc := cX11_term) (maxL := 6) (ret := (some .int)) (by decide) rfl ?_
  intro p e s m args below meth c s₁ B hml hxt hv
  obtain ⟨rfl, X, hS, hr, hlocks⟩ := am_in B hv
  refine am_entry (Nat.le_of_ble_eq_true rfl) (fun ls hl => ?_)
  exact wX11_term hl0 X hml ⟨Nat.le_refl _, Nat.le_refl _⟩ hf (fun r e => by cases e) (fun k e => ⟨Nat.le_refl _, Nat.le_refl _⟩) (fun k1 e pc H locs ls rest ce q9 hS a1 a2 a3 => by cases e; exact am_out X hS hxt hlocks a1 a2 a3) _ _ ls hS hl
set_option maxHeartbeats 4000000 in
set_option maxRecDepth 100000 in
theorem wX11_span {p : Program} {l : Launch} {e : Env} {R : Room} {s : State} {m : MethodId} {args : Array Value} {below : List Frame} {meth : Method} {c : Code} {Q : State → Prop} {E : Ev} (hl0 : l.stackTraces = false) (X : Cx p s m args c cX11_span RX11 E) (hml : c.maxLocals = 12) (hR : 8 ≤ R.frames ∧ 171 ≤ R.locals) {x0 : Nat} {x1 : Int32} {x2 : Int32} {x3 : Int32} {x4 : Int32} {x5 : Int32} {x6 : Int32} {mm : Mem} {res : Int32 ⊕ Nat} {mm1 : Mem} (hf : fX11_span (eS E) x0 x1 x2 x3 x4 x5 x6 mm = some (res, mm1)) (hret : ∀ r, res = .inl r → ∀ (pc : Nat) (H : Heap) (locs : List Loc) (ls : Array Slot), narrow .int (.int r) = .int r → decode cX11_span pc = .ok (.ireturn, 1) → wS E s mm1 H locs → W p l e R s m args below meth c H locs 0 0 Q (F0 m pc ls [.int r])) (hRc : ∀ k, res = .inr k → 1 ≤ R.cells ∧ 6 ≤ R.slots) (hthr : ∀ k, res = .inr k → ∀ (pc : Nat) (H : Heap) (locs : List Loc) (ls : Array Slot) (rest : List Value) (ce : Cell) (q9 : Addr), wS E s mm1 H locs → H[q9]? = some ce → ce.vm = .none → s.vm.findClass (exN k) = some ce.cls → vx_W p l e R s m args below meth c H locs 1 6 Q (F0 m pc ls rest) q9) : ∀ (H : Heap) (locs : List Loc) (ls : Array Slot), wS E s mm H locs → lv_has ls 12 [(0, .ref x0), (1, .int x1), (2, .int x2), (3, .int x3), (4, .int x4), (5, .int x5), (6, .int x6)] → W p l e R s m args below meth c H locs 0 0 Q (F0 m 0 ls []) := by
  have hx := X.1
  have hb := X.2.1
  have hRa := hR.1
  have hRb := hR.2
  unfold fX11_span at hf
  have hj178 : ∀ (s0 : Int32) (mm : Mem) (H : Heap) (locs : List Loc) (ls : Array Slot), fX11_span_j178 (eS E) s0 mm = some (res, mm1) → wS E s mm H locs → lv_has ls 12 [] → W p l e R s m args below meth c H locs 0 0 Q (F0 m 178 ls [.int s0]) := by
    intro s0 mm H locs ls hf hS hl
    unfold fX11_span_j178 at hf
    cases hf
    exact hret _ rfl _ _ _ _ rfl dX11_span_178 hS
  have hj155 : ∀ (x5 : Int32) (x7 : Int32) (x8 : Int32) (x9 : Int32) (mm : Mem) (H : Heap) (locs : List Loc) (ls : Array Slot), fX11_span_j155 (eS E) x5 x7 x8 x9 mm = some (res, mm1) → wS E s mm H locs → lv_has ls 12 [(5, .int x5), (7, .int x7), (8, .int x8), (9, .int x9)] → W p l e R s m args below meth c H locs 0 0 Q (F0 m 155 ls []) := by
    intro x5 x7 x8 x9 mm H locs ls hf hS hl
    unfold fX11_span_j155 at hf
    refine lv_iload hx hb dX11_span_155 (lv_at hl 0 rfl) ?_
    refine lv_if_ne (tgt := 165) hx hb dX11_span_157 (by decide) (fun q1 => ?_) (fun q1 => ?_)
    · have hf := ifn hf q1
      refine lv_iload hx hb dX11_span_165 (lv_at hl 0 rfl) ?_
      refine lv_iconst (v := 1) hx hb dX11_span_167 (by decide) ?_
      refine lv_icmp_ne (tgt := 176) hx hb dX11_span_168 (by decide) (fun q2 => ?_) (fun q2 => ?_)
      · have hf := ifn hf q2
        refine lv_iload hx hb dX11_span_176 (lv_at hl 3 rfl) ?_
        exact hj178 x9 mm H locs ls hf hS (lv_sub hl [] rfl)
      · have hf := ifp hf q2
        refine lv_iload hx hb dX11_span_171 (lv_at hl 2 rfl) ?_
        refine lv_goto (tgt := 178) hx hb dX11_span_173 (by decide) ?_
        exact hj178 x8 mm H locs ls hf hS (lv_sub hl [] rfl)
    · have hf := ifp hf q1
      refine lv_iload hx hb dX11_span_160 (lv_at hl 1 rfl) ?_
      refine lv_goto (tgt := 178) hx hb dX11_span_162 (by decide) ?_
      exact hj178 x7 mm H locs ls hf hS (lv_sub hl [] rfl)
  have hj37 : ∀ (x0 : Nat) (x1 : Int32) (x2 : Int32) (x3 : Int32) (x4 : Int32) (x5 : Int32) (x6 : Int32) (s0 : Nat) (s1 : Int32) (mm : Mem) (H : Heap) (locs : List Loc) (ls : Array Slot), fX11_span_j37 (eS E) x0 x1 x2 x3 x4 x5 x6 s0 s1 mm = some (res, mm1) → wS E s mm H locs → lv_has ls 12 [(0, .ref x0), (1, .int x1), (2, .int x2), (3, .int x3), (4, .int x4), (5, .int x5), (6, .int x6)] → W p l e R s m args below meth c H locs 0 0 Q (F0 m 37 ls [.int s1, .ref s0]) := by
    intro x0 x1 x2 x3 x4 x5 x6 s0 s1 mm H locs ls hf hS hl
    unfold fX11_span_j37 at hf
    obtain ⟨u0, h0, hf⟩ := bs hf
    obtain ⟨_, hrc⟩ := isO_n h0
    obtain ⟨u3, m4, h1, hf⟩ := bs2 hf
    rcases u3 with v5 | k1
    · have hf := sme_l hf
      refine am_endv hS (am_runV (As := [.int s1]) X (hml.trans hl.1.symm) hS (cX11_need_ok (l := l) (E := E) hl0 h1) mv_X11_186 hrc rfl ⟨Nat.le_trans (by decide) hRa, Nat.le_trans (by decide) hRb⟩ ⟨Nat.zero_le _, Nat.zero_le _⟩ rfl rfl (Nat.le_of_ble_eq_true rfl) dX11_span_37) (fun H locs hS => ?_)
      refine lv_aload_n hx hb dX11_span_40 rfl (lv_at hl 0 rfl) ?_
      refine lv_aload_n hx hb dX11_span_41 rfl (lv_at hl 0 rfl) ?_
      refine lv_iload hx hb dX11_span_42 (lv_at hl 6 rfl) ?_
      obtain ⟨u0, h0, hf⟩ := bs hf
      obtain ⟨_, hrc⟩ := isO_n h0
      obtain ⟨v6, h1, hf⟩ := bs hf
      refine am_endi hS (am_runV (As := [.int x6]) X (hml.trans hl.1.symm) hS (cX11_isFellow_ok (l := l) (E := E) h1) mv_X11_372 hrc rfl ⟨Nat.le_trans (by decide) hRa, Nat.le_trans (by decide) hRb⟩ ⟨Nat.zero_le _, Nat.zero_le _⟩ rfl rfl (Nat.le_of_ble_eq_true rfl) dX11_span_44) (fun H locs hS => ?_)
      obtain ⟨u0, h0, hf⟩ := bs hf
      obtain ⟨_, hrc⟩ := isO_n h0
      obtain ⟨u7, m8, h1, hf⟩ := bs2 hf
      rcases u7 with v9 | k1
      · have hf := sme_l hf
        refine am_endv hS (am_runV (As := [.int v6]) X (hml.trans hl.1.symm) hS (cX11_need_ok (l := l) (E := E) hl0 h1) mv_X11_186 hrc rfl ⟨Nat.le_trans (by decide) hRa, Nat.le_trans (by decide) hRb⟩ ⟨Nat.zero_le _, Nat.zero_le _⟩ rfl rfl (Nat.le_of_ble_eq_true rfl) dX11_span_47) (fun H locs hS => ?_)
        refine lv_sipush (v := 1680) hx hb dX11_span_50 (by decide) ?_
        refine lv_topi (fun x7_10 e1 => ?_)
        have hf := lt1_n e1 hf
        refine lv_istore (lv' := [(7, .int x7_10), (0, .ref x0), (1, .int x1), (2, .int x2), (3, .int x3), (4, .int x4), (5, .int x5), (6, .int x6)]) hx hb dX11_span_53 hl (by decide) rfl (fun ls hl => ?_)
        refine lv_iconst (v := 0) hx hb dX11_span_55 (by decide) ?_
        refine lv_topi (fun x8_11 e1 => ?_)
        have hf := lt1_n e1 hf
        refine lv_istore (lv' := [(8, .int x8_11), (7, .int x7_10), (0, .ref x0), (1, .int x1), (2, .int x2), (3, .int x3), (4, .int x4), (5, .int x5), (6, .int x6)]) hx hb dX11_span_56 hl (by decide) rfl (fun ls hl => ?_)
        refine lv_iconst (v := 0) hx hb dX11_span_58 (by decide) ?_
        refine lv_topi (fun x9_12 e1 => ?_)
        have hf := lt1_n e1 hf
        refine lv_istore (lv' := [(9, .int x9_12), (8, .int x8_11), (7, .int x7_10), (0, .ref x0), (1, .int x1), (2, .int x2), (3, .int x3), (4, .int x4), (5, .int x5), (6, .int x6)]) hx hb dX11_span_59 hl (by decide) rfl (fun ls hl => ?_)
        refine lv_iconst (v := 0) hx hb dX11_span_61 (by decide) ?_
        refine lv_topi (fun x10_13 e1 => ?_)
        have hf := lt1_n e1 hf
        refine lv_istore (lv' := [(10, .int x10_13), (9, .int x9_12), (8, .int x8_11), (7, .int x7_10), (0, .ref x0), (1, .int x1), (2, .int x2), (3, .int x3), (4, .int x4), (5, .int x5), (6, .int x6)]) hx hb dX11_span_62 hl (by decide) rfl (fun ls hl => ?_)
        obtain ⟨ex64, hl64, hk64⟩ := bs hf
        refine loop_W (P := fun st => ∀ (H : Heap) (locs : List Loc) (ls : Array Slot), wS E s st.2.2.2.2 H locs → lv_has ls 12 [(0, .ref x0), (1, .int x1), (2, .int x2), (3, .int x3), (4, .int x4), (5, .int x5), (6, .int x6), (7, .int st.1), (8, .int st.2.1), (9, .int st.2.2.1), (10, .int st.2.2.2.1)] → W p l e R s m args below meth c H locs 0 0 Q (F0 m 64 ls [])) (ex := ex64) ?_ FU _ hl64 H locs ls hS (lv_sub hl [4, 5, 6, 7, 8, 9, 10, 3, 2, 1, 0] rfl)
        intro st y64 hf hyL64 hyR64 H locs ls hS hl
        obtain ⟨x7, x8, x9, x10, mm⟩ := st
        have hf : fX11_span_b64 (eS E) x0 x1 x2 x3 x4 x5 x6 x7 x8 x9 x10 mm = some y64 := hf
        have hS : wS E s mm H locs := hS
        have hl : lv_has ls 12 [(0, .ref x0), (1, .int x1), (2, .int x2), (3, .int x3), (4, .int x4), (5, .int x5), (6, .int x6), (7, .int x7), (8, .int x8), (9, .int x9), (10, .int x10)] := hl
        unfold fX11_span_b64 at hf
        have hj146 : ∀ (x7 : Int32) (x8 : Int32) (x10 : Int32) (s0 : Int32) (s1 : Int32) (mm : Mem) (H : Heap) (locs : List Loc) (ls : Array Slot), fX11_span_j146 (eS E) x0 x1 x2 x3 x4 x5 x6 x7 x8 x10 s0 s1 mm = some y64 → wS E s mm H locs → lv_has ls 12 [(0, .ref x0), (1, .int x1), (2, .int x2), (3, .int x3), (4, .int x4), (5, .int x5), (6, .int x6), (7, .int x7), (8, .int x8), (10, .int x10)] → W p l e R s m args below meth c H locs 0 0 Q (F0 m 146 ls [.int s1, .int s0]) := by
          intro x7 x8 x10 s0 s1 mm H locs ls hf hS hl
          unfold fX11_span_j146 at hf
          refine lv_iadd hx hb dX11_span_146 ?_
          refine lv_topi (fun x9_14 e1 => ?_)
          have hf := lt1_n e1 hf
          refine lv_istore (lv' := [(9, .int x9_14), (0, .ref x0), (1, .int x1), (2, .int x2), (3, .int x3), (4, .int x4), (5, .int x5), (6, .int x6), (7, .int x7), (8, .int x8), (10, .int x10)]) hx hb dX11_span_147 hl (by decide) rfl (fun ls hl => ?_)
          obtain ⟨x10_15, e1⟩ : ∃ z : Int32, z = x10 + 1 := ⟨_, rfl⟩
          have hf := lt1_n e1 hf
          refine lv_iinc (v := x10_15) (lv' := [(10, .int x10_15), (9, .int x9_14), (0, .ref x0), (1, .int x1), (2, .int x2), (3, .int x3), (4, .int x4), (5, .int x5), (6, .int x6), (7, .int x7), (8, .int x8)]) hx hb dX11_span_149 hl (k := 10) rfl (by rw [e1]; rfl) (by decide) rfl (fun ls hl => ?_)
          refine lv_goto (tgt := 64) hx hb dX11_span_152 (by decide) ?_
          exact hyL64 _ (Option.some.inj hf).symm H locs ls hS (lv_sub hl [2, 3, 4, 5, 6, 7, 8, 9, 10, 1, 0] rfl)
        refine lv_iload hx hb dX11_span_64 (lv_at hl 10 rfl) ?_
        refine lv_iload_n hx hb dX11_span_66 rfl (lv_at hl 2 rfl) ?_
        refine lv_icmp_ge (tgt := 155) hx hb dX11_span_67 (by decide) (fun q16 => ?_) (fun q16 => ?_)
        · have hf := ifp hf q16
          obtain rfl : (x7, x8, x9, mm) = ex64 := hyR64 _ (Option.some.inj hf).symm
          exact hj155 x5 x7 x8 x9 mm H locs ls hk64 hS (lv_sub hl [5, 7, 8, 9] rfl)
        · have hf := ifn hf q16
          refine lv_aload_n hx hb dX11_span_70 rfl (lv_at hl 0 rfl) ?_
          obtain ⟨a17, h1, hf⟩ := bs hf
          refine am_gr X hS fl_X11_99 rfl h1 dX11_span_71 ?_
          refine lv_aload_n hx hb dX11_span_74 rfl (lv_at hl 0 rfl) ?_
          obtain ⟨a18, h1, hf⟩ := bs hf
          refine am_gr X hS fl_X11_67 rfl h1 dX11_span_75 ?_
          refine lv_iload_n hx hb dX11_span_78 rfl (lv_at hl 1 rfl) ?_
          refine lv_iload hx hb dX11_span_79 (lv_at hl 10 rfl) ?_
          refine lv_iadd hx hb dX11_span_81 ?_
          refine lv_iload_n hx hb dX11_span_82 rfl (lv_at hl 3 rfl) ?_
          refine lv_iload hx hb dX11_span_83 (lv_at hl 4 rfl) ?_
          obtain ⟨u0, h0, hf⟩ := bs hf
          obtain ⟨_, hrc⟩ := isO_n h0
          obtain ⟨m19, h1, hf⟩ := bs hf
          refine am_endv hS (am_runV (As := [.ref a18, .int (x1 + x10), .int x3, .int x4]) X (hml.trans hl.1.symm) hS (cX9_run_ok (l := l) (E := E) h1) mv_X11_366 hrc rfl ⟨Nat.le_trans (by decide) hRa, Nat.le_trans (by decide) hRb⟩ ⟨Nat.zero_le _, Nat.zero_le _⟩ rfl rfl (Nat.le_of_ble_eq_true rfl) dX11_span_85) (fun H locs hS => ?_)
          refine lv_aload_n hx hb dX11_span_88 rfl (lv_at hl 0 rfl) ?_
          obtain ⟨a20, h1, hf⟩ := bs hf
          refine am_gr X hS fl_X11_99 rfl h1 dX11_span_89 ?_
          obtain ⟨a21, h1, hf⟩ := bs hf
          refine am_gr X hS fl_X11_369 rfl h1 dX11_span_92 ?_
          obtain ⟨a22, h1, hf⟩ := bs hf
          refine am_gr X hS fl_X11_204 rfl h1 dX11_span_95 ?_
          refine lv_iconst (v := 0) hx hb dX11_span_98 (by decide) ?_
          refine lv_bipush (v := 42) hx hb dX11_span_99 (by decide) ?_
          obtain ⟨v23, h1, hf⟩ := bs hf
          refine am_endi hS (am_runS (As := [.ref a22, .int 0, .int 42]) X (hml.trans hl.1.symm) hS (cX11_sum_ok (l := l) (E := E) h1) ms_X11_208 ⟨Nat.le_trans (by decide) hRa, Nat.le_trans (by decide) hRb⟩ ⟨Nat.zero_le _, Nat.zero_le _⟩ rfl rfl (Nat.le_of_ble_eq_true rfl) dX11_span_101) (fun H locs hS => ?_)
          refine lv_topi (fun x11_24 e1 => ?_)
          have hf := lt1_n e1 hf
          refine lv_istore (lv' := [(11, .int x11_24), (0, .ref x0), (1, .int x1), (2, .int x2), (3, .int x3), (4, .int x4), (5, .int x5), (6, .int x6), (7, .int x7), (8, .int x8), (9, .int x9), (10, .int x10)]) hx hb dX11_span_104 hl (by decide) rfl (fun ls hl => ?_)
          refine lv_iload hx hb dX11_span_106 (lv_at hl 8 rfl) ?_
          refine lv_iload hx hb dX11_span_108 (lv_at hl 0 rfl) ?_
          refine va_mmin hx hb (hml.trans hl.1.symm) X.2.2.2.1 (X.2.2.1 _ (inBi 1225 (by decide +kernel))) (X.2.2.1 _ (inBi 736 (by decide +kernel))) (X.2.2.1 _ (inBi 117 (by decide +kernel))) (X.2.2.1 _ (inBi 737 (by decide +kernel))) (Nat.le_trans (by decide) hRa) (Nat.le_trans (Nat.le_of_ble_eq_true rfl) hRb) (Nat.zero_le _) (Nat.zero_le _) dX11_span_110 ?_
          refine lv_topi (fun x7_25 e1 => ?_)
          have hf := lt1_n e1 hf
          refine lv_istore (lv' := [(7, .int x7_25), (11, .int x11_24), (0, .ref x0), (1, .int x1), (2, .int x2), (3, .int x3), (4, .int x4), (5, .int x5), (6, .int x6), (8, .int x8), (9, .int x9), (10, .int x10)]) hx hb dX11_span_113 hl (by decide) rfl (fun ls hl => ?_)
          refine lv_iload hx hb dX11_span_115 (lv_at hl 9 rfl) ?_
          refine lv_iload hx hb dX11_span_117 (lv_at hl 1 rfl) ?_
          refine va_mmax hx hb (hml.trans hl.1.symm) X.2.2.2.1 (X.2.2.1 _ (inBi 1334 (by decide +kernel))) (X.2.2.1 _ (inBi 850 (by decide +kernel))) (X.2.2.1 _ (inBi 117 (by decide +kernel))) (X.2.2.1 _ (inBi 851 (by decide +kernel))) (Nat.le_trans (by decide) hRa) (Nat.le_trans (Nat.le_of_ble_eq_true rfl) hRb) (Nat.zero_le _) (Nat.zero_le _) dX11_span_119 ?_
          refine lv_topi (fun x8_26 e1 => ?_)
          have hf := lt1_n e1 hf
          refine lv_istore (lv' := [(8, .int x8_26), (7, .int x7_25), (11, .int x11_24), (0, .ref x0), (1, .int x1), (2, .int x2), (3, .int x3), (4, .int x4), (5, .int x5), (6, .int x6), (9, .int x9), (10, .int x10)]) hx hb dX11_span_122 hl (by decide) rfl (fun ls hl => ?_)
          refine lv_iload hx hb dX11_span_124 (lv_at hl 10 rfl) ?_
          refine lv_aload_n hx hb dX11_span_126 rfl (lv_at hl 3 rfl) ?_
          obtain ⟨a27, h1, hf⟩ := bs hf
          refine am_gr X hS fl_X11_99 rfl h1 dX11_span_127 ?_
          obtain ⟨a28, h1, hf⟩ := bs hf
          refine am_gr X hS fl_X11_369 rfl h1 dX11_span_130 ?_
          refine lv_iload hx hb dX11_span_133 (lv_at hl 9 rfl) ?_
          obtain ⟨u0, h0, hf⟩ := bs hf
          obtain ⟨_, hrc⟩ := isO_n h0
          obtain ⟨v29, h1, hf⟩ := bs hf
          refine am_endi hS (am_runV (As := [.int x6]) X (hml.trans hl.1.symm) hS (cX2_allWithin_ok (l := l) (E := E) h1) mv_X11_224 hrc rfl ⟨Nat.le_trans (by decide) hRa, Nat.le_trans (by decide) hRb⟩ ⟨Nat.zero_le _, Nat.zero_le _⟩ rfl rfl (Nat.le_of_ble_eq_true rfl) dX11_span_135) (fun H locs hS => ?_)
          refine lv_if_le (tgt := 145) hx hb dX11_span_138 (by decide) (fun q30 => ?_) (fun q30 => ?_)
          · have hf := ifp hf q30
            refine lv_iconst (v := 0) hx hb dX11_span_145 (by decide) ?_
            exact hj146 x7_25 x8_26 x10 x9 0 m19 H locs ls hf hS (lv_sub hl [3, 4, 5, 6, 7, 8, 9, 1, 0, 11] rfl)
          · have hf := ifn hf q30
            refine lv_iconst (v := 1) hx hb dX11_span_141 (by decide) ?_
            refine lv_goto (tgt := 146) hx hb dX11_span_142 (by decide) ?_
            exact hj146 x7_25 x8_26 x10 x9 1 m19 H locs ls hf hS (lv_sub hl [3, 4, 5, 6, 7, 8, 9, 1, 0, 11] rfl)
      · have hf := sme_r hf
        cases hf
        exact am_thrV (As := [.int v6]) X (hml.trans hl.1.symm) hS (cX11_need_thr (l := l) (E := E) hl0 h1) mv_X11_186 hrc rfl ⟨Nat.le_trans (by decide) hRa, Nat.le_trans (by decide) hRb⟩ (hRc _ rfl) rfl rfl (Nat.le_of_ble_eq_true rfl) dX11_span_47 (fun H locs ce q9 hS a1 a2 a3 => hthr _ rfl _ H locs ls _ ce q9 hS a1 a2 a3)
    · have hf := sme_r hf
      cases hf
      exact am_thrV (As := [.int s1]) X (hml.trans hl.1.symm) hS (cX11_need_thr (l := l) (E := E) hl0 h1) mv_X11_186 hrc rfl ⟨Nat.le_trans (by decide) hRa, Nat.le_trans (by decide) hRb⟩ (hRc _ rfl) rfl rfl (Nat.le_of_ble_eq_true rfl) dX11_span_37 (fun H locs ce q9 hS a1 a2 a3 => hthr _ rfl _ H locs ls _ ce q9 hS a1 a2 a3)
  have hj36 : ∀ (x0 : Nat) (x1 : Int32) (x2 : Int32) (x3 : Int32) (x4 : Int32) (x5 : Int32) (x6 : Int32) (s0 : Nat) (mm : Mem) (H : Heap) (locs : List Loc) (ls : Array Slot), fX11_span_j36 (eS E) x0 x1 x2 x3 x4 x5 x6 s0 mm = some (res, mm1) → wS E s mm H locs → lv_has ls 12 [(0, .ref x0), (1, .int x1), (2, .int x2), (3, .int x3), (4, .int x4), (5, .int x5), (6, .int x6)] → W p l e R s m args below meth c H locs 0 0 Q (F0 m 36 ls [.ref s0]) := by
    intro x0 x1 x2 x3 x4 x5 x6 s0 mm H locs ls hf hS hl
    unfold fX11_span_j36 at hf
    refine lv_iconst (v := 0) hx hb dX11_span_36 (by decide) ?_
    exact hj37 x0 x1 x2 x3 x4 x5 x6 s0 0 mm H locs ls hf hS hl
  intro H locs ls hS hl
  refine lv_aload_n hx hb dX11_span_0 rfl (lv_at hl 0 rfl) ?_
  refine lv_iload_n hx hb dX11_span_1 rfl (lv_at hl 2 rfl) ?_
  refine lv_iconst (v := 1) hx hb dX11_span_2 (by decide) ?_
  refine lv_icmp_lt (tgt := 36) hx hb dX11_span_3 (by decide) (fun q31 => ?_) (fun q31 => ?_)
  · have hf := ifp hf q31
    exact hj36 x0 x1 x2 x3 x4 x5 x6 x0 mm H locs ls hf hS hl
  · have hf := ifn hf q31
    refine lv_iload_n hx hb dX11_span_6 rfl (lv_at hl 2 rfl) ?_
    refine lv_bipush (v := 10) hx hb dX11_span_7 (by decide) ?_
    refine lv_icmp_gt (tgt := 36) hx hb dX11_span_9 (by decide) (fun q32 => ?_) (fun q32 => ?_)
    · have hf := ifp hf q32
      exact hj36 x0 x1 x2 x3 x4 x5 x6 x0 mm H locs ls hf hS hl
    · have hf := ifn hf q32
      refine lv_iload_n hx hb dX11_span_12 rfl (lv_at hl 3 rfl) ?_
      refine lv_iload hx hb dX11_span_13 (lv_at hl 4 rfl) ?_
      obtain ⟨v33, h1, hf⟩ := bs hf
      refine am_endi hS (am_runS (As := [.int x3, .int x4]) X (hml.trans hl.1.symm) hS (cX11_isTerm_ok (l := l) (E := E) h1) ms_X11_362 ⟨Nat.le_trans (by decide) hRa, Nat.le_trans (by decide) hRb⟩ ⟨Nat.zero_le _, Nat.zero_le _⟩ rfl rfl (Nat.le_of_ble_eq_true rfl) dX11_span_15) (fun H locs hS => ?_)
      refine lv_if_eq (tgt := 36) hx hb dX11_span_18 (by decide) (fun q34 => ?_) (fun q34 => ?_)
      · have hf := ifp hf q34
        exact hj36 x0 x1 x2 x3 x4 x5 x6 x0 mm H locs ls hf hS hl
      · have hf := ifn hf q34
        refine lv_iload hx hb dX11_span_21 (lv_at hl 5 rfl) ?_
        refine lv_if_lt (tgt := 36) hx hb dX11_span_23 (by decide) (fun q35 => ?_) (fun q35 => ?_)
        · have hf := ifp hf q35
          exact hj36 x0 x1 x2 x3 x4 x5 x6 x0 mm H locs ls hf hS hl
        · have hf := ifn hf q35
          refine lv_iload hx hb dX11_span_26 (lv_at hl 5 rfl) ?_
          refine lv_iconst (v := 2) hx hb dX11_span_28 (by decide) ?_
          refine lv_icmp_gt (tgt := 36) hx hb dX11_span_29 (by decide) (fun q36 => ?_) (fun q36 => ?_)
          · have hf := ifp hf q36
            exact hj36 x0 x1 x2 x3 x4 x5 x6 x0 mm H locs ls hf hS hl
          · have hf := ifn hf q36
            refine lv_iconst (v := 1) hx hb dX11_span_32 (by decide) ?_
            refine lv_goto (tgt := 37) hx hb dX11_span_33 (by decide) ?_
            exact hj37 x0 x1 x2 x3 x4 x5 x6 x0 1 mm H locs ls hf hS hl
set_option maxRecDepth 100000 in
theorem cX11_span_ok {l : Launch} {E : Ev} (hl0 : l.stackTraces = false) {x0 : Nat} {x1 : Int32} {x2 : Int32} {x3 : Int32} {x4 : Int32} {x5 : Int32} {x6 : Int32} {mm : Mem} {r : Int32} {mm1 : Mem} (hf : fX11_span (eS E) x0 x1 x2 x3 x4 x5 x6 mm = some (.inl r, mm1)) : CtI l yX11_span cX11_span 12 (some .int) 8 171 E [.ref x0, .int x1, .int x2, .int x3, .int x4, .int x5, .int x6] mm r mm1 := by
  refine Met.ofW (cc := cX11_span) (maxL := 12) (ret := (some .int)) (by decide) rfl ?_
  intro p e s m args below meth c s₁ B hml hv
  obtain ⟨rfl, X, hS, hr, hlocks⟩ := am_in B hv
  refine am_entry (Nat.le_of_ble_eq_true rfl) (fun ls hl => ?_)
  exact wX11_span hl0 X hml ⟨Nat.le_refl _, Nat.le_refl _⟩ hf (fun r e pc H locs ls hn hd hS => by cases e; exact am_ri X hS hr hn hd hlocks) (fun k e => by cases e) (fun k e => by cases e) _ _ ls hS hl
set_option maxRecDepth 100000 in
theorem cX11_span_thr {l : Launch} {E : Ev} (hl0 : l.stackTraces = false) {x0 : Nat} {x1 : Int32} {x2 : Int32} {x3 : Int32} {x4 : Int32} {x5 : Int32} {x6 : Int32} {mm : Mem} {k : Nat} {mm1 : Mem} (hf : fX11_span (eS E) x0 x1 x2 x3 x4 x5 x6 mm = some (.inr k, mm1)) : CtX l yX11_span cX11_span 12 (some .int) 8 171 E [.ref x0, .int x1, .int x2, .int x3, .int x4, .int x5, .int x6] mm k mm1 := by
  refine vx_ofW (cc := cX11_span) (maxL := 12) (ret := (some .int)) (by decide) rfl ?_
  intro p e s m args below meth c s₁ B hml hxt hv
  obtain ⟨rfl, X, hS, hr, hlocks⟩ := am_in B hv
  refine am_entry (Nat.le_of_ble_eq_true rfl) (fun ls hl => ?_)
  exact wX11_span hl0 X hml ⟨Nat.le_refl _, Nat.le_refl _⟩ hf (fun r e => by cases e) (fun k e => ⟨Nat.le_refl _, Nat.le_refl _⟩) (fun k1 e pc H locs ls rest ce q9 hS a1 a2 a3 => by cases e; exact am_out X hS hxt hlocks a1 a2 a3) _ _ ls hS hl
set_option maxHeartbeats 4000000 in
set_option maxRecDepth 100000 in
theorem wX11_image {p : Program} {l : Launch} {e : Env} {R : Room} {s : State} {m : MethodId} {args : Array Value} {below : List Frame} {meth : Method} {c : Code} {Q : State → Prop} {E : Ev} (X : Cx p s m args c cX11_image RX11 E) (hml : c.maxLocals = 1) (hR : 3 ≤ R.frames ∧ 103 ≤ R.locals) {x0 : Nat} {mm : Mem} {r : Int32} {mm1 : Mem} (hf : fX11_image (eS E) x0 mm = some (r, mm1)) (hret : ∀ (pc : Nat) (H : Heap) (locs : List Loc) (ls : Array Slot), narrow .int (.int r) = .int r → decode cX11_image pc = .ok (.ireturn, 1) → wS E s mm1 H locs → W p l e R s m args below meth c H locs 0 0 Q (F0 m pc ls [.int r])) : ∀ (H : Heap) (locs : List Loc) (ls : Array Slot), wS E s mm H locs → lv_has ls 1 [(0, .ref x0)] → W p l e R s m args below meth c H locs 0 0 Q (F0 m 0 ls []) := by
  have hx := X.1
  have hb := X.2.1
  have hR1 := hR.1
  have hR2 := hR.2
  have hRa : 3 ≤ R.frames := by omega
  have hRb : 103 ≤ R.locals := by omega
  unfold fX11_image at hf
  intro H locs ls hS hl
  refine lv_aload_n hx hb dX11_image_0 rfl (lv_at hl 0 rfl) ?_
  obtain ⟨v1, h1, hf⟩ := bs hf
  refine am_gi X hS fl_X11_138 rfl h1 dX11_image_1 ?_
  refine lv_iconst (v := 3) hx hb dX11_image_4 (by decide) ?_
  refine lv_icmp_lt (tgt := 10) hx hb dX11_image_5 (by decide) (fun q2 => ?_) (fun q2 => ?_)
  · have hf := ifp hf q2
    refine lv_aload_n hx hb dX11_image_10 rfl (lv_at hl 0 rfl) ?_
    obtain ⟨a3, h1, hf⟩ := bs hf
    refine am_gr X hS fl_X11_80 rfl h1 dX11_image_11 ?_
    refine lv_aload_n hx hb dX11_image_14 rfl (lv_at hl 0 rfl) ?_
    obtain ⟨v4, h1, hf⟩ := bs hf
    refine am_gi X hS fl_X11_138 rfl h1 dX11_image_15 ?_
    obtain ⟨a5, h1, hf⟩ := bs hf
    refine am_ara X hS h1 dX11_image_18 ?_
    obtain ⟨a6, h1, hf⟩ := bs hf
    refine am_gr X hS fl_X11_378 rfl h1 dX11_image_19 ?_
    refine lv_aload_n hx hb dX11_image_22 rfl (lv_at hl 0 rfl) ?_
    obtain ⟨a7, h1, hf⟩ := bs hf
    refine am_gr X hS fl_X11_67 rfl h1 dX11_image_23 ?_
    obtain ⟨u0, h0, hf⟩ := bs hf
    obtain ⟨_, hrc⟩ := isO_n h0
    obtain ⟨m8, h1, hf⟩ := bs hf
    refine am_endv hS (am_runV (As := [.ref a7]) X (hml.trans hl.1.symm) hS (cX2_copyFrom_ok (l := l) (E := E) h1) mv_X11_379 hrc rfl ⟨Nat.le_trans (by decide) hRa, Nat.le_trans (by decide) hRb⟩ ⟨Nat.zero_le _, Nat.zero_le _⟩ rfl rfl (Nat.le_of_ble_eq_true rfl) dX11_image_26) (fun H locs hS => ?_)
    refine lv_aload_n hx hb dX11_image_29 rfl (lv_at hl 0 rfl) ?_
    obtain ⟨a9, h1, hf⟩ := bs hf
    refine am_gr X hS fl_X11_80 rfl h1 dX11_image_30 ?_
    refine lv_aload_n hx hb dX11_image_33 rfl (lv_at hl 0 rfl) ?_
    obtain ⟨v10, h1, hf⟩ := bs hf
    refine am_gi X hS fl_X11_138 rfl h1 dX11_image_34 ?_
    obtain ⟨a11, h1, hf⟩ := bs hf
    refine am_ara X hS h1 dX11_image_37 ?_
    obtain ⟨a12, h1, hf⟩ := bs hf
    refine am_gr X hS fl_X11_381 rfl h1 dX11_image_38 ?_
    refine lv_aload_n hx hb dX11_image_41 rfl (lv_at hl 0 rfl) ?_
    obtain ⟨a13, h1, hf⟩ := bs hf
    refine am_gr X hS fl_X11_74 rfl h1 dX11_image_42 ?_
    obtain ⟨u0, h0, hf⟩ := bs hf
    obtain ⟨_, hrc⟩ := isO_n h0
    obtain ⟨m14, h1, hf⟩ := bs hf
    refine am_endv hS (am_runV (As := [.ref a13]) X (hml.trans hl.1.symm) hS (cX7_copyFrom_ok (l := l) (E := E) h1) mv_X11_382 hrc rfl ⟨Nat.le_trans (by decide) hRa, Nat.le_trans (by decide) hRb⟩ ⟨Nat.zero_le _, Nat.zero_le _⟩ rfl rfl (Nat.le_of_ble_eq_true rfl) dX11_image_45) (fun H locs hS => ?_)
    refine lv_aload_n hx hb dX11_image_48 rfl (lv_at hl 0 rfl) ?_
    refine lv_dup hx hb dX11_image_49 rfl ?_
    obtain ⟨v15, h1, hf⟩ := bs hf
    refine am_gi X hS fl_X11_138 rfl h1 dX11_image_50 ?_
    refine lv_iconst (v := 1) hx hb dX11_image_53 (by decide) ?_
    refine lv_iadd hx hb dX11_image_54 ?_
    obtain ⟨m16, h1, hf⟩ := bs hf
    refine am_pi X hS fp_X11_138 rfl h1 dX11_image_55 (fun H locs hS => ?_)
    refine lv_aload_n hx hb dX11_image_58 rfl (lv_at hl 0 rfl) ?_
    obtain ⟨v17, h1, hf⟩ := bs hf
    refine am_gi X hS fl_X11_138 rfl h1 dX11_image_59 ?_
    cases hf
    exact hret _ _ _ _ rfl dX11_image_62 hS
  · have hf := ifn hf q2
    refine lv_iconst (v := (-1)) hx hb dX11_image_8 (by decide) ?_
    cases hf
    exact hret _ _ _ _ rfl dX11_image_9 hS
set_option maxRecDepth 100000 in
theorem cX11_image_ok {l : Launch} {E : Ev} {x0 : Nat} {mm : Mem} {r : Int32} {mm1 : Mem} (hf : fX11_image (eS E) x0 mm = some (r, mm1)) : CtI l yX11_image cX11_image 1 (some .int) (3) (103) E [.ref x0] mm r mm1 := by
  refine Met.ofW (cc := cX11_image) (maxL := 1) (ret := (some .int)) (by decide) rfl ?_
  intro p e s m args below meth c s₁ B hml hv
  obtain ⟨rfl, X, hS, hr, hlocks⟩ := am_in B hv
  refine am_entry (Nat.le_of_ble_eq_true rfl) (fun ls hl => ?_)
  exact wX11_image X hml ⟨Nat.le_refl _, Nat.le_refl _⟩ hf (fun pc H locs ls hn hd hS => am_ri X hS hr hn hd hlocks) _ _ ls hS hl
set_option maxHeartbeats 4000000 in
set_option maxRecDepth 100000 in
theorem wX11_restore {p : Program} {l : Launch} {e : Env} {R : Room} {s : State} {m : MethodId} {args : Array Value} {below : List Frame} {meth : Method} {c : Code} {Q : State → Prop} {E : Ev} (X : Cx p s m args c cX11_restore RX11 E) (hml : c.maxLocals = 1) (hR : 3 ≤ R.frames ∧ 103 ≤ R.locals) {x0 : Nat} {mm : Mem} {r : Int32} {mm1 : Mem} (hf : fX11_restore (eS E) x0 mm = some (r, mm1)) (hret : ∀ (pc : Nat) (H : Heap) (locs : List Loc) (ls : Array Slot), narrow .int (.int r) = .int r → decode cX11_restore pc = .ok (.ireturn, 1) → wS E s mm1 H locs → W p l e R s m args below meth c H locs 0 0 Q (F0 m pc ls [.int r])) : ∀ (H : Heap) (locs : List Loc) (ls : Array Slot), wS E s mm H locs → lv_has ls 1 [(0, .ref x0)] → W p l e R s m args below meth c H locs 0 0 Q (F0 m 0 ls []) := by
  have hx := X.1
  have hb := X.2.1
  have hR1 := hR.1
  have hR2 := hR.2
  have hRa : 3 ≤ R.frames := by omega
  have hRb : 103 ≤ R.locals := by omega
  unfold fX11_restore at hf
  intro H locs ls hS hl
  refine lv_aload_n hx hb dX11_restore_0 rfl (lv_at hl 0 rfl) ?_
  obtain ⟨v1, h1, hf⟩ := bs hf
  refine am_gi X hS fl_X11_138 rfl h1 dX11_restore_1 ?_
  refine lv_if_ne (tgt := 9) hx hb dX11_restore_4 (by decide) (fun q2 => ?_) (fun q2 => ?_)
  · have hf := ifn hf q2
    refine lv_aload_n hx hb dX11_restore_9 rfl (lv_at hl 0 rfl) ?_
    refine lv_dup hx hb dX11_restore_10 rfl ?_
    obtain ⟨v3, h1, hf⟩ := bs hf
    refine am_gi X hS fl_X11_138 rfl h1 dX11_restore_11 ?_
    refine lv_iconst (v := 1) hx hb dX11_restore_14 (by decide) ?_
    refine lv_isub hx hb dX11_restore_15 ?_
    obtain ⟨m4, h1, hf⟩ := bs hf
    refine am_pi X hS fp_X11_138 rfl h1 dX11_restore_16 (fun H locs hS => ?_)
    refine lv_aload_n hx hb dX11_restore_19 rfl (lv_at hl 0 rfl) ?_
    obtain ⟨a5, h1, hf⟩ := bs hf
    refine am_gr X hS fl_X11_67 rfl h1 dX11_restore_20 ?_
    refine lv_aload_n hx hb dX11_restore_23 rfl (lv_at hl 0 rfl) ?_
    obtain ⟨a6, h1, hf⟩ := bs hf
    refine am_gr X hS fl_X11_80 rfl h1 dX11_restore_24 ?_
    refine lv_aload_n hx hb dX11_restore_27 rfl (lv_at hl 0 rfl) ?_
    obtain ⟨v7, h1, hf⟩ := bs hf
    refine am_gi X hS fl_X11_138 rfl h1 dX11_restore_28 ?_
    obtain ⟨a8, h1, hf⟩ := bs hf
    refine am_ara X hS h1 dX11_restore_31 ?_
    obtain ⟨a9, h1, hf⟩ := bs hf
    refine am_gr X hS fl_X11_378 rfl h1 dX11_restore_32 ?_
    obtain ⟨u0, h0, hf⟩ := bs hf
    obtain ⟨_, hrc⟩ := isO_n h0
    obtain ⟨m10, h1, hf⟩ := bs hf
    refine am_endv hS (am_runV (As := [.ref a9]) X (hml.trans hl.1.symm) hS (cX2_copyFrom_ok (l := l) (E := E) h1) mv_X11_379 hrc rfl ⟨Nat.le_trans (by decide) hRa, Nat.le_trans (by decide) hRb⟩ ⟨Nat.zero_le _, Nat.zero_le _⟩ rfl rfl (Nat.le_of_ble_eq_true rfl) dX11_restore_35) (fun H locs hS => ?_)
    refine lv_aload_n hx hb dX11_restore_38 rfl (lv_at hl 0 rfl) ?_
    obtain ⟨a11, h1, hf⟩ := bs hf
    refine am_gr X hS fl_X11_74 rfl h1 dX11_restore_39 ?_
    refine lv_aload_n hx hb dX11_restore_42 rfl (lv_at hl 0 rfl) ?_
    obtain ⟨a12, h1, hf⟩ := bs hf
    refine am_gr X hS fl_X11_80 rfl h1 dX11_restore_43 ?_
    refine lv_aload_n hx hb dX11_restore_46 rfl (lv_at hl 0 rfl) ?_
    obtain ⟨v13, h1, hf⟩ := bs hf
    refine am_gi X hS fl_X11_138 rfl h1 dX11_restore_47 ?_
    obtain ⟨a14, h1, hf⟩ := bs hf
    refine am_ara X hS h1 dX11_restore_50 ?_
    obtain ⟨a15, h1, hf⟩ := bs hf
    refine am_gr X hS fl_X11_381 rfl h1 dX11_restore_51 ?_
    obtain ⟨u0, h0, hf⟩ := bs hf
    obtain ⟨_, hrc⟩ := isO_n h0
    obtain ⟨m16, h1, hf⟩ := bs hf
    refine am_endv hS (am_runV (As := [.ref a15]) X (hml.trans hl.1.symm) hS (cX7_copyFrom_ok (l := l) (E := E) h1) mv_X11_382 hrc rfl ⟨Nat.le_trans (by decide) hRa, Nat.le_trans (by decide) hRb⟩ ⟨Nat.zero_le _, Nat.zero_le _⟩ rfl rfl (Nat.le_of_ble_eq_true rfl) dX11_restore_54) (fun H locs hS => ?_)
    refine lv_aload_n hx hb dX11_restore_57 rfl (lv_at hl 0 rfl) ?_
    refine lv_iconst (v := 0) hx hb dX11_restore_58 (by decide) ?_
    obtain ⟨m17, h1, hf⟩ := bs hf
    refine am_pi X hS fp_X11_141 rfl h1 dX11_restore_59 (fun H locs hS => ?_)
    refine lv_aload_n hx hb dX11_restore_62 rfl (lv_at hl 0 rfl) ?_
    obtain ⟨v18, h1, hf⟩ := bs hf
    refine am_gi X hS fl_X11_138 rfl h1 dX11_restore_63 ?_
    cases hf
    exact hret _ _ _ _ rfl dX11_restore_66 hS
  · have hf := ifp hf q2
    refine lv_iconst (v := (-1)) hx hb dX11_restore_7 (by decide) ?_
    cases hf
    exact hret _ _ _ _ rfl dX11_restore_8 hS
set_option maxRecDepth 100000 in
theorem cX11_restore_ok {l : Launch} {E : Ev} {x0 : Nat} {mm : Mem} {r : Int32} {mm1 : Mem} (hf : fX11_restore (eS E) x0 mm = some (r, mm1)) : CtI l yX11_restore cX11_restore 1 (some .int) (3) (103) E [.ref x0] mm r mm1 := by
  refine Met.ofW (cc := cX11_restore) (maxL := 1) (ret := (some .int)) (by decide) rfl ?_
  intro p e s m args below meth c s₁ B hml hv
  obtain ⟨rfl, X, hS, hr, hlocks⟩ := am_in B hv
  refine am_entry (Nat.le_of_ble_eq_true rfl) (fun ls hl => ?_)
  exact wX11_restore X hml ⟨Nat.le_refl _, Nat.le_refl _⟩ hf (fun pc H locs ls hn hd hS => am_ri X hS hr hn hd hlocks) _ _ ls hS hl
set_option maxHeartbeats 4000000 in
set_option maxRecDepth 100000 in
theorem wX11_status {p : Program} {l : Launch} {e : Env} {R : Room} {s : State} {m : MethodId} {args : Array Value} {below : List Frame} {meth : Method} {c : Code} {Q : State → Prop} {E : Ev} (X : Cx p s m args c cX11_status RX11 E) (hml : c.maxLocals = 2) (hR : 0 ≤ R.frames ∧ 0 ≤ R.locals) {x0 : Nat} {x1 : Int32} {mm : Mem} {r : Int32} (hf : fX11_status (eS E) x0 x1 mm = some r) (hret : ∀ (pc : Nat) (H : Heap) (locs : List Loc) (ls : Array Slot), narrow .int (.int r) = .int r → decode cX11_status pc = .ok (.ireturn, 1) → wS E s mm H locs → W p l e R s m args below meth c H locs 0 0 Q (F0 m pc ls [.int r])) : ∀ (H : Heap) (locs : List Loc) (ls : Array Slot), wS E s mm H locs → lv_has ls 2 [(0, .ref x0), (1, .int x1)] → W p l e R s m args below meth c H locs 0 0 Q (F0 m 0 ls []) := by
  have hx := X.1
  have hb := X.2.1
  have hR1 := hR.1
  have hR2 := hR.2
  have hRa : 0 ≤ R.frames := by omega
  have hRb : 0 ≤ R.locals := by omega
  unfold fX11_status at hf
  have hj24 : ∀ (s0 : Int32) (H : Heap) (locs : List Loc) (ls : Array Slot), fX11_status_j24 (eS E) s0 mm = some r → wS E s mm H locs → lv_has ls 2 [] → W p l e R s m args below meth c H locs 0 0 Q (F0 m 24 ls [.int s0]) := by
    intro s0 H locs ls hf hS hl
    unfold fX11_status_j24 at hf
    cases hf
    exact hret _ _ _ _ rfl dX11_status_24 hS
  intro H locs ls hS hl
  refine lv_iload_n hx hb dX11_status_0 rfl (lv_at hl 1 rfl) ?_
  refine lv_if_ne (tgt := 11) hx hb dX11_status_1 (by decide) (fun q1 => ?_) (fun q1 => ?_)
  · have hf := ifn hf q1
    refine lv_iload_n hx hb dX11_status_11 rfl (lv_at hl 1 rfl) ?_
    refine lv_iconst (v := 1) hx hb dX11_status_12 (by decide) ?_
    refine lv_icmp_ne (tgt := 23) hx hb dX11_status_13 (by decide) (fun q2 => ?_) (fun q2 => ?_)
    · have hf := ifn hf q2
      refine lv_iconst (v := (-1)) hx hb dX11_status_23 (by decide) ?_
      exact hj24 (-1) H locs ls hf hS (lv_sub hl [] rfl)
    · have hf := ifp hf q2
      refine lv_aload_n hx hb dX11_status_16 rfl (lv_at hl 0 rfl) ?_
      obtain ⟨v3, h1, hf⟩ := bs hf
      refine am_gi X hS fl_X11_388 rfl h1 dX11_status_17 ?_
      refine lv_goto (tgt := 24) hx hb dX11_status_20 (by decide) ?_
      exact hj24 v3 H locs ls hf hS (lv_sub hl [] rfl)
  · have hf := ifp hf q1
    refine lv_aload_n hx hb dX11_status_4 rfl (lv_at hl 0 rfl) ?_
    obtain ⟨v4, h1, hf⟩ := bs hf
    refine am_gi X hS fl_X11_385 rfl h1 dX11_status_5 ?_
    refine lv_goto (tgt := 24) hx hb dX11_status_8 (by decide) ?_
    exact hj24 v4 H locs ls hf hS (lv_sub hl [] rfl)
set_option maxRecDepth 100000 in
theorem cX11_status_ok {l : Launch} {E : Ev} {x0 : Nat} {x1 : Int32} {mm : Mem} {r : Int32} (hf : fX11_status (eS E) x0 x1 mm = some r) : CtI l yX11_status cX11_status 2 (some .int) (0) (0) E [.ref x0, .int x1] mm r mm := by
  refine Met.ofW (cc := cX11_status) (maxL := 2) (ret := (some .int)) (by decide) rfl ?_
  intro p e s m args below meth c s₁ B hml hv
  obtain ⟨rfl, X, hS, hr, hlocks⟩ := am_in B hv
  refine am_entry (Nat.le_of_ble_eq_true rfl) (fun ls hl => ?_)
  exact wX11_status X hml ⟨Nat.le_refl _, Nat.le_refl _⟩ hf (fun pc H locs ls hn hd hS => am_ri X hS hr hn hd hlocks) _ _ ls hS hl
set_option maxHeartbeats 4000000 in
set_option maxRecDepth 100000 in
theorem wX11_count {p : Program} {l : Launch} {e : Env} {R : Room} {s : State} {m : MethodId} {args : Array Value} {below : List Frame} {meth : Method} {c : Code} {Q : State → Prop} {E : Ev} (X : Cx p s m args c cX11_count RX11 E) (hml : c.maxLocals = 2) (hR : 0 ≤ R.frames ∧ 0 ≤ R.locals) {x0 : Nat} {x1 : Int32} {mm : Mem} {r : Int32} (hf : fX11_count (eS E) x0 x1 mm = some r) (hret : ∀ (pc : Nat) (H : Heap) (locs : List Loc) (ls : Array Slot), narrow .int (.int r) = .int r → decode cX11_count pc = .ok (.ireturn, 1) → wS E s mm H locs → W p l e R s m args below meth c H locs 0 0 Q (F0 m pc ls [.int r])) : ∀ (H : Heap) (locs : List Loc) (ls : Array Slot), wS E s mm H locs → lv_has ls 2 [(0, .ref x0), (1, .int x1)] → W p l e R s m args below meth c H locs 0 0 Q (F0 m 0 ls []) := by
  have hx := X.1
  have hb := X.2.1
  have hR1 := hR.1
  have hR2 := hR.2
  have hRa : 0 ≤ R.frames := by omega
  have hRb : 0 ≤ R.locals := by omega
  unfold fX11_count at hf
  intro H locs ls hS hl
  refine lv_iload_n hx hb dX11_count_0 rfl (lv_at hl 1 rfl) ?_
  by_cases q2 : x1 = 0
  · have hf := ifp hf q2
    refine lv_tableIn (off := 27) (tgt := 28) hx hb dX11_count_1 (by rw [q2]; decide) (by rw [q2]; decide) (by rw [q2]; decide) (by decide) ?_
    refine lv_aload_n hx hb dX11_count_28 rfl (lv_at hl 0 rfl) ?_
    obtain ⟨v1, h1, hf⟩ := bs hf
    refine am_gi X hS fl_X11_138 rfl h1 dX11_count_29 ?_
    cases hf
    exact hret _ _ _ _ rfl dX11_count_32 hS
  · have hf := ifn hf q2
    by_cases q5 : x1 = 1
    · have hf := ifp hf q5
      refine lv_tableIn (off := 32) (tgt := 33) hx hb dX11_count_1 (by rw [q5]; decide) (by rw [q5]; decide) (by rw [q5]; decide) (by decide) ?_
      refine lv_aload_n hx hb dX11_count_33 rfl (lv_at hl 0 rfl) ?_
      obtain ⟨a3, h1, hf⟩ := bs hf
      refine am_gr X hS fl_X11_12 rfl h1 dX11_count_34 ?_
      obtain ⟨v4, h1, hf⟩ := bs hf
      refine am_gi X hS fl_X11_103 rfl h1 dX11_count_37 ?_
      cases hf
      exact hret _ _ _ _ rfl dX11_count_40 hS
    · have hf := ifn hf q5
      by_cases q8 : x1 = 2
      · have hf := ifp hf q8
        refine lv_tableIn (off := 40) (tgt := 41) hx hb dX11_count_1 (by rw [q8]; decide) (by rw [q8]; decide) (by rw [q8]; decide) (by decide) ?_
        refine lv_aload_n hx hb dX11_count_41 rfl (lv_at hl 0 rfl) ?_
        obtain ⟨a6, h1, hf⟩ := bs hf
        refine am_gr X hS fl_X11_74 rfl h1 dX11_count_42 ?_
        obtain ⟨v7, h1, hf⟩ := bs hf
        refine am_gi X hS fl_X11_135 rfl h1 dX11_count_45 ?_
        cases hf
        exact hret _ _ _ _ rfl dX11_count_48 hS
      · have hf := ifn hf q8
        refine lv_tableOut (tgt := 49) hx hb dX11_count_1 (ts_out (x := x1) (lo := 0) (n := 3) (by decide) (by decide) (fun j hj => match j, hj with | 0, _ => fun h => q2 (h.trans (by decide))  | 1, _ => fun h => q5 (h.trans (by decide))  | 2, _ => fun h => q8 (h.trans (by decide)) | j + 3, hj => absurd hj (by omega))) (by decide) ?_
        refine lv_iconst (v := (-1)) hx hb dX11_count_49 (by decide) ?_
        cases hf
        exact hret _ _ _ _ rfl dX11_count_50 hS
set_option maxRecDepth 100000 in
theorem cX11_count_ok {l : Launch} {E : Ev} {x0 : Nat} {x1 : Int32} {mm : Mem} {r : Int32} (hf : fX11_count (eS E) x0 x1 mm = some r) : CtI l yX11_count cX11_count 2 (some .int) (0) (0) E [.ref x0, .int x1] mm r mm := by
  refine Met.ofW (cc := cX11_count) (maxL := 2) (ret := (some .int)) (by decide) rfl ?_
  intro p e s m args below meth c s₁ B hml hv
  obtain ⟨rfl, X, hS, hr, hlocks⟩ := am_in B hv
  refine am_entry (Nat.le_of_ble_eq_true rfl) (fun ls hl => ?_)
  exact wX11_count X hml ⟨Nat.le_refl _, Nat.le_refl _⟩ hf (fun pc H locs ls hn hd hS => am_ri X hS hr hn hd hlocks) _ _ ls hS hl

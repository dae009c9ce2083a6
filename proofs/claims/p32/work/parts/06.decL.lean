theorem dL_cell_0 : decode cL_cell 0 = .ok (.iload_n 1, 1) := by decide +kernel
theorem dL_cell_1 : decode cL_cell 1 = .ok (.aload_n 0, 1) := by decide +kernel
theorem dL_cell_2 : decode cL_cell 2 = .ok (.arraylength, 1) := by decide +kernel
theorem dL_cell_3 : decode cL_cell 3 = .ok (.if_icmp .ge 9, 3) := by decide +kernel
theorem dL_cell_6 : decode cL_cell 6 = .ok (.aload_n 0, 1) := by decide +kernel
theorem dL_cell_7 : decode cL_cell 7 = .ok (.iload_n 1, 1) := by decide +kernel
theorem dL_cell_8 : decode cL_cell 8 = .ok (.iaload, 1) := by decide +kernel
theorem dL_cell_9 : decode cL_cell 9 = .ok (.goto 18, 3) := by decide +kernel
theorem dL_cell_12 : decode cL_cell 12 = .ok (.sipush 7919, 3) := by decide +kernel
theorem dL_cell_15 : decode cL_cell 15 = .ok (.iload_n 1, 1) := by decide +kernel
theorem dL_cell_16 : decode cL_cell 16 = .ok (.sipush 2953, 3) := by decide +kernel
theorem dL_cell_19 : decode cL_cell 19 = .ok (.iadd, 1) := by decide +kernel
theorem dL_cell_20 : decode cL_cell 20 = .ok (.imul, 1) := by decide +kernel
theorem dL_cell_21 : decode cL_cell 21 = .ok (.iload_n 1, 1) := by decide +kernel
theorem dL_cell_22 : decode cL_cell 22 = .ok (.sipush 647, 3) := by decide +kernel
theorem dL_cell_25 : decode cL_cell 25 = .ok (.iadd, 1) := by decide +kernel
theorem dL_cell_26 : decode cL_cell 26 = .ok (.imul, 1) := by decide +kernel
theorem dL_cell_27 : decode cL_cell 27 = .ok (.ireturn, 1) := by decide +kernel
theorem dL_low_0 : decode cL_low 0 = .ok (.iload_n 0, 1) := by decide +kernel
theorem dL_low_1 : decode cL_low 1 = .ok (.ldc 7, 2) := by decide +kernel
theorem dL_low_3 : decode cL_low 3 = .ok (.iand, 1) := by decide +kernel
theorem dL_low_4 : decode cL_low 4 = .ok (.iload_n 1, 1) := by decide +kernel
theorem dL_low_5 : decode cL_low 5 = .ok (.irem, 1) := by decide +kernel
theorem dL_low_6 : decode cL_low 6 = .ok (.ireturn, 1) := by decide +kernel
theorem dL_book_0 : decode cL_book 0 = .ok (.aload_n 0, 1) := by decide +kernel
theorem dL_book_1 : decode cL_book 1 = .ok (.iload_n 1, 1) := by decide +kernel
theorem dL_book_2 : decode cL_book 2 = .ok (.iload_n 2, 1) := by decide +kernel
theorem dL_book_3 : decode cL_book 3 = .ok (.iload_n 3, 1) := by decide +kernel
theorem dL_book_4 : decode cL_book 4 = .ok (.iload 4, 2) := by decide +kernel
theorem dL_book_6 : decode cL_book 6 = .ok (.iload 5, 2) := by decide +kernel
theorem dL_book_8 : decode cL_book 8 = .ok (.invokevirtual 8, 3) := by decide +kernel
theorem dL_book_11 : decode cL_book 11 = .ok (.ireturn, 1) := by decide +kernel
theorem dL_book_12 : decode cL_book 12 = .ok (.astore 6, 2) := by decide +kernel
theorem dL_book_14 : decode cL_book 14 = .ok (.ldc 16, 2) := by decide +kernel
theorem dL_book_16 : decode cL_book 16 = .ok (.ireturn, 1) := by decide +kernel
theorem dL_book_17 : decode cL_book 17 = .ok (.astore 6, 2) := by decide +kernel
theorem dL_book_19 : decode cL_book 19 = .ok (.ldc 16, 2) := by decide +kernel
theorem dL_book_21 : decode cL_book 21 = .ok (.ireturn, 1) := by decide +kernel
theorem dL_shot_0 : decode cL_shot 0 = .ok (.aload_n 0, 1) := by decide +kernel
theorem dL_shot_1 : decode cL_shot 1 = .ok (.iload_n 1, 1) := by decide +kernel
theorem dL_shot_2 : decode cL_shot 2 = .ok (.iload_n 2, 1) := by decide +kernel
theorem dL_shot_3 : decode cL_shot 3 = .ok (.iload_n 3, 1) := by decide +kernel
theorem dL_shot_4 : decode cL_shot 4 = .ok (.lload 4, 2) := by decide +kernel
theorem dL_shot_6 : decode cL_shot 6 = .ok (.invokevirtual 19, 3) := by decide +kernel
theorem dL_shot_9 : decode cL_shot 9 = .ok (.ireturn, 1) := by decide +kernel
theorem dL_shot_10 : decode cL_shot 10 = .ok (.astore 6, 2) := by decide +kernel
theorem dL_shot_12 : decode cL_shot 12 = .ok (.ldc 16, 2) := by decide +kernel
theorem dL_shot_14 : decode cL_shot 14 = .ok (.ireturn, 1) := by decide +kernel
theorem dL_shot_15 : decode cL_shot 15 = .ok (.astore 6, 2) := by decide +kernel
theorem dL_shot_17 : decode cL_shot 17 = .ok (.ldc 16, 2) := by decide +kernel
theorem dL_shot_19 : decode cL_shot 19 = .ok (.ireturn, 1) := by decide +kernel
theorem dL_shot_20 : decode cL_shot 20 = .ok (.astore 6, 2) := by decide +kernel
theorem dL_shot_22 : decode cL_shot 22 = .ok (.ldc 16, 2) := by decide +kernel
theorem dL_shot_24 : decode cL_shot 24 = .ok (.ireturn, 1) := by decide +kernel
theorem dL_look_0 : decode cL_look 0 = .ok (.aload_n 0, 1) := by decide +kernel
theorem dL_look_1 : decode cL_look 1 = .ok (.iload_n 1, 1) := by decide +kernel
theorem dL_look_2 : decode cL_look 2 = .ok (.iload_n 2, 1) := by decide +kernel
theorem dL_look_3 : decode cL_look 3 = .ok (.invokevirtual 25, 3) := by decide +kernel
theorem dL_look_6 : decode cL_look 6 = .ok (.ifCond .eq 7, 3) := by decide +kernel
theorem dL_look_9 : decode cL_look 9 = .ok (.iconst 1, 1) := by decide +kernel
theorem dL_look_10 : decode cL_look 10 = .ok (.goto 4, 3) := by decide +kernel
theorem dL_look_13 : decode cL_look 13 = .ok (.iconst 0, 1) := by decide +kernel
theorem dL_look_14 : decode cL_look 14 = .ok (.ireturn, 1) := by decide +kernel
theorem dL_look_15 : decode cL_look 15 = .ok (.astore_n 3, 1) := by decide +kernel
theorem dL_look_16 : decode cL_look 16 = .ok (.ldc 16, 2) := by decide +kernel
theorem dL_look_18 : decode cL_look 18 = .ok (.ireturn, 1) := by decide +kernel
theorem dL_look_19 : decode cL_look 19 = .ok (.astore_n 3, 1) := by decide +kernel
theorem dL_look_20 : decode cL_look 20 = .ok (.ldc 16, 2) := by decide +kernel
theorem dL_look_22 : decode cL_look 22 = .ok (.ireturn, 1) := by decide +kernel
theorem dL_rot_0 : decode cL_rot 0 = .ok (.aload_n 0, 1) := by decide +kernel
theorem dL_rot_1 : decode cL_rot 1 = .ok (.iload_n 1, 1) := by decide +kernel
theorem dL_rot_2 : decode cL_rot 2 = .ok (.iload_n 2, 1) := by decide +kernel
theorem dL_rot_3 : decode cL_rot 3 = .ok (.iload_n 3, 1) := by decide +kernel
theorem dL_rot_4 : decode cL_rot 4 = .ok (.iload 4, 2) := by decide +kernel
theorem dL_rot_6 : decode cL_rot 6 = .ok (.invokevirtual 29, 3) := by decide +kernel
theorem dL_rot_9 : decode cL_rot 9 = .ok (.ifCond .eq 7, 3) := by decide +kernel
theorem dL_rot_12 : decode cL_rot 12 = .ok (.iconst 1, 1) := by decide +kernel
theorem dL_rot_13 : decode cL_rot 13 = .ok (.goto 4, 3) := by decide +kernel
theorem dL_rot_16 : decode cL_rot 16 = .ok (.iconst 0, 1) := by decide +kernel
theorem dL_rot_17 : decode cL_rot 17 = .ok (.ireturn, 1) := by decide +kernel
theorem dL_rot_18 : decode cL_rot 18 = .ok (.astore 5, 2) := by decide +kernel
theorem dL_rot_20 : decode cL_rot 20 = .ok (.ldc 16, 2) := by decide +kernel
theorem dL_rot_22 : decode cL_rot 22 = .ok (.ireturn, 1) := by decide +kernel
theorem dL_rot_23 : decode cL_rot 23 = .ok (.astore 5, 2) := by decide +kernel
theorem dL_rot_25 : decode cL_rot 25 = .ok (.ldc 16, 2) := by decide +kernel
theorem dL_rot_27 : decode cL_rot 27 = .ok (.ireturn, 1) := by decide +kernel
theorem dL_rot_28 : decode cL_rot 28 = .ok (.astore 5, 2) := by decide +kernel
theorem dL_rot_30 : decode cL_rot 30 = .ok (.ldc 16, 2) := by decide +kernel
theorem dL_rot_32 : decode cL_rot 32 = .ok (.ireturn, 1) := by decide +kernel
theorem dL_burn_0 : decode cL_burn 0 = .ok (.aload_n 0, 1) := by decide +kernel
theorem dL_burn_1 : decode cL_burn 1 = .ok (.iload_n 1, 1) := by decide +kernel
theorem dL_burn_2 : decode cL_burn 2 = .ok (.invokevirtual 33, 3) := by decide +kernel
theorem dL_burn_5 : decode cL_burn 5 = .ok (.ireturn, 1) := by decide +kernel
theorem dL_burn_6 : decode cL_burn 6 = .ok (.astore_n 2, 1) := by decide +kernel
theorem dL_burn_7 : decode cL_burn 7 = .ok (.ldc 16, 2) := by decide +kernel
theorem dL_burn_9 : decode cL_burn 9 = .ok (.ireturn, 1) := by decide +kernel
theorem dL_burn_10 : decode cL_burn 10 = .ok (.astore_n 2, 1) := by decide +kernel
theorem dL_burn_11 : decode cL_burn 11 = .ok (.ldc 16, 2) := by decide +kernel
theorem dL_burn_13 : decode cL_burn 13 = .ok (.ireturn, 1) := by decide +kernel
theorem dL_build_0 : decode cL_build 0 = .ok (.aload_n 0, 1) := by decide +kernel
theorem dL_build_1 : decode cL_build 1 = .ok (.iload_n 1, 1) := by decide +kernel
theorem dL_build_2 : decode cL_build 2 = .ok (.invokevirtual 37, 3) := by decide +kernel
theorem dL_build_5 : decode cL_build 5 = .ok (.iconst 0, 1) := by decide +kernel
theorem dL_build_6 : decode cL_build 6 = .ok (.ireturn, 1) := by decide +kernel
theorem dL_build_7 : decode cL_build 7 = .ok (.astore_n 2, 1) := by decide +kernel
theorem dL_build_8 : decode cL_build 8 = .ok (.ldc 16, 2) := by decide +kernel
theorem dL_build_10 : decode cL_build 10 = .ok (.ireturn, 1) := by decide +kernel
theorem dL_build_11 : decode cL_build 11 = .ok (.astore_n 2, 1) := by decide +kernel
theorem dL_build_12 : decode cL_build 12 = .ok (.ldc 16, 2) := by decide +kernel
theorem dL_build_14 : decode cL_build 14 = .ok (.ireturn, 1) := by decide +kernel
theorem dL_check_0 : decode cL_check 0 = .ok (.aload_n 0, 1) := by decide +kernel
theorem dL_check_1 : decode cL_check 1 = .ok (.iload_n 1, 1) := by decide +kernel
theorem dL_check_2 : decode cL_check 2 = .ok (.iload_n 2, 1) := by decide +kernel
theorem dL_check_3 : decode cL_check 3 = .ok (.invokevirtual 41, 3) := by decide +kernel
theorem dL_check_6 : decode cL_check 6 = .ok (.ireturn, 1) := by decide +kernel
theorem dL_check_7 : decode cL_check 7 = .ok (.astore_n 3, 1) := by decide +kernel
theorem dL_check_8 : decode cL_check 8 = .ok (.ldc 16, 2) := by decide +kernel
theorem dL_check_10 : decode cL_check 10 = .ok (.ireturn, 1) := by decide +kernel
theorem dL_mend_0 : decode cL_mend 0 = .ok (.aload_n 0, 1) := by decide +kernel
theorem dL_mend_1 : decode cL_mend 1 = .ok (.iload_n 1, 1) := by decide +kernel
theorem dL_mend_2 : decode cL_mend 2 = .ok (.iload_n 2, 1) := by decide +kernel
theorem dL_mend_3 : decode cL_mend 3 = .ok (.invokevirtual 45, 3) := by decide +kernel
theorem dL_mend_6 : decode cL_mend 6 = .ok (.ireturn, 1) := by decide +kernel
theorem dL_mend_7 : decode cL_mend 7 = .ok (.astore_n 3, 1) := by decide +kernel
theorem dL_mend_8 : decode cL_mend 8 = .ok (.ldc 16, 2) := by decide +kernel
theorem dL_mend_10 : decode cL_mend 10 = .ok (.ireturn, 1) := by decide +kernel
theorem dL_mend_11 : decode cL_mend 11 = .ok (.astore_n 3, 1) := by decide +kernel
theorem dL_mend_12 : decode cL_mend 12 = .ok (.ldc 16, 2) := by decide +kernel
theorem dL_mend_14 : decode cL_mend 14 = .ok (.ireturn, 1) := by decide +kernel
theorem dL_copy_0 : decode cL_copy 0 = .ok (.aload_n 0, 1) := by decide +kernel
theorem dL_copy_1 : decode cL_copy 1 = .ok (.iload_n 1, 1) := by decide +kernel
theorem dL_copy_2 : decode cL_copy 2 = .ok (.iload_n 2, 1) := by decide +kernel
theorem dL_copy_3 : decode cL_copy 3 = .ok (.iload_n 3, 1) := by decide +kernel
theorem dL_copy_4 : decode cL_copy 4 = .ok (.invokevirtual 48, 3) := by decide +kernel
theorem dL_copy_7 : decode cL_copy 7 = .ok (.lreturn, 1) := by decide +kernel
theorem dL_copy_8 : decode cL_copy 8 = .ok (.astore 4, 2) := by decide +kernel
theorem dL_copy_10 : decode cL_copy 10 = .ok (.ldc2_w 52, 3) := by decide +kernel
theorem dL_copy_13 : decode cL_copy 13 = .ok (.lreturn, 1) := by decide +kernel
theorem dL_copy_14 : decode cL_copy 14 = .ok (.astore 4, 2) := by decide +kernel
theorem dL_copy_16 : decode cL_copy 16 = .ok (.ldc2_w 52, 3) := by decide +kernel
theorem dL_copy_19 : decode cL_copy 19 = .ok (.lreturn, 1) := by decide +kernel
theorem dL_isLost_0 : decode cL_isLost 0 = .ok (.aload_n 0, 1) := by decide +kernel
theorem dL_isLost_1 : decode cL_isLost 1 = .ok (.iload_n 1, 1) := by decide +kernel
theorem dL_isLost_2 : decode cL_isLost 2 = .ok (.iload_n 2, 1) := by decide +kernel
theorem dL_isLost_3 : decode cL_isLost 3 = .ok (.invokevirtual 54, 3) := by decide +kernel
theorem dL_isLost_6 : decode cL_isLost 6 = .ok (.ifCond .eq 7, 3) := by decide +kernel
theorem dL_isLost_9 : decode cL_isLost 9 = .ok (.iconst 1, 1) := by decide +kernel
theorem dL_isLost_10 : decode cL_isLost 10 = .ok (.goto 4, 3) := by decide +kernel
theorem dL_isLost_13 : decode cL_isLost 13 = .ok (.iconst 0, 1) := by decide +kernel
theorem dL_isLost_14 : decode cL_isLost 14 = .ok (.ireturn, 1) := by decide +kernel
theorem dL_isLost_15 : decode cL_isLost 15 = .ok (.astore_n 3, 1) := by decide +kernel
theorem dL_isLost_16 : decode cL_isLost 16 = .ok (.ldc 16, 2) := by decide +kernel
theorem dL_isLost_18 : decode cL_isLost 18 = .ok (.ireturn, 1) := by decide +kernel
theorem dL_words_0 : decode cL_words 0 = .ok (.aload_n 0, 1) := by decide +kernel
theorem dL_words_1 : decode cL_words 1 = .ok (.iload_n 1, 1) := by decide +kernel
theorem dL_words_2 : decode cL_words 2 = .ok (.iload_n 2, 1) := by decide +kernel
theorem dL_words_3 : decode cL_words 3 = .ok (.iload_n 3, 1) := by decide +kernel
theorem dL_words_4 : decode cL_words 4 = .ok (.iload 4, 2) := by decide +kernel
theorem dL_words_6 : decode cL_words 6 = .ok (.invokevirtual 57, 3) := by decide +kernel
theorem dL_words_9 : decode cL_words 9 = .ok (.iconst 0, 1) := by decide +kernel
theorem dL_words_10 : decode cL_words 10 = .ok (.ireturn, 1) := by decide +kernel
theorem dL_words_11 : decode cL_words 11 = .ok (.astore 5, 2) := by decide +kernel
theorem dL_words_13 : decode cL_words 13 = .ok (.ldc 16, 2) := by decide +kernel
theorem dL_words_15 : decode cL_words 15 = .ok (.ireturn, 1) := by decide +kernel
theorem dL_words_16 : decode cL_words 16 = .ok (.astore 5, 2) := by decide +kernel
theorem dL_words_18 : decode cL_words 18 = .ok (.ldc 16, 2) := by decide +kernel
theorem dL_words_20 : decode cL_words 20 = .ok (.ireturn, 1) := by decide +kernel
theorem dL_order_0 : decode cL_order 0 = .ok (.aload_n 0, 1) := by decide +kernel
theorem dL_order_1 : decode cL_order 1 = .ok (.iload_n 1, 1) := by decide +kernel
theorem dL_order_2 : decode cL_order 2 = .ok (.iload_n 2, 1) := by decide +kernel
theorem dL_order_3 : decode cL_order 3 = .ok (.invokevirtual 61, 3) := by decide +kernel
theorem dL_order_6 : decode cL_order 6 = .ok (.ireturn, 1) := by decide +kernel
theorem dL_order_7 : decode cL_order 7 = .ok (.astore_n 3, 1) := by decide +kernel
theorem dL_order_8 : decode cL_order 8 = .ok (.ldc 16, 2) := by decide +kernel
theorem dL_order_10 : decode cL_order 10 = .ok (.ireturn, 1) := by decide +kernel
theorem dL_order_11 : decode cL_order 11 = .ok (.astore_n 3, 1) := by decide +kernel
theorem dL_order_12 : decode cL_order 12 = .ok (.ldc 16, 2) := by decide +kernel
theorem dL_order_14 : decode cL_order 14 = .ok (.ireturn, 1) := by decide +kernel
theorem dL_orderAnew_0 : decode cL_orderAnew 0 = .ok (.aload_n 0, 1) := by decide +kernel
theorem dL_orderAnew_1 : decode cL_orderAnew 1 = .ok (.iload_n 1, 1) := by decide +kernel
theorem dL_orderAnew_2 : decode cL_orderAnew 2 = .ok (.iload_n 2, 1) := by decide +kernel
theorem dL_orderAnew_3 : decode cL_orderAnew 3 = .ok (.invokevirtual 64, 3) := by decide +kernel
theorem dL_orderAnew_6 : decode cL_orderAnew 6 = .ok (.ireturn, 1) := by decide +kernel
theorem dL_orderAnew_7 : decode cL_orderAnew 7 = .ok (.astore_n 3, 1) := by decide +kernel
theorem dL_orderAnew_8 : decode cL_orderAnew 8 = .ok (.ldc 16, 2) := by decide +kernel
theorem dL_orderAnew_10 : decode cL_orderAnew 10 = .ok (.ireturn, 1) := by decide +kernel
theorem dL_orderAnew_11 : decode cL_orderAnew 11 = .ok (.astore_n 3, 1) := by decide +kernel
theorem dL_orderAnew_12 : decode cL_orderAnew 12 = .ok (.ldc 16, 2) := by decide +kernel
theorem dL_orderAnew_14 : decode cL_orderAnew 14 = .ok (.ireturn, 1) := by decide +kernel
theorem dL_gold_0 : decode cL_gold 0 = .ok (.aload_n 0, 1) := by decide +kernel
theorem dL_gold_1 : decode cL_gold 1 = .ok (.iload_n 1, 1) := by decide +kernel
theorem dL_gold_2 : decode cL_gold 2 = .ok (.iload_n 2, 1) := by decide +kernel
theorem dL_gold_3 : decode cL_gold 3 = .ok (.iload_n 3, 1) := by decide +kernel
theorem dL_gold_4 : decode cL_gold 4 = .ok (.iload 4, 2) := by decide +kernel
theorem dL_gold_6 : decode cL_gold 6 = .ok (.invokevirtual 67, 3) := by decide +kernel
theorem dL_gold_9 : decode cL_gold 9 = .ok (.ireturn, 1) := by decide +kernel
theorem dL_gold_10 : decode cL_gold 10 = .ok (.astore 5, 2) := by decide +kernel
theorem dL_gold_12 : decode cL_gold 12 = .ok (.ldc 16, 2) := by decide +kernel
theorem dL_gold_14 : decode cL_gold 14 = .ok (.ireturn, 1) := by decide +kernel
theorem dL_gold_15 : decode cL_gold 15 = .ok (.astore 5, 2) := by decide +kernel
theorem dL_gold_17 : decode cL_gold 17 = .ok (.ldc 16, 2) := by decide +kernel
theorem dL_gold_19 : decode cL_gold 19 = .ok (.ireturn, 1) := by decide +kernel
theorem dL_key_0 : decode cL_key 0 = .ok (.aload_n 0, 1) := by decide +kernel
theorem dL_key_1 : decode cL_key 1 = .ok (.iload_n 1, 1) := by decide +kernel
theorem dL_key_2 : decode cL_key 2 = .ok (.iload_n 2, 1) := by decide +kernel
theorem dL_key_3 : decode cL_key 3 = .ok (.iload_n 3, 1) := by decide +kernel
theorem dL_key_4 : decode cL_key 4 = .ok (.iload 4, 2) := by decide +kernel
theorem dL_key_6 : decode cL_key 6 = .ok (.iload 5, 2) := by decide +kernel
theorem dL_key_8 : decode cL_key 8 = .ok (.invokevirtual 71, 3) := by decide +kernel
theorem dL_key_11 : decode cL_key 11 = .ok (.ireturn, 1) := by decide +kernel
theorem dL_key_12 : decode cL_key 12 = .ok (.astore 6, 2) := by decide +kernel
theorem dL_key_14 : decode cL_key 14 = .ok (.ldc 16, 2) := by decide +kernel
theorem dL_key_16 : decode cL_key 16 = .ok (.ireturn, 1) := by decide +kernel
theorem dL_key_17 : decode cL_key 17 = .ok (.astore 6, 2) := by decide +kernel
theorem dL_key_19 : decode cL_key 19 = .ok (.ldc 16, 2) := by decide +kernel
theorem dL_key_21 : decode cL_key 21 = .ok (.ireturn, 1) := by decide +kernel
theorem dL_trust_0 : decode cL_trust 0 = .ok (.aload_n 0, 1) := by decide +kernel
theorem dL_trust_1 : decode cL_trust 1 = .ok (.iload_n 1, 1) := by decide +kernel
theorem dL_trust_2 : decode cL_trust 2 = .ok (.invokevirtual 74, 3) := by decide +kernel
theorem dL_trust_5 : decode cL_trust 5 = .ok (.ireturn, 1) := by decide +kernel
theorem dL_trust_6 : decode cL_trust 6 = .ok (.astore_n 2, 1) := by decide +kernel
theorem dL_trust_7 : decode cL_trust 7 = .ok (.ldc 16, 2) := by decide +kernel
theorem dL_trust_9 : decode cL_trust 9 = .ok (.ireturn, 1) := by decide +kernel
theorem dL_pay_0 : decode cL_pay 0 = .ok (.aload_n 0, 1) := by decide +kernel
theorem dL_pay_1 : decode cL_pay 1 = .ok (.iload_n 1, 1) := by decide +kernel
theorem dL_pay_2 : decode cL_pay 2 = .ok (.invokevirtual 77, 3) := by decide +kernel
theorem dL_pay_5 : decode cL_pay 5 = .ok (.ireturn, 1) := by decide +kernel
theorem dL_pay_6 : decode cL_pay 6 = .ok (.astore_n 2, 1) := by decide +kernel
theorem dL_pay_7 : decode cL_pay 7 = .ok (.ldc 16, 2) := by decide +kernel
theorem dL_pay_9 : decode cL_pay 9 = .ok (.ireturn, 1) := by decide +kernel
theorem dL_read_0 : decode cL_read 0 = .ok (.aload_n 0, 1) := by decide +kernel
theorem dL_read_1 : decode cL_read 1 = .ok (.iload_n 1, 1) := by decide +kernel
theorem dL_read_2 : decode cL_read 2 = .ok (.iload_n 2, 1) := by decide +kernel
theorem dL_read_3 : decode cL_read 3 = .ok (.iload_n 3, 1) := by decide +kernel
theorem dL_read_4 : decode cL_read 4 = .ok (.invokevirtual 80, 3) := by decide +kernel
theorem dL_read_7 : decode cL_read 7 = .ok (.ireturn, 1) := by decide +kernel
theorem dL_read_8 : decode cL_read 8 = .ok (.astore 4, 2) := by decide +kernel
theorem dL_read_10 : decode cL_read 10 = .ok (.ldc 16, 2) := by decide +kernel
theorem dL_read_12 : decode cL_read 12 = .ok (.ireturn, 1) := by decide +kernel
theorem dL_doubt_0 : decode cL_doubt 0 = .ok (.aload_n 0, 1) := by decide +kernel
theorem dL_doubt_1 : decode cL_doubt 1 = .ok (.iload_n 1, 1) := by decide +kernel
theorem dL_doubt_2 : decode cL_doubt 2 = .ok (.iload_n 2, 1) := by decide +kernel
theorem dL_doubt_3 : decode cL_doubt 3 = .ok (.iload_n 3, 1) := by decide +kernel
theorem dL_doubt_4 : decode cL_doubt 4 = .ok (.invokevirtual 84, 3) := by decide +kernel
theorem dL_doubt_7 : decode cL_doubt 7 = .ok (.ireturn, 1) := by decide +kernel
theorem dL_doubt_8 : decode cL_doubt 8 = .ok (.astore 4, 2) := by decide +kernel
theorem dL_doubt_10 : decode cL_doubt 10 = .ok (.ldc 16, 2) := by decide +kernel
theorem dL_doubt_12 : decode cL_doubt 12 = .ok (.ireturn, 1) := by decide +kernel
theorem dL_pass_0 : decode cL_pass 0 = .ok (.aload_n 0, 1) := by decide +kernel
theorem dL_pass_1 : decode cL_pass 1 = .ok (.iload_n 1, 1) := by decide +kernel
theorem dL_pass_2 : decode cL_pass 2 = .ok (.invokevirtual 87, 3) := by decide +kernel
theorem dL_pass_5 : decode cL_pass 5 = .ok (.ireturn, 1) := by decide +kernel
theorem dL_pass_6 : decode cL_pass 6 = .ok (.astore_n 2, 1) := by decide +kernel
theorem dL_pass_7 : decode cL_pass 7 = .ok (.ldc 16, 2) := by decide +kernel
theorem dL_pass_9 : decode cL_pass 9 = .ok (.ireturn, 1) := by decide +kernel
theorem dL_pass_10 : decode cL_pass 10 = .ok (.astore_n 2, 1) := by decide +kernel
theorem dL_pass_11 : decode cL_pass 11 = .ok (.ldc 16, 2) := by decide +kernel
theorem dL_pass_13 : decode cL_pass 13 = .ok (.ireturn, 1) := by decide +kernel
theorem dL_term_0 : decode cL_term 0 = .ok (.aload_n 0, 1) := by decide +kernel
theorem dL_term_1 : decode cL_term 1 = .ok (.iload_n 1, 1) := by decide +kernel
theorem dL_term_2 : decode cL_term 2 = .ok (.iload_n 2, 1) := by decide +kernel
theorem dL_term_3 : decode cL_term 3 = .ok (.invokevirtual 90, 3) := by decide +kernel
theorem dL_term_6 : decode cL_term 6 = .ok (.ireturn, 1) := by decide +kernel
theorem dL_term_7 : decode cL_term 7 = .ok (.astore_n 3, 1) := by decide +kernel
theorem dL_term_8 : decode cL_term 8 = .ok (.ldc 16, 2) := by decide +kernel
theorem dL_term_10 : decode cL_term 10 = .ok (.ireturn, 1) := by decide +kernel
theorem dL_term_11 : decode cL_term 11 = .ok (.astore_n 3, 1) := by decide +kernel
theorem dL_term_12 : decode cL_term 12 = .ok (.ldc 16, 2) := by decide +kernel
theorem dL_term_14 : decode cL_term 14 = .ok (.ireturn, 1) := by decide +kernel
theorem dL_died_0 : decode cL_died 0 = .ok (.aload_n 0, 1) := by decide +kernel
theorem dL_died_1 : decode cL_died 1 = .ok (.iload_n 1, 1) := by decide +kernel
theorem dL_died_2 : decode cL_died 2 = .ok (.iload_n 2, 1) := by decide +kernel
theorem dL_died_3 : decode cL_died 3 = .ok (.invokevirtual 93, 3) := by decide +kernel
theorem dL_died_6 : decode cL_died 6 = .ok (.iconst 0, 1) := by decide +kernel
theorem dL_died_7 : decode cL_died 7 = .ok (.ireturn, 1) := by decide +kernel
theorem dL_died_8 : decode cL_died 8 = .ok (.astore_n 3, 1) := by decide +kernel
theorem dL_died_9 : decode cL_died 9 = .ok (.ldc 16, 2) := by decide +kernel
theorem dL_died_11 : decode cL_died 11 = .ok (.ireturn, 1) := by decide +kernel
theorem dL_died_12 : decode cL_died 12 = .ok (.astore_n 3, 1) := by decide +kernel
theorem dL_died_13 : decode cL_died 13 = .ok (.ldc 16, 2) := by decide +kernel
theorem dL_died_15 : decode cL_died 15 = .ok (.ireturn, 1) := by decide +kernel
theorem dL_died_16 : decode cL_died 16 = .ok (.astore_n 3, 1) := by decide +kernel
theorem dL_died_17 : decode cL_died 17 = .ok (.ldc 16, 2) := by decide +kernel
theorem dL_died_19 : decode cL_died 19 = .ok (.ireturn, 1) := by decide +kernel
theorem dL_search_0 : decode cL_search 0 = .ok (.aload_n 0, 1) := by decide +kernel
theorem dL_search_1 : decode cL_search 1 = .ok (.iload_n 1, 1) := by decide +kernel
theorem dL_search_2 : decode cL_search 2 = .ok (.invokevirtual 97, 3) := by decide +kernel
theorem dL_search_5 : decode cL_search 5 = .ok (.ifCond .eq 7, 3) := by decide +kernel
theorem dL_search_8 : decode cL_search 8 = .ok (.iconst 1, 1) := by decide +kernel
theorem dL_search_9 : decode cL_search 9 = .ok (.goto 4, 3) := by decide +kernel
theorem dL_search_12 : decode cL_search 12 = .ok (.iconst 0, 1) := by decide +kernel
theorem dL_search_13 : decode cL_search 13 = .ok (.ireturn, 1) := by decide +kernel
theorem dL_search_14 : decode cL_search 14 = .ok (.astore_n 2, 1) := by decide +kernel
theorem dL_search_15 : decode cL_search 15 = .ok (.ldc 16, 2) := by decide +kernel
theorem dL_search_17 : decode cL_search 17 = .ok (.ireturn, 1) := by decide +kernel
theorem dL_takeDown_0 : decode cL_takeDown 0 = .ok (.aload_n 0, 1) := by decide +kernel
theorem dL_takeDown_1 : decode cL_takeDown 1 = .ok (.iload_n 1, 1) := by decide +kernel
theorem dL_takeDown_2 : decode cL_takeDown 2 = .ok (.iload_n 2, 1) := by decide +kernel
theorem dL_takeDown_3 : decode cL_takeDown 3 = .ok (.invokevirtual 101, 3) := by decide +kernel
theorem dL_takeDown_6 : decode cL_takeDown 6 = .ok (.ifCond .eq 7, 3) := by decide +kernel
theorem dL_takeDown_9 : decode cL_takeDown 9 = .ok (.iconst 1, 1) := by decide +kernel
theorem dL_takeDown_10 : decode cL_takeDown 10 = .ok (.goto 4, 3) := by decide +kernel
theorem dL_takeDown_13 : decode cL_takeDown 13 = .ok (.iconst 0, 1) := by decide +kernel
theorem dL_takeDown_14 : decode cL_takeDown 14 = .ok (.ireturn, 1) := by decide +kernel
theorem dL_takeDown_15 : decode cL_takeDown 15 = .ok (.astore_n 3, 1) := by decide +kernel
theorem dL_takeDown_16 : decode cL_takeDown 16 = .ok (.ldc 16, 2) := by decide +kernel
theorem dL_takeDown_18 : decode cL_takeDown 18 = .ok (.ireturn, 1) := by decide +kernel
theorem dL_whyNot_0 : decode cL_whyNot 0 = .ok (.aload_n 0, 1) := by decide +kernel
theorem dL_whyNot_1 : decode cL_whyNot 1 = .ok (.iload_n 1, 1) := by decide +kernel
theorem dL_whyNot_2 : decode cL_whyNot 2 = .ok (.iload_n 2, 1) := by decide +kernel
theorem dL_whyNot_3 : decode cL_whyNot 3 = .ok (.iload_n 3, 1) := by decide +kernel
theorem dL_whyNot_4 : decode cL_whyNot 4 = .ok (.invokevirtual 105, 3) := by decide +kernel
theorem dL_whyNot_7 : decode cL_whyNot 7 = .ok (.ireturn, 1) := by decide +kernel
theorem dL_whyNot_8 : decode cL_whyNot 8 = .ok (.astore 4, 2) := by decide +kernel
theorem dL_whyNot_10 : decode cL_whyNot 10 = .ok (.ldc 16, 2) := by decide +kernel
theorem dL_whyNot_12 : decode cL_whyNot 12 = .ok (.ireturn, 1) := by decide +kernel
theorem dL_about_0 : decode cL_about 0 = .ok (.aload_n 0, 1) := by decide +kernel
theorem dL_about_1 : decode cL_about 1 = .ok (.iload_n 1, 1) := by decide +kernel
theorem dL_about_2 : decode cL_about 2 = .ok (.iload_n 2, 1) := by decide +kernel
theorem dL_about_3 : decode cL_about 3 = .ok (.invokevirtual 108, 3) := by decide +kernel
theorem dL_about_6 : decode cL_about 6 = .ok (.ireturn, 1) := by decide +kernel
theorem dL_about_7 : decode cL_about 7 = .ok (.astore_n 3, 1) := by decide +kernel
theorem dL_about_8 : decode cL_about 8 = .ok (.ldc 16, 2) := by decide +kernel
theorem dL_about_10 : decode cL_about 10 = .ok (.ireturn, 1) := by decide +kernel
theorem dL_about_11 : decode cL_about 11 = .ok (.astore_n 3, 1) := by decide +kernel
theorem dL_about_12 : decode cL_about 12 = .ok (.ldc 16, 2) := by decide +kernel
theorem dL_about_14 : decode cL_about 14 = .ok (.ireturn, 1) := by decide +kernel
theorem dL_act_0 : decode cL_act 0 = .ok (.iload_n 1, 1) := by decide +kernel
theorem dL_act_1 : decode cL_act 1 = .ok (.bipush 26, 2) := by decide +kernel
theorem dL_act_3 : decode cL_act 3 = .ok (.ishr, 1) := by decide +kernel
theorem dL_act_4 : decode cL_act 4 = .ok (.bipush 14, 2) := by decide +kernel
theorem dL_act_6 : decode cL_act 6 = .ok (.invokestatic 111, 3) := by decide +kernel
theorem dL_act_9 : decode cL_act 9 = .ok (.ifCond .ne 7, 3) := by decide +kernel
theorem dL_act_12 : decode cL_act 12 = .ok (.iconst 1, 1) := by decide +kernel
theorem dL_act_13 : decode cL_act 13 = .ok (.goto 4, 3) := by decide +kernel
theorem dL_act_16 : decode cL_act 16 = .ok (.iconst 0, 1) := by decide +kernel
theorem dL_act_17 : decode cL_act 17 = .ok (.istore_n 2, 1) := by decide +kernel
theorem dL_act_18 : decode cL_act 18 = .ok (.iload_n 2, 1) := by decide +kernel
theorem dL_act_19 : decode cL_act 19 = .ok (.ifCond .eq 16, 3) := by decide +kernel
theorem dL_act_22 : decode cL_act 22 = .ok (.iload_n 1, 1) := by decide +kernel
theorem dL_act_23 : decode cL_act 23 = .ok (.iconst 4, 1) := by decide +kernel
theorem dL_act_24 : decode cL_act 24 = .ok (.ishr, 1) := by decide +kernel
theorem dL_act_25 : decode cL_act 25 = .ok (.bipush 9, 2) := by decide +kernel
theorem dL_act_27 : decode cL_act 27 = .ok (.invokestatic 111, 3) := by decide +kernel
theorem dL_act_30 : decode cL_act 30 = .ok (.iconst 2, 1) := by decide +kernel
theorem dL_act_31 : decode cL_act 31 = .ok (.isub, 1) := by decide +kernel
theorem dL_act_32 : decode cL_act 32 = .ok (.goto 10, 3) := by decide +kernel
theorem dL_act_35 : decode cL_act 35 = .ok (.iload_n 1, 1) := by decide +kernel
theorem dL_act_36 : decode cL_act 36 = .ok (.iconst 4, 1) := by decide +kernel
theorem dL_act_37 : decode cL_act 37 = .ok (.ishr, 1) := by decide +kernel
theorem dL_act_38 : decode cL_act 38 = .ok (.iconst 3, 1) := by decide +kernel
theorem dL_act_39 : decode cL_act 39 = .ok (.invokestatic 111, 3) := by decide +kernel
theorem dL_act_42 : decode cL_act 42 = .ok (.istore_n 3, 1) := by decide +kernel
theorem dL_act_43 : decode cL_act 43 = .ok (.iload_n 2, 1) := by decide +kernel
theorem dL_act_44 : decode cL_act 44 = .ok (.ifCond .eq 17, 3) := by decide +kernel
theorem dL_act_47 : decode cL_act 47 = .ok (.iload_n 1, 1) := by decide +kernel
theorem dL_act_48 : decode cL_act 48 = .ok (.bipush 7, 2) := by decide +kernel
theorem dL_act_50 : decode cL_act 50 = .ok (.ishr, 1) := by decide +kernel
theorem dL_act_51 : decode cL_act 51 = .ok (.bipush 15, 2) := by decide +kernel
theorem dL_act_53 : decode cL_act 53 = .ok (.invokestatic 111, 3) := by decide +kernel
theorem dL_act_56 : decode cL_act 56 = .ok (.iconst 2, 1) := by decide +kernel
theorem dL_act_57 : decode cL_act 57 = .ok (.isub, 1) := by decide +kernel
theorem dL_act_58 : decode cL_act 58 = .ok (.goto 11, 3) := by decide +kernel
theorem dL_act_61 : decode cL_act 61 = .ok (.iload_n 1, 1) := by decide +kernel
theorem dL_act_62 : decode cL_act 62 = .ok (.bipush 7, 2) := by decide +kernel
theorem dL_act_64 : decode cL_act 64 = .ok (.ishr, 1) := by decide +kernel
theorem dL_act_65 : decode cL_act 65 = .ok (.iconst 4, 1) := by decide +kernel
theorem dL_act_66 : decode cL_act 66 = .ok (.invokestatic 111, 3) := by decide +kernel
theorem dL_act_69 : decode cL_act 69 = .ok (.istore 4, 2) := by decide +kernel
theorem dL_act_71 : decode cL_act 71 = .ok (.iload_n 2, 1) := by decide +kernel
theorem dL_act_72 : decode cL_act 72 = .ok (.ifCond .eq 17, 3) := by decide +kernel
theorem dL_act_75 : decode cL_act 75 = .ok (.iload_n 1, 1) := by decide +kernel
theorem dL_act_76 : decode cL_act 76 = .ok (.bipush 9, 2) := by decide +kernel
theorem dL_act_78 : decode cL_act 78 = .ok (.ishr, 1) := by decide +kernel
theorem dL_act_79 : decode cL_act 79 = .ok (.bipush 7, 2) := by decide +kernel
theorem dL_act_81 : decode cL_act 81 = .ok (.invokestatic 111, 3) := by decide +kernel
theorem dL_act_84 : decode cL_act 84 = .ok (.iconst 1, 1) := by decide +kernel
theorem dL_act_85 : decode cL_act 85 = .ok (.isub, 1) := by decide +kernel
theorem dL_act_86 : decode cL_act 86 = .ok (.goto 11, 3) := by decide +kernel
theorem dL_act_89 : decode cL_act 89 = .ok (.iload_n 1, 1) := by decide +kernel
theorem dL_act_90 : decode cL_act 90 = .ok (.bipush 9, 2) := by decide +kernel
theorem dL_act_92 : decode cL_act 92 = .ok (.ishr, 1) := by decide +kernel
theorem dL_act_93 : decode cL_act 93 = .ok (.iconst 4, 1) := by decide +kernel
theorem dL_act_94 : decode cL_act 94 = .ok (.invokestatic 111, 3) := by decide +kernel
theorem dL_act_97 : decode cL_act 97 = .ok (.istore 5, 2) := by decide +kernel
theorem dL_act_99 : decode cL_act 99 = .ok (.iload_n 2, 1) := by decide +kernel
theorem dL_act_100 : decode cL_act 100 = .ok (.ifCond .eq 17, 3) := by decide +kernel
theorem dL_act_103 : decode cL_act 103 = .ok (.iload_n 1, 1) := by decide +kernel
theorem dL_act_104 : decode cL_act 104 = .ok (.bipush 11, 2) := by decide +kernel
theorem dL_act_106 : decode cL_act 106 = .ok (.ishr, 1) := by decide +kernel
theorem dL_act_107 : decode cL_act 107 = .ok (.bipush 7, 2) := by decide +kernel
theorem dL_act_109 : decode cL_act 109 = .ok (.invokestatic 111, 3) := by decide +kernel
theorem dL_act_112 : decode cL_act 112 = .ok (.iconst 1, 1) := by decide +kernel
theorem dL_act_113 : decode cL_act 113 = .ok (.isub, 1) := by decide +kernel
theorem dL_act_114 : decode cL_act 114 = .ok (.goto 11, 3) := by decide +kernel
theorem dL_act_117 : decode cL_act 117 = .ok (.iload_n 1, 1) := by decide +kernel
theorem dL_act_118 : decode cL_act 118 = .ok (.bipush 11, 2) := by decide +kernel
theorem dL_act_120 : decode cL_act 120 = .ok (.ishr, 1) := by decide +kernel
theorem dL_act_121 : decode cL_act 121 = .ok (.iconst 4, 1) := by decide +kernel
theorem dL_act_122 : decode cL_act 122 = .ok (.invokestatic 111, 3) := by decide +kernel
theorem dL_act_125 : decode cL_act 125 = .ok (.istore 6, 2) := by decide +kernel
theorem dL_act_127 : decode cL_act 127 = .ok (.iload_n 2, 1) := by decide +kernel
theorem dL_act_128 : decode cL_act 128 = .ok (.ifCond .eq 16, 3) := by decide +kernel
theorem dL_act_131 : decode cL_act 131 = .ok (.iload_n 1, 1) := by decide +kernel
theorem dL_act_132 : decode cL_act 132 = .ok (.iconst 5, 1) := by decide +kernel
theorem dL_act_133 : decode cL_act 133 = .ok (.ishr, 1) := by decide +kernel
theorem dL_act_134 : decode cL_act 134 = .ok (.bipush 30, 2) := by decide +kernel
theorem dL_act_136 : decode cL_act 136 = .ok (.invokestatic 111, 3) := by decide +kernel
theorem dL_act_139 : decode cL_act 139 = .ok (.iconst 2, 1) := by decide +kernel
theorem dL_act_140 : decode cL_act 140 = .ok (.isub, 1) := by decide +kernel
theorem dL_act_141 : decode cL_act 141 = .ok (.goto 10, 3) := by decide +kernel
theorem dL_act_144 : decode cL_act 144 = .ok (.iload_n 1, 1) := by decide +kernel
theorem dL_act_145 : decode cL_act 145 = .ok (.iconst 5, 1) := by decide +kernel
theorem dL_act_146 : decode cL_act 146 = .ok (.ishr, 1) := by decide +kernel
theorem dL_act_147 : decode cL_act 147 = .ok (.iconst 3, 1) := by decide +kernel
theorem dL_act_148 : decode cL_act 148 = .ok (.invokestatic 111, 3) := by decide +kernel
theorem dL_act_151 : decode cL_act 151 = .ok (.istore 7, 2) := by decide +kernel
theorem dL_act_153 : decode cL_act 153 = .ok (.iload_n 2, 1) := by decide +kernel
theorem dL_act_154 : decode cL_act 154 = .ok (.ifCond .eq 17, 3) := by decide +kernel
theorem dL_act_157 : decode cL_act 157 = .ok (.iload_n 1, 1) := by decide +kernel
theorem dL_act_158 : decode cL_act 158 = .ok (.bipush 13, 2) := by decide +kernel
theorem dL_act_160 : decode cL_act 160 = .ok (.ishr, 1) := by decide +kernel
theorem dL_act_161 : decode cL_act 161 = .ok (.bipush 8, 2) := by decide +kernel
theorem dL_act_163 : decode cL_act 163 = .ok (.invokestatic 111, 3) := by decide +kernel
theorem dL_act_166 : decode cL_act 166 = .ok (.iconst 1, 1) := by decide +kernel
theorem dL_act_167 : decode cL_act 167 = .ok (.isub, 1) := by decide +kernel
theorem dL_act_168 : decode cL_act 168 = .ok (.goto 11, 3) := by decide +kernel
theorem dL_act_171 : decode cL_act 171 = .ok (.iload_n 1, 1) := by decide +kernel
theorem dL_act_172 : decode cL_act 172 = .ok (.bipush 13, 2) := by decide +kernel
theorem dL_act_174 : decode cL_act 174 = .ok (.ishr, 1) := by decide +kernel
theorem dL_act_175 : decode cL_act 175 = .ok (.iconst 5, 1) := by decide +kernel
theorem dL_act_176 : decode cL_act 176 = .ok (.invokestatic 111, 3) := by decide +kernel
theorem dL_act_179 : decode cL_act 179 = .ok (.istore 8, 2) := by decide +kernel
theorem dL_act_181 : decode cL_act 181 = .ok (.iload_n 2, 1) := by decide +kernel
theorem dL_act_182 : decode cL_act 182 = .ok (.ifCond .eq 10, 3) := by decide +kernel
theorem dL_act_185 : decode cL_act 185 = .ok (.iload_n 1, 1) := by decide +kernel
theorem dL_act_186 : decode cL_act 186 = .ok (.bipush 9, 2) := by decide +kernel
theorem dL_act_188 : decode cL_act 188 = .ok (.ishr, 1) := by decide +kernel
theorem dL_act_189 : decode cL_act 189 = .ok (.goto 12, 3) := by decide +kernel
theorem dL_act_192 : decode cL_act 192 = .ok (.iload_n 1, 1) := by decide +kernel
theorem dL_act_193 : decode cL_act 193 = .ok (.bipush 9, 2) := by decide +kernel
theorem dL_act_195 : decode cL_act 195 = .ok (.ishr, 1) := by decide +kernel
theorem dL_act_196 : decode cL_act 196 = .ok (.bipush 60, 2) := by decide +kernel
theorem dL_act_198 : decode cL_act 198 = .ok (.invokestatic 111, 3) := by decide +kernel
theorem dL_act_201 : decode cL_act 201 = .ok (.istore 9, 2) := by decide +kernel
theorem dL_act_203 : decode cL_act 203 = .ok (.iload_n 1, 1) := by decide +kernel
theorem dL_act_204 : decode cL_act 204 = .ok (.bipush 15, 2) := by decide +kernel
theorem dL_act_206 : decode cL_act 206 = .ok (.ishr, 1) := by decide +kernel
theorem dL_act_207 : decode cL_act 207 = .ok (.iconst 1, 1) := by decide +kernel
theorem dL_act_208 : decode cL_act 208 = .ok (.iand, 1) := by decide +kernel
theorem dL_act_209 : decode cL_act 209 = .ok (.iconst 1, 1) := by decide +kernel
theorem dL_act_210 : decode cL_act 210 = .ok (.if_icmp .ne 7, 3) := by decide +kernel
theorem dL_act_213 : decode cL_act 213 = .ok (.iconst 1, 1) := by decide +kernel
theorem dL_act_214 : decode cL_act 214 = .ok (.goto 4, 3) := by decide +kernel
theorem dL_act_217 : decode cL_act 217 = .ok (.iconst 0, 1) := by decide +kernel
theorem dL_act_218 : decode cL_act 218 = .ok (.istore 10, 2) := by decide +kernel
theorem dL_act_220 : decode cL_act 220 = .ok (.iload_n 1, 1) := by decide +kernel
theorem dL_act_221 : decode cL_act 221 = .ok (.bipush 54, 2) := by decide +kernel
theorem dL_act_223 : decode cL_act 223 = .ok (.invokestatic 111, 3) := by decide +kernel
theorem dL_act_226 : decode cL_act 226 = .ok (.tableswitch 734 0 52 #[226, 226, 226, 329, 335, 335, 335, 335, 335, 335, 335, 335, 335, 371, 371, 371, 380, 405, 405, 405, 405, 433, 441, 449, 449, 449, 468, 468, 477, 487, 496, 496, 496, 539, 539, 548, 548, 548, 561, 561, 561, 561, 561, 561, 576, 584, 592, 603, 614, 640, 665, 714, 723], 226) := by decide +kernel
theorem dL_act_452 : decode cL_act 452 = .ok (.aload_n 0, 1) := by decide +kernel
theorem dL_act_453 : decode cL_act 453 = .ok (.iload_n 2, 1) := by decide +kernel
theorem dL_act_454 : decode cL_act 454 = .ok (.ifCond .eq 8, 3) := by decide +kernel
theorem dL_act_457 : decode cL_act 457 = .ok (.iload 9, 2) := by decide +kernel
theorem dL_act_459 : decode cL_act 459 = .ok (.goto 13, 3) := by decide +kernel
theorem dL_act_462 : decode cL_act 462 = .ok (.iconst 1, 1) := by decide +kernel
theorem dL_act_463 : decode cL_act 463 = .ok (.iload_n 1, 1) := by decide +kernel
theorem dL_act_464 : decode cL_act 464 = .ok (.iconst 3, 1) := by decide +kernel
theorem dL_act_465 : decode cL_act 465 = .ok (.ishr, 1) := by decide +kernel
theorem dL_act_466 : decode cL_act 466 = .ok (.bipush 8, 2) := by decide +kernel
theorem dL_act_468 : decode cL_act 468 = .ok (.invokestatic 111, 3) := by decide +kernel
theorem dL_act_471 : decode cL_act 471 = .ok (.iadd, 1) := by decide +kernel
theorem dL_act_472 : decode cL_act 472 = .ok (.iload_n 2, 1) := by decide +kernel
theorem dL_act_473 : decode cL_act 473 = .ok (.ifCond .eq 8, 3) := by decide +kernel
theorem dL_act_476 : decode cL_act 476 = .ok (.iload 9, 2) := by decide +kernel
theorem dL_act_478 : decode cL_act 478 = .ok (.goto 10, 3) := by decide +kernel
theorem dL_act_481 : decode cL_act 481 = .ok (.bipush 60, 2) := by decide +kernel
theorem dL_act_483 : decode cL_act 483 = .ok (.iconst 2, 1) := by decide +kernel
theorem dL_act_484 : decode cL_act 484 = .ok (.iload 9, 2) := by decide +kernel
theorem dL_act_486 : decode cL_act 486 = .ok (.imul, 1) := by decide +kernel
theorem dL_act_487 : decode cL_act 487 = .ok (.iadd, 1) := by decide +kernel
theorem dL_act_488 : decode cL_act 488 = .ok (.iload_n 2, 1) := by decide +kernel
theorem dL_act_489 : decode cL_act 489 = .ok (.ifCond .eq 8, 3) := by decide +kernel
theorem dL_act_492 : decode cL_act 492 = .ok (.iload 9, 2) := by decide +kernel
theorem dL_act_494 : decode cL_act 494 = .ok (.goto 7, 3) := by decide +kernel
theorem dL_act_497 : decode cL_act 497 = .ok (.iconst 1, 1) := by decide +kernel
theorem dL_act_498 : decode cL_act 498 = .ok (.iload 9, 2) := by decide +kernel
theorem dL_act_500 : decode cL_act 500 = .ok (.iadd, 1) := by decide +kernel
theorem dL_act_501 : decode cL_act 501 = .ok (.iload_n 2, 1) := by decide +kernel
theorem dL_act_502 : decode cL_act 502 = .ok (.ifCond .eq 8, 3) := by decide +kernel
theorem dL_act_505 : decode cL_act 505 = .ok (.iload 9, 2) := by decide +kernel
theorem dL_act_507 : decode cL_act 507 = .ok (.goto 11, 3) := by decide +kernel
theorem dL_act_510 : decode cL_act 510 = .ok (.iload_n 1, 1) := by decide +kernel
theorem dL_act_511 : decode cL_act 511 = .ok (.iconst 5, 1) := by decide +kernel
theorem dL_act_512 : decode cL_act 512 = .ok (.ishr, 1) := by decide +kernel
theorem dL_act_513 : decode cL_act 513 = .ok (.bipush 10, 2) := by decide +kernel
theorem dL_act_515 : decode cL_act 515 = .ok (.invokestatic 111, 3) := by decide +kernel
theorem dL_act_518 : decode cL_act 518 = .ok (.iload_n 2, 1) := by decide +kernel
theorem dL_act_519 : decode cL_act 519 = .ok (.ifCond .eq 7, 3) := by decide +kernel
theorem dL_act_522 : decode cL_act 522 = .ok (.iload_n 1, 1) := by decide +kernel
theorem dL_act_523 : decode cL_act 523 = .ok (.goto 27, 3) := by decide +kernel
theorem dL_act_526 : decode cL_act 526 = .ok (.iload_n 1, 1) := by decide +kernel
theorem dL_act_527 : decode cL_act 527 = .ok (.bipush 64, 2) := by decide +kernel
theorem dL_act_529 : decode cL_act 529 = .ok (.iand, 1) := by decide +kernel
theorem dL_act_530 : decode cL_act 530 = .ok (.ifCond .le 7, 3) := by decide +kernel
theorem dL_act_533 : decode cL_act 533 = .ok (.iconst (-1), 1) := by decide +kernel
theorem dL_act_534 : decode cL_act 534 = .ok (.goto 16, 3) := by decide +kernel
theorem dL_act_537 : decode cL_act 537 = .ok (.sipush 1900, 3) := by decide +kernel
theorem dL_act_540 : decode cL_act 540 = .ok (.iload_n 1, 1) := by decide +kernel
theorem dL_act_541 : decode cL_act 541 = .ok (.bipush 8, 2) := by decide +kernel
theorem dL_act_543 : decode cL_act 543 = .ok (.ishr, 1) := by decide +kernel
theorem dL_act_544 : decode cL_act 544 = .ok (.bipush 100, 2) := by decide +kernel
theorem dL_act_546 : decode cL_act 546 = .ok (.invokestatic 111, 3) := by decide +kernel
theorem dL_act_549 : decode cL_act 549 = .ok (.iadd, 1) := by decide +kernel
theorem dL_act_550 : decode cL_act 550 = .ok (.invokestatic 116, 3) := by decide +kernel
theorem dL_act_553 : decode cL_act 553 = .ok (.i2l, 1) := by decide +kernel
theorem dL_act_554 : decode cL_act 554 = .ok (.lreturn, 1) := by decide +kernel
theorem dL_act_555 : decode cL_act 555 = .ok (.aload_n 0, 1) := by decide +kernel
theorem dL_act_556 : decode cL_act 556 = .ok (.invokevirtual 119, 3) := by decide +kernel
theorem dL_act_559 : decode cL_act 559 = .ok (.i2l, 1) := by decide +kernel
theorem dL_act_560 : decode cL_act 560 = .ok (.lreturn, 1) := by decide +kernel
theorem dL_act_561 : decode cL_act 561 = .ok (.aload_n 0, 1) := by decide +kernel
theorem dL_act_562 : decode cL_act 562 = .ok (.iload_n 3, 1) := by decide +kernel
theorem dL_act_563 : decode cL_act 563 = .ok (.iload 4, 2) := by decide +kernel
theorem dL_act_565 : decode cL_act 565 = .ok (.iload_n 2, 1) := by decide +kernel
theorem dL_act_566 : decode cL_act 566 = .ok (.ifCond .eq 8, 3) := by decide +kernel
theorem dL_act_569 : decode cL_act 569 = .ok (.iload 9, 2) := by decide +kernel
theorem dL_act_571 : decode cL_act 571 = .ok (.goto 15, 3) := by decide +kernel
theorem dL_act_574 : decode cL_act 574 = .ok (.bipush 30, 2) := by decide +kernel
theorem dL_act_576 : decode cL_act 576 = .ok (.iload_n 1, 1) := by decide +kernel
theorem dL_act_577 : decode cL_act 577 = .ok (.bipush 9, 2) := by decide +kernel
theorem dL_act_579 : decode cL_act 579 = .ok (.ishr, 1) := by decide +kernel
theorem dL_act_580 : decode cL_act 580 = .ok (.bipush 90, 2) := by decide +kernel
theorem dL_act_582 : decode cL_act 582 = .ok (.invokestatic 111, 3) := by decide +kernel
theorem dL_act_585 : decode cL_act 585 = .ok (.iadd, 1) := by decide +kernel
theorem dL_act_586 : decode cL_act 586 = .ok (.iload_n 1, 1) := by decide +kernel
theorem dL_act_587 : decode cL_act 587 = .ok (.i2l, 1) := by decide +kernel
theorem dL_act_588 : decode cL_act 588 = .ok (.ldc2_w 123, 3) := by decide +kernel
theorem dL_act_591 : decode cL_act 591 = .ok (.lmul, 1) := by decide +kernel
theorem dL_act_592 : decode cL_act 592 = .ok (.invokestatic 125, 3) := by decide +kernel
theorem dL_act_595 : decode cL_act 595 = .ok (.i2l, 1) := by decide +kernel
theorem dL_act_596 : decode cL_act 596 = .ok (.lreturn, 1) := by decide +kernel
theorem dL_act_597 : decode cL_act 597 = .ok (.aload_n 0, 1) := by decide +kernel
theorem dL_act_598 : decode cL_act 598 = .ok (.iload_n 3, 1) := by decide +kernel
theorem dL_act_599 : decode cL_act 599 = .ok (.iload 4, 2) := by decide +kernel
theorem dL_act_601 : decode cL_act 601 = .ok (.invokestatic 128, 3) := by decide +kernel
theorem dL_act_604 : decode cL_act 604 = .ok (.i2l, 1) := by decide +kernel
theorem dL_act_605 : decode cL_act 605 = .ok (.lreturn, 1) := by decide +kernel
theorem dL_act_606 : decode cL_act 606 = .ok (.iload_n 1, 1) := by decide +kernel
theorem dL_act_607 : decode cL_act 607 = .ok (.bipush 9, 2) := by decide +kernel
theorem dL_act_609 : decode cL_act 609 = .ok (.ishr, 1) := by decide +kernel
theorem dL_act_610 : decode cL_act 610 = .ok (.iconst 3, 1) := by decide +kernel
theorem dL_act_611 : decode cL_act 611 = .ok (.invokestatic 111, 3) := by decide +kernel
theorem dL_act_614 : decode cL_act 614 = .ok (.ifCond .ne 11, 3) := by decide +kernel
theorem dL_act_617 : decode cL_act 617 = .ok (.aload_n 0, 1) := by decide +kernel
theorem dL_act_618 : decode cL_act 618 = .ok (.invokevirtual 131, 3) := by decide +kernel
theorem dL_act_621 : decode cL_act 621 = .ok (.i2l, 1) := by decide +kernel
theorem dL_act_622 : decode cL_act 622 = .ok (.goto 8, 3) := by decide +kernel
theorem dL_act_625 : decode cL_act 625 = .ok (.aload_n 0, 1) := by decide +kernel
theorem dL_act_626 : decode cL_act 626 = .ok (.invokevirtual 134, 3) := by decide +kernel
theorem dL_act_629 : decode cL_act 629 = .ok (.i2l, 1) := by decide +kernel
theorem dL_act_630 : decode cL_act 630 = .ok (.lreturn, 1) := by decide +kernel
theorem dL_act_631 : decode cL_act 631 = .ok (.aload_n 0, 1) := by decide +kernel
theorem dL_act_632 : decode cL_act 632 = .ok (.iload 5, 2) := by decide +kernel
theorem dL_act_634 : decode cL_act 634 = .ok (.iload_n 3, 1) := by decide +kernel
theorem dL_act_635 : decode cL_act 635 = .ok (.iload 4, 2) := by decide +kernel
theorem dL_act_637 : decode cL_act 637 = .ok (.iload_n 2, 1) := by decide +kernel
theorem dL_act_638 : decode cL_act 638 = .ok (.ifCond .eq 8, 3) := by decide +kernel
theorem dL_act_641 : decode cL_act 641 = .ok (.iload 9, 2) := by decide +kernel
theorem dL_act_643 : decode cL_act 643 = .ok (.goto 11, 3) := by decide +kernel
theorem dL_act_646 : decode cL_act 646 = .ok (.iload_n 1, 1) := by decide +kernel
theorem dL_act_647 : decode cL_act 647 = .ok (.iconst 3, 1) := by decide +kernel
theorem dL_act_648 : decode cL_act 648 = .ok (.ishr, 1) := by decide +kernel
theorem dL_act_649 : decode cL_act 649 = .ok (.bipush 64, 2) := by decide +kernel
theorem dL_act_651 : decode cL_act 651 = .ok (.invokestatic 111, 3) := by decide +kernel
theorem dL_act_654 : decode cL_act 654 = .ok (.invokestatic 137, 3) := by decide +kernel
theorem dL_act_657 : decode cL_act 657 = .ok (.i2l, 1) := by decide +kernel
theorem dL_act_658 : decode cL_act 658 = .ok (.lreturn, 1) := by decide +kernel
theorem dL_act_659 : decode cL_act 659 = .ok (.aload_n 0, 1) := by decide +kernel
theorem dL_act_660 : decode cL_act 660 = .ok (.iload 5, 2) := by decide +kernel
theorem dL_act_662 : decode cL_act 662 = .ok (.invokestatic 140, 3) := by decide +kernel
theorem dL_act_665 : decode cL_act 665 = .ok (.i2l, 1) := by decide +kernel
theorem dL_act_666 : decode cL_act 666 = .ok (.lreturn, 1) := by decide +kernel
theorem dL_act_667 : decode cL_act 667 = .ok (.aload_n 0, 1) := by decide +kernel
theorem dL_act_668 : decode cL_act 668 = .ok (.iload 5, 2) := by decide +kernel
theorem dL_act_670 : decode cL_act 670 = .ok (.invokestatic 143, 3) := by decide +kernel
theorem dL_act_673 : decode cL_act 673 = .ok (.i2l, 1) := by decide +kernel
theorem dL_act_674 : decode cL_act 674 = .ok (.lreturn, 1) := by decide +kernel
theorem dL_act_675 : decode cL_act 675 = .ok (.aload_n 0, 1) := by decide +kernel
theorem dL_act_676 : decode cL_act 676 = .ok (.iload 5, 2) := by decide +kernel
theorem dL_act_678 : decode cL_act 678 = .ok (.iload_n 3, 1) := by decide +kernel
theorem dL_act_679 : decode cL_act 679 = .ok (.invokestatic 145, 3) := by decide +kernel
theorem dL_act_682 : decode cL_act 682 = .ok (.i2l, 1) := by decide +kernel
theorem dL_act_683 : decode cL_act 683 = .ok (.ldc2_w 147, 3) := by decide +kernel
theorem dL_act_686 : decode cL_act 686 = .ok (.lmul, 1) := by decide +kernel
theorem dL_act_687 : decode cL_act 687 = .ok (.aload_n 0, 1) := by decide +kernel
theorem dL_act_688 : decode cL_act 688 = .ok (.invokevirtual 134, 3) := by decide +kernel
theorem dL_act_691 : decode cL_act 691 = .ok (.i2l, 1) := by decide +kernel
theorem dL_act_692 : decode cL_act 692 = .ok (.ladd, 1) := by decide +kernel
theorem dL_act_693 : decode cL_act 693 = .ok (.lreturn, 1) := by decide +kernel
theorem dL_act_694 : decode cL_act 694 = .ok (.aload_n 0, 1) := by decide +kernel
theorem dL_act_695 : decode cL_act 695 = .ok (.iload 5, 2) := by decide +kernel
theorem dL_act_697 : decode cL_act 697 = .ok (.iload_n 3, 1) := by decide +kernel
theorem dL_act_698 : decode cL_act 698 = .ok (.invokestatic 149, 3) := by decide +kernel
theorem dL_act_701 : decode cL_act 701 = .ok (.i2l, 1) := by decide +kernel
theorem dL_act_702 : decode cL_act 702 = .ok (.lreturn, 1) := by decide +kernel
theorem dL_act_703 : decode cL_act 703 = .ok (.aload_n 0, 1) := by decide +kernel
theorem dL_act_704 : decode cL_act 704 = .ok (.iload 5, 2) := by decide +kernel
theorem dL_act_706 : decode cL_act 706 = .ok (.iload_n 3, 1) := by decide +kernel
theorem dL_act_707 : decode cL_act 707 = .ok (.iload 4, 2) := by decide +kernel
theorem dL_act_709 : decode cL_act 709 = .ok (.invokestatic 151, 3) := by decide +kernel
theorem dL_act_712 : decode cL_act 712 = .ok (.lreturn, 1) := by decide +kernel
theorem dL_act_713 : decode cL_act 713 = .ok (.aload_n 0, 1) := by decide +kernel
theorem dL_act_714 : decode cL_act 714 = .ok (.iload_n 3, 1) := by decide +kernel
theorem dL_act_715 : decode cL_act 715 = .ok (.iload 4, 2) := by decide +kernel
theorem dL_act_717 : decode cL_act 717 = .ok (.invokestatic 154, 3) := by decide +kernel
theorem dL_act_720 : decode cL_act 720 = .ok (.i2l, 1) := by decide +kernel
theorem dL_act_721 : decode cL_act 721 = .ok (.lreturn, 1) := by decide +kernel
theorem dL_act_722 : decode cL_act 722 = .ok (.aload_n 0, 1) := by decide +kernel
theorem dL_act_723 : decode cL_act 723 = .ok (.iload_n 3, 1) := by decide +kernel
theorem dL_act_724 : decode cL_act 724 = .ok (.iload 4, 2) := by decide +kernel
theorem dL_act_726 : decode cL_act 726 = .ok (.iload_n 2, 1) := by decide +kernel
theorem dL_act_727 : decode cL_act 727 = .ok (.ifCond .eq 8, 3) := by decide +kernel
theorem dL_act_730 : decode cL_act 730 = .ok (.iload 9, 2) := by decide +kernel
theorem dL_act_732 : decode cL_act 732 = .ok (.goto 11, 3) := by decide +kernel
theorem dL_act_735 : decode cL_act 735 = .ok (.iload_n 1, 1) := by decide +kernel
theorem dL_act_736 : decode cL_act 736 = .ok (.bipush 9, 2) := by decide +kernel
theorem dL_act_738 : decode cL_act 738 = .ok (.ishr, 1) := by decide +kernel
theorem dL_act_739 : decode cL_act 739 = .ok (.iconst 3, 1) := by decide +kernel
theorem dL_act_740 : decode cL_act 740 = .ok (.invokestatic 111, 3) := by decide +kernel
theorem dL_act_743 : decode cL_act 743 = .ok (.iload_n 2, 1) := by decide +kernel
theorem dL_act_744 : decode cL_act 744 = .ok (.ifCond .eq 8, 3) := by decide +kernel
theorem dL_act_747 : decode cL_act 747 = .ok (.iload 9, 2) := by decide +kernel
theorem dL_act_749 : decode cL_act 749 = .ok (.goto 11, 3) := by decide +kernel
theorem dL_act_752 : decode cL_act 752 = .ok (.iload_n 1, 1) := by decide +kernel
theorem dL_act_753 : decode cL_act 753 = .ok (.bipush 12, 2) := by decide +kernel
theorem dL_act_755 : decode cL_act 755 = .ok (.ishr, 1) := by decide +kernel
theorem dL_act_756 : decode cL_act 756 = .ok (.iconst 3, 1) := by decide +kernel
theorem dL_act_757 : decode cL_act 757 = .ok (.invokestatic 111, 3) := by decide +kernel
theorem dL_act_760 : decode cL_act 760 = .ok (.invokestatic 156, 3) := by decide +kernel
theorem dL_act_763 : decode cL_act 763 = .ok (.i2l, 1) := by decide +kernel
theorem dL_act_764 : decode cL_act 764 = .ok (.lreturn, 1) := by decide +kernel
theorem dL_act_765 : decode cL_act 765 = .ok (.aload_n 0, 1) := by decide +kernel
theorem dL_act_766 : decode cL_act 766 = .ok (.iload_n 3, 1) := by decide +kernel
theorem dL_act_767 : decode cL_act 767 = .ok (.iload 4, 2) := by decide +kernel
theorem dL_act_769 : decode cL_act 769 = .ok (.invokestatic 158, 3) := by decide +kernel
theorem dL_act_772 : decode cL_act 772 = .ok (.i2l, 1) := by decide +kernel
theorem dL_act_773 : decode cL_act 773 = .ok (.lreturn, 1) := by decide +kernel
theorem dL_act_774 : decode cL_act 774 = .ok (.aload_n 0, 1) := by decide +kernel
theorem dL_act_775 : decode cL_act 775 = .ok (.iload_n 3, 1) := by decide +kernel
theorem dL_act_776 : decode cL_act 776 = .ok (.iload 4, 2) := by decide +kernel
theorem dL_act_778 : decode cL_act 778 = .ok (.iload 6, 2) := by decide +kernel
theorem dL_act_780 : decode cL_act 780 = .ok (.iload 7, 2) := by decide +kernel
theorem dL_act_782 : decode cL_act 782 = .ok (.invokestatic 160, 3) := by decide +kernel
theorem dL_act_785 : decode cL_act 785 = .ok (.i2l, 1) := by decide +kernel
theorem dL_act_786 : decode cL_act 786 = .ok (.lreturn, 1) := by decide +kernel
theorem dL_act_787 : decode cL_act 787 = .ok (.aload_n 0, 1) := by decide +kernel
theorem dL_act_788 : decode cL_act 788 = .ok (.iload 8, 2) := by decide +kernel
theorem dL_act_790 : decode cL_act 790 = .ok (.iload_n 3, 1) := by decide +kernel
theorem dL_act_791 : decode cL_act 791 = .ok (.iload 4, 2) := by decide +kernel
theorem dL_act_793 : decode cL_act 793 = .ok (.iload 6, 2) := by decide +kernel
theorem dL_act_795 : decode cL_act 795 = .ok (.iload 7, 2) := by decide +kernel
theorem dL_act_797 : decode cL_act 797 = .ok (.invokestatic 162, 3) := by decide +kernel
theorem dL_act_800 : decode cL_act 800 = .ok (.i2l, 1) := by decide +kernel
theorem dL_act_801 : decode cL_act 801 = .ok (.lreturn, 1) := by decide +kernel
theorem dL_act_802 : decode cL_act 802 = .ok (.aload_n 0, 1) := by decide +kernel
theorem dL_act_803 : decode cL_act 803 = .ok (.iload 8, 2) := by decide +kernel
theorem dL_act_805 : decode cL_act 805 = .ok (.invokestatic 164, 3) := by decide +kernel
theorem dL_act_808 : decode cL_act 808 = .ok (.i2l, 1) := by decide +kernel
theorem dL_act_809 : decode cL_act 809 = .ok (.lreturn, 1) := by decide +kernel
theorem dL_act_810 : decode cL_act 810 = .ok (.aload_n 0, 1) := by decide +kernel
theorem dL_act_811 : decode cL_act 811 = .ok (.iload 8, 2) := by decide +kernel
theorem dL_act_813 : decode cL_act 813 = .ok (.invokestatic 166, 3) := by decide +kernel
theorem dL_act_816 : decode cL_act 816 = .ok (.i2l, 1) := by decide +kernel
theorem dL_act_817 : decode cL_act 817 = .ok (.lreturn, 1) := by decide +kernel
theorem dL_act_818 : decode cL_act 818 = .ok (.aload_n 0, 1) := by decide +kernel
theorem dL_act_819 : decode cL_act 819 = .ok (.iload_n 3, 1) := by decide +kernel
theorem dL_act_820 : decode cL_act 820 = .ok (.iload 4, 2) := by decide +kernel
theorem dL_act_822 : decode cL_act 822 = .ok (.iload 6, 2) := by decide +kernel
theorem dL_act_824 : decode cL_act 824 = .ok (.invokestatic 168, 3) := by decide +kernel
theorem dL_act_827 : decode cL_act 827 = .ok (.i2l, 1) := by decide +kernel
theorem dL_act_828 : decode cL_act 828 = .ok (.lreturn, 1) := by decide +kernel
theorem dL_act_829 : decode cL_act 829 = .ok (.aload_n 0, 1) := by decide +kernel
theorem dL_act_830 : decode cL_act 830 = .ok (.iload_n 3, 1) := by decide +kernel
theorem dL_act_831 : decode cL_act 831 = .ok (.iload 4, 2) := by decide +kernel
theorem dL_act_833 : decode cL_act 833 = .ok (.iload 6, 2) := by decide +kernel
theorem dL_act_835 : decode cL_act 835 = .ok (.invokestatic 171, 3) := by decide +kernel
theorem dL_act_838 : decode cL_act 838 = .ok (.i2l, 1) := by decide +kernel
theorem dL_act_839 : decode cL_act 839 = .ok (.lreturn, 1) := by decide +kernel
theorem dL_act_840 : decode cL_act 840 = .ok (.aload_n 0, 1) := by decide +kernel
theorem dL_act_841 : decode cL_act 841 = .ok (.iload_n 2, 1) := by decide +kernel
theorem dL_act_842 : decode cL_act 842 = .ok (.ifCond .eq 8, 3) := by decide +kernel
theorem dL_act_845 : decode cL_act 845 = .ok (.iload 9, 2) := by decide +kernel
theorem dL_act_847 : decode cL_act 847 = .ok (.goto 14, 3) := by decide +kernel
theorem dL_act_850 : decode cL_act 850 = .ok (.iconst 1, 1) := by decide +kernel
theorem dL_act_851 : decode cL_act 851 = .ok (.iload_n 1, 1) := by decide +kernel
theorem dL_act_852 : decode cL_act 852 = .ok (.bipush 9, 2) := by decide +kernel
theorem dL_act_854 : decode cL_act 854 = .ok (.ishr, 1) := by decide +kernel
theorem dL_act_855 : decode cL_act 855 = .ok (.bipush 20, 2) := by decide +kernel
theorem dL_act_857 : decode cL_act 857 = .ok (.invokestatic 111, 3) := by decide +kernel
theorem dL_act_860 : decode cL_act 860 = .ok (.iadd, 1) := by decide +kernel
theorem dL_act_861 : decode cL_act 861 = .ok (.invokestatic 173, 3) := by decide +kernel
theorem dL_act_864 : decode cL_act 864 = .ok (.i2l, 1) := by decide +kernel
theorem dL_act_865 : decode cL_act 865 = .ok (.lreturn, 1) := by decide +kernel
theorem dL_act_866 : decode cL_act 866 = .ok (.aload_n 0, 1) := by decide +kernel
theorem dL_act_867 : decode cL_act 867 = .ok (.iload 6, 2) := by decide +kernel
theorem dL_act_869 : decode cL_act 869 = .ok (.iload_n 2, 1) := by decide +kernel
theorem dL_act_870 : decode cL_act 870 = .ok (.ifCond .eq 8, 3) := by decide +kernel
theorem dL_act_873 : decode cL_act 873 = .ok (.iload 9, 2) := by decide +kernel
theorem dL_act_875 : decode cL_act 875 = .ok (.goto 11, 3) := by decide +kernel
theorem dL_act_878 : decode cL_act 878 = .ok (.iload_n 1, 1) := by decide +kernel
theorem dL_act_879 : decode cL_act 879 = .ok (.iconst 3, 1) := by decide +kernel
theorem dL_act_880 : decode cL_act 880 = .ok (.ishr, 1) := by decide +kernel
theorem dL_act_881 : decode cL_act 881 = .ok (.bipush 121, 2) := by decide +kernel
theorem dL_act_883 : decode cL_act 883 = .ok (.invokestatic 111, 3) := by decide +kernel
theorem dL_act_886 : decode cL_act 886 = .ok (.invokestatic 175, 3) := by decide +kernel
theorem dL_act_889 : decode cL_act 889 = .ok (.i2l, 1) := by decide +kernel
theorem dL_act_890 : decode cL_act 890 = .ok (.lreturn, 1) := by decide +kernel
theorem dL_act_891 : decode cL_act 891 = .ok (.iload_n 1, 1) := by decide +kernel
theorem dL_act_892 : decode cL_act 892 = .ok (.bipush 9, 2) := by decide +kernel
theorem dL_act_894 : decode cL_act 894 = .ok (.ishr, 1) := by decide +kernel
theorem dL_act_895 : decode cL_act 895 = .ok (.iconst 2, 1) := by decide +kernel
theorem dL_act_896 : decode cL_act 896 = .ok (.invokestatic 111, 3) := by decide +kernel
theorem dL_act_899 : decode cL_act 899 = .ok (.ifCond .ne 34, 3) := by decide +kernel
theorem dL_act_902 : decode cL_act 902 = .ok (.aload_n 0, 1) := by decide +kernel
theorem dL_act_903 : decode cL_act 903 = .ok (.iload_n 3, 1) := by decide +kernel
theorem dL_act_904 : decode cL_act 904 = .ok (.iload_n 2, 1) := by decide +kernel
theorem dL_act_905 : decode cL_act 905 = .ok (.ifCond .eq 8, 3) := by decide +kernel
theorem dL_act_908 : decode cL_act 908 = .ok (.iload 9, 2) := by decide +kernel
theorem dL_act_910 : decode cL_act 910 = .ok (.goto 16, 3) := by decide +kernel
theorem dL_act_913 : decode cL_act 913 = .ok (.sipush 1900, 3) := by decide +kernel
theorem dL_act_916 : decode cL_act 916 = .ok (.iload_n 1, 1) := by decide +kernel
theorem dL_act_917 : decode cL_act 917 = .ok (.iconst 3, 1) := by decide +kernel
theorem dL_act_918 : decode cL_act 918 = .ok (.ishr, 1) := by decide +kernel
theorem dL_act_919 : decode cL_act 919 = .ok (.sipush 150, 3) := by decide +kernel
theorem dL_act_922 : decode cL_act 922 = .ok (.invokestatic 111, 3) := by decide +kernel
theorem dL_act_925 : decode cL_act 925 = .ok (.iadd, 1) := by decide +kernel
theorem dL_act_926 : decode cL_act 926 = .ok (.invokestatic 177, 3) := by decide +kernel
theorem dL_act_929 : decode cL_act 929 = .ok (.i2l, 1) := by decide +kernel
theorem dL_act_930 : decode cL_act 930 = .ok (.goto 9, 3) := by decide +kernel
theorem dL_act_933 : decode cL_act 933 = .ok (.aload_n 0, 1) := by decide +kernel
theorem dL_act_934 : decode cL_act 934 = .ok (.iload_n 3, 1) := by decide +kernel
theorem dL_act_935 : decode cL_act 935 = .ok (.invokestatic 179, 3) := by decide +kernel
theorem dL_act_938 : decode cL_act 938 = .ok (.i2l, 1) := by decide +kernel
theorem dL_act_939 : decode cL_act 939 = .ok (.lreturn, 1) := by decide +kernel
theorem dL_act_940 : decode cL_act 940 = .ok (.aload_n 0, 1) := by decide +kernel
theorem dL_act_941 : decode cL_act 941 = .ok (.iload_n 3, 1) := by decide +kernel
theorem dL_act_942 : decode cL_act 942 = .ok (.iload 10, 2) := by decide +kernel
theorem dL_act_944 : decode cL_act 944 = .ok (.invokestatic 181, 3) := by decide +kernel
theorem dL_act_947 : decode cL_act 947 = .ok (.i2l, 1) := by decide +kernel
theorem dL_act_948 : decode cL_act 948 = .ok (.lreturn, 1) := by decide +kernel
theorem dL_act_949 : decode cL_act 949 = .ok (.aload_n 0, 1) := by decide +kernel
theorem dL_act_950 : decode cL_act 950 = .ok (.iload_n 3, 1) := by decide +kernel
theorem dL_act_951 : decode cL_act 951 = .ok (.iload 4, 2) := by decide +kernel
theorem dL_act_953 : decode cL_act 953 = .ok (.iload 6, 2) := by decide +kernel
theorem dL_act_955 : decode cL_act 955 = .ok (.invokestatic 184, 3) := by decide +kernel
theorem dL_act_958 : decode cL_act 958 = .ok (.i2l, 1) := by decide +kernel
theorem dL_act_959 : decode cL_act 959 = .ok (.lreturn, 1) := by decide +kernel
theorem dL_act_960 : decode cL_act 960 = .ok (.aload_n 0, 1) := by decide +kernel
theorem dL_act_961 : decode cL_act 961 = .ok (.iload_n 3, 1) := by decide +kernel
theorem dL_act_962 : decode cL_act 962 = .ok (.iload_n 2, 1) := by decide +kernel
theorem dL_act_963 : decode cL_act 963 = .ok (.ifCond .eq 8, 3) := by decide +kernel
theorem dL_act_966 : decode cL_act 966 = .ok (.iload 9, 2) := by decide +kernel
theorem dL_act_968 : decode cL_act 968 = .ok (.goto 12, 3) := by decide +kernel
theorem dL_act_971 : decode cL_act 971 = .ok (.iload_n 1, 1) := by decide +kernel
theorem dL_act_972 : decode cL_act 972 = .ok (.bipush 9, 2) := by decide +kernel
theorem dL_act_974 : decode cL_act 974 = .ok (.ishr, 1) := by decide +kernel
theorem dL_act_975 : decode cL_act 975 = .ok (.bipush 6, 2) := by decide +kernel
theorem dL_act_977 : decode cL_act 977 = .ok (.invokestatic 111, 3) := by decide +kernel
theorem dL_act_980 : decode cL_act 980 = .ok (.invokestatic 186, 3) := by decide +kernel
theorem dL_act_983 : decode cL_act 983 = .ok (.i2l, 1) := by decide +kernel
theorem dL_act_984 : decode cL_act 984 = .ok (.lreturn, 1) := by decide +kernel
theorem dL_areAlike_0 : decode cL_areAlike 0 = .ok (.aload_n 0, 1) := by decide +kernel
theorem dL_areAlike_1 : decode cL_areAlike 1 = .ok (.invokevirtual 119, 3) := by decide +kernel
theorem dL_areAlike_4 : decode cL_areAlike 4 = .ok (.aload_n 1, 1) := by decide +kernel
theorem dL_areAlike_5 : decode cL_areAlike 5 = .ok (.invokevirtual 119, 3) := by decide +kernel
theorem dL_areAlike_8 : decode cL_areAlike 8 = .ok (.if_icmp .ne 18, 3) := by decide +kernel
theorem dL_areAlike_11 : decode cL_areAlike 11 = .ok (.aload_n 0, 1) := by decide +kernel
theorem dL_areAlike_12 : decode cL_areAlike 12 = .ok (.invokevirtual 134, 3) := by decide +kernel
theorem dL_areAlike_15 : decode cL_areAlike 15 = .ok (.aload_n 1, 1) := by decide +kernel
theorem dL_areAlike_16 : decode cL_areAlike 16 = .ok (.invokevirtual 134, 3) := by decide +kernel
theorem dL_areAlike_19 : decode cL_areAlike 19 = .ok (.if_icmp .ne 7, 3) := by decide +kernel
theorem dL_areAlike_22 : decode cL_areAlike 22 = .ok (.iconst 1, 1) := by decide +kernel
theorem dL_areAlike_23 : decode cL_areAlike 23 = .ok (.goto 4, 3) := by decide +kernel
theorem dL_areAlike_26 : decode cL_areAlike 26 = .ok (.iconst 0, 1) := by decide +kernel
theorem dL_areAlike_27 : decode cL_areAlike 27 = .ok (.istore_n 3, 1) := by decide +kernel
theorem dL_areAlike_28 : decode cL_areAlike 28 = .ok (.iconst 0, 1) := by decide +kernel
theorem dL_areAlike_29 : decode cL_areAlike 29 = .ok (.istore 4, 2) := by decide +kernel
theorem dL_areAlike_31 : decode cL_areAlike 31 = .ok (.iload 4, 2) := by decide +kernel
theorem dL_areAlike_33 : decode cL_areAlike 33 = .ok (.bipush 6, 2) := by decide +kernel
theorem dL_areAlike_35 : decode cL_areAlike 35 = .ok (.if_icmp .ge 194, 3) := by decide +kernel
theorem dL_areAlike_38 : decode cL_areAlike 38 = .ok (.iload_n 3, 1) := by decide +kernel
theorem dL_areAlike_39 : decode cL_areAlike 39 = .ok (.ifCond .eq 190, 3) := by decide +kernel
theorem dL_areAlike_42 : decode cL_areAlike 42 = .ok (.iload_n 2, 1) := by decide +kernel
theorem dL_areAlike_43 : decode cL_areAlike 43 = .ok (.iconst 3, 1) := by decide +kernel
theorem dL_areAlike_44 : decode cL_areAlike 44 = .ok (.iload 4, 2) := by decide +kernel
theorem dL_areAlike_46 : decode cL_areAlike 46 = .ok (.imul, 1) := by decide +kernel
theorem dL_areAlike_47 : decode cL_areAlike 47 = .ok (.iadd, 1) := by decide +kernel
theorem dL_areAlike_48 : decode cL_areAlike 48 = .ok (.bipush 6, 2) := by decide +kernel
theorem dL_areAlike_50 : decode cL_areAlike 50 = .ok (.invokestatic 111, 3) := by decide +kernel
theorem dL_areAlike_53 : decode cL_areAlike 53 = .ok (.istore 5, 2) := by decide +kernel
theorem dL_areAlike_55 : decode cL_areAlike 55 = .ok (.aload_n 0, 1) := by decide +kernel
theorem dL_areAlike_56 : decode cL_areAlike 56 = .ok (.iload 4, 2) := by decide +kernel
theorem dL_areAlike_58 : decode cL_areAlike 58 = .ok (.iconst 3, 1) := by decide +kernel
theorem dL_areAlike_59 : decode cL_areAlike 59 = .ok (.invokestatic 111, 3) := by decide +kernel
theorem dL_areAlike_62 : decode cL_areAlike 62 = .ok (.iload_n 2, 1) := by decide +kernel
theorem dL_areAlike_63 : decode cL_areAlike 63 = .ok (.bipush 6, 2) := by decide +kernel
theorem dL_areAlike_65 : decode cL_areAlike 65 = .ok (.invokestatic 111, 3) := by decide +kernel
theorem dL_areAlike_68 : decode cL_areAlike 68 = .ok (.invokestatic 186, 3) := by decide +kernel
theorem dL_areAlike_71 : decode cL_areAlike 71 = .ok (.aload_n 1, 1) := by decide +kernel
theorem dL_areAlike_72 : decode cL_areAlike 72 = .ok (.iload 4, 2) := by decide +kernel
theorem dL_areAlike_74 : decode cL_areAlike 74 = .ok (.iconst 3, 1) := by decide +kernel
theorem dL_areAlike_75 : decode cL_areAlike 75 = .ok (.invokestatic 111, 3) := by decide +kernel
theorem dL_areAlike_78 : decode cL_areAlike 78 = .ok (.iload_n 2, 1) := by decide +kernel
theorem dL_areAlike_79 : decode cL_areAlike 79 = .ok (.bipush 6, 2) := by decide +kernel
theorem dL_areAlike_81 : decode cL_areAlike 81 = .ok (.invokestatic 111, 3) := by decide +kernel
theorem dL_areAlike_84 : decode cL_areAlike 84 = .ok (.invokestatic 186, 3) := by decide +kernel
theorem dL_areAlike_87 : decode cL_areAlike 87 = .ok (.if_icmp .ne 134, 3) := by decide +kernel
theorem dL_areAlike_90 : decode cL_areAlike 90 = .ok (.aload_n 0, 1) := by decide +kernel
theorem dL_areAlike_91 : decode cL_areAlike 91 = .ok (.iload 4, 2) := by decide +kernel
theorem dL_areAlike_93 : decode cL_areAlike 93 = .ok (.iconst 3, 1) := by decide +kernel
theorem dL_areAlike_94 : decode cL_areAlike 94 = .ok (.invokestatic 111, 3) := by decide +kernel
theorem dL_areAlike_97 : decode cL_areAlike 97 = .ok (.iload 5, 2) := by decide +kernel
theorem dL_areAlike_99 : decode cL_areAlike 99 = .ok (.iload_n 2, 1) := by decide +kernel
theorem dL_areAlike_100 : decode cL_areAlike 100 = .ok (.iconst 4, 1) := by decide +kernel
theorem dL_areAlike_101 : decode cL_areAlike 101 = .ok (.invokestatic 111, 3) := by decide +kernel
theorem dL_areAlike_104 : decode cL_areAlike 104 = .ok (.invokestatic 184, 3) := by decide +kernel
theorem dL_areAlike_107 : decode cL_areAlike 107 = .ok (.aload_n 1, 1) := by decide +kernel
theorem dL_areAlike_108 : decode cL_areAlike 108 = .ok (.iload 4, 2) := by decide +kernel
theorem dL_areAlike_110 : decode cL_areAlike 110 = .ok (.iconst 3, 1) := by decide +kernel
theorem dL_areAlike_111 : decode cL_areAlike 111 = .ok (.invokestatic 111, 3) := by decide +kernel
theorem dL_areAlike_114 : decode cL_areAlike 114 = .ok (.iload 5, 2) := by decide +kernel
theorem dL_areAlike_116 : decode cL_areAlike 116 = .ok (.iload_n 2, 1) := by decide +kernel
theorem dL_areAlike_117 : decode cL_areAlike 117 = .ok (.iconst 4, 1) := by decide +kernel
theorem dL_areAlike_118 : decode cL_areAlike 118 = .ok (.invokestatic 111, 3) := by decide +kernel
theorem dL_areAlike_121 : decode cL_areAlike 121 = .ok (.invokestatic 184, 3) := by decide +kernel
theorem dL_areAlike_124 : decode cL_areAlike 124 = .ok (.if_icmp .ne 97, 3) := by decide +kernel
theorem dL_areAlike_127 : decode cL_areAlike 127 = .ok (.aload_n 0, 1) := by decide +kernel
theorem dL_areAlike_128 : decode cL_areAlike 128 = .ok (.iload_n 2, 1) := by decide +kernel
theorem dL_areAlike_129 : decode cL_areAlike 129 = .ok (.iconst 4, 1) := by decide +kernel
theorem dL_areAlike_130 : decode cL_areAlike 130 = .ok (.invokestatic 111, 3) := by decide +kernel
theorem dL_areAlike_133 : decode cL_areAlike 133 = .ok (.iload 4, 2) := by decide +kernel
theorem dL_areAlike_135 : decode cL_areAlike 135 = .ok (.iconst 3, 1) := by decide +kernel
theorem dL_areAlike_136 : decode cL_areAlike 136 = .ok (.invokestatic 111, 3) := by decide +kernel
theorem dL_areAlike_139 : decode cL_areAlike 139 = .ok (.iload 5, 2) := by decide +kernel
theorem dL_areAlike_141 : decode cL_areAlike 141 = .ok (.invokestatic 151, 3) := by decide +kernel
theorem dL_areAlike_144 : decode cL_areAlike 144 = .ok (.aload_n 1, 1) := by decide +kernel
theorem dL_areAlike_145 : decode cL_areAlike 145 = .ok (.iload_n 2, 1) := by decide +kernel
theorem dL_areAlike_146 : decode cL_areAlike 146 = .ok (.iconst 4, 1) := by decide +kernel
theorem dL_areAlike_147 : decode cL_areAlike 147 = .ok (.invokestatic 111, 3) := by decide +kernel
theorem dL_areAlike_150 : decode cL_areAlike 150 = .ok (.iload 4, 2) := by decide +kernel
theorem dL_areAlike_152 : decode cL_areAlike 152 = .ok (.iconst 3, 1) := by decide +kernel
theorem dL_areAlike_153 : decode cL_areAlike 153 = .ok (.invokestatic 111, 3) := by decide +kernel
theorem dL_areAlike_156 : decode cL_areAlike 156 = .ok (.iload 5, 2) := by decide +kernel
theorem dL_areAlike_158 : decode cL_areAlike 158 = .ok (.invokestatic 151, 3) := by decide +kernel
theorem dL_areAlike_161 : decode cL_areAlike 161 = .ok (.lcmp, 1) := by decide +kernel
theorem dL_areAlike_162 : decode cL_areAlike 162 = .ok (.ifCond .ne 59, 3) := by decide +kernel
theorem dL_areAlike_165 : decode cL_areAlike 165 = .ok (.aload_n 0, 1) := by decide +kernel
theorem dL_areAlike_166 : decode cL_areAlike 166 = .ok (.iload 4, 2) := by decide +kernel
theorem dL_areAlike_168 : decode cL_areAlike 168 = .ok (.invokestatic 166, 3) := by decide +kernel
theorem dL_areAlike_171 : decode cL_areAlike 171 = .ok (.aload_n 1, 1) := by decide +kernel
theorem dL_areAlike_172 : decode cL_areAlike 172 = .ok (.iload 4, 2) := by decide +kernel
theorem dL_areAlike_174 : decode cL_areAlike 174 = .ok (.invokestatic 166, 3) := by decide +kernel
theorem dL_areAlike_177 : decode cL_areAlike 177 = .ok (.if_icmp .ne 44, 3) := by decide +kernel
theorem dL_areAlike_180 : decode cL_areAlike 180 = .ok (.aload_n 0, 1) := by decide +kernel
theorem dL_areAlike_181 : decode cL_areAlike 181 = .ok (.iload 4, 2) := by decide +kernel
theorem dL_areAlike_183 : decode cL_areAlike 183 = .ok (.iconst 3, 1) := by decide +kernel
theorem dL_areAlike_184 : decode cL_areAlike 184 = .ok (.invokestatic 111, 3) := by decide +kernel
theorem dL_areAlike_187 : decode cL_areAlike 187 = .ok (.iload 5, 2) := by decide +kernel
theorem dL_areAlike_189 : decode cL_areAlike 189 = .ok (.iload_n 2, 1) := by decide +kernel
theorem dL_areAlike_190 : decode cL_areAlike 190 = .ok (.iconst 4, 1) := by decide +kernel
theorem dL_areAlike_191 : decode cL_areAlike 191 = .ok (.invokestatic 111, 3) := by decide +kernel
theorem dL_areAlike_194 : decode cL_areAlike 194 = .ok (.invokestatic 168, 3) := by decide +kernel
theorem dL_areAlike_197 : decode cL_areAlike 197 = .ok (.aload_n 1, 1) := by decide +kernel
theorem dL_areAlike_198 : decode cL_areAlike 198 = .ok (.iload 4, 2) := by decide +kernel
theorem dL_areAlike_200 : decode cL_areAlike 200 = .ok (.iconst 3, 1) := by decide +kernel
theorem dL_areAlike_201 : decode cL_areAlike 201 = .ok (.invokestatic 111, 3) := by decide +kernel
theorem dL_areAlike_204 : decode cL_areAlike 204 = .ok (.iload 5, 2) := by decide +kernel
theorem dL_areAlike_206 : decode cL_areAlike 206 = .ok (.iload_n 2, 1) := by decide +kernel
theorem dL_areAlike_207 : decode cL_areAlike 207 = .ok (.iconst 4, 1) := by decide +kernel
theorem dL_areAlike_208 : decode cL_areAlike 208 = .ok (.invokestatic 111, 3) := by decide +kernel
theorem dL_areAlike_211 : decode cL_areAlike 211 = .ok (.invokestatic 168, 3) := by decide +kernel
theorem dL_areAlike_214 : decode cL_areAlike 214 = .ok (.if_icmp .ne 7, 3) := by decide +kernel
theorem dL_areAlike_217 : decode cL_areAlike 217 = .ok (.iconst 1, 1) := by decide +kernel
theorem dL_areAlike_218 : decode cL_areAlike 218 = .ok (.goto 4, 3) := by decide +kernel
theorem dL_areAlike_221 : decode cL_areAlike 221 = .ok (.iconst 0, 1) := by decide +kernel
theorem dL_areAlike_222 : decode cL_areAlike 222 = .ok (.istore_n 3, 1) := by decide +kernel
theorem dL_areAlike_223 : decode cL_areAlike 223 = .ok (.iinc 4 1, 3) := by decide +kernel
theorem dL_areAlike_226 : decode cL_areAlike 226 = .ok (.goto (-195), 3) := by decide +kernel
theorem dL_areAlike_229 : decode cL_areAlike 229 = .ok (.iload_n 3, 1) := by decide +kernel
theorem dL_areAlike_230 : decode cL_areAlike 230 = .ok (.ireturn, 1) := by decide +kernel
theorem dL_isBookSo_0 : decode cL_isBookSo 0 = .ok (.aload_n 0, 1) := by decide +kernel
theorem dL_isBookSo_1 : decode cL_isBookSo 1 = .ok (.iload_n 1, 1) := by decide +kernel
theorem dL_isBookSo_2 : decode cL_isBookSo 2 = .ok (.iconst 0, 1) := by decide +kernel
theorem dL_isBookSo_3 : decode cL_isBookSo 3 = .ok (.invokevirtual 108, 3) := by decide +kernel
theorem dL_isBookSo_6 : decode cL_isBookSo 6 = .ok (.ifCond .lt 63, 3) := by decide +kernel
theorem dL_isBookSo_9 : decode cL_isBookSo 9 = .ok (.aload_n 0, 1) := by decide +kernel
theorem dL_isBookSo_10 : decode cL_isBookSo 10 = .ok (.iload_n 1, 1) := by decide +kernel
theorem dL_isBookSo_11 : decode cL_isBookSo 11 = .ok (.iconst 1, 1) := by decide +kernel
theorem dL_isBookSo_12 : decode cL_isBookSo 12 = .ok (.invokevirtual 108, 3) := by decide +kernel
theorem dL_isBookSo_15 : decode cL_isBookSo 15 = .ok (.bipush 12, 2) := by decide +kernel
theorem dL_isBookSo_17 : decode cL_isBookSo 17 = .ok (.if_icmp .gt 52, 3) := by decide +kernel
theorem dL_isBookSo_20 : decode cL_isBookSo 20 = .ok (.aload_n 0, 1) := by decide +kernel
theorem dL_isBookSo_21 : decode cL_isBookSo 21 = .ok (.iload_n 1, 1) := by decide +kernel
theorem dL_isBookSo_22 : decode cL_isBookSo 22 = .ok (.iconst 2, 1) := by decide +kernel
theorem dL_isBookSo_23 : decode cL_isBookSo 23 = .ok (.invokevirtual 108, 3) := by decide +kernel
theorem dL_isBookSo_26 : decode cL_isBookSo 26 = .ok (.aload_n 0, 1) := by decide +kernel
theorem dL_isBookSo_27 : decode cL_isBookSo 27 = .ok (.iload_n 1, 1) := by decide +kernel
theorem dL_isBookSo_28 : decode cL_isBookSo 28 = .ok (.iconst 1, 1) := by decide +kernel
theorem dL_isBookSo_29 : decode cL_isBookSo 29 = .ok (.invokevirtual 108, 3) := by decide +kernel
theorem dL_isBookSo_32 : decode cL_isBookSo 32 = .ok (.if_icmp .gt 37, 3) := by decide +kernel
theorem dL_isBookSo_35 : decode cL_isBookSo 35 = .ok (.aload_n 0, 1) := by decide +kernel
theorem dL_isBookSo_36 : decode cL_isBookSo 36 = .ok (.iload_n 1, 1) := by decide +kernel
theorem dL_isBookSo_37 : decode cL_isBookSo 37 = .ok (.iconst 3, 1) := by decide +kernel
theorem dL_isBookSo_38 : decode cL_isBookSo 38 = .ok (.invokevirtual 108, 3) := by decide +kernel
theorem dL_isBookSo_41 : decode cL_isBookSo 41 = .ok (.aload_n 0, 1) := by decide +kernel
theorem dL_isBookSo_42 : decode cL_isBookSo 42 = .ok (.iload_n 1, 1) := by decide +kernel
theorem dL_isBookSo_43 : decode cL_isBookSo 43 = .ok (.iconst 1, 1) := by decide +kernel
theorem dL_isBookSo_44 : decode cL_isBookSo 44 = .ok (.invokevirtual 108, 3) := by decide +kernel
theorem dL_isBookSo_47 : decode cL_isBookSo 47 = .ok (.if_icmp .gt 22, 3) := by decide +kernel
theorem dL_isBookSo_50 : decode cL_isBookSo 50 = .ok (.aload_n 0, 1) := by decide +kernel
theorem dL_isBookSo_51 : decode cL_isBookSo 51 = .ok (.iload_n 1, 1) := by decide +kernel
theorem dL_isBookSo_52 : decode cL_isBookSo 52 = .ok (.iconst 5, 1) := by decide +kernel
theorem dL_isBookSo_53 : decode cL_isBookSo 53 = .ok (.invokevirtual 108, 3) := by decide +kernel
theorem dL_isBookSo_56 : decode cL_isBookSo 56 = .ok (.aload_n 0, 1) := by decide +kernel
theorem dL_isBookSo_57 : decode cL_isBookSo 57 = .ok (.iload_n 1, 1) := by decide +kernel
theorem dL_isBookSo_58 : decode cL_isBookSo 58 = .ok (.iconst 1, 1) := by decide +kernel
theorem dL_isBookSo_59 : decode cL_isBookSo 59 = .ok (.invokevirtual 108, 3) := by decide +kernel
theorem dL_isBookSo_62 : decode cL_isBookSo 62 = .ok (.if_icmp .lt 7, 3) := by decide +kernel
theorem dL_isBookSo_65 : decode cL_isBookSo 65 = .ok (.iconst 1, 1) := by decide +kernel
theorem dL_isBookSo_66 : decode cL_isBookSo 66 = .ok (.goto 4, 3) := by decide +kernel
theorem dL_isBookSo_69 : decode cL_isBookSo 69 = .ok (.iconst 0, 1) := by decide +kernel
theorem dL_isBookSo_70 : decode cL_isBookSo 70 = .ok (.istore_n 3, 1) := by decide +kernel
theorem dL_isBookSo_71 : decode cL_isBookSo 71 = .ok (.iload_n 2, 1) := by decide +kernel
theorem dL_isBookSo_72 : decode cL_isBookSo 72 = .ok (.iconst 4, 1) := by decide +kernel
theorem dL_isBookSo_73 : decode cL_isBookSo 73 = .ok (.invokestatic 111, 3) := by decide +kernel
theorem dL_isBookSo_76 : decode cL_isBookSo 76 = .ok (.istore 4, 2) := by decide +kernel
theorem dL_isBookSo_78 : decode cL_isBookSo 78 = .ok (.iconst 0, 1) := by decide +kernel
theorem dL_isBookSo_79 : decode cL_isBookSo 79 = .ok (.istore 5, 2) := by decide +kernel
theorem dL_isBookSo_81 : decode cL_isBookSo 81 = .ok (.iload 5, 2) := by decide +kernel
theorem dL_isBookSo_83 : decode cL_isBookSo 83 = .ok (.bipush 12, 2) := by decide +kernel
theorem dL_isBookSo_85 : decode cL_isBookSo 85 = .ok (.if_icmp .ge 130, 3) := by decide +kernel
theorem dL_isBookSo_88 : decode cL_isBookSo 88 = .ok (.iload_n 3, 1) := by decide +kernel
theorem dL_isBookSo_89 : decode cL_isBookSo 89 = .ok (.ifCond .eq 126, 3) := by decide +kernel
theorem dL_isBookSo_92 : decode cL_isBookSo 92 = .ok (.aload_n 0, 1) := by decide +kernel
theorem dL_isBookSo_93 : decode cL_isBookSo 93 = .ok (.iload_n 1, 1) := by decide +kernel
theorem dL_isBookSo_94 : decode cL_isBookSo 94 = .ok (.iload 5, 2) := by decide +kernel
theorem dL_isBookSo_96 : decode cL_isBookSo 96 = .ok (.invokestatic 154, 3) := by decide +kernel
theorem dL_isBookSo_99 : decode cL_isBookSo 99 = .ok (.istore 6, 2) := by decide +kernel
theorem dL_isBookSo_101 : decode cL_isBookSo 101 = .ok (.aload_n 0, 1) := by decide +kernel
theorem dL_isBookSo_102 : decode cL_isBookSo 102 = .ok (.iload_n 1, 1) := by decide +kernel
theorem dL_isBookSo_103 : decode cL_isBookSo 103 = .ok (.iload 5, 2) := by decide +kernel
theorem dL_isBookSo_105 : decode cL_isBookSo 105 = .ok (.iload_n 2, 1) := by decide +kernel
theorem dL_isBookSo_106 : decode cL_isBookSo 106 = .ok (.iconst 4, 1) := by decide +kernel
theorem dL_isBookSo_107 : decode cL_isBookSo 107 = .ok (.invokestatic 111, 3) := by decide +kernel
theorem dL_isBookSo_110 : decode cL_isBookSo 110 = .ok (.invokestatic 184, 3) := by decide +kernel
theorem dL_isBookSo_113 : decode cL_isBookSo 113 = .ok (.istore 7, 2) := by decide +kernel
theorem dL_isBookSo_115 : decode cL_isBookSo 115 = .ok (.iload 6, 2) := by decide +kernel
theorem dL_isBookSo_117 : decode cL_isBookSo 117 = .ok (.ifCond .lt 46, 3) := by decide +kernel
theorem dL_isBookSo_120 : decode cL_isBookSo 120 = .ok (.iload 6, 2) := by decide +kernel
theorem dL_isBookSo_122 : decode cL_isBookSo 122 = .ok (.iconst 1, 1) := by decide +kernel
theorem dL_isBookSo_123 : decode cL_isBookSo 123 = .ok (.if_icmp .ne 7, 3) := by decide +kernel
theorem dL_isBookSo_126 : decode cL_isBookSo 126 = .ok (.iconst 1, 1) := by decide +kernel
theorem dL_isBookSo_127 : decode cL_isBookSo 127 = .ok (.goto 4, 3) := by decide +kernel
theorem dL_isBookSo_130 : decode cL_isBookSo 130 = .ok (.iconst 0, 1) := by decide +kernel
theorem dL_isBookSo_131 : decode cL_isBookSo 131 = .ok (.iload 7, 2) := by decide +kernel
theorem dL_isBookSo_133 : decode cL_isBookSo 133 = .ok (.iconst 5, 1) := by decide +kernel
theorem dL_isBookSo_134 : decode cL_isBookSo 134 = .ok (.if_icmp .ne 7, 3) := by decide +kernel
theorem dL_isBookSo_137 : decode cL_isBookSo 137 = .ok (.iconst 1, 1) := by decide +kernel
theorem dL_isBookSo_138 : decode cL_isBookSo 138 = .ok (.goto 4, 3) := by decide +kernel
theorem dL_isBookSo_141 : decode cL_isBookSo 141 = .ok (.iconst 0, 1) := by decide +kernel
theorem dL_isBookSo_142 : decode cL_isBookSo 142 = .ok (.if_icmp .eq 21, 3) := by decide +kernel
theorem dL_isBookSo_145 : decode cL_isBookSo 145 = .ok (.iload 6, 2) := by decide +kernel
theorem dL_isBookSo_147 : decode cL_isBookSo 147 = .ok (.iconst 1, 1) := by decide +kernel
theorem dL_isBookSo_148 : decode cL_isBookSo 148 = .ok (.if_icmp .ne 19, 3) := by decide +kernel
theorem dL_isBookSo_151 : decode cL_isBookSo 151 = .ok (.iload 7, 2) := by decide +kernel
theorem dL_isBookSo_153 : decode cL_isBookSo 153 = .ok (.iconst 1, 1) := by decide +kernel
theorem dL_isBookSo_154 : decode cL_isBookSo 154 = .ok (.if_icmp .le 13, 3) := by decide +kernel
theorem dL_isBookSo_157 : decode cL_isBookSo 157 = .ok (.iload 7, 2) := by decide +kernel
theorem dL_isBookSo_159 : decode cL_isBookSo 159 = .ok (.iconst 5, 1) := by decide +kernel
theorem dL_isBookSo_160 : decode cL_isBookSo 160 = .ok (.if_icmp .ge 7, 3) := by decide +kernel
theorem dL_isBookSo_163 : decode cL_isBookSo 163 = .ok (.iconst 1, 1) := by decide +kernel
theorem dL_isBookSo_164 : decode cL_isBookSo 164 = .ok (.goto 4, 3) := by decide +kernel
theorem dL_isBookSo_167 : decode cL_isBookSo 167 = .ok (.iconst 0, 1) := by decide +kernel
theorem dL_isBookSo_168 : decode cL_isBookSo 168 = .ok (.istore_n 3, 1) := by decide +kernel
theorem dL_isBookSo_169 : decode cL_isBookSo 169 = .ok (.iload_n 3, 1) := by decide +kernel
theorem dL_isBookSo_170 : decode cL_isBookSo 170 = .ok (.ifCond .eq 37, 3) := by decide +kernel
theorem dL_isBookSo_173 : decode cL_isBookSo 173 = .ok (.aload_n 0, 1) := by decide +kernel
theorem dL_isBookSo_174 : decode cL_isBookSo 174 = .ok (.iload_n 1, 1) := by decide +kernel
theorem dL_isBookSo_175 : decode cL_isBookSo 175 = .ok (.iload 5, 2) := by decide +kernel
theorem dL_isBookSo_177 : decode cL_isBookSo 177 = .ok (.invokestatic 158, 3) := by decide +kernel
theorem dL_isBookSo_180 : decode cL_isBookSo 180 = .ok (.aload_n 0, 1) := by decide +kernel
theorem dL_isBookSo_181 : decode cL_isBookSo 181 = .ok (.iload_n 1, 1) := by decide +kernel
theorem dL_isBookSo_182 : decode cL_isBookSo 182 = .ok (.iload 5, 2) := by decide +kernel
theorem dL_isBookSo_184 : decode cL_isBookSo 184 = .ok (.invokestatic 188, 3) := by decide +kernel
theorem dL_isBookSo_187 : decode cL_isBookSo 187 = .ok (.if_icmp .ne 20, 3) := by decide +kernel
theorem dL_isBookSo_190 : decode cL_isBookSo 190 = .ok (.aload_n 0, 1) := by decide +kernel
theorem dL_isBookSo_191 : decode cL_isBookSo 191 = .ok (.iload_n 1, 1) := by decide +kernel
theorem dL_isBookSo_192 : decode cL_isBookSo 192 = .ok (.iload 5, 2) := by decide +kernel
theorem dL_isBookSo_194 : decode cL_isBookSo 194 = .ok (.iconst 0, 1) := by decide +kernel
theorem dL_isBookSo_195 : decode cL_isBookSo 195 = .ok (.invokestatic 171, 3) := by decide +kernel
theorem dL_isBookSo_198 : decode cL_isBookSo 198 = .ok (.bipush 100, 2) := by decide +kernel
theorem dL_isBookSo_200 : decode cL_isBookSo 200 = .ok (.if_icmp .gt 7, 3) := by decide +kernel
theorem dL_isBookSo_203 : decode cL_isBookSo 203 = .ok (.iconst 1, 1) := by decide +kernel
theorem dL_isBookSo_204 : decode cL_isBookSo 204 = .ok (.goto 4, 3) := by decide +kernel
theorem dL_isBookSo_207 : decode cL_isBookSo 207 = .ok (.iconst 0, 1) := by decide +kernel
theorem dL_isBookSo_208 : decode cL_isBookSo 208 = .ok (.istore_n 3, 1) := by decide +kernel
theorem dL_isBookSo_209 : decode cL_isBookSo 209 = .ok (.iinc 5 1, 3) := by decide +kernel
theorem dL_isBookSo_212 : decode cL_isBookSo 212 = .ok (.goto (-131), 3) := by decide +kernel
theorem dL_isBookSo_215 : decode cL_isBookSo 215 = .ok (.aload_n 0, 1) := by decide +kernel
theorem dL_isBookSo_216 : decode cL_isBookSo 216 = .ok (.iload 4, 2) := by decide +kernel
theorem dL_isBookSo_218 : decode cL_isBookSo 218 = .ok (.iload_n 1, 1) := by decide +kernel
theorem dL_isBookSo_219 : decode cL_isBookSo 219 = .ok (.invokestatic 149, 3) := by decide +kernel
theorem dL_isBookSo_222 : decode cL_isBookSo 222 = .ok (.istore 5, 2) := by decide +kernel
theorem dL_isBookSo_224 : decode cL_isBookSo 224 = .ok (.aload_n 0, 1) := by decide +kernel
theorem dL_isBookSo_225 : decode cL_isBookSo 225 = .ok (.iload 4, 2) := by decide +kernel
theorem dL_isBookSo_227 : decode cL_isBookSo 227 = .ok (.iload_n 1, 1) := by decide +kernel
theorem dL_isBookSo_228 : decode cL_isBookSo 228 = .ok (.invokevirtual 41, 3) := by decide +kernel
theorem dL_isBookSo_231 : decode cL_isBookSo 231 = .ok (.istore 6, 2) := by decide +kernel
theorem dL_isBookSo_233 : decode cL_isBookSo 233 = .ok (.iconst 0, 1) := by decide +kernel
theorem dL_isBookSo_234 : decode cL_isBookSo 234 = .ok (.istore 7, 2) := by decide +kernel
theorem dL_isBookSo_236 : decode cL_isBookSo 236 = .ok (.iload 7, 2) := by decide +kernel
theorem dL_isBookSo_238 : decode cL_isBookSo 238 = .ok (.bipush 12, 2) := by decide +kernel
theorem dL_isBookSo_240 : decode cL_isBookSo 240 = .ok (.if_icmp .ge 45, 3) := by decide +kernel
theorem dL_isBookSo_243 : decode cL_isBookSo 243 = .ok (.iload_n 3, 1) := by decide +kernel
theorem dL_isBookSo_244 : decode cL_isBookSo 244 = .ok (.ifCond .eq 41, 3) := by decide +kernel
theorem dL_isBookSo_247 : decode cL_isBookSo 247 = .ok (.iload 5, 2) := by decide +kernel
theorem dL_isBookSo_249 : decode cL_isBookSo 249 = .ok (.ifCond .lt 24, 3) := by decide +kernel
theorem dL_isBookSo_252 : decode cL_isBookSo 252 = .ok (.iload 6, 2) := by decide +kernel
theorem dL_isBookSo_254 : decode cL_isBookSo 254 = .ok (.iload 7, 2) := by decide +kernel
theorem dL_isBookSo_256 : decode cL_isBookSo 256 = .ok (.ishr, 1) := by decide +kernel
theorem dL_isBookSo_257 : decode cL_isBookSo 257 = .ok (.iconst 1, 1) := by decide +kernel
theorem dL_isBookSo_258 : decode cL_isBookSo 258 = .ok (.iand, 1) := by decide +kernel
theorem dL_isBookSo_259 : decode cL_isBookSo 259 = .ok (.ifCond .eq 14, 3) := by decide +kernel
theorem dL_isBookSo_262 : decode cL_isBookSo 262 = .ok (.aload_n 0, 1) := by decide +kernel
theorem dL_isBookSo_263 : decode cL_isBookSo 263 = .ok (.iload_n 1, 1) := by decide +kernel
theorem dL_isBookSo_264 : decode cL_isBookSo 264 = .ok (.iload 7, 2) := by decide +kernel
theorem dL_isBookSo_266 : decode cL_isBookSo 266 = .ok (.invokestatic 154, 3) := by decide +kernel
theorem dL_isBookSo_269 : decode cL_isBookSo 269 = .ok (.iconst 1, 1) := by decide +kernel
theorem dL_isBookSo_270 : decode cL_isBookSo 270 = .ok (.if_icmp .ne 7, 3) := by decide +kernel
theorem dL_isBookSo_273 : decode cL_isBookSo 273 = .ok (.iconst 1, 1) := by decide +kernel
theorem dL_isBookSo_274 : decode cL_isBookSo 274 = .ok (.goto 4, 3) := by decide +kernel
theorem dL_isBookSo_277 : decode cL_isBookSo 277 = .ok (.iconst 0, 1) := by decide +kernel
theorem dL_isBookSo_278 : decode cL_isBookSo 278 = .ok (.istore_n 3, 1) := by decide +kernel
theorem dL_isBookSo_279 : decode cL_isBookSo 279 = .ok (.iinc 7 1, 3) := by decide +kernel
theorem dL_isBookSo_282 : decode cL_isBookSo 282 = .ok (.goto (-46), 3) := by decide +kernel
theorem dL_isBookSo_285 : decode cL_isBookSo 285 = .ok (.iload_n 3, 1) := by decide +kernel
theorem dL_isBookSo_286 : decode cL_isBookSo 286 = .ok (.ifCond .eq 65, 3) := by decide +kernel
theorem dL_isBookSo_289 : decode cL_isBookSo 289 = .ok (.aload_n 0, 1) := by decide +kernel
theorem dL_isBookSo_290 : decode cL_isBookSo 290 = .ok (.invokevirtual 134, 3) := by decide +kernel
theorem dL_isBookSo_293 : decode cL_isBookSo 293 = .ok (.iconst 1, 1) := by decide +kernel
theorem dL_isBookSo_294 : decode cL_isBookSo 294 = .ok (.if_icmp .lt 57, 3) := by decide +kernel
theorem dL_isBookSo_297 : decode cL_isBookSo 297 = .ok (.aload_n 0, 1) := by decide +kernel
theorem dL_isBookSo_298 : decode cL_isBookSo 298 = .ok (.invokevirtual 134, 3) := by decide +kernel
theorem dL_isBookSo_301 : decode cL_isBookSo 301 = .ok (.bipush 31, 2) := by decide +kernel
theorem dL_isBookSo_303 : decode cL_isBookSo 303 = .ok (.if_icmp .gt 48, 3) := by decide +kernel
theorem dL_isBookSo_306 : decode cL_isBookSo 306 = .ok (.iload 6, 2) := by decide +kernel
theorem dL_isBookSo_308 : decode cL_isBookSo 308 = .ok (.ifCond .le 7, 3) := by decide +kernel
theorem dL_isBookSo_311 : decode cL_isBookSo 311 = .ok (.iconst 1, 1) := by decide +kernel
theorem dL_isBookSo_312 : decode cL_isBookSo 312 = .ok (.goto 4, 3) := by decide +kernel
theorem dL_isBookSo_315 : decode cL_isBookSo 315 = .ok (.iconst 0, 1) := by decide +kernel
theorem dL_isBookSo_316 : decode cL_isBookSo 316 = .ok (.aload_n 0, 1) := by decide +kernel
theorem dL_isBookSo_317 : decode cL_isBookSo 317 = .ok (.invokevirtual 134, 3) := by decide +kernel
theorem dL_isBookSo_320 : decode cL_isBookSo 320 = .ok (.iconst 1, 1) := by decide +kernel
theorem dL_isBookSo_321 : decode cL_isBookSo 321 = .ok (.if_icmp .le 7, 3) := by decide +kernel
theorem dL_isBookSo_324 : decode cL_isBookSo 324 = .ok (.iconst 1, 1) := by decide +kernel
theorem dL_isBookSo_325 : decode cL_isBookSo 325 = .ok (.goto 4, 3) := by decide +kernel
theorem dL_isBookSo_328 : decode cL_isBookSo 328 = .ok (.iconst 0, 1) := by decide +kernel
theorem dL_isBookSo_329 : decode cL_isBookSo 329 = .ok (.if_icmp .ne 22, 3) := by decide +kernel
theorem dL_isBookSo_332 : decode cL_isBookSo 332 = .ok (.iload 5, 2) := by decide +kernel
theorem dL_isBookSo_334 : decode cL_isBookSo 334 = .ok (.ifCond .lt 13, 3) := by decide +kernel
theorem dL_isBookSo_337 : decode cL_isBookSo 337 = .ok (.aload_n 0, 1) := by decide +kernel
theorem dL_isBookSo_338 : decode cL_isBookSo 338 = .ok (.iload 4, 2) := by decide +kernel
theorem dL_isBookSo_340 : decode cL_isBookSo 340 = .ok (.iload_n 1, 1) := by decide +kernel
theorem dL_isBookSo_341 : decode cL_isBookSo 341 = .ok (.invokestatic 149, 3) := by decide +kernel
theorem dL_isBookSo_344 : decode cL_isBookSo 344 = .ok (.ifCond .ne 7, 3) := by decide +kernel
theorem dL_isBookSo_347 : decode cL_isBookSo 347 = .ok (.iconst 1, 1) := by decide +kernel
theorem dL_isBookSo_348 : decode cL_isBookSo 348 = .ok (.goto 4, 3) := by decide +kernel
theorem dL_isBookSo_351 : decode cL_isBookSo 351 = .ok (.iconst 0, 1) := by decide +kernel
theorem dL_isBookSo_352 : decode cL_isBookSo 352 = .ok (.ireturn, 1) := by decide +kernel
theorem dL_isSo_0 : decode cL_isSo 0 = .ok (.iconst 1, 1) := by decide +kernel
theorem dL_isSo_1 : decode cL_isSo 1 = .ok (.istore_n 2, 1) := by decide +kernel
theorem dL_isSo_2 : decode cL_isSo 2 = .ok (.iconst 0, 1) := by decide +kernel
theorem dL_isSo_3 : decode cL_isSo 3 = .ok (.istore_n 3, 1) := by decide +kernel
theorem dL_isSo_4 : decode cL_isSo 4 = .ok (.iload_n 3, 1) := by decide +kernel
theorem dL_isSo_5 : decode cL_isSo 5 = .ok (.iconst 5, 1) := by decide +kernel
theorem dL_isSo_6 : decode cL_isSo 6 = .ok (.if_icmp .ge 45, 3) := by decide +kernel
theorem dL_isSo_9 : decode cL_isSo 9 = .ok (.iload_n 2, 1) := by decide +kernel
theorem dL_isSo_10 : decode cL_isSo 10 = .ok (.ifCond .eq 41, 3) := by decide +kernel
theorem dL_isSo_13 : decode cL_isSo 13 = .ok (.aload_n 0, 1) := by decide +kernel
theorem dL_isSo_14 : decode cL_isSo 14 = .ok (.iload_n 3, 1) := by decide +kernel
theorem dL_isSo_15 : decode cL_isSo 15 = .ok (.invokevirtual 74, 3) := by decide +kernel
theorem dL_isSo_18 : decode cL_isSo 18 = .ok (.ifCond .lt 25, 3) := by decide +kernel
theorem dL_isSo_21 : decode cL_isSo 21 = .ok (.aload_n 0, 1) := by decide +kernel
theorem dL_isSo_22 : decode cL_isSo 22 = .ok (.iload_n 3, 1) := by decide +kernel
theorem dL_isSo_23 : decode cL_isSo 23 = .ok (.invokevirtual 74, 3) := by decide +kernel
theorem dL_isSo_26 : decode cL_isSo 26 = .ok (.bipush 100, 2) := by decide +kernel
theorem dL_isSo_28 : decode cL_isSo 28 = .ok (.if_icmp .gt 15, 3) := by decide +kernel
theorem dL_isSo_31 : decode cL_isSo 31 = .ok (.aload_n 0, 1) := by decide +kernel
theorem dL_isSo_32 : decode cL_isSo 32 = .ok (.iload_n 3, 1) := by decide +kernel
theorem dL_isSo_33 : decode cL_isSo 33 = .ok (.invokevirtual 77, 3) := by decide +kernel
theorem dL_isSo_36 : decode cL_isSo 36 = .ok (.ifCond .lt 7, 3) := by decide +kernel
theorem dL_isSo_39 : decode cL_isSo 39 = .ok (.iconst 1, 1) := by decide +kernel
theorem dL_isSo_40 : decode cL_isSo 40 = .ok (.goto 4, 3) := by decide +kernel
theorem dL_isSo_43 : decode cL_isSo 43 = .ok (.iconst 0, 1) := by decide +kernel
theorem dL_isSo_44 : decode cL_isSo 44 = .ok (.istore_n 2, 1) := by decide +kernel
theorem dL_isSo_45 : decode cL_isSo 45 = .ok (.iinc 3 1, 3) := by decide +kernel
theorem dL_isSo_48 : decode cL_isSo 48 = .ok (.goto (-44), 3) := by decide +kernel
theorem dL_isSo_51 : decode cL_isSo 51 = .ok (.iconst 0, 1) := by decide +kernel
theorem dL_isSo_52 : decode cL_isSo 52 = .ok (.istore_n 3, 1) := by decide +kernel
theorem dL_isSo_53 : decode cL_isSo 53 = .ok (.iload_n 3, 1) := by decide +kernel
theorem dL_isSo_54 : decode cL_isSo 54 = .ok (.bipush 6, 2) := by decide +kernel
theorem dL_isSo_56 : decode cL_isSo 56 = .ok (.if_icmp .ge 41, 3) := by decide +kernel
theorem dL_isSo_59 : decode cL_isSo 59 = .ok (.iload_n 2, 1) := by decide +kernel
theorem dL_isSo_60 : decode cL_isSo 60 = .ok (.ifCond .eq 37, 3) := by decide +kernel
theorem dL_isSo_63 : decode cL_isSo 63 = .ok (.aload_n 0, 1) := by decide +kernel
theorem dL_isSo_64 : decode cL_isSo 64 = .ok (.iload_n 3, 1) := by decide +kernel
theorem dL_isSo_65 : decode cL_isSo 65 = .ok (.iconst 0, 1) := by decide +kernel
theorem dL_isSo_66 : decode cL_isSo 66 = .ok (.invokestatic 186, 3) := by decide +kernel
theorem dL_isSo_69 : decode cL_isSo 69 = .ok (.ldc 16, 2) := by decide +kernel
theorem dL_isSo_71 : decode cL_isSo 71 = .ok (.if_icmp .eq 14, 3) := by decide +kernel
theorem dL_isSo_74 : decode cL_isSo 74 = .ok (.aload_n 0, 1) := by decide +kernel
theorem dL_isSo_75 : decode cL_isSo 75 = .ok (.iload_n 3, 1) := by decide +kernel
theorem dL_isSo_76 : decode cL_isSo 76 = .ok (.iload_n 1, 1) := by decide +kernel
theorem dL_isSo_77 : decode cL_isSo 77 = .ok (.iload_n 3, 1) := by decide +kernel
theorem dL_isSo_78 : decode cL_isSo 78 = .ok (.ishr, 1) := by decide +kernel
theorem dL_isSo_79 : decode cL_isSo 79 = .ok (.invokestatic 190, 3) := by decide +kernel
theorem dL_isSo_82 : decode cL_isSo 82 = .ok (.ifCond .eq 7, 3) := by decide +kernel
theorem dL_isSo_85 : decode cL_isSo 85 = .ok (.iconst 1, 1) := by decide +kernel
theorem dL_isSo_86 : decode cL_isSo 86 = .ok (.goto 4, 3) := by decide +kernel
theorem dL_isSo_89 : decode cL_isSo 89 = .ok (.iconst 0, 1) := by decide +kernel
theorem dL_isSo_90 : decode cL_isSo 90 = .ok (.istore_n 2, 1) := by decide +kernel
theorem dL_isSo_91 : decode cL_isSo 91 = .ok (.iinc 3 1, 3) := by decide +kernel
theorem dL_isSo_94 : decode cL_isSo 94 = .ok (.goto (-41), 3) := by decide +kernel
theorem dL_isSo_97 : decode cL_isSo 97 = .ok (.aload_n 0, 1) := by decide +kernel
theorem dL_isSo_98 : decode cL_isSo 98 = .ok (.invokevirtual 119, 3) := by decide +kernel
theorem dL_isSo_101 : decode cL_isSo 101 = .ok (.istore_n 3, 1) := by decide +kernel
theorem dL_isSo_102 : decode cL_isSo 102 = .ok (.iload_n 2, 1) := by decide +kernel
theorem dL_isSo_103 : decode cL_isSo 103 = .ok (.ifCond .eq 42, 3) := by decide +kernel
theorem dL_isSo_106 : decode cL_isSo 106 = .ok (.iload_n 3, 1) := by decide +kernel
theorem dL_isSo_107 : decode cL_isSo 107 = .ok (.ifCond .lt 12, 3) := by decide +kernel
theorem dL_isSo_110 : decode cL_isSo 110 = .ok (.aload_n 0, 1) := by decide +kernel
theorem dL_isSo_111 : decode cL_isSo 111 = .ok (.iload_n 3, 1) := by decide +kernel
theorem dL_isSo_112 : decode cL_isSo 112 = .ok (.iconst 0, 1) := by decide +kernel
theorem dL_isSo_113 : decode cL_isSo 113 = .ok (.invokevirtual 108, 3) := by decide +kernel
theorem dL_isSo_116 : decode cL_isSo 116 = .ok (.ifCond .le 29, 3) := by decide +kernel
theorem dL_isSo_119 : decode cL_isSo 119 = .ok (.aload_n 0, 1) := by decide +kernel
theorem dL_isSo_120 : decode cL_isSo 120 = .ok (.bipush 6, 2) := by decide +kernel
theorem dL_isSo_122 : decode cL_isSo 122 = .ok (.iconst 0, 1) := by decide +kernel
theorem dL_isSo_123 : decode cL_isSo 123 = .ok (.invokestatic 186, 3) := by decide +kernel
theorem dL_isSo_126 : decode cL_isSo 126 = .ok (.ldc 16, 2) := by decide +kernel
theorem dL_isSo_128 : decode cL_isSo 128 = .ok (.if_icmp .ne 17, 3) := by decide +kernel
theorem dL_isSo_131 : decode cL_isSo 131 = .ok (.aload_n 0, 1) := by decide +kernel
theorem dL_isSo_132 : decode cL_isSo 132 = .ok (.iconst 4, 1) := by decide +kernel
theorem dL_isSo_133 : decode cL_isSo 133 = .ok (.invokestatic 140, 3) := by decide +kernel
theorem dL_isSo_136 : decode cL_isSo 136 = .ok (.ldc 16, 2) := by decide +kernel
theorem dL_isSo_138 : decode cL_isSo 138 = .ok (.if_icmp .ne 7, 3) := by decide +kernel
theorem dL_isSo_141 : decode cL_isSo 141 = .ok (.iconst 1, 1) := by decide +kernel
theorem dL_isSo_142 : decode cL_isSo 142 = .ok (.goto 4, 3) := by decide +kernel
theorem dL_isSo_145 : decode cL_isSo 145 = .ok (.iconst 0, 1) := by decide +kernel
theorem dL_isSo_146 : decode cL_isSo 146 = .ok (.ireturn, 1) := by decide +kernel
theorem dL_law_0 : decode cL_law 0 = .ok (.new 9, 3) := by decide +kernel
theorem dL_law_3 : decode cL_law 3 = .ok (.dup, 1) := by decide +kernel
theorem dL_law_4 : decode cL_law 4 = .ok (.invokespecial 194, 3) := by decide +kernel
theorem dL_law_7 : decode cL_law 7 = .ok (.astore_n 1, 1) := by decide +kernel
theorem dL_law_8 : decode cL_law 8 = .ok (.new 9, 3) := by decide +kernel
theorem dL_law_11 : decode cL_law 11 = .ok (.dup, 1) := by decide +kernel
theorem dL_law_12 : decode cL_law 12 = .ok (.invokespecial 194, 3) := by decide +kernel
theorem dL_law_15 : decode cL_law 15 = .ok (.astore_n 2, 1) := by decide +kernel
theorem dL_law_16 : decode cL_law 16 = .ok (.iconst 0, 1) := by decide +kernel
theorem dL_law_17 : decode cL_law 17 = .ok (.istore_n 3, 1) := by decide +kernel
theorem dL_law_18 : decode cL_law 18 = .ok (.iload_n 3, 1) := by decide +kernel
theorem dL_law_19 : decode cL_law 19 = .ok (.bipush 110, 2) := by decide +kernel
theorem dL_law_21 : decode cL_law 21 = .ok (.if_icmp .ge 98, 3) := by decide +kernel
theorem dL_law_24 : decode cL_law 24 = .ok (.aload_n 0, 1) := by decide +kernel
theorem dL_law_25 : decode cL_law 25 = .ok (.iload_n 3, 1) := by decide +kernel
theorem dL_law_26 : decode cL_law 26 = .ok (.invokestatic 195, 3) := by decide +kernel
theorem dL_law_29 : decode cL_law 29 = .ok (.istore 4, 2) := by decide +kernel
theorem dL_law_31 : decode cL_law 31 = .ok (.aload_n 1, 1) := by decide +kernel
theorem dL_law_32 : decode cL_law 32 = .ok (.iload 4, 2) := by decide +kernel
theorem dL_law_34 : decode cL_law 34 = .ok (.invokestatic 199, 3) := by decide +kernel
theorem dL_law_37 : decode cL_law 37 = .ok (.lstore 5, 2) := by decide +kernel
theorem dL_law_39 : decode cL_law 39 = .ok (.lload 5, 2) := by decide +kernel
theorem dL_law_41 : decode cL_law 41 = .ok (.ldc2_w 203, 3) := by decide +kernel
theorem dL_law_44 : decode cL_law 44 = .ok (.lcmp, 1) := by decide +kernel
theorem dL_law_45 : decode cL_law 45 = .ok (.ifCond .eq 21, 3) := by decide +kernel
theorem dL_law_48 : decode cL_law 48 = .ok (.lload 5, 2) := by decide +kernel
theorem dL_law_50 : decode cL_law 50 = .ok (.ldc2_w 52, 3) := by decide +kernel
theorem dL_law_53 : decode cL_law 53 = .ok (.lcmp, 1) := by decide +kernel
theorem dL_law_54 : decode cL_law 54 = .ok (.ifCond .eq 12, 3) := by decide +kernel
theorem dL_law_57 : decode cL_law 57 = .ok (.lload 5, 2) := by decide +kernel
theorem dL_law_59 : decode cL_law 59 = .ok (.ldc2_w 205, 3) := by decide +kernel
theorem dL_law_62 : decode cL_law 62 = .ok (.lcmp, 1) := by decide +kernel
theorem dL_law_63 : decode cL_law 63 = .ok (.ifCond .ge 7, 3) := by decide +kernel
theorem dL_law_66 : decode cL_law 66 = .ok (.iconst 1, 1) := by decide +kernel
theorem dL_law_67 : decode cL_law 67 = .ok (.goto 4, 3) := by decide +kernel
theorem dL_law_70 : decode cL_law 70 = .ok (.iconst 0, 1) := by decide +kernel
theorem dL_law_71 : decode cL_law 71 = .ok (.istore 7, 2) := by decide +kernel
theorem dL_law_73 : decode cL_law 73 = .ok (.iload 7, 2) := by decide +kernel
theorem dL_law_75 : decode cL_law 75 = .ok (.ifCond .ne 15, 3) := by decide +kernel
theorem dL_law_78 : decode cL_law 78 = .ok (.aload_n 2, 1) := by decide +kernel
theorem dL_law_79 : decode cL_law 79 = .ok (.iload 4, 2) := by decide +kernel
theorem dL_law_81 : decode cL_law 81 = .ok (.invokestatic 199, 3) := by decide +kernel
theorem dL_law_84 : decode cL_law 84 = .ok (.lload 5, 2) := by decide +kernel
theorem dL_law_86 : decode cL_law 86 = .ok (.lcmp, 1) := by decide +kernel
theorem dL_law_87 : decode cL_law 87 = .ok (.ifCond .ne 24, 3) := by decide +kernel
theorem dL_law_90 : decode cL_law 90 = .ok (.iload_n 3, 1) := by decide +kernel
theorem dL_law_91 : decode cL_law 91 = .ok (.bipush 36, 2) := by decide +kernel
theorem dL_law_93 : decode cL_law 93 = .ok (.irem, 1) := by decide +kernel
theorem dL_law_94 : decode cL_law 94 = .ok (.bipush 35, 2) := by decide +kernel
theorem dL_law_96 : decode cL_law 96 = .ok (.if_icmp .ne 17, 3) := by decide +kernel
theorem dL_law_99 : decode cL_law 99 = .ok (.aload_n 1, 1) := by decide +kernel
theorem dL_law_100 : decode cL_law 100 = .ok (.aload_n 2, 1) := by decide +kernel
theorem dL_law_101 : decode cL_law 101 = .ok (.iload 4, 2) := by decide +kernel
theorem dL_law_103 : decode cL_law 103 = .ok (.iconst 3, 1) := by decide +kernel
theorem dL_law_104 : decode cL_law 104 = .ok (.ishr, 1) := by decide +kernel
theorem dL_law_105 : decode cL_law 105 = .ok (.invokestatic 207, 3) := by decide +kernel
theorem dL_law_108 : decode cL_law 108 = .ok (.ifCond .ne 5, 3) := by decide +kernel
theorem dL_law_111 : decode cL_law 111 = .ok (.iconst 0, 1) := by decide +kernel
theorem dL_law_112 : decode cL_law 112 = .ok (.ireturn, 1) := by decide +kernel
theorem dL_law_113 : decode cL_law 113 = .ok (.iinc 3 1, 3) := by decide +kernel
theorem dL_law_116 : decode cL_law 116 = .ok (.goto (-98), 3) := by decide +kernel
theorem dL_law_119 : decode cL_law 119 = .ok (.aload_n 1, 1) := by decide +kernel
theorem dL_law_120 : decode cL_law 120 = .ok (.aload_n 0, 1) := by decide +kernel
theorem dL_law_121 : decode cL_law 121 = .ok (.bipush 110, 2) := by decide +kernel
theorem dL_law_123 : decode cL_law 123 = .ok (.invokestatic 195, 3) := by decide +kernel
theorem dL_law_126 : decode cL_law 126 = .ok (.invokestatic 211, 3) := by decide +kernel
theorem dL_law_129 : decode cL_law 129 = .ok (.ireturn, 1) := by decide +kernel

theorem dX3_merge_97 : decode cX3_merge 97 = .ok (.iload 4, 2) := by decide +kernel
theorem dX3_merge_99 : decode cX3_merge 99 = .ok (.invokestatic 102, 3) := by decide +kernel
theorem dX3_merge_102 : decode cX3_merge 102 = .ok (.aload_n 0, 1) := by decide +kernel
theorem dX3_merge_103 : decode cX3_merge 103 = .ok (.getfield 25, 3) := by decide +kernel
theorem dX3_merge_106 : decode cX3_merge 106 = .ok (.getfield 147, 3) := by decide +kernel
theorem dX3_merge_109 : decode cX3_merge 109 = .ok (.iload 4, 2) := by decide +kernel
theorem dX3_merge_111 : decode cX3_merge 111 = .ok (.iaload, 1) := by decide +kernel
theorem dX3_merge_112 : decode cX3_merge 112 = .ok (.iastore, 1) := by decide +kernel
theorem dX3_merge_113 : decode cX3_merge 113 = .ok (.iinc 4 1, 3) := by decide +kernel
theorem dX3_merge_116 : decode cX3_merge 116 = .ok (.goto (-30), 3) := by decide +kernel
theorem dX3_merge_119 : decode cX3_merge 119 = .ok (.aload_n 0, 1) := by decide +kernel
theorem dX3_merge_120 : decode cX3_merge 120 = .ok (.getfield 36, 3) := by decide +kernel
theorem dX3_merge_123 : decode cX3_merge 123 = .ok (.iload_n 1, 1) := by decide +kernel
theorem dX3_merge_124 : decode cX3_merge 124 = .ok (.iconst 1, 1) := by decide +kernel
theorem dX3_merge_125 : decode cX3_merge 125 = .ok (.bastore, 1) := by decide +kernel
theorem dX3_merge_126 : decode cX3_merge 126 = .ok (.iload_n 2, 1) := by decide +kernel
theorem dX3_merge_127 : decode cX3_merge 127 = .ok (.ireturn, 1) := by decide +kernel
theorem dX3_clear_0 : decode cX3_clear 0 = .ok (.aload_n 0, 1) := by decide +kernel
theorem dX3_clear_1 : decode cX3_clear 1 = .ok (.getfield 32, 3) := by decide +kernel
theorem dX3_clear_4 : decode cX3_clear 4 = .ok (.getfield 150, 3) := by decide +kernel
theorem dX3_clear_7 : decode cX3_clear 7 = .ok (.istore_n 1, 1) := by decide +kernel
theorem dX3_clear_8 : decode cX3_clear 8 = .ok (.aload_n 0, 1) := by decide +kernel
theorem dX3_clear_9 : decode cX3_clear 9 = .ok (.getfield 32, 3) := by decide +kernel
theorem dX3_clear_12 : decode cX3_clear 12 = .ok (.invokevirtual 153, 3) := by decide +kernel
theorem dX3_clear_15 : decode cX3_clear 15 = .ok (.iconst 0, 1) := by decide +kernel
theorem dX3_clear_16 : decode cX3_clear 16 = .ok (.istore_n 2, 1) := by decide +kernel
theorem dX3_clear_17 : decode cX3_clear 17 = .ok (.iload_n 2, 1) := by decide +kernel
theorem dX3_clear_18 : decode cX3_clear 18 = .ok (.bipush 12, 2) := by decide +kernel
theorem dX3_clear_20 : decode cX3_clear 20 = .ok (.if_icmp .ge 16, 3) := by decide +kernel
theorem dX3_clear_23 : decode cX3_clear 23 = .ok (.aload_n 0, 1) := by decide +kernel
theorem dX3_clear_24 : decode cX3_clear 24 = .ok (.getfield 36, 3) := by decide +kernel
theorem dX3_clear_27 : decode cX3_clear 27 = .ok (.iload_n 2, 1) := by decide +kernel
theorem dX3_clear_28 : decode cX3_clear 28 = .ok (.iconst 0, 1) := by decide +kernel
theorem dX3_clear_29 : decode cX3_clear 29 = .ok (.bastore, 1) := by decide +kernel
theorem dX3_clear_30 : decode cX3_clear 30 = .ok (.iinc 2 1, 3) := by decide +kernel
theorem dX3_clear_33 : decode cX3_clear 33 = .ok (.goto (-16), 3) := by decide +kernel
theorem dX3_clear_36 : decode cX3_clear 36 = .ok (.iload_n 1, 1) := by decide +kernel
theorem dX3_clear_37 : decode cX3_clear 37 = .ok (.ireturn, 1) := by decide +kernel
theorem dX3_isMerged_0 : decode cX3_isMerged 0 = .ok (.aload_n 0, 1) := by decide +kernel
theorem dX3_isMerged_1 : decode cX3_isMerged 1 = .ok (.iload_n 1, 1) := by decide +kernel
theorem dX3_isMerged_2 : decode cX3_isMerged 2 = .ok (.invokevirtual 88, 3) := by decide +kernel
theorem dX3_isMerged_5 : decode cX3_isMerged 5 = .ok (.aload_n 0, 1) := by decide +kernel
theorem dX3_isMerged_6 : decode cX3_isMerged 6 = .ok (.getfield 36, 3) := by decide +kernel
theorem dX3_isMerged_9 : decode cX3_isMerged 9 = .ok (.iload_n 1, 1) := by decide +kernel
theorem dX3_isMerged_10 : decode cX3_isMerged 10 = .ok (.baload, 1) := by decide +kernel
theorem dX3_isMerged_11 : decode cX3_isMerged 11 = .ok (.ireturn, 1) := by decide +kernel
theorem dX3_costWith_0 : decode cX3_costWith 0 = .ok (.aload_n 0, 1) := by decide +kernel
theorem dX3_costWith_1 : decode cX3_costWith 1 = .ok (.iload_n 1, 1) := by decide +kernel
theorem dX3_costWith_2 : decode cX3_costWith 2 = .ok (.invokevirtual 88, 3) := by decide +kernel
theorem dX3_costWith_5 : decode cX3_costWith 5 = .ok (.aload_n 0, 1) := by decide +kernel
theorem dX3_costWith_6 : decode cX3_costWith 6 = .ok (.getfield 25, 3) := by decide +kernel
theorem dX3_costWith_9 : decode cX3_costWith 9 = .ok (.aload_n 0, 1) := by decide +kernel
theorem dX3_costWith_10 : decode cX3_costWith 10 = .ok (.getfield 32, 3) := by decide +kernel
theorem dX3_costWith_13 : decode cX3_costWith 13 = .ok (.iload_n 1, 1) := by decide +kernel
theorem dX3_costWith_14 : decode cX3_costWith 14 = .ok (.invokevirtual 156, 3) := by decide +kernel
theorem dX3_costWith_17 : decode cX3_costWith 17 = .ok (.ireturn, 1) := by decide +kernel
theorem dX3_fits_0 : decode cX3_fits 0 = .ok (.aload_n 0, 1) := by decide +kernel
theorem dX3_fits_1 : decode cX3_fits 1 = .ok (.iload_n 1, 1) := by decide +kernel
theorem dX3_fits_2 : decode cX3_fits 2 = .ok (.invokevirtual 88, 3) := by decide +kernel
theorem dX3_fits_5 : decode cX3_fits 5 = .ok (.aload_n 0, 1) := by decide +kernel
theorem dX3_fits_6 : decode cX3_fits 6 = .ok (.getfield 25, 3) := by decide +kernel
theorem dX3_fits_9 : decode cX3_fits 9 = .ok (.aload_n 0, 1) := by decide +kernel
theorem dX3_fits_10 : decode cX3_fits 10 = .ok (.getfield 32, 3) := by decide +kernel
theorem dX3_fits_13 : decode cX3_fits 13 = .ok (.iload_n 1, 1) := by decide +kernel
theorem dX3_fits_14 : decode cX3_fits 14 = .ok (.invokevirtual 159, 3) := by decide +kernel
theorem dX3_fits_17 : decode cX3_fits 17 = .ok (.ireturn, 1) := by decide +kernel
theorem dX3_strangest_0 : decode cX3_strangest 0 = .ok (.iconst (-1), 1) := by decide +kernel
theorem dX3_strangest_1 : decode cX3_strangest 1 = .ok (.istore_n 1, 1) := by decide +kernel
theorem dX3_strangest_2 : decode cX3_strangest 2 = .ok (.iconst (-1), 1) := by decide +kernel
theorem dX3_strangest_3 : decode cX3_strangest 3 = .ok (.istore_n 2, 1) := by decide +kernel
theorem dX3_strangest_4 : decode cX3_strangest 4 = .ok (.iconst 0, 1) := by decide +kernel
theorem dX3_strangest_5 : decode cX3_strangest 5 = .ok (.istore_n 3, 1) := by decide +kernel
theorem dX3_strangest_6 : decode cX3_strangest 6 = .ok (.iload_n 3, 1) := by decide +kernel
theorem dX3_strangest_7 : decode cX3_strangest 7 = .ok (.aload_n 0, 1) := by decide +kernel
theorem dX3_strangest_8 : decode cX3_strangest 8 = .ok (.getfield 16, 3) := by decide +kernel
theorem dX3_strangest_11 : decode cX3_strangest 11 = .ok (.getfield 75, 3) := by decide +kernel
theorem dX3_strangest_14 : decode cX3_strangest 14 = .ok (.if_icmp .ge 34, 3) := by decide +kernel
theorem dX3_strangest_17 : decode cX3_strangest 17 = .ok (.aload_n 0, 1) := by decide +kernel
theorem dX3_strangest_18 : decode cX3_strangest 18 = .ok (.getfield 25, 3) := by decide +kernel
theorem dX3_strangest_21 : decode cX3_strangest 21 = .ok (.aload_n 0, 1) := by decide +kernel
theorem dX3_strangest_22 : decode cX3_strangest 22 = .ok (.getfield 32, 3) := by decide +kernel
theorem dX3_strangest_25 : decode cX3_strangest 25 = .ok (.iload_n 3, 1) := by decide +kernel
theorem dX3_strangest_26 : decode cX3_strangest 26 = .ok (.invokevirtual 156, 3) := by decide +kernel
theorem dX3_strangest_29 : decode cX3_strangest 29 = .ok (.istore 4, 2) := by decide +kernel
theorem dX3_strangest_31 : decode cX3_strangest 31 = .ok (.iload 4, 2) := by decide +kernel
theorem dX3_strangest_33 : decode cX3_strangest 33 = .ok (.iload_n 2, 1) := by decide +kernel
theorem dX3_strangest_34 : decode cX3_strangest 34 = .ok (.if_icmp .le 8, 3) := by decide +kernel
theorem dX3_strangest_37 : decode cX3_strangest 37 = .ok (.iload 4, 2) := by decide +kernel
theorem dX3_strangest_39 : decode cX3_strangest 39 = .ok (.istore_n 2, 1) := by decide +kernel
theorem dX3_strangest_40 : decode cX3_strangest 40 = .ok (.iload_n 3, 1) := by decide +kernel
theorem dX3_strangest_41 : decode cX3_strangest 41 = .ok (.istore_n 1, 1) := by decide +kernel
theorem dX3_strangest_42 : decode cX3_strangest 42 = .ok (.iinc 3 1, 3) := by decide +kernel
theorem dX3_strangest_45 : decode cX3_strangest 45 = .ok (.goto (-39), 3) := by decide +kernel
theorem dX3_strangest_48 : decode cX3_strangest 48 = .ok (.iload_n 1, 1) := by decide +kernel
theorem dX3_strangest_49 : decode cX3_strangest 49 = .ok (.ireturn, 1) := by decide +kernel
theorem dX3_slotCount_0 : decode cX3_slotCount 0 = .ok (.aload_n 0, 1) := by decide +kernel
theorem dX3_slotCount_1 : decode cX3_slotCount 1 = .ok (.getfield 32, 3) := by decide +kernel
theorem dX3_slotCount_4 : decode cX3_slotCount 4 = .ok (.getfield 163, 3) := by decide +kernel
theorem dX3_slotCount_7 : decode cX3_slotCount 7 = .ok (.ireturn, 1) := by decide +kernel
theorem dX3_slotKind_0 : decode cX3_slotKind 0 = .ok (.aload_n 0, 1) := by decide +kernel
theorem dX3_slotKind_1 : decode cX3_slotKind 1 = .ok (.getfield 32, 3) := by decide +kernel
theorem dX3_slotKind_4 : decode cX3_slotKind 4 = .ok (.getfield 166, 3) := by decide +kernel
theorem dX3_slotKind_7 : decode cX3_slotKind 7 = .ok (.aload_n 0, 1) := by decide +kernel
theorem dX3_slotKind_8 : decode cX3_slotKind 8 = .ok (.iload_n 1, 1) := by decide +kernel
theorem dX3_slotKind_9 : decode cX3_slotKind 9 = .ok (.invokevirtual 167, 3) := by decide +kernel
theorem dX3_slotKind_12 : decode cX3_slotKind 12 = .ok (.iaload, 1) := by decide +kernel
theorem dX3_slotKind_13 : decode cX3_slotKind 13 = .ok (.ireturn, 1) := by decide +kernel
theorem dX3_isOptional_0 : decode cX3_isOptional 0 = .ok (.aload_n 0, 1) := by decide +kernel
theorem dX3_isOptional_1 : decode cX3_isOptional 1 = .ok (.getfield 32, 3) := by decide +kernel
theorem dX3_isOptional_4 : decode cX3_isOptional 4 = .ok (.aload_n 0, 1) := by decide +kernel
theorem dX3_isOptional_5 : decode cX3_isOptional 5 = .ok (.iload_n 1, 1) := by decide +kernel
theorem dX3_isOptional_6 : decode cX3_isOptional 6 = .ok (.invokevirtual 167, 3) := by decide +kernel
theorem dX3_isOptional_9 : decode cX3_isOptional 9 = .ok (.invokevirtual 191, 3) := by decide +kernel
theorem dX3_isOptional_12 : decode cX3_isOptional 12 = .ok (.ireturn, 1) := by decide +kernel
theorem dX3_tokenAt_0 : decode cX3_tokenAt 0 = .ok (.aload_n 0, 1) := by decide +kernel
theorem dX3_tokenAt_1 : decode cX3_tokenAt 1 = .ok (.iload_n 1, 1) := by decide +kernel
theorem dX3_tokenAt_2 : decode cX3_tokenAt 2 = .ok (.invokevirtual 88, 3) := by decide +kernel
theorem dX3_tokenAt_5 : decode cX3_tokenAt 5 = .ok (.aload_n 0, 1) := by decide +kernel
theorem dX3_tokenAt_6 : decode cX3_tokenAt 6 = .ok (.iload_n 1, 1) := by decide +kernel
theorem dX3_tokenAt_7 : decode cX3_tokenAt 7 = .ok (.aload_n 0, 1) := by decide +kernel
theorem dX3_tokenAt_8 : decode cX3_tokenAt 8 = .ok (.iload_n 2, 1) := by decide +kernel
theorem dX3_tokenAt_9 : decode cX3_tokenAt 9 = .ok (.invokevirtual 167, 3) := by decide +kernel
theorem dX3_tokenAt_12 : decode cX3_tokenAt 12 = .ok (.invokevirtual 194, 3) := by decide +kernel
theorem dX3_tokenAt_15 : decode cX3_tokenAt 15 = .ok (.ireturn, 1) := by decide +kernel
theorem dX3_needLine_0 : decode cX3_needLine 0 = .ok (.iload_n 1, 1) := by decide +kernel
theorem dX3_needLine_1 : decode cX3_needLine 1 = .ok (.ifCond .lt 14, 3) := by decide +kernel
theorem dX3_needLine_4 : decode cX3_needLine 4 = .ok (.iload_n 1, 1) := by decide +kernel
theorem dX3_needLine_5 : decode cX3_needLine 5 = .ok (.aload_n 0, 1) := by decide +kernel
theorem dX3_needLine_6 : decode cX3_needLine 6 = .ok (.getfield 16, 3) := by decide +kernel
theorem dX3_needLine_9 : decode cX3_needLine 9 = .ok (.getfield 75, 3) := by decide +kernel
theorem dX3_needLine_12 : decode cX3_needLine 12 = .ok (.if_icmp .lt 14, 3) := by decide +kernel
theorem dX3_needLine_15 : decode cX3_needLine 15 = .ok (.new 174, 3) := by decide +kernel
theorem dX3_needLine_18 : decode cX3_needLine 18 = .ok (.dup, 1) := by decide +kernel
theorem dX3_needLine_19 : decode cX3_needLine 19 = .ok (.ldc_w 265, 3) := by decide +kernel
theorem dX3_needLine_22 : decode cX3_needLine 22 = .ok (.invokespecial 178, 3) := by decide +kernel
theorem dX3_needLine_25 : decode cX3_needLine 25 = .ok (.athrow, 1) := by decide +kernel
theorem dX3_needLine_26 : decode cX3_needLine 26 = .ok (.return_, 1) := by decide +kernel
theorem dX3_needToken_0 : decode cX3_needToken 0 = .ok (.aload_n 0, 1) := by decide +kernel
theorem dX3_needToken_1 : decode cX3_needToken 1 = .ok (.iload_n 1, 1) := by decide +kernel
theorem dX3_needToken_2 : decode cX3_needToken 2 = .ok (.invokevirtual 88, 3) := by decide +kernel
theorem dX3_needToken_5 : decode cX3_needToken 5 = .ok (.iload_n 2, 1) := by decide +kernel
theorem dX3_needToken_6 : decode cX3_needToken 6 = .ok (.ifCond .lt 16, 3) := by decide +kernel
theorem dX3_needToken_9 : decode cX3_needToken 9 = .ok (.iload_n 2, 1) := by decide +kernel
theorem dX3_needToken_10 : decode cX3_needToken 10 = .ok (.aload_n 0, 1) := by decide +kernel
theorem dX3_needToken_11 : decode cX3_needToken 11 = .ok (.getfield 16, 3) := by decide +kernel
theorem dX3_needToken_14 : decode cX3_needToken 14 = .ok (.getfield 92, 3) := by decide +kernel
theorem dX3_needToken_17 : decode cX3_needToken 17 = .ok (.iload_n 1, 1) := by decide +kernel
theorem dX3_needToken_18 : decode cX3_needToken 18 = .ok (.iaload, 1) := by decide +kernel
theorem dX3_needToken_19 : decode cX3_needToken 19 = .ok (.if_icmp .lt 14, 3) := by decide +kernel
theorem dX3_needToken_22 : decode cX3_needToken 22 = .ok (.new 174, 3) := by decide +kernel
theorem dX3_needToken_25 : decode cX3_needToken 25 = .ok (.dup, 1) := by decide +kernel
theorem dX3_needToken_26 : decode cX3_needToken 26 = .ok (.ldc_w 267, 3) := by decide +kernel
theorem dX3_needToken_29 : decode cX3_needToken 29 = .ok (.invokespecial 178, 3) := by decide +kernel
theorem dX3_needToken_32 : decode cX3_needToken 32 = .ok (.athrow, 1) := by decide +kernel
theorem dX3_needToken_33 : decode cX3_needToken 33 = .ok (.return_, 1) := by decide +kernel
theorem dX3_neededSlot_0 : decode cX3_neededSlot 0 = .ok (.iload_n 1, 1) := by decide +kernel
theorem dX3_neededSlot_1 : decode cX3_neededSlot 1 = .ok (.ifCond .lt 14, 3) := by decide +kernel
theorem dX3_neededSlot_4 : decode cX3_neededSlot 4 = .ok (.iload_n 1, 1) := by decide +kernel
theorem dX3_neededSlot_5 : decode cX3_neededSlot 5 = .ok (.aload_n 0, 1) := by decide +kernel
theorem dX3_neededSlot_6 : decode cX3_neededSlot 6 = .ok (.getfield 32, 3) := by decide +kernel
theorem dX3_neededSlot_9 : decode cX3_neededSlot 9 = .ok (.getfield 163, 3) := by decide +kernel
theorem dX3_neededSlot_12 : decode cX3_neededSlot 12 = .ok (.if_icmp .lt 14, 3) := by decide +kernel
theorem dX3_neededSlot_15 : decode cX3_neededSlot 15 = .ok (.new 174, 3) := by decide +kernel
theorem dX3_neededSlot_18 : decode cX3_neededSlot 18 = .ok (.dup, 1) := by decide +kernel
theorem dX3_neededSlot_19 : decode cX3_neededSlot 19 = .ok (.ldc_w 269, 3) := by decide +kernel
theorem dX3_neededSlot_22 : decode cX3_neededSlot 22 = .ok (.invokespecial 178, 3) := by decide +kernel
theorem dX3_neededSlot_25 : decode cX3_neededSlot 25 = .ok (.athrow, 1) := by decide +kernel
theorem dX3_neededSlot_26 : decode cX3_neededSlot 26 = .ok (.aload_n 0, 1) := by decide +kernel
theorem dX3_neededSlot_27 : decode cX3_neededSlot 27 = .ok (.getfield 32, 3) := by decide +kernel
theorem dX3_neededSlot_30 : decode cX3_neededSlot 30 = .ok (.getfield 206, 3) := by decide +kernel
theorem dX3_neededSlot_33 : decode cX3_neededSlot 33 = .ok (.iload_n 1, 1) := by decide +kernel
theorem dX3_neededSlot_34 : decode cX3_neededSlot 34 = .ok (.iaload, 1) := by decide +kernel
theorem dX3_neededSlot_35 : decode cX3_neededSlot 35 = .ok (.ireturn, 1) := by decide +kernel
theorem dX3_tokenIn_0 : decode cX3_tokenIn 0 = .ok (.aload_n 0, 1) := by decide +kernel
theorem dX3_tokenIn_1 : decode cX3_tokenIn 1 = .ok (.getfield 36, 3) := by decide +kernel
theorem dX3_tokenIn_4 : decode cX3_tokenIn 4 = .ok (.iload_n 1, 1) := by decide +kernel
theorem dX3_tokenIn_5 : decode cX3_tokenIn 5 = .ok (.baload, 1) := by decide +kernel
theorem dX3_tokenIn_6 : decode cX3_tokenIn 6 = .ok (.ifCond .ne 5, 3) := by decide +kernel
theorem dX3_tokenIn_9 : decode cX3_tokenIn 9 = .ok (.iconst (-1), 1) := by decide +kernel
theorem dX3_tokenIn_10 : decode cX3_tokenIn 10 = .ok (.ireturn, 1) := by decide +kernel
theorem dX3_tokenIn_11 : decode cX3_tokenIn 11 = .ok (.aload_n 0, 1) := by decide +kernel
theorem dX3_tokenIn_12 : decode cX3_tokenIn 12 = .ok (.getfield 16, 3) := by decide +kernel
theorem dX3_tokenIn_15 : decode cX3_tokenIn 15 = .ok (.getfield 92, 3) := by decide +kernel
theorem dX3_tokenIn_18 : decode cX3_tokenIn 18 = .ok (.iload_n 1, 1) := by decide +kernel
theorem dX3_tokenIn_19 : decode cX3_tokenIn 19 = .ok (.iaload, 1) := by decide +kernel
theorem dX3_tokenIn_20 : decode cX3_tokenIn 20 = .ok (.istore_n 3, 1) := by decide +kernel
theorem dX3_tokenIn_21 : decode cX3_tokenIn 21 = .ok (.iconst 0, 1) := by decide +kernel
theorem dX3_tokenIn_22 : decode cX3_tokenIn 22 = .ok (.istore 4, 2) := by decide +kernel
theorem dX3_tokenIn_24 : decode cX3_tokenIn 24 = .ok (.iload 4, 2) := by decide +kernel
theorem dX3_tokenIn_26 : decode cX3_tokenIn 26 = .ok (.iload_n 3, 1) := by decide +kernel
theorem dX3_tokenIn_27 : decode cX3_tokenIn 27 = .ok (.if_icmp .ge 27, 3) := by decide +kernel
theorem dX3_tokenIn_30 : decode cX3_tokenIn 30 = .ok (.aload_n 0, 1) := by decide +kernel
theorem dX3_tokenIn_31 : decode cX3_tokenIn 31 = .ok (.getfield 40, 3) := by decide +kernel
theorem dX3_tokenIn_34 : decode cX3_tokenIn 34 = .ok (.iload_n 1, 1) := by decide +kernel
theorem dX3_tokenIn_35 : decode cX3_tokenIn 35 = .ok (.iload 4, 2) := by decide +kernel
theorem dX3_tokenIn_37 : decode cX3_tokenIn 37 = .ok (.invokestatic 102, 3) := by decide +kernel
theorem dX3_tokenIn_40 : decode cX3_tokenIn 40 = .ok (.iaload, 1) := by decide +kernel
theorem dX3_tokenIn_41 : decode cX3_tokenIn 41 = .ok (.iload_n 2, 1) := by decide +kernel
theorem dX3_tokenIn_42 : decode cX3_tokenIn 42 = .ok (.if_icmp .ne 6, 3) := by decide +kernel
theorem dX3_tokenIn_45 : decode cX3_tokenIn 45 = .ok (.iload 4, 2) := by decide +kernel
theorem dX3_tokenIn_47 : decode cX3_tokenIn 47 = .ok (.ireturn, 1) := by decide +kernel
theorem dX3_tokenIn_48 : decode cX3_tokenIn 48 = .ok (.iinc 4 1, 3) := by decide +kernel
theorem dX3_tokenIn_51 : decode cX3_tokenIn 51 = .ok (.goto (-27), 3) := by decide +kernel
theorem dX3_tokenIn_54 : decode cX3_tokenIn 54 = .ok (.iconst (-1), 1) := by decide +kernel
theorem dX3_tokenIn_55 : decode cX3_tokenIn 55 = .ok (.ireturn, 1) := by decide +kernel
theorem dX3_firstByteOf_0 : decode cX3_firstByteOf 0 = .ok (.iload_n 0, 1) := by decide +kernel
theorem dX3_firstByteOf_1 : decode cX3_firstByteOf 1 = .ok (.bipush 30, 2) := by decide +kernel
theorem dX3_firstByteOf_3 : decode cX3_firstByteOf 3 = .ok (.imul, 1) := by decide +kernel
theorem dX3_firstByteOf_4 : decode cX3_firstByteOf 4 = .ok (.ireturn, 1) := by decide +kernel
theorem dX3_placeOf_0 : decode cX3_placeOf 0 = .ok (.iload_n 0, 1) := by decide +kernel
theorem dX3_placeOf_1 : decode cX3_placeOf 1 = .ok (.bipush 30, 2) := by decide +kernel
theorem dX3_placeOf_3 : decode cX3_placeOf 3 = .ok (.imul, 1) := by decide +kernel
theorem dX3_placeOf_4 : decode cX3_placeOf 4 = .ok (.iload_n 1, 1) := by decide +kernel
theorem dX3_placeOf_5 : decode cX3_placeOf 5 = .ok (.iadd, 1) := by decide +kernel
theorem dX3_placeOf_6 : decode cX3_placeOf 6 = .ok (.ireturn, 1) := by decide +kernel

theorem dX3_init_0 : decode cX3_init 0 = .ok (.aload_n 0, 1) := by decide +kernel
theorem dX3_init_1 : decode cX3_init 1 = .ok (.invokespecial 3, 3) := by decide +kernel
theorem dX3_init_4 : decode cX3_init 4 = .ok (.aload_n 0, 1) := by decide +kernel
theorem dX3_init_5 : decode cX3_init 5 = .ok (.bipush 30, 2) := by decide +kernel
theorem dX3_init_7 : decode cX3_init 7 = .ok (.newarray .byte, 2) := by decide +kernel
theorem dX3_init_9 : decode cX3_init 9 = .ok (.putfield 9, 3) := by decide +kernel
theorem dX3_init_12 : decode cX3_init 12 = .ok (.aload_n 0, 1) := by decide +kernel
theorem dX3_init_13 : decode cX3_init 13 = .ok (.new 13, 3) := by decide +kernel
theorem dX3_init_16 : decode cX3_init 16 = .ok (.dup, 1) := by decide +kernel
theorem dX3_init_17 : decode cX3_init 17 = .ok (.invokespecial 15, 3) := by decide +kernel
theorem dX3_init_20 : decode cX3_init 20 = .ok (.putfield 16, 3) := by decide +kernel
theorem dX3_init_23 : decode cX3_init 23 = .ok (.aload_n 0, 1) := by decide +kernel
theorem dX3_init_24 : decode cX3_init 24 = .ok (.new 20, 3) := by decide +kernel
theorem dX3_init_27 : decode cX3_init 27 = .ok (.dup, 1) := by decide +kernel
theorem dX3_init_28 : decode cX3_init 28 = .ok (.aload_n 0, 1) := by decide +kernel
theorem dX3_init_29 : decode cX3_init 29 = .ok (.getfield 16, 3) := by decide +kernel
theorem dX3_init_32 : decode cX3_init 32 = .ok (.invokespecial 22, 3) := by decide +kernel
theorem dX3_init_35 : decode cX3_init 35 = .ok (.putfield 25, 3) := by decide +kernel
theorem dX3_init_38 : decode cX3_init 38 = .ok (.aload_n 0, 1) := by decide +kernel
theorem dX3_init_39 : decode cX3_init 39 = .ok (.new 29, 3) := by decide +kernel
theorem dX3_init_42 : decode cX3_init 42 = .ok (.dup, 1) := by decide +kernel
theorem dX3_init_43 : decode cX3_init 43 = .ok (.invokespecial 31, 3) := by decide +kernel
theorem dX3_init_46 : decode cX3_init 46 = .ok (.putfield 32, 3) := by decide +kernel
theorem dX3_init_49 : decode cX3_init 49 = .ok (.aload_n 0, 1) := by decide +kernel
theorem dX3_init_50 : decode cX3_init 50 = .ok (.bipush 12, 2) := by decide +kernel
theorem dX3_init_52 : decode cX3_init 52 = .ok (.newarray .boolean, 2) := by decide +kernel
theorem dX3_init_54 : decode cX3_init 54 = .ok (.putfield 36, 3) := by decide +kernel
theorem dX3_init_57 : decode cX3_init 57 = .ok (.aload_n 0, 1) := by decide +kernel
theorem dX3_init_58 : decode cX3_init 58 = .ok (.sipush 360, 3) := by decide +kernel
theorem dX3_init_61 : decode cX3_init 61 = .ok (.newarray .int, 2) := by decide +kernel
theorem dX3_init_63 : decode cX3_init 63 = .ok (.putfield 40, 3) := by decide +kernel
theorem dX3_init_66 : decode cX3_init 66 = .ok (.aload_n 0, 1) := by decide +kernel
theorem dX3_init_67 : decode cX3_init 67 = .ok (.bipush 12, 2) := by decide +kernel
theorem dX3_init_69 : decode cX3_init 69 = .ok (.newarray .int, 2) := by decide +kernel
theorem dX3_init_71 : decode cX3_init 71 = .ok (.putfield 44, 3) := by decide +kernel
theorem dX3_init_74 : decode cX3_init 74 = .ok (.aload_n 0, 1) := by decide +kernel
theorem dX3_init_75 : decode cX3_init 75 = .ok (.bipush 12, 2) := by decide +kernel
theorem dX3_init_77 : decode cX3_init 77 = .ok (.anewarray 29, 3) := by decide +kernel
theorem dX3_init_80 : decode cX3_init 80 = .ok (.putfield 47, 3) := by decide +kernel
theorem dX3_init_83 : decode cX3_init 83 = .ok (.iconst 0, 1) := by decide +kernel
theorem dX3_init_84 : decode cX3_init 84 = .ok (.istore_n 1, 1) := by decide +kernel
theorem dX3_init_85 : decode cX3_init 85 = .ok (.iload_n 1, 1) := by decide +kernel
theorem dX3_init_86 : decode cX3_init 86 = .ok (.bipush 12, 2) := by decide +kernel
theorem dX3_init_88 : decode cX3_init 88 = .ok (.if_icmp .ge 22, 3) := by decide +kernel
theorem dX3_init_91 : decode cX3_init 91 = .ok (.aload_n 0, 1) := by decide +kernel
theorem dX3_init_92 : decode cX3_init 92 = .ok (.getfield 47, 3) := by decide +kernel
theorem dX3_init_95 : decode cX3_init 95 = .ok (.iload_n 1, 1) := by decide +kernel
theorem dX3_init_96 : decode cX3_init 96 = .ok (.new 29, 3) := by decide +kernel
theorem dX3_init_99 : decode cX3_init 99 = .ok (.dup, 1) := by decide +kernel
theorem dX3_init_100 : decode cX3_init 100 = .ok (.invokespecial 31, 3) := by decide +kernel
theorem dX3_init_103 : decode cX3_init 103 = .ok (.aastore, 1) := by decide +kernel
theorem dX3_init_104 : decode cX3_init 104 = .ok (.iinc 1 1, 3) := by decide +kernel
theorem dX3_init_107 : decode cX3_init 107 = .ok (.goto (-22), 3) := by decide +kernel
theorem dX3_init_110 : decode cX3_init 110 = .ok (.return_, 1) := by decide +kernel
theorem dX3_feed_0 : decode cX3_feed 0 = .ok (.lload_n 1, 1) := by decide +kernel
theorem dX3_feed_1 : decode cX3_feed 1 = .ok (.invokestatic 51, 3) := by decide +kernel
theorem dX3_feed_4 : decode cX3_feed 4 = .ok (.istore_n 3, 1) := by decide +kernel
theorem dX3_feed_5 : decode cX3_feed 5 = .ok (.iload_n 3, 1) := by decide +kernel
theorem dX3_feed_6 : decode cX3_feed 6 = .ok (.iconst (-1), 1) := by decide +kernel
theorem dX3_feed_7 : decode cX3_feed 7 = .ok (.if_icmp .ne 13, 3) := by decide +kernel
theorem dX3_feed_10 : decode cX3_feed 10 = .ok (.new 55, 3) := by decide +kernel
theorem dX3_feed_13 : decode cX3_feed 13 = .ok (.dup, 1) := by decide +kernel
theorem dX3_feed_14 : decode cX3_feed 14 = .ok (.ldc 57, 2) := by decide +kernel
theorem dX3_feed_16 : decode cX3_feed 16 = .ok (.invokespecial 59, 3) := by decide +kernel
theorem dX3_feed_19 : decode cX3_feed 19 = .ok (.athrow, 1) := by decide +kernel
theorem dX3_feed_20 : decode cX3_feed 20 = .ok (.aload_n 0, 1) := by decide +kernel
theorem dX3_feed_21 : decode cX3_feed 21 = .ok (.getfield 62, 3) := by decide +kernel
theorem dX3_feed_24 : decode cX3_feed 24 = .ok (.iload_n 3, 1) := by decide +kernel
theorem dX3_feed_25 : decode cX3_feed 25 = .ok (.iadd, 1) := by decide +kernel
theorem dX3_feed_26 : decode cX3_feed 26 = .ok (.bipush 30, 2) := by decide +kernel
theorem dX3_feed_28 : decode cX3_feed 28 = .ok (.if_icmp .le 13, 3) := by decide +kernel
theorem dX3_feed_31 : decode cX3_feed 31 = .ok (.new 66, 3) := by decide +kernel
theorem dX3_feed_34 : decode cX3_feed 34 = .ok (.dup, 1) := by decide +kernel
theorem dX3_feed_35 : decode cX3_feed 35 = .ok (.ldc 68, 2) := by decide +kernel
theorem dX3_feed_37 : decode cX3_feed 37 = .ok (.invokespecial 70, 3) := by decide +kernel
theorem dX3_feed_40 : decode cX3_feed 40 = .ok (.athrow, 1) := by decide +kernel
theorem dX3_feed_41 : decode cX3_feed 41 = .ok (.iconst 0, 1) := by decide +kernel
theorem dX3_feed_42 : decode cX3_feed 42 = .ok (.istore 4, 2) := by decide +kernel
theorem dX3_feed_44 : decode cX3_feed 44 = .ok (.iload 4, 2) := by decide +kernel
theorem dX3_feed_46 : decode cX3_feed 46 = .ok (.bipush 8, 2) := by decide +kernel
theorem dX3_feed_48 : decode cX3_feed 48 = .ok (.if_icmp .ge 44, 3) := by decide +kernel
theorem dX3_feed_51 : decode cX3_feed 51 = .ok (.lload_n 1, 1) := by decide +kernel
theorem dX3_feed_52 : decode cX3_feed 52 = .ok (.iload 4, 2) := by decide +kernel
theorem dX3_feed_54 : decode cX3_feed 54 = .ok (.invokestatic 71, 3) := by decide +kernel
theorem dX3_feed_57 : decode cX3_feed 57 = .ok (.istore 5, 2) := by decide +kernel
theorem dX3_feed_59 : decode cX3_feed 59 = .ok (.iload 5, 2) := by decide +kernel
theorem dX3_feed_61 : decode cX3_feed 61 = .ok (.ifCond .eq 25, 3) := by decide +kernel
theorem dX3_feed_64 : decode cX3_feed 64 = .ok (.aload_n 0, 1) := by decide +kernel
theorem dX3_feed_65 : decode cX3_feed 65 = .ok (.getfield 9, 3) := by decide +kernel
theorem dX3_feed_68 : decode cX3_feed 68 = .ok (.aload_n 0, 1) := by decide +kernel
theorem dX3_feed_69 : decode cX3_feed 69 = .ok (.getfield 62, 3) := by decide +kernel
theorem dX3_feed_72 : decode cX3_feed 72 = .ok (.iload 5, 2) := by decide +kernel
theorem dX3_feed_74 : decode cX3_feed 74 = .ok (.i2b, 1) := by decide +kernel
theorem dX3_feed_75 : decode cX3_feed 75 = .ok (.bastore, 1) := by decide +kernel
theorem dX3_feed_76 : decode cX3_feed 76 = .ok (.aload_n 0, 1) := by decide +kernel
theorem dX3_feed_77 : decode cX3_feed 77 = .ok (.dup, 1) := by decide +kernel
theorem dX3_feed_78 : decode cX3_feed 78 = .ok (.getfield 62, 3) := by decide +kernel
theorem dX3_feed_81 : decode cX3_feed 81 = .ok (.iconst 1, 1) := by decide +kernel
theorem dX3_feed_82 : decode cX3_feed 82 = .ok (.iadd, 1) := by decide +kernel
theorem dX3_feed_83 : decode cX3_feed 83 = .ok (.putfield 62, 3) := by decide +kernel
theorem dX3_feed_86 : decode cX3_feed 86 = .ok (.iinc 4 1, 3) := by decide +kernel
theorem dX3_feed_89 : decode cX3_feed 89 = .ok (.goto (-45), 3) := by decide +kernel
theorem dX3_feed_92 : decode cX3_feed 92 = .ok (.aload_n 0, 1) := by decide +kernel
theorem dX3_feed_93 : decode cX3_feed 93 = .ok (.getfield 62, 3) := by decide +kernel
theorem dX3_feed_96 : decode cX3_feed 96 = .ok (.ireturn, 1) := by decide +kernel
theorem dX3_countBytes_0 : decode cX3_countBytes 0 = .ok (.iconst 0, 1) := by decide +kernel
theorem dX3_countBytes_1 : decode cX3_countBytes 1 = .ok (.istore_n 2, 1) := by decide +kernel
theorem dX3_countBytes_2 : decode cX3_countBytes 2 = .ok (.iconst 0, 1) := by decide +kernel
theorem dX3_countBytes_3 : decode cX3_countBytes 3 = .ok (.istore_n 3, 1) := by decide +kernel
theorem dX3_countBytes_4 : decode cX3_countBytes 4 = .ok (.iload_n 3, 1) := by decide +kernel
theorem dX3_countBytes_5 : decode cX3_countBytes 5 = .ok (.bipush 8, 2) := by decide +kernel
theorem dX3_countBytes_7 : decode cX3_countBytes 7 = .ok (.if_icmp .ge 40, 3) := by decide +kernel
theorem dX3_countBytes_10 : decode cX3_countBytes 10 = .ok (.lload_n 0, 1) := by decide +kernel
theorem dX3_countBytes_11 : decode cX3_countBytes 11 = .ok (.iload_n 3, 1) := by decide +kernel
theorem dX3_countBytes_12 : decode cX3_countBytes 12 = .ok (.invokestatic 71, 3) := by decide +kernel
theorem dX3_countBytes_15 : decode cX3_countBytes 15 = .ok (.istore 4, 2) := by decide +kernel
theorem dX3_countBytes_17 : decode cX3_countBytes 17 = .ok (.iload 4, 2) := by decide +kernel
theorem dX3_countBytes_19 : decode cX3_countBytes 19 = .ok (.ifCond .eq 22, 3) := by decide +kernel
theorem dX3_countBytes_22 : decode cX3_countBytes 22 = .ok (.iload 4, 2) := by decide +kernel
theorem dX3_countBytes_24 : decode cX3_countBytes 24 = .ok (.bipush 32, 2) := by decide +kernel
theorem dX3_countBytes_26 : decode cX3_countBytes 26 = .ok (.if_icmp .lt 10, 3) := by decide +kernel
theorem dX3_countBytes_29 : decode cX3_countBytes 29 = .ok (.iload 4, 2) := by decide +kernel
theorem dX3_countBytes_31 : decode cX3_countBytes 31 = .ok (.bipush 126, 2) := by decide +kernel
theorem dX3_countBytes_33 : decode cX3_countBytes 33 = .ok (.if_icmp .le 5, 3) := by decide +kernel
theorem dX3_countBytes_36 : decode cX3_countBytes 36 = .ok (.iconst (-1), 1) := by decide +kernel
theorem dX3_countBytes_37 : decode cX3_countBytes 37 = .ok (.ireturn, 1) := by decide +kernel
theorem dX3_countBytes_38 : decode cX3_countBytes 38 = .ok (.iinc 2 1, 3) := by decide +kernel
theorem dX3_countBytes_41 : decode cX3_countBytes 41 = .ok (.iinc 3 1, 3) := by decide +kernel
theorem dX3_countBytes_44 : decode cX3_countBytes 44 = .ok (.goto (-40), 3) := by decide +kernel
theorem dX3_countBytes_47 : decode cX3_countBytes 47 = .ok (.iload_n 2, 1) := by decide +kernel
theorem dX3_countBytes_48 : decode cX3_countBytes 48 = .ok (.ireturn, 1) := by decide +kernel
theorem dX3_byteOf_0 : decode cX3_byteOf 0 = .ok (.lload_n 0, 1) := by decide +kernel
theorem dX3_byteOf_1 : decode cX3_byteOf 1 = .ok (.bipush 56, 2) := by decide +kernel
theorem dX3_byteOf_3 : decode cX3_byteOf 3 = .ok (.bipush 8, 2) := by decide +kernel
theorem dX3_byteOf_5 : decode cX3_byteOf 5 = .ok (.iload_n 2, 1) := by decide +kernel
theorem dX3_byteOf_6 : decode cX3_byteOf 6 = .ok (.imul, 1) := by decide +kernel
theorem dX3_byteOf_7 : decode cX3_byteOf 7 = .ok (.isub, 1) := by decide +kernel
theorem dX3_byteOf_8 : decode cX3_byteOf 8 = .ok (.lushr, 1) := by decide +kernel
theorem dX3_byteOf_9 : decode cX3_byteOf 9 = .ok (.l2i, 1) := by decide +kernel
theorem dX3_byteOf_10 : decode cX3_byteOf 10 = .ok (.sipush 255, 3) := by decide +kernel
theorem dX3_byteOf_13 : decode cX3_byteOf 13 = .ok (.iand, 1) := by decide +kernel
theorem dX3_byteOf_14 : decode cX3_byteOf 14 = .ok (.ireturn, 1) := by decide +kernel
theorem dX3_store_0 : decode cX3_store 0 = .ok (.aload_n 0, 1) := by decide +kernel
theorem dX3_store_1 : decode cX3_store 1 = .ok (.getfield 16, 3) := by decide +kernel
theorem dX3_store_4 : decode cX3_store 4 = .ok (.getfield 75, 3) := by decide +kernel
theorem dX3_store_7 : decode cX3_store 7 = .ok (.bipush 12, 2) := by decide +kernel
theorem dX3_store_9 : decode cX3_store 9 = .ok (.if_icmp .lt 13, 3) := by decide +kernel
theorem dX3_store_12 : decode cX3_store 12 = .ok (.new 66, 3) := by decide +kernel
theorem dX3_store_15 : decode cX3_store 15 = .ok (.dup, 1) := by decide +kernel
theorem dX3_store_16 : decode cX3_store 16 = .ok (.ldc 78, 2) := by decide +kernel
theorem dX3_store_18 : decode cX3_store 18 = .ok (.invokespecial 70, 3) := by decide +kernel
theorem dX3_store_21 : decode cX3_store 21 = .ok (.athrow, 1) := by decide +kernel
theorem dX3_store_22 : decode cX3_store 22 = .ok (.aload_n 0, 1) := by decide +kernel
theorem dX3_store_23 : decode cX3_store 23 = .ok (.getfield 16, 3) := by decide +kernel
theorem dX3_store_26 : decode cX3_store 26 = .ok (.aload_n 0, 1) := by decide +kernel
theorem dX3_store_27 : decode cX3_store 27 = .ok (.getfield 9, 3) := by decide +kernel
theorem dX3_store_30 : decode cX3_store 30 = .ok (.aload_n 0, 1) := by decide +kernel
theorem dX3_store_31 : decode cX3_store 31 = .ok (.getfield 62, 3) := by decide +kernel
theorem dX3_store_34 : decode cX3_store 34 = .ok (.invokevirtual 80, 3) := by decide +kernel
theorem dX3_store_37 : decode cX3_store 37 = .ok (.istore_n 1, 1) := by decide +kernel
theorem dX3_store_38 : decode cX3_store 38 = .ok (.aload_n 0, 1) := by decide +kernel
theorem dX3_store_39 : decode cX3_store 39 = .ok (.iconst 0, 1) := by decide +kernel
theorem dX3_store_40 : decode cX3_store 40 = .ok (.putfield 62, 3) := by decide +kernel
theorem dX3_store_43 : decode cX3_store 43 = .ok (.aload_n 0, 1) := by decide +kernel
theorem dX3_store_44 : decode cX3_store 44 = .ok (.iconst 0, 1) := by decide +kernel
theorem dX3_store_45 : decode cX3_store 45 = .ok (.putfield 84, 3) := by decide +kernel
theorem dX3_store_48 : decode cX3_store 48 = .ok (.iload_n 1, 1) := by decide +kernel
theorem dX3_store_49 : decode cX3_store 49 = .ok (.ireturn, 1) := by decide +kernel
theorem dX3_lineCount_0 : decode cX3_lineCount 0 = .ok (.aload_n 0, 1) := by decide +kernel
theorem dX3_lineCount_1 : decode cX3_lineCount 1 = .ok (.getfield 16, 3) := by decide +kernel
theorem dX3_lineCount_4 : decode cX3_lineCount 4 = .ok (.getfield 75, 3) := by decide +kernel
theorem dX3_lineCount_7 : decode cX3_lineCount 7 = .ok (.ireturn, 1) := by decide +kernel
theorem dX3_tokenCount_0 : decode cX3_tokenCount 0 = .ok (.aload_n 0, 1) := by decide +kernel
theorem dX3_tokenCount_1 : decode cX3_tokenCount 1 = .ok (.iload_n 1, 1) := by decide +kernel
theorem dX3_tokenCount_2 : decode cX3_tokenCount 2 = .ok (.invokevirtual 88, 3) := by decide +kernel
theorem dX3_tokenCount_5 : decode cX3_tokenCount 5 = .ok (.aload_n 0, 1) := by decide +kernel
theorem dX3_tokenCount_6 : decode cX3_tokenCount 6 = .ok (.getfield 16, 3) := by decide +kernel
theorem dX3_tokenCount_9 : decode cX3_tokenCount 9 = .ok (.getfield 92, 3) := by decide +kernel
theorem dX3_tokenCount_12 : decode cX3_tokenCount 12 = .ok (.iload_n 1, 1) := by decide +kernel
theorem dX3_tokenCount_13 : decode cX3_tokenCount 13 = .ok (.iaload, 1) := by decide +kernel
theorem dX3_tokenCount_14 : decode cX3_tokenCount 14 = .ok (.ireturn, 1) := by decide +kernel
theorem dX3_tokenKind_0 : decode cX3_tokenKind 0 = .ok (.aload_n 0, 1) := by decide +kernel
theorem dX3_tokenKind_1 : decode cX3_tokenKind 1 = .ok (.iload_n 1, 1) := by decide +kernel
theorem dX3_tokenKind_2 : decode cX3_tokenKind 2 = .ok (.iload_n 2, 1) := by decide +kernel
theorem dX3_tokenKind_3 : decode cX3_tokenKind 3 = .ok (.invokevirtual 95, 3) := by decide +kernel
theorem dX3_tokenKind_6 : decode cX3_tokenKind 6 = .ok (.aload_n 0, 1) := by decide +kernel
theorem dX3_tokenKind_7 : decode cX3_tokenKind 7 = .ok (.getfield 16, 3) := by decide +kernel
theorem dX3_tokenKind_10 : decode cX3_tokenKind 10 = .ok (.getfield 99, 3) := by decide +kernel
theorem dX3_tokenKind_13 : decode cX3_tokenKind 13 = .ok (.iload_n 1, 1) := by decide +kernel
theorem dX3_tokenKind_14 : decode cX3_tokenKind 14 = .ok (.iload_n 2, 1) := by decide +kernel
theorem dX3_tokenKind_15 : decode cX3_tokenKind 15 = .ok (.invokestatic 102, 3) := by decide +kernel
theorem dX3_tokenKind_18 : decode cX3_tokenKind 18 = .ok (.iaload, 1) := by decide +kernel
theorem dX3_tokenKind_19 : decode cX3_tokenKind 19 = .ok (.ireturn, 1) := by decide +kernel
theorem dX3_tokenStart_0 : decode cX3_tokenStart 0 = .ok (.aload_n 0, 1) := by decide +kernel
theorem dX3_tokenStart_1 : decode cX3_tokenStart 1 = .ok (.iload_n 1, 1) := by decide +kernel
theorem dX3_tokenStart_2 : decode cX3_tokenStart 2 = .ok (.iload_n 2, 1) := by decide +kernel
theorem dX3_tokenStart_3 : decode cX3_tokenStart 3 = .ok (.invokevirtual 95, 3) := by decide +kernel
theorem dX3_tokenStart_6 : decode cX3_tokenStart 6 = .ok (.aload_n 0, 1) := by decide +kernel
theorem dX3_tokenStart_7 : decode cX3_tokenStart 7 = .ok (.getfield 16, 3) := by decide +kernel
theorem dX3_tokenStart_10 : decode cX3_tokenStart 10 = .ok (.getfield 106, 3) := by decide +kernel
theorem dX3_tokenStart_13 : decode cX3_tokenStart 13 = .ok (.iload_n 1, 1) := by decide +kernel
theorem dX3_tokenStart_14 : decode cX3_tokenStart 14 = .ok (.iload_n 2, 1) := by decide +kernel
theorem dX3_tokenStart_15 : decode cX3_tokenStart 15 = .ok (.invokestatic 102, 3) := by decide +kernel
theorem dX3_tokenStart_18 : decode cX3_tokenStart 18 = .ok (.iaload, 1) := by decide +kernel
theorem dX3_tokenStart_19 : decode cX3_tokenStart 19 = .ok (.iload_n 1, 1) := by decide +kernel
theorem dX3_tokenStart_20 : decode cX3_tokenStart 20 = .ok (.invokestatic 109, 3) := by decide +kernel
theorem dX3_tokenStart_23 : decode cX3_tokenStart 23 = .ok (.isub, 1) := by decide +kernel
theorem dX3_tokenStart_24 : decode cX3_tokenStart 24 = .ok (.ireturn, 1) := by decide +kernel
theorem dX3_sameAtFront_0 : decode cX3_sameAtFront 0 = .ok (.aload_n 0, 1) := by decide +kernel
theorem dX3_sameAtFront_1 : decode cX3_sameAtFront 1 = .ok (.iload_n 1, 1) := by decide +kernel
theorem dX3_sameAtFront_2 : decode cX3_sameAtFront 2 = .ok (.invokevirtual 88, 3) := by decide +kernel
theorem dX3_sameAtFront_5 : decode cX3_sameAtFront 5 = .ok (.aload_n 0, 1) := by decide +kernel
theorem dX3_sameAtFront_6 : decode cX3_sameAtFront 6 = .ok (.iload_n 2, 1) := by decide +kernel
theorem dX3_sameAtFront_7 : decode cX3_sameAtFront 7 = .ok (.invokevirtual 88, 3) := by decide +kernel
theorem dX3_sameAtFront_10 : decode cX3_sameAtFront 10 = .ok (.aload_n 0, 1) := by decide +kernel
theorem dX3_sameAtFront_11 : decode cX3_sameAtFront 11 = .ok (.getfield 16, 3) := by decide +kernel
theorem dX3_sameAtFront_14 : decode cX3_sameAtFront 14 = .ok (.getfield 92, 3) := by decide +kernel
theorem dX3_sameAtFront_17 : decode cX3_sameAtFront 17 = .ok (.iload_n 1, 1) := by decide +kernel
theorem dX3_sameAtFront_18 : decode cX3_sameAtFront 18 = .ok (.iaload, 1) := by decide +kernel
theorem dX3_sameAtFront_19 : decode cX3_sameAtFront 19 = .ok (.aload_n 0, 1) := by decide +kernel
theorem dX3_sameAtFront_20 : decode cX3_sameAtFront 20 = .ok (.getfield 16, 3) := by decide +kernel
theorem dX3_sameAtFront_23 : decode cX3_sameAtFront 23 = .ok (.getfield 92, 3) := by decide +kernel
theorem dX3_sameAtFront_26 : decode cX3_sameAtFront 26 = .ok (.iload_n 2, 1) := by decide +kernel
theorem dX3_sameAtFront_27 : decode cX3_sameAtFront 27 = .ok (.iaload, 1) := by decide +kernel
theorem dX3_sameAtFront_28 : decode cX3_sameAtFront 28 = .ok (.invokestatic 113, 3) := by decide +kernel
theorem dX3_sameAtFront_31 : decode cX3_sameAtFront 31 = .ok (.istore_n 3, 1) := by decide +kernel
theorem dX3_sameAtFront_32 : decode cX3_sameAtFront 32 = .ok (.iconst 0, 1) := by decide +kernel
theorem dX3_sameAtFront_33 : decode cX3_sameAtFront 33 = .ok (.istore 4, 2) := by decide +kernel
theorem dX3_sameAtFront_35 : decode cX3_sameAtFront 35 = .ok (.iload 4, 2) := by decide +kernel
theorem dX3_sameAtFront_37 : decode cX3_sameAtFront 37 = .ok (.iload_n 3, 1) := by decide +kernel
theorem dX3_sameAtFront_38 : decode cX3_sameAtFront 38 = .ok (.if_icmp .ge 40, 3) := by decide +kernel
theorem dX3_sameAtFront_41 : decode cX3_sameAtFront 41 = .ok (.aload_n 0, 1) := by decide +kernel
theorem dX3_sameAtFront_42 : decode cX3_sameAtFront 42 = .ok (.getfield 16, 3) := by decide +kernel
theorem dX3_sameAtFront_45 : decode cX3_sameAtFront 45 = .ok (.getfield 118, 3) := by decide +kernel
theorem dX3_sameAtFront_48 : decode cX3_sameAtFront 48 = .ok (.iload_n 1, 1) := by decide +kernel
theorem dX3_sameAtFront_49 : decode cX3_sameAtFront 49 = .ok (.iload 4, 2) := by decide +kernel
theorem dX3_sameAtFront_51 : decode cX3_sameAtFront 51 = .ok (.invokestatic 102, 3) := by decide +kernel
theorem dX3_sameAtFront_54 : decode cX3_sameAtFront 54 = .ok (.iaload, 1) := by decide +kernel
theorem dX3_sameAtFront_55 : decode cX3_sameAtFront 55 = .ok (.aload_n 0, 1) := by decide +kernel
theorem dX3_sameAtFront_56 : decode cX3_sameAtFront 56 = .ok (.getfield 16, 3) := by decide +kernel
theorem dX3_sameAtFront_59 : decode cX3_sameAtFront 59 = .ok (.getfield 118, 3) := by decide +kernel
theorem dX3_sameAtFront_62 : decode cX3_sameAtFront 62 = .ok (.iload_n 2, 1) := by decide +kernel
theorem dX3_sameAtFront_63 : decode cX3_sameAtFront 63 = .ok (.iload 4, 2) := by decide +kernel
theorem dX3_sameAtFront_65 : decode cX3_sameAtFront 65 = .ok (.invokestatic 102, 3) := by decide +kernel
theorem dX3_sameAtFront_68 : decode cX3_sameAtFront 68 = .ok (.iaload, 1) := by decide +kernel
theorem dX3_sameAtFront_69 : decode cX3_sameAtFront 69 = .ok (.if_icmp .ne 9, 3) := by decide +kernel
theorem dX3_sameAtFront_72 : decode cX3_sameAtFront 72 = .ok (.iinc 4 1, 3) := by decide +kernel
theorem dX3_sameAtFront_75 : decode cX3_sameAtFront 75 = .ok (.goto (-40), 3) := by decide +kernel
theorem dX3_sameAtFront_78 : decode cX3_sameAtFront 78 = .ok (.iload 4, 2) := by decide +kernel
theorem dX3_sameAtFront_80 : decode cX3_sameAtFront 80 = .ok (.ireturn, 1) := by decide +kernel
theorem dX3_setCosts_0 : decode cX3_setCosts 0 = .ok (.iload_n 1, 1) := by decide +kernel
theorem dX3_setCosts_1 : decode cX3_setCosts 1 = .ok (.invokestatic 121, 3) := by decide +kernel
theorem dX3_setCosts_4 : decode cX3_setCosts 4 = .ok (.ifCond .eq 17, 3) := by decide +kernel
theorem dX3_setCosts_7 : decode cX3_setCosts 7 = .ok (.iload_n 2, 1) := by decide +kernel
theorem dX3_setCosts_8 : decode cX3_setCosts 8 = .ok (.invokestatic 121, 3) := by decide +kernel
theorem dX3_setCosts_11 : decode cX3_setCosts 11 = .ok (.ifCond .eq 10, 3) := by decide +kernel
theorem dX3_setCosts_14 : decode cX3_setCosts 14 = .ok (.iload_n 3, 1) := by decide +kernel
theorem dX3_setCosts_15 : decode cX3_setCosts 15 = .ok (.invokestatic 121, 3) := by decide +kernel
theorem dX3_setCosts_18 : decode cX3_setCosts 18 = .ok (.ifCond .ne 13, 3) := by decide +kernel
theorem dX3_setCosts_21 : decode cX3_setCosts 21 = .ok (.new 55, 3) := by decide +kernel
theorem dX3_setCosts_24 : decode cX3_setCosts 24 = .ok (.dup, 1) := by decide +kernel
theorem dX3_setCosts_25 : decode cX3_setCosts 25 = .ok (.ldc 125, 2) := by decide +kernel
theorem dX3_setCosts_27 : decode cX3_setCosts 27 = .ok (.invokespecial 59, 3) := by decide +kernel
theorem dX3_setCosts_30 : decode cX3_setCosts 30 = .ok (.athrow, 1) := by decide +kernel
theorem dX3_setCosts_31 : decode cX3_setCosts 31 = .ok (.aload_n 0, 1) := by decide +kernel
theorem dX3_setCosts_32 : decode cX3_setCosts 32 = .ok (.iconst 0, 1) := by decide +kernel
theorem dX3_setCosts_33 : decode cX3_setCosts 33 = .ok (.putfield 84, 3) := by decide +kernel
theorem dX3_setCosts_36 : decode cX3_setCosts 36 = .ok (.aload_n 0, 1) := by decide +kernel
theorem dX3_setCosts_37 : decode cX3_setCosts 37 = .ok (.getfield 25, 3) := by decide +kernel
theorem dX3_setCosts_40 : decode cX3_setCosts 40 = .ok (.iload_n 1, 1) := by decide +kernel
theorem dX3_setCosts_41 : decode cX3_setCosts 41 = .ok (.iload_n 2, 1) := by decide +kernel
theorem dX3_setCosts_42 : decode cX3_setCosts 42 = .ok (.iload_n 3, 1) := by decide +kernel
theorem dX3_setCosts_43 : decode cX3_setCosts 43 = .ok (.invokevirtual 127, 3) := by decide +kernel
theorem dX3_setCosts_46 : decode cX3_setCosts 46 = .ok (.ireturn, 1) := by decide +kernel
theorem dX3_isCost_0 : decode cX3_isCost 0 = .ok (.iload_n 0, 1) := by decide +kernel
theorem dX3_isCost_1 : decode cX3_isCost 1 = .ok (.ifCond .lt 13, 3) := by decide +kernel
theorem dX3_isCost_4 : decode cX3_isCost 4 = .ok (.iload_n 0, 1) := by decide +kernel
theorem dX3_isCost_5 : decode cX3_isCost 5 = .ok (.bipush 20, 2) := by decide +kernel
theorem dX3_isCost_7 : decode cX3_isCost 7 = .ok (.if_icmp .gt 7, 3) := by decide +kernel
theorem dX3_isCost_10 : decode cX3_isCost 10 = .ok (.iconst 1, 1) := by decide +kernel
theorem dX3_isCost_11 : decode cX3_isCost 11 = .ok (.goto 4, 3) := by decide +kernel
theorem dX3_isCost_14 : decode cX3_isCost 14 = .ok (.iconst 0, 1) := by decide +kernel
theorem dX3_isCost_15 : decode cX3_isCost 15 = .ok (.ireturn, 1) := by decide +kernel
theorem dX3_merge_0 : decode cX3_merge 0 = .ok (.aload_n 0, 1) := by decide +kernel
theorem dX3_merge_1 : decode cX3_merge 1 = .ok (.iload_n 1, 1) := by decide +kernel
theorem dX3_merge_2 : decode cX3_merge 2 = .ok (.invokevirtual 88, 3) := by decide +kernel
theorem dX3_merge_5 : decode cX3_merge 5 = .ok (.aload_n 0, 1) := by decide +kernel
theorem dX3_merge_6 : decode cX3_merge 6 = .ok (.getfield 36, 3) := by decide +kernel
theorem dX3_merge_9 : decode cX3_merge 9 = .ok (.iload_n 1, 1) := by decide +kernel
theorem dX3_merge_10 : decode cX3_merge 10 = .ok (.baload, 1) := by decide +kernel
theorem dX3_merge_11 : decode cX3_merge 11 = .ok (.ifCond .eq 13, 3) := by decide +kernel
theorem dX3_merge_14 : decode cX3_merge 14 = .ok (.new 66, 3) := by decide +kernel
theorem dX3_merge_17 : decode cX3_merge 17 = .ok (.dup, 1) := by decide +kernel
theorem dX3_merge_18 : decode cX3_merge 18 = .ok (.ldc 131, 2) := by decide +kernel
theorem dX3_merge_20 : decode cX3_merge 20 = .ok (.invokespecial 70, 3) := by decide +kernel
theorem dX3_merge_23 : decode cX3_merge 23 = .ok (.athrow, 1) := by decide +kernel
theorem dX3_merge_24 : decode cX3_merge 24 = .ok (.aload_n 0, 1) := by decide +kernel
theorem dX3_merge_25 : decode cX3_merge 25 = .ok (.getfield 25, 3) := by decide +kernel
theorem dX3_merge_28 : decode cX3_merge 28 = .ok (.aload_n 0, 1) := by decide +kernel
theorem dX3_merge_29 : decode cX3_merge 29 = .ok (.getfield 32, 3) := by decide +kernel
theorem dX3_merge_32 : decode cX3_merge 32 = .ok (.iload_n 1, 1) := by decide +kernel
theorem dX3_merge_33 : decode cX3_merge 33 = .ok (.invokevirtual 133, 3) := by decide +kernel
theorem dX3_merge_36 : decode cX3_merge 36 = .ok (.istore_n 2, 1) := by decide +kernel
theorem dX3_merge_37 : decode cX3_merge 37 = .ok (.aload_n 0, 1) := by decide +kernel
theorem dX3_merge_38 : decode cX3_merge 38 = .ok (.getfield 25, 3) := by decide +kernel
theorem dX3_merge_41 : decode cX3_merge 41 = .ok (.aload_n 0, 1) := by decide +kernel
theorem dX3_merge_42 : decode cX3_merge 42 = .ok (.getfield 32, 3) := by decide +kernel
theorem dX3_merge_45 : decode cX3_merge 45 = .ok (.invokevirtual 137, 3) := by decide +kernel
theorem dX3_merge_48 : decode cX3_merge 48 = .ok (.ifCond .ne 13, 3) := by decide +kernel
theorem dX3_merge_51 : decode cX3_merge 51 = .ok (.new 66, 3) := by decide +kernel
theorem dX3_merge_54 : decode cX3_merge 54 = .ok (.dup, 1) := by decide +kernel
theorem dX3_merge_55 : decode cX3_merge 55 = .ok (.ldc 141, 2) := by decide +kernel
theorem dX3_merge_57 : decode cX3_merge 57 = .ok (.invokespecial 70, 3) := by decide +kernel
theorem dX3_merge_60 : decode cX3_merge 60 = .ok (.athrow, 1) := by decide +kernel
theorem dX3_merge_61 : decode cX3_merge 61 = .ok (.aload_n 0, 1) := by decide +kernel
theorem dX3_merge_62 : decode cX3_merge 62 = .ok (.getfield 25, 3) := by decide +kernel
theorem dX3_merge_65 : decode cX3_merge 65 = .ok (.aload_n 0, 1) := by decide +kernel
theorem dX3_merge_66 : decode cX3_merge 66 = .ok (.getfield 32, 3) := by decide +kernel
theorem dX3_merge_69 : decode cX3_merge 69 = .ok (.iload_n 1, 1) := by decide +kernel
theorem dX3_merge_70 : decode cX3_merge 70 = .ok (.invokevirtual 143, 3) := by decide +kernel
theorem dX3_merge_73 : decode cX3_merge 73 = .ok (.aload_n 0, 1) := by decide +kernel
theorem dX3_merge_74 : decode cX3_merge 74 = .ok (.getfield 16, 3) := by decide +kernel
theorem dX3_merge_77 : decode cX3_merge 77 = .ok (.getfield 92, 3) := by decide +kernel
theorem dX3_merge_80 : decode cX3_merge 80 = .ok (.iload_n 1, 1) := by decide +kernel
theorem dX3_merge_81 : decode cX3_merge 81 = .ok (.iaload, 1) := by decide +kernel
theorem dX3_merge_82 : decode cX3_merge 82 = .ok (.istore_n 3, 1) := by decide +kernel
theorem dX3_merge_83 : decode cX3_merge 83 = .ok (.iconst 0, 1) := by decide +kernel
theorem dX3_merge_84 : decode cX3_merge 84 = .ok (.istore 4, 2) := by decide +kernel
theorem dX3_merge_86 : decode cX3_merge 86 = .ok (.iload 4, 2) := by decide +kernel
theorem dX3_merge_88 : decode cX3_merge 88 = .ok (.iload_n 3, 1) := by decide +kernel
theorem dX3_merge_89 : decode cX3_merge 89 = .ok (.if_icmp .ge 30, 3) := by decide +kernel
theorem dX3_merge_92 : decode cX3_merge 92 = .ok (.aload_n 0, 1) := by decide +kernel
theorem dX3_merge_93 : decode cX3_merge 93 = .ok (.getfield 40, 3) := by decide +kernel
theorem dX3_merge_96 : decode cX3_merge 96 = .ok (.iload_n 1, 1) := by decide +kernel
theorem dX3_merge_97 : decode cX3_merge 97 = .ok (.iload 4, 2) := by decide +kernel
theorem dX3_merge_99 : decode cX3_merge 99 = .ok (.invokestatic 102, 3) := by decide +kernel
theorem dX3_merge_102 : decode cX3_merge 102 = .ok (.aload_n 0, 1) := by decide +kernel
theorem dX3_merge_103 : decode cX3_merge 103 = .ok (.getfield 25, 3) := by decide +kernel
theorem dX3_merge_106 : decode cX3_merge 106 = .ok (.getfield 147, 3) := by decide +kernel
theorem dX3_merge_109 : decode cX3_merge 109 = .ok (.iload 4, 2) := by decide +kernel
theorem dX3_merge_111 : decode cX3_merge 111 = .ok (.iaload, 1) := by decide +kernel
theorem dX3_merge_112 : decode cX3_merge 112 = .ok (.iastore, 1) := by decide +kernel
theorem dX3_merge_113 : decode cX3_merge 113 = .ok (.iinc 4 1, 3) := by decide +kernel
theorem dX3_merge_116 : decode cX3_merge 116 = .ok (.goto (-30), 3) := by decide +kernel
theorem dX3_merge_119 : decode cX3_merge 119 = .ok (.aload_n 0, 1) := by decide +kernel
theorem dX3_merge_120 : decode cX3_merge 120 = .ok (.getfield 36, 3) := by decide +kernel
theorem dX3_merge_123 : decode cX3_merge 123 = .ok (.iload_n 1, 1) := by decide +kernel
theorem dX3_merge_124 : decode cX3_merge 124 = .ok (.iconst 1, 1) := by decide +kernel
theorem dX3_merge_125 : decode cX3_merge 125 = .ok (.bastore, 1) := by decide +kernel
theorem dX3_merge_126 : decode cX3_merge 126 = .ok (.iload_n 2, 1) := by decide +kernel
theorem dX3_merge_127 : decode cX3_merge 127 = .ok (.ireturn, 1) := by decide +kernel
theorem dX3_clear_0 : decode cX3_clear 0 = .ok (.aload_n 0, 1) := by decide +kernel
theorem dX3_clear_1 : decode cX3_clear 1 = .ok (.getfield 32, 3) := by decide +kernel
theorem dX3_clear_4 : decode cX3_clear 4 = .ok (.getfield 150, 3) := by decide +kernel
theorem dX3_clear_7 : decode cX3_clear 7 = .ok (.istore_n 1, 1) := by decide +kernel
theorem dX3_clear_8 : decode cX3_clear 8 = .ok (.aload_n 0, 1) := by decide +kernel
theorem dX3_clear_9 : decode cX3_clear 9 = .ok (.getfield 32, 3) := by decide +kernel
theorem dX3_clear_12 : decode cX3_clear 12 = .ok (.invokevirtual 153, 3) := by decide +kernel
theorem dX3_clear_15 : decode cX3_clear 15 = .ok (.iconst 0, 1) := by decide +kernel
theorem dX3_clear_16 : decode cX3_clear 16 = .ok (.istore_n 2, 1) := by decide +kernel
theorem dX3_clear_17 : decode cX3_clear 17 = .ok (.iload_n 2, 1) := by decide +kernel
theorem dX3_clear_18 : decode cX3_clear 18 = .ok (.bipush 12, 2) := by decide +kernel
theorem dX3_clear_20 : decode cX3_clear 20 = .ok (.if_icmp .ge 16, 3) := by decide +kernel
theorem dX3_clear_23 : decode cX3_clear 23 = .ok (.aload_n 0, 1) := by decide +kernel
theorem dX3_clear_24 : decode cX3_clear 24 = .ok (.getfield 36, 3) := by decide +kernel
theorem dX3_clear_27 : decode cX3_clear 27 = .ok (.iload_n 2, 1) := by decide +kernel
theorem dX3_clear_28 : decode cX3_clear 28 = .ok (.iconst 0, 1) := by decide +kernel
theorem dX3_clear_29 : decode cX3_clear 29 = .ok (.bastore, 1) := by decide +kernel
theorem dX3_clear_30 : decode cX3_clear 30 = .ok (.iinc 2 1, 3) := by decide +kernel
theorem dX3_clear_33 : decode cX3_clear 33 = .ok (.goto (-16), 3) := by decide +kernel
theorem dX3_clear_36 : decode cX3_clear 36 = .ok (.iload_n 1, 1) := by decide +kernel
theorem dX3_clear_37 : decode cX3_clear 37 = .ok (.ireturn, 1) := by decide +kernel
theorem dX3_isMerged_0 : decode cX3_isMerged 0 = .ok (.aload_n 0, 1) := by decide +kernel
theorem dX3_isMerged_1 : decode cX3_isMerged 1 = .ok (.iload_n 1, 1) := by decide +kernel
theorem dX3_isMerged_2 : decode cX3_isMerged 2 = .ok (.invokevirtual 88, 3) := by decide +kernel
theorem dX3_isMerged_5 : decode cX3_isMerged 5 = .ok (.aload_n 0, 1) := by decide +kernel
theorem dX3_isMerged_6 : decode cX3_isMerged 6 = .ok (.getfield 36, 3) := by decide +kernel
theorem dX3_isMerged_9 : decode cX3_isMerged 9 = .ok (.iload_n 1, 1) := by decide +kernel
theorem dX3_isMerged_10 : decode cX3_isMerged 10 = .ok (.baload, 1) := by decide +kernel
theorem dX3_isMerged_11 : decode cX3_isMerged 11 = .ok (.ireturn, 1) := by decide +kernel
theorem dX3_costWith_0 : decode cX3_costWith 0 = .ok (.aload_n 0, 1) := by decide +kernel
theorem dX3_costWith_1 : decode cX3_costWith 1 = .ok (.iload_n 1, 1) := by decide +kernel
theorem dX3_costWith_2 : decode cX3_costWith 2 = .ok (.invokevirtual 88, 3) := by decide +kernel
theorem dX3_costWith_5 : decode cX3_costWith 5 = .ok (.aload_n 0, 1) := by decide +kernel
theorem dX3_costWith_6 : decode cX3_costWith 6 = .ok (.getfield 25, 3) := by decide +kernel
theorem dX3_costWith_9 : decode cX3_costWith 9 = .ok (.aload_n 0, 1) := by decide +kernel
theorem dX3_costWith_10 : decode cX3_costWith 10 = .ok (.getfield 32, 3) := by decide +kernel
theorem dX3_costWith_13 : decode cX3_costWith 13 = .ok (.iload_n 1, 1) := by decide +kernel
theorem dX3_costWith_14 : decode cX3_costWith 14 = .ok (.invokevirtual 156, 3) := by decide +kernel
theorem dX3_costWith_17 : decode cX3_costWith 17 = .ok (.ireturn, 1) := by decide +kernel
theorem dX3_fits_0 : decode cX3_fits 0 = .ok (.aload_n 0, 1) := by decide +kernel
theorem dX3_fits_1 : decode cX3_fits 1 = .ok (.iload_n 1, 1) := by decide +kernel
theorem dX3_fits_2 : decode cX3_fits 2 = .ok (.invokevirtual 88, 3) := by decide +kernel
theorem dX3_fits_5 : decode cX3_fits 5 = .ok (.aload_n 0, 1) := by decide +kernel
theorem dX3_fits_6 : decode cX3_fits 6 = .ok (.getfield 25, 3) := by decide +kernel
theorem dX3_fits_9 : decode cX3_fits 9 = .ok (.aload_n 0, 1) := by decide +kernel
theorem dX3_fits_10 : decode cX3_fits 10 = .ok (.getfield 32, 3) := by decide +kernel
theorem dX3_fits_13 : decode cX3_fits 13 = .ok (.iload_n 1, 1) := by decide +kernel
theorem dX3_fits_14 : decode cX3_fits 14 = .ok (.invokevirtual 159, 3) := by decide +kernel
theorem dX3_fits_17 : decode cX3_fits 17 = .ok (.ireturn, 1) := by decide +kernel
theorem dX3_strangest_0 : decode cX3_strangest 0 = .ok (.iconst (-1), 1) := by decide +kernel
theorem dX3_strangest_1 : decode cX3_strangest 1 = .ok (.istore_n 1, 1) := by decide +kernel
theorem dX3_strangest_2 : decode cX3_strangest 2 = .ok (.iconst (-1), 1) := by decide +kernel
theorem dX3_strangest_3 : decode cX3_strangest 3 = .ok (.istore_n 2, 1) := by decide +kernel
theorem dX3_strangest_4 : decode cX3_strangest 4 = .ok (.iconst 0, 1) := by decide +kernel
theorem dX3_strangest_5 : decode cX3_strangest 5 = .ok (.istore_n 3, 1) := by decide +kernel
theorem dX3_strangest_6 : decode cX3_strangest 6 = .ok (.iload_n 3, 1) := by decide +kernel
theorem dX3_strangest_7 : decode cX3_strangest 7 = .ok (.aload_n 0, 1) := by decide +kernel
theorem dX3_strangest_8 : decode cX3_strangest 8 = .ok (.getfield 16, 3) := by decide +kernel
theorem dX3_strangest_11 : decode cX3_strangest 11 = .ok (.getfield 75, 3) := by decide +kernel
theorem dX3_strangest_14 : decode cX3_strangest 14 = .ok (.if_icmp .ge 34, 3) := by decide +kernel
theorem dX3_strangest_17 : decode cX3_strangest 17 = .ok (.aload_n 0, 1) := by decide +kernel
theorem dX3_strangest_18 : decode cX3_strangest 18 = .ok (.getfield 25, 3) := by decide +kernel
theorem dX3_strangest_21 : decode cX3_strangest 21 = .ok (.aload_n 0, 1) := by decide +kernel
theorem dX3_strangest_22 : decode cX3_strangest 22 = .ok (.getfield 32, 3) := by decide +kernel
theorem dX3_strangest_25 : decode cX3_strangest 25 = .ok (.iload_n 3, 1) := by decide +kernel
theorem dX3_strangest_26 : decode cX3_strangest 26 = .ok (.invokevirtual 156, 3) := by decide +kernel
theorem dX3_strangest_29 : decode cX3_strangest 29 = .ok (.istore 4, 2) := by decide +kernel
theorem dX3_strangest_31 : decode cX3_strangest 31 = .ok (.iload 4, 2) := by decide +kernel
theorem dX3_strangest_33 : decode cX3_strangest 33 = .ok (.iload_n 2, 1) := by decide +kernel
theorem dX3_strangest_34 : decode cX3_strangest 34 = .ok (.if_icmp .le 8, 3) := by decide +kernel
theorem dX3_strangest_37 : decode cX3_strangest 37 = .ok (.iload 4, 2) := by decide +kernel
theorem dX3_strangest_39 : decode cX3_strangest 39 = .ok (.istore_n 2, 1) := by decide +kernel
theorem dX3_strangest_40 : decode cX3_strangest 40 = .ok (.iload_n 3, 1) := by decide +kernel
theorem dX3_strangest_41 : decode cX3_strangest 41 = .ok (.istore_n 1, 1) := by decide +kernel
theorem dX3_strangest_42 : decode cX3_strangest 42 = .ok (.iinc 3 1, 3) := by decide +kernel
theorem dX3_strangest_45 : decode cX3_strangest 45 = .ok (.goto (-39), 3) := by decide +kernel
theorem dX3_strangest_48 : decode cX3_strangest 48 = .ok (.iload_n 1, 1) := by decide +kernel
theorem dX3_strangest_49 : decode cX3_strangest 49 = .ok (.ireturn, 1) := by decide +kernel
theorem dX3_slotCount_0 : decode cX3_slotCount 0 = .ok (.aload_n 0, 1) := by decide +kernel
theorem dX3_slotCount_1 : decode cX3_slotCount 1 = .ok (.getfield 32, 3) := by decide +kernel
theorem dX3_slotCount_4 : decode cX3_slotCount 4 = .ok (.getfield 163, 3) := by decide +kernel
theorem dX3_slotCount_7 : decode cX3_slotCount 7 = .ok (.ireturn, 1) := by decide +kernel
theorem dX3_slotKind_0 : decode cX3_slotKind 0 = .ok (.aload_n 0, 1) := by decide +kernel
theorem dX3_slotKind_1 : decode cX3_slotKind 1 = .ok (.getfield 32, 3) := by decide +kernel
theorem dX3_slotKind_4 : decode cX3_slotKind 4 = .ok (.getfield 166, 3) := by decide +kernel
theorem dX3_slotKind_7 : decode cX3_slotKind 7 = .ok (.aload_n 0, 1) := by decide +kernel
theorem dX3_slotKind_8 : decode cX3_slotKind 8 = .ok (.iload_n 1, 1) := by decide +kernel
theorem dX3_slotKind_9 : decode cX3_slotKind 9 = .ok (.invokevirtual 167, 3) := by decide +kernel
theorem dX3_slotKind_12 : decode cX3_slotKind 12 = .ok (.iaload, 1) := by decide +kernel
theorem dX3_slotKind_13 : decode cX3_slotKind 13 = .ok (.ireturn, 1) := by decide +kernel
theorem dX3_textByte_0 : decode cX3_textByte 0 = .ok (.aload_n 0, 1) := by decide +kernel
theorem dX3_textByte_1 : decode cX3_textByte 1 = .ok (.getfield 32, 3) := by decide +kernel
theorem dX3_textByte_4 : decode cX3_textByte 4 = .ok (.getfield 170, 3) := by decide +kernel
theorem dX3_textByte_7 : decode cX3_textByte 7 = .ok (.aload_n 0, 1) := by decide +kernel
theorem dX3_textByte_8 : decode cX3_textByte 8 = .ok (.iload_n 1, 1) := by decide +kernel
theorem dX3_textByte_9 : decode cX3_textByte 9 = .ok (.invokevirtual 167, 3) := by decide +kernel
theorem dX3_textByte_12 : decode cX3_textByte 12 = .ok (.iaload, 1) := by decide +kernel
theorem dX3_textByte_13 : decode cX3_textByte 13 = .ok (.istore_n 3, 1) := by decide +kernel
theorem dX3_textByte_14 : decode cX3_textByte 14 = .ok (.iload_n 3, 1) := by decide +kernel
theorem dX3_textByte_15 : decode cX3_textByte 15 = .ok (.iconst (-1), 1) := by decide +kernel
theorem dX3_textByte_16 : decode cX3_textByte 16 = .ok (.if_icmp .ne 5, 3) := by decide +kernel
theorem dX3_textByte_19 : decode cX3_textByte 19 = .ok (.iconst (-1), 1) := by decide +kernel
theorem dX3_textByte_20 : decode cX3_textByte 20 = .ok (.ireturn, 1) := by decide +kernel
theorem dX3_textByte_21 : decode cX3_textByte 21 = .ok (.iload_n 2, 1) := by decide +kernel
theorem dX3_textByte_22 : decode cX3_textByte 22 = .ok (.ifCond .lt 16, 3) := by decide +kernel
theorem dX3_textByte_25 : decode cX3_textByte 25 = .ok (.iload_n 2, 1) := by decide +kernel
theorem dX3_textByte_26 : decode cX3_textByte 26 = .ok (.aload_n 0, 1) := by decide +kernel
theorem dX3_textByte_27 : decode cX3_textByte 27 = .ok (.getfield 16, 3) := by decide +kernel
theorem dX3_textByte_30 : decode cX3_textByte 30 = .ok (.getfield 171, 3) := by decide +kernel
theorem dX3_textByte_33 : decode cX3_textByte 33 = .ok (.iload_n 3, 1) := by decide +kernel
theorem dX3_textByte_34 : decode cX3_textByte 34 = .ok (.iaload, 1) := by decide +kernel
theorem dX3_textByte_35 : decode cX3_textByte 35 = .ok (.if_icmp .lt 13, 3) := by decide +kernel
theorem dX3_textByte_38 : decode cX3_textByte 38 = .ok (.new 174, 3) := by decide +kernel
theorem dX3_textByte_41 : decode cX3_textByte 41 = .ok (.dup, 1) := by decide +kernel
theorem dX3_textByte_42 : decode cX3_textByte 42 = .ok (.ldc 176, 2) := by decide +kernel
theorem dX3_textByte_44 : decode cX3_textByte 44 = .ok (.invokespecial 178, 3) := by decide +kernel
theorem dX3_textByte_47 : decode cX3_textByte 47 = .ok (.athrow, 1) := by decide +kernel
theorem dX3_textByte_48 : decode cX3_textByte 48 = .ok (.aload_n 0, 1) := by decide +kernel
theorem dX3_textByte_49 : decode cX3_textByte 49 = .ok (.getfield 16, 3) := by decide +kernel
theorem dX3_textByte_52 : decode cX3_textByte 52 = .ok (.getfield 179, 3) := by decide +kernel
theorem dX3_textByte_55 : decode cX3_textByte 55 = .ok (.aload_n 0, 1) := by decide +kernel
theorem dX3_textByte_56 : decode cX3_textByte 56 = .ok (.getfield 16, 3) := by decide +kernel
theorem dX3_textByte_59 : decode cX3_textByte 59 = .ok (.getfield 106, 3) := by decide +kernel
theorem dX3_textByte_62 : decode cX3_textByte 62 = .ok (.iload_n 3, 1) := by decide +kernel
theorem dX3_textByte_63 : decode cX3_textByte 63 = .ok (.iaload, 1) := by decide +kernel
theorem dX3_textByte_64 : decode cX3_textByte 64 = .ok (.iload_n 2, 1) := by decide +kernel
theorem dX3_textByte_65 : decode cX3_textByte 65 = .ok (.iadd, 1) := by decide +kernel
theorem dX3_textByte_66 : decode cX3_textByte 66 = .ok (.baload, 1) := by decide +kernel
theorem dX3_textByte_67 : decode cX3_textByte 67 = .ok (.ireturn, 1) := by decide +kernel
theorem dX3_sizeOf_0 : decode cX3_sizeOf 0 = .ok (.aload_n 0, 1) := by decide +kernel
theorem dX3_sizeOf_1 : decode cX3_sizeOf 1 = .ok (.iload_n 1, 1) := by decide +kernel
theorem dX3_sizeOf_2 : decode cX3_sizeOf 2 = .ok (.invokevirtual 167, 3) := by decide +kernel
theorem dX3_sizeOf_5 : decode cX3_sizeOf 5 = .ok (.istore_n 3, 1) := by decide +kernel
theorem dX3_sizeOf_6 : decode cX3_sizeOf 6 = .ok (.iload_n 2, 1) := by decide +kernel
theorem dX3_sizeOf_7 : decode cX3_sizeOf 7 = .ok (.ifCond .eq 15, 3) := by decide +kernel
theorem dX3_sizeOf_10 : decode cX3_sizeOf 10 = .ok (.aload_n 0, 1) := by decide +kernel
theorem dX3_sizeOf_11 : decode cX3_sizeOf 11 = .ok (.getfield 32, 3) := by decide +kernel
theorem dX3_sizeOf_14 : decode cX3_sizeOf 14 = .ok (.getfield 182, 3) := by decide +kernel
theorem dX3_sizeOf_17 : decode cX3_sizeOf 17 = .ok (.iload_n 3, 1) := by decide +kernel
theorem dX3_sizeOf_18 : decode cX3_sizeOf 18 = .ok (.iaload, 1) := by decide +kernel
theorem dX3_sizeOf_19 : decode cX3_sizeOf 19 = .ok (.goto 12, 3) := by decide +kernel
theorem dX3_sizeOf_22 : decode cX3_sizeOf 22 = .ok (.aload_n 0, 1) := by decide +kernel
theorem dX3_sizeOf_23 : decode cX3_sizeOf 23 = .ok (.getfield 32, 3) := by decide +kernel
theorem dX3_sizeOf_26 : decode cX3_sizeOf 26 = .ok (.getfield 185, 3) := by decide +kernel
theorem dX3_sizeOf_29 : decode cX3_sizeOf 29 = .ok (.iload_n 3, 1) := by decide +kernel
theorem dX3_sizeOf_30 : decode cX3_sizeOf 30 = .ok (.iaload, 1) := by decide +kernel
theorem dX3_sizeOf_31 : decode cX3_sizeOf 31 = .ok (.ireturn, 1) := by decide +kernel
theorem dX3_uses_0 : decode cX3_uses 0 = .ok (.aload_n 0, 1) := by decide +kernel
theorem dX3_uses_1 : decode cX3_uses 1 = .ok (.getfield 32, 3) := by decide +kernel
theorem dX3_uses_4 : decode cX3_uses 4 = .ok (.getfield 188, 3) := by decide +kernel
theorem dX3_uses_7 : decode cX3_uses 7 = .ok (.aload_n 0, 1) := by decide +kernel
theorem dX3_uses_8 : decode cX3_uses 8 = .ok (.iload_n 1, 1) := by decide +kernel
theorem dX3_uses_9 : decode cX3_uses 9 = .ok (.invokevirtual 167, 3) := by decide +kernel
theorem dX3_uses_12 : decode cX3_uses 12 = .ok (.iaload, 1) := by decide +kernel
theorem dX3_uses_13 : decode cX3_uses 13 = .ok (.ireturn, 1) := by decide +kernel
theorem dX3_isOptional_0 : decode cX3_isOptional 0 = .ok (.aload_n 0, 1) := by decide +kernel
theorem dX3_isOptional_1 : decode cX3_isOptional 1 = .ok (.getfield 32, 3) := by decide +kernel
theorem dX3_isOptional_4 : decode cX3_isOptional 4 = .ok (.aload_n 0, 1) := by decide +kernel
theorem dX3_isOptional_5 : decode cX3_isOptional 5 = .ok (.iload_n 1, 1) := by decide +kernel
theorem dX3_isOptional_6 : decode cX3_isOptional 6 = .ok (.invokevirtual 167, 3) := by decide +kernel
theorem dX3_isOptional_9 : decode cX3_isOptional 9 = .ok (.invokevirtual 191, 3) := by decide +kernel
theorem dX3_isOptional_12 : decode cX3_isOptional 12 = .ok (.ireturn, 1) := by decide +kernel
theorem dX3_tokenAt_0 : decode cX3_tokenAt 0 = .ok (.aload_n 0, 1) := by decide +kernel
theorem dX3_tokenAt_1 : decode cX3_tokenAt 1 = .ok (.iload_n 1, 1) := by decide +kernel
theorem dX3_tokenAt_2 : decode cX3_tokenAt 2 = .ok (.invokevirtual 88, 3) := by decide +kernel
theorem dX3_tokenAt_5 : decode cX3_tokenAt 5 = .ok (.aload_n 0, 1) := by decide +kernel
theorem dX3_tokenAt_6 : decode cX3_tokenAt 6 = .ok (.iload_n 1, 1) := by decide +kernel
theorem dX3_tokenAt_7 : decode cX3_tokenAt 7 = .ok (.aload_n 0, 1) := by decide +kernel
theorem dX3_tokenAt_8 : decode cX3_tokenAt 8 = .ok (.iload_n 2, 1) := by decide +kernel
theorem dX3_tokenAt_9 : decode cX3_tokenAt 9 = .ok (.invokevirtual 167, 3) := by decide +kernel
theorem dX3_tokenAt_12 : decode cX3_tokenAt 12 = .ok (.invokevirtual 194, 3) := by decide +kernel
theorem dX3_tokenAt_15 : decode cX3_tokenAt 15 = .ok (.ireturn, 1) := by decide +kernel
theorem dX3_numberAt_0 : decode cX3_numberAt 0 = .ok (.aload_n 0, 1) := by decide +kernel
theorem dX3_numberAt_1 : decode cX3_numberAt 1 = .ok (.iload_n 1, 1) := by decide +kernel
theorem dX3_numberAt_2 : decode cX3_numberAt 2 = .ok (.invokevirtual 88, 3) := by decide +kernel
theorem dX3_numberAt_5 : decode cX3_numberAt 5 = .ok (.aload_n 0, 1) := by decide +kernel
theorem dX3_numberAt_6 : decode cX3_numberAt 6 = .ok (.iload_n 1, 1) := by decide +kernel
theorem dX3_numberAt_7 : decode cX3_numberAt 7 = .ok (.aload_n 0, 1) := by decide +kernel
theorem dX3_numberAt_8 : decode cX3_numberAt 8 = .ok (.iload_n 2, 1) := by decide +kernel
theorem dX3_numberAt_9 : decode cX3_numberAt 9 = .ok (.invokevirtual 167, 3) := by decide +kernel
theorem dX3_numberAt_12 : decode cX3_numberAt 12 = .ok (.invokevirtual 197, 3) := by decide +kernel
theorem dX3_numberAt_15 : decode cX3_numberAt 15 = .ok (.ireturn, 1) := by decide +kernel
theorem dX3_distinct_0 : decode cX3_distinct 0 = .ok (.aload_n 0, 1) := by decide +kernel
theorem dX3_distinct_1 : decode cX3_distinct 1 = .ok (.iload_n 1, 1) := by decide +kernel
theorem dX3_distinct_2 : decode cX3_distinct 2 = .ok (.invokevirtual 167, 3) := by decide +kernel
theorem dX3_distinct_5 : decode cX3_distinct 5 = .ok (.istore_n 2, 1) := by decide +kernel
theorem dX3_distinct_6 : decode cX3_distinct 6 = .ok (.iconst 0, 1) := by decide +kernel
theorem dX3_distinct_7 : decode cX3_distinct 7 = .ok (.istore_n 3, 1) := by decide +kernel
theorem dX3_distinct_8 : decode cX3_distinct 8 = .ok (.iconst 0, 1) := by decide +kernel
theorem dX3_distinct_9 : decode cX3_distinct 9 = .ok (.istore 4, 2) := by decide +kernel
theorem dX3_distinct_11 : decode cX3_distinct 11 = .ok (.iload 4, 2) := by decide +kernel
theorem dX3_distinct_13 : decode cX3_distinct 13 = .ok (.aload_n 0, 1) := by decide +kernel
theorem dX3_distinct_14 : decode cX3_distinct 14 = .ok (.getfield 16, 3) := by decide +kernel
theorem dX3_distinct_17 : decode cX3_distinct 17 = .ok (.getfield 75, 3) := by decide +kernel
theorem dX3_distinct_20 : decode cX3_distinct 20 = .ok (.if_icmp .ge 39, 3) := by decide +kernel
theorem dX3_distinct_23 : decode cX3_distinct 23 = .ok (.aload_n 0, 1) := by decide +kernel
theorem dX3_distinct_24 : decode cX3_distinct 24 = .ok (.iload 4, 2) := by decide +kernel
theorem dX3_distinct_26 : decode cX3_distinct 26 = .ok (.iload_n 2, 1) := by decide +kernel
theorem dX3_distinct_27 : decode cX3_distinct 27 = .ok (.invokevirtual 200, 3) := by decide +kernel
theorem dX3_distinct_30 : decode cX3_distinct 30 = .ok (.istore 5, 2) := by decide +kernel
theorem dX3_distinct_32 : decode cX3_distinct 32 = .ok (.iload 5, 2) := by decide +kernel
theorem dX3_distinct_34 : decode cX3_distinct 34 = .ok (.iconst (-1), 1) := by decide +kernel
theorem dX3_distinct_35 : decode cX3_distinct 35 = .ok (.if_icmp .eq 18, 3) := by decide +kernel
theorem dX3_distinct_38 : decode cX3_distinct 38 = .ok (.aload_n 0, 1) := by decide +kernel
theorem dX3_distinct_39 : decode cX3_distinct 39 = .ok (.iload 4, 2) := by decide +kernel
theorem dX3_distinct_41 : decode cX3_distinct 41 = .ok (.iload_n 2, 1) := by decide +kernel
theorem dX3_distinct_42 : decode cX3_distinct 42 = .ok (.iload 5, 2) := by decide +kernel
theorem dX3_distinct_44 : decode cX3_distinct 44 = .ok (.invokevirtual 203, 3) := by decide +kernel
theorem dX3_distinct_47 : decode cX3_distinct 47 = .ok (.ifCond .ne 6, 3) := by decide +kernel
theorem dX3_distinct_50 : decode cX3_distinct 50 = .ok (.iinc 3 1, 3) := by decide +kernel
theorem dX3_distinct_53 : decode cX3_distinct 53 = .ok (.iinc 4 1, 3) := by decide +kernel
theorem dX3_distinct_56 : decode cX3_distinct 56 = .ok (.goto (-45), 3) := by decide +kernel
theorem dX3_distinct_59 : decode cX3_distinct 59 = .ok (.iload_n 3, 1) := by decide +kernel
theorem dX3_distinct_60 : decode cX3_distinct 60 = .ok (.ireturn, 1) := by decide +kernel
theorem dX3_isTextBefore_0 : decode cX3_isTextBefore 0 = .ok (.iconst 0, 1) := by decide +kernel
theorem dX3_isTextBefore_1 : decode cX3_isTextBefore 1 = .ok (.istore 4, 2) := by decide +kernel
theorem dX3_isTextBefore_3 : decode cX3_isTextBefore 3 = .ok (.iload 4, 2) := by decide +kernel
theorem dX3_isTextBefore_5 : decode cX3_isTextBefore 5 = .ok (.iload_n 1, 1) := by decide +kernel
theorem dX3_isTextBefore_6 : decode cX3_isTextBefore 6 = .ok (.if_icmp .ge 22, 3) := by decide +kernel
theorem dX3_isTextBefore_9 : decode cX3_isTextBefore 9 = .ok (.aload_n 0, 1) := by decide +kernel
theorem dX3_isTextBefore_10 : decode cX3_isTextBefore 10 = .ok (.iload 4, 2) := by decide +kernel
theorem dX3_isTextBefore_12 : decode cX3_isTextBefore 12 = .ok (.iload_n 2, 1) := by decide +kernel
theorem dX3_isTextBefore_13 : decode cX3_isTextBefore 13 = .ok (.invokevirtual 200, 3) := by decide +kernel
theorem dX3_isTextBefore_16 : decode cX3_isTextBefore 16 = .ok (.iload_n 3, 1) := by decide +kernel
theorem dX3_isTextBefore_17 : decode cX3_isTextBefore 17 = .ok (.if_icmp .ne 5, 3) := by decide +kernel
theorem dX3_isTextBefore_20 : decode cX3_isTextBefore 20 = .ok (.iconst 1, 1) := by decide +kernel
theorem dX3_isTextBefore_21 : decode cX3_isTextBefore 21 = .ok (.ireturn, 1) := by decide +kernel
theorem dX3_isTextBefore_22 : decode cX3_isTextBefore 22 = .ok (.iinc 4 1, 3) := by decide +kernel
theorem dX3_isTextBefore_25 : decode cX3_isTextBefore 25 = .ok (.goto (-22), 3) := by decide +kernel
theorem dX3_isTextBefore_28 : decode cX3_isTextBefore 28 = .ok (.iconst 0, 1) := by decide +kernel
theorem dX3_isTextBefore_29 : decode cX3_isTextBefore 29 = .ok (.ireturn, 1) := by decide +kernel
theorem dX3_isRising_0 : decode cX3_isRising 0 = .ok (.aload_n 0, 1) := by decide +kernel
theorem dX3_isRising_1 : decode cX3_isRising 1 = .ok (.iload_n 1, 1) := by decide +kernel
theorem dX3_isRising_2 : decode cX3_isRising 2 = .ok (.invokevirtual 167, 3) := by decide +kernel
theorem dX3_isRising_5 : decode cX3_isRising 5 = .ok (.istore_n 2, 1) := by decide +kernel
theorem dX3_isRising_6 : decode cX3_isRising 6 = .ok (.aload_n 0, 1) := by decide +kernel
theorem dX3_isRising_7 : decode cX3_isRising 7 = .ok (.getfield 32, 3) := by decide +kernel
theorem dX3_isRising_10 : decode cX3_isRising 10 = .ok (.getfield 166, 3) := by decide +kernel
theorem dX3_isRising_13 : decode cX3_isRising 13 = .ok (.iload_n 2, 1) := by decide +kernel
theorem dX3_isRising_14 : decode cX3_isRising 14 = .ok (.iaload, 1) := by decide +kernel
theorem dX3_isRising_15 : decode cX3_isRising 15 = .ok (.iconst 1, 1) := by decide +kernel
theorem dX3_isRising_16 : decode cX3_isRising 16 = .ok (.if_icmp .ne 16, 3) := by decide +kernel
theorem dX3_isRising_19 : decode cX3_isRising 19 = .ok (.aload_n 0, 1) := by decide +kernel
theorem dX3_isRising_20 : decode cX3_isRising 20 = .ok (.getfield 32, 3) := by decide +kernel
theorem dX3_isRising_23 : decode cX3_isRising 23 = .ok (.getfield 188, 3) := by decide +kernel
theorem dX3_isRising_26 : decode cX3_isRising 26 = .ok (.iload_n 2, 1) := by decide +kernel
theorem dX3_isRising_27 : decode cX3_isRising 27 = .ok (.iaload, 1) := by decide +kernel
theorem dX3_isRising_28 : decode cX3_isRising 28 = .ok (.iconst 2, 1) := by decide +kernel
theorem dX3_isRising_29 : decode cX3_isRising 29 = .ok (.if_icmp .ge 5, 3) := by decide +kernel
theorem dX3_isRising_32 : decode cX3_isRising 32 = .ok (.iconst 0, 1) := by decide +kernel
theorem dX3_isRising_33 : decode cX3_isRising 33 = .ok (.ireturn, 1) := by decide +kernel
theorem dX3_isRising_34 : decode cX3_isRising 34 = .ok (.iconst (-1), 1) := by decide +kernel
theorem dX3_isRising_35 : decode cX3_isRising 35 = .ok (.istore_n 3, 1) := by decide +kernel
theorem dX3_isRising_36 : decode cX3_isRising 36 = .ok (.iconst 0, 1) := by decide +kernel
theorem dX3_isRising_37 : decode cX3_isRising 37 = .ok (.istore 4, 2) := by decide +kernel
theorem dX3_isRising_39 : decode cX3_isRising 39 = .ok (.iload 4, 2) := by decide +kernel
theorem dX3_isRising_41 : decode cX3_isRising 41 = .ok (.aload_n 0, 1) := by decide +kernel
theorem dX3_isRising_42 : decode cX3_isRising 42 = .ok (.getfield 16, 3) := by decide +kernel
theorem dX3_isRising_45 : decode cX3_isRising 45 = .ok (.getfield 75, 3) := by decide +kernel
theorem dX3_isRising_48 : decode cX3_isRising 48 = .ok (.if_icmp .ge 40, 3) := by decide +kernel
theorem dX3_isRising_51 : decode cX3_isRising 51 = .ok (.aload_n 0, 1) := by decide +kernel
theorem dX3_isRising_52 : decode cX3_isRising 52 = .ok (.iload 4, 2) := by decide +kernel
theorem dX3_isRising_54 : decode cX3_isRising 54 = .ok (.iload_n 2, 1) := by decide +kernel
theorem dX3_isRising_55 : decode cX3_isRising 55 = .ok (.invokevirtual 194, 3) := by decide +kernel
theorem dX3_isRising_58 : decode cX3_isRising 58 = .ok (.iconst (-1), 1) := by decide +kernel
theorem dX3_isRising_59 : decode cX3_isRising 59 = .ok (.if_icmp .eq 23, 3) := by decide +kernel
theorem dX3_isRising_62 : decode cX3_isRising 62 = .ok (.aload_n 0, 1) := by decide +kernel
theorem dX3_isRising_63 : decode cX3_isRising 63 = .ok (.iload 4, 2) := by decide +kernel
theorem dX3_isRising_65 : decode cX3_isRising 65 = .ok (.iload_n 2, 1) := by decide +kernel
theorem dX3_isRising_66 : decode cX3_isRising 66 = .ok (.invokevirtual 197, 3) := by decide +kernel
theorem dX3_isRising_69 : decode cX3_isRising 69 = .ok (.istore 5, 2) := by decide +kernel
theorem dX3_isRising_71 : decode cX3_isRising 71 = .ok (.iload 5, 2) := by decide +kernel
theorem dX3_isRising_73 : decode cX3_isRising 73 = .ok (.iload_n 3, 1) := by decide +kernel
theorem dX3_isRising_74 : decode cX3_isRising 74 = .ok (.if_icmp .gt 5, 3) := by decide +kernel
theorem dX3_isRising_77 : decode cX3_isRising 77 = .ok (.iconst 0, 1) := by decide +kernel
theorem dX3_isRising_78 : decode cX3_isRising 78 = .ok (.ireturn, 1) := by decide +kernel
theorem dX3_isRising_79 : decode cX3_isRising 79 = .ok (.iload 5, 2) := by decide +kernel
theorem dX3_isRising_81 : decode cX3_isRising 81 = .ok (.istore_n 3, 1) := by decide +kernel
theorem dX3_isRising_82 : decode cX3_isRising 82 = .ok (.iinc 4 1, 3) := by decide +kernel
theorem dX3_isRising_85 : decode cX3_isRising 85 = .ok (.goto (-46), 3) := by decide +kernel
theorem dX3_isRising_88 : decode cX3_isRising 88 = .ok (.iconst 1, 1) := by decide +kernel
theorem dX3_isRising_89 : decode cX3_isRising 89 = .ok (.ireturn, 1) := by decide +kernel
theorem dX3_bits_0 : decode cX3_bits 0 = .ok (.iconst 0, 1) := by decide +kernel
theorem dX3_bits_1 : decode cX3_bits 1 = .ok (.istore_n 1, 1) := by decide +kernel
theorem dX3_bits_2 : decode cX3_bits 2 = .ok (.iconst 0, 1) := by decide +kernel
theorem dX3_bits_3 : decode cX3_bits 3 = .ok (.istore_n 2, 1) := by decide +kernel
theorem dX3_bits_4 : decode cX3_bits 4 = .ok (.iload_n 2, 1) := by decide +kernel
theorem dX3_bits_5 : decode cX3_bits 5 = .ok (.aload_n 0, 1) := by decide +kernel
theorem dX3_bits_6 : decode cX3_bits 6 = .ok (.getfield 32, 3) := by decide +kernel
theorem dX3_bits_9 : decode cX3_bits 9 = .ok (.getfield 163, 3) := by decide +kernel
theorem dX3_bits_12 : decode cX3_bits 12 = .ok (.if_icmp .ge 57, 3) := by decide +kernel
theorem dX3_bits_15 : decode cX3_bits 15 = .ok (.aload_n 0, 1) := by decide +kernel
theorem dX3_bits_16 : decode cX3_bits 16 = .ok (.getfield 32, 3) := by decide +kernel
theorem dX3_bits_19 : decode cX3_bits 19 = .ok (.getfield 206, 3) := by decide +kernel
theorem dX3_bits_22 : decode cX3_bits 22 = .ok (.iload_n 2, 1) := by decide +kernel
theorem dX3_bits_23 : decode cX3_bits 23 = .ok (.iaload, 1) := by decide +kernel
theorem dX3_bits_24 : decode cX3_bits 24 = .ok (.istore_n 3, 1) := by decide +kernel
theorem dX3_bits_25 : decode cX3_bits 25 = .ok (.iload_n 1, 1) := by decide +kernel
theorem dX3_bits_26 : decode cX3_bits 26 = .ok (.iconst 4, 1) := by decide +kernel
theorem dX3_bits_27 : decode cX3_bits 27 = .ok (.bipush 8, 2) := by decide +kernel
theorem dX3_bits_29 : decode cX3_bits 29 = .ok (.iconst 0, 1) := by decide +kernel
theorem dX3_bits_30 : decode cX3_bits 30 = .ok (.aload_n 0, 1) := by decide +kernel
theorem dX3_bits_31 : decode cX3_bits 31 = .ok (.iload_n 3, 1) := by decide +kernel
theorem dX3_bits_32 : decode cX3_bits 32 = .ok (.invokevirtual 209, 3) := by decide +kernel
theorem dX3_bits_35 : decode cX3_bits 35 = .ok (.invokestatic 212, 3) := by decide +kernel
theorem dX3_bits_38 : decode cX3_bits 38 = .ok (.imul, 1) := by decide +kernel
theorem dX3_bits_39 : decode cX3_bits 39 = .ok (.iadd, 1) := by decide +kernel
theorem dX3_bits_40 : decode cX3_bits 40 = .ok (.iadd, 1) := by decide +kernel
theorem dX3_bits_41 : decode cX3_bits 41 = .ok (.istore_n 1, 1) := by decide +kernel
theorem dX3_bits_42 : decode cX3_bits 42 = .ok (.aload_n 0, 1) := by decide +kernel
theorem dX3_bits_43 : decode cX3_bits 43 = .ok (.getfield 32, 3) := by decide +kernel
theorem dX3_bits_46 : decode cX3_bits 46 = .ok (.iload_n 3, 1) := by decide +kernel
theorem dX3_bits_47 : decode cX3_bits 47 = .ok (.invokevirtual 191, 3) := by decide +kernel
theorem dX3_bits_50 : decode cX3_bits 50 = .ok (.ifCond .eq 13, 3) := by decide +kernel
theorem dX3_bits_53 : decode cX3_bits 53 = .ok (.iload_n 1, 1) := by decide +kernel
theorem dX3_bits_54 : decode cX3_bits 54 = .ok (.aload_n 0, 1) := by decide +kernel
theorem dX3_bits_55 : decode cX3_bits 55 = .ok (.getfield 32, 3) := by decide +kernel
theorem dX3_bits_58 : decode cX3_bits 58 = .ok (.getfield 150, 3) := by decide +kernel
theorem dX3_bits_61 : decode cX3_bits 61 = .ok (.iadd, 1) := by decide +kernel
theorem dX3_bits_62 : decode cX3_bits 62 = .ok (.istore_n 1, 1) := by decide +kernel
theorem dX3_bits_63 : decode cX3_bits 63 = .ok (.iinc 2 1, 3) := by decide +kernel
theorem dX3_bits_66 : decode cX3_bits 66 = .ok (.goto (-62), 3) := by decide +kernel
theorem dX3_bits_69 : decode cX3_bits 69 = .ok (.iconst 0, 1) := by decide +kernel
theorem dX3_bits_70 : decode cX3_bits 70 = .ok (.istore_n 2, 1) := by decide +kernel
theorem dX3_bits_71 : decode cX3_bits 71 = .ok (.iload_n 2, 1) := by decide +kernel
theorem dX3_bits_72 : decode cX3_bits 72 = .ok (.aload_n 0, 1) := by decide +kernel
theorem dX3_bits_73 : decode cX3_bits 73 = .ok (.getfield 16, 3) := by decide +kernel
theorem dX3_bits_76 : decode cX3_bits 76 = .ok (.getfield 75, 3) := by decide +kernel
theorem dX3_bits_79 : decode cX3_bits 79 = .ok (.if_icmp .ge 26, 3) := by decide +kernel
theorem dX3_bits_82 : decode cX3_bits 82 = .ok (.aload_n 0, 1) := by decide +kernel
theorem dX3_bits_83 : decode cX3_bits 83 = .ok (.getfield 36, 3) := by decide +kernel
theorem dX3_bits_86 : decode cX3_bits 86 = .ok (.iload_n 2, 1) := by decide +kernel
theorem dX3_bits_87 : decode cX3_bits 87 = .ok (.baload, 1) := by decide +kernel
theorem dX3_bits_88 : decode cX3_bits 88 = .ok (.ifCond .eq 11, 3) := by decide +kernel
theorem dX3_bits_91 : decode cX3_bits 91 = .ok (.iload_n 1, 1) := by decide +kernel
theorem dX3_bits_92 : decode cX3_bits 92 = .ok (.aload_n 0, 1) := by decide +kernel
theorem dX3_bits_93 : decode cX3_bits 93 = .ok (.iload_n 2, 1) := by decide +kernel
theorem dX3_bits_94 : decode cX3_bits 94 = .ok (.invokevirtual 215, 3) := by decide +kernel
theorem dX3_bits_97 : decode cX3_bits 97 = .ok (.iadd, 1) := by decide +kernel
theorem dX3_bits_98 : decode cX3_bits 98 = .ok (.istore_n 1, 1) := by decide +kernel
theorem dX3_bits_99 : decode cX3_bits 99 = .ok (.iinc 2 1, 3) := by decide +kernel
theorem dX3_bits_102 : decode cX3_bits 102 = .ok (.goto (-31), 3) := by decide +kernel
theorem dX3_bits_105 : decode cX3_bits 105 = .ok (.iload_n 1, 1) := by decide +kernel
theorem dX3_bits_106 : decode cX3_bits 106 = .ok (.ireturn, 1) := by decide +kernel
theorem dX3_bitsOfVarying_0 : decode cX3_bitsOfVarying 0 = .ok (.iconst 0, 1) := by decide +kernel
theorem dX3_bitsOfVarying_1 : decode cX3_bitsOfVarying 1 = .ok (.istore_n 2, 1) := by decide +kernel
theorem dX3_bitsOfVarying_2 : decode cX3_bitsOfVarying 2 = .ok (.aload_n 0, 1) := by decide +kernel
theorem dX3_bitsOfVarying_3 : decode cX3_bitsOfVarying 3 = .ok (.getfield 16, 3) := by decide +kernel
theorem dX3_bitsOfVarying_6 : decode cX3_bitsOfVarying 6 = .ok (.getfield 92, 3) := by decide +kernel
theorem dX3_bitsOfVarying_9 : decode cX3_bitsOfVarying 9 = .ok (.iload_n 1, 1) := by decide +kernel
theorem dX3_bitsOfVarying_10 : decode cX3_bitsOfVarying 10 = .ok (.iaload, 1) := by decide +kernel
theorem dX3_bitsOfVarying_11 : decode cX3_bitsOfVarying 11 = .ok (.istore_n 3, 1) := by decide +kernel
theorem dX3_bitsOfVarying_12 : decode cX3_bitsOfVarying 12 = .ok (.iconst 0, 1) := by decide +kernel
theorem dX3_bitsOfVarying_13 : decode cX3_bitsOfVarying 13 = .ok (.istore 4, 2) := by decide +kernel
theorem dX3_bitsOfVarying_15 : decode cX3_bitsOfVarying 15 = .ok (.iload 4, 2) := by decide +kernel
theorem dX3_bitsOfVarying_17 : decode cX3_bitsOfVarying 17 = .ok (.iload_n 3, 1) := by decide +kernel
theorem dX3_bitsOfVarying_18 : decode cX3_bitsOfVarying 18 = .ok (.if_icmp .ge 66, 3) := by decide +kernel
theorem dX3_bitsOfVarying_21 : decode cX3_bitsOfVarying 21 = .ok (.iload_n 1, 1) := by decide +kernel
theorem dX3_bitsOfVarying_22 : decode cX3_bitsOfVarying 22 = .ok (.iload 4, 2) := by decide +kernel
theorem dX3_bitsOfVarying_24 : decode cX3_bitsOfVarying 24 = .ok (.invokestatic 102, 3) := by decide +kernel
theorem dX3_bitsOfVarying_27 : decode cX3_bitsOfVarying 27 = .ok (.istore 5, 2) := by decide +kernel
theorem dX3_bitsOfVarying_29 : decode cX3_bitsOfVarying 29 = .ok (.aload_n 0, 1) := by decide +kernel
theorem dX3_bitsOfVarying_30 : decode cX3_bitsOfVarying 30 = .ok (.getfield 32, 3) := by decide +kernel
theorem dX3_bitsOfVarying_33 : decode cX3_bitsOfVarying 33 = .ok (.getfield 170, 3) := by decide +kernel
theorem dX3_bitsOfVarying_36 : decode cX3_bitsOfVarying 36 = .ok (.aload_n 0, 1) := by decide +kernel
theorem dX3_bitsOfVarying_37 : decode cX3_bitsOfVarying 37 = .ok (.getfield 40, 3) := by decide +kernel
theorem dX3_bitsOfVarying_40 : decode cX3_bitsOfVarying 40 = .ok (.iload 5, 2) := by decide +kernel
theorem dX3_bitsOfVarying_42 : decode cX3_bitsOfVarying 42 = .ok (.iaload, 1) := by decide +kernel
theorem dX3_bitsOfVarying_43 : decode cX3_bitsOfVarying 43 = .ok (.iaload, 1) := by decide +kernel
theorem dX3_bitsOfVarying_44 : decode cX3_bitsOfVarying 44 = .ok (.iconst (-1), 1) := by decide +kernel
theorem dX3_bitsOfVarying_45 : decode cX3_bitsOfVarying 45 = .ok (.if_icmp .ne 33, 3) := by decide +kernel
theorem dX3_bitsOfVarying_48 : decode cX3_bitsOfVarying 48 = .ok (.iload_n 2, 1) := by decide +kernel
theorem dX3_bitsOfVarying_49 : decode cX3_bitsOfVarying 49 = .ok (.iconst 1, 1) := by decide +kernel
theorem dX3_bitsOfVarying_50 : decode cX3_bitsOfVarying 50 = .ok (.getstatic 218, 3) := by decide +kernel
theorem dX3_bitsOfVarying_53 : decode cX3_bitsOfVarying 53 = .ok (.aload_n 0, 1) := by decide +kernel
theorem dX3_bitsOfVarying_54 : decode cX3_bitsOfVarying 54 = .ok (.getfield 16, 3) := by decide +kernel
theorem dX3_bitsOfVarying_57 : decode cX3_bitsOfVarying 57 = .ok (.getfield 99, 3) := by decide +kernel
theorem dX3_bitsOfVarying_60 : decode cX3_bitsOfVarying 60 = .ok (.iload 5, 2) := by decide +kernel
theorem dX3_bitsOfVarying_62 : decode cX3_bitsOfVarying 62 = .ok (.iaload, 1) := by decide +kernel
theorem dX3_bitsOfVarying_63 : decode cX3_bitsOfVarying 63 = .ok (.iaload, 1) := by decide +kernel
theorem dX3_bitsOfVarying_64 : decode cX3_bitsOfVarying 64 = .ok (.aload_n 0, 1) := by decide +kernel
theorem dX3_bitsOfVarying_65 : decode cX3_bitsOfVarying 65 = .ok (.getfield 16, 3) := by decide +kernel
theorem dX3_bitsOfVarying_68 : decode cX3_bitsOfVarying 68 = .ok (.getfield 171, 3) := by decide +kernel
theorem dX3_bitsOfVarying_71 : decode cX3_bitsOfVarying 71 = .ok (.iload 5, 2) := by decide +kernel
theorem dX3_bitsOfVarying_73 : decode cX3_bitsOfVarying 73 = .ok (.iaload, 1) := by decide +kernel
theorem dX3_bitsOfVarying_74 : decode cX3_bitsOfVarying 74 = .ok (.imul, 1) := by decide +kernel
theorem dX3_bitsOfVarying_75 : decode cX3_bitsOfVarying 75 = .ok (.iadd, 1) := by decide +kernel
theorem dX3_bitsOfVarying_76 : decode cX3_bitsOfVarying 76 = .ok (.iadd, 1) := by decide +kernel
theorem dX3_bitsOfVarying_77 : decode cX3_bitsOfVarying 77 = .ok (.istore_n 2, 1) := by decide +kernel
theorem dX3_bitsOfVarying_78 : decode cX3_bitsOfVarying 78 = .ok (.iinc 4 1, 3) := by decide +kernel
theorem dX3_bitsOfVarying_81 : decode cX3_bitsOfVarying 81 = .ok (.goto (-66), 3) := by decide +kernel
theorem dX3_bitsOfVarying_84 : decode cX3_bitsOfVarying 84 = .ok (.iload_n 2, 1) := by decide +kernel
theorem dX3_bitsOfVarying_85 : decode cX3_bitsOfVarying 85 = .ok (.ireturn, 1) := by decide +kernel
theorem dX3_saving_0 : decode cX3_saving 0 = .ok (.iconst 0, 1) := by decide +kernel
theorem dX3_saving_1 : decode cX3_saving 1 = .ok (.istore_n 1, 1) := by decide +kernel
theorem dX3_saving_2 : decode cX3_saving 2 = .ok (.iconst 0, 1) := by decide +kernel
theorem dX3_saving_3 : decode cX3_saving 3 = .ok (.istore_n 2, 1) := by decide +kernel
theorem dX3_saving_4 : decode cX3_saving 4 = .ok (.iload_n 2, 1) := by decide +kernel
theorem dX3_saving_5 : decode cX3_saving 5 = .ok (.aload_n 0, 1) := by decide +kernel
theorem dX3_saving_6 : decode cX3_saving 6 = .ok (.getfield 16, 3) := by decide +kernel
theorem dX3_saving_9 : decode cX3_saving 9 = .ok (.getfield 75, 3) := by decide +kernel
theorem dX3_saving_12 : decode cX3_saving 12 = .ok (.if_icmp .ge 36, 3) := by decide +kernel
theorem dX3_saving_15 : decode cX3_saving 15 = .ok (.aload_n 0, 1) := by decide +kernel
theorem dX3_saving_16 : decode cX3_saving 16 = .ok (.getfield 36, 3) := by decide +kernel
theorem dX3_saving_19 : decode cX3_saving 19 = .ok (.iload_n 2, 1) := by decide +kernel
theorem dX3_saving_20 : decode cX3_saving 20 = .ok (.baload, 1) := by decide +kernel
theorem dX3_saving_21 : decode cX3_saving 21 = .ok (.ifCond .eq 21, 3) := by decide +kernel
theorem dX3_saving_24 : decode cX3_saving 24 = .ok (.iload_n 1, 1) := by decide +kernel
theorem dX3_saving_25 : decode cX3_saving 25 = .ok (.bipush 8, 2) := by decide +kernel
theorem dX3_saving_27 : decode cX3_saving 27 = .ok (.bipush 8, 2) := by decide +kernel
theorem dX3_saving_29 : decode cX3_saving 29 = .ok (.aload_n 0, 1) := by decide +kernel
theorem dX3_saving_30 : decode cX3_saving 30 = .ok (.getfield 16, 3) := by decide +kernel
theorem dX3_saving_33 : decode cX3_saving 33 = .ok (.getfield 221, 3) := by decide +kernel
theorem dX3_saving_36 : decode cX3_saving 36 = .ok (.iload_n 2, 1) := by decide +kernel
theorem dX3_saving_37 : decode cX3_saving 37 = .ok (.iaload, 1) := by decide +kernel
theorem dX3_saving_38 : decode cX3_saving 38 = .ok (.imul, 1) := by decide +kernel
theorem dX3_saving_39 : decode cX3_saving 39 = .ok (.iadd, 1) := by decide +kernel
theorem dX3_saving_40 : decode cX3_saving 40 = .ok (.iadd, 1) := by decide +kernel
theorem dX3_saving_41 : decode cX3_saving 41 = .ok (.istore_n 1, 1) := by decide +kernel
theorem dX3_saving_42 : decode cX3_saving 42 = .ok (.iinc 2 1, 3) := by decide +kernel
theorem dX3_saving_45 : decode cX3_saving 45 = .ok (.goto (-41), 3) := by decide +kernel
theorem dX3_saving_48 : decode cX3_saving 48 = .ok (.iload_n 1, 1) := by decide +kernel
theorem dX3_saving_49 : decode cX3_saving 49 = .ok (.ifCond .ne 5, 3) := by decide +kernel
theorem dX3_saving_52 : decode cX3_saving 52 = .ok (.dconst 0, 1) := by decide +kernel
theorem dX3_saving_53 : decode cX3_saving 53 = .ok (.dreturn, 1) := by decide +kernel
theorem dX3_saving_54 : decode cX3_saving 54 = .ok (.dconst 1, 1) := by decide +kernel
theorem dX3_saving_55 : decode cX3_saving 55 = .ok (.aload_n 0, 1) := by decide +kernel
theorem dX3_saving_56 : decode cX3_saving 56 = .ok (.invokevirtual 224, 3) := by decide +kernel
theorem dX3_saving_59 : decode cX3_saving 59 = .ok (.i2d, 1) := by decide +kernel
theorem dX3_saving_60 : decode cX3_saving 60 = .ok (.iload_n 1, 1) := by decide +kernel
theorem dX3_saving_61 : decode cX3_saving 61 = .ok (.i2d, 1) := by decide +kernel
theorem dX3_saving_62 : decode cX3_saving 62 = .ok (.ddiv, 1) := by decide +kernel
theorem dX3_saving_63 : decode cX3_saving 63 = .ok (.dsub, 1) := by decide +kernel
theorem dX3_saving_64 : decode cX3_saving 64 = .ok (.dreturn, 1) := by decide +kernel
theorem dX3_group_0 : decode cX3_group 0 = .ok (.iload_n 1, 1) := by decide +kernel
theorem dX3_group_1 : decode cX3_group 1 = .ok (.ifCond .lt 10, 3) := by decide +kernel
theorem dX3_group_4 : decode cX3_group 4 = .ok (.iload_n 1, 1) := by decide +kernel
theorem dX3_group_5 : decode cX3_group 5 = .ok (.sipush 200, 3) := by decide +kernel
theorem dX3_group_8 : decode cX3_group 8 = .ok (.if_icmp .le 13, 3) := by decide +kernel
theorem dX3_group_11 : decode cX3_group 11 = .ok (.new 55, 3) := by decide +kernel
theorem dX3_group_14 : decode cX3_group 14 = .ok (.dup, 1) := by decide +kernel
theorem dX3_group_15 : decode cX3_group 15 = .ok (.ldc 228, 2) := by decide +kernel
theorem dX3_group_17 : decode cX3_group 17 = .ok (.invokespecial 59, 3) := by decide +kernel
theorem dX3_group_20 : decode cX3_group 20 = .ok (.athrow, 1) := by decide +kernel
theorem dX3_group_21 : decode cX3_group 21 = .ok (.aload_n 0, 1) := by decide +kernel
theorem dX3_group_22 : decode cX3_group 22 = .ok (.iconst 0, 1) := by decide +kernel
theorem dX3_group_23 : decode cX3_group 23 = .ok (.putfield 230, 3) := by decide +kernel
theorem dX3_group_26 : decode cX3_group 26 = .ok (.iconst 0, 1) := by decide +kernel
theorem dX3_group_27 : decode cX3_group 27 = .ok (.istore_n 2, 1) := by decide +kernel
theorem dX3_group_28 : decode cX3_group 28 = .ok (.iload_n 2, 1) := by decide +kernel
theorem dX3_group_29 : decode cX3_group 29 = .ok (.aload_n 0, 1) := by decide +kernel
theorem dX3_group_30 : decode cX3_group 30 = .ok (.getfield 16, 3) := by decide +kernel
theorem dX3_group_33 : decode cX3_group 33 = .ok (.getfield 75, 3) := by decide +kernel
theorem dX3_group_36 : decode cX3_group 36 = .ok (.if_icmp .ge 81, 3) := by decide +kernel
theorem dX3_group_39 : decode cX3_group 39 = .ok (.aload_n 0, 1) := by decide +kernel
theorem dX3_group_40 : decode cX3_group 40 = .ok (.iload_n 2, 1) := by decide +kernel
theorem dX3_group_41 : decode cX3_group 41 = .ok (.iload_n 1, 1) := by decide +kernel
theorem dX3_group_42 : decode cX3_group 42 = .ok (.invokevirtual 233, 3) := by decide +kernel
theorem dX3_group_45 : decode cX3_group 45 = .ok (.istore_n 3, 1) := by decide +kernel
theorem dX3_group_46 : decode cX3_group 46 = .ok (.iload_n 3, 1) := by decide +kernel
theorem dX3_group_47 : decode cX3_group 47 = .ok (.iconst (-1), 1) := by decide +kernel
theorem dX3_group_48 : decode cX3_group 48 = .ok (.if_icmp .ne 27, 3) := by decide +kernel
theorem dX3_group_51 : decode cX3_group 51 = .ok (.aload_n 0, 1) := by decide +kernel
theorem dX3_group_52 : decode cX3_group 52 = .ok (.getfield 230, 3) := by decide +kernel
theorem dX3_group_55 : decode cX3_group 55 = .ok (.istore_n 3, 1) := by decide +kernel
theorem dX3_group_56 : decode cX3_group 56 = .ok (.aload_n 0, 1) := by decide +kernel
theorem dX3_group_57 : decode cX3_group 57 = .ok (.getfield 47, 3) := by decide +kernel
theorem dX3_group_60 : decode cX3_group 60 = .ok (.iload_n 3, 1) := by decide +kernel
theorem dX3_group_61 : decode cX3_group 61 = .ok (.aaload, 1) := by decide +kernel
theorem dX3_group_62 : decode cX3_group 62 = .ok (.invokevirtual 153, 3) := by decide +kernel
theorem dX3_group_65 : decode cX3_group 65 = .ok (.aload_n 0, 1) := by decide +kernel
theorem dX3_group_66 : decode cX3_group 66 = .ok (.dup, 1) := by decide +kernel
theorem dX3_group_67 : decode cX3_group 67 = .ok (.getfield 230, 3) := by decide +kernel
theorem dX3_group_70 : decode cX3_group 70 = .ok (.iconst 1, 1) := by decide +kernel
theorem dX3_group_71 : decode cX3_group 71 = .ok (.iadd, 1) := by decide +kernel
theorem dX3_group_72 : decode cX3_group 72 = .ok (.putfield 230, 3) := by decide +kernel
theorem dX3_group_75 : decode cX3_group 75 = .ok (.aload_n 0, 1) := by decide +kernel
theorem dX3_group_76 : decode cX3_group 76 = .ok (.getfield 25, 3) := by decide +kernel
theorem dX3_group_79 : decode cX3_group 79 = .ok (.aload_n 0, 1) := by decide +kernel
theorem dX3_group_80 : decode cX3_group 80 = .ok (.getfield 47, 3) := by decide +kernel
theorem dX3_group_83 : decode cX3_group 83 = .ok (.iload_n 3, 1) := by decide +kernel
theorem dX3_group_84 : decode cX3_group 84 = .ok (.aaload, 1) := by decide +kernel
theorem dX3_group_85 : decode cX3_group 85 = .ok (.iload_n 2, 1) := by decide +kernel
theorem dX3_group_86 : decode cX3_group 86 = .ok (.invokevirtual 133, 3) := by decide +kernel
theorem dX3_group_89 : decode cX3_group 89 = .ok (.pop, 1) := by decide +kernel
theorem dX3_group_90 : decode cX3_group 90 = .ok (.aload_n 0, 1) := by decide +kernel
theorem dX3_group_91 : decode cX3_group 91 = .ok (.getfield 25, 3) := by decide +kernel
theorem dX3_group_94 : decode cX3_group 94 = .ok (.aload_n 0, 1) := by decide +kernel
theorem dX3_group_95 : decode cX3_group 95 = .ok (.getfield 47, 3) := by decide +kernel
theorem dX3_group_98 : decode cX3_group 98 = .ok (.iload_n 3, 1) := by decide +kernel
theorem dX3_group_99 : decode cX3_group 99 = .ok (.aaload, 1) := by decide +kernel
theorem dX3_group_100 : decode cX3_group 100 = .ok (.iload_n 2, 1) := by decide +kernel
theorem dX3_group_101 : decode cX3_group 101 = .ok (.invokevirtual 143, 3) := by decide +kernel
theorem dX3_group_104 : decode cX3_group 104 = .ok (.aload_n 0, 1) := by decide +kernel
theorem dX3_group_105 : decode cX3_group 105 = .ok (.getfield 44, 3) := by decide +kernel
theorem dX3_group_108 : decode cX3_group 108 = .ok (.iload_n 2, 1) := by decide +kernel
theorem dX3_group_109 : decode cX3_group 109 = .ok (.iload_n 3, 1) := by decide +kernel
theorem dX3_group_110 : decode cX3_group 110 = .ok (.iastore, 1) := by decide +kernel
theorem dX3_group_111 : decode cX3_group 111 = .ok (.iinc 2 1, 3) := by decide +kernel
theorem dX3_group_114 : decode cX3_group 114 = .ok (.goto (-86), 3) := by decide +kernel
theorem dX3_group_117 : decode cX3_group 117 = .ok (.aload_n 0, 1) := by decide +kernel
theorem dX3_group_118 : decode cX3_group 118 = .ok (.iconst 1, 1) := by decide +kernel
theorem dX3_group_119 : decode cX3_group 119 = .ok (.putfield 84, 3) := by decide +kernel
theorem dX3_group_122 : decode cX3_group 122 = .ok (.aload_n 0, 1) := by decide +kernel
theorem dX3_group_123 : decode cX3_group 123 = .ok (.getfield 230, 3) := by decide +kernel
theorem dX3_group_126 : decode cX3_group 126 = .ok (.ireturn, 1) := by decide +kernel
theorem dX3_nearestGroup_0 : decode cX3_nearestGroup 0 = .ok (.iconst (-1), 1) := by decide +kernel
theorem dX3_nearestGroup_1 : decode cX3_nearestGroup 1 = .ok (.istore_n 3, 1) := by decide +kernel
theorem dX3_nearestGroup_2 : decode cX3_nearestGroup 2 = .ok (.iload_n 2, 1) := by decide +kernel
theorem dX3_nearestGroup_3 : decode cX3_nearestGroup 3 = .ok (.iconst 1, 1) := by decide +kernel
theorem dX3_nearestGroup_4 : decode cX3_nearestGroup 4 = .ok (.iadd, 1) := by decide +kernel
theorem dX3_nearestGroup_5 : decode cX3_nearestGroup 5 = .ok (.istore 4, 2) := by decide +kernel
theorem dX3_nearestGroup_7 : decode cX3_nearestGroup 7 = .ok (.iconst 0, 1) := by decide +kernel
theorem dX3_nearestGroup_8 : decode cX3_nearestGroup 8 = .ok (.istore 5, 2) := by decide +kernel
theorem dX3_nearestGroup_10 : decode cX3_nearestGroup 10 = .ok (.iload 5, 2) := by decide +kernel
theorem dX3_nearestGroup_12 : decode cX3_nearestGroup 12 = .ok (.aload_n 0, 1) := by decide +kernel
theorem dX3_nearestGroup_13 : decode cX3_nearestGroup 13 = .ok (.getfield 230, 3) := by decide +kernel
theorem dX3_nearestGroup_16 : decode cX3_nearestGroup 16 = .ok (.if_icmp .ge 57, 3) := by decide +kernel
theorem dX3_nearestGroup_19 : decode cX3_nearestGroup 19 = .ok (.aload_n 0, 1) := by decide +kernel
theorem dX3_nearestGroup_20 : decode cX3_nearestGroup 20 = .ok (.getfield 25, 3) := by decide +kernel
theorem dX3_nearestGroup_23 : decode cX3_nearestGroup 23 = .ok (.aload_n 0, 1) := by decide +kernel
theorem dX3_nearestGroup_24 : decode cX3_nearestGroup 24 = .ok (.getfield 47, 3) := by decide +kernel
theorem dX3_nearestGroup_27 : decode cX3_nearestGroup 27 = .ok (.iload 5, 2) := by decide +kernel
theorem dX3_nearestGroup_29 : decode cX3_nearestGroup 29 = .ok (.aaload, 1) := by decide +kernel
theorem dX3_nearestGroup_30 : decode cX3_nearestGroup 30 = .ok (.iload_n 1, 1) := by decide +kernel
theorem dX3_nearestGroup_31 : decode cX3_nearestGroup 31 = .ok (.invokevirtual 133, 3) := by decide +kernel
theorem dX3_nearestGroup_34 : decode cX3_nearestGroup 34 = .ok (.istore 6, 2) := by decide +kernel
theorem dX3_nearestGroup_36 : decode cX3_nearestGroup 36 = .ok (.iload 6, 2) := by decide +kernel
theorem dX3_nearestGroup_38 : decode cX3_nearestGroup 38 = .ok (.iload 4, 2) := by decide +kernel
theorem dX3_nearestGroup_40 : decode cX3_nearestGroup 40 = .ok (.if_icmp .ge 27, 3) := by decide +kernel
theorem dX3_nearestGroup_43 : decode cX3_nearestGroup 43 = .ok (.aload_n 0, 1) := by decide +kernel
theorem dX3_nearestGroup_44 : decode cX3_nearestGroup 44 = .ok (.getfield 25, 3) := by decide +kernel
theorem dX3_nearestGroup_47 : decode cX3_nearestGroup 47 = .ok (.aload_n 0, 1) := by decide +kernel
theorem dX3_nearestGroup_48 : decode cX3_nearestGroup 48 = .ok (.getfield 47, 3) := by decide +kernel
theorem dX3_nearestGroup_51 : decode cX3_nearestGroup 51 = .ok (.iload 5, 2) := by decide +kernel
theorem dX3_nearestGroup_53 : decode cX3_nearestGroup 53 = .ok (.aaload, 1) := by decide +kernel
theorem dX3_nearestGroup_54 : decode cX3_nearestGroup 54 = .ok (.invokevirtual 137, 3) := by decide +kernel
theorem dX3_nearestGroup_57 : decode cX3_nearestGroup 57 = .ok (.ifCond .eq 10, 3) := by decide +kernel
theorem dX3_nearestGroup_60 : decode cX3_nearestGroup 60 = .ok (.iload 6, 2) := by decide +kernel
theorem dX3_nearestGroup_62 : decode cX3_nearestGroup 62 = .ok (.istore 4, 2) := by decide +kernel
theorem dX3_nearestGroup_64 : decode cX3_nearestGroup 64 = .ok (.iload 5, 2) := by decide +kernel
theorem dX3_nearestGroup_66 : decode cX3_nearestGroup 66 = .ok (.istore_n 3, 1) := by decide +kernel
theorem dX3_nearestGroup_67 : decode cX3_nearestGroup 67 = .ok (.iinc 5 1, 3) := by decide +kernel
theorem dX3_nearestGroup_70 : decode cX3_nearestGroup 70 = .ok (.goto (-60), 3) := by decide +kernel
theorem dX3_nearestGroup_73 : decode cX3_nearestGroup 73 = .ok (.iload_n 3, 1) := by decide +kernel
theorem dX3_nearestGroup_74 : decode cX3_nearestGroup 74 = .ok (.ireturn, 1) := by decide +kernel
theorem dX3_groupOf_0 : decode cX3_groupOf 0 = .ok (.aload_n 0, 1) := by decide +kernel
theorem dX3_groupOf_1 : decode cX3_groupOf 1 = .ok (.invokevirtual 236, 3) := by decide +kernel
theorem dX3_groupOf_4 : decode cX3_groupOf 4 = .ok (.aload_n 0, 1) := by decide +kernel
theorem dX3_groupOf_5 : decode cX3_groupOf 5 = .ok (.iload_n 1, 1) := by decide +kernel
theorem dX3_groupOf_6 : decode cX3_groupOf 6 = .ok (.invokevirtual 88, 3) := by decide +kernel
theorem dX3_groupOf_9 : decode cX3_groupOf 9 = .ok (.aload_n 0, 1) := by decide +kernel
theorem dX3_groupOf_10 : decode cX3_groupOf 10 = .ok (.getfield 44, 3) := by decide +kernel
theorem dX3_groupOf_13 : decode cX3_groupOf 13 = .ok (.iload_n 1, 1) := by decide +kernel
theorem dX3_groupOf_14 : decode cX3_groupOf 14 = .ok (.iaload, 1) := by decide +kernel
theorem dX3_groupOf_15 : decode cX3_groupOf 15 = .ok (.ireturn, 1) := by decide +kernel
theorem dX3_groupSlots_0 : decode cX3_groupSlots 0 = .ok (.aload_n 0, 1) := by decide +kernel
theorem dX3_groupSlots_1 : decode cX3_groupSlots 1 = .ok (.invokevirtual 236, 3) := by decide +kernel
theorem dX3_groupSlots_4 : decode cX3_groupSlots 4 = .ok (.iload_n 1, 1) := by decide +kernel
theorem dX3_groupSlots_5 : decode cX3_groupSlots 5 = .ok (.ifCond .lt 11, 3) := by decide +kernel
theorem dX3_groupSlots_8 : decode cX3_groupSlots 8 = .ok (.iload_n 1, 1) := by decide +kernel
theorem dX3_groupSlots_9 : decode cX3_groupSlots 9 = .ok (.aload_n 0, 1) := by decide +kernel
theorem dX3_groupSlots_10 : decode cX3_groupSlots 10 = .ok (.getfield 230, 3) := by decide +kernel
theorem dX3_groupSlots_13 : decode cX3_groupSlots 13 = .ok (.if_icmp .lt 13, 3) := by decide +kernel
theorem dX3_groupSlots_16 : decode cX3_groupSlots 16 = .ok (.new 174, 3) := by decide +kernel
theorem dX3_groupSlots_19 : decode cX3_groupSlots 19 = .ok (.dup, 1) := by decide +kernel
theorem dX3_groupSlots_20 : decode cX3_groupSlots 20 = .ok (.ldc 239, 2) := by decide +kernel
theorem dX3_groupSlots_22 : decode cX3_groupSlots 22 = .ok (.invokespecial 178, 3) := by decide +kernel
theorem dX3_groupSlots_25 : decode cX3_groupSlots 25 = .ok (.athrow, 1) := by decide +kernel
theorem dX3_groupSlots_26 : decode cX3_groupSlots 26 = .ok (.aload_n 0, 1) := by decide +kernel
theorem dX3_groupSlots_27 : decode cX3_groupSlots 27 = .ok (.getfield 47, 3) := by decide +kernel
theorem dX3_groupSlots_30 : decode cX3_groupSlots 30 = .ok (.iload_n 1, 1) := by decide +kernel
theorem dX3_groupSlots_31 : decode cX3_groupSlots 31 = .ok (.aaload, 1) := by decide +kernel
theorem dX3_groupSlots_32 : decode cX3_groupSlots 32 = .ok (.getfield 163, 3) := by decide +kernel
theorem dX3_groupSlots_35 : decode cX3_groupSlots 35 = .ok (.ireturn, 1) := by decide +kernel
theorem dX3_digest_0 : decode cX3_digest 0 = .ok (.ldc2_w 241, 3) := by decide +kernel
theorem dX3_digest_3 : decode cX3_digest 3 = .ok (.aload_n 0, 1) := by decide +kernel
theorem dX3_digest_4 : decode cX3_digest 4 = .ok (.getfield 62, 3) := by decide +kernel
theorem dX3_digest_7 : decode cX3_digest 7 = .ok (.invokestatic 243, 3) := by decide +kernel
theorem dX3_digest_10 : decode cX3_digest 10 = .ok (.lstore_n 1, 1) := by decide +kernel
theorem dX3_digest_11 : decode cX3_digest 11 = .ok (.aload_n 0, 1) := by decide +kernel
theorem dX3_digest_12 : decode cX3_digest 12 = .ok (.lload_n 1, 1) := by decide +kernel
theorem dX3_digest_13 : decode cX3_digest 13 = .ok (.invokevirtual 247, 3) := by decide +kernel
theorem dX3_digest_16 : decode cX3_digest 16 = .ok (.lstore_n 1, 1) := by decide +kernel
theorem dX3_digest_17 : decode cX3_digest 17 = .ok (.lload_n 1, 1) := by decide +kernel
theorem dX3_digest_18 : decode cX3_digest 18 = .ok (.aload_n 0, 1) := by decide +kernel
theorem dX3_digest_19 : decode cX3_digest 19 = .ok (.getfield 25, 3) := by decide +kernel
theorem dX3_digest_22 : decode cX3_digest 22 = .ok (.getfield 251, 3) := by decide +kernel
theorem dX3_digest_25 : decode cX3_digest 25 = .ok (.invokestatic 243, 3) := by decide +kernel
theorem dX3_digest_28 : decode cX3_digest 28 = .ok (.aload_n 0, 1) := by decide +kernel
theorem dX3_digest_29 : decode cX3_digest 29 = .ok (.getfield 25, 3) := by decide +kernel
theorem dX3_digest_32 : decode cX3_digest 32 = .ok (.getfield 254, 3) := by decide +kernel
theorem dX3_digest_35 : decode cX3_digest 35 = .ok (.invokestatic 243, 3) := by decide +kernel
theorem dX3_digest_38 : decode cX3_digest 38 = .ok (.aload_n 0, 1) := by decide +kernel
theorem dX3_digest_39 : decode cX3_digest 39 = .ok (.getfield 25, 3) := by decide +kernel
theorem dX3_digest_42 : decode cX3_digest 42 = .ok (.getfield 257, 3) := by decide +kernel
theorem dX3_digest_45 : decode cX3_digest 45 = .ok (.invokestatic 243, 3) := by decide +kernel
theorem dX3_digest_48 : decode cX3_digest 48 = .ok (.lstore_n 1, 1) := by decide +kernel
theorem dX3_digest_49 : decode cX3_digest 49 = .ok (.aload_n 0, 1) := by decide +kernel
theorem dX3_digest_50 : decode cX3_digest 50 = .ok (.lload_n 1, 1) := by decide +kernel
theorem dX3_digest_51 : decode cX3_digest 51 = .ok (.invokevirtual 260, 3) := by decide +kernel
theorem dX3_digest_54 : decode cX3_digest 54 = .ok (.lstore_n 1, 1) := by decide +kernel
theorem dX3_digest_55 : decode cX3_digest 55 = .ok (.lload_n 1, 1) := by decide +kernel
theorem dX3_digest_56 : decode cX3_digest 56 = .ok (.aload_n 0, 1) := by decide +kernel
theorem dX3_digest_57 : decode cX3_digest 57 = .ok (.getfield 32, 3) := by decide +kernel
theorem dX3_digest_60 : decode cX3_digest 60 = .ok (.getfield 150, 3) := by decide +kernel
theorem dX3_digest_63 : decode cX3_digest 63 = .ok (.invokestatic 243, 3) := by decide +kernel
theorem dX3_digest_66 : decode cX3_digest 66 = .ok (.lstore_n 1, 1) := by decide +kernel
theorem dX3_digest_67 : decode cX3_digest 67 = .ok (.aload_n 0, 1) := by decide +kernel
theorem dX3_digest_68 : decode cX3_digest 68 = .ok (.getfield 84, 3) := by decide +kernel
theorem dX3_digest_71 : decode cX3_digest 71 = .ok (.ifCond .eq 33, 3) := by decide +kernel
theorem dX3_digest_74 : decode cX3_digest 74 = .ok (.iconst 0, 1) := by decide +kernel
theorem dX3_digest_75 : decode cX3_digest 75 = .ok (.istore_n 3, 1) := by decide +kernel
theorem dX3_digest_76 : decode cX3_digest 76 = .ok (.iload_n 3, 1) := by decide +kernel
theorem dX3_digest_77 : decode cX3_digest 77 = .ok (.aload_n 0, 1) := by decide +kernel
theorem dX3_digest_78 : decode cX3_digest 78 = .ok (.getfield 16, 3) := by decide +kernel
theorem dX3_digest_81 : decode cX3_digest 81 = .ok (.getfield 75, 3) := by decide +kernel
theorem dX3_digest_84 : decode cX3_digest 84 = .ok (.if_icmp .ge 20, 3) := by decide +kernel
theorem dX3_digest_87 : decode cX3_digest 87 = .ok (.lload_n 1, 1) := by decide +kernel
theorem dX3_digest_88 : decode cX3_digest 88 = .ok (.aload_n 0, 1) := by decide +kernel
theorem dX3_digest_89 : decode cX3_digest 89 = .ok (.getfield 44, 3) := by decide +kernel
theorem dX3_digest_92 : decode cX3_digest 92 = .ok (.iload_n 3, 1) := by decide +kernel
theorem dX3_digest_93 : decode cX3_digest 93 = .ok (.iaload, 1) := by decide +kernel
theorem dX3_digest_94 : decode cX3_digest 94 = .ok (.invokestatic 243, 3) := by decide +kernel
theorem dX3_digest_97 : decode cX3_digest 97 = .ok (.lstore_n 1, 1) := by decide +kernel
theorem dX3_digest_98 : decode cX3_digest 98 = .ok (.iinc 3 1, 3) := by decide +kernel
theorem dX3_digest_101 : decode cX3_digest 101 = .ok (.goto (-25), 3) := by decide +kernel
theorem dX3_digest_104 : decode cX3_digest 104 = .ok (.lload_n 1, 1) := by decide +kernel
theorem dX3_digest_105 : decode cX3_digest 105 = .ok (.lreturn, 1) := by decide +kernel
theorem dX3_mixed_0 : decode cX3_mixed 0 = .ok (.lload_n 0, 1) := by decide +kernel
theorem dX3_mixed_1 : decode cX3_mixed 1 = .ok (.ldc2_w 263, 3) := by decide +kernel
theorem dX3_mixed_4 : decode cX3_mixed 4 = .ok (.lmul, 1) := by decide +kernel
theorem dX3_mixed_5 : decode cX3_mixed 5 = .ok (.iload_n 2, 1) := by decide +kernel
theorem dX3_mixed_6 : decode cX3_mixed 6 = .ok (.i2l, 1) := by decide +kernel
theorem dX3_mixed_7 : decode cX3_mixed 7 = .ok (.ladd, 1) := by decide +kernel
theorem dX3_mixed_8 : decode cX3_mixed 8 = .ok (.lreturn, 1) := by decide +kernel
theorem dX3_addLines_0 : decode cX3_addLines 0 = .ok (.lload_n 1, 1) := by decide +kernel
theorem dX3_addLines_1 : decode cX3_addLines 1 = .ok (.aload_n 0, 1) := by decide +kernel
theorem dX3_addLines_2 : decode cX3_addLines 2 = .ok (.getfield 16, 3) := by decide +kernel
theorem dX3_addLines_5 : decode cX3_addLines 5 = .ok (.getfield 75, 3) := by decide +kernel
theorem dX3_addLines_8 : decode cX3_addLines 8 = .ok (.invokestatic 243, 3) := by decide +kernel
theorem dX3_addLines_11 : decode cX3_addLines 11 = .ok (.lstore_n 3, 1) := by decide +kernel
theorem dX3_addLines_12 : decode cX3_addLines 12 = .ok (.iconst 0, 1) := by decide +kernel
theorem dX3_addLines_13 : decode cX3_addLines 13 = .ok (.istore 5, 2) := by decide +kernel
theorem dX3_addLines_15 : decode cX3_addLines 15 = .ok (.iload 5, 2) := by decide +kernel
theorem dX3_addLines_17 : decode cX3_addLines 17 = .ok (.aload_n 0, 1) := by decide +kernel
theorem dX3_addLines_18 : decode cX3_addLines 18 = .ok (.getfield 16, 3) := by decide +kernel
theorem dX3_addLines_21 : decode cX3_addLines 21 = .ok (.getfield 75, 3) := by decide +kernel
theorem dX3_addLines_24 : decode cX3_addLines 24 = .ok (.if_icmp .ge 65, 3) := by decide +kernel
theorem dX3_addLines_27 : decode cX3_addLines 27 = .ok (.aload_n 0, 1) := by decide +kernel
theorem dX3_addLines_28 : decode cX3_addLines 28 = .ok (.getfield 16, 3) := by decide +kernel
theorem dX3_addLines_31 : decode cX3_addLines 31 = .ok (.getfield 221, 3) := by decide +kernel
theorem dX3_addLines_34 : decode cX3_addLines 34 = .ok (.iload 5, 2) := by decide +kernel
theorem dX3_addLines_36 : decode cX3_addLines 36 = .ok (.iaload, 1) := by decide +kernel
theorem dX3_addLines_37 : decode cX3_addLines 37 = .ok (.istore 6, 2) := by decide +kernel
theorem dX3_addLines_39 : decode cX3_addLines 39 = .ok (.lload_n 3, 1) := by decide +kernel
theorem dX3_addLines_40 : decode cX3_addLines 40 = .ok (.iload 6, 2) := by decide +kernel
theorem dX3_addLines_42 : decode cX3_addLines 42 = .ok (.invokestatic 243, 3) := by decide +kernel
theorem dX3_addLines_45 : decode cX3_addLines 45 = .ok (.lstore_n 3, 1) := by decide +kernel
theorem dX3_addLines_46 : decode cX3_addLines 46 = .ok (.iconst 0, 1) := by decide +kernel
theorem dX3_addLines_47 : decode cX3_addLines 47 = .ok (.istore 7, 2) := by decide +kernel
theorem dX3_addLines_49 : decode cX3_addLines 49 = .ok (.iload 7, 2) := by decide +kernel
theorem dX3_addLines_51 : decode cX3_addLines 51 = .ok (.iload 6, 2) := by decide +kernel
theorem dX3_addLines_53 : decode cX3_addLines 53 = .ok (.if_icmp .ge 30, 3) := by decide +kernel
theorem dX3_addLines_56 : decode cX3_addLines 56 = .ok (.lload_n 3, 1) := by decide +kernel
theorem dX3_addLines_57 : decode cX3_addLines 57 = .ok (.aload_n 0, 1) := by decide +kernel
theorem dX3_addLines_58 : decode cX3_addLines 58 = .ok (.getfield 16, 3) := by decide +kernel
theorem dX3_addLines_61 : decode cX3_addLines 61 = .ok (.getfield 179, 3) := by decide +kernel
theorem dX3_addLines_64 : decode cX3_addLines 64 = .ok (.iload 5, 2) := by decide +kernel
theorem dX3_addLines_66 : decode cX3_addLines 66 = .ok (.invokestatic 109, 3) := by decide +kernel
theorem dX3_addLines_69 : decode cX3_addLines 69 = .ok (.iload 7, 2) := by decide +kernel
theorem dX3_addLines_71 : decode cX3_addLines 71 = .ok (.iadd, 1) := by decide +kernel
theorem dX3_addLines_72 : decode cX3_addLines 72 = .ok (.baload, 1) := by decide +kernel
theorem dX3_addLines_73 : decode cX3_addLines 73 = .ok (.invokestatic 243, 3) := by decide +kernel
theorem dX3_addLines_76 : decode cX3_addLines 76 = .ok (.lstore_n 3, 1) := by decide +kernel
theorem dX3_addLines_77 : decode cX3_addLines 77 = .ok (.iinc 7 1, 3) := by decide +kernel
theorem dX3_addLines_80 : decode cX3_addLines 80 = .ok (.goto (-31), 3) := by decide +kernel
theorem dX3_addLines_83 : decode cX3_addLines 83 = .ok (.iinc 5 1, 3) := by decide +kernel
theorem dX3_addLines_86 : decode cX3_addLines 86 = .ok (.goto (-71), 3) := by decide +kernel
theorem dX3_addLines_89 : decode cX3_addLines 89 = .ok (.lload_n 3, 1) := by decide +kernel
theorem dX3_addLines_90 : decode cX3_addLines 90 = .ok (.lreturn, 1) := by decide +kernel
theorem dX3_addSlots_0 : decode cX3_addSlots 0 = .ok (.lload_n 1, 1) := by decide +kernel
theorem dX3_addSlots_1 : decode cX3_addSlots 1 = .ok (.aload_n 0, 1) := by decide +kernel
theorem dX3_addSlots_2 : decode cX3_addSlots 2 = .ok (.getfield 32, 3) := by decide +kernel
theorem dX3_addSlots_5 : decode cX3_addSlots 5 = .ok (.getfield 163, 3) := by decide +kernel
theorem dX3_addSlots_8 : decode cX3_addSlots 8 = .ok (.invokestatic 243, 3) := by decide +kernel
theorem dX3_addSlots_11 : decode cX3_addSlots 11 = .ok (.lstore_n 3, 1) := by decide +kernel
theorem dX3_addSlots_12 : decode cX3_addSlots 12 = .ok (.iconst 0, 1) := by decide +kernel
theorem dX3_addSlots_13 : decode cX3_addSlots 13 = .ok (.istore 5, 2) := by decide +kernel
theorem dX3_addSlots_15 : decode cX3_addSlots 15 = .ok (.iload 5, 2) := by decide +kernel
theorem dX3_addSlots_17 : decode cX3_addSlots 17 = .ok (.aload_n 0, 1) := by decide +kernel
theorem dX3_addSlots_18 : decode cX3_addSlots 18 = .ok (.getfield 32, 3) := by decide +kernel
theorem dX3_addSlots_21 : decode cX3_addSlots 21 = .ok (.getfield 163, 3) := by decide +kernel
theorem dX3_addSlots_24 : decode cX3_addSlots 24 = .ok (.if_icmp .ge 92, 3) := by decide +kernel
theorem dX3_addSlots_27 : decode cX3_addSlots 27 = .ok (.aload_n 0, 1) := by decide +kernel
theorem dX3_addSlots_28 : decode cX3_addSlots 28 = .ok (.getfield 32, 3) := by decide +kernel
theorem dX3_addSlots_31 : decode cX3_addSlots 31 = .ok (.getfield 206, 3) := by decide +kernel
theorem dX3_addSlots_34 : decode cX3_addSlots 34 = .ok (.iload 5, 2) := by decide +kernel
theorem dX3_addSlots_36 : decode cX3_addSlots 36 = .ok (.iaload, 1) := by decide +kernel
theorem dX3_addSlots_37 : decode cX3_addSlots 37 = .ok (.istore 6, 2) := by decide +kernel
theorem dX3_addSlots_39 : decode cX3_addSlots 39 = .ok (.lload_n 3, 1) := by decide +kernel
theorem dX3_addSlots_40 : decode cX3_addSlots 40 = .ok (.aload_n 0, 1) := by decide +kernel
theorem dX3_addSlots_41 : decode cX3_addSlots 41 = .ok (.getfield 32, 3) := by decide +kernel
theorem dX3_addSlots_44 : decode cX3_addSlots 44 = .ok (.getfield 166, 3) := by decide +kernel
theorem dX3_addSlots_47 : decode cX3_addSlots 47 = .ok (.iload 6, 2) := by decide +kernel
theorem dX3_addSlots_49 : decode cX3_addSlots 49 = .ok (.iaload, 1) := by decide +kernel
theorem dX3_addSlots_50 : decode cX3_addSlots 50 = .ok (.invokestatic 243, 3) := by decide +kernel
theorem dX3_addSlots_53 : decode cX3_addSlots 53 = .ok (.lstore_n 3, 1) := by decide +kernel
theorem dX3_addSlots_54 : decode cX3_addSlots 54 = .ok (.lload_n 3, 1) := by decide +kernel
theorem dX3_addSlots_55 : decode cX3_addSlots 55 = .ok (.aload_n 0, 1) := by decide +kernel
theorem dX3_addSlots_56 : decode cX3_addSlots 56 = .ok (.getfield 32, 3) := by decide +kernel
theorem dX3_addSlots_59 : decode cX3_addSlots 59 = .ok (.getfield 185, 3) := by decide +kernel
theorem dX3_addSlots_62 : decode cX3_addSlots 62 = .ok (.iload 6, 2) := by decide +kernel
theorem dX3_addSlots_64 : decode cX3_addSlots 64 = .ok (.iaload, 1) := by decide +kernel
theorem dX3_addSlots_65 : decode cX3_addSlots 65 = .ok (.invokestatic 243, 3) := by decide +kernel
theorem dX3_addSlots_68 : decode cX3_addSlots 68 = .ok (.lstore_n 3, 1) := by decide +kernel
theorem dX3_addSlots_69 : decode cX3_addSlots 69 = .ok (.lload_n 3, 1) := by decide +kernel
theorem dX3_addSlots_70 : decode cX3_addSlots 70 = .ok (.aload_n 0, 1) := by decide +kernel
theorem dX3_addSlots_71 : decode cX3_addSlots 71 = .ok (.getfield 32, 3) := by decide +kernel
theorem dX3_addSlots_74 : decode cX3_addSlots 74 = .ok (.getfield 182, 3) := by decide +kernel
theorem dX3_addSlots_77 : decode cX3_addSlots 77 = .ok (.iload 6, 2) := by decide +kernel
theorem dX3_addSlots_79 : decode cX3_addSlots 79 = .ok (.iaload, 1) := by decide +kernel
theorem dX3_addSlots_80 : decode cX3_addSlots 80 = .ok (.invokestatic 243, 3) := by decide +kernel
theorem dX3_addSlots_83 : decode cX3_addSlots 83 = .ok (.lstore_n 3, 1) := by decide +kernel
theorem dX3_addSlots_84 : decode cX3_addSlots 84 = .ok (.lload_n 3, 1) := by decide +kernel
theorem dX3_addSlots_85 : decode cX3_addSlots 85 = .ok (.aload_n 0, 1) := by decide +kernel
theorem dX3_addSlots_86 : decode cX3_addSlots 86 = .ok (.getfield 32, 3) := by decide +kernel
theorem dX3_addSlots_89 : decode cX3_addSlots 89 = .ok (.getfield 188, 3) := by decide +kernel
theorem dX3_addSlots_92 : decode cX3_addSlots 92 = .ok (.iload 6, 2) := by decide +kernel
theorem dX3_addSlots_94 : decode cX3_addSlots 94 = .ok (.iaload, 1) := by decide +kernel
theorem dX3_addSlots_95 : decode cX3_addSlots 95 = .ok (.invokestatic 243, 3) := by decide +kernel
theorem dX3_addSlots_98 : decode cX3_addSlots 98 = .ok (.lstore_n 3, 1) := by decide +kernel
theorem dX3_addSlots_99 : decode cX3_addSlots 99 = .ok (.lload_n 3, 1) := by decide +kernel
theorem dX3_addSlots_100 : decode cX3_addSlots 100 = .ok (.aload_n 0, 1) := by decide +kernel
theorem dX3_addSlots_101 : decode cX3_addSlots 101 = .ok (.iload 6, 2) := by decide +kernel
theorem dX3_addSlots_103 : decode cX3_addSlots 103 = .ok (.invokevirtual 209, 3) := by decide +kernel
theorem dX3_addSlots_106 : decode cX3_addSlots 106 = .ok (.invokestatic 243, 3) := by decide +kernel
theorem dX3_addSlots_109 : decode cX3_addSlots 109 = .ok (.lstore_n 3, 1) := by decide +kernel
theorem dX3_addSlots_110 : decode cX3_addSlots 110 = .ok (.iinc 5 1, 3) := by decide +kernel
theorem dX3_addSlots_113 : decode cX3_addSlots 113 = .ok (.goto (-98), 3) := by decide +kernel
theorem dX3_addSlots_116 : decode cX3_addSlots 116 = .ok (.lload_n 3, 1) := by decide +kernel
theorem dX3_addSlots_117 : decode cX3_addSlots 117 = .ok (.lreturn, 1) := by decide +kernel
theorem dX3_needLine_0 : decode cX3_needLine 0 = .ok (.iload_n 1, 1) := by decide +kernel
theorem dX3_needLine_1 : decode cX3_needLine 1 = .ok (.ifCond .lt 14, 3) := by decide +kernel
theorem dX3_needLine_4 : decode cX3_needLine 4 = .ok (.iload_n 1, 1) := by decide +kernel
theorem dX3_needLine_5 : decode cX3_needLine 5 = .ok (.aload_n 0, 1) := by decide +kernel
theorem dX3_needLine_6 : decode cX3_needLine 6 = .ok (.getfield 16, 3) := by decide +kernel
theorem dX3_needLine_9 : decode cX3_needLine 9 = .ok (.getfield 75, 3) := by decide +kernel
theorem dX3_needLine_12 : decode cX3_needLine 12 = .ok (.if_icmp .lt 14, 3) := by decide +kernel
theorem dX3_needLine_15 : decode cX3_needLine 15 = .ok (.new 174, 3) := by decide +kernel
theorem dX3_needLine_18 : decode cX3_needLine 18 = .ok (.dup, 1) := by decide +kernel
theorem dX3_needLine_19 : decode cX3_needLine 19 = .ok (.ldc_w 265, 3) := by decide +kernel
theorem dX3_needLine_22 : decode cX3_needLine 22 = .ok (.invokespecial 178, 3) := by decide +kernel
theorem dX3_needLine_25 : decode cX3_needLine 25 = .ok (.athrow, 1) := by decide +kernel
theorem dX3_needLine_26 : decode cX3_needLine 26 = .ok (.return_, 1) := by decide +kernel
theorem dX3_needToken_0 : decode cX3_needToken 0 = .ok (.aload_n 0, 1) := by decide +kernel
theorem dX3_needToken_1 : decode cX3_needToken 1 = .ok (.iload_n 1, 1) := by decide +kernel
theorem dX3_needToken_2 : decode cX3_needToken 2 = .ok (.invokevirtual 88, 3) := by decide +kernel
theorem dX3_needToken_5 : decode cX3_needToken 5 = .ok (.iload_n 2, 1) := by decide +kernel
theorem dX3_needToken_6 : decode cX3_needToken 6 = .ok (.ifCond .lt 16, 3) := by decide +kernel
theorem dX3_needToken_9 : decode cX3_needToken 9 = .ok (.iload_n 2, 1) := by decide +kernel
theorem dX3_needToken_10 : decode cX3_needToken 10 = .ok (.aload_n 0, 1) := by decide +kernel
theorem dX3_needToken_11 : decode cX3_needToken 11 = .ok (.getfield 16, 3) := by decide +kernel
theorem dX3_needToken_14 : decode cX3_needToken 14 = .ok (.getfield 92, 3) := by decide +kernel
theorem dX3_needToken_17 : decode cX3_needToken 17 = .ok (.iload_n 1, 1) := by decide +kernel
theorem dX3_needToken_18 : decode cX3_needToken 18 = .ok (.iaload, 1) := by decide +kernel
theorem dX3_needToken_19 : decode cX3_needToken 19 = .ok (.if_icmp .lt 14, 3) := by decide +kernel
theorem dX3_needToken_22 : decode cX3_needToken 22 = .ok (.new 174, 3) := by decide +kernel
theorem dX3_needToken_25 : decode cX3_needToken 25 = .ok (.dup, 1) := by decide +kernel
theorem dX3_needToken_26 : decode cX3_needToken 26 = .ok (.ldc_w 267, 3) := by decide +kernel
theorem dX3_needToken_29 : decode cX3_needToken 29 = .ok (.invokespecial 178, 3) := by decide +kernel
theorem dX3_needToken_32 : decode cX3_needToken 32 = .ok (.athrow, 1) := by decide +kernel
theorem dX3_needToken_33 : decode cX3_needToken 33 = .ok (.return_, 1) := by decide +kernel
theorem dX3_neededSlot_0 : decode cX3_neededSlot 0 = .ok (.iload_n 1, 1) := by decide +kernel
theorem dX3_neededSlot_1 : decode cX3_neededSlot 1 = .ok (.ifCond .lt 14, 3) := by decide +kernel
theorem dX3_neededSlot_4 : decode cX3_neededSlot 4 = .ok (.iload_n 1, 1) := by decide +kernel
theorem dX3_neededSlot_5 : decode cX3_neededSlot 5 = .ok (.aload_n 0, 1) := by decide +kernel
theorem dX3_neededSlot_6 : decode cX3_neededSlot 6 = .ok (.getfield 32, 3) := by decide +kernel
theorem dX3_neededSlot_9 : decode cX3_neededSlot 9 = .ok (.getfield 163, 3) := by decide +kernel
theorem dX3_neededSlot_12 : decode cX3_neededSlot 12 = .ok (.if_icmp .lt 14, 3) := by decide +kernel
theorem dX3_neededSlot_15 : decode cX3_neededSlot 15 = .ok (.new 174, 3) := by decide +kernel
theorem dX3_neededSlot_18 : decode cX3_neededSlot 18 = .ok (.dup, 1) := by decide +kernel
theorem dX3_neededSlot_19 : decode cX3_neededSlot 19 = .ok (.ldc_w 269, 3) := by decide +kernel
theorem dX3_neededSlot_22 : decode cX3_neededSlot 22 = .ok (.invokespecial 178, 3) := by decide +kernel
theorem dX3_neededSlot_25 : decode cX3_neededSlot 25 = .ok (.athrow, 1) := by decide +kernel
theorem dX3_neededSlot_26 : decode cX3_neededSlot 26 = .ok (.aload_n 0, 1) := by decide +kernel
theorem dX3_neededSlot_27 : decode cX3_neededSlot 27 = .ok (.getfield 32, 3) := by decide +kernel
theorem dX3_neededSlot_30 : decode cX3_neededSlot 30 = .ok (.getfield 206, 3) := by decide +kernel
theorem dX3_neededSlot_33 : decode cX3_neededSlot 33 = .ok (.iload_n 1, 1) := by decide +kernel
theorem dX3_neededSlot_34 : decode cX3_neededSlot 34 = .ok (.iaload, 1) := by decide +kernel
theorem dX3_neededSlot_35 : decode cX3_neededSlot 35 = .ok (.ireturn, 1) := by decide +kernel
theorem dX3_needGrouping_0 : decode cX3_needGrouping 0 = .ok (.aload_n 0, 1) := by decide +kernel
theorem dX3_needGrouping_1 : decode cX3_needGrouping 1 = .ok (.getfield 84, 3) := by decide +kernel
theorem dX3_needGrouping_4 : decode cX3_needGrouping 4 = .ok (.ifCond .ne 14, 3) := by decide +kernel
theorem dX3_needGrouping_7 : decode cX3_needGrouping 7 = .ok (.new 66, 3) := by decide +kernel
theorem dX3_needGrouping_10 : decode cX3_needGrouping 10 = .ok (.dup, 1) := by decide +kernel
theorem dX3_needGrouping_11 : decode cX3_needGrouping 11 = .ok (.ldc_w 271, 3) := by decide +kernel
theorem dX3_needGrouping_14 : decode cX3_needGrouping 14 = .ok (.invokespecial 70, 3) := by decide +kernel
theorem dX3_needGrouping_17 : decode cX3_needGrouping 17 = .ok (.athrow, 1) := by decide +kernel
theorem dX3_needGrouping_18 : decode cX3_needGrouping 18 = .ok (.return_, 1) := by decide +kernel
theorem dX3_textSize_0 : decode cX3_textSize 0 = .ok (.aload_n 0, 1) := by decide +kernel
theorem dX3_textSize_1 : decode cX3_textSize 1 = .ok (.getfield 32, 3) := by decide +kernel
theorem dX3_textSize_4 : decode cX3_textSize 4 = .ok (.getfield 170, 3) := by decide +kernel
theorem dX3_textSize_7 : decode cX3_textSize 7 = .ok (.iload_n 1, 1) := by decide +kernel
theorem dX3_textSize_8 : decode cX3_textSize 8 = .ok (.iaload, 1) := by decide +kernel
theorem dX3_textSize_9 : decode cX3_textSize 9 = .ok (.istore_n 2, 1) := by decide +kernel
theorem dX3_textSize_10 : decode cX3_textSize 10 = .ok (.iload_n 2, 1) := by decide +kernel
theorem dX3_textSize_11 : decode cX3_textSize 11 = .ok (.iconst (-1), 1) := by decide +kernel
theorem dX3_textSize_12 : decode cX3_textSize 12 = .ok (.if_icmp .ne 7, 3) := by decide +kernel
theorem dX3_textSize_15 : decode cX3_textSize 15 = .ok (.iconst (-1), 1) := by decide +kernel
theorem dX3_textSize_16 : decode cX3_textSize 16 = .ok (.goto 12, 3) := by decide +kernel
theorem dX3_textSize_19 : decode cX3_textSize 19 = .ok (.aload_n 0, 1) := by decide +kernel
theorem dX3_textSize_20 : decode cX3_textSize 20 = .ok (.getfield 16, 3) := by decide +kernel
theorem dX3_textSize_23 : decode cX3_textSize 23 = .ok (.getfield 171, 3) := by decide +kernel
theorem dX3_textSize_26 : decode cX3_textSize 26 = .ok (.iload_n 2, 1) := by decide +kernel
theorem dX3_textSize_27 : decode cX3_textSize 27 = .ok (.iaload, 1) := by decide +kernel
theorem dX3_textSize_28 : decode cX3_textSize 28 = .ok (.ireturn, 1) := by decide +kernel
theorem dX3_tokenIn_0 : decode cX3_tokenIn 0 = .ok (.aload_n 0, 1) := by decide +kernel
theorem dX3_tokenIn_1 : decode cX3_tokenIn 1 = .ok (.getfield 36, 3) := by decide +kernel
theorem dX3_tokenIn_4 : decode cX3_tokenIn 4 = .ok (.iload_n 1, 1) := by decide +kernel
theorem dX3_tokenIn_5 : decode cX3_tokenIn 5 = .ok (.baload, 1) := by decide +kernel
theorem dX3_tokenIn_6 : decode cX3_tokenIn 6 = .ok (.ifCond .ne 5, 3) := by decide +kernel
theorem dX3_tokenIn_9 : decode cX3_tokenIn 9 = .ok (.iconst (-1), 1) := by decide +kernel
theorem dX3_tokenIn_10 : decode cX3_tokenIn 10 = .ok (.ireturn, 1) := by decide +kernel
theorem dX3_tokenIn_11 : decode cX3_tokenIn 11 = .ok (.aload_n 0, 1) := by decide +kernel
theorem dX3_tokenIn_12 : decode cX3_tokenIn 12 = .ok (.getfield 16, 3) := by decide +kernel
theorem dX3_tokenIn_15 : decode cX3_tokenIn 15 = .ok (.getfield 92, 3) := by decide +kernel
theorem dX3_tokenIn_18 : decode cX3_tokenIn 18 = .ok (.iload_n 1, 1) := by decide +kernel
theorem dX3_tokenIn_19 : decode cX3_tokenIn 19 = .ok (.iaload, 1) := by decide +kernel
theorem dX3_tokenIn_20 : decode cX3_tokenIn 20 = .ok (.istore_n 3, 1) := by decide +kernel
theorem dX3_tokenIn_21 : decode cX3_tokenIn 21 = .ok (.iconst 0, 1) := by decide +kernel
theorem dX3_tokenIn_22 : decode cX3_tokenIn 22 = .ok (.istore 4, 2) := by decide +kernel
theorem dX3_tokenIn_24 : decode cX3_tokenIn 24 = .ok (.iload 4, 2) := by decide +kernel
theorem dX3_tokenIn_26 : decode cX3_tokenIn 26 = .ok (.iload_n 3, 1) := by decide +kernel
theorem dX3_tokenIn_27 : decode cX3_tokenIn 27 = .ok (.if_icmp .ge 27, 3) := by decide +kernel
theorem dX3_tokenIn_30 : decode cX3_tokenIn 30 = .ok (.aload_n 0, 1) := by decide +kernel
theorem dX3_tokenIn_31 : decode cX3_tokenIn 31 = .ok (.getfield 40, 3) := by decide +kernel
theorem dX3_tokenIn_34 : decode cX3_tokenIn 34 = .ok (.iload_n 1, 1) := by decide +kernel
theorem dX3_tokenIn_35 : decode cX3_tokenIn 35 = .ok (.iload 4, 2) := by decide +kernel
theorem dX3_tokenIn_37 : decode cX3_tokenIn 37 = .ok (.invokestatic 102, 3) := by decide +kernel
theorem dX3_tokenIn_40 : decode cX3_tokenIn 40 = .ok (.iaload, 1) := by decide +kernel
theorem dX3_tokenIn_41 : decode cX3_tokenIn 41 = .ok (.iload_n 2, 1) := by decide +kernel
theorem dX3_tokenIn_42 : decode cX3_tokenIn 42 = .ok (.if_icmp .ne 6, 3) := by decide +kernel
theorem dX3_tokenIn_45 : decode cX3_tokenIn 45 = .ok (.iload 4, 2) := by decide +kernel
theorem dX3_tokenIn_47 : decode cX3_tokenIn 47 = .ok (.ireturn, 1) := by decide +kernel
theorem dX3_tokenIn_48 : decode cX3_tokenIn 48 = .ok (.iinc 4 1, 3) := by decide +kernel
theorem dX3_tokenIn_51 : decode cX3_tokenIn 51 = .ok (.goto (-27), 3) := by decide +kernel
theorem dX3_tokenIn_54 : decode cX3_tokenIn 54 = .ok (.iconst (-1), 1) := by decide +kernel
theorem dX3_tokenIn_55 : decode cX3_tokenIn 55 = .ok (.ireturn, 1) := by decide +kernel
theorem dX3_textIn_0 : decode cX3_textIn 0 = .ok (.aload_n 0, 1) := by decide +kernel
theorem dX3_textIn_1 : decode cX3_textIn 1 = .ok (.iload_n 1, 1) := by decide +kernel
theorem dX3_textIn_2 : decode cX3_textIn 2 = .ok (.iload_n 2, 1) := by decide +kernel
theorem dX3_textIn_3 : decode cX3_textIn 3 = .ok (.invokevirtual 194, 3) := by decide +kernel
theorem dX3_textIn_6 : decode cX3_textIn 6 = .ok (.istore_n 3, 1) := by decide +kernel
theorem dX3_textIn_7 : decode cX3_textIn 7 = .ok (.iload_n 3, 1) := by decide +kernel
theorem dX3_textIn_8 : decode cX3_textIn 8 = .ok (.iconst (-1), 1) := by decide +kernel
theorem dX3_textIn_9 : decode cX3_textIn 9 = .ok (.if_icmp .ne 7, 3) := by decide +kernel
theorem dX3_textIn_12 : decode cX3_textIn 12 = .ok (.iconst (-1), 1) := by decide +kernel
theorem dX3_textIn_13 : decode cX3_textIn 13 = .ok (.goto 16, 3) := by decide +kernel
theorem dX3_textIn_16 : decode cX3_textIn 16 = .ok (.aload_n 0, 1) := by decide +kernel
theorem dX3_textIn_17 : decode cX3_textIn 17 = .ok (.getfield 16, 3) := by decide +kernel
theorem dX3_textIn_20 : decode cX3_textIn 20 = .ok (.getfield 118, 3) := by decide +kernel
theorem dX3_textIn_23 : decode cX3_textIn 23 = .ok (.iload_n 1, 1) := by decide +kernel
theorem dX3_textIn_24 : decode cX3_textIn 24 = .ok (.iload_n 3, 1) := by decide +kernel
theorem dX3_textIn_25 : decode cX3_textIn 25 = .ok (.invokestatic 102, 3) := by decide +kernel
theorem dX3_textIn_28 : decode cX3_textIn 28 = .ok (.iaload, 1) := by decide +kernel
theorem dX3_textIn_29 : decode cX3_textIn 29 = .ok (.ireturn, 1) := by decide +kernel
theorem dX3_numberIn_0 : decode cX3_numberIn 0 = .ok (.aload_n 0, 1) := by decide +kernel
theorem dX3_numberIn_1 : decode cX3_numberIn 1 = .ok (.iload_n 1, 1) := by decide +kernel
theorem dX3_numberIn_2 : decode cX3_numberIn 2 = .ok (.iload_n 2, 1) := by decide +kernel
theorem dX3_numberIn_3 : decode cX3_numberIn 3 = .ok (.invokevirtual 194, 3) := by decide +kernel
theorem dX3_numberIn_6 : decode cX3_numberIn 6 = .ok (.istore_n 3, 1) := by decide +kernel
theorem dX3_numberIn_7 : decode cX3_numberIn 7 = .ok (.iload_n 3, 1) := by decide +kernel
theorem dX3_numberIn_8 : decode cX3_numberIn 8 = .ok (.iconst (-1), 1) := by decide +kernel
theorem dX3_numberIn_9 : decode cX3_numberIn 9 = .ok (.if_icmp .eq 16, 3) := by decide +kernel
theorem dX3_numberIn_12 : decode cX3_numberIn 12 = .ok (.aload_n 0, 1) := by decide +kernel
theorem dX3_numberIn_13 : decode cX3_numberIn 13 = .ok (.getfield 32, 3) := by decide +kernel
theorem dX3_numberIn_16 : decode cX3_numberIn 16 = .ok (.getfield 166, 3) := by decide +kernel
theorem dX3_numberIn_19 : decode cX3_numberIn 19 = .ok (.iload_n 2, 1) := by decide +kernel
theorem dX3_numberIn_20 : decode cX3_numberIn 20 = .ok (.iaload, 1) := by decide +kernel
theorem dX3_numberIn_21 : decode cX3_numberIn 21 = .ok (.iconst 1, 1) := by decide +kernel
theorem dX3_numberIn_22 : decode cX3_numberIn 22 = .ok (.if_icmp .eq 5, 3) := by decide +kernel
theorem dX3_numberIn_25 : decode cX3_numberIn 25 = .ok (.iconst (-1), 1) := by decide +kernel
theorem dX3_numberIn_26 : decode cX3_numberIn 26 = .ok (.ireturn, 1) := by decide +kernel
theorem dX3_numberIn_27 : decode cX3_numberIn 27 = .ok (.aload_n 0, 1) := by decide +kernel
theorem dX3_numberIn_28 : decode cX3_numberIn 28 = .ok (.getfield 16, 3) := by decide +kernel
theorem dX3_numberIn_31 : decode cX3_numberIn 31 = .ok (.iload_n 1, 1) := by decide +kernel
theorem dX3_numberIn_32 : decode cX3_numberIn 32 = .ok (.iload_n 3, 1) := by decide +kernel
theorem dX3_numberIn_33 : decode cX3_numberIn 33 = .ok (.invokestatic 102, 3) := by decide +kernel
theorem dX3_numberIn_36 : decode cX3_numberIn 36 = .ok (.invokevirtual 273, 3) := by decide +kernel
theorem dX3_numberIn_39 : decode cX3_numberIn 39 = .ok (.ireturn, 1) := by decide +kernel
theorem dX3_firstByteOf_0 : decode cX3_firstByteOf 0 = .ok (.iload_n 0, 1) := by decide +kernel
theorem dX3_firstByteOf_1 : decode cX3_firstByteOf 1 = .ok (.bipush 30, 2) := by decide +kernel
theorem dX3_firstByteOf_3 : decode cX3_firstByteOf 3 = .ok (.imul, 1) := by decide +kernel
theorem dX3_firstByteOf_4 : decode cX3_firstByteOf 4 = .ok (.ireturn, 1) := by decide +kernel
theorem dX3_placeOf_0 : decode cX3_placeOf 0 = .ok (.iload_n 0, 1) := by decide +kernel
theorem dX3_placeOf_1 : decode cX3_placeOf 1 = .ok (.bipush 30, 2) := by decide +kernel
theorem dX3_placeOf_3 : decode cX3_placeOf 3 = .ok (.imul, 1) := by decide +kernel
theorem dX3_placeOf_4 : decode cX3_placeOf 4 = .ok (.iload_n 1, 1) := by decide +kernel
theorem dX3_placeOf_5 : decode cX3_placeOf 5 = .ok (.iadd, 1) := by decide +kernel
theorem dX3_placeOf_6 : decode cX3_placeOf 6 = .ok (.ireturn, 1) := by decide +kernel

theorem dX4_init_0 : decode cX4_init 0 = .ok (.aload_n 0, 1) := by decide +kernel
theorem dX4_init_1 : decode cX4_init 1 = .ok (.invokespecial 1, 3) := by decide +kernel
theorem dX4_init_4 : decode cX4_init 4 = .ok (.aload_n 0, 1) := by decide +kernel
theorem dX4_init_5 : decode cX4_init 5 = .ok (.bipush 30, 2) := by decide +kernel
theorem dX4_init_7 : decode cX4_init 7 = .ok (.newarray .int, 2) := by decide +kernel
theorem dX4_init_9 : decode cX4_init 9 = .ok (.putfield 9, 3) := by decide +kernel
theorem dX4_init_12 : decode cX4_init 12 = .ok (.aload_n 0, 1) := by decide +kernel
theorem dX4_init_13 : decode cX4_init 13 = .ok (.bipush 12, 2) := by decide +kernel
theorem dX4_init_15 : decode cX4_init 15 = .ok (.newarray .int, 2) := by decide +kernel
theorem dX4_init_17 : decode cX4_init 17 = .ok (.putfield 13, 3) := by decide +kernel
theorem dX4_init_20 : decode cX4_init 20 = .ok (.aload_n 0, 1) := by decide +kernel
theorem dX4_init_21 : decode cX4_init 21 = .ok (.sipush 360, 3) := by decide +kernel
theorem dX4_init_24 : decode cX4_init 24 = .ok (.newarray .int, 2) := by decide +kernel
theorem dX4_init_26 : decode cX4_init 26 = .ok (.putfield 16, 3) := by decide +kernel
theorem dX4_init_29 : decode cX4_init 29 = .ok (.aload_n 0, 1) := by decide +kernel
theorem dX4_init_30 : decode cX4_init 30 = .ok (.bipush 12, 2) := by decide +kernel
theorem dX4_init_32 : decode cX4_init 32 = .ok (.newarray .int, 2) := by decide +kernel
theorem dX4_init_34 : decode cX4_init 34 = .ok (.putfield 19, 3) := by decide +kernel
theorem dX4_init_37 : decode cX4_init 37 = .ok (.aload_n 0, 1) := by decide +kernel
theorem dX4_init_38 : decode cX4_init 38 = .ok (.sipush 360, 3) := by decide +kernel
theorem dX4_init_41 : decode cX4_init 41 = .ok (.newarray .int, 2) := by decide +kernel
theorem dX4_init_43 : decode cX4_init 43 = .ok (.putfield 22, 3) := by decide +kernel
theorem dX4_init_46 : decode cX4_init 46 = .ok (.aload_n 0, 1) := by decide +kernel
theorem dX4_init_47 : decode cX4_init 47 = .ok (.sipush 360, 3) := by decide +kernel
theorem dX4_init_50 : decode cX4_init 50 = .ok (.newarray .int, 2) := by decide +kernel
theorem dX4_init_52 : decode cX4_init 52 = .ok (.putfield 25, 3) := by decide +kernel
theorem dX4_init_55 : decode cX4_init 55 = .ok (.aload_n 0, 1) := by decide +kernel
theorem dX4_init_56 : decode cX4_init 56 = .ok (.sipush 360, 3) := by decide +kernel
theorem dX4_init_59 : decode cX4_init 59 = .ok (.newarray .int, 2) := by decide +kernel
theorem dX4_init_61 : decode cX4_init 61 = .ok (.putfield 28, 3) := by decide +kernel
theorem dX4_init_64 : decode cX4_init 64 = .ok (.aload_n 0, 1) := by decide +kernel
theorem dX4_init_65 : decode cX4_init 65 = .ok (.iconst 2, 1) := by decide +kernel
theorem dX4_init_66 : decode cX4_init 66 = .ok (.putfield 31, 3) := by decide +kernel
theorem dX4_init_69 : decode cX4_init 69 = .ok (.aload_n 0, 1) := by decide +kernel
theorem dX4_init_70 : decode cX4_init 70 = .ok (.iconst 3, 1) := by decide +kernel
theorem dX4_init_71 : decode cX4_init 71 = .ok (.putfield 35, 3) := by decide +kernel
theorem dX4_init_74 : decode cX4_init 74 = .ok (.aload_n 0, 1) := by decide +kernel
theorem dX4_init_75 : decode cX4_init 75 = .ok (.iconst 4, 1) := by decide +kernel
theorem dX4_init_76 : decode cX4_init 76 = .ok (.putfield 38, 3) := by decide +kernel
theorem dX4_init_79 : decode cX4_init 79 = .ok (.aload_n 0, 1) := by decide +kernel
theorem dX4_init_80 : decode cX4_init 80 = .ok (.bipush 13, 2) := by decide +kernel
theorem dX4_init_82 : decode cX4_init 82 = .ok (.newarray .int, 2) := by decide +kernel
theorem dX4_init_84 : decode cX4_init 84 = .ok (.putfield 41, 3) := by decide +kernel
theorem dX4_init_87 : decode cX4_init 87 = .ok (.aload_n 0, 1) := by decide +kernel
theorem dX4_init_88 : decode cX4_init 88 = .ok (.bipush 13, 2) := by decide +kernel
theorem dX4_init_90 : decode cX4_init 90 = .ok (.newarray .int, 2) := by decide +kernel
theorem dX4_init_92 : decode cX4_init 92 = .ok (.putfield 44, 3) := by decide +kernel
theorem dX4_init_95 : decode cX4_init 95 = .ok (.aload_n 0, 1) := by decide +kernel
theorem dX4_init_96 : decode cX4_init 96 = .ok (.sipush 520, 3) := by decide +kernel
theorem dX4_init_99 : decode cX4_init 99 = .ok (.newarray .int, 2) := by decide +kernel
theorem dX4_init_101 : decode cX4_init 101 = .ok (.putfield 47, 3) := by decide +kernel
theorem dX4_init_104 : decode cX4_init 104 = .ok (.aload_n 0, 1) := by decide +kernel
theorem dX4_init_105 : decode cX4_init 105 = .ok (.sipush 520, 3) := by decide +kernel
theorem dX4_init_108 : decode cX4_init 108 = .ok (.newarray .int, 2) := by decide +kernel
theorem dX4_init_110 : decode cX4_init 110 = .ok (.putfield 50, 3) := by decide +kernel
theorem dX4_init_113 : decode cX4_init 113 = .ok (.aload_n 0, 1) := by decide +kernel
theorem dX4_init_114 : decode cX4_init 114 = .ok (.sipush 6240, 3) := by decide +kernel
theorem dX4_init_117 : decode cX4_init 117 = .ok (.newarray .int, 2) := by decide +kernel
theorem dX4_init_119 : decode cX4_init 119 = .ok (.putfield 53, 3) := by decide +kernel
theorem dX4_init_122 : decode cX4_init 122 = .ok (.aload_n 0, 1) := by decide +kernel
theorem dX4_init_123 : decode cX4_init 123 = .ok (.bipush 12, 2) := by decide +kernel
theorem dX4_init_125 : decode cX4_init 125 = .ok (.newarray .int, 2) := by decide +kernel
theorem dX4_init_127 : decode cX4_init 127 = .ok (.putfield 56, 3) := by decide +kernel
theorem dX4_init_130 : decode cX4_init 130 = .ok (.aload_n 0, 1) := by decide +kernel
theorem dX4_init_131 : decode cX4_init 131 = .ok (.sipush 1271, 3) := by decide +kernel
theorem dX4_init_134 : decode cX4_init 134 = .ok (.newarray .int, 2) := by decide +kernel
theorem dX4_init_136 : decode cX4_init 136 = .ok (.putfield 59, 3) := by decide +kernel
theorem dX4_init_139 : decode cX4_init 139 = .ok (.aload_n 0, 1) := by decide +kernel
theorem dX4_init_140 : decode cX4_init 140 = .ok (.bipush 70, 2) := by decide +kernel
theorem dX4_init_142 : decode cX4_init 142 = .ok (.newarray .int, 2) := by decide +kernel
theorem dX4_init_144 : decode cX4_init 144 = .ok (.putfield 62, 3) := by decide +kernel
theorem dX4_init_147 : decode cX4_init 147 = .ok (.aload_n 0, 1) := by decide +kernel
theorem dX4_init_148 : decode cX4_init 148 = .ok (.bipush 40, 2) := by decide +kernel
theorem dX4_init_150 : decode cX4_init 150 = .ok (.newarray .int, 2) := by decide +kernel
theorem dX4_init_152 : decode cX4_init 152 = .ok (.putfield 65, 3) := by decide +kernel
theorem dX4_init_155 : decode cX4_init 155 = .ok (.aload_n 0, 1) := by decide +kernel
theorem dX4_init_156 : decode cX4_init 156 = .ok (.bipush 40, 2) := by decide +kernel
theorem dX4_init_158 : decode cX4_init 158 = .ok (.newarray .int, 2) := by decide +kernel
theorem dX4_init_160 : decode cX4_init 160 = .ok (.putfield 68, 3) := by decide +kernel
theorem dX4_init_163 : decode cX4_init 163 = .ok (.aload_n 0, 1) := by decide +kernel
theorem dX4_init_164 : decode cX4_init 164 = .ok (.sipush 480, 3) := by decide +kernel
theorem dX4_init_167 : decode cX4_init 167 = .ok (.newarray .int, 2) := by decide +kernel
theorem dX4_init_169 : decode cX4_init 169 = .ok (.putfield 71, 3) := by decide +kernel
theorem dX4_init_172 : decode cX4_init 172 = .ok (.return_, 1) := by decide +kernel
theorem dX4_thrown_0 : decode cX4_thrown 0 = .ok (.aload_n 0, 1) := by decide +kernel
theorem dX4_thrown_1 : decode cX4_thrown 1 = .ok (.getfield 74, 3) := by decide +kernel
theorem dX4_thrown_4 : decode cX4_thrown 4 = .ok (.ireturn, 1) := by decide +kernel
theorem dX4_fail_0 : decode cX4_fail 0 = .ok (.aload_n 0, 1) := by decide +kernel
theorem dX4_fail_1 : decode cX4_fail 1 = .ok (.iload_n 1, 1) := by decide +kernel
theorem dX4_fail_2 : decode cX4_fail 2 = .ok (.putfield 74, 3) := by decide +kernel
theorem dX4_fail_5 : decode cX4_fail 5 = .ok (.iconst 0, 1) := by decide +kernel
theorem dX4_fail_6 : decode cX4_fail 6 = .ok (.ireturn, 1) := by decide +kernel
theorem dX4_isLine_0 : decode cX4_isLine 0 = .ok (.iload_n 1, 1) := by decide +kernel
theorem dX4_isLine_1 : decode cX4_isLine 1 = .ok (.ifCond .lt 15, 3) := by decide +kernel
theorem dX4_isLine_4 : decode cX4_isLine 4 = .ok (.iload_n 1, 1) := by decide +kernel
theorem dX4_isLine_5 : decode cX4_isLine 5 = .ok (.aload_n 0, 1) := by decide +kernel
theorem dX4_isLine_6 : decode cX4_isLine 6 = .ok (.getfield 77, 3) := by decide +kernel
theorem dX4_isLine_9 : decode cX4_isLine 9 = .ok (.if_icmp .ge 7, 3) := by decide +kernel
theorem dX4_isLine_12 : decode cX4_isLine 12 = .ok (.iconst 1, 1) := by decide +kernel
theorem dX4_isLine_13 : decode cX4_isLine 13 = .ok (.goto 4, 3) := by decide +kernel
theorem dX4_isLine_16 : decode cX4_isLine 16 = .ok (.iconst 0, 1) := by decide +kernel
theorem dX4_isLine_17 : decode cX4_isLine 17 = .ok (.ireturn, 1) := by decide +kernel
theorem dX4_isSlot_0 : decode cX4_isSlot 0 = .ok (.iload_n 1, 1) := by decide +kernel
theorem dX4_isSlot_1 : decode cX4_isSlot 1 = .ok (.ifCond .lt 17, 3) := by decide +kernel
theorem dX4_isSlot_4 : decode cX4_isSlot 4 = .ok (.iload_n 1, 1) := by decide +kernel
theorem dX4_isSlot_5 : decode cX4_isSlot 5 = .ok (.aload_n 0, 1) := by decide +kernel
theorem dX4_isSlot_6 : decode cX4_isSlot 6 = .ok (.getfield 41, 3) := by decide +kernel
theorem dX4_isSlot_9 : decode cX4_isSlot 9 = .ok (.iconst 0, 1) := by decide +kernel
theorem dX4_isSlot_10 : decode cX4_isSlot 10 = .ok (.iaload, 1) := by decide +kernel
theorem dX4_isSlot_11 : decode cX4_isSlot 11 = .ok (.if_icmp .ge 7, 3) := by decide +kernel
theorem dX4_isSlot_14 : decode cX4_isSlot 14 = .ok (.iconst 1, 1) := by decide +kernel
theorem dX4_isSlot_15 : decode cX4_isSlot 15 = .ok (.goto 4, 3) := by decide +kernel
theorem dX4_isSlot_18 : decode cX4_isSlot 18 = .ok (.iconst 0, 1) := by decide +kernel
theorem dX4_isSlot_19 : decode cX4_isSlot 19 = .ok (.ireturn, 1) := by decide +kernel
theorem dX4_feed_0 : decode cX4_feed 0 = .ok (.aload_n 0, 1) := by decide +kernel
theorem dX4_feed_1 : decode cX4_feed 1 = .ok (.iconst 0, 1) := by decide +kernel
theorem dX4_feed_2 : decode cX4_feed 2 = .ok (.putfield 74, 3) := by decide +kernel
theorem dX4_feed_5 : decode cX4_feed 5 = .ok (.iconst 0, 1) := by decide +kernel
theorem dX4_feed_6 : decode cX4_feed 6 = .ok (.istore_n 3, 1) := by decide +kernel
theorem dX4_feed_7 : decode cX4_feed 7 = .ok (.bipush 56, 2) := by decide +kernel
theorem dX4_feed_9 : decode cX4_feed 9 = .ok (.istore 4, 2) := by decide +kernel
theorem dX4_feed_11 : decode cX4_feed 11 = .ok (.iload 4, 2) := by decide +kernel
theorem dX4_feed_13 : decode cX4_feed 13 = .ok (.ifCond .lt 57, 3) := by decide +kernel
theorem dX4_feed_16 : decode cX4_feed 16 = .ok (.lload_n 1, 1) := by decide +kernel
theorem dX4_feed_17 : decode cX4_feed 17 = .ok (.iload 4, 2) := by decide +kernel
theorem dX4_feed_19 : decode cX4_feed 19 = .ok (.lushr, 1) := by decide +kernel
theorem dX4_feed_20 : decode cX4_feed 20 = .ok (.ldc2_w 80, 3) := by decide +kernel
theorem dX4_feed_23 : decode cX4_feed 23 = .ok (.land, 1) := by decide +kernel
theorem dX4_feed_24 : decode cX4_feed 24 = .ok (.l2i, 1) := by decide +kernel
theorem dX4_feed_25 : decode cX4_feed 25 = .ok (.istore 5, 2) := by decide +kernel
theorem dX4_feed_27 : decode cX4_feed 27 = .ok (.iload 5, 2) := by decide +kernel
theorem dX4_feed_29 : decode cX4_feed 29 = .ok (.ifCond .eq 22, 3) := by decide +kernel
theorem dX4_feed_32 : decode cX4_feed 32 = .ok (.iload 5, 2) := by decide +kernel
theorem dX4_feed_34 : decode cX4_feed 34 = .ok (.bipush 32, 2) := by decide +kernel
theorem dX4_feed_36 : decode cX4_feed 36 = .ok (.if_icmp .lt 10, 3) := by decide +kernel
theorem dX4_feed_39 : decode cX4_feed 39 = .ok (.iload 5, 2) := by decide +kernel
theorem dX4_feed_41 : decode cX4_feed 41 = .ok (.bipush 126, 2) := by decide +kernel
theorem dX4_feed_43 : decode cX4_feed 43 = .ok (.if_icmp .le 8, 3) := by decide +kernel
theorem dX4_feed_46 : decode cX4_feed 46 = .ok (.aload_n 0, 1) := by decide +kernel
theorem dX4_feed_47 : decode cX4_feed 47 = .ok (.iconst 1, 1) := by decide +kernel
theorem dX4_feed_48 : decode cX4_feed 48 = .ok (.putfield 74, 3) := by decide +kernel
theorem dX4_feed_51 : decode cX4_feed 51 = .ok (.iload_n 3, 1) := by decide +kernel
theorem dX4_feed_52 : decode cX4_feed 52 = .ok (.iload 5, 2) := by decide +kernel
theorem dX4_feed_54 : decode cX4_feed 54 = .ok (.ifCond .ne 7, 3) := by decide +kernel
theorem dX4_feed_57 : decode cX4_feed 57 = .ok (.iconst 0, 1) := by decide +kernel
theorem dX4_feed_58 : decode cX4_feed 58 = .ok (.goto 4, 3) := by decide +kernel
theorem dX4_feed_61 : decode cX4_feed 61 = .ok (.iconst 1, 1) := by decide +kernel
theorem dX4_feed_62 : decode cX4_feed 62 = .ok (.iadd, 1) := by decide +kernel
theorem dX4_feed_63 : decode cX4_feed 63 = .ok (.istore_n 3, 1) := by decide +kernel
theorem dX4_feed_64 : decode cX4_feed 64 = .ok (.iinc 4 (-8), 3) := by decide +kernel
theorem dX4_feed_67 : decode cX4_feed 67 = .ok (.goto (-56), 3) := by decide +kernel
theorem dX4_feed_70 : decode cX4_feed 70 = .ok (.aload_n 0, 1) := by decide +kernel
theorem dX4_feed_71 : decode cX4_feed 71 = .ok (.getfield 74, 3) := by decide +kernel
theorem dX4_feed_74 : decode cX4_feed 74 = .ok (.ifCond .ne 19, 3) := by decide +kernel
theorem dX4_feed_77 : decode cX4_feed 77 = .ok (.aload_n 0, 1) := by decide +kernel
theorem dX4_feed_78 : decode cX4_feed 78 = .ok (.getfield 82, 3) := by decide +kernel
theorem dX4_feed_81 : decode cX4_feed 81 = .ok (.iload_n 3, 1) := by decide +kernel
theorem dX4_feed_82 : decode cX4_feed 82 = .ok (.iadd, 1) := by decide +kernel
theorem dX4_feed_83 : decode cX4_feed 83 = .ok (.bipush 30, 2) := by decide +kernel
theorem dX4_feed_85 : decode cX4_feed 85 = .ok (.if_icmp .le 8, 3) := by decide +kernel
theorem dX4_feed_88 : decode cX4_feed 88 = .ok (.aload_n 0, 1) := by decide +kernel
theorem dX4_feed_89 : decode cX4_feed 89 = .ok (.iconst 2, 1) := by decide +kernel
theorem dX4_feed_90 : decode cX4_feed 90 = .ok (.putfield 74, 3) := by decide +kernel
theorem dX4_feed_93 : decode cX4_feed 93 = .ok (.aload_n 0, 1) := by decide +kernel
theorem dX4_feed_94 : decode cX4_feed 94 = .ok (.getfield 74, 3) := by decide +kernel
theorem dX4_feed_97 : decode cX4_feed 97 = .ok (.ifCond .eq 5, 3) := by decide +kernel
theorem dX4_feed_100 : decode cX4_feed 100 = .ok (.iconst 0, 1) := by decide +kernel
theorem dX4_feed_101 : decode cX4_feed 101 = .ok (.ireturn, 1) := by decide +kernel
theorem dX4_feed_102 : decode cX4_feed 102 = .ok (.bipush 56, 2) := by decide +kernel
theorem dX4_feed_104 : decode cX4_feed 104 = .ok (.istore 4, 2) := by decide +kernel
theorem dX4_feed_106 : decode cX4_feed 106 = .ok (.iload 4, 2) := by decide +kernel
theorem dX4_feed_108 : decode cX4_feed 108 = .ok (.ifCond .lt 49, 3) := by decide +kernel
theorem dX4_feed_111 : decode cX4_feed 111 = .ok (.lload_n 1, 1) := by decide +kernel
theorem dX4_feed_112 : decode cX4_feed 112 = .ok (.iload 4, 2) := by decide +kernel
theorem dX4_feed_114 : decode cX4_feed 114 = .ok (.lushr, 1) := by decide +kernel
theorem dX4_feed_115 : decode cX4_feed 115 = .ok (.ldc2_w 80, 3) := by decide +kernel
theorem dX4_feed_118 : decode cX4_feed 118 = .ok (.land, 1) := by decide +kernel
theorem dX4_feed_119 : decode cX4_feed 119 = .ok (.l2i, 1) := by decide +kernel
theorem dX4_feed_120 : decode cX4_feed 120 = .ok (.istore 5, 2) := by decide +kernel
theorem dX4_feed_122 : decode cX4_feed 122 = .ok (.iload 5, 2) := by decide +kernel
theorem dX4_feed_124 : decode cX4_feed 124 = .ok (.ifCond .ne 6, 3) := by decide +kernel
theorem dX4_feed_127 : decode cX4_feed 127 = .ok (.goto 24, 3) := by decide +kernel
theorem dX4_feed_130 : decode cX4_feed 130 = .ok (.aload_n 0, 1) := by decide +kernel
theorem dX4_feed_131 : decode cX4_feed 131 = .ok (.getfield 9, 3) := by decide +kernel
theorem dX4_feed_134 : decode cX4_feed 134 = .ok (.aload_n 0, 1) := by decide +kernel
theorem dX4_feed_135 : decode cX4_feed 135 = .ok (.getfield 82, 3) := by decide +kernel
theorem dX4_feed_138 : decode cX4_feed 138 = .ok (.iload 5, 2) := by decide +kernel
theorem dX4_feed_140 : decode cX4_feed 140 = .ok (.iastore, 1) := by decide +kernel
theorem dX4_feed_141 : decode cX4_feed 141 = .ok (.aload_n 0, 1) := by decide +kernel
theorem dX4_feed_142 : decode cX4_feed 142 = .ok (.dup, 1) := by decide +kernel
theorem dX4_feed_143 : decode cX4_feed 143 = .ok (.getfield 82, 3) := by decide +kernel
theorem dX4_feed_146 : decode cX4_feed 146 = .ok (.iconst 1, 1) := by decide +kernel
theorem dX4_feed_147 : decode cX4_feed 147 = .ok (.iadd, 1) := by decide +kernel
theorem dX4_feed_148 : decode cX4_feed 148 = .ok (.putfield 82, 3) := by decide +kernel
theorem dX4_feed_151 : decode cX4_feed 151 = .ok (.iinc 4 (-8), 3) := by decide +kernel
theorem dX4_feed_154 : decode cX4_feed 154 = .ok (.goto (-48), 3) := by decide +kernel
theorem dX4_feed_157 : decode cX4_feed 157 = .ok (.aload_n 0, 1) := by decide +kernel
theorem dX4_feed_158 : decode cX4_feed 158 = .ok (.getfield 82, 3) := by decide +kernel
theorem dX4_feed_161 : decode cX4_feed 161 = .ok (.ireturn, 1) := by decide +kernel
theorem dX4_kindOf_0 : decode cX4_kindOf 0 = .ok (.iload_n 0, 1) := by decide +kernel
theorem dX4_kindOf_1 : decode cX4_kindOf 1 = .ok (.bipush 65, 2) := by decide +kernel
theorem dX4_kindOf_3 : decode cX4_kindOf 3 = .ok (.if_icmp .lt 9, 3) := by decide +kernel
theorem dX4_kindOf_6 : decode cX4_kindOf 6 = .ok (.iload_n 0, 1) := by decide +kernel
theorem dX4_kindOf_7 : decode cX4_kindOf 7 = .ok (.bipush 90, 2) := by decide +kernel
theorem dX4_kindOf_9 : decode cX4_kindOf 9 = .ok (.if_icmp .le 15, 3) := by decide +kernel
theorem dX4_kindOf_12 : decode cX4_kindOf 12 = .ok (.iload_n 0, 1) := by decide +kernel
theorem dX4_kindOf_13 : decode cX4_kindOf 13 = .ok (.bipush 97, 2) := by decide +kernel
theorem dX4_kindOf_15 : decode cX4_kindOf 15 = .ok (.if_icmp .lt 13, 3) := by decide +kernel
theorem dX4_kindOf_18 : decode cX4_kindOf 18 = .ok (.iload_n 0, 1) := by decide +kernel
theorem dX4_kindOf_19 : decode cX4_kindOf 19 = .ok (.bipush 122, 2) := by decide +kernel
theorem dX4_kindOf_21 : decode cX4_kindOf 21 = .ok (.if_icmp .gt 7, 3) := by decide +kernel
theorem dX4_kindOf_24 : decode cX4_kindOf 24 = .ok (.iconst 0, 1) := by decide +kernel
theorem dX4_kindOf_25 : decode cX4_kindOf 25 = .ok (.goto 30, 3) := by decide +kernel
theorem dX4_kindOf_28 : decode cX4_kindOf 28 = .ok (.iload_n 0, 1) := by decide +kernel
theorem dX4_kindOf_29 : decode cX4_kindOf 29 = .ok (.bipush 48, 2) := by decide +kernel
theorem dX4_kindOf_31 : decode cX4_kindOf 31 = .ok (.if_icmp .lt 13, 3) := by decide +kernel
theorem dX4_kindOf_34 : decode cX4_kindOf 34 = .ok (.iload_n 0, 1) := by decide +kernel
theorem dX4_kindOf_35 : decode cX4_kindOf 35 = .ok (.bipush 57, 2) := by decide +kernel
theorem dX4_kindOf_37 : decode cX4_kindOf 37 = .ok (.if_icmp .gt 7, 3) := by decide +kernel
theorem dX4_kindOf_40 : decode cX4_kindOf 40 = .ok (.iconst 1, 1) := by decide +kernel
theorem dX4_kindOf_41 : decode cX4_kindOf 41 = .ok (.goto 14, 3) := by decide +kernel
theorem dX4_kindOf_44 : decode cX4_kindOf 44 = .ok (.iload_n 0, 1) := by decide +kernel
theorem dX4_kindOf_45 : decode cX4_kindOf 45 = .ok (.bipush 32, 2) := by decide +kernel
theorem dX4_kindOf_47 : decode cX4_kindOf 47 = .ok (.if_icmp .ne 7, 3) := by decide +kernel
theorem dX4_kindOf_50 : decode cX4_kindOf 50 = .ok (.iconst 2, 1) := by decide +kernel
theorem dX4_kindOf_51 : decode cX4_kindOf 51 = .ok (.goto 4, 3) := by decide +kernel
theorem dX4_kindOf_54 : decode cX4_kindOf 54 = .ok (.iconst 3, 1) := by decide +kernel
theorem dX4_kindOf_55 : decode cX4_kindOf 55 = .ok (.ireturn, 1) := by decide +kernel
theorem dX4_store_0 : decode cX4_store 0 = .ok (.aload_n 0, 1) := by decide +kernel
theorem dX4_store_1 : decode cX4_store 1 = .ok (.iconst 0, 1) := by decide +kernel
theorem dX4_store_2 : decode cX4_store 2 = .ok (.putfield 74, 3) := by decide +kernel
theorem dX4_store_5 : decode cX4_store 5 = .ok (.aload_n 0, 1) := by decide +kernel
theorem dX4_store_6 : decode cX4_store 6 = .ok (.getfield 77, 3) := by decide +kernel
theorem dX4_store_9 : decode cX4_store 9 = .ok (.bipush 12, 2) := by decide +kernel
theorem dX4_store_11 : decode cX4_store 11 = .ok (.if_icmp .ne 9, 3) := by decide +kernel
theorem dX4_store_14 : decode cX4_store 14 = .ok (.aload_n 0, 1) := by decide +kernel
theorem dX4_store_15 : decode cX4_store 15 = .ok (.iconst 1, 1) := by decide +kernel
theorem dX4_store_16 : decode cX4_store 16 = .ok (.invokevirtual 85, 3) := by decide +kernel
theorem dX4_store_19 : decode cX4_store 19 = .ok (.ireturn, 1) := by decide +kernel
theorem dX4_store_20 : decode cX4_store 20 = .ok (.bipush 30, 2) := by decide +kernel
theorem dX4_store_22 : decode cX4_store 22 = .ok (.aload_n 0, 1) := by decide +kernel
theorem dX4_store_23 : decode cX4_store 23 = .ok (.getfield 77, 3) := by decide +kernel
theorem dX4_store_26 : decode cX4_store 26 = .ok (.imul, 1) := by decide +kernel
theorem dX4_store_27 : decode cX4_store 27 = .ok (.istore_n 1, 1) := by decide +kernel
theorem dX4_store_28 : decode cX4_store 28 = .ok (.aload_n 0, 1) := by decide +kernel
theorem dX4_store_29 : decode cX4_store 29 = .ok (.getfield 13, 3) := by decide +kernel
theorem dX4_store_32 : decode cX4_store 32 = .ok (.aload_n 0, 1) := by decide +kernel
theorem dX4_store_33 : decode cX4_store 33 = .ok (.getfield 77, 3) := by decide +kernel
theorem dX4_store_36 : decode cX4_store 36 = .ok (.aload_n 0, 1) := by decide +kernel
theorem dX4_store_37 : decode cX4_store 37 = .ok (.getfield 82, 3) := by decide +kernel
theorem dX4_store_40 : decode cX4_store 40 = .ok (.iastore, 1) := by decide +kernel
theorem dX4_store_41 : decode cX4_store 41 = .ok (.aload_n 0, 1) := by decide +kernel
theorem dX4_store_42 : decode cX4_store 42 = .ok (.getfield 19, 3) := by decide +kernel
theorem dX4_store_45 : decode cX4_store 45 = .ok (.aload_n 0, 1) := by decide +kernel
theorem dX4_store_46 : decode cX4_store 46 = .ok (.getfield 77, 3) := by decide +kernel
theorem dX4_store_49 : decode cX4_store 49 = .ok (.iconst 0, 1) := by decide +kernel
theorem dX4_store_50 : decode cX4_store 50 = .ok (.iastore, 1) := by decide +kernel
theorem dX4_store_51 : decode cX4_store 51 = .ok (.iconst 0, 1) := by decide +kernel
theorem dX4_store_52 : decode cX4_store 52 = .ok (.istore_n 2, 1) := by decide +kernel
theorem dX4_store_53 : decode cX4_store 53 = .ok (.iload_n 2, 1) := by decide +kernel
theorem dX4_store_54 : decode cX4_store 54 = .ok (.aload_n 0, 1) := by decide +kernel
theorem dX4_store_55 : decode cX4_store 55 = .ok (.getfield 82, 3) := by decide +kernel
theorem dX4_store_58 : decode cX4_store 58 = .ok (.if_icmp .ge 155, 3) := by decide +kernel
theorem dX4_store_61 : decode cX4_store 61 = .ok (.aload_n 0, 1) := by decide +kernel
theorem dX4_store_62 : decode cX4_store 62 = .ok (.getfield 16, 3) := by decide +kernel
theorem dX4_store_65 : decode cX4_store 65 = .ok (.iload_n 1, 1) := by decide +kernel
theorem dX4_store_66 : decode cX4_store 66 = .ok (.iload_n 2, 1) := by decide +kernel
theorem dX4_store_67 : decode cX4_store 67 = .ok (.iadd, 1) := by decide +kernel
theorem dX4_store_68 : decode cX4_store 68 = .ok (.aload_n 0, 1) := by decide +kernel
theorem dX4_store_69 : decode cX4_store 69 = .ok (.getfield 9, 3) := by decide +kernel
theorem dX4_store_72 : decode cX4_store 72 = .ok (.iload_n 2, 1) := by decide +kernel
theorem dX4_store_73 : decode cX4_store 73 = .ok (.iaload, 1) := by decide +kernel
theorem dX4_store_74 : decode cX4_store 74 = .ok (.iastore, 1) := by decide +kernel
theorem dX4_store_75 : decode cX4_store 75 = .ok (.aload_n 0, 1) := by decide +kernel
theorem dX4_store_76 : decode cX4_store 76 = .ok (.getfield 9, 3) := by decide +kernel
theorem dX4_store_79 : decode cX4_store 79 = .ok (.iload_n 2, 1) := by decide +kernel
theorem dX4_store_80 : decode cX4_store 80 = .ok (.iaload, 1) := by decide +kernel
theorem dX4_store_81 : decode cX4_store 81 = .ok (.invokestatic 89, 3) := by decide +kernel
theorem dX4_store_84 : decode cX4_store 84 = .ok (.istore_n 3, 1) := by decide +kernel
theorem dX4_store_85 : decode cX4_store 85 = .ok (.iload_n 2, 1) := by decide +kernel
theorem dX4_store_86 : decode cX4_store 86 = .ok (.ifCond .le 27, 3) := by decide +kernel
theorem dX4_store_89 : decode cX4_store 89 = .ok (.iload_n 3, 1) := by decide +kernel
theorem dX4_store_90 : decode cX4_store 90 = .ok (.iconst 3, 1) := by decide +kernel
theorem dX4_store_91 : decode cX4_store 91 = .ok (.if_icmp .eq 22, 3) := by decide +kernel
theorem dX4_store_94 : decode cX4_store 94 = .ok (.aload_n 0, 1) := by decide +kernel
theorem dX4_store_95 : decode cX4_store 95 = .ok (.getfield 9, 3) := by decide +kernel
theorem dX4_store_98 : decode cX4_store 98 = .ok (.iload_n 2, 1) := by decide +kernel
theorem dX4_store_99 : decode cX4_store 99 = .ok (.iconst 1, 1) := by decide +kernel
theorem dX4_store_100 : decode cX4_store 100 = .ok (.isub, 1) := by decide +kernel
theorem dX4_store_101 : decode cX4_store 101 = .ok (.iaload, 1) := by decide +kernel
theorem dX4_store_102 : decode cX4_store 102 = .ok (.invokestatic 89, 3) := by decide +kernel
theorem dX4_store_105 : decode cX4_store 105 = .ok (.iload_n 3, 1) := by decide +kernel
theorem dX4_store_106 : decode cX4_store 106 = .ok (.if_icmp .ne 7, 3) := by decide +kernel
theorem dX4_store_109 : decode cX4_store 109 = .ok (.iconst 1, 1) := by decide +kernel
theorem dX4_store_110 : decode cX4_store 110 = .ok (.goto 4, 3) := by decide +kernel
theorem dX4_store_113 : decode cX4_store 113 = .ok (.iconst 0, 1) := by decide +kernel
theorem dX4_store_114 : decode cX4_store 114 = .ok (.istore 4, 2) := by decide +kernel
theorem dX4_store_116 : decode cX4_store 116 = .ok (.iload 4, 2) := by decide +kernel
theorem dX4_store_118 : decode cX4_store 118 = .ok (.ifCond .ne 67, 3) := by decide +kernel
theorem dX4_store_121 : decode cX4_store 121 = .ok (.aload_n 0, 1) := by decide +kernel
theorem dX4_store_122 : decode cX4_store 122 = .ok (.getfield 22, 3) := by decide +kernel
theorem dX4_store_125 : decode cX4_store 125 = .ok (.iload_n 1, 1) := by decide +kernel
theorem dX4_store_126 : decode cX4_store 126 = .ok (.aload_n 0, 1) := by decide +kernel
theorem dX4_store_127 : decode cX4_store 127 = .ok (.getfield 19, 3) := by decide +kernel
theorem dX4_store_130 : decode cX4_store 130 = .ok (.aload_n 0, 1) := by decide +kernel
theorem dX4_store_131 : decode cX4_store 131 = .ok (.getfield 77, 3) := by decide +kernel
theorem dX4_store_134 : decode cX4_store 134 = .ok (.iaload, 1) := by decide +kernel
theorem dX4_store_135 : decode cX4_store 135 = .ok (.iadd, 1) := by decide +kernel
theorem dX4_store_136 : decode cX4_store 136 = .ok (.iload_n 3, 1) := by decide +kernel
theorem dX4_store_137 : decode cX4_store 137 = .ok (.iastore, 1) := by decide +kernel
theorem dX4_store_138 : decode cX4_store 138 = .ok (.aload_n 0, 1) := by decide +kernel
theorem dX4_store_139 : decode cX4_store 139 = .ok (.getfield 25, 3) := by decide +kernel
theorem dX4_store_142 : decode cX4_store 142 = .ok (.iload_n 1, 1) := by decide +kernel
theorem dX4_store_143 : decode cX4_store 143 = .ok (.aload_n 0, 1) := by decide +kernel
theorem dX4_store_144 : decode cX4_store 144 = .ok (.getfield 19, 3) := by decide +kernel
theorem dX4_store_147 : decode cX4_store 147 = .ok (.aload_n 0, 1) := by decide +kernel
theorem dX4_store_148 : decode cX4_store 148 = .ok (.getfield 77, 3) := by decide +kernel
theorem dX4_store_151 : decode cX4_store 151 = .ok (.iaload, 1) := by decide +kernel
theorem dX4_store_152 : decode cX4_store 152 = .ok (.iadd, 1) := by decide +kernel
theorem dX4_store_153 : decode cX4_store 153 = .ok (.iload_n 2, 1) := by decide +kernel
theorem dX4_store_154 : decode cX4_store 154 = .ok (.iastore, 1) := by decide +kernel
theorem dX4_store_155 : decode cX4_store 155 = .ok (.aload_n 0, 1) := by decide +kernel
theorem dX4_store_156 : decode cX4_store 156 = .ok (.getfield 28, 3) := by decide +kernel
theorem dX4_store_159 : decode cX4_store 159 = .ok (.iload_n 1, 1) := by decide +kernel
theorem dX4_store_160 : decode cX4_store 160 = .ok (.aload_n 0, 1) := by decide +kernel
theorem dX4_store_161 : decode cX4_store 161 = .ok (.getfield 19, 3) := by decide +kernel
theorem dX4_store_164 : decode cX4_store 164 = .ok (.aload_n 0, 1) := by decide +kernel
theorem dX4_store_165 : decode cX4_store 165 = .ok (.getfield 77, 3) := by decide +kernel
theorem dX4_store_168 : decode cX4_store 168 = .ok (.iaload, 1) := by decide +kernel
theorem dX4_store_169 : decode cX4_store 169 = .ok (.iadd, 1) := by decide +kernel
theorem dX4_store_170 : decode cX4_store 170 = .ok (.iconst 0, 1) := by decide +kernel
theorem dX4_store_171 : decode cX4_store 171 = .ok (.iastore, 1) := by decide +kernel
theorem dX4_store_172 : decode cX4_store 172 = .ok (.aload_n 0, 1) := by decide +kernel
theorem dX4_store_173 : decode cX4_store 173 = .ok (.getfield 19, 3) := by decide +kernel
theorem dX4_store_176 : decode cX4_store 176 = .ok (.aload_n 0, 1) := by decide +kernel
theorem dX4_store_177 : decode cX4_store 177 = .ok (.getfield 77, 3) := by decide +kernel
theorem dX4_store_180 : decode cX4_store 180 = .ok (.dup2, 1) := by decide +kernel
theorem dX4_store_181 : decode cX4_store 181 = .ok (.iaload, 1) := by decide +kernel
theorem dX4_store_182 : decode cX4_store 182 = .ok (.iconst 1, 1) := by decide +kernel
theorem dX4_store_183 : decode cX4_store 183 = .ok (.iadd, 1) := by decide +kernel
theorem dX4_store_184 : decode cX4_store 184 = .ok (.iastore, 1) := by decide +kernel
theorem dX4_store_185 : decode cX4_store 185 = .ok (.aload_n 0, 1) := by decide +kernel
theorem dX4_store_186 : decode cX4_store 186 = .ok (.getfield 28, 3) := by decide +kernel
theorem dX4_store_189 : decode cX4_store 189 = .ok (.iload_n 1, 1) := by decide +kernel
theorem dX4_store_190 : decode cX4_store 190 = .ok (.aload_n 0, 1) := by decide +kernel
theorem dX4_store_191 : decode cX4_store 191 = .ok (.getfield 19, 3) := by decide +kernel
theorem dX4_store_194 : decode cX4_store 194 = .ok (.aload_n 0, 1) := by decide +kernel
theorem dX4_store_195 : decode cX4_store 195 = .ok (.getfield 77, 3) := by decide +kernel
theorem dX4_store_198 : decode cX4_store 198 = .ok (.iaload, 1) := by decide +kernel
theorem dX4_store_199 : decode cX4_store 199 = .ok (.iadd, 1) := by decide +kernel
theorem dX4_store_200 : decode cX4_store 200 = .ok (.iconst 1, 1) := by decide +kernel
theorem dX4_store_201 : decode cX4_store 201 = .ok (.isub, 1) := by decide +kernel
theorem dX4_store_202 : decode cX4_store 202 = .ok (.dup2, 1) := by decide +kernel
theorem dX4_store_203 : decode cX4_store 203 = .ok (.iaload, 1) := by decide +kernel
theorem dX4_store_204 : decode cX4_store 204 = .ok (.iconst 1, 1) := by decide +kernel
theorem dX4_store_205 : decode cX4_store 205 = .ok (.iadd, 1) := by decide +kernel
theorem dX4_store_206 : decode cX4_store 206 = .ok (.iastore, 1) := by decide +kernel
theorem dX4_store_207 : decode cX4_store 207 = .ok (.iinc 2 1, 3) := by decide +kernel
theorem dX4_store_210 : decode cX4_store 210 = .ok (.goto (-157), 3) := by decide +kernel
theorem dX4_store_213 : decode cX4_store 213 = .ok (.aload_n 0, 1) := by decide +kernel
theorem dX4_store_214 : decode cX4_store 214 = .ok (.iconst 0, 1) := by decide +kernel
theorem dX4_store_215 : decode cX4_store 215 = .ok (.putfield 82, 3) := by decide +kernel
theorem dX4_store_218 : decode cX4_store 218 = .ok (.aload_n 0, 1) := by decide +kernel
theorem dX4_store_219 : decode cX4_store 219 = .ok (.dup, 1) := by decide +kernel
theorem dX4_store_220 : decode cX4_store 220 = .ok (.getfield 77, 3) := by decide +kernel
theorem dX4_store_223 : decode cX4_store 223 = .ok (.iconst 1, 1) := by decide +kernel
theorem dX4_store_224 : decode cX4_store 224 = .ok (.iadd, 1) := by decide +kernel
theorem dX4_store_225 : decode cX4_store 225 = .ok (.putfield 77, 3) := by decide +kernel
theorem dX4_store_228 : decode cX4_store 228 = .ok (.aload_n 0, 1) := by decide +kernel
theorem dX4_store_229 : decode cX4_store 229 = .ok (.iconst 0, 1) := by decide +kernel
theorem dX4_store_230 : decode cX4_store 230 = .ok (.putfield 92, 3) := by decide +kernel
theorem dX4_store_233 : decode cX4_store 233 = .ok (.aload_n 0, 1) := by decide +kernel
theorem dX4_store_234 : decode cX4_store 234 = .ok (.getfield 77, 3) := by decide +kernel
theorem dX4_store_237 : decode cX4_store 237 = .ok (.iconst 1, 1) := by decide +kernel
theorem dX4_store_238 : decode cX4_store 238 = .ok (.isub, 1) := by decide +kernel
theorem dX4_store_239 : decode cX4_store 239 = .ok (.ireturn, 1) := by decide +kernel
theorem dX4_lineCount_0 : decode cX4_lineCount 0 = .ok (.aload_n 0, 1) := by decide +kernel
theorem dX4_lineCount_1 : decode cX4_lineCount 1 = .ok (.iconst 0, 1) := by decide +kernel
theorem dX4_lineCount_2 : decode cX4_lineCount 2 = .ok (.putfield 74, 3) := by decide +kernel
theorem dX4_lineCount_5 : decode cX4_lineCount 5 = .ok (.aload_n 0, 1) := by decide +kernel
theorem dX4_lineCount_6 : decode cX4_lineCount 6 = .ok (.getfield 77, 3) := by decide +kernel
theorem dX4_lineCount_9 : decode cX4_lineCount 9 = .ok (.ireturn, 1) := by decide +kernel
theorem dX4_tokenCount_0 : decode cX4_tokenCount 0 = .ok (.aload_n 0, 1) := by decide +kernel
theorem dX4_tokenCount_1 : decode cX4_tokenCount 1 = .ok (.iconst 0, 1) := by decide +kernel
theorem dX4_tokenCount_2 : decode cX4_tokenCount 2 = .ok (.putfield 74, 3) := by decide +kernel
theorem dX4_tokenCount_5 : decode cX4_tokenCount 5 = .ok (.aload_n 0, 1) := by decide +kernel
theorem dX4_tokenCount_6 : decode cX4_tokenCount 6 = .ok (.iload_n 1, 1) := by decide +kernel
theorem dX4_tokenCount_7 : decode cX4_tokenCount 7 = .ok (.invokevirtual 96, 3) := by decide +kernel
theorem dX4_tokenCount_10 : decode cX4_tokenCount 10 = .ok (.ifCond .eq 12, 3) := by decide +kernel
theorem dX4_tokenCount_13 : decode cX4_tokenCount 13 = .ok (.aload_n 0, 1) := by decide +kernel
theorem dX4_tokenCount_14 : decode cX4_tokenCount 14 = .ok (.getfield 19, 3) := by decide +kernel
theorem dX4_tokenCount_17 : decode cX4_tokenCount 17 = .ok (.iload_n 1, 1) := by decide +kernel
theorem dX4_tokenCount_18 : decode cX4_tokenCount 18 = .ok (.iaload, 1) := by decide +kernel
theorem dX4_tokenCount_19 : decode cX4_tokenCount 19 = .ok (.goto 8, 3) := by decide +kernel
theorem dX4_tokenCount_22 : decode cX4_tokenCount 22 = .ok (.aload_n 0, 1) := by decide +kernel
theorem dX4_tokenCount_23 : decode cX4_tokenCount 23 = .ok (.iconst 1, 1) := by decide +kernel
theorem dX4_tokenCount_24 : decode cX4_tokenCount 24 = .ok (.invokevirtual 85, 3) := by decide +kernel
theorem dX4_tokenCount_27 : decode cX4_tokenCount 27 = .ok (.ireturn, 1) := by decide +kernel
theorem dX4_isToken_0 : decode cX4_isToken 0 = .ok (.aload_n 0, 1) := by decide +kernel
theorem dX4_isToken_1 : decode cX4_isToken 1 = .ok (.iload_n 1, 1) := by decide +kernel
theorem dX4_isToken_2 : decode cX4_isToken 2 = .ok (.invokevirtual 96, 3) := by decide +kernel
theorem dX4_isToken_5 : decode cX4_isToken 5 = .ok (.ifCond .eq 21, 3) := by decide +kernel
theorem dX4_isToken_8 : decode cX4_isToken 8 = .ok (.iload_n 2, 1) := by decide +kernel
theorem dX4_isToken_9 : decode cX4_isToken 9 = .ok (.ifCond .lt 17, 3) := by decide +kernel
theorem dX4_isToken_12 : decode cX4_isToken 12 = .ok (.iload_n 2, 1) := by decide +kernel
theorem dX4_isToken_13 : decode cX4_isToken 13 = .ok (.aload_n 0, 1) := by decide +kernel
theorem dX4_isToken_14 : decode cX4_isToken 14 = .ok (.getfield 19, 3) := by decide +kernel
theorem dX4_isToken_17 : decode cX4_isToken 17 = .ok (.iload_n 1, 1) := by decide +kernel
theorem dX4_isToken_18 : decode cX4_isToken 18 = .ok (.iaload, 1) := by decide +kernel
theorem dX4_isToken_19 : decode cX4_isToken 19 = .ok (.if_icmp .ge 7, 3) := by decide +kernel
theorem dX4_isToken_22 : decode cX4_isToken 22 = .ok (.iconst 1, 1) := by decide +kernel
theorem dX4_isToken_23 : decode cX4_isToken 23 = .ok (.goto 4, 3) := by decide +kernel
theorem dX4_isToken_26 : decode cX4_isToken 26 = .ok (.iconst 0, 1) := by decide +kernel
theorem dX4_isToken_27 : decode cX4_isToken 27 = .ok (.ireturn, 1) := by decide +kernel
theorem dX4_tokenKind_0 : decode cX4_tokenKind 0 = .ok (.aload_n 0, 1) := by decide +kernel
theorem dX4_tokenKind_1 : decode cX4_tokenKind 1 = .ok (.iconst 0, 1) := by decide +kernel
theorem dX4_tokenKind_2 : decode cX4_tokenKind 2 = .ok (.putfield 74, 3) := by decide +kernel
theorem dX4_tokenKind_5 : decode cX4_tokenKind 5 = .ok (.aload_n 0, 1) := by decide +kernel
theorem dX4_tokenKind_6 : decode cX4_tokenKind 6 = .ok (.iload_n 1, 1) := by decide +kernel
theorem dX4_tokenKind_7 : decode cX4_tokenKind 7 = .ok (.iload_n 2, 1) := by decide +kernel
theorem dX4_tokenKind_8 : decode cX4_tokenKind 8 = .ok (.invokevirtual 100, 3) := by decide +kernel
theorem dX4_tokenKind_11 : decode cX4_tokenKind 11 = .ok (.ifCond .eq 17, 3) := by decide +kernel
theorem dX4_tokenKind_14 : decode cX4_tokenKind 14 = .ok (.aload_n 0, 1) := by decide +kernel
theorem dX4_tokenKind_15 : decode cX4_tokenKind 15 = .ok (.getfield 22, 3) := by decide +kernel
theorem dX4_tokenKind_18 : decode cX4_tokenKind 18 = .ok (.bipush 30, 2) := by decide +kernel
theorem dX4_tokenKind_20 : decode cX4_tokenKind 20 = .ok (.iload_n 1, 1) := by decide +kernel
theorem dX4_tokenKind_21 : decode cX4_tokenKind 21 = .ok (.imul, 1) := by decide +kernel
theorem dX4_tokenKind_22 : decode cX4_tokenKind 22 = .ok (.iload_n 2, 1) := by decide +kernel
theorem dX4_tokenKind_23 : decode cX4_tokenKind 23 = .ok (.iadd, 1) := by decide +kernel
theorem dX4_tokenKind_24 : decode cX4_tokenKind 24 = .ok (.iaload, 1) := by decide +kernel
theorem dX4_tokenKind_25 : decode cX4_tokenKind 25 = .ok (.goto 8, 3) := by decide +kernel
theorem dX4_tokenKind_28 : decode cX4_tokenKind 28 = .ok (.aload_n 0, 1) := by decide +kernel
theorem dX4_tokenKind_29 : decode cX4_tokenKind 29 = .ok (.iconst 1, 1) := by decide +kernel
theorem dX4_tokenKind_30 : decode cX4_tokenKind 30 = .ok (.invokevirtual 85, 3) := by decide +kernel
theorem dX4_tokenKind_33 : decode cX4_tokenKind 33 = .ok (.ireturn, 1) := by decide +kernel
theorem dX4_tokenStart_0 : decode cX4_tokenStart 0 = .ok (.aload_n 0, 1) := by decide +kernel
theorem dX4_tokenStart_1 : decode cX4_tokenStart 1 = .ok (.iconst 0, 1) := by decide +kernel
theorem dX4_tokenStart_2 : decode cX4_tokenStart 2 = .ok (.putfield 74, 3) := by decide +kernel
theorem dX4_tokenStart_5 : decode cX4_tokenStart 5 = .ok (.aload_n 0, 1) := by decide +kernel
theorem dX4_tokenStart_6 : decode cX4_tokenStart 6 = .ok (.iload_n 1, 1) := by decide +kernel
theorem dX4_tokenStart_7 : decode cX4_tokenStart 7 = .ok (.iload_n 2, 1) := by decide +kernel
theorem dX4_tokenStart_8 : decode cX4_tokenStart 8 = .ok (.invokevirtual 100, 3) := by decide +kernel
theorem dX4_tokenStart_11 : decode cX4_tokenStart 11 = .ok (.ifCond .eq 17, 3) := by decide +kernel
theorem dX4_tokenStart_14 : decode cX4_tokenStart 14 = .ok (.aload_n 0, 1) := by decide +kernel
theorem dX4_tokenStart_15 : decode cX4_tokenStart 15 = .ok (.getfield 25, 3) := by decide +kernel
theorem dX4_tokenStart_18 : decode cX4_tokenStart 18 = .ok (.bipush 30, 2) := by decide +kernel
theorem dX4_tokenStart_20 : decode cX4_tokenStart 20 = .ok (.iload_n 1, 1) := by decide +kernel
theorem dX4_tokenStart_21 : decode cX4_tokenStart 21 = .ok (.imul, 1) := by decide +kernel
theorem dX4_tokenStart_22 : decode cX4_tokenStart 22 = .ok (.iload_n 2, 1) := by decide +kernel
theorem dX4_tokenStart_23 : decode cX4_tokenStart 23 = .ok (.iadd, 1) := by decide +kernel
theorem dX4_tokenStart_24 : decode cX4_tokenStart 24 = .ok (.iaload, 1) := by decide +kernel
theorem dX4_tokenStart_25 : decode cX4_tokenStart 25 = .ok (.goto 8, 3) := by decide +kernel
theorem dX4_tokenStart_28 : decode cX4_tokenStart 28 = .ok (.aload_n 0, 1) := by decide +kernel
theorem dX4_tokenStart_29 : decode cX4_tokenStart 29 = .ok (.iconst 1, 1) := by decide +kernel
theorem dX4_tokenStart_30 : decode cX4_tokenStart 30 = .ok (.invokevirtual 85, 3) := by decide +kernel
theorem dX4_tokenStart_33 : decode cX4_tokenStart 33 = .ok (.ireturn, 1) := by decide +kernel
theorem dX4_areSame_0 : decode cX4_areSame 0 = .ok (.aload_n 0, 1) := by decide +kernel
theorem dX4_areSame_1 : decode cX4_areSame 1 = .ok (.getfield 28, 3) := by decide +kernel
theorem dX4_areSame_4 : decode cX4_areSame 4 = .ok (.iload_n 1, 1) := by decide +kernel
theorem dX4_areSame_5 : decode cX4_areSame 5 = .ok (.iaload, 1) := by decide +kernel
theorem dX4_areSame_6 : decode cX4_areSame 6 = .ok (.aload_n 0, 1) := by decide +kernel
theorem dX4_areSame_7 : decode cX4_areSame 7 = .ok (.getfield 28, 3) := by decide +kernel
theorem dX4_areSame_10 : decode cX4_areSame 10 = .ok (.iload_n 2, 1) := by decide +kernel
theorem dX4_areSame_11 : decode cX4_areSame 11 = .ok (.iaload, 1) := by decide +kernel
theorem dX4_areSame_12 : decode cX4_areSame 12 = .ok (.if_icmp .eq 5, 3) := by decide +kernel
theorem dX4_areSame_15 : decode cX4_areSame 15 = .ok (.iconst 0, 1) := by decide +kernel
theorem dX4_areSame_16 : decode cX4_areSame 16 = .ok (.ireturn, 1) := by decide +kernel
theorem dX4_areSame_17 : decode cX4_areSame 17 = .ok (.iload_n 1, 1) := by decide +kernel
theorem dX4_areSame_18 : decode cX4_areSame 18 = .ok (.bipush 30, 2) := by decide +kernel
theorem dX4_areSame_20 : decode cX4_areSame 20 = .ok (.idiv, 1) := by decide +kernel
theorem dX4_areSame_21 : decode cX4_areSame 21 = .ok (.bipush 30, 2) := by decide +kernel
theorem dX4_areSame_23 : decode cX4_areSame 23 = .ok (.imul, 1) := by decide +kernel
theorem dX4_areSame_24 : decode cX4_areSame 24 = .ok (.aload_n 0, 1) := by decide +kernel
theorem dX4_areSame_25 : decode cX4_areSame 25 = .ok (.getfield 25, 3) := by decide +kernel
theorem dX4_areSame_28 : decode cX4_areSame 28 = .ok (.iload_n 1, 1) := by decide +kernel
theorem dX4_areSame_29 : decode cX4_areSame 29 = .ok (.iaload, 1) := by decide +kernel
theorem dX4_areSame_30 : decode cX4_areSame 30 = .ok (.iadd, 1) := by decide +kernel
theorem dX4_areSame_31 : decode cX4_areSame 31 = .ok (.istore_n 3, 1) := by decide +kernel
theorem dX4_areSame_32 : decode cX4_areSame 32 = .ok (.iload_n 2, 1) := by decide +kernel
theorem dX4_areSame_33 : decode cX4_areSame 33 = .ok (.bipush 30, 2) := by decide +kernel
theorem dX4_areSame_35 : decode cX4_areSame 35 = .ok (.idiv, 1) := by decide +kernel
theorem dX4_areSame_36 : decode cX4_areSame 36 = .ok (.bipush 30, 2) := by decide +kernel
theorem dX4_areSame_38 : decode cX4_areSame 38 = .ok (.imul, 1) := by decide +kernel
theorem dX4_areSame_39 : decode cX4_areSame 39 = .ok (.aload_n 0, 1) := by decide +kernel
theorem dX4_areSame_40 : decode cX4_areSame 40 = .ok (.getfield 25, 3) := by decide +kernel
theorem dX4_areSame_43 : decode cX4_areSame 43 = .ok (.iload_n 2, 1) := by decide +kernel
theorem dX4_areSame_44 : decode cX4_areSame 44 = .ok (.iaload, 1) := by decide +kernel
theorem dX4_areSame_45 : decode cX4_areSame 45 = .ok (.iadd, 1) := by decide +kernel
theorem dX4_areSame_46 : decode cX4_areSame 46 = .ok (.istore 4, 2) := by decide +kernel
theorem dX4_areSame_48 : decode cX4_areSame 48 = .ok (.iconst 0, 1) := by decide +kernel
theorem dX4_areSame_49 : decode cX4_areSame 49 = .ok (.istore 5, 2) := by decide +kernel
theorem dX4_areSame_51 : decode cX4_areSame 51 = .ok (.iload 5, 2) := by decide +kernel
theorem dX4_areSame_53 : decode cX4_areSame 53 = .ok (.aload_n 0, 1) := by decide +kernel
theorem dX4_areSame_54 : decode cX4_areSame 54 = .ok (.getfield 28, 3) := by decide +kernel
theorem dX4_areSame_57 : decode cX4_areSame 57 = .ok (.iload_n 1, 1) := by decide +kernel
theorem dX4_areSame_58 : decode cX4_areSame 58 = .ok (.iaload, 1) := by decide +kernel
theorem dX4_areSame_59 : decode cX4_areSame 59 = .ok (.if_icmp .ge 33, 3) := by decide +kernel
theorem dX4_areSame_62 : decode cX4_areSame 62 = .ok (.aload_n 0, 1) := by decide +kernel
theorem dX4_areSame_63 : decode cX4_areSame 63 = .ok (.getfield 16, 3) := by decide +kernel
theorem dX4_areSame_66 : decode cX4_areSame 66 = .ok (.iload_n 3, 1) := by decide +kernel
theorem dX4_areSame_67 : decode cX4_areSame 67 = .ok (.iload 5, 2) := by decide +kernel
theorem dX4_areSame_69 : decode cX4_areSame 69 = .ok (.iadd, 1) := by decide +kernel
theorem dX4_areSame_70 : decode cX4_areSame 70 = .ok (.iaload, 1) := by decide +kernel
theorem dX4_areSame_71 : decode cX4_areSame 71 = .ok (.aload_n 0, 1) := by decide +kernel
theorem dX4_areSame_72 : decode cX4_areSame 72 = .ok (.getfield 16, 3) := by decide +kernel
theorem dX4_areSame_75 : decode cX4_areSame 75 = .ok (.iload 4, 2) := by decide +kernel
theorem dX4_areSame_77 : decode cX4_areSame 77 = .ok (.iload 5, 2) := by decide +kernel
theorem dX4_areSame_79 : decode cX4_areSame 79 = .ok (.iadd, 1) := by decide +kernel
theorem dX4_areSame_80 : decode cX4_areSame 80 = .ok (.iaload, 1) := by decide +kernel
theorem dX4_areSame_81 : decode cX4_areSame 81 = .ok (.if_icmp .eq 5, 3) := by decide +kernel
theorem dX4_areSame_84 : decode cX4_areSame 84 = .ok (.iconst 0, 1) := by decide +kernel
theorem dX4_areSame_85 : decode cX4_areSame 85 = .ok (.ireturn, 1) := by decide +kernel
theorem dX4_areSame_86 : decode cX4_areSame 86 = .ok (.iinc 5 1, 3) := by decide +kernel
theorem dX4_areSame_89 : decode cX4_areSame 89 = .ok (.goto (-38), 3) := by decide +kernel
theorem dX4_areSame_92 : decode cX4_areSame 92 = .ok (.iconst 1, 1) := by decide +kernel
theorem dX4_areSame_93 : decode cX4_areSame 93 = .ok (.ireturn, 1) := by decide +kernel
theorem dX4_sameAtFront_0 : decode cX4_sameAtFront 0 = .ok (.aload_n 0, 1) := by decide +kernel
theorem dX4_sameAtFront_1 : decode cX4_sameAtFront 1 = .ok (.iconst 0, 1) := by decide +kernel
theorem dX4_sameAtFront_2 : decode cX4_sameAtFront 2 = .ok (.putfield 74, 3) := by decide +kernel
theorem dX4_sameAtFront_5 : decode cX4_sameAtFront 5 = .ok (.aload_n 0, 1) := by decide +kernel
theorem dX4_sameAtFront_6 : decode cX4_sameAtFront 6 = .ok (.iload_n 1, 1) := by decide +kernel
theorem dX4_sameAtFront_7 : decode cX4_sameAtFront 7 = .ok (.invokevirtual 96, 3) := by decide +kernel
theorem dX4_sameAtFront_10 : decode cX4_sameAtFront 10 = .ok (.ifCond .eq 11, 3) := by decide +kernel
theorem dX4_sameAtFront_13 : decode cX4_sameAtFront 13 = .ok (.aload_n 0, 1) := by decide +kernel
theorem dX4_sameAtFront_14 : decode cX4_sameAtFront 14 = .ok (.iload_n 2, 1) := by decide +kernel
theorem dX4_sameAtFront_15 : decode cX4_sameAtFront 15 = .ok (.invokevirtual 96, 3) := by decide +kernel
theorem dX4_sameAtFront_18 : decode cX4_sameAtFront 18 = .ok (.ifCond .ne 9, 3) := by decide +kernel
theorem dX4_sameAtFront_21 : decode cX4_sameAtFront 21 = .ok (.aload_n 0, 1) := by decide +kernel
theorem dX4_sameAtFront_22 : decode cX4_sameAtFront 22 = .ok (.iconst 1, 1) := by decide +kernel
theorem dX4_sameAtFront_23 : decode cX4_sameAtFront 23 = .ok (.invokevirtual 85, 3) := by decide +kernel
theorem dX4_sameAtFront_26 : decode cX4_sameAtFront 26 = .ok (.ireturn, 1) := by decide +kernel
theorem dX4_sameAtFront_27 : decode cX4_sameAtFront 27 = .ok (.iconst 0, 1) := by decide +kernel
theorem dX4_sameAtFront_28 : decode cX4_sameAtFront 28 = .ok (.istore_n 3, 1) := by decide +kernel
theorem dX4_sameAtFront_29 : decode cX4_sameAtFront 29 = .ok (.iload_n 3, 1) := by decide +kernel
theorem dX4_sameAtFront_30 : decode cX4_sameAtFront 30 = .ok (.aload_n 0, 1) := by decide +kernel
theorem dX4_sameAtFront_31 : decode cX4_sameAtFront 31 = .ok (.getfield 19, 3) := by decide +kernel
theorem dX4_sameAtFront_34 : decode cX4_sameAtFront 34 = .ok (.iload_n 1, 1) := by decide +kernel
theorem dX4_sameAtFront_35 : decode cX4_sameAtFront 35 = .ok (.iaload, 1) := by decide +kernel
theorem dX4_sameAtFront_36 : decode cX4_sameAtFront 36 = .ok (.if_icmp .ge 38, 3) := by decide +kernel
theorem dX4_sameAtFront_39 : decode cX4_sameAtFront 39 = .ok (.iload_n 3, 1) := by decide +kernel
theorem dX4_sameAtFront_40 : decode cX4_sameAtFront 40 = .ok (.aload_n 0, 1) := by decide +kernel
theorem dX4_sameAtFront_41 : decode cX4_sameAtFront 41 = .ok (.getfield 19, 3) := by decide +kernel
theorem dX4_sameAtFront_44 : decode cX4_sameAtFront 44 = .ok (.iload_n 2, 1) := by decide +kernel
theorem dX4_sameAtFront_45 : decode cX4_sameAtFront 45 = .ok (.iaload, 1) := by decide +kernel
theorem dX4_sameAtFront_46 : decode cX4_sameAtFront 46 = .ok (.if_icmp .ge 28, 3) := by decide +kernel
theorem dX4_sameAtFront_49 : decode cX4_sameAtFront 49 = .ok (.aload_n 0, 1) := by decide +kernel
theorem dX4_sameAtFront_50 : decode cX4_sameAtFront 50 = .ok (.bipush 30, 2) := by decide +kernel
theorem dX4_sameAtFront_52 : decode cX4_sameAtFront 52 = .ok (.iload_n 1, 1) := by decide +kernel
theorem dX4_sameAtFront_53 : decode cX4_sameAtFront 53 = .ok (.imul, 1) := by decide +kernel
theorem dX4_sameAtFront_54 : decode cX4_sameAtFront 54 = .ok (.iload_n 3, 1) := by decide +kernel
theorem dX4_sameAtFront_55 : decode cX4_sameAtFront 55 = .ok (.iadd, 1) := by decide +kernel
theorem dX4_sameAtFront_56 : decode cX4_sameAtFront 56 = .ok (.bipush 30, 2) := by decide +kernel
theorem dX4_sameAtFront_58 : decode cX4_sameAtFront 58 = .ok (.iload_n 2, 1) := by decide +kernel
theorem dX4_sameAtFront_59 : decode cX4_sameAtFront 59 = .ok (.imul, 1) := by decide +kernel
theorem dX4_sameAtFront_60 : decode cX4_sameAtFront 60 = .ok (.iload_n 3, 1) := by decide +kernel
theorem dX4_sameAtFront_61 : decode cX4_sameAtFront 61 = .ok (.iadd, 1) := by decide +kernel
theorem dX4_sameAtFront_62 : decode cX4_sameAtFront 62 = .ok (.invokevirtual 104, 3) := by decide +kernel
theorem dX4_sameAtFront_65 : decode cX4_sameAtFront 65 = .ok (.ifCond .eq 9, 3) := by decide +kernel
theorem dX4_sameAtFront_68 : decode cX4_sameAtFront 68 = .ok (.iinc 3 1, 3) := by decide +kernel
theorem dX4_sameAtFront_71 : decode cX4_sameAtFront 71 = .ok (.goto (-42), 3) := by decide +kernel
theorem dX4_sameAtFront_74 : decode cX4_sameAtFront 74 = .ok (.iload_n 3, 1) := by decide +kernel
theorem dX4_sameAtFront_75 : decode cX4_sameAtFront 75 = .ok (.ireturn, 1) := by decide +kernel
theorem dX4_at_0 : decode cX4_at 0 = .ok (.bipush 40, 2) := by decide +kernel
theorem dX4_at_2 : decode cX4_at 2 = .ok (.iload_n 0, 1) := by decide +kernel
theorem dX4_at_3 : decode cX4_at 3 = .ok (.imul, 1) := by decide +kernel
theorem dX4_at_4 : decode cX4_at 4 = .ok (.iload_n 1, 1) := by decide +kernel
theorem dX4_at_5 : decode cX4_at 5 = .ok (.iadd, 1) := by decide +kernel
theorem dX4_at_6 : decode cX4_at 6 = .ok (.ireturn, 1) := by decide +kernel
theorem dX4_tokenOf_0 : decode cX4_tokenOf 0 = .ok (.aload_n 0, 1) := by decide +kernel
theorem dX4_tokenOf_1 : decode cX4_tokenOf 1 = .ok (.getfield 53, 3) := by decide +kernel
theorem dX4_tokenOf_4 : decode cX4_tokenOf 4 = .ok (.bipush 12, 2) := by decide +kernel
theorem dX4_tokenOf_6 : decode cX4_tokenOf 6 = .ok (.iload_n 1, 1) := by decide +kernel
theorem dX4_tokenOf_7 : decode cX4_tokenOf 7 = .ok (.iload_n 2, 1) := by decide +kernel
theorem dX4_tokenOf_8 : decode cX4_tokenOf 8 = .ok (.invokestatic 107, 3) := by decide +kernel
theorem dX4_tokenOf_11 : decode cX4_tokenOf 11 = .ok (.imul, 1) := by decide +kernel
theorem dX4_tokenOf_12 : decode cX4_tokenOf 12 = .ok (.iload_n 3, 1) := by decide +kernel
theorem dX4_tokenOf_13 : decode cX4_tokenOf 13 = .ok (.iadd, 1) := by decide +kernel
theorem dX4_tokenOf_14 : decode cX4_tokenOf 14 = .ok (.iaload, 1) := by decide +kernel
theorem dX4_tokenOf_15 : decode cX4_tokenOf 15 = .ok (.ireturn, 1) := by decide +kernel
theorem dX4_usesOf_0 : decode cX4_usesOf 0 = .ok (.iconst 0, 1) := by decide +kernel
theorem dX4_usesOf_1 : decode cX4_usesOf 1 = .ok (.istore_n 3, 1) := by decide +kernel
theorem dX4_usesOf_2 : decode cX4_usesOf 2 = .ok (.iconst 0, 1) := by decide +kernel
theorem dX4_usesOf_3 : decode cX4_usesOf 3 = .ok (.istore 4, 2) := by decide +kernel
theorem dX4_usesOf_5 : decode cX4_usesOf 5 = .ok (.iload 4, 2) := by decide +kernel
theorem dX4_usesOf_7 : decode cX4_usesOf 7 = .ok (.aload_n 0, 1) := by decide +kernel
theorem dX4_usesOf_8 : decode cX4_usesOf 8 = .ok (.getfield 77, 3) := by decide +kernel
theorem dX4_usesOf_11 : decode cX4_usesOf 11 = .ok (.if_icmp .ge 29, 3) := by decide +kernel
theorem dX4_usesOf_14 : decode cX4_usesOf 14 = .ok (.iload_n 3, 1) := by decide +kernel
theorem dX4_usesOf_15 : decode cX4_usesOf 15 = .ok (.aload_n 0, 1) := by decide +kernel
theorem dX4_usesOf_16 : decode cX4_usesOf 16 = .ok (.iload_n 1, 1) := by decide +kernel
theorem dX4_usesOf_17 : decode cX4_usesOf 17 = .ok (.iload_n 2, 1) := by decide +kernel
theorem dX4_usesOf_18 : decode cX4_usesOf 18 = .ok (.iload 4, 2) := by decide +kernel
theorem dX4_usesOf_20 : decode cX4_usesOf 20 = .ok (.invokevirtual 111, 3) := by decide +kernel
theorem dX4_usesOf_23 : decode cX4_usesOf 23 = .ok (.iconst (-1), 1) := by decide +kernel
theorem dX4_usesOf_24 : decode cX4_usesOf 24 = .ok (.if_icmp .ne 7, 3) := by decide +kernel
theorem dX4_usesOf_27 : decode cX4_usesOf 27 = .ok (.iconst 0, 1) := by decide +kernel
theorem dX4_usesOf_28 : decode cX4_usesOf 28 = .ok (.goto 4, 3) := by decide +kernel
theorem dX4_usesOf_31 : decode cX4_usesOf 31 = .ok (.iconst 1, 1) := by decide +kernel
theorem dX4_usesOf_32 : decode cX4_usesOf 32 = .ok (.iadd, 1) := by decide +kernel
theorem dX4_usesOf_33 : decode cX4_usesOf 33 = .ok (.istore_n 3, 1) := by decide +kernel
theorem dX4_usesOf_34 : decode cX4_usesOf 34 = .ok (.iinc 4 1, 3) := by decide +kernel
theorem dX4_usesOf_37 : decode cX4_usesOf 37 = .ok (.goto (-32), 3) := by decide +kernel
theorem dX4_usesOf_40 : decode cX4_usesOf 40 = .ok (.iload_n 3, 1) := by decide +kernel
theorem dX4_usesOf_41 : decode cX4_usesOf 41 = .ok (.ireturn, 1) := by decide +kernel
theorem dX4_isFree_0 : decode cX4_isFree 0 = .ok (.aload_n 0, 1) := by decide +kernel
theorem dX4_isFree_1 : decode cX4_isFree 1 = .ok (.iload_n 1, 1) := by decide +kernel
theorem dX4_isFree_2 : decode cX4_isFree 2 = .ok (.iload_n 2, 1) := by decide +kernel
theorem dX4_isFree_3 : decode cX4_isFree 3 = .ok (.invokevirtual 115, 3) := by decide +kernel
theorem dX4_isFree_6 : decode cX4_isFree 6 = .ok (.aload_n 0, 1) := by decide +kernel
theorem dX4_isFree_7 : decode cX4_isFree 7 = .ok (.getfield 44, 3) := by decide +kernel
theorem dX4_isFree_10 : decode cX4_isFree 10 = .ok (.iload_n 1, 1) := by decide +kernel
theorem dX4_isFree_11 : decode cX4_isFree 11 = .ok (.iaload, 1) := by decide +kernel
theorem dX4_isFree_12 : decode cX4_isFree 12 = .ok (.invokestatic 118, 3) := by decide +kernel
theorem dX4_isFree_15 : decode cX4_isFree 15 = .ok (.if_icmp .ge 7, 3) := by decide +kernel
theorem dX4_isFree_18 : decode cX4_isFree 18 = .ok (.iconst 1, 1) := by decide +kernel
theorem dX4_isFree_19 : decode cX4_isFree 19 = .ok (.goto 4, 3) := by decide +kernel
theorem dX4_isFree_22 : decode cX4_isFree 22 = .ok (.iconst 0, 1) := by decide +kernel
theorem dX4_isFree_23 : decode cX4_isFree 23 = .ok (.ireturn, 1) := by decide +kernel
theorem dX4_cell_0 : decode cX4_cell 0 = .ok (.bipush 31, 2) := by decide +kernel
theorem dX4_cell_2 : decode cX4_cell 2 = .ok (.iload_n 0, 1) := by decide +kernel
theorem dX4_cell_3 : decode cX4_cell 3 = .ok (.imul, 1) := by decide +kernel
theorem dX4_cell_4 : decode cX4_cell 4 = .ok (.iload_n 1, 1) := by decide +kernel
theorem dX4_cell_5 : decode cX4_cell 5 = .ok (.iadd, 1) := by decide +kernel
theorem dX4_cell_6 : decode cX4_cell 6 = .ok (.ireturn, 1) := by decide +kernel
theorem dX4_costOf_0 : decode cX4_costOf 0 = .ok (.iload_n 1, 1) := by decide +kernel
theorem dX4_costOf_1 : decode cX4_costOf 1 = .ok (.ifCond .ne 112, 3) := by decide +kernel
theorem dX4_costOf_4 : decode cX4_costOf 4 = .ok (.iload 4, 2) := by decide +kernel
theorem dX4_costOf_6 : decode cX4_costOf 6 = .ok (.ifCond .eq 8, 3) := by decide +kernel
theorem dX4_costOf_9 : decode cX4_costOf 9 = .ok (.iload 5, 2) := by decide +kernel
theorem dX4_costOf_11 : decode cX4_costOf 11 = .ok (.ifCond .ne 5, 3) := by decide +kernel
theorem dX4_costOf_14 : decode cX4_costOf 14 = .ok (.iconst (-1), 1) := by decide +kernel
theorem dX4_costOf_15 : decode cX4_costOf 15 = .ok (.ireturn, 1) := by decide +kernel
theorem dX4_costOf_16 : decode cX4_costOf 16 = .ok (.iload_n 2, 1) := by decide +kernel
theorem dX4_costOf_17 : decode cX4_costOf 17 = .ok (.iload 4, 2) := by decide +kernel
theorem dX4_costOf_19 : decode cX4_costOf 19 = .ok (.iconst 1, 1) := by decide +kernel
theorem dX4_costOf_20 : decode cX4_costOf 20 = .ok (.isub, 1) := by decide +kernel
theorem dX4_costOf_21 : decode cX4_costOf 21 = .ok (.invokestatic 107, 3) := by decide +kernel
theorem dX4_costOf_24 : decode cX4_costOf 24 = .ok (.istore 6, 2) := by decide +kernel
theorem dX4_costOf_26 : decode cX4_costOf 26 = .ok (.bipush 30, 2) := by decide +kernel
theorem dX4_costOf_28 : decode cX4_costOf 28 = .ok (.iload_n 3, 1) := by decide +kernel
theorem dX4_costOf_29 : decode cX4_costOf 29 = .ok (.imul, 1) := by decide +kernel
theorem dX4_costOf_30 : decode cX4_costOf 30 = .ok (.iload 5, 2) := by decide +kernel
theorem dX4_costOf_32 : decode cX4_costOf 32 = .ok (.iadd, 1) := by decide +kernel
theorem dX4_costOf_33 : decode cX4_costOf 33 = .ok (.iconst 1, 1) := by decide +kernel
theorem dX4_costOf_34 : decode cX4_costOf 34 = .ok (.isub, 1) := by decide +kernel
theorem dX4_costOf_35 : decode cX4_costOf 35 = .ok (.istore 7, 2) := by decide +kernel
theorem dX4_costOf_37 : decode cX4_costOf 37 = .ok (.aload_n 0, 1) := by decide +kernel
theorem dX4_costOf_38 : decode cX4_costOf 38 = .ok (.getfield 47, 3) := by decide +kernel
theorem dX4_costOf_41 : decode cX4_costOf 41 = .ok (.iload 6, 2) := by decide +kernel
theorem dX4_costOf_43 : decode cX4_costOf 43 = .ok (.iaload, 1) := by decide +kernel
theorem dX4_costOf_44 : decode cX4_costOf 44 = .ok (.aload_n 0, 1) := by decide +kernel
theorem dX4_costOf_45 : decode cX4_costOf 45 = .ok (.getfield 22, 3) := by decide +kernel
theorem dX4_costOf_48 : decode cX4_costOf 48 = .ok (.iload 7, 2) := by decide +kernel
theorem dX4_costOf_50 : decode cX4_costOf 50 = .ok (.iaload, 1) := by decide +kernel
theorem dX4_costOf_51 : decode cX4_costOf 51 = .ok (.if_icmp .eq 5, 3) := by decide +kernel
theorem dX4_costOf_54 : decode cX4_costOf 54 = .ok (.iconst (-1), 1) := by decide +kernel
theorem dX4_costOf_55 : decode cX4_costOf 55 = .ok (.ireturn, 1) := by decide +kernel
theorem dX4_costOf_56 : decode cX4_costOf 56 = .ok (.aload_n 0, 1) := by decide +kernel
theorem dX4_costOf_57 : decode cX4_costOf 57 = .ok (.getfield 59, 3) := by decide +kernel
theorem dX4_costOf_60 : decode cX4_costOf 60 = .ok (.iload 4, 2) := by decide +kernel
theorem dX4_costOf_62 : decode cX4_costOf 62 = .ok (.iconst 1, 1) := by decide +kernel
theorem dX4_costOf_63 : decode cX4_costOf 63 = .ok (.isub, 1) := by decide +kernel
theorem dX4_costOf_64 : decode cX4_costOf 64 = .ok (.iload 5, 2) := by decide +kernel
theorem dX4_costOf_66 : decode cX4_costOf 66 = .ok (.iconst 1, 1) := by decide +kernel
theorem dX4_costOf_67 : decode cX4_costOf 67 = .ok (.isub, 1) := by decide +kernel
theorem dX4_costOf_68 : decode cX4_costOf 68 = .ok (.invokestatic 123, 3) := by decide +kernel
theorem dX4_costOf_71 : decode cX4_costOf 71 = .ok (.iaload, 1) := by decide +kernel
theorem dX4_costOf_72 : decode cX4_costOf 72 = .ok (.aload_n 0, 1) := by decide +kernel
theorem dX4_costOf_73 : decode cX4_costOf 73 = .ok (.getfield 50, 3) := by decide +kernel
theorem dX4_costOf_76 : decode cX4_costOf 76 = .ok (.iload 6, 2) := by decide +kernel
theorem dX4_costOf_78 : decode cX4_costOf 78 = .ok (.iaload, 1) := by decide +kernel
theorem dX4_costOf_79 : decode cX4_costOf 79 = .ok (.iconst (-1), 1) := by decide +kernel
theorem dX4_costOf_80 : decode cX4_costOf 80 = .ok (.if_icmp .ne 7, 3) := by decide +kernel
theorem dX4_costOf_83 : decode cX4_costOf 83 = .ok (.iconst 1, 1) := by decide +kernel
theorem dX4_costOf_84 : decode cX4_costOf 84 = .ok (.goto 27, 3) := by decide +kernel
theorem dX4_costOf_87 : decode cX4_costOf 87 = .ok (.aload_n 0, 1) := by decide +kernel
theorem dX4_costOf_88 : decode cX4_costOf 88 = .ok (.aload_n 0, 1) := by decide +kernel
theorem dX4_costOf_89 : decode cX4_costOf 89 = .ok (.getfield 50, 3) := by decide +kernel
theorem dX4_costOf_92 : decode cX4_costOf 92 = .ok (.iload 6, 2) := by decide +kernel
theorem dX4_costOf_94 : decode cX4_costOf 94 = .ok (.iaload, 1) := by decide +kernel
theorem dX4_costOf_95 : decode cX4_costOf 95 = .ok (.iload 7, 2) := by decide +kernel
theorem dX4_costOf_97 : decode cX4_costOf 97 = .ok (.invokevirtual 104, 3) := by decide +kernel
theorem dX4_costOf_100 : decode cX4_costOf 100 = .ok (.ifCond .eq 7, 3) := by decide +kernel
theorem dX4_costOf_103 : decode cX4_costOf 103 = .ok (.iconst 0, 1) := by decide +kernel
theorem dX4_costOf_104 : decode cX4_costOf 104 = .ok (.goto 7, 3) := by decide +kernel
theorem dX4_costOf_107 : decode cX4_costOf 107 = .ok (.aload_n 0, 1) := by decide +kernel
theorem dX4_costOf_108 : decode cX4_costOf 108 = .ok (.getfield 31, 3) := by decide +kernel
theorem dX4_costOf_111 : decode cX4_costOf 111 = .ok (.iadd, 1) := by decide +kernel
theorem dX4_costOf_112 : decode cX4_costOf 112 = .ok (.ireturn, 1) := by decide +kernel
theorem dX4_costOf_113 : decode cX4_costOf 113 = .ok (.iload_n 1, 1) := by decide +kernel
theorem dX4_costOf_114 : decode cX4_costOf 114 = .ok (.iconst 1, 1) := by decide +kernel
theorem dX4_costOf_115 : decode cX4_costOf 115 = .ok (.if_icmp .ne 48, 3) := by decide +kernel
theorem dX4_costOf_118 : decode cX4_costOf 118 = .ok (.iload 4, 2) := by decide +kernel
theorem dX4_costOf_120 : decode cX4_costOf 120 = .ok (.ifCond .ne 7, 3) := by decide +kernel
theorem dX4_costOf_123 : decode cX4_costOf 123 = .ok (.iconst (-1), 1) := by decide +kernel
theorem dX4_costOf_124 : decode cX4_costOf 124 = .ok (.goto 38, 3) := by decide +kernel
theorem dX4_costOf_127 : decode cX4_costOf 127 = .ok (.aload_n 0, 1) := by decide +kernel
theorem dX4_costOf_128 : decode cX4_costOf 128 = .ok (.getfield 59, 3) := by decide +kernel
theorem dX4_costOf_131 : decode cX4_costOf 131 = .ok (.iload 4, 2) := by decide +kernel
theorem dX4_costOf_133 : decode cX4_costOf 133 = .ok (.iconst 1, 1) := by decide +kernel
theorem dX4_costOf_134 : decode cX4_costOf 134 = .ok (.isub, 1) := by decide +kernel
theorem dX4_costOf_135 : decode cX4_costOf 135 = .ok (.iload 5, 2) := by decide +kernel
theorem dX4_costOf_137 : decode cX4_costOf 137 = .ok (.invokestatic 123, 3) := by decide +kernel
theorem dX4_costOf_140 : decode cX4_costOf 140 = .ok (.iaload, 1) := by decide +kernel
theorem dX4_costOf_141 : decode cX4_costOf 141 = .ok (.aload_n 0, 1) := by decide +kernel
theorem dX4_costOf_142 : decode cX4_costOf 142 = .ok (.iload_n 2, 1) := by decide +kernel
theorem dX4_costOf_143 : decode cX4_costOf 143 = .ok (.iload 4, 2) := by decide +kernel
theorem dX4_costOf_145 : decode cX4_costOf 145 = .ok (.iconst 1, 1) := by decide +kernel
theorem dX4_costOf_146 : decode cX4_costOf 146 = .ok (.isub, 1) := by decide +kernel
theorem dX4_costOf_147 : decode cX4_costOf 147 = .ok (.invokevirtual 126, 3) := by decide +kernel
theorem dX4_costOf_150 : decode cX4_costOf 150 = .ok (.ifCond .eq 7, 3) := by decide +kernel
theorem dX4_costOf_153 : decode cX4_costOf 153 = .ok (.iconst 1, 1) := by decide +kernel
theorem dX4_costOf_154 : decode cX4_costOf 154 = .ok (.goto 7, 3) := by decide +kernel
theorem dX4_costOf_157 : decode cX4_costOf 157 = .ok (.aload_n 0, 1) := by decide +kernel
theorem dX4_costOf_158 : decode cX4_costOf 158 = .ok (.getfield 35, 3) := by decide +kernel
theorem dX4_costOf_161 : decode cX4_costOf 161 = .ok (.iadd, 1) := by decide +kernel
theorem dX4_costOf_162 : decode cX4_costOf 162 = .ok (.ireturn, 1) := by decide +kernel
theorem dX4_costOf_163 : decode cX4_costOf 163 = .ok (.iload 5, 2) := by decide +kernel
theorem dX4_costOf_165 : decode cX4_costOf 165 = .ok (.ifCond .ne 7, 3) := by decide +kernel
theorem dX4_costOf_168 : decode cX4_costOf 168 = .ok (.iconst (-1), 1) := by decide +kernel
theorem dX4_costOf_169 : decode cX4_costOf 169 = .ok (.goto 22, 3) := by decide +kernel
theorem dX4_costOf_172 : decode cX4_costOf 172 = .ok (.aload_n 0, 1) := by decide +kernel
theorem dX4_costOf_173 : decode cX4_costOf 173 = .ok (.getfield 59, 3) := by decide +kernel
theorem dX4_costOf_176 : decode cX4_costOf 176 = .ok (.iload 4, 2) := by decide +kernel
theorem dX4_costOf_178 : decode cX4_costOf 178 = .ok (.iload 5, 2) := by decide +kernel
theorem dX4_costOf_180 : decode cX4_costOf 180 = .ok (.iconst 1, 1) := by decide +kernel
theorem dX4_costOf_181 : decode cX4_costOf 181 = .ok (.isub, 1) := by decide +kernel
theorem dX4_costOf_182 : decode cX4_costOf 182 = .ok (.invokestatic 123, 3) := by decide +kernel
theorem dX4_costOf_185 : decode cX4_costOf 185 = .ok (.iaload, 1) := by decide +kernel
theorem dX4_costOf_186 : decode cX4_costOf 186 = .ok (.aload_n 0, 1) := by decide +kernel
theorem dX4_costOf_187 : decode cX4_costOf 187 = .ok (.getfield 38, 3) := by decide +kernel
theorem dX4_costOf_190 : decode cX4_costOf 190 = .ok (.iadd, 1) := by decide +kernel
theorem dX4_costOf_191 : decode cX4_costOf 191 = .ok (.ireturn, 1) := by decide +kernel
theorem dX4_align_0 : decode cX4_align 0 = .ok (.iconst 0, 1) := by decide +kernel
theorem dX4_align_1 : decode cX4_align 1 = .ok (.istore_n 3, 1) := by decide +kernel
theorem dX4_align_2 : decode cX4_align 2 = .ok (.iload_n 3, 1) := by decide +kernel
theorem dX4_align_3 : decode cX4_align 3 = .ok (.aload_n 0, 1) := by decide +kernel
theorem dX4_align_4 : decode cX4_align 4 = .ok (.getfield 41, 3) := by decide +kernel
theorem dX4_align_7 : decode cX4_align 7 = .ok (.iload_n 1, 1) := by decide +kernel
theorem dX4_align_8 : decode cX4_align 8 = .ok (.iaload, 1) := by decide +kernel
theorem dX4_align_9 : decode cX4_align 9 = .ok (.if_icmp .gt 100, 3) := by decide +kernel
theorem dX4_align_12 : decode cX4_align 12 = .ok (.iconst 0, 1) := by decide +kernel
theorem dX4_align_13 : decode cX4_align 13 = .ok (.istore 4, 2) := by decide +kernel
theorem dX4_align_15 : decode cX4_align 15 = .ok (.iload 4, 2) := by decide +kernel
theorem dX4_align_17 : decode cX4_align 17 = .ok (.aload_n 0, 1) := by decide +kernel
theorem dX4_align_18 : decode cX4_align 18 = .ok (.getfield 19, 3) := by decide +kernel
theorem dX4_align_21 : decode cX4_align 21 = .ok (.iload_n 2, 1) := by decide +kernel
theorem dX4_align_22 : decode cX4_align 22 = .ok (.iaload, 1) := by decide +kernel
theorem dX4_align_23 : decode cX4_align 23 = .ok (.if_icmp .gt 80, 3) := by decide +kernel
theorem dX4_align_26 : decode cX4_align 26 = .ok (.iload_n 3, 1) := by decide +kernel
theorem dX4_align_27 : decode cX4_align 27 = .ok (.iload 4, 2) := by decide +kernel
theorem dX4_align_29 : decode cX4_align 29 = .ok (.iadd, 1) := by decide +kernel
theorem dX4_align_30 : decode cX4_align 30 = .ok (.ifCond .ne 7, 3) := by decide +kernel
theorem dX4_align_33 : decode cX4_align 33 = .ok (.iconst 0, 1) := by decide +kernel
theorem dX4_align_34 : decode cX4_align 34 = .ok (.goto 5, 3) := by decide +kernel
theorem dX4_align_37 : decode cX4_align 37 = .ok (.ldc 129, 2) := by decide +kernel
theorem dX4_align_39 : decode cX4_align 39 = .ok (.istore 5, 2) := by decide +kernel
theorem dX4_align_41 : decode cX4_align 41 = .ok (.iconst 0, 1) := by decide +kernel
theorem dX4_align_42 : decode cX4_align 42 = .ok (.istore 6, 2) := by decide +kernel
theorem dX4_align_44 : decode cX4_align 44 = .ok (.iload 6, 2) := by decide +kernel
theorem dX4_align_46 : decode cX4_align 46 = .ok (.iconst 2, 1) := by decide +kernel
theorem dX4_align_47 : decode cX4_align 47 = .ok (.if_icmp .gt 37, 3) := by decide +kernel
theorem dX4_align_50 : decode cX4_align 50 = .ok (.aload_n 0, 1) := by decide +kernel
theorem dX4_align_51 : decode cX4_align 51 = .ok (.iload 6, 2) := by decide +kernel
theorem dX4_align_53 : decode cX4_align 53 = .ok (.iload_n 1, 1) := by decide +kernel
theorem dX4_align_54 : decode cX4_align 54 = .ok (.iload_n 2, 1) := by decide +kernel
theorem dX4_align_55 : decode cX4_align 55 = .ok (.iload_n 3, 1) := by decide +kernel
theorem dX4_align_56 : decode cX4_align 56 = .ok (.iload 4, 2) := by decide +kernel
theorem dX4_align_58 : decode cX4_align 58 = .ok (.invokevirtual 130, 3) := by decide +kernel
theorem dX4_align_61 : decode cX4_align 61 = .ok (.istore 7, 2) := by decide +kernel
theorem dX4_align_63 : decode cX4_align 63 = .ok (.iload 7, 2) := by decide +kernel
theorem dX4_align_65 : decode cX4_align 65 = .ok (.iconst (-1), 1) := by decide +kernel
theorem dX4_align_66 : decode cX4_align 66 = .ok (.if_icmp .eq 12, 3) := by decide +kernel
theorem dX4_align_69 : decode cX4_align 69 = .ok (.iload 5, 2) := by decide +kernel
theorem dX4_align_71 : decode cX4_align 71 = .ok (.iload 7, 2) := by decide +kernel
theorem dX4_align_73 : decode cX4_align 73 = .ok (.invokestatic 134, 3) := by decide +kernel
theorem dX4_align_76 : decode cX4_align 76 = .ok (.istore 5, 2) := by decide +kernel
theorem dX4_align_78 : decode cX4_align 78 = .ok (.iinc 6 1, 3) := by decide +kernel
theorem dX4_align_81 : decode cX4_align 81 = .ok (.goto (-37), 3) := by decide +kernel
theorem dX4_align_84 : decode cX4_align 84 = .ok (.aload_n 0, 1) := by decide +kernel
theorem dX4_align_85 : decode cX4_align 85 = .ok (.getfield 59, 3) := by decide +kernel
theorem dX4_align_88 : decode cX4_align 88 = .ok (.iload_n 3, 1) := by decide +kernel
theorem dX4_align_89 : decode cX4_align 89 = .ok (.iload 4, 2) := by decide +kernel
theorem dX4_align_91 : decode cX4_align 91 = .ok (.invokestatic 123, 3) := by decide +kernel
theorem dX4_align_94 : decode cX4_align 94 = .ok (.iload 5, 2) := by decide +kernel
theorem dX4_align_96 : decode cX4_align 96 = .ok (.iastore, 1) := by decide +kernel
theorem dX4_align_97 : decode cX4_align 97 = .ok (.iinc 4 1, 3) := by decide +kernel
theorem dX4_align_100 : decode cX4_align 100 = .ok (.goto (-85), 3) := by decide +kernel
theorem dX4_align_103 : decode cX4_align 103 = .ok (.iinc 3 1, 3) := by decide +kernel
theorem dX4_align_106 : decode cX4_align 106 = .ok (.goto (-104), 3) := by decide +kernel
theorem dX4_align_109 : decode cX4_align 109 = .ok (.aload_n 0, 1) := by decide +kernel
theorem dX4_align_110 : decode cX4_align 110 = .ok (.getfield 59, 3) := by decide +kernel
theorem dX4_align_113 : decode cX4_align 113 = .ok (.aload_n 0, 1) := by decide +kernel
theorem dX4_align_114 : decode cX4_align 114 = .ok (.getfield 41, 3) := by decide +kernel
theorem dX4_align_117 : decode cX4_align 117 = .ok (.iload_n 1, 1) := by decide +kernel
theorem dX4_align_118 : decode cX4_align 118 = .ok (.iaload, 1) := by decide +kernel
theorem dX4_align_119 : decode cX4_align 119 = .ok (.aload_n 0, 1) := by decide +kernel
theorem dX4_align_120 : decode cX4_align 120 = .ok (.getfield 19, 3) := by decide +kernel
theorem dX4_align_123 : decode cX4_align 123 = .ok (.iload_n 2, 1) := by decide +kernel
theorem dX4_align_124 : decode cX4_align 124 = .ok (.iaload, 1) := by decide +kernel
theorem dX4_align_125 : decode cX4_align 125 = .ok (.invokestatic 123, 3) := by decide +kernel
theorem dX4_align_128 : decode cX4_align 128 = .ok (.iaload, 1) := by decide +kernel
theorem dX4_align_129 : decode cX4_align 129 = .ok (.ireturn, 1) := by decide +kernel
theorem dX4_follow_0 : decode cX4_follow 0 = .ok (.aload_n 0, 1) := by decide +kernel
theorem dX4_follow_1 : decode cX4_follow 1 = .ok (.getfield 41, 3) := by decide +kernel
theorem dX4_follow_4 : decode cX4_follow 4 = .ok (.iload_n 1, 1) := by decide +kernel
theorem dX4_follow_5 : decode cX4_follow 5 = .ok (.iaload, 1) := by decide +kernel
theorem dX4_follow_6 : decode cX4_follow 6 = .ok (.istore_n 3, 1) := by decide +kernel
theorem dX4_follow_7 : decode cX4_follow 7 = .ok (.aload_n 0, 1) := by decide +kernel
theorem dX4_follow_8 : decode cX4_follow 8 = .ok (.getfield 19, 3) := by decide +kernel
theorem dX4_follow_11 : decode cX4_follow 11 = .ok (.iload_n 2, 1) := by decide +kernel
theorem dX4_follow_12 : decode cX4_follow 12 = .ok (.iaload, 1) := by decide +kernel
theorem dX4_follow_13 : decode cX4_follow 13 = .ok (.istore 4, 2) := by decide +kernel
theorem dX4_follow_15 : decode cX4_follow 15 = .ok (.aload_n 0, 1) := by decide +kernel
theorem dX4_follow_16 : decode cX4_follow 16 = .ok (.iconst 0, 1) := by decide +kernel
theorem dX4_follow_17 : decode cX4_follow 17 = .ok (.putfield 139, 3) := by decide +kernel
theorem dX4_follow_20 : decode cX4_follow 20 = .ok (.iload_n 3, 1) := by decide +kernel
theorem dX4_follow_21 : decode cX4_follow 21 = .ok (.iload 4, 2) := by decide +kernel
theorem dX4_follow_23 : decode cX4_follow 23 = .ok (.iadd, 1) := by decide +kernel
theorem dX4_follow_24 : decode cX4_follow 24 = .ok (.ifCond .le 91, 3) := by decide +kernel
theorem dX4_follow_27 : decode cX4_follow 27 = .ok (.iconst 0, 1) := by decide +kernel
theorem dX4_follow_28 : decode cX4_follow 28 = .ok (.istore 5, 2) := by decide +kernel
theorem dX4_follow_30 : decode cX4_follow 30 = .ok (.aload_n 0, 1) := by decide +kernel
theorem dX4_follow_31 : decode cX4_follow 31 = .ok (.iload 5, 2) := by decide +kernel
theorem dX4_follow_33 : decode cX4_follow 33 = .ok (.iload_n 1, 1) := by decide +kernel
theorem dX4_follow_34 : decode cX4_follow 34 = .ok (.iload_n 2, 1) := by decide +kernel
theorem dX4_follow_35 : decode cX4_follow 35 = .ok (.iload_n 3, 1) := by decide +kernel
theorem dX4_follow_36 : decode cX4_follow 36 = .ok (.iload 4, 2) := by decide +kernel
theorem dX4_follow_38 : decode cX4_follow 38 = .ok (.invokevirtual 130, 3) := by decide +kernel
theorem dX4_follow_41 : decode cX4_follow 41 = .ok (.aload_n 0, 1) := by decide +kernel
theorem dX4_follow_42 : decode cX4_follow 42 = .ok (.getfield 59, 3) := by decide +kernel
theorem dX4_follow_45 : decode cX4_follow 45 = .ok (.iload_n 3, 1) := by decide +kernel
theorem dX4_follow_46 : decode cX4_follow 46 = .ok (.iload 4, 2) := by decide +kernel
theorem dX4_follow_48 : decode cX4_follow 48 = .ok (.invokestatic 123, 3) := by decide +kernel
theorem dX4_follow_51 : decode cX4_follow 51 = .ok (.iaload, 1) := by decide +kernel
theorem dX4_follow_52 : decode cX4_follow 52 = .ok (.if_icmp .eq 9, 3) := by decide +kernel
theorem dX4_follow_55 : decode cX4_follow 55 = .ok (.iinc 5 1, 3) := by decide +kernel
theorem dX4_follow_58 : decode cX4_follow 58 = .ok (.goto (-28), 3) := by decide +kernel
theorem dX4_follow_61 : decode cX4_follow 61 = .ok (.aload_n 0, 1) := by decide +kernel
theorem dX4_follow_62 : decode cX4_follow 62 = .ok (.getfield 62, 3) := by decide +kernel
theorem dX4_follow_65 : decode cX4_follow 65 = .ok (.aload_n 0, 1) := by decide +kernel
theorem dX4_follow_66 : decode cX4_follow 66 = .ok (.getfield 139, 3) := by decide +kernel
theorem dX4_follow_69 : decode cX4_follow 69 = .ok (.iload 5, 2) := by decide +kernel
theorem dX4_follow_71 : decode cX4_follow 71 = .ok (.iastore, 1) := by decide +kernel
theorem dX4_follow_72 : decode cX4_follow 72 = .ok (.aload_n 0, 1) := by decide +kernel
theorem dX4_follow_73 : decode cX4_follow 73 = .ok (.dup, 1) := by decide +kernel
theorem dX4_follow_74 : decode cX4_follow 74 = .ok (.getfield 139, 3) := by decide +kernel
theorem dX4_follow_77 : decode cX4_follow 77 = .ok (.iconst 1, 1) := by decide +kernel
theorem dX4_follow_78 : decode cX4_follow 78 = .ok (.iadd, 1) := by decide +kernel
theorem dX4_follow_79 : decode cX4_follow 79 = .ok (.putfield 139, 3) := by decide +kernel
theorem dX4_follow_82 : decode cX4_follow 82 = .ok (.iload_n 3, 1) := by decide +kernel
theorem dX4_follow_83 : decode cX4_follow 83 = .ok (.iload 5, 2) := by decide +kernel
theorem dX4_follow_85 : decode cX4_follow 85 = .ok (.iconst 2, 1) := by decide +kernel
theorem dX4_follow_86 : decode cX4_follow 86 = .ok (.if_icmp .ne 7, 3) := by decide +kernel
theorem dX4_follow_89 : decode cX4_follow 89 = .ok (.iconst 0, 1) := by decide +kernel
theorem dX4_follow_90 : decode cX4_follow 90 = .ok (.goto 4, 3) := by decide +kernel
theorem dX4_follow_93 : decode cX4_follow 93 = .ok (.iconst 1, 1) := by decide +kernel
theorem dX4_follow_94 : decode cX4_follow 94 = .ok (.isub, 1) := by decide +kernel
theorem dX4_follow_95 : decode cX4_follow 95 = .ok (.istore_n 3, 1) := by decide +kernel
theorem dX4_follow_96 : decode cX4_follow 96 = .ok (.iload 4, 2) := by decide +kernel
theorem dX4_follow_98 : decode cX4_follow 98 = .ok (.iload 5, 2) := by decide +kernel
theorem dX4_follow_100 : decode cX4_follow 100 = .ok (.iconst 1, 1) := by decide +kernel
theorem dX4_follow_101 : decode cX4_follow 101 = .ok (.if_icmp .ne 7, 3) := by decide +kernel
theorem dX4_follow_104 : decode cX4_follow 104 = .ok (.iconst 0, 1) := by decide +kernel
theorem dX4_follow_105 : decode cX4_follow 105 = .ok (.goto 4, 3) := by decide +kernel
theorem dX4_follow_108 : decode cX4_follow 108 = .ok (.iconst 1, 1) := by decide +kernel
theorem dX4_follow_109 : decode cX4_follow 109 = .ok (.isub, 1) := by decide +kernel
theorem dX4_follow_110 : decode cX4_follow 110 = .ok (.istore 4, 2) := by decide +kernel
theorem dX4_follow_112 : decode cX4_follow 112 = .ok (.goto (-92), 3) := by decide +kernel
theorem dX4_follow_115 : decode cX4_follow 115 = .ok (.return_, 1) := by decide +kernel
theorem dX4_freshSteps_0 : decode cX4_freshSteps 0 = .ok (.iconst 0, 1) := by decide +kernel
theorem dX4_freshSteps_1 : decode cX4_freshSteps 1 = .ok (.istore_n 1, 1) := by decide +kernel
theorem dX4_freshSteps_2 : decode cX4_freshSteps 2 = .ok (.iconst 0, 1) := by decide +kernel
theorem dX4_freshSteps_3 : decode cX4_freshSteps 3 = .ok (.istore_n 2, 1) := by decide +kernel
theorem dX4_freshSteps_4 : decode cX4_freshSteps 4 = .ok (.iload_n 2, 1) := by decide +kernel
theorem dX4_freshSteps_5 : decode cX4_freshSteps 5 = .ok (.aload_n 0, 1) := by decide +kernel
theorem dX4_freshSteps_6 : decode cX4_freshSteps 6 = .ok (.getfield 139, 3) := by decide +kernel
theorem dX4_freshSteps_9 : decode cX4_freshSteps 9 = .ok (.if_icmp .ge 27, 3) := by decide +kernel
theorem dX4_freshSteps_12 : decode cX4_freshSteps 12 = .ok (.iload_n 1, 1) := by decide +kernel
theorem dX4_freshSteps_13 : decode cX4_freshSteps 13 = .ok (.aload_n 0, 1) := by decide +kernel
theorem dX4_freshSteps_14 : decode cX4_freshSteps 14 = .ok (.getfield 62, 3) := by decide +kernel
theorem dX4_freshSteps_17 : decode cX4_freshSteps 17 = .ok (.iload_n 2, 1) := by decide +kernel
theorem dX4_freshSteps_18 : decode cX4_freshSteps 18 = .ok (.iaload, 1) := by decide +kernel
theorem dX4_freshSteps_19 : decode cX4_freshSteps 19 = .ok (.iconst 2, 1) := by decide +kernel
theorem dX4_freshSteps_20 : decode cX4_freshSteps 20 = .ok (.if_icmp .ne 7, 3) := by decide +kernel
theorem dX4_freshSteps_23 : decode cX4_freshSteps 23 = .ok (.iconst 1, 1) := by decide +kernel
theorem dX4_freshSteps_24 : decode cX4_freshSteps 24 = .ok (.goto 4, 3) := by decide +kernel
theorem dX4_freshSteps_27 : decode cX4_freshSteps 27 = .ok (.iconst 0, 1) := by decide +kernel
theorem dX4_freshSteps_28 : decode cX4_freshSteps 28 = .ok (.iadd, 1) := by decide +kernel
theorem dX4_freshSteps_29 : decode cX4_freshSteps 29 = .ok (.istore_n 1, 1) := by decide +kernel
theorem dX4_freshSteps_30 : decode cX4_freshSteps 30 = .ok (.iinc 2 1, 3) := by decide +kernel
theorem dX4_freshSteps_33 : decode cX4_freshSteps 33 = .ok (.goto (-29), 3) := by decide +kernel
theorem dX4_freshSteps_36 : decode cX4_freshSteps 36 = .ok (.iload_n 1, 1) := by decide +kernel
theorem dX4_freshSteps_37 : decode cX4_freshSteps 37 = .ok (.ireturn, 1) := by decide +kernel
theorem dX4_mergeInto_0 : decode cX4_mergeInto 0 = .ok (.iconst 0, 1) := by decide +kernel
theorem dX4_mergeInto_1 : decode cX4_mergeInto 1 = .ok (.istore_n 3, 1) := by decide +kernel
theorem dX4_mergeInto_2 : decode cX4_mergeInto 2 = .ok (.iconst 0, 1) := by decide +kernel
theorem dX4_mergeInto_3 : decode cX4_mergeInto 3 = .ok (.istore 4, 2) := by decide +kernel
theorem dX4_mergeInto_5 : decode cX4_mergeInto 5 = .ok (.iconst 0, 1) := by decide +kernel
theorem dX4_mergeInto_6 : decode cX4_mergeInto 6 = .ok (.istore 5, 2) := by decide +kernel
theorem dX4_mergeInto_8 : decode cX4_mergeInto 8 = .ok (.aload_n 0, 1) := by decide +kernel
theorem dX4_mergeInto_9 : decode cX4_mergeInto 9 = .ok (.getfield 139, 3) := by decide +kernel
theorem dX4_mergeInto_12 : decode cX4_mergeInto 12 = .ok (.iconst 1, 1) := by decide +kernel
theorem dX4_mergeInto_13 : decode cX4_mergeInto 13 = .ok (.isub, 1) := by decide +kernel
theorem dX4_mergeInto_14 : decode cX4_mergeInto 14 = .ok (.istore 6, 2) := by decide +kernel
theorem dX4_mergeInto_16 : decode cX4_mergeInto 16 = .ok (.iload 6, 2) := by decide +kernel
theorem dX4_mergeInto_18 : decode cX4_mergeInto 18 = .ok (.ifCond .lt 260, 3) := by decide +kernel
theorem dX4_mergeInto_21 : decode cX4_mergeInto 21 = .ok (.bipush 30, 2) := by decide +kernel
theorem dX4_mergeInto_23 : decode cX4_mergeInto 23 = .ok (.iload_n 2, 1) := by decide +kernel
theorem dX4_mergeInto_24 : decode cX4_mergeInto 24 = .ok (.imul, 1) := by decide +kernel
theorem dX4_mergeInto_25 : decode cX4_mergeInto 25 = .ok (.iload 4, 2) := by decide +kernel
theorem dX4_mergeInto_27 : decode cX4_mergeInto 27 = .ok (.iadd, 1) := by decide +kernel
theorem dX4_mergeInto_28 : decode cX4_mergeInto 28 = .ok (.istore 7, 2) := by decide +kernel
theorem dX4_mergeInto_30 : decode cX4_mergeInto 30 = .ok (.iload_n 1, 1) := by decide +kernel
theorem dX4_mergeInto_31 : decode cX4_mergeInto 31 = .ok (.iload_n 3, 1) := by decide +kernel
theorem dX4_mergeInto_32 : decode cX4_mergeInto 32 = .ok (.invokestatic 107, 3) := by decide +kernel
theorem dX4_mergeInto_35 : decode cX4_mergeInto 35 = .ok (.istore 8, 2) := by decide +kernel
theorem dX4_mergeInto_37 : decode cX4_mergeInto 37 = .ok (.iconst 0, 1) := by decide +kernel
theorem dX4_mergeInto_38 : decode cX4_mergeInto 38 = .ok (.istore 9, 2) := by decide +kernel
theorem dX4_mergeInto_40 : decode cX4_mergeInto 40 = .ok (.iload 9, 2) := by decide +kernel
theorem dX4_mergeInto_42 : decode cX4_mergeInto 42 = .ok (.bipush 12, 2) := by decide +kernel
theorem dX4_mergeInto_44 : decode cX4_mergeInto 44 = .ok (.if_icmp .ge 50, 3) := by decide +kernel
theorem dX4_mergeInto_47 : decode cX4_mergeInto 47 = .ok (.aload_n 0, 1) := by decide +kernel
theorem dX4_mergeInto_48 : decode cX4_mergeInto 48 = .ok (.getfield 71, 3) := by decide +kernel
theorem dX4_mergeInto_51 : decode cX4_mergeInto 51 = .ok (.bipush 12, 2) := by decide +kernel
theorem dX4_mergeInto_53 : decode cX4_mergeInto 53 = .ok (.iload 5, 2) := by decide +kernel
theorem dX4_mergeInto_55 : decode cX4_mergeInto 55 = .ok (.imul, 1) := by decide +kernel
theorem dX4_mergeInto_56 : decode cX4_mergeInto 56 = .ok (.iload 9, 2) := by decide +kernel
theorem dX4_mergeInto_58 : decode cX4_mergeInto 58 = .ok (.iadd, 1) := by decide +kernel
theorem dX4_mergeInto_59 : decode cX4_mergeInto 59 = .ok (.aload_n 0, 1) := by decide +kernel
theorem dX4_mergeInto_60 : decode cX4_mergeInto 60 = .ok (.getfield 62, 3) := by decide +kernel
theorem dX4_mergeInto_63 : decode cX4_mergeInto 63 = .ok (.iload 6, 2) := by decide +kernel
theorem dX4_mergeInto_65 : decode cX4_mergeInto 65 = .ok (.iaload, 1) := by decide +kernel
theorem dX4_mergeInto_66 : decode cX4_mergeInto 66 = .ok (.iconst 2, 1) := by decide +kernel
theorem dX4_mergeInto_67 : decode cX4_mergeInto 67 = .ok (.if_icmp .ne 7, 3) := by decide +kernel
theorem dX4_mergeInto_70 : decode cX4_mergeInto 70 = .ok (.iconst (-1), 1) := by decide +kernel
theorem dX4_mergeInto_71 : decode cX4_mergeInto 71 = .ok (.goto 16, 3) := by decide +kernel
theorem dX4_mergeInto_74 : decode cX4_mergeInto 74 = .ok (.aload_n 0, 1) := by decide +kernel
theorem dX4_mergeInto_75 : decode cX4_mergeInto 75 = .ok (.getfield 53, 3) := by decide +kernel
theorem dX4_mergeInto_78 : decode cX4_mergeInto 78 = .ok (.bipush 12, 2) := by decide +kernel
theorem dX4_mergeInto_80 : decode cX4_mergeInto 80 = .ok (.iload 8, 2) := by decide +kernel
theorem dX4_mergeInto_82 : decode cX4_mergeInto 82 = .ok (.imul, 1) := by decide +kernel
theorem dX4_mergeInto_83 : decode cX4_mergeInto 83 = .ok (.iload 9, 2) := by decide +kernel
theorem dX4_mergeInto_85 : decode cX4_mergeInto 85 = .ok (.iadd, 1) := by decide +kernel
theorem dX4_mergeInto_86 : decode cX4_mergeInto 86 = .ok (.iaload, 1) := by decide +kernel
theorem dX4_mergeInto_87 : decode cX4_mergeInto 87 = .ok (.iastore, 1) := by decide +kernel
theorem dX4_mergeInto_88 : decode cX4_mergeInto 88 = .ok (.iinc 9 1, 3) := by decide +kernel
theorem dX4_mergeInto_91 : decode cX4_mergeInto 91 = .ok (.goto (-51), 3) := by decide +kernel
theorem dX4_mergeInto_94 : decode cX4_mergeInto 94 = .ok (.aload_n 0, 1) := by decide +kernel
theorem dX4_mergeInto_95 : decode cX4_mergeInto 95 = .ok (.getfield 65, 3) := by decide +kernel
theorem dX4_mergeInto_98 : decode cX4_mergeInto 98 = .ok (.iload 5, 2) := by decide +kernel
theorem dX4_mergeInto_100 : decode cX4_mergeInto 100 = .ok (.aload_n 0, 1) := by decide +kernel
theorem dX4_mergeInto_101 : decode cX4_mergeInto 101 = .ok (.getfield 62, 3) := by decide +kernel
theorem dX4_mergeInto_104 : decode cX4_mergeInto 104 = .ok (.iload 6, 2) := by decide +kernel
theorem dX4_mergeInto_106 : decode cX4_mergeInto 106 = .ok (.iaload, 1) := by decide +kernel
theorem dX4_mergeInto_107 : decode cX4_mergeInto 107 = .ok (.iconst 2, 1) := by decide +kernel
theorem dX4_mergeInto_108 : decode cX4_mergeInto 108 = .ok (.if_icmp .ne 13, 3) := by decide +kernel
theorem dX4_mergeInto_111 : decode cX4_mergeInto 111 = .ok (.aload_n 0, 1) := by decide +kernel
theorem dX4_mergeInto_112 : decode cX4_mergeInto 112 = .ok (.getfield 22, 3) := by decide +kernel
theorem dX4_mergeInto_115 : decode cX4_mergeInto 115 = .ok (.iload 7, 2) := by decide +kernel
theorem dX4_mergeInto_117 : decode cX4_mergeInto 117 = .ok (.iaload, 1) := by decide +kernel
theorem dX4_mergeInto_118 : decode cX4_mergeInto 118 = .ok (.goto 10, 3) := by decide +kernel
theorem dX4_mergeInto_121 : decode cX4_mergeInto 121 = .ok (.aload_n 0, 1) := by decide +kernel
theorem dX4_mergeInto_122 : decode cX4_mergeInto 122 = .ok (.getfield 47, 3) := by decide +kernel
theorem dX4_mergeInto_125 : decode cX4_mergeInto 125 = .ok (.iload 8, 2) := by decide +kernel
theorem dX4_mergeInto_127 : decode cX4_mergeInto 127 = .ok (.iaload, 1) := by decide +kernel
theorem dX4_mergeInto_128 : decode cX4_mergeInto 128 = .ok (.iastore, 1) := by decide +kernel
theorem dX4_mergeInto_129 : decode cX4_mergeInto 129 = .ok (.aload_n 0, 1) := by decide +kernel
theorem dX4_mergeInto_130 : decode cX4_mergeInto 130 = .ok (.getfield 68, 3) := by decide +kernel
theorem dX4_mergeInto_133 : decode cX4_mergeInto 133 = .ok (.iload 5, 2) := by decide +kernel
theorem dX4_mergeInto_135 : decode cX4_mergeInto 135 = .ok (.aload_n 0, 1) := by decide +kernel
theorem dX4_mergeInto_136 : decode cX4_mergeInto 136 = .ok (.getfield 62, 3) := by decide +kernel
theorem dX4_mergeInto_139 : decode cX4_mergeInto 139 = .ok (.iload 6, 2) := by decide +kernel
theorem dX4_mergeInto_141 : decode cX4_mergeInto 141 = .ok (.iaload, 1) := by decide +kernel
theorem dX4_mergeInto_142 : decode cX4_mergeInto 142 = .ok (.iconst 2, 1) := by decide +kernel
theorem dX4_mergeInto_143 : decode cX4_mergeInto 143 = .ok (.if_icmp .ne 8, 3) := by decide +kernel
theorem dX4_mergeInto_146 : decode cX4_mergeInto 146 = .ok (.iload 7, 2) := by decide +kernel
theorem dX4_mergeInto_148 : decode cX4_mergeInto 148 = .ok (.goto 10, 3) := by decide +kernel
theorem dX4_mergeInto_151 : decode cX4_mergeInto 151 = .ok (.aload_n 0, 1) := by decide +kernel
theorem dX4_mergeInto_152 : decode cX4_mergeInto 152 = .ok (.getfield 50, 3) := by decide +kernel
theorem dX4_mergeInto_155 : decode cX4_mergeInto 155 = .ok (.iload 8, 2) := by decide +kernel
theorem dX4_mergeInto_157 : decode cX4_mergeInto 157 = .ok (.iaload, 1) := by decide +kernel
theorem dX4_mergeInto_158 : decode cX4_mergeInto 158 = .ok (.iastore, 1) := by decide +kernel
theorem dX4_mergeInto_159 : decode cX4_mergeInto 159 = .ok (.aload_n 0, 1) := by decide +kernel
theorem dX4_mergeInto_160 : decode cX4_mergeInto 160 = .ok (.getfield 62, 3) := by decide +kernel
theorem dX4_mergeInto_163 : decode cX4_mergeInto 163 = .ok (.iload 6, 2) := by decide +kernel
theorem dX4_mergeInto_165 : decode cX4_mergeInto 165 = .ok (.iaload, 1) := by decide +kernel
theorem dX4_mergeInto_166 : decode cX4_mergeInto 166 = .ok (.ifCond .ne 38, 3) := by decide +kernel
theorem dX4_mergeInto_169 : decode cX4_mergeInto 169 = .ok (.aload_n 0, 1) := by decide +kernel
theorem dX4_mergeInto_170 : decode cX4_mergeInto 170 = .ok (.getfield 50, 3) := by decide +kernel
theorem dX4_mergeInto_173 : decode cX4_mergeInto 173 = .ok (.iload 8, 2) := by decide +kernel
theorem dX4_mergeInto_175 : decode cX4_mergeInto 175 = .ok (.iaload, 1) := by decide +kernel
theorem dX4_mergeInto_176 : decode cX4_mergeInto 176 = .ok (.iconst (-1), 1) := by decide +kernel
theorem dX4_mergeInto_177 : decode cX4_mergeInto 177 = .ok (.if_icmp .eq 27, 3) := by decide +kernel
theorem dX4_mergeInto_180 : decode cX4_mergeInto 180 = .ok (.aload_n 0, 1) := by decide +kernel
theorem dX4_mergeInto_181 : decode cX4_mergeInto 181 = .ok (.aload_n 0, 1) := by decide +kernel
theorem dX4_mergeInto_182 : decode cX4_mergeInto 182 = .ok (.getfield 50, 3) := by decide +kernel
theorem dX4_mergeInto_185 : decode cX4_mergeInto 185 = .ok (.iload 8, 2) := by decide +kernel
theorem dX4_mergeInto_187 : decode cX4_mergeInto 187 = .ok (.iaload, 1) := by decide +kernel
theorem dX4_mergeInto_188 : decode cX4_mergeInto 188 = .ok (.iload 7, 2) := by decide +kernel
theorem dX4_mergeInto_190 : decode cX4_mergeInto 190 = .ok (.invokevirtual 104, 3) := by decide +kernel
theorem dX4_mergeInto_193 : decode cX4_mergeInto 193 = .ok (.ifCond .ne 11, 3) := by decide +kernel
theorem dX4_mergeInto_196 : decode cX4_mergeInto 196 = .ok (.aload_n 0, 1) := by decide +kernel
theorem dX4_mergeInto_197 : decode cX4_mergeInto 197 = .ok (.getfield 68, 3) := by decide +kernel
theorem dX4_mergeInto_200 : decode cX4_mergeInto 200 = .ok (.iload 5, 2) := by decide +kernel
theorem dX4_mergeInto_202 : decode cX4_mergeInto 202 = .ok (.iconst (-1), 1) := by decide +kernel
theorem dX4_mergeInto_203 : decode cX4_mergeInto 203 = .ok (.iastore, 1) := by decide +kernel
theorem dX4_mergeInto_204 : decode cX4_mergeInto 204 = .ok (.aload_n 0, 1) := by decide +kernel
theorem dX4_mergeInto_205 : decode cX4_mergeInto 205 = .ok (.getfield 62, 3) := by decide +kernel
theorem dX4_mergeInto_208 : decode cX4_mergeInto 208 = .ok (.iload 6, 2) := by decide +kernel
theorem dX4_mergeInto_210 : decode cX4_mergeInto 210 = .ok (.iaload, 1) := by decide +kernel
theorem dX4_mergeInto_211 : decode cX4_mergeInto 211 = .ok (.iconst 1, 1) := by decide +kernel
theorem dX4_mergeInto_212 : decode cX4_mergeInto 212 = .ok (.if_icmp .eq 17, 3) := by decide +kernel
theorem dX4_mergeInto_215 : decode cX4_mergeInto 215 = .ok (.aload_n 0, 1) := by decide +kernel
theorem dX4_mergeInto_216 : decode cX4_mergeInto 216 = .ok (.getfield 71, 3) := by decide +kernel
theorem dX4_mergeInto_219 : decode cX4_mergeInto 219 = .ok (.bipush 12, 2) := by decide +kernel
theorem dX4_mergeInto_221 : decode cX4_mergeInto 221 = .ok (.iload 5, 2) := by decide +kernel
theorem dX4_mergeInto_223 : decode cX4_mergeInto 223 = .ok (.imul, 1) := by decide +kernel
theorem dX4_mergeInto_224 : decode cX4_mergeInto 224 = .ok (.iload_n 2, 1) := by decide +kernel
theorem dX4_mergeInto_225 : decode cX4_mergeInto 225 = .ok (.iadd, 1) := by decide +kernel
theorem dX4_mergeInto_226 : decode cX4_mergeInto 226 = .ok (.iload 4, 2) := by decide +kernel
theorem dX4_mergeInto_228 : decode cX4_mergeInto 228 = .ok (.iastore, 1) := by decide +kernel
theorem dX4_mergeInto_229 : decode cX4_mergeInto 229 = .ok (.iload_n 3, 1) := by decide +kernel
theorem dX4_mergeInto_230 : decode cX4_mergeInto 230 = .ok (.aload_n 0, 1) := by decide +kernel
theorem dX4_mergeInto_231 : decode cX4_mergeInto 231 = .ok (.getfield 62, 3) := by decide +kernel
theorem dX4_mergeInto_234 : decode cX4_mergeInto 234 = .ok (.iload 6, 2) := by decide +kernel
theorem dX4_mergeInto_236 : decode cX4_mergeInto 236 = .ok (.iaload, 1) := by decide +kernel
theorem dX4_mergeInto_237 : decode cX4_mergeInto 237 = .ok (.iconst 2, 1) := by decide +kernel
theorem dX4_mergeInto_238 : decode cX4_mergeInto 238 = .ok (.if_icmp .ne 7, 3) := by decide +kernel
theorem dX4_mergeInto_241 : decode cX4_mergeInto 241 = .ok (.iconst 0, 1) := by decide +kernel
theorem dX4_mergeInto_242 : decode cX4_mergeInto 242 = .ok (.goto 4, 3) := by decide +kernel
theorem dX4_mergeInto_245 : decode cX4_mergeInto 245 = .ok (.iconst 1, 1) := by decide +kernel
theorem dX4_mergeInto_246 : decode cX4_mergeInto 246 = .ok (.iadd, 1) := by decide +kernel
theorem dX4_mergeInto_247 : decode cX4_mergeInto 247 = .ok (.istore_n 3, 1) := by decide +kernel
theorem dX4_mergeInto_248 : decode cX4_mergeInto 248 = .ok (.iload 4, 2) := by decide +kernel
theorem dX4_mergeInto_250 : decode cX4_mergeInto 250 = .ok (.aload_n 0, 1) := by decide +kernel
theorem dX4_mergeInto_251 : decode cX4_mergeInto 251 = .ok (.getfield 62, 3) := by decide +kernel
theorem dX4_mergeInto_254 : decode cX4_mergeInto 254 = .ok (.iload 6, 2) := by decide +kernel
theorem dX4_mergeInto_256 : decode cX4_mergeInto 256 = .ok (.iaload, 1) := by decide +kernel
theorem dX4_mergeInto_257 : decode cX4_mergeInto 257 = .ok (.iconst 1, 1) := by decide +kernel
theorem dX4_mergeInto_258 : decode cX4_mergeInto 258 = .ok (.if_icmp .ne 7, 3) := by decide +kernel
theorem dX4_mergeInto_261 : decode cX4_mergeInto 261 = .ok (.iconst 0, 1) := by decide +kernel
theorem dX4_mergeInto_262 : decode cX4_mergeInto 262 = .ok (.goto 4, 3) := by decide +kernel
theorem dX4_mergeInto_265 : decode cX4_mergeInto 265 = .ok (.iconst 1, 1) := by decide +kernel
theorem dX4_mergeInto_266 : decode cX4_mergeInto 266 = .ok (.iadd, 1) := by decide +kernel
theorem dX4_mergeInto_267 : decode cX4_mergeInto 267 = .ok (.istore 4, 2) := by decide +kernel
theorem dX4_mergeInto_269 : decode cX4_mergeInto 269 = .ok (.iinc 5 1, 3) := by decide +kernel
theorem dX4_mergeInto_272 : decode cX4_mergeInto 272 = .ok (.iinc 6 (-1), 3) := by decide +kernel
theorem dX4_mergeInto_275 : decode cX4_mergeInto 275 = .ok (.goto (-259), 3) := by decide +kernel
theorem dX4_mergeInto_278 : decode cX4_mergeInto 278 = .ok (.iconst 0, 1) := by decide +kernel
theorem dX4_mergeInto_279 : decode cX4_mergeInto 279 = .ok (.istore 6, 2) := by decide +kernel
theorem dX4_mergeInto_281 : decode cX4_mergeInto 281 = .ok (.iload 6, 2) := by decide +kernel
theorem dX4_mergeInto_283 : decode cX4_mergeInto 283 = .ok (.iload 5, 2) := by decide +kernel
theorem dX4_mergeInto_285 : decode cX4_mergeInto 285 = .ok (.if_icmp .ge 91, 3) := by decide +kernel
theorem dX4_mergeInto_288 : decode cX4_mergeInto 288 = .ok (.aload_n 0, 1) := by decide +kernel
theorem dX4_mergeInto_289 : decode cX4_mergeInto 289 = .ok (.getfield 47, 3) := by decide +kernel
theorem dX4_mergeInto_292 : decode cX4_mergeInto 292 = .ok (.iload_n 1, 1) := by decide +kernel
theorem dX4_mergeInto_293 : decode cX4_mergeInto 293 = .ok (.iload 6, 2) := by decide +kernel
theorem dX4_mergeInto_295 : decode cX4_mergeInto 295 = .ok (.invokestatic 107, 3) := by decide +kernel
theorem dX4_mergeInto_298 : decode cX4_mergeInto 298 = .ok (.aload_n 0, 1) := by decide +kernel
theorem dX4_mergeInto_299 : decode cX4_mergeInto 299 = .ok (.getfield 65, 3) := by decide +kernel
theorem dX4_mergeInto_302 : decode cX4_mergeInto 302 = .ok (.iload 6, 2) := by decide +kernel
theorem dX4_mergeInto_304 : decode cX4_mergeInto 304 = .ok (.iaload, 1) := by decide +kernel
theorem dX4_mergeInto_305 : decode cX4_mergeInto 305 = .ok (.iastore, 1) := by decide +kernel
theorem dX4_mergeInto_306 : decode cX4_mergeInto 306 = .ok (.aload_n 0, 1) := by decide +kernel
theorem dX4_mergeInto_307 : decode cX4_mergeInto 307 = .ok (.getfield 50, 3) := by decide +kernel
theorem dX4_mergeInto_310 : decode cX4_mergeInto 310 = .ok (.iload_n 1, 1) := by decide +kernel
theorem dX4_mergeInto_311 : decode cX4_mergeInto 311 = .ok (.iload 6, 2) := by decide +kernel
theorem dX4_mergeInto_313 : decode cX4_mergeInto 313 = .ok (.invokestatic 107, 3) := by decide +kernel
theorem dX4_mergeInto_316 : decode cX4_mergeInto 316 = .ok (.aload_n 0, 1) := by decide +kernel
theorem dX4_mergeInto_317 : decode cX4_mergeInto 317 = .ok (.getfield 68, 3) := by decide +kernel
theorem dX4_mergeInto_320 : decode cX4_mergeInto 320 = .ok (.iload 6, 2) := by decide +kernel
theorem dX4_mergeInto_322 : decode cX4_mergeInto 322 = .ok (.iaload, 1) := by decide +kernel
theorem dX4_mergeInto_323 : decode cX4_mergeInto 323 = .ok (.iastore, 1) := by decide +kernel
theorem dX4_mergeInto_324 : decode cX4_mergeInto 324 = .ok (.iconst 0, 1) := by decide +kernel
theorem dX4_mergeInto_325 : decode cX4_mergeInto 325 = .ok (.istore 7, 2) := by decide +kernel
theorem dX4_mergeInto_327 : decode cX4_mergeInto 327 = .ok (.iload 7, 2) := by decide +kernel
theorem dX4_mergeInto_329 : decode cX4_mergeInto 329 = .ok (.bipush 12, 2) := by decide +kernel
theorem dX4_mergeInto_331 : decode cX4_mergeInto 331 = .ok (.if_icmp .ge 39, 3) := by decide +kernel
theorem dX4_mergeInto_334 : decode cX4_mergeInto 334 = .ok (.aload_n 0, 1) := by decide +kernel
theorem dX4_mergeInto_335 : decode cX4_mergeInto 335 = .ok (.getfield 53, 3) := by decide +kernel
theorem dX4_mergeInto_338 : decode cX4_mergeInto 338 = .ok (.bipush 12, 2) := by decide +kernel
theorem dX4_mergeInto_340 : decode cX4_mergeInto 340 = .ok (.iload_n 1, 1) := by decide +kernel
theorem dX4_mergeInto_341 : decode cX4_mergeInto 341 = .ok (.iload 6, 2) := by decide +kernel
theorem dX4_mergeInto_343 : decode cX4_mergeInto 343 = .ok (.invokestatic 107, 3) := by decide +kernel
theorem dX4_mergeInto_346 : decode cX4_mergeInto 346 = .ok (.imul, 1) := by decide +kernel
theorem dX4_mergeInto_347 : decode cX4_mergeInto 347 = .ok (.iload 7, 2) := by decide +kernel
theorem dX4_mergeInto_349 : decode cX4_mergeInto 349 = .ok (.iadd, 1) := by decide +kernel
theorem dX4_mergeInto_350 : decode cX4_mergeInto 350 = .ok (.aload_n 0, 1) := by decide +kernel
theorem dX4_mergeInto_351 : decode cX4_mergeInto 351 = .ok (.getfield 71, 3) := by decide +kernel
theorem dX4_mergeInto_354 : decode cX4_mergeInto 354 = .ok (.bipush 12, 2) := by decide +kernel
theorem dX4_mergeInto_356 : decode cX4_mergeInto 356 = .ok (.iload 6, 2) := by decide +kernel
theorem dX4_mergeInto_358 : decode cX4_mergeInto 358 = .ok (.imul, 1) := by decide +kernel
theorem dX4_mergeInto_359 : decode cX4_mergeInto 359 = .ok (.iload 7, 2) := by decide +kernel
theorem dX4_mergeInto_361 : decode cX4_mergeInto 361 = .ok (.iadd, 1) := by decide +kernel
theorem dX4_mergeInto_362 : decode cX4_mergeInto 362 = .ok (.iaload, 1) := by decide +kernel
theorem dX4_mergeInto_363 : decode cX4_mergeInto 363 = .ok (.iastore, 1) := by decide +kernel
theorem dX4_mergeInto_364 : decode cX4_mergeInto 364 = .ok (.iinc 7 1, 3) := by decide +kernel
theorem dX4_mergeInto_367 : decode cX4_mergeInto 367 = .ok (.goto (-40), 3) := by decide +kernel
theorem dX4_mergeInto_370 : decode cX4_mergeInto 370 = .ok (.iinc 6 1, 3) := by decide +kernel
theorem dX4_mergeInto_373 : decode cX4_mergeInto 373 = .ok (.goto (-92), 3) := by decide +kernel
theorem dX4_mergeInto_376 : decode cX4_mergeInto 376 = .ok (.aload_n 0, 1) := by decide +kernel
theorem dX4_mergeInto_377 : decode cX4_mergeInto 377 = .ok (.getfield 41, 3) := by decide +kernel
theorem dX4_mergeInto_380 : decode cX4_mergeInto 380 = .ok (.iload_n 1, 1) := by decide +kernel
theorem dX4_mergeInto_381 : decode cX4_mergeInto 381 = .ok (.iload 5, 2) := by decide +kernel
theorem dX4_mergeInto_383 : decode cX4_mergeInto 383 = .ok (.iastore, 1) := by decide +kernel
theorem dX4_mergeInto_384 : decode cX4_mergeInto 384 = .ok (.aload_n 0, 1) := by decide +kernel
theorem dX4_mergeInto_385 : decode cX4_mergeInto 385 = .ok (.getfield 44, 3) := by decide +kernel
theorem dX4_mergeInto_388 : decode cX4_mergeInto 388 = .ok (.iload_n 1, 1) := by decide +kernel
theorem dX4_mergeInto_389 : decode cX4_mergeInto 389 = .ok (.dup2, 1) := by decide +kernel
theorem dX4_mergeInto_390 : decode cX4_mergeInto 390 = .ok (.iaload, 1) := by decide +kernel
theorem dX4_mergeInto_391 : decode cX4_mergeInto 391 = .ok (.iconst 1, 1) := by decide +kernel
theorem dX4_mergeInto_392 : decode cX4_mergeInto 392 = .ok (.iload_n 2, 1) := by decide +kernel
theorem dX4_mergeInto_393 : decode cX4_mergeInto 393 = .ok (.ishl, 1) := by decide +kernel
theorem dX4_mergeInto_394 : decode cX4_mergeInto 394 = .ok (.ior, 1) := by decide +kernel
theorem dX4_mergeInto_395 : decode cX4_mergeInto 395 = .ok (.iastore, 1) := by decide +kernel
theorem dX4_mergeInto_396 : decode cX4_mergeInto 396 = .ok (.return_, 1) := by decide +kernel
theorem dX4_setCosts_0 : decode cX4_setCosts 0 = .ok (.aload_n 0, 1) := by decide +kernel
theorem dX4_setCosts_1 : decode cX4_setCosts 1 = .ok (.iload_n 1, 1) := by decide +kernel
theorem dX4_setCosts_2 : decode cX4_setCosts 2 = .ok (.iload_n 2, 1) := by decide +kernel
theorem dX4_setCosts_3 : decode cX4_setCosts 3 = .ok (.iload_n 3, 1) := by decide +kernel
theorem dX4_setCosts_4 : decode cX4_setCosts 4 = .ok (.invokestatic 134, 3) := by decide +kernel
theorem dX4_setCosts_7 : decode cX4_setCosts 7 = .ok (.invokestatic 134, 3) := by decide +kernel
theorem dX4_setCosts_10 : decode cX4_setCosts 10 = .ok (.ifCond .lt 17, 3) := by decide +kernel
theorem dX4_setCosts_13 : decode cX4_setCosts 13 = .ok (.iload_n 1, 1) := by decide +kernel
theorem dX4_setCosts_14 : decode cX4_setCosts 14 = .ok (.iload_n 2, 1) := by decide +kernel
theorem dX4_setCosts_15 : decode cX4_setCosts 15 = .ok (.iload_n 3, 1) := by decide +kernel
theorem dX4_setCosts_16 : decode cX4_setCosts 16 = .ok (.invokestatic 142, 3) := by decide +kernel
theorem dX4_setCosts_19 : decode cX4_setCosts 19 = .ok (.invokestatic 142, 3) := by decide +kernel
theorem dX4_setCosts_22 : decode cX4_setCosts 22 = .ok (.bipush 20, 2) := by decide +kernel
theorem dX4_setCosts_24 : decode cX4_setCosts 24 = .ok (.if_icmp .le 7, 3) := by decide +kernel
theorem dX4_setCosts_27 : decode cX4_setCosts 27 = .ok (.iconst 1, 1) := by decide +kernel
theorem dX4_setCosts_28 : decode cX4_setCosts 28 = .ok (.goto 4, 3) := by decide +kernel
theorem dX4_setCosts_31 : decode cX4_setCosts 31 = .ok (.iconst 0, 1) := by decide +kernel
theorem dX4_setCosts_32 : decode cX4_setCosts 32 = .ok (.putfield 74, 3) := by decide +kernel
theorem dX4_setCosts_35 : decode cX4_setCosts 35 = .ok (.aload_n 0, 1) := by decide +kernel
theorem dX4_setCosts_36 : decode cX4_setCosts 36 = .ok (.getfield 74, 3) := by decide +kernel
theorem dX4_setCosts_39 : decode cX4_setCosts 39 = .ok (.ifCond .eq 5, 3) := by decide +kernel
theorem dX4_setCosts_42 : decode cX4_setCosts 42 = .ok (.iconst 0, 1) := by decide +kernel
theorem dX4_setCosts_43 : decode cX4_setCosts 43 = .ok (.ireturn, 1) := by decide +kernel
theorem dX4_setCosts_44 : decode cX4_setCosts 44 = .ok (.aload_n 0, 1) := by decide +kernel
theorem dX4_setCosts_45 : decode cX4_setCosts 45 = .ok (.getfield 31, 3) := by decide +kernel
theorem dX4_setCosts_48 : decode cX4_setCosts 48 = .ok (.iload_n 1, 1) := by decide +kernel
theorem dX4_setCosts_49 : decode cX4_setCosts 49 = .ok (.if_icmp .ne 19, 3) := by decide +kernel
theorem dX4_setCosts_52 : decode cX4_setCosts 52 = .ok (.aload_n 0, 1) := by decide +kernel
theorem dX4_setCosts_53 : decode cX4_setCosts 53 = .ok (.getfield 35, 3) := by decide +kernel
theorem dX4_setCosts_56 : decode cX4_setCosts 56 = .ok (.iload_n 2, 1) := by decide +kernel
theorem dX4_setCosts_57 : decode cX4_setCosts 57 = .ok (.if_icmp .ne 11, 3) := by decide +kernel
theorem dX4_setCosts_60 : decode cX4_setCosts 60 = .ok (.aload_n 0, 1) := by decide +kernel
theorem dX4_setCosts_61 : decode cX4_setCosts 61 = .ok (.getfield 38, 3) := by decide +kernel
theorem dX4_setCosts_64 : decode cX4_setCosts 64 = .ok (.iload_n 3, 1) := by decide +kernel
theorem dX4_setCosts_65 : decode cX4_setCosts 65 = .ok (.if_icmp .eq 7, 3) := by decide +kernel
theorem dX4_setCosts_68 : decode cX4_setCosts 68 = .ok (.iconst 1, 1) := by decide +kernel
theorem dX4_setCosts_69 : decode cX4_setCosts 69 = .ok (.goto 4, 3) := by decide +kernel
theorem dX4_setCosts_72 : decode cX4_setCosts 72 = .ok (.iconst 0, 1) := by decide +kernel
theorem dX4_setCosts_73 : decode cX4_setCosts 73 = .ok (.istore 4, 2) := by decide +kernel
theorem dX4_setCosts_75 : decode cX4_setCosts 75 = .ok (.aload_n 0, 1) := by decide +kernel
theorem dX4_setCosts_76 : decode cX4_setCosts 76 = .ok (.iload_n 1, 1) := by decide +kernel
theorem dX4_setCosts_77 : decode cX4_setCosts 77 = .ok (.putfield 31, 3) := by decide +kernel
theorem dX4_setCosts_80 : decode cX4_setCosts 80 = .ok (.aload_n 0, 1) := by decide +kernel
theorem dX4_setCosts_81 : decode cX4_setCosts 81 = .ok (.iload_n 2, 1) := by decide +kernel
theorem dX4_setCosts_82 : decode cX4_setCosts 82 = .ok (.putfield 35, 3) := by decide +kernel
theorem dX4_setCosts_85 : decode cX4_setCosts 85 = .ok (.aload_n 0, 1) := by decide +kernel
theorem dX4_setCosts_86 : decode cX4_setCosts 86 = .ok (.iload_n 3, 1) := by decide +kernel
theorem dX4_setCosts_87 : decode cX4_setCosts 87 = .ok (.putfield 38, 3) := by decide +kernel
theorem dX4_setCosts_90 : decode cX4_setCosts 90 = .ok (.aload_n 0, 1) := by decide +kernel
theorem dX4_setCosts_91 : decode cX4_setCosts 91 = .ok (.iconst 0, 1) := by decide +kernel
theorem dX4_setCosts_92 : decode cX4_setCosts 92 = .ok (.putfield 92, 3) := by decide +kernel
theorem dX4_setCosts_95 : decode cX4_setCosts 95 = .ok (.iload 4, 2) := by decide +kernel
theorem dX4_setCosts_97 : decode cX4_setCosts 97 = .ok (.ireturn, 1) := by decide +kernel
theorem dX4_merge_0 : decode cX4_merge 0 = .ok (.aload_n 0, 1) := by decide +kernel
theorem dX4_merge_1 : decode cX4_merge 1 = .ok (.iconst 0, 1) := by decide +kernel
theorem dX4_merge_2 : decode cX4_merge 2 = .ok (.putfield 74, 3) := by decide +kernel
theorem dX4_merge_5 : decode cX4_merge 5 = .ok (.aload_n 0, 1) := by decide +kernel
theorem dX4_merge_6 : decode cX4_merge 6 = .ok (.iload_n 1, 1) := by decide +kernel
theorem dX4_merge_7 : decode cX4_merge 7 = .ok (.invokevirtual 96, 3) := by decide +kernel
theorem dX4_merge_10 : decode cX4_merge 10 = .ok (.ifCond .ne 9, 3) := by decide +kernel
theorem dX4_merge_13 : decode cX4_merge 13 = .ok (.aload_n 0, 1) := by decide +kernel
theorem dX4_merge_14 : decode cX4_merge 14 = .ok (.iconst 1, 1) := by decide +kernel
theorem dX4_merge_15 : decode cX4_merge 15 = .ok (.invokevirtual 85, 3) := by decide +kernel
theorem dX4_merge_18 : decode cX4_merge 18 = .ok (.ireturn, 1) := by decide +kernel
theorem dX4_merge_19 : decode cX4_merge 19 = .ok (.aload_n 0, 1) := by decide +kernel
theorem dX4_merge_20 : decode cX4_merge 20 = .ok (.getfield 44, 3) := by decide +kernel
theorem dX4_merge_23 : decode cX4_merge 23 = .ok (.iconst 0, 1) := by decide +kernel
theorem dX4_merge_24 : decode cX4_merge 24 = .ok (.iaload, 1) := by decide +kernel
theorem dX4_merge_25 : decode cX4_merge 25 = .ok (.iload_n 1, 1) := by decide +kernel
theorem dX4_merge_26 : decode cX4_merge 26 = .ok (.ishr, 1) := by decide +kernel
theorem dX4_merge_27 : decode cX4_merge 27 = .ok (.iconst 1, 1) := by decide +kernel
theorem dX4_merge_28 : decode cX4_merge 28 = .ok (.iand, 1) := by decide +kernel
theorem dX4_merge_29 : decode cX4_merge 29 = .ok (.iconst 1, 1) := by decide +kernel
theorem dX4_merge_30 : decode cX4_merge 30 = .ok (.if_icmp .ne 9, 3) := by decide +kernel
theorem dX4_merge_33 : decode cX4_merge 33 = .ok (.aload_n 0, 1) := by decide +kernel
theorem dX4_merge_34 : decode cX4_merge 34 = .ok (.iconst 2, 1) := by decide +kernel
theorem dX4_merge_35 : decode cX4_merge 35 = .ok (.invokevirtual 85, 3) := by decide +kernel
theorem dX4_merge_38 : decode cX4_merge 38 = .ok (.ireturn, 1) := by decide +kernel
theorem dX4_merge_39 : decode cX4_merge 39 = .ok (.aload_n 0, 1) := by decide +kernel
theorem dX4_merge_40 : decode cX4_merge 40 = .ok (.iconst 0, 1) := by decide +kernel
theorem dX4_merge_41 : decode cX4_merge 41 = .ok (.iload_n 1, 1) := by decide +kernel
theorem dX4_merge_42 : decode cX4_merge 42 = .ok (.invokevirtual 145, 3) := by decide +kernel
theorem dX4_merge_45 : decode cX4_merge 45 = .ok (.istore_n 2, 1) := by decide +kernel
theorem dX4_merge_46 : decode cX4_merge 46 = .ok (.aload_n 0, 1) := by decide +kernel
theorem dX4_merge_47 : decode cX4_merge 47 = .ok (.iconst 0, 1) := by decide +kernel
theorem dX4_merge_48 : decode cX4_merge 48 = .ok (.iload_n 1, 1) := by decide +kernel
theorem dX4_merge_49 : decode cX4_merge 49 = .ok (.invokevirtual 148, 3) := by decide +kernel
theorem dX4_merge_52 : decode cX4_merge 52 = .ok (.aload_n 0, 1) := by decide +kernel
theorem dX4_merge_53 : decode cX4_merge 53 = .ok (.getfield 41, 3) := by decide +kernel
theorem dX4_merge_56 : decode cX4_merge 56 = .ok (.iconst 0, 1) := by decide +kernel
theorem dX4_merge_57 : decode cX4_merge 57 = .ok (.iaload, 1) := by decide +kernel
theorem dX4_merge_58 : decode cX4_merge 58 = .ok (.aload_n 0, 1) := by decide +kernel
theorem dX4_merge_59 : decode cX4_merge 59 = .ok (.invokevirtual 152, 3) := by decide +kernel
theorem dX4_merge_62 : decode cX4_merge 62 = .ok (.iadd, 1) := by decide +kernel
theorem dX4_merge_63 : decode cX4_merge 63 = .ok (.bipush 40, 2) := by decide +kernel
theorem dX4_merge_65 : decode cX4_merge 65 = .ok (.if_icmp .le 9, 3) := by decide +kernel
theorem dX4_merge_68 : decode cX4_merge 68 = .ok (.aload_n 0, 1) := by decide +kernel
theorem dX4_merge_69 : decode cX4_merge 69 = .ok (.iconst 2, 1) := by decide +kernel
theorem dX4_merge_70 : decode cX4_merge 70 = .ok (.invokevirtual 85, 3) := by decide +kernel
theorem dX4_merge_73 : decode cX4_merge 73 = .ok (.ireturn, 1) := by decide +kernel
theorem dX4_merge_74 : decode cX4_merge 74 = .ok (.aload_n 0, 1) := by decide +kernel
theorem dX4_merge_75 : decode cX4_merge 75 = .ok (.iconst 0, 1) := by decide +kernel
theorem dX4_merge_76 : decode cX4_merge 76 = .ok (.iload_n 1, 1) := by decide +kernel
theorem dX4_merge_77 : decode cX4_merge 77 = .ok (.invokevirtual 156, 3) := by decide +kernel
theorem dX4_merge_80 : decode cX4_merge 80 = .ok (.iload_n 2, 1) := by decide +kernel
theorem dX4_merge_81 : decode cX4_merge 81 = .ok (.ireturn, 1) := by decide +kernel
theorem dX4_clear_0 : decode cX4_clear 0 = .ok (.aload_n 0, 1) := by decide +kernel
theorem dX4_clear_1 : decode cX4_clear 1 = .ok (.iconst 0, 1) := by decide +kernel
theorem dX4_clear_2 : decode cX4_clear 2 = .ok (.putfield 74, 3) := by decide +kernel
theorem dX4_clear_5 : decode cX4_clear 5 = .ok (.aload_n 0, 1) := by decide +kernel
theorem dX4_clear_6 : decode cX4_clear 6 = .ok (.getfield 44, 3) := by decide +kernel
theorem dX4_clear_9 : decode cX4_clear 9 = .ok (.iconst 0, 1) := by decide +kernel
theorem dX4_clear_10 : decode cX4_clear 10 = .ok (.iaload, 1) := by decide +kernel
theorem dX4_clear_11 : decode cX4_clear 11 = .ok (.invokestatic 118, 3) := by decide +kernel
theorem dX4_clear_14 : decode cX4_clear 14 = .ok (.istore_n 1, 1) := by decide +kernel
theorem dX4_clear_15 : decode cX4_clear 15 = .ok (.aload_n 0, 1) := by decide +kernel
theorem dX4_clear_16 : decode cX4_clear 16 = .ok (.getfield 44, 3) := by decide +kernel
theorem dX4_clear_19 : decode cX4_clear 19 = .ok (.iconst 0, 1) := by decide +kernel
theorem dX4_clear_20 : decode cX4_clear 20 = .ok (.iconst 0, 1) := by decide +kernel
theorem dX4_clear_21 : decode cX4_clear 21 = .ok (.iastore, 1) := by decide +kernel
theorem dX4_clear_22 : decode cX4_clear 22 = .ok (.aload_n 0, 1) := by decide +kernel
theorem dX4_clear_23 : decode cX4_clear 23 = .ok (.getfield 41, 3) := by decide +kernel
theorem dX4_clear_26 : decode cX4_clear 26 = .ok (.iconst 0, 1) := by decide +kernel
theorem dX4_clear_27 : decode cX4_clear 27 = .ok (.iconst 0, 1) := by decide +kernel
theorem dX4_clear_28 : decode cX4_clear 28 = .ok (.iastore, 1) := by decide +kernel
theorem dX4_clear_29 : decode cX4_clear 29 = .ok (.iload_n 1, 1) := by decide +kernel
theorem dX4_clear_30 : decode cX4_clear 30 = .ok (.ireturn, 1) := by decide +kernel
theorem dX4_isMerged_0 : decode cX4_isMerged 0 = .ok (.aload_n 0, 1) := by decide +kernel
theorem dX4_isMerged_1 : decode cX4_isMerged 1 = .ok (.aload_n 0, 1) := by decide +kernel
theorem dX4_isMerged_2 : decode cX4_isMerged 2 = .ok (.iload_n 1, 1) := by decide +kernel
theorem dX4_isMerged_3 : decode cX4_isMerged 3 = .ok (.invokevirtual 96, 3) := by decide +kernel
theorem dX4_isMerged_6 : decode cX4_isMerged 6 = .ok (.ifCond .eq 7, 3) := by decide +kernel
theorem dX4_isMerged_9 : decode cX4_isMerged 9 = .ok (.iconst 0, 1) := by decide +kernel
theorem dX4_isMerged_10 : decode cX4_isMerged 10 = .ok (.goto 4, 3) := by decide +kernel
theorem dX4_isMerged_13 : decode cX4_isMerged 13 = .ok (.iconst 1, 1) := by decide +kernel
theorem dX4_isMerged_14 : decode cX4_isMerged 14 = .ok (.putfield 74, 3) := by decide +kernel
theorem dX4_isMerged_17 : decode cX4_isMerged 17 = .ok (.aload_n 0, 1) := by decide +kernel
theorem dX4_isMerged_18 : decode cX4_isMerged 18 = .ok (.getfield 74, 3) := by decide +kernel
theorem dX4_isMerged_21 : decode cX4_isMerged 21 = .ok (.ifCond .ne 21, 3) := by decide +kernel
theorem dX4_isMerged_24 : decode cX4_isMerged 24 = .ok (.aload_n 0, 1) := by decide +kernel
theorem dX4_isMerged_25 : decode cX4_isMerged 25 = .ok (.getfield 44, 3) := by decide +kernel
theorem dX4_isMerged_28 : decode cX4_isMerged 28 = .ok (.iconst 0, 1) := by decide +kernel
theorem dX4_isMerged_29 : decode cX4_isMerged 29 = .ok (.iaload, 1) := by decide +kernel
theorem dX4_isMerged_30 : decode cX4_isMerged 30 = .ok (.iload_n 1, 1) := by decide +kernel
theorem dX4_isMerged_31 : decode cX4_isMerged 31 = .ok (.ishr, 1) := by decide +kernel
theorem dX4_isMerged_32 : decode cX4_isMerged 32 = .ok (.iconst 1, 1) := by decide +kernel
theorem dX4_isMerged_33 : decode cX4_isMerged 33 = .ok (.iand, 1) := by decide +kernel
theorem dX4_isMerged_34 : decode cX4_isMerged 34 = .ok (.iconst 1, 1) := by decide +kernel
theorem dX4_isMerged_35 : decode cX4_isMerged 35 = .ok (.if_icmp .ne 7, 3) := by decide +kernel
theorem dX4_isMerged_38 : decode cX4_isMerged 38 = .ok (.iconst 1, 1) := by decide +kernel
theorem dX4_isMerged_39 : decode cX4_isMerged 39 = .ok (.goto 4, 3) := by decide +kernel
theorem dX4_isMerged_42 : decode cX4_isMerged 42 = .ok (.iconst 0, 1) := by decide +kernel
theorem dX4_isMerged_43 : decode cX4_isMerged 43 = .ok (.ireturn, 1) := by decide +kernel
theorem dX4_costWith_0 : decode cX4_costWith 0 = .ok (.aload_n 0, 1) := by decide +kernel
theorem dX4_costWith_1 : decode cX4_costWith 1 = .ok (.iconst 0, 1) := by decide +kernel
theorem dX4_costWith_2 : decode cX4_costWith 2 = .ok (.putfield 74, 3) := by decide +kernel
theorem dX4_costWith_5 : decode cX4_costWith 5 = .ok (.aload_n 0, 1) := by decide +kernel
theorem dX4_costWith_6 : decode cX4_costWith 6 = .ok (.iload_n 1, 1) := by decide +kernel
theorem dX4_costWith_7 : decode cX4_costWith 7 = .ok (.invokevirtual 96, 3) := by decide +kernel
theorem dX4_costWith_10 : decode cX4_costWith 10 = .ok (.ifCond .eq 12, 3) := by decide +kernel
theorem dX4_costWith_13 : decode cX4_costWith 13 = .ok (.aload_n 0, 1) := by decide +kernel
theorem dX4_costWith_14 : decode cX4_costWith 14 = .ok (.iconst 0, 1) := by decide +kernel
theorem dX4_costWith_15 : decode cX4_costWith 15 = .ok (.iload_n 1, 1) := by decide +kernel
theorem dX4_costWith_16 : decode cX4_costWith 16 = .ok (.invokevirtual 145, 3) := by decide +kernel
theorem dX4_costWith_19 : decode cX4_costWith 19 = .ok (.goto 8, 3) := by decide +kernel
theorem dX4_costWith_22 : decode cX4_costWith 22 = .ok (.aload_n 0, 1) := by decide +kernel
theorem dX4_costWith_23 : decode cX4_costWith 23 = .ok (.iconst 1, 1) := by decide +kernel
theorem dX4_costWith_24 : decode cX4_costWith 24 = .ok (.invokevirtual 85, 3) := by decide +kernel
theorem dX4_costWith_27 : decode cX4_costWith 27 = .ok (.ireturn, 1) := by decide +kernel
theorem dX4_extreme_0 : decode cX4_extreme 0 = .ok (.iconst (-1), 1) := by decide +kernel
theorem dX4_extreme_1 : decode cX4_extreme 1 = .ok (.istore_n 3, 1) := by decide +kernel
theorem dX4_extreme_2 : decode cX4_extreme 2 = .ok (.iconst 0, 1) := by decide +kernel
theorem dX4_extreme_3 : decode cX4_extreme 3 = .ok (.istore 4, 2) := by decide +kernel
theorem dX4_extreme_5 : decode cX4_extreme 5 = .ok (.iload 4, 2) := by decide +kernel
theorem dX4_extreme_7 : decode cX4_extreme 7 = .ok (.aload_n 0, 1) := by decide +kernel
theorem dX4_extreme_8 : decode cX4_extreme 8 = .ok (.getfield 77, 3) := by decide +kernel
theorem dX4_extreme_11 : decode cX4_extreme 11 = .ok (.if_icmp .ge 71, 3) := by decide +kernel
theorem dX4_extreme_14 : decode cX4_extreme 14 = .ok (.aload_n 0, 1) := by decide +kernel
theorem dX4_extreme_15 : decode cX4_extreme 15 = .ok (.iconst 0, 1) := by decide +kernel
theorem dX4_extreme_16 : decode cX4_extreme 16 = .ok (.iload_n 1, 1) := by decide +kernel
theorem dX4_extreme_17 : decode cX4_extreme 17 = .ok (.iload 4, 2) := by decide +kernel
theorem dX4_extreme_19 : decode cX4_extreme 19 = .ok (.invokevirtual 111, 3) := by decide +kernel
theorem dX4_extreme_22 : decode cX4_extreme 22 = .ok (.istore 5, 2) := by decide +kernel
theorem dX4_extreme_24 : decode cX4_extreme 24 = .ok (.iload 5, 2) := by decide +kernel
theorem dX4_extreme_26 : decode cX4_extreme 26 = .ok (.iconst (-1), 1) := by decide +kernel
theorem dX4_extreme_27 : decode cX4_extreme 27 = .ok (.if_icmp .ne 6, 3) := by decide +kernel
theorem dX4_extreme_30 : decode cX4_extreme 30 = .ok (.goto 46, 3) := by decide +kernel
theorem dX4_extreme_33 : decode cX4_extreme 33 = .ok (.aload_n 0, 1) := by decide +kernel
theorem dX4_extreme_34 : decode cX4_extreme 34 = .ok (.getfield 28, 3) := by decide +kernel
theorem dX4_extreme_37 : decode cX4_extreme 37 = .ok (.bipush 30, 2) := by decide +kernel
theorem dX4_extreme_39 : decode cX4_extreme 39 = .ok (.iload 4, 2) := by decide +kernel
theorem dX4_extreme_41 : decode cX4_extreme 41 = .ok (.imul, 1) := by decide +kernel
theorem dX4_extreme_42 : decode cX4_extreme 42 = .ok (.iload 5, 2) := by decide +kernel
theorem dX4_extreme_44 : decode cX4_extreme 44 = .ok (.iadd, 1) := by decide +kernel
theorem dX4_extreme_45 : decode cX4_extreme 45 = .ok (.iaload, 1) := by decide +kernel
theorem dX4_extreme_46 : decode cX4_extreme 46 = .ok (.istore 6, 2) := by decide +kernel
theorem dX4_extreme_48 : decode cX4_extreme 48 = .ok (.iload_n 3, 1) := by decide +kernel
theorem dX4_extreme_49 : decode cX4_extreme 49 = .ok (.iconst (-1), 1) := by decide +kernel
theorem dX4_extreme_50 : decode cX4_extreme 50 = .ok (.if_icmp .eq 23, 3) := by decide +kernel
theorem dX4_extreme_53 : decode cX4_extreme 53 = .ok (.iload_n 2, 1) := by decide +kernel
theorem dX4_extreme_54 : decode cX4_extreme 54 = .ok (.ifCond .eq 9, 3) := by decide +kernel
theorem dX4_extreme_57 : decode cX4_extreme 57 = .ok (.iload 6, 2) := by decide +kernel
theorem dX4_extreme_59 : decode cX4_extreme 59 = .ok (.iload_n 3, 1) := by decide +kernel
theorem dX4_extreme_60 : decode cX4_extreme 60 = .ok (.if_icmp .gt 13, 3) := by decide +kernel
theorem dX4_extreme_63 : decode cX4_extreme 63 = .ok (.iload_n 2, 1) := by decide +kernel
theorem dX4_extreme_64 : decode cX4_extreme 64 = .ok (.ifCond .ne 12, 3) := by decide +kernel
theorem dX4_extreme_67 : decode cX4_extreme 67 = .ok (.iload 6, 2) := by decide +kernel
theorem dX4_extreme_69 : decode cX4_extreme 69 = .ok (.iload_n 3, 1) := by decide +kernel
theorem dX4_extreme_70 : decode cX4_extreme 70 = .ok (.if_icmp .ge 6, 3) := by decide +kernel
theorem dX4_extreme_73 : decode cX4_extreme 73 = .ok (.iload 6, 2) := by decide +kernel
theorem dX4_extreme_75 : decode cX4_extreme 75 = .ok (.istore_n 3, 1) := by decide +kernel
theorem dX4_extreme_76 : decode cX4_extreme 76 = .ok (.iinc 4 1, 3) := by decide +kernel
theorem dX4_extreme_79 : decode cX4_extreme 79 = .ok (.goto (-74), 3) := by decide +kernel
theorem dX4_extreme_82 : decode cX4_extreme 82 = .ok (.iload_n 3, 1) := by decide +kernel
theorem dX4_extreme_83 : decode cX4_extreme 83 = .ok (.ireturn, 1) := by decide +kernel
theorem dX4_canPair_0 : decode cX4_canPair 0 = .ok (.iconst 0, 1) := by decide +kernel
theorem dX4_canPair_1 : decode cX4_canPair 1 = .ok (.iload_n 1, 1) := by decide +kernel
theorem dX4_canPair_2 : decode cX4_canPair 2 = .ok (.invokestatic 107, 3) := by decide +kernel
theorem dX4_canPair_5 : decode cX4_canPair 5 = .ok (.istore_n 3, 1) := by decide +kernel
theorem dX4_canPair_6 : decode cX4_canPair 6 = .ok (.aload_n 0, 1) := by decide +kernel
theorem dX4_canPair_7 : decode cX4_canPair 7 = .ok (.getfield 47, 3) := by decide +kernel
theorem dX4_canPair_10 : decode cX4_canPair 10 = .ok (.iload_n 3, 1) := by decide +kernel
theorem dX4_canPair_11 : decode cX4_canPair 11 = .ok (.iaload, 1) := by decide +kernel
theorem dX4_canPair_12 : decode cX4_canPair 12 = .ok (.aload_n 0, 1) := by decide +kernel
theorem dX4_canPair_13 : decode cX4_canPair 13 = .ok (.getfield 22, 3) := by decide +kernel
theorem dX4_canPair_16 : decode cX4_canPair 16 = .ok (.iload_n 2, 1) := by decide +kernel
theorem dX4_canPair_17 : decode cX4_canPair 17 = .ok (.iaload, 1) := by decide +kernel
theorem dX4_canPair_18 : decode cX4_canPair 18 = .ok (.if_icmp .eq 5, 3) := by decide +kernel
theorem dX4_canPair_21 : decode cX4_canPair 21 = .ok (.iconst 0, 1) := by decide +kernel
theorem dX4_canPair_22 : decode cX4_canPair 22 = .ok (.ireturn, 1) := by decide +kernel
theorem dX4_canPair_23 : decode cX4_canPair 23 = .ok (.aload_n 0, 1) := by decide +kernel
theorem dX4_canPair_24 : decode cX4_canPair 24 = .ok (.getfield 50, 3) := by decide +kernel
theorem dX4_canPair_27 : decode cX4_canPair 27 = .ok (.iload_n 3, 1) := by decide +kernel
theorem dX4_canPair_28 : decode cX4_canPair 28 = .ok (.iaload, 1) := by decide +kernel
theorem dX4_canPair_29 : decode cX4_canPair 29 = .ok (.iconst (-1), 1) := by decide +kernel
theorem dX4_canPair_30 : decode cX4_canPair 30 = .ok (.if_icmp .eq 15, 3) := by decide +kernel
theorem dX4_canPair_33 : decode cX4_canPair 33 = .ok (.aload_n 0, 1) := by decide +kernel
theorem dX4_canPair_34 : decode cX4_canPair 34 = .ok (.aload_n 0, 1) := by decide +kernel
theorem dX4_canPair_35 : decode cX4_canPair 35 = .ok (.getfield 50, 3) := by decide +kernel
theorem dX4_canPair_38 : decode cX4_canPair 38 = .ok (.iload_n 3, 1) := by decide +kernel
theorem dX4_canPair_39 : decode cX4_canPair 39 = .ok (.iaload, 1) := by decide +kernel
theorem dX4_canPair_40 : decode cX4_canPair 40 = .ok (.iload_n 2, 1) := by decide +kernel
theorem dX4_canPair_41 : decode cX4_canPair 41 = .ok (.invokevirtual 104, 3) := by decide +kernel
theorem dX4_canPair_44 : decode cX4_canPair 44 = .ok (.ireturn, 1) := by decide +kernel
theorem dX4_canPair_45 : decode cX4_canPair 45 = .ok (.aload_n 0, 1) := by decide +kernel
theorem dX4_canPair_46 : decode cX4_canPair 46 = .ok (.getfield 28, 3) := by decide +kernel
theorem dX4_canPair_49 : decode cX4_canPair 49 = .ok (.iload_n 2, 1) := by decide +kernel
theorem dX4_canPair_50 : decode cX4_canPair 50 = .ok (.iaload, 1) := by decide +kernel
theorem dX4_canPair_51 : decode cX4_canPair 51 = .ok (.aload_n 0, 1) := by decide +kernel
theorem dX4_canPair_52 : decode cX4_canPair 52 = .ok (.iload_n 1, 1) := by decide +kernel
theorem dX4_canPair_53 : decode cX4_canPair 53 = .ok (.iconst 0, 1) := by decide +kernel
theorem dX4_canPair_54 : decode cX4_canPair 54 = .ok (.invokevirtual 159, 3) := by decide +kernel
theorem dX4_canPair_57 : decode cX4_canPair 57 = .ok (.if_icmp .lt 22, 3) := by decide +kernel
theorem dX4_canPair_60 : decode cX4_canPair 60 = .ok (.aload_n 0, 1) := by decide +kernel
theorem dX4_canPair_61 : decode cX4_canPair 61 = .ok (.getfield 28, 3) := by decide +kernel
theorem dX4_canPair_64 : decode cX4_canPair 64 = .ok (.iload_n 2, 1) := by decide +kernel
theorem dX4_canPair_65 : decode cX4_canPair 65 = .ok (.iaload, 1) := by decide +kernel
theorem dX4_canPair_66 : decode cX4_canPair 66 = .ok (.aload_n 0, 1) := by decide +kernel
theorem dX4_canPair_67 : decode cX4_canPair 67 = .ok (.iload_n 1, 1) := by decide +kernel
theorem dX4_canPair_68 : decode cX4_canPair 68 = .ok (.iconst 1, 1) := by decide +kernel
theorem dX4_canPair_69 : decode cX4_canPair 69 = .ok (.invokevirtual 159, 3) := by decide +kernel
theorem dX4_canPair_72 : decode cX4_canPair 72 = .ok (.if_icmp .gt 7, 3) := by decide +kernel
theorem dX4_canPair_75 : decode cX4_canPair 75 = .ok (.iconst 1, 1) := by decide +kernel
theorem dX4_canPair_76 : decode cX4_canPair 76 = .ok (.goto 4, 3) := by decide +kernel
theorem dX4_canPair_79 : decode cX4_canPair 79 = .ok (.iconst 0, 1) := by decide +kernel
theorem dX4_canPair_80 : decode cX4_canPair 80 = .ok (.ireturn, 1) := by decide +kernel
theorem dX4_fits_0 : decode cX4_fits 0 = .ok (.aload_n 0, 1) := by decide +kernel
theorem dX4_fits_1 : decode cX4_fits 1 = .ok (.aload_n 0, 1) := by decide +kernel
theorem dX4_fits_2 : decode cX4_fits 2 = .ok (.iload_n 1, 1) := by decide +kernel
theorem dX4_fits_3 : decode cX4_fits 3 = .ok (.invokevirtual 96, 3) := by decide +kernel
theorem dX4_fits_6 : decode cX4_fits 6 = .ok (.ifCond .eq 7, 3) := by decide +kernel
theorem dX4_fits_9 : decode cX4_fits 9 = .ok (.iconst 0, 1) := by decide +kernel
theorem dX4_fits_10 : decode cX4_fits 10 = .ok (.goto 4, 3) := by decide +kernel
theorem dX4_fits_13 : decode cX4_fits 13 = .ok (.iconst 1, 1) := by decide +kernel
theorem dX4_fits_14 : decode cX4_fits 14 = .ok (.putfield 74, 3) := by decide +kernel
theorem dX4_fits_17 : decode cX4_fits 17 = .ok (.aload_n 0, 1) := by decide +kernel
theorem dX4_fits_18 : decode cX4_fits 18 = .ok (.getfield 74, 3) := by decide +kernel
theorem dX4_fits_21 : decode cX4_fits 21 = .ok (.ifCond .eq 5, 3) := by decide +kernel
theorem dX4_fits_24 : decode cX4_fits 24 = .ok (.iconst 0, 1) := by decide +kernel
theorem dX4_fits_25 : decode cX4_fits 25 = .ok (.ireturn, 1) := by decide +kernel
theorem dX4_fits_26 : decode cX4_fits 26 = .ok (.sipush 1271, 3) := by decide +kernel
theorem dX4_fits_29 : decode cX4_fits 29 = .ok (.newarray .boolean, 2) := by decide +kernel
theorem dX4_fits_31 : decode cX4_fits 31 = .ok (.astore_n 2, 1) := by decide +kernel
theorem dX4_fits_32 : decode cX4_fits 32 = .ok (.iconst 0, 1) := by decide +kernel
theorem dX4_fits_33 : decode cX4_fits 33 = .ok (.istore_n 3, 1) := by decide +kernel
theorem dX4_fits_34 : decode cX4_fits 34 = .ok (.iload_n 3, 1) := by decide +kernel
theorem dX4_fits_35 : decode cX4_fits 35 = .ok (.aload_n 0, 1) := by decide +kernel
theorem dX4_fits_36 : decode cX4_fits 36 = .ok (.getfield 41, 3) := by decide +kernel
theorem dX4_fits_39 : decode cX4_fits 39 = .ok (.iconst 0, 1) := by decide +kernel
theorem dX4_fits_40 : decode cX4_fits 40 = .ok (.iaload, 1) := by decide +kernel
theorem dX4_fits_41 : decode cX4_fits 41 = .ok (.if_icmp .gt 148, 3) := by decide +kernel
theorem dX4_fits_44 : decode cX4_fits 44 = .ok (.iconst 0, 1) := by decide +kernel
theorem dX4_fits_45 : decode cX4_fits 45 = .ok (.istore 4, 2) := by decide +kernel
theorem dX4_fits_47 : decode cX4_fits 47 = .ok (.iload 4, 2) := by decide +kernel
theorem dX4_fits_49 : decode cX4_fits 49 = .ok (.aload_n 0, 1) := by decide +kernel
theorem dX4_fits_50 : decode cX4_fits 50 = .ok (.getfield 19, 3) := by decide +kernel
theorem dX4_fits_53 : decode cX4_fits 53 = .ok (.iload_n 1, 1) := by decide +kernel
theorem dX4_fits_54 : decode cX4_fits 54 = .ok (.iaload, 1) := by decide +kernel
theorem dX4_fits_55 : decode cX4_fits 55 = .ok (.if_icmp .gt 128, 3) := by decide +kernel
theorem dX4_fits_58 : decode cX4_fits 58 = .ok (.iload_n 3, 1) := by decide +kernel
theorem dX4_fits_59 : decode cX4_fits 59 = .ok (.iload 4, 2) := by decide +kernel
theorem dX4_fits_61 : decode cX4_fits 61 = .ok (.iadd, 1) := by decide +kernel
theorem dX4_fits_62 : decode cX4_fits 62 = .ok (.ifCond .ne 7, 3) := by decide +kernel
theorem dX4_fits_65 : decode cX4_fits 65 = .ok (.iconst 1, 1) := by decide +kernel
theorem dX4_fits_66 : decode cX4_fits 66 = .ok (.goto 4, 3) := by decide +kernel
theorem dX4_fits_69 : decode cX4_fits 69 = .ok (.iconst 0, 1) := by decide +kernel
theorem dX4_fits_70 : decode cX4_fits 70 = .ok (.istore 5, 2) := by decide +kernel
theorem dX4_fits_72 : decode cX4_fits 72 = .ok (.iload 5, 2) := by decide +kernel
theorem dX4_fits_74 : decode cX4_fits 74 = .ok (.ifCond .ne 31, 3) := by decide +kernel
theorem dX4_fits_77 : decode cX4_fits 77 = .ok (.iload_n 3, 1) := by decide +kernel
theorem dX4_fits_78 : decode cX4_fits 78 = .ok (.ifCond .le 31, 3) := by decide +kernel
theorem dX4_fits_81 : decode cX4_fits 81 = .ok (.aload_n 2, 1) := by decide +kernel
theorem dX4_fits_82 : decode cX4_fits 82 = .ok (.iload_n 3, 1) := by decide +kernel
theorem dX4_fits_83 : decode cX4_fits 83 = .ok (.iconst 1, 1) := by decide +kernel
theorem dX4_fits_84 : decode cX4_fits 84 = .ok (.isub, 1) := by decide +kernel
theorem dX4_fits_85 : decode cX4_fits 85 = .ok (.iload 4, 2) := by decide +kernel
theorem dX4_fits_87 : decode cX4_fits 87 = .ok (.invokestatic 123, 3) := by decide +kernel
theorem dX4_fits_90 : decode cX4_fits 90 = .ok (.baload, 1) := by decide +kernel
theorem dX4_fits_91 : decode cX4_fits 91 = .ok (.ifCond .eq 18, 3) := by decide +kernel
theorem dX4_fits_94 : decode cX4_fits 94 = .ok (.aload_n 0, 1) := by decide +kernel
theorem dX4_fits_95 : decode cX4_fits 95 = .ok (.iconst 0, 1) := by decide +kernel
theorem dX4_fits_96 : decode cX4_fits 96 = .ok (.iload_n 3, 1) := by decide +kernel
theorem dX4_fits_97 : decode cX4_fits 97 = .ok (.iconst 1, 1) := by decide +kernel
theorem dX4_fits_98 : decode cX4_fits 98 = .ok (.isub, 1) := by decide +kernel
theorem dX4_fits_99 : decode cX4_fits 99 = .ok (.invokevirtual 126, 3) := by decide +kernel
theorem dX4_fits_102 : decode cX4_fits 102 = .ok (.ifCond .eq 7, 3) := by decide +kernel
theorem dX4_fits_105 : decode cX4_fits 105 = .ok (.iconst 1, 1) := by decide +kernel
theorem dX4_fits_106 : decode cX4_fits 106 = .ok (.goto 4, 3) := by decide +kernel
theorem dX4_fits_109 : decode cX4_fits 109 = .ok (.iconst 0, 1) := by decide +kernel
theorem dX4_fits_110 : decode cX4_fits 110 = .ok (.istore 5, 2) := by decide +kernel
theorem dX4_fits_112 : decode cX4_fits 112 = .ok (.iload 5, 2) := by decide +kernel
theorem dX4_fits_114 : decode cX4_fits 114 = .ok (.ifCond .ne 46, 3) := by decide +kernel
theorem dX4_fits_117 : decode cX4_fits 117 = .ok (.iload_n 3, 1) := by decide +kernel
theorem dX4_fits_118 : decode cX4_fits 118 = .ok (.ifCond .le 46, 3) := by decide +kernel
theorem dX4_fits_121 : decode cX4_fits 121 = .ok (.iload 4, 2) := by decide +kernel
theorem dX4_fits_123 : decode cX4_fits 123 = .ok (.ifCond .le 41, 3) := by decide +kernel
theorem dX4_fits_126 : decode cX4_fits 126 = .ok (.aload_n 2, 1) := by decide +kernel
theorem dX4_fits_127 : decode cX4_fits 127 = .ok (.iload_n 3, 1) := by decide +kernel
theorem dX4_fits_128 : decode cX4_fits 128 = .ok (.iconst 1, 1) := by decide +kernel
theorem dX4_fits_129 : decode cX4_fits 129 = .ok (.isub, 1) := by decide +kernel
theorem dX4_fits_130 : decode cX4_fits 130 = .ok (.iload 4, 2) := by decide +kernel
theorem dX4_fits_132 : decode cX4_fits 132 = .ok (.iconst 1, 1) := by decide +kernel
theorem dX4_fits_133 : decode cX4_fits 133 = .ok (.isub, 1) := by decide +kernel
theorem dX4_fits_134 : decode cX4_fits 134 = .ok (.invokestatic 123, 3) := by decide +kernel
theorem dX4_fits_137 : decode cX4_fits 137 = .ok (.baload, 1) := by decide +kernel
theorem dX4_fits_138 : decode cX4_fits 138 = .ok (.ifCond .eq 26, 3) := by decide +kernel
theorem dX4_fits_141 : decode cX4_fits 141 = .ok (.aload_n 0, 1) := by decide +kernel
theorem dX4_fits_142 : decode cX4_fits 142 = .ok (.iload_n 3, 1) := by decide +kernel
theorem dX4_fits_143 : decode cX4_fits 143 = .ok (.iconst 1, 1) := by decide +kernel
theorem dX4_fits_144 : decode cX4_fits 144 = .ok (.isub, 1) := by decide +kernel
theorem dX4_fits_145 : decode cX4_fits 145 = .ok (.bipush 30, 2) := by decide +kernel
theorem dX4_fits_147 : decode cX4_fits 147 = .ok (.iload_n 1, 1) := by decide +kernel
theorem dX4_fits_148 : decode cX4_fits 148 = .ok (.imul, 1) := by decide +kernel
theorem dX4_fits_149 : decode cX4_fits 149 = .ok (.iload 4, 2) := by decide +kernel
theorem dX4_fits_151 : decode cX4_fits 151 = .ok (.iadd, 1) := by decide +kernel
theorem dX4_fits_152 : decode cX4_fits 152 = .ok (.iconst 1, 1) := by decide +kernel
theorem dX4_fits_153 : decode cX4_fits 153 = .ok (.isub, 1) := by decide +kernel
theorem dX4_fits_154 : decode cX4_fits 154 = .ok (.invokevirtual 163, 3) := by decide +kernel
theorem dX4_fits_157 : decode cX4_fits 157 = .ok (.ifCond .eq 7, 3) := by decide +kernel
theorem dX4_fits_160 : decode cX4_fits 160 = .ok (.iconst 1, 1) := by decide +kernel
theorem dX4_fits_161 : decode cX4_fits 161 = .ok (.goto 4, 3) := by decide +kernel
theorem dX4_fits_164 : decode cX4_fits 164 = .ok (.iconst 0, 1) := by decide +kernel
theorem dX4_fits_165 : decode cX4_fits 165 = .ok (.istore 5, 2) := by decide +kernel
theorem dX4_fits_167 : decode cX4_fits 167 = .ok (.aload_n 2, 1) := by decide +kernel
theorem dX4_fits_168 : decode cX4_fits 168 = .ok (.iload_n 3, 1) := by decide +kernel
theorem dX4_fits_169 : decode cX4_fits 169 = .ok (.iload 4, 2) := by decide +kernel
theorem dX4_fits_171 : decode cX4_fits 171 = .ok (.invokestatic 123, 3) := by decide +kernel
theorem dX4_fits_174 : decode cX4_fits 174 = .ok (.iload 5, 2) := by decide +kernel
theorem dX4_fits_176 : decode cX4_fits 176 = .ok (.bastore, 1) := by decide +kernel
theorem dX4_fits_177 : decode cX4_fits 177 = .ok (.iinc 4 1, 3) := by decide +kernel
theorem dX4_fits_180 : decode cX4_fits 180 = .ok (.goto (-133), 3) := by decide +kernel
theorem dX4_fits_183 : decode cX4_fits 183 = .ok (.iinc 3 1, 3) := by decide +kernel
theorem dX4_fits_186 : decode cX4_fits 186 = .ok (.goto (-152), 3) := by decide +kernel
theorem dX4_fits_189 : decode cX4_fits 189 = .ok (.aload_n 2, 1) := by decide +kernel
theorem dX4_fits_190 : decode cX4_fits 190 = .ok (.aload_n 0, 1) := by decide +kernel
theorem dX4_fits_191 : decode cX4_fits 191 = .ok (.getfield 41, 3) := by decide +kernel
theorem dX4_fits_194 : decode cX4_fits 194 = .ok (.iconst 0, 1) := by decide +kernel
theorem dX4_fits_195 : decode cX4_fits 195 = .ok (.iaload, 1) := by decide +kernel
theorem dX4_fits_196 : decode cX4_fits 196 = .ok (.aload_n 0, 1) := by decide +kernel
theorem dX4_fits_197 : decode cX4_fits 197 = .ok (.getfield 19, 3) := by decide +kernel
theorem dX4_fits_200 : decode cX4_fits 200 = .ok (.iload_n 1, 1) := by decide +kernel
theorem dX4_fits_201 : decode cX4_fits 201 = .ok (.iaload, 1) := by decide +kernel
theorem dX4_fits_202 : decode cX4_fits 202 = .ok (.invokestatic 123, 3) := by decide +kernel
theorem dX4_fits_205 : decode cX4_fits 205 = .ok (.baload, 1) := by decide +kernel
theorem dX4_fits_206 : decode cX4_fits 206 = .ok (.ireturn, 1) := by decide +kernel
theorem dX4_strangest_0 : decode cX4_strangest 0 = .ok (.aload_n 0, 1) := by decide +kernel
theorem dX4_strangest_1 : decode cX4_strangest 1 = .ok (.iconst 0, 1) := by decide +kernel
theorem dX4_strangest_2 : decode cX4_strangest 2 = .ok (.putfield 74, 3) := by decide +kernel
theorem dX4_strangest_5 : decode cX4_strangest 5 = .ok (.iconst (-1), 1) := by decide +kernel
theorem dX4_strangest_6 : decode cX4_strangest 6 = .ok (.istore_n 1, 1) := by decide +kernel
theorem dX4_strangest_7 : decode cX4_strangest 7 = .ok (.iconst (-1), 1) := by decide +kernel
theorem dX4_strangest_8 : decode cX4_strangest 8 = .ok (.istore_n 2, 1) := by decide +kernel
theorem dX4_strangest_9 : decode cX4_strangest 9 = .ok (.iconst 0, 1) := by decide +kernel
theorem dX4_strangest_10 : decode cX4_strangest 10 = .ok (.istore_n 3, 1) := by decide +kernel
theorem dX4_strangest_11 : decode cX4_strangest 11 = .ok (.iload_n 3, 1) := by decide +kernel
theorem dX4_strangest_12 : decode cX4_strangest 12 = .ok (.aload_n 0, 1) := by decide +kernel
theorem dX4_strangest_13 : decode cX4_strangest 13 = .ok (.getfield 77, 3) := by decide +kernel
theorem dX4_strangest_16 : decode cX4_strangest 16 = .ok (.if_icmp .ge 31, 3) := by decide +kernel
theorem dX4_strangest_19 : decode cX4_strangest 19 = .ok (.aload_n 0, 1) := by decide +kernel
theorem dX4_strangest_20 : decode cX4_strangest 20 = .ok (.iconst 0, 1) := by decide +kernel
theorem dX4_strangest_21 : decode cX4_strangest 21 = .ok (.iload_n 3, 1) := by decide +kernel
theorem dX4_strangest_22 : decode cX4_strangest 22 = .ok (.invokevirtual 145, 3) := by decide +kernel
theorem dX4_strangest_25 : decode cX4_strangest 25 = .ok (.istore 4, 2) := by decide +kernel
theorem dX4_strangest_27 : decode cX4_strangest 27 = .ok (.iload 4, 2) := by decide +kernel
theorem dX4_strangest_29 : decode cX4_strangest 29 = .ok (.iload_n 2, 1) := by decide +kernel
theorem dX4_strangest_30 : decode cX4_strangest 30 = .ok (.if_icmp .gt 6, 3) := by decide +kernel
theorem dX4_strangest_33 : decode cX4_strangest 33 = .ok (.goto 8, 3) := by decide +kernel
theorem dX4_strangest_36 : decode cX4_strangest 36 = .ok (.iload_n 3, 1) := by decide +kernel
theorem dX4_strangest_37 : decode cX4_strangest 37 = .ok (.istore_n 1, 1) := by decide +kernel
theorem dX4_strangest_38 : decode cX4_strangest 38 = .ok (.iload 4, 2) := by decide +kernel
theorem dX4_strangest_40 : decode cX4_strangest 40 = .ok (.istore_n 2, 1) := by decide +kernel
theorem dX4_strangest_41 : decode cX4_strangest 41 = .ok (.iinc 3 1, 3) := by decide +kernel
theorem dX4_strangest_44 : decode cX4_strangest 44 = .ok (.goto (-33), 3) := by decide +kernel
theorem dX4_strangest_47 : decode cX4_strangest 47 = .ok (.iload_n 1, 1) := by decide +kernel
theorem dX4_strangest_48 : decode cX4_strangest 48 = .ok (.ireturn, 1) := by decide +kernel
theorem dX4_slotCount_0 : decode cX4_slotCount 0 = .ok (.aload_n 0, 1) := by decide +kernel
theorem dX4_slotCount_1 : decode cX4_slotCount 1 = .ok (.iconst 0, 1) := by decide +kernel
theorem dX4_slotCount_2 : decode cX4_slotCount 2 = .ok (.putfield 74, 3) := by decide +kernel
theorem dX4_slotCount_5 : decode cX4_slotCount 5 = .ok (.aload_n 0, 1) := by decide +kernel
theorem dX4_slotCount_6 : decode cX4_slotCount 6 = .ok (.getfield 41, 3) := by decide +kernel
theorem dX4_slotCount_9 : decode cX4_slotCount 9 = .ok (.iconst 0, 1) := by decide +kernel
theorem dX4_slotCount_10 : decode cX4_slotCount 10 = .ok (.iaload, 1) := by decide +kernel
theorem dX4_slotCount_11 : decode cX4_slotCount 11 = .ok (.ireturn, 1) := by decide +kernel
theorem dX4_slotKind_0 : decode cX4_slotKind 0 = .ok (.aload_n 0, 1) := by decide +kernel
theorem dX4_slotKind_1 : decode cX4_slotKind 1 = .ok (.iconst 0, 1) := by decide +kernel
theorem dX4_slotKind_2 : decode cX4_slotKind 2 = .ok (.putfield 74, 3) := by decide +kernel
theorem dX4_slotKind_5 : decode cX4_slotKind 5 = .ok (.aload_n 0, 1) := by decide +kernel
theorem dX4_slotKind_6 : decode cX4_slotKind 6 = .ok (.iload_n 1, 1) := by decide +kernel
theorem dX4_slotKind_7 : decode cX4_slotKind 7 = .ok (.invokevirtual 166, 3) := by decide +kernel
theorem dX4_slotKind_10 : decode cX4_slotKind 10 = .ok (.ifCond .eq 12, 3) := by decide +kernel
theorem dX4_slotKind_13 : decode cX4_slotKind 13 = .ok (.aload_n 0, 1) := by decide +kernel
theorem dX4_slotKind_14 : decode cX4_slotKind 14 = .ok (.getfield 47, 3) := by decide +kernel
theorem dX4_slotKind_17 : decode cX4_slotKind 17 = .ok (.iload_n 1, 1) := by decide +kernel
theorem dX4_slotKind_18 : decode cX4_slotKind 18 = .ok (.iaload, 1) := by decide +kernel
theorem dX4_slotKind_19 : decode cX4_slotKind 19 = .ok (.goto 8, 3) := by decide +kernel
theorem dX4_slotKind_22 : decode cX4_slotKind 22 = .ok (.aload_n 0, 1) := by decide +kernel
theorem dX4_slotKind_23 : decode cX4_slotKind 23 = .ok (.iconst 1, 1) := by decide +kernel
theorem dX4_slotKind_24 : decode cX4_slotKind 24 = .ok (.invokevirtual 85, 3) := by decide +kernel
theorem dX4_slotKind_27 : decode cX4_slotKind 27 = .ok (.ireturn, 1) := by decide +kernel
theorem dX4_textByte_0 : decode cX4_textByte 0 = .ok (.aload_n 0, 1) := by decide +kernel
theorem dX4_textByte_1 : decode cX4_textByte 1 = .ok (.iconst 0, 1) := by decide +kernel
theorem dX4_textByte_2 : decode cX4_textByte 2 = .ok (.putfield 74, 3) := by decide +kernel
theorem dX4_textByte_5 : decode cX4_textByte 5 = .ok (.aload_n 0, 1) := by decide +kernel
theorem dX4_textByte_6 : decode cX4_textByte 6 = .ok (.iload_n 1, 1) := by decide +kernel
theorem dX4_textByte_7 : decode cX4_textByte 7 = .ok (.invokevirtual 166, 3) := by decide +kernel
theorem dX4_textByte_10 : decode cX4_textByte 10 = .ok (.ifCond .ne 9, 3) := by decide +kernel
theorem dX4_textByte_13 : decode cX4_textByte 13 = .ok (.aload_n 0, 1) := by decide +kernel
theorem dX4_textByte_14 : decode cX4_textByte 14 = .ok (.iconst 1, 1) := by decide +kernel
theorem dX4_textByte_15 : decode cX4_textByte 15 = .ok (.invokevirtual 85, 3) := by decide +kernel
theorem dX4_textByte_18 : decode cX4_textByte 18 = .ok (.ireturn, 1) := by decide +kernel
theorem dX4_textByte_19 : decode cX4_textByte 19 = .ok (.aload_n 0, 1) := by decide +kernel
theorem dX4_textByte_20 : decode cX4_textByte 20 = .ok (.getfield 50, 3) := by decide +kernel
theorem dX4_textByte_23 : decode cX4_textByte 23 = .ok (.iload_n 1, 1) := by decide +kernel
theorem dX4_textByte_24 : decode cX4_textByte 24 = .ok (.iaload, 1) := by decide +kernel
theorem dX4_textByte_25 : decode cX4_textByte 25 = .ok (.istore_n 3, 1) := by decide +kernel
theorem dX4_textByte_26 : decode cX4_textByte 26 = .ok (.iload_n 3, 1) := by decide +kernel
theorem dX4_textByte_27 : decode cX4_textByte 27 = .ok (.iconst (-1), 1) := by decide +kernel
theorem dX4_textByte_28 : decode cX4_textByte 28 = .ok (.if_icmp .ne 5, 3) := by decide +kernel
theorem dX4_textByte_31 : decode cX4_textByte 31 = .ok (.iconst (-1), 1) := by decide +kernel
theorem dX4_textByte_32 : decode cX4_textByte 32 = .ok (.ireturn, 1) := by decide +kernel
theorem dX4_textByte_33 : decode cX4_textByte 33 = .ok (.iload_n 2, 1) := by decide +kernel
theorem dX4_textByte_34 : decode cX4_textByte 34 = .ok (.ifCond .lt 37, 3) := by decide +kernel
theorem dX4_textByte_37 : decode cX4_textByte 37 = .ok (.iload_n 2, 1) := by decide +kernel
theorem dX4_textByte_38 : decode cX4_textByte 38 = .ok (.aload_n 0, 1) := by decide +kernel
theorem dX4_textByte_39 : decode cX4_textByte 39 = .ok (.getfield 28, 3) := by decide +kernel
theorem dX4_textByte_42 : decode cX4_textByte 42 = .ok (.iload_n 3, 1) := by decide +kernel
theorem dX4_textByte_43 : decode cX4_textByte 43 = .ok (.iaload, 1) := by decide +kernel
theorem dX4_textByte_44 : decode cX4_textByte 44 = .ok (.if_icmp .ge 27, 3) := by decide +kernel
theorem dX4_textByte_47 : decode cX4_textByte 47 = .ok (.aload_n 0, 1) := by decide +kernel
theorem dX4_textByte_48 : decode cX4_textByte 48 = .ok (.getfield 16, 3) := by decide +kernel
theorem dX4_textByte_51 : decode cX4_textByte 51 = .ok (.iload_n 3, 1) := by decide +kernel
theorem dX4_textByte_52 : decode cX4_textByte 52 = .ok (.bipush 30, 2) := by decide +kernel
theorem dX4_textByte_54 : decode cX4_textByte 54 = .ok (.idiv, 1) := by decide +kernel
theorem dX4_textByte_55 : decode cX4_textByte 55 = .ok (.bipush 30, 2) := by decide +kernel
theorem dX4_textByte_57 : decode cX4_textByte 57 = .ok (.imul, 1) := by decide +kernel
theorem dX4_textByte_58 : decode cX4_textByte 58 = .ok (.aload_n 0, 1) := by decide +kernel
theorem dX4_textByte_59 : decode cX4_textByte 59 = .ok (.getfield 25, 3) := by decide +kernel
theorem dX4_textByte_62 : decode cX4_textByte 62 = .ok (.iload_n 3, 1) := by decide +kernel
theorem dX4_textByte_63 : decode cX4_textByte 63 = .ok (.iaload, 1) := by decide +kernel
theorem dX4_textByte_64 : decode cX4_textByte 64 = .ok (.iadd, 1) := by decide +kernel
theorem dX4_textByte_65 : decode cX4_textByte 65 = .ok (.iload_n 2, 1) := by decide +kernel
theorem dX4_textByte_66 : decode cX4_textByte 66 = .ok (.iadd, 1) := by decide +kernel
theorem dX4_textByte_67 : decode cX4_textByte 67 = .ok (.iaload, 1) := by decide +kernel
theorem dX4_textByte_68 : decode cX4_textByte 68 = .ok (.goto 8, 3) := by decide +kernel
theorem dX4_textByte_71 : decode cX4_textByte 71 = .ok (.aload_n 0, 1) := by decide +kernel
theorem dX4_textByte_72 : decode cX4_textByte 72 = .ok (.iconst 1, 1) := by decide +kernel
theorem dX4_textByte_73 : decode cX4_textByte 73 = .ok (.invokevirtual 85, 3) := by decide +kernel
theorem dX4_textByte_76 : decode cX4_textByte 76 = .ok (.ireturn, 1) := by decide +kernel
theorem dX4_sizeOf_0 : decode cX4_sizeOf 0 = .ok (.aload_n 0, 1) := by decide +kernel
theorem dX4_sizeOf_1 : decode cX4_sizeOf 1 = .ok (.iconst 0, 1) := by decide +kernel
theorem dX4_sizeOf_2 : decode cX4_sizeOf 2 = .ok (.putfield 74, 3) := by decide +kernel
theorem dX4_sizeOf_5 : decode cX4_sizeOf 5 = .ok (.aload_n 0, 1) := by decide +kernel
theorem dX4_sizeOf_6 : decode cX4_sizeOf 6 = .ok (.iload_n 1, 1) := by decide +kernel
theorem dX4_sizeOf_7 : decode cX4_sizeOf 7 = .ok (.invokevirtual 166, 3) := by decide +kernel
theorem dX4_sizeOf_10 : decode cX4_sizeOf 10 = .ok (.ifCond .eq 12, 3) := by decide +kernel
theorem dX4_sizeOf_13 : decode cX4_sizeOf 13 = .ok (.aload_n 0, 1) := by decide +kernel
theorem dX4_sizeOf_14 : decode cX4_sizeOf 14 = .ok (.iload_n 1, 1) := by decide +kernel
theorem dX4_sizeOf_15 : decode cX4_sizeOf 15 = .ok (.iload_n 2, 1) := by decide +kernel
theorem dX4_sizeOf_16 : decode cX4_sizeOf 16 = .ok (.invokevirtual 159, 3) := by decide +kernel
theorem dX4_sizeOf_19 : decode cX4_sizeOf 19 = .ok (.goto 8, 3) := by decide +kernel
theorem dX4_sizeOf_22 : decode cX4_sizeOf 22 = .ok (.aload_n 0, 1) := by decide +kernel
theorem dX4_sizeOf_23 : decode cX4_sizeOf 23 = .ok (.iconst 1, 1) := by decide +kernel
theorem dX4_sizeOf_24 : decode cX4_sizeOf 24 = .ok (.invokevirtual 85, 3) := by decide +kernel
theorem dX4_sizeOf_27 : decode cX4_sizeOf 27 = .ok (.ireturn, 1) := by decide +kernel
theorem dX4_uses_0 : decode cX4_uses 0 = .ok (.aload_n 0, 1) := by decide +kernel
theorem dX4_uses_1 : decode cX4_uses 1 = .ok (.iconst 0, 1) := by decide +kernel
theorem dX4_uses_2 : decode cX4_uses 2 = .ok (.putfield 74, 3) := by decide +kernel
theorem dX4_uses_5 : decode cX4_uses 5 = .ok (.aload_n 0, 1) := by decide +kernel
theorem dX4_uses_6 : decode cX4_uses 6 = .ok (.iload_n 1, 1) := by decide +kernel
theorem dX4_uses_7 : decode cX4_uses 7 = .ok (.invokevirtual 166, 3) := by decide +kernel
theorem dX4_uses_10 : decode cX4_uses 10 = .ok (.ifCond .eq 12, 3) := by decide +kernel
theorem dX4_uses_13 : decode cX4_uses 13 = .ok (.aload_n 0, 1) := by decide +kernel
theorem dX4_uses_14 : decode cX4_uses 14 = .ok (.iconst 0, 1) := by decide +kernel
theorem dX4_uses_15 : decode cX4_uses 15 = .ok (.iload_n 1, 1) := by decide +kernel
theorem dX4_uses_16 : decode cX4_uses 16 = .ok (.invokevirtual 115, 3) := by decide +kernel
theorem dX4_uses_19 : decode cX4_uses 19 = .ok (.goto 8, 3) := by decide +kernel
theorem dX4_uses_22 : decode cX4_uses 22 = .ok (.aload_n 0, 1) := by decide +kernel
theorem dX4_uses_23 : decode cX4_uses 23 = .ok (.iconst 1, 1) := by decide +kernel
theorem dX4_uses_24 : decode cX4_uses 24 = .ok (.invokevirtual 85, 3) := by decide +kernel
theorem dX4_uses_27 : decode cX4_uses 27 = .ok (.ireturn, 1) := by decide +kernel
theorem dX4_isOptional_0 : decode cX4_isOptional 0 = .ok (.aload_n 0, 1) := by decide +kernel
theorem dX4_isOptional_1 : decode cX4_isOptional 1 = .ok (.aload_n 0, 1) := by decide +kernel
theorem dX4_isOptional_2 : decode cX4_isOptional 2 = .ok (.iload_n 1, 1) := by decide +kernel
theorem dX4_isOptional_3 : decode cX4_isOptional 3 = .ok (.invokevirtual 166, 3) := by decide +kernel
theorem dX4_isOptional_6 : decode cX4_isOptional 6 = .ok (.ifCond .eq 7, 3) := by decide +kernel
theorem dX4_isOptional_9 : decode cX4_isOptional 9 = .ok (.iconst 0, 1) := by decide +kernel
theorem dX4_isOptional_10 : decode cX4_isOptional 10 = .ok (.goto 4, 3) := by decide +kernel
theorem dX4_isOptional_13 : decode cX4_isOptional 13 = .ok (.iconst 1, 1) := by decide +kernel
theorem dX4_isOptional_14 : decode cX4_isOptional 14 = .ok (.putfield 74, 3) := by decide +kernel
theorem dX4_isOptional_17 : decode cX4_isOptional 17 = .ok (.aload_n 0, 1) := by decide +kernel
theorem dX4_isOptional_18 : decode cX4_isOptional 18 = .ok (.getfield 74, 3) := by decide +kernel
theorem dX4_isOptional_21 : decode cX4_isOptional 21 = .ok (.ifCond .ne 16, 3) := by decide +kernel
theorem dX4_isOptional_24 : decode cX4_isOptional 24 = .ok (.aload_n 0, 1) := by decide +kernel
theorem dX4_isOptional_25 : decode cX4_isOptional 25 = .ok (.iconst 0, 1) := by decide +kernel
theorem dX4_isOptional_26 : decode cX4_isOptional 26 = .ok (.iload_n 1, 1) := by decide +kernel
theorem dX4_isOptional_27 : decode cX4_isOptional 27 = .ok (.invokevirtual 126, 3) := by decide +kernel
theorem dX4_isOptional_30 : decode cX4_isOptional 30 = .ok (.ifCond .eq 7, 3) := by decide +kernel
theorem dX4_isOptional_33 : decode cX4_isOptional 33 = .ok (.iconst 1, 1) := by decide +kernel
theorem dX4_isOptional_34 : decode cX4_isOptional 34 = .ok (.goto 4, 3) := by decide +kernel
theorem dX4_isOptional_37 : decode cX4_isOptional 37 = .ok (.iconst 0, 1) := by decide +kernel
theorem dX4_isOptional_38 : decode cX4_isOptional 38 = .ok (.ireturn, 1) := by decide +kernel
theorem dX4_tokenAt_0 : decode cX4_tokenAt 0 = .ok (.aload_n 0, 1) := by decide +kernel
theorem dX4_tokenAt_1 : decode cX4_tokenAt 1 = .ok (.iconst 0, 1) := by decide +kernel
theorem dX4_tokenAt_2 : decode cX4_tokenAt 2 = .ok (.putfield 74, 3) := by decide +kernel
theorem dX4_tokenAt_5 : decode cX4_tokenAt 5 = .ok (.aload_n 0, 1) := by decide +kernel
theorem dX4_tokenAt_6 : decode cX4_tokenAt 6 = .ok (.iload_n 1, 1) := by decide +kernel
theorem dX4_tokenAt_7 : decode cX4_tokenAt 7 = .ok (.invokevirtual 96, 3) := by decide +kernel
theorem dX4_tokenAt_10 : decode cX4_tokenAt 10 = .ok (.ifCond .eq 21, 3) := by decide +kernel
theorem dX4_tokenAt_13 : decode cX4_tokenAt 13 = .ok (.aload_n 0, 1) := by decide +kernel
theorem dX4_tokenAt_14 : decode cX4_tokenAt 14 = .ok (.iload_n 2, 1) := by decide +kernel
theorem dX4_tokenAt_15 : decode cX4_tokenAt 15 = .ok (.invokevirtual 166, 3) := by decide +kernel
theorem dX4_tokenAt_18 : decode cX4_tokenAt 18 = .ok (.ifCond .eq 13, 3) := by decide +kernel
theorem dX4_tokenAt_21 : decode cX4_tokenAt 21 = .ok (.aload_n 0, 1) := by decide +kernel
theorem dX4_tokenAt_22 : decode cX4_tokenAt 22 = .ok (.iconst 0, 1) := by decide +kernel
theorem dX4_tokenAt_23 : decode cX4_tokenAt 23 = .ok (.iload_n 2, 1) := by decide +kernel
theorem dX4_tokenAt_24 : decode cX4_tokenAt 24 = .ok (.iload_n 1, 1) := by decide +kernel
theorem dX4_tokenAt_25 : decode cX4_tokenAt 25 = .ok (.invokevirtual 111, 3) := by decide +kernel
theorem dX4_tokenAt_28 : decode cX4_tokenAt 28 = .ok (.goto 8, 3) := by decide +kernel
theorem dX4_tokenAt_31 : decode cX4_tokenAt 31 = .ok (.aload_n 0, 1) := by decide +kernel
theorem dX4_tokenAt_32 : decode cX4_tokenAt 32 = .ok (.iconst 1, 1) := by decide +kernel
theorem dX4_tokenAt_33 : decode cX4_tokenAt 33 = .ok (.invokevirtual 85, 3) := by decide +kernel
theorem dX4_tokenAt_36 : decode cX4_tokenAt 36 = .ok (.ireturn, 1) := by decide +kernel
theorem dX4_numberOf_0 : decode cX4_numberOf 0 = .ok (.aload_n 0, 1) := by decide +kernel
theorem dX4_numberOf_1 : decode cX4_numberOf 1 = .ok (.iconst 0, 1) := by decide +kernel
theorem dX4_numberOf_2 : decode cX4_numberOf 2 = .ok (.iload_n 2, 1) := by decide +kernel
theorem dX4_numberOf_3 : decode cX4_numberOf 3 = .ok (.iload_n 1, 1) := by decide +kernel
theorem dX4_numberOf_4 : decode cX4_numberOf 4 = .ok (.invokevirtual 111, 3) := by decide +kernel
theorem dX4_numberOf_7 : decode cX4_numberOf 7 = .ok (.istore_n 3, 1) := by decide +kernel
theorem dX4_numberOf_8 : decode cX4_numberOf 8 = .ok (.iload_n 3, 1) := by decide +kernel
theorem dX4_numberOf_9 : decode cX4_numberOf 9 = .ok (.iconst (-1), 1) := by decide +kernel
theorem dX4_numberOf_10 : decode cX4_numberOf 10 = .ok (.if_icmp .eq 13, 3) := by decide +kernel
theorem dX4_numberOf_13 : decode cX4_numberOf 13 = .ok (.aload_n 0, 1) := by decide +kernel
theorem dX4_numberOf_14 : decode cX4_numberOf 14 = .ok (.getfield 47, 3) := by decide +kernel
theorem dX4_numberOf_17 : decode cX4_numberOf 17 = .ok (.iload_n 2, 1) := by decide +kernel
theorem dX4_numberOf_18 : decode cX4_numberOf 18 = .ok (.iaload, 1) := by decide +kernel
theorem dX4_numberOf_19 : decode cX4_numberOf 19 = .ok (.iconst 1, 1) := by decide +kernel
theorem dX4_numberOf_20 : decode cX4_numberOf 20 = .ok (.if_icmp .eq 5, 3) := by decide +kernel
theorem dX4_numberOf_23 : decode cX4_numberOf 23 = .ok (.iconst (-1), 1) := by decide +kernel
theorem dX4_numberOf_24 : decode cX4_numberOf 24 = .ok (.ireturn, 1) := by decide +kernel
theorem dX4_numberOf_25 : decode cX4_numberOf 25 = .ok (.bipush 30, 2) := by decide +kernel
theorem dX4_numberOf_27 : decode cX4_numberOf 27 = .ok (.iload_n 1, 1) := by decide +kernel
theorem dX4_numberOf_28 : decode cX4_numberOf 28 = .ok (.imul, 1) := by decide +kernel
theorem dX4_numberOf_29 : decode cX4_numberOf 29 = .ok (.iload_n 3, 1) := by decide +kernel
theorem dX4_numberOf_30 : decode cX4_numberOf 30 = .ok (.iadd, 1) := by decide +kernel
theorem dX4_numberOf_31 : decode cX4_numberOf 31 = .ok (.istore 4, 2) := by decide +kernel
theorem dX4_numberOf_33 : decode cX4_numberOf 33 = .ok (.iconst 0, 1) := by decide +kernel
theorem dX4_numberOf_34 : decode cX4_numberOf 34 = .ok (.istore 5, 2) := by decide +kernel
theorem dX4_numberOf_36 : decode cX4_numberOf 36 = .ok (.iconst 0, 1) := by decide +kernel
theorem dX4_numberOf_37 : decode cX4_numberOf 37 = .ok (.aload_n 0, 1) := by decide +kernel
theorem dX4_numberOf_38 : decode cX4_numberOf 38 = .ok (.getfield 28, 3) := by decide +kernel
theorem dX4_numberOf_41 : decode cX4_numberOf 41 = .ok (.iload 4, 2) := by decide +kernel
theorem dX4_numberOf_43 : decode cX4_numberOf 43 = .ok (.iaload, 1) := by decide +kernel
theorem dX4_numberOf_44 : decode cX4_numberOf 44 = .ok (.bipush 9, 2) := by decide +kernel
theorem dX4_numberOf_46 : decode cX4_numberOf 46 = .ok (.isub, 1) := by decide +kernel
theorem dX4_numberOf_47 : decode cX4_numberOf 47 = .ok (.invokestatic 142, 3) := by decide +kernel
theorem dX4_numberOf_50 : decode cX4_numberOf 50 = .ok (.istore 6, 2) := by decide +kernel
theorem dX4_numberOf_52 : decode cX4_numberOf 52 = .ok (.iload 6, 2) := by decide +kernel
theorem dX4_numberOf_54 : decode cX4_numberOf 54 = .ok (.aload_n 0, 1) := by decide +kernel
theorem dX4_numberOf_55 : decode cX4_numberOf 55 = .ok (.getfield 28, 3) := by decide +kernel
theorem dX4_numberOf_58 : decode cX4_numberOf 58 = .ok (.iload 4, 2) := by decide +kernel
theorem dX4_numberOf_60 : decode cX4_numberOf 60 = .ok (.iaload, 1) := by decide +kernel
theorem dX4_numberOf_61 : decode cX4_numberOf 61 = .ok (.if_icmp .ge 40, 3) := by decide +kernel
theorem dX4_numberOf_64 : decode cX4_numberOf 64 = .ok (.bipush 10, 2) := by decide +kernel
theorem dX4_numberOf_66 : decode cX4_numberOf 66 = .ok (.iload 5, 2) := by decide +kernel
theorem dX4_numberOf_68 : decode cX4_numberOf 68 = .ok (.imul, 1) := by decide +kernel
theorem dX4_numberOf_69 : decode cX4_numberOf 69 = .ok (.aload_n 0, 1) := by decide +kernel
theorem dX4_numberOf_70 : decode cX4_numberOf 70 = .ok (.getfield 16, 3) := by decide +kernel
theorem dX4_numberOf_73 : decode cX4_numberOf 73 = .ok (.bipush 30, 2) := by decide +kernel
theorem dX4_numberOf_75 : decode cX4_numberOf 75 = .ok (.iload_n 1, 1) := by decide +kernel
theorem dX4_numberOf_76 : decode cX4_numberOf 76 = .ok (.imul, 1) := by decide +kernel
theorem dX4_numberOf_77 : decode cX4_numberOf 77 = .ok (.aload_n 0, 1) := by decide +kernel
theorem dX4_numberOf_78 : decode cX4_numberOf 78 = .ok (.getfield 25, 3) := by decide +kernel
theorem dX4_numberOf_81 : decode cX4_numberOf 81 = .ok (.iload 4, 2) := by decide +kernel
theorem dX4_numberOf_83 : decode cX4_numberOf 83 = .ok (.iaload, 1) := by decide +kernel
theorem dX4_numberOf_84 : decode cX4_numberOf 84 = .ok (.iadd, 1) := by decide +kernel
theorem dX4_numberOf_85 : decode cX4_numberOf 85 = .ok (.iload 6, 2) := by decide +kernel
theorem dX4_numberOf_87 : decode cX4_numberOf 87 = .ok (.iadd, 1) := by decide +kernel
theorem dX4_numberOf_88 : decode cX4_numberOf 88 = .ok (.iaload, 1) := by decide +kernel
theorem dX4_numberOf_89 : decode cX4_numberOf 89 = .ok (.iadd, 1) := by decide +kernel
theorem dX4_numberOf_90 : decode cX4_numberOf 90 = .ok (.bipush 48, 2) := by decide +kernel
theorem dX4_numberOf_92 : decode cX4_numberOf 92 = .ok (.isub, 1) := by decide +kernel
theorem dX4_numberOf_93 : decode cX4_numberOf 93 = .ok (.istore 5, 2) := by decide +kernel
theorem dX4_numberOf_95 : decode cX4_numberOf 95 = .ok (.iinc 6 1, 3) := by decide +kernel
theorem dX4_numberOf_98 : decode cX4_numberOf 98 = .ok (.goto (-46), 3) := by decide +kernel
theorem dX4_numberOf_101 : decode cX4_numberOf 101 = .ok (.iload 5, 2) := by decide +kernel
theorem dX4_numberOf_103 : decode cX4_numberOf 103 = .ok (.ireturn, 1) := by decide +kernel
theorem dX4_numberAt_0 : decode cX4_numberAt 0 = .ok (.aload_n 0, 1) := by decide +kernel
theorem dX4_numberAt_1 : decode cX4_numberAt 1 = .ok (.iconst 0, 1) := by decide +kernel
theorem dX4_numberAt_2 : decode cX4_numberAt 2 = .ok (.putfield 74, 3) := by decide +kernel
theorem dX4_numberAt_5 : decode cX4_numberAt 5 = .ok (.aload_n 0, 1) := by decide +kernel
theorem dX4_numberAt_6 : decode cX4_numberAt 6 = .ok (.iload_n 1, 1) := by decide +kernel
theorem dX4_numberAt_7 : decode cX4_numberAt 7 = .ok (.invokevirtual 96, 3) := by decide +kernel
theorem dX4_numberAt_10 : decode cX4_numberAt 10 = .ok (.ifCond .eq 20, 3) := by decide +kernel
theorem dX4_numberAt_13 : decode cX4_numberAt 13 = .ok (.aload_n 0, 1) := by decide +kernel
theorem dX4_numberAt_14 : decode cX4_numberAt 14 = .ok (.iload_n 2, 1) := by decide +kernel
theorem dX4_numberAt_15 : decode cX4_numberAt 15 = .ok (.invokevirtual 166, 3) := by decide +kernel
theorem dX4_numberAt_18 : decode cX4_numberAt 18 = .ok (.ifCond .eq 12, 3) := by decide +kernel
theorem dX4_numberAt_21 : decode cX4_numberAt 21 = .ok (.aload_n 0, 1) := by decide +kernel
theorem dX4_numberAt_22 : decode cX4_numberAt 22 = .ok (.iload_n 1, 1) := by decide +kernel
theorem dX4_numberAt_23 : decode cX4_numberAt 23 = .ok (.iload_n 2, 1) := by decide +kernel
theorem dX4_numberAt_24 : decode cX4_numberAt 24 = .ok (.invokevirtual 169, 3) := by decide +kernel
theorem dX4_numberAt_27 : decode cX4_numberAt 27 = .ok (.goto 8, 3) := by decide +kernel
theorem dX4_numberAt_30 : decode cX4_numberAt 30 = .ok (.aload_n 0, 1) := by decide +kernel
theorem dX4_numberAt_31 : decode cX4_numberAt 31 = .ok (.iconst 1, 1) := by decide +kernel
theorem dX4_numberAt_32 : decode cX4_numberAt 32 = .ok (.invokevirtual 85, 3) := by decide +kernel
theorem dX4_numberAt_35 : decode cX4_numberAt 35 = .ok (.ireturn, 1) := by decide +kernel
theorem dX4_distinct_0 : decode cX4_distinct 0 = .ok (.aload_n 0, 1) := by decide +kernel
theorem dX4_distinct_1 : decode cX4_distinct 1 = .ok (.iconst 0, 1) := by decide +kernel
theorem dX4_distinct_2 : decode cX4_distinct 2 = .ok (.putfield 74, 3) := by decide +kernel
theorem dX4_distinct_5 : decode cX4_distinct 5 = .ok (.aload_n 0, 1) := by decide +kernel
theorem dX4_distinct_6 : decode cX4_distinct 6 = .ok (.iload_n 1, 1) := by decide +kernel
theorem dX4_distinct_7 : decode cX4_distinct 7 = .ok (.invokevirtual 166, 3) := by decide +kernel
theorem dX4_distinct_10 : decode cX4_distinct 10 = .ok (.ifCond .ne 9, 3) := by decide +kernel
theorem dX4_distinct_13 : decode cX4_distinct 13 = .ok (.aload_n 0, 1) := by decide +kernel
theorem dX4_distinct_14 : decode cX4_distinct 14 = .ok (.iconst 1, 1) := by decide +kernel
theorem dX4_distinct_15 : decode cX4_distinct 15 = .ok (.invokevirtual 85, 3) := by decide +kernel
theorem dX4_distinct_18 : decode cX4_distinct 18 = .ok (.ireturn, 1) := by decide +kernel
theorem dX4_distinct_19 : decode cX4_distinct 19 = .ok (.iconst 0, 1) := by decide +kernel
theorem dX4_distinct_20 : decode cX4_distinct 20 = .ok (.istore_n 2, 1) := by decide +kernel
theorem dX4_distinct_21 : decode cX4_distinct 21 = .ok (.iconst 0, 1) := by decide +kernel
theorem dX4_distinct_22 : decode cX4_distinct 22 = .ok (.istore_n 3, 1) := by decide +kernel
theorem dX4_distinct_23 : decode cX4_distinct 23 = .ok (.iload_n 3, 1) := by decide +kernel
theorem dX4_distinct_24 : decode cX4_distinct 24 = .ok (.aload_n 0, 1) := by decide +kernel
theorem dX4_distinct_25 : decode cX4_distinct 25 = .ok (.getfield 77, 3) := by decide +kernel
theorem dX4_distinct_28 : decode cX4_distinct 28 = .ok (.if_icmp .ge 112, 3) := by decide +kernel
theorem dX4_distinct_31 : decode cX4_distinct 31 = .ok (.aload_n 0, 1) := by decide +kernel
theorem dX4_distinct_32 : decode cX4_distinct 32 = .ok (.iconst 0, 1) := by decide +kernel
theorem dX4_distinct_33 : decode cX4_distinct 33 = .ok (.iload_n 1, 1) := by decide +kernel
theorem dX4_distinct_34 : decode cX4_distinct 34 = .ok (.iload_n 3, 1) := by decide +kernel
theorem dX4_distinct_35 : decode cX4_distinct 35 = .ok (.invokevirtual 111, 3) := by decide +kernel
theorem dX4_distinct_38 : decode cX4_distinct 38 = .ok (.iconst (-1), 1) := by decide +kernel
theorem dX4_distinct_39 : decode cX4_distinct 39 = .ok (.if_icmp .eq 7, 3) := by decide +kernel
theorem dX4_distinct_42 : decode cX4_distinct 42 = .ok (.iconst 1, 1) := by decide +kernel
theorem dX4_distinct_43 : decode cX4_distinct 43 = .ok (.goto 4, 3) := by decide +kernel
theorem dX4_distinct_46 : decode cX4_distinct 46 = .ok (.iconst 0, 1) := by decide +kernel
theorem dX4_distinct_47 : decode cX4_distinct 47 = .ok (.istore 4, 2) := by decide +kernel
theorem dX4_distinct_49 : decode cX4_distinct 49 = .ok (.iconst 0, 1) := by decide +kernel
theorem dX4_distinct_50 : decode cX4_distinct 50 = .ok (.istore 5, 2) := by decide +kernel
theorem dX4_distinct_52 : decode cX4_distinct 52 = .ok (.iload 5, 2) := by decide +kernel
theorem dX4_distinct_54 : decode cX4_distinct 54 = .ok (.iload_n 3, 1) := by decide +kernel
theorem dX4_distinct_55 : decode cX4_distinct 55 = .ok (.if_icmp .ge 66, 3) := by decide +kernel
theorem dX4_distinct_58 : decode cX4_distinct 58 = .ok (.iload 4, 2) := by decide +kernel
theorem dX4_distinct_60 : decode cX4_distinct 60 = .ok (.ifCond .eq 61, 3) := by decide +kernel
theorem dX4_distinct_63 : decode cX4_distinct 63 = .ok (.aload_n 0, 1) := by decide +kernel
theorem dX4_distinct_64 : decode cX4_distinct 64 = .ok (.iconst 0, 1) := by decide +kernel
theorem dX4_distinct_65 : decode cX4_distinct 65 = .ok (.iload_n 1, 1) := by decide +kernel
theorem dX4_distinct_66 : decode cX4_distinct 66 = .ok (.iload 5, 2) := by decide +kernel
theorem dX4_distinct_68 : decode cX4_distinct 68 = .ok (.invokevirtual 111, 3) := by decide +kernel
theorem dX4_distinct_71 : decode cX4_distinct 71 = .ok (.iconst (-1), 1) := by decide +kernel
theorem dX4_distinct_72 : decode cX4_distinct 72 = .ok (.if_icmp .eq 43, 3) := by decide +kernel
theorem dX4_distinct_75 : decode cX4_distinct 75 = .ok (.aload_n 0, 1) := by decide +kernel
theorem dX4_distinct_76 : decode cX4_distinct 76 = .ok (.bipush 30, 2) := by decide +kernel
theorem dX4_distinct_78 : decode cX4_distinct 78 = .ok (.iload_n 3, 1) := by decide +kernel
theorem dX4_distinct_79 : decode cX4_distinct 79 = .ok (.imul, 1) := by decide +kernel
theorem dX4_distinct_80 : decode cX4_distinct 80 = .ok (.aload_n 0, 1) := by decide +kernel
theorem dX4_distinct_81 : decode cX4_distinct 81 = .ok (.iconst 0, 1) := by decide +kernel
theorem dX4_distinct_82 : decode cX4_distinct 82 = .ok (.iload_n 1, 1) := by decide +kernel
theorem dX4_distinct_83 : decode cX4_distinct 83 = .ok (.iload_n 3, 1) := by decide +kernel
theorem dX4_distinct_84 : decode cX4_distinct 84 = .ok (.invokevirtual 111, 3) := by decide +kernel
theorem dX4_distinct_87 : decode cX4_distinct 87 = .ok (.iadd, 1) := by decide +kernel
theorem dX4_distinct_88 : decode cX4_distinct 88 = .ok (.bipush 30, 2) := by decide +kernel
theorem dX4_distinct_90 : decode cX4_distinct 90 = .ok (.iload 5, 2) := by decide +kernel
theorem dX4_distinct_92 : decode cX4_distinct 92 = .ok (.imul, 1) := by decide +kernel
theorem dX4_distinct_93 : decode cX4_distinct 93 = .ok (.aload_n 0, 1) := by decide +kernel
theorem dX4_distinct_94 : decode cX4_distinct 94 = .ok (.iconst 0, 1) := by decide +kernel
theorem dX4_distinct_95 : decode cX4_distinct 95 = .ok (.iload_n 1, 1) := by decide +kernel
theorem dX4_distinct_96 : decode cX4_distinct 96 = .ok (.iload 5, 2) := by decide +kernel
theorem dX4_distinct_98 : decode cX4_distinct 98 = .ok (.invokevirtual 111, 3) := by decide +kernel
theorem dX4_distinct_101 : decode cX4_distinct 101 = .ok (.iadd, 1) := by decide +kernel
theorem dX4_distinct_102 : decode cX4_distinct 102 = .ok (.invokevirtual 104, 3) := by decide +kernel
theorem dX4_distinct_105 : decode cX4_distinct 105 = .ok (.ifCond .ne 7, 3) := by decide +kernel
theorem dX4_distinct_108 : decode cX4_distinct 108 = .ok (.iconst 1, 1) := by decide +kernel
theorem dX4_distinct_109 : decode cX4_distinct 109 = .ok (.goto 4, 3) := by decide +kernel
theorem dX4_distinct_112 : decode cX4_distinct 112 = .ok (.iconst 0, 1) := by decide +kernel
theorem dX4_distinct_113 : decode cX4_distinct 113 = .ok (.istore 4, 2) := by decide +kernel
theorem dX4_distinct_115 : decode cX4_distinct 115 = .ok (.iinc 5 1, 3) := by decide +kernel
theorem dX4_distinct_118 : decode cX4_distinct 118 = .ok (.goto (-66), 3) := by decide +kernel
theorem dX4_distinct_121 : decode cX4_distinct 121 = .ok (.iload_n 2, 1) := by decide +kernel
theorem dX4_distinct_122 : decode cX4_distinct 122 = .ok (.iload 4, 2) := by decide +kernel
theorem dX4_distinct_124 : decode cX4_distinct 124 = .ok (.ifCond .eq 7, 3) := by decide +kernel
theorem dX4_distinct_127 : decode cX4_distinct 127 = .ok (.iconst 1, 1) := by decide +kernel
theorem dX4_distinct_128 : decode cX4_distinct 128 = .ok (.goto 4, 3) := by decide +kernel
theorem dX4_distinct_131 : decode cX4_distinct 131 = .ok (.iconst 0, 1) := by decide +kernel
theorem dX4_distinct_132 : decode cX4_distinct 132 = .ok (.iadd, 1) := by decide +kernel
theorem dX4_distinct_133 : decode cX4_distinct 133 = .ok (.istore_n 2, 1) := by decide +kernel
theorem dX4_distinct_134 : decode cX4_distinct 134 = .ok (.iinc 3 1, 3) := by decide +kernel
theorem dX4_distinct_137 : decode cX4_distinct 137 = .ok (.goto (-114), 3) := by decide +kernel
theorem dX4_distinct_140 : decode cX4_distinct 140 = .ok (.iload_n 2, 1) := by decide +kernel
theorem dX4_distinct_141 : decode cX4_distinct 141 = .ok (.ireturn, 1) := by decide +kernel
theorem dX4_isRising_0 : decode cX4_isRising 0 = .ok (.aload_n 0, 1) := by decide +kernel
theorem dX4_isRising_1 : decode cX4_isRising 1 = .ok (.aload_n 0, 1) := by decide +kernel
theorem dX4_isRising_2 : decode cX4_isRising 2 = .ok (.iload_n 1, 1) := by decide +kernel
theorem dX4_isRising_3 : decode cX4_isRising 3 = .ok (.invokevirtual 166, 3) := by decide +kernel
theorem dX4_isRising_6 : decode cX4_isRising 6 = .ok (.ifCond .eq 7, 3) := by decide +kernel
theorem dX4_isRising_9 : decode cX4_isRising 9 = .ok (.iconst 0, 1) := by decide +kernel
theorem dX4_isRising_10 : decode cX4_isRising 10 = .ok (.goto 4, 3) := by decide +kernel
theorem dX4_isRising_13 : decode cX4_isRising 13 = .ok (.iconst 1, 1) := by decide +kernel
theorem dX4_isRising_14 : decode cX4_isRising 14 = .ok (.putfield 74, 3) := by decide +kernel
theorem dX4_isRising_17 : decode cX4_isRising 17 = .ok (.aload_n 0, 1) := by decide +kernel
theorem dX4_isRising_18 : decode cX4_isRising 18 = .ok (.getfield 74, 3) := by decide +kernel
theorem dX4_isRising_21 : decode cX4_isRising 21 = .ok (.ifCond .ne 23, 3) := by decide +kernel
theorem dX4_isRising_24 : decode cX4_isRising 24 = .ok (.aload_n 0, 1) := by decide +kernel
theorem dX4_isRising_25 : decode cX4_isRising 25 = .ok (.getfield 47, 3) := by decide +kernel
theorem dX4_isRising_28 : decode cX4_isRising 28 = .ok (.iload_n 1, 1) := by decide +kernel
theorem dX4_isRising_29 : decode cX4_isRising 29 = .ok (.iaload, 1) := by decide +kernel
theorem dX4_isRising_30 : decode cX4_isRising 30 = .ok (.iconst 1, 1) := by decide +kernel
theorem dX4_isRising_31 : decode cX4_isRising 31 = .ok (.if_icmp .ne 13, 3) := by decide +kernel
theorem dX4_isRising_34 : decode cX4_isRising 34 = .ok (.aload_n 0, 1) := by decide +kernel
theorem dX4_isRising_35 : decode cX4_isRising 35 = .ok (.iconst 0, 1) := by decide +kernel
theorem dX4_isRising_36 : decode cX4_isRising 36 = .ok (.iload_n 1, 1) := by decide +kernel
theorem dX4_isRising_37 : decode cX4_isRising 37 = .ok (.invokevirtual 115, 3) := by decide +kernel
theorem dX4_isRising_40 : decode cX4_isRising 40 = .ok (.iconst 2, 1) := by decide +kernel
theorem dX4_isRising_41 : decode cX4_isRising 41 = .ok (.if_icmp .ge 5, 3) := by decide +kernel
theorem dX4_isRising_44 : decode cX4_isRising 44 = .ok (.iconst 0, 1) := by decide +kernel
theorem dX4_isRising_45 : decode cX4_isRising 45 = .ok (.ireturn, 1) := by decide +kernel
theorem dX4_isRising_46 : decode cX4_isRising 46 = .ok (.iconst (-1), 1) := by decide +kernel
theorem dX4_isRising_47 : decode cX4_isRising 47 = .ok (.istore_n 2, 1) := by decide +kernel
theorem dX4_isRising_48 : decode cX4_isRising 48 = .ok (.iconst 1, 1) := by decide +kernel
theorem dX4_isRising_49 : decode cX4_isRising 49 = .ok (.istore_n 3, 1) := by decide +kernel
theorem dX4_isRising_50 : decode cX4_isRising 50 = .ok (.iconst 0, 1) := by decide +kernel
theorem dX4_isRising_51 : decode cX4_isRising 51 = .ok (.istore 4, 2) := by decide +kernel
theorem dX4_isRising_53 : decode cX4_isRising 53 = .ok (.iload 4, 2) := by decide +kernel
theorem dX4_isRising_55 : decode cX4_isRising 55 = .ok (.aload_n 0, 1) := by decide +kernel
theorem dX4_isRising_56 : decode cX4_isRising 56 = .ok (.getfield 77, 3) := by decide +kernel
theorem dX4_isRising_59 : decode cX4_isRising 59 = .ok (.if_icmp .ge 53, 3) := by decide +kernel
theorem dX4_isRising_62 : decode cX4_isRising 62 = .ok (.aload_n 0, 1) := by decide +kernel
theorem dX4_isRising_63 : decode cX4_isRising 63 = .ok (.iconst 0, 1) := by decide +kernel
theorem dX4_isRising_64 : decode cX4_isRising 64 = .ok (.iload_n 1, 1) := by decide +kernel
theorem dX4_isRising_65 : decode cX4_isRising 65 = .ok (.iload 4, 2) := by decide +kernel
theorem dX4_isRising_67 : decode cX4_isRising 67 = .ok (.invokevirtual 111, 3) := by decide +kernel
theorem dX4_isRising_70 : decode cX4_isRising 70 = .ok (.iconst (-1), 1) := by decide +kernel
theorem dX4_isRising_71 : decode cX4_isRising 71 = .ok (.if_icmp .ne 6, 3) := by decide +kernel
theorem dX4_isRising_74 : decode cX4_isRising 74 = .ok (.goto 32, 3) := by decide +kernel
theorem dX4_isRising_77 : decode cX4_isRising 77 = .ok (.iload_n 3, 1) := by decide +kernel
theorem dX4_isRising_78 : decode cX4_isRising 78 = .ok (.ifCond .eq 18, 3) := by decide +kernel
theorem dX4_isRising_81 : decode cX4_isRising 81 = .ok (.aload_n 0, 1) := by decide +kernel
theorem dX4_isRising_82 : decode cX4_isRising 82 = .ok (.iload 4, 2) := by decide +kernel
theorem dX4_isRising_84 : decode cX4_isRising 84 = .ok (.iload_n 1, 1) := by decide +kernel
theorem dX4_isRising_85 : decode cX4_isRising 85 = .ok (.invokevirtual 169, 3) := by decide +kernel
theorem dX4_isRising_88 : decode cX4_isRising 88 = .ok (.iload_n 2, 1) := by decide +kernel
theorem dX4_isRising_89 : decode cX4_isRising 89 = .ok (.if_icmp .le 7, 3) := by decide +kernel
theorem dX4_isRising_92 : decode cX4_isRising 92 = .ok (.iconst 1, 1) := by decide +kernel
theorem dX4_isRising_93 : decode cX4_isRising 93 = .ok (.goto 4, 3) := by decide +kernel
theorem dX4_isRising_96 : decode cX4_isRising 96 = .ok (.iconst 0, 1) := by decide +kernel
theorem dX4_isRising_97 : decode cX4_isRising 97 = .ok (.istore_n 3, 1) := by decide +kernel
theorem dX4_isRising_98 : decode cX4_isRising 98 = .ok (.aload_n 0, 1) := by decide +kernel
theorem dX4_isRising_99 : decode cX4_isRising 99 = .ok (.iload 4, 2) := by decide +kernel
theorem dX4_isRising_101 : decode cX4_isRising 101 = .ok (.iload_n 1, 1) := by decide +kernel
theorem dX4_isRising_102 : decode cX4_isRising 102 = .ok (.invokevirtual 169, 3) := by decide +kernel
theorem dX4_isRising_105 : decode cX4_isRising 105 = .ok (.istore_n 2, 1) := by decide +kernel
theorem dX4_isRising_106 : decode cX4_isRising 106 = .ok (.iinc 4 1, 3) := by decide +kernel
theorem dX4_isRising_109 : decode cX4_isRising 109 = .ok (.goto (-56), 3) := by decide +kernel
theorem dX4_isRising_112 : decode cX4_isRising 112 = .ok (.iload_n 3, 1) := by decide +kernel
theorem dX4_isRising_113 : decode cX4_isRising 113 = .ok (.ireturn, 1) := by decide +kernel
theorem dX4_allBits_0 : decode cX4_allBits 0 = .ok (.iconst 4, 1) := by decide +kernel
theorem dX4_allBits_1 : decode cX4_allBits 1 = .ok (.newarray .int, 2) := by decide +kernel
theorem dX4_allBits_3 : decode cX4_allBits 3 = .ok (.dup, 1) := by decide +kernel
theorem dX4_allBits_4 : decode cX4_allBits 4 = .ok (.iconst 0, 1) := by decide +kernel
theorem dX4_allBits_5 : decode cX4_allBits 5 = .ok (.iconst 5, 1) := by decide +kernel
theorem dX4_allBits_6 : decode cX4_allBits 6 = .ok (.iastore, 1) := by decide +kernel
theorem dX4_allBits_7 : decode cX4_allBits 7 = .ok (.dup, 1) := by decide +kernel
theorem dX4_allBits_8 : decode cX4_allBits 8 = .ok (.iconst 1, 1) := by decide +kernel
theorem dX4_allBits_9 : decode cX4_allBits 9 = .ok (.iconst 4, 1) := by decide +kernel
theorem dX4_allBits_10 : decode cX4_allBits 10 = .ok (.iastore, 1) := by decide +kernel
theorem dX4_allBits_11 : decode cX4_allBits 11 = .ok (.dup, 1) := by decide +kernel
theorem dX4_allBits_12 : decode cX4_allBits 12 = .ok (.iconst 2, 1) := by decide +kernel
theorem dX4_allBits_13 : decode cX4_allBits 13 = .ok (.iconst 1, 1) := by decide +kernel
theorem dX4_allBits_14 : decode cX4_allBits 14 = .ok (.iastore, 1) := by decide +kernel
theorem dX4_allBits_15 : decode cX4_allBits 15 = .ok (.dup, 1) := by decide +kernel
theorem dX4_allBits_16 : decode cX4_allBits 16 = .ok (.iconst 3, 1) := by decide +kernel
theorem dX4_allBits_17 : decode cX4_allBits 17 = .ok (.bipush 7, 2) := by decide +kernel
theorem dX4_allBits_19 : decode cX4_allBits 19 = .ok (.iastore, 1) := by decide +kernel
theorem dX4_allBits_20 : decode cX4_allBits 20 = .ok (.astore_n 1, 1) := by decide +kernel
theorem dX4_allBits_21 : decode cX4_allBits 21 = .ok (.iconst 0, 1) := by decide +kernel
theorem dX4_allBits_22 : decode cX4_allBits 22 = .ok (.istore_n 2, 1) := by decide +kernel
theorem dX4_allBits_23 : decode cX4_allBits 23 = .ok (.iconst 0, 1) := by decide +kernel
theorem dX4_allBits_24 : decode cX4_allBits 24 = .ok (.istore_n 3, 1) := by decide +kernel
theorem dX4_allBits_25 : decode cX4_allBits 25 = .ok (.iload_n 3, 1) := by decide +kernel
theorem dX4_allBits_26 : decode cX4_allBits 26 = .ok (.aload_n 0, 1) := by decide +kernel
theorem dX4_allBits_27 : decode cX4_allBits 27 = .ok (.getfield 41, 3) := by decide +kernel
theorem dX4_allBits_30 : decode cX4_allBits 30 = .ok (.iconst 0, 1) := by decide +kernel
theorem dX4_allBits_31 : decode cX4_allBits 31 = .ok (.iaload, 1) := by decide +kernel
theorem dX4_allBits_32 : decode cX4_allBits 32 = .ok (.if_icmp .ge 131, 3) := by decide +kernel
theorem dX4_allBits_35 : decode cX4_allBits 35 = .ok (.iinc 2 4, 3) := by decide +kernel
theorem dX4_allBits_38 : decode cX4_allBits 38 = .ok (.aload_n 0, 1) := by decide +kernel
theorem dX4_allBits_39 : decode cX4_allBits 39 = .ok (.getfield 50, 3) := by decide +kernel
theorem dX4_allBits_42 : decode cX4_allBits 42 = .ok (.iload_n 3, 1) := by decide +kernel
theorem dX4_allBits_43 : decode cX4_allBits 43 = .ok (.iaload, 1) := by decide +kernel
theorem dX4_allBits_44 : decode cX4_allBits 44 = .ok (.iconst (-1), 1) := by decide +kernel
theorem dX4_allBits_45 : decode cX4_allBits 45 = .ok (.if_icmp .eq 20, 3) := by decide +kernel
theorem dX4_allBits_48 : decode cX4_allBits 48 = .ok (.iload_n 2, 1) := by decide +kernel
theorem dX4_allBits_49 : decode cX4_allBits 49 = .ok (.bipush 8, 2) := by decide +kernel
theorem dX4_allBits_51 : decode cX4_allBits 51 = .ok (.aload_n 0, 1) := by decide +kernel
theorem dX4_allBits_52 : decode cX4_allBits 52 = .ok (.getfield 28, 3) := by decide +kernel
theorem dX4_allBits_55 : decode cX4_allBits 55 = .ok (.aload_n 0, 1) := by decide +kernel
theorem dX4_allBits_56 : decode cX4_allBits 56 = .ok (.getfield 50, 3) := by decide +kernel
theorem dX4_allBits_59 : decode cX4_allBits 59 = .ok (.iload_n 3, 1) := by decide +kernel
theorem dX4_allBits_60 : decode cX4_allBits 60 = .ok (.iaload, 1) := by decide +kernel
theorem dX4_allBits_61 : decode cX4_allBits 61 = .ok (.iaload, 1) := by decide +kernel
theorem dX4_allBits_62 : decode cX4_allBits 62 = .ok (.imul, 1) := by decide +kernel
theorem dX4_allBits_63 : decode cX4_allBits 63 = .ok (.iadd, 1) := by decide +kernel
theorem dX4_allBits_64 : decode cX4_allBits 64 = .ok (.istore_n 2, 1) := by decide +kernel
theorem dX4_allBits_65 : decode cX4_allBits 65 = .ok (.aload_n 0, 1) := by decide +kernel
theorem dX4_allBits_66 : decode cX4_allBits 66 = .ok (.iconst 0, 1) := by decide +kernel
theorem dX4_allBits_67 : decode cX4_allBits 67 = .ok (.iload_n 3, 1) := by decide +kernel
theorem dX4_allBits_68 : decode cX4_allBits 68 = .ok (.invokevirtual 126, 3) := by decide +kernel
theorem dX4_allBits_71 : decode cX4_allBits 71 = .ok (.ifCond .eq 15, 3) := by decide +kernel
theorem dX4_allBits_74 : decode cX4_allBits 74 = .ok (.iload_n 2, 1) := by decide +kernel
theorem dX4_allBits_75 : decode cX4_allBits 75 = .ok (.aload_n 0, 1) := by decide +kernel
theorem dX4_allBits_76 : decode cX4_allBits 76 = .ok (.getfield 44, 3) := by decide +kernel
theorem dX4_allBits_79 : decode cX4_allBits 79 = .ok (.iconst 0, 1) := by decide +kernel
theorem dX4_allBits_80 : decode cX4_allBits 80 = .ok (.iaload, 1) := by decide +kernel
theorem dX4_allBits_81 : decode cX4_allBits 81 = .ok (.invokestatic 118, 3) := by decide +kernel
theorem dX4_allBits_84 : decode cX4_allBits 84 = .ok (.iadd, 1) := by decide +kernel
theorem dX4_allBits_85 : decode cX4_allBits 85 = .ok (.istore_n 2, 1) := by decide +kernel
theorem dX4_allBits_86 : decode cX4_allBits 86 = .ok (.iconst 0, 1) := by decide +kernel
theorem dX4_allBits_87 : decode cX4_allBits 87 = .ok (.istore 4, 2) := by decide +kernel
theorem dX4_allBits_89 : decode cX4_allBits 89 = .ok (.iload 4, 2) := by decide +kernel
theorem dX4_allBits_91 : decode cX4_allBits 91 = .ok (.aload_n 0, 1) := by decide +kernel
theorem dX4_allBits_92 : decode cX4_allBits 92 = .ok (.getfield 77, 3) := by decide +kernel
theorem dX4_allBits_95 : decode cX4_allBits 95 = .ok (.if_icmp .ge 62, 3) := by decide +kernel
theorem dX4_allBits_98 : decode cX4_allBits 98 = .ok (.aload_n 0, 1) := by decide +kernel
theorem dX4_allBits_99 : decode cX4_allBits 99 = .ok (.getfield 50, 3) := by decide +kernel
theorem dX4_allBits_102 : decode cX4_allBits 102 = .ok (.iload_n 3, 1) := by decide +kernel
theorem dX4_allBits_103 : decode cX4_allBits 103 = .ok (.iaload, 1) := by decide +kernel
theorem dX4_allBits_104 : decode cX4_allBits 104 = .ok (.iconst (-1), 1) := by decide +kernel
theorem dX4_allBits_105 : decode cX4_allBits 105 = .ok (.if_icmp .ne 52, 3) := by decide +kernel
theorem dX4_allBits_108 : decode cX4_allBits 108 = .ok (.aload_n 0, 1) := by decide +kernel
theorem dX4_allBits_109 : decode cX4_allBits 109 = .ok (.iconst 0, 1) := by decide +kernel
theorem dX4_allBits_110 : decode cX4_allBits 110 = .ok (.iload_n 3, 1) := by decide +kernel
theorem dX4_allBits_111 : decode cX4_allBits 111 = .ok (.iload 4, 2) := by decide +kernel
theorem dX4_allBits_113 : decode cX4_allBits 113 = .ok (.invokevirtual 111, 3) := by decide +kernel
theorem dX4_allBits_116 : decode cX4_allBits 116 = .ok (.istore 5, 2) := by decide +kernel
theorem dX4_allBits_118 : decode cX4_allBits 118 = .ok (.iload 5, 2) := by decide +kernel
theorem dX4_allBits_120 : decode cX4_allBits 120 = .ok (.iconst (-1), 1) := by decide +kernel
theorem dX4_allBits_121 : decode cX4_allBits 121 = .ok (.if_icmp .eq 30, 3) := by decide +kernel
theorem dX4_allBits_124 : decode cX4_allBits 124 = .ok (.iload_n 2, 1) := by decide +kernel
theorem dX4_allBits_125 : decode cX4_allBits 125 = .ok (.iconst 1, 1) := by decide +kernel
theorem dX4_allBits_126 : decode cX4_allBits 126 = .ok (.aload_n 1, 1) := by decide +kernel
theorem dX4_allBits_127 : decode cX4_allBits 127 = .ok (.aload_n 0, 1) := by decide +kernel
theorem dX4_allBits_128 : decode cX4_allBits 128 = .ok (.getfield 47, 3) := by decide +kernel
theorem dX4_allBits_131 : decode cX4_allBits 131 = .ok (.iload_n 3, 1) := by decide +kernel
theorem dX4_allBits_132 : decode cX4_allBits 132 = .ok (.iaload, 1) := by decide +kernel
theorem dX4_allBits_133 : decode cX4_allBits 133 = .ok (.iaload, 1) := by decide +kernel
theorem dX4_allBits_134 : decode cX4_allBits 134 = .ok (.aload_n 0, 1) := by decide +kernel
theorem dX4_allBits_135 : decode cX4_allBits 135 = .ok (.getfield 28, 3) := by decide +kernel
theorem dX4_allBits_138 : decode cX4_allBits 138 = .ok (.bipush 30, 2) := by decide +kernel
theorem dX4_allBits_140 : decode cX4_allBits 140 = .ok (.iload 4, 2) := by decide +kernel
theorem dX4_allBits_142 : decode cX4_allBits 142 = .ok (.imul, 1) := by decide +kernel
theorem dX4_allBits_143 : decode cX4_allBits 143 = .ok (.iload 5, 2) := by decide +kernel
theorem dX4_allBits_145 : decode cX4_allBits 145 = .ok (.iadd, 1) := by decide +kernel
theorem dX4_allBits_146 : decode cX4_allBits 146 = .ok (.iaload, 1) := by decide +kernel
theorem dX4_allBits_147 : decode cX4_allBits 147 = .ok (.imul, 1) := by decide +kernel
theorem dX4_allBits_148 : decode cX4_allBits 148 = .ok (.iadd, 1) := by decide +kernel
theorem dX4_allBits_149 : decode cX4_allBits 149 = .ok (.iadd, 1) := by decide +kernel
theorem dX4_allBits_150 : decode cX4_allBits 150 = .ok (.istore_n 2, 1) := by decide +kernel
theorem dX4_allBits_151 : decode cX4_allBits 151 = .ok (.iinc 4 1, 3) := by decide +kernel
theorem dX4_allBits_154 : decode cX4_allBits 154 = .ok (.goto (-65), 3) := by decide +kernel
theorem dX4_allBits_157 : decode cX4_allBits 157 = .ok (.iinc 3 1, 3) := by decide +kernel
theorem dX4_allBits_160 : decode cX4_allBits 160 = .ok (.goto (-135), 3) := by decide +kernel
theorem dX4_allBits_163 : decode cX4_allBits 163 = .ok (.iload_n 2, 1) := by decide +kernel
theorem dX4_allBits_164 : decode cX4_allBits 164 = .ok (.ireturn, 1) := by decide +kernel
theorem dX4_bits_0 : decode cX4_bits 0 = .ok (.aload_n 0, 1) := by decide +kernel
theorem dX4_bits_1 : decode cX4_bits 1 = .ok (.iconst 0, 1) := by decide +kernel
theorem dX4_bits_2 : decode cX4_bits 2 = .ok (.putfield 74, 3) := by decide +kernel
theorem dX4_bits_5 : decode cX4_bits 5 = .ok (.aload_n 0, 1) := by decide +kernel
theorem dX4_bits_6 : decode cX4_bits 6 = .ok (.invokevirtual 172, 3) := by decide +kernel
theorem dX4_bits_9 : decode cX4_bits 9 = .ok (.ireturn, 1) := by decide +kernel
theorem dX4_saving_0 : decode cX4_saving 0 = .ok (.aload_n 0, 1) := by decide +kernel
theorem dX4_saving_1 : decode cX4_saving 1 = .ok (.iconst 0, 1) := by decide +kernel
theorem dX4_saving_2 : decode cX4_saving 2 = .ok (.putfield 74, 3) := by decide +kernel
theorem dX4_saving_5 : decode cX4_saving 5 = .ok (.iconst 0, 1) := by decide +kernel
theorem dX4_saving_6 : decode cX4_saving 6 = .ok (.istore_n 1, 1) := by decide +kernel
theorem dX4_saving_7 : decode cX4_saving 7 = .ok (.iconst 0, 1) := by decide +kernel
theorem dX4_saving_8 : decode cX4_saving 8 = .ok (.istore_n 2, 1) := by decide +kernel
theorem dX4_saving_9 : decode cX4_saving 9 = .ok (.iload_n 2, 1) := by decide +kernel
theorem dX4_saving_10 : decode cX4_saving 10 = .ok (.aload_n 0, 1) := by decide +kernel
theorem dX4_saving_11 : decode cX4_saving 11 = .ok (.getfield 77, 3) := by decide +kernel
theorem dX4_saving_14 : decode cX4_saving 14 = .ok (.if_icmp .ge 38, 3) := by decide +kernel
theorem dX4_saving_17 : decode cX4_saving 17 = .ok (.aload_n 0, 1) := by decide +kernel
theorem dX4_saving_18 : decode cX4_saving 18 = .ok (.getfield 44, 3) := by decide +kernel
theorem dX4_saving_21 : decode cX4_saving 21 = .ok (.iconst 0, 1) := by decide +kernel
theorem dX4_saving_22 : decode cX4_saving 22 = .ok (.iaload, 1) := by decide +kernel
theorem dX4_saving_23 : decode cX4_saving 23 = .ok (.iload_n 2, 1) := by decide +kernel
theorem dX4_saving_24 : decode cX4_saving 24 = .ok (.ishr, 1) := by decide +kernel
theorem dX4_saving_25 : decode cX4_saving 25 = .ok (.iconst 1, 1) := by decide +kernel
theorem dX4_saving_26 : decode cX4_saving 26 = .ok (.iand, 1) := by decide +kernel
theorem dX4_saving_27 : decode cX4_saving 27 = .ok (.iconst 1, 1) := by decide +kernel
theorem dX4_saving_28 : decode cX4_saving 28 = .ok (.if_icmp .ne 18, 3) := by decide +kernel
theorem dX4_saving_31 : decode cX4_saving 31 = .ok (.iload_n 1, 1) := by decide +kernel
theorem dX4_saving_32 : decode cX4_saving 32 = .ok (.bipush 8, 2) := by decide +kernel
theorem dX4_saving_34 : decode cX4_saving 34 = .ok (.bipush 8, 2) := by decide +kernel
theorem dX4_saving_36 : decode cX4_saving 36 = .ok (.aload_n 0, 1) := by decide +kernel
theorem dX4_saving_37 : decode cX4_saving 37 = .ok (.getfield 13, 3) := by decide +kernel
theorem dX4_saving_40 : decode cX4_saving 40 = .ok (.iload_n 2, 1) := by decide +kernel
theorem dX4_saving_41 : decode cX4_saving 41 = .ok (.iaload, 1) := by decide +kernel
theorem dX4_saving_42 : decode cX4_saving 42 = .ok (.imul, 1) := by decide +kernel
theorem dX4_saving_43 : decode cX4_saving 43 = .ok (.iadd, 1) := by decide +kernel
theorem dX4_saving_44 : decode cX4_saving 44 = .ok (.iadd, 1) := by decide +kernel
theorem dX4_saving_45 : decode cX4_saving 45 = .ok (.istore_n 1, 1) := by decide +kernel
theorem dX4_saving_46 : decode cX4_saving 46 = .ok (.iinc 2 1, 3) := by decide +kernel
theorem dX4_saving_49 : decode cX4_saving 49 = .ok (.goto (-40), 3) := by decide +kernel
theorem dX4_saving_52 : decode cX4_saving 52 = .ok (.aload_n 0, 1) := by decide +kernel
theorem dX4_saving_53 : decode cX4_saving 53 = .ok (.getfield 44, 3) := by decide +kernel
theorem dX4_saving_56 : decode cX4_saving 56 = .ok (.iconst 0, 1) := by decide +kernel
theorem dX4_saving_57 : decode cX4_saving 57 = .ok (.iaload, 1) := by decide +kernel
theorem dX4_saving_58 : decode cX4_saving 58 = .ok (.ifCond .ne 7, 3) := by decide +kernel
theorem dX4_saving_61 : decode cX4_saving 61 = .ok (.dconst 0, 1) := by decide +kernel
theorem dX4_saving_62 : decode cX4_saving 62 = .ok (.goto 13, 3) := by decide +kernel
theorem dX4_saving_65 : decode cX4_saving 65 = .ok (.dconst 1, 1) := by decide +kernel
theorem dX4_saving_66 : decode cX4_saving 66 = .ok (.aload_n 0, 1) := by decide +kernel
theorem dX4_saving_67 : decode cX4_saving 67 = .ok (.invokevirtual 172, 3) := by decide +kernel
theorem dX4_saving_70 : decode cX4_saving 70 = .ok (.i2d, 1) := by decide +kernel
theorem dX4_saving_71 : decode cX4_saving 71 = .ok (.iload_n 1, 1) := by decide +kernel
theorem dX4_saving_72 : decode cX4_saving 72 = .ok (.i2d, 1) := by decide +kernel
theorem dX4_saving_73 : decode cX4_saving 73 = .ok (.ddiv, 1) := by decide +kernel
theorem dX4_saving_74 : decode cX4_saving 74 = .ok (.dsub, 1) := by decide +kernel
theorem dX4_saving_75 : decode cX4_saving 75 = .ok (.dreturn, 1) := by decide +kernel
theorem dX4_group_0 : decode cX4_group 0 = .ok (.aload_n 0, 1) := by decide +kernel
theorem dX4_group_1 : decode cX4_group 1 = .ok (.iload_n 1, 1) := by decide +kernel
theorem dX4_group_2 : decode cX4_group 2 = .ok (.ifCond .lt 10, 3) := by decide +kernel
theorem dX4_group_5 : decode cX4_group 5 = .ok (.iload_n 1, 1) := by decide +kernel
theorem dX4_group_6 : decode cX4_group 6 = .ok (.sipush 200, 3) := by decide +kernel
theorem dX4_group_9 : decode cX4_group 9 = .ok (.if_icmp .le 7, 3) := by decide +kernel
theorem dX4_group_12 : decode cX4_group 12 = .ok (.iconst 1, 1) := by decide +kernel
theorem dX4_group_13 : decode cX4_group 13 = .ok (.goto 4, 3) := by decide +kernel
theorem dX4_group_16 : decode cX4_group 16 = .ok (.iconst 0, 1) := by decide +kernel
theorem dX4_group_17 : decode cX4_group 17 = .ok (.putfield 74, 3) := by decide +kernel
theorem dX4_group_20 : decode cX4_group 20 = .ok (.aload_n 0, 1) := by decide +kernel
theorem dX4_group_21 : decode cX4_group 21 = .ok (.getfield 74, 3) := by decide +kernel
theorem dX4_group_24 : decode cX4_group 24 = .ok (.ifCond .eq 5, 3) := by decide +kernel
theorem dX4_group_27 : decode cX4_group 27 = .ok (.iconst 0, 1) := by decide +kernel
theorem dX4_group_28 : decode cX4_group 28 = .ok (.ireturn, 1) := by decide +kernel
theorem dX4_group_29 : decode cX4_group 29 = .ok (.aload_n 0, 1) := by decide +kernel
theorem dX4_group_30 : decode cX4_group 30 = .ok (.iconst 0, 1) := by decide +kernel
theorem dX4_group_31 : decode cX4_group 31 = .ok (.putfield 175, 3) := by decide +kernel
theorem dX4_group_34 : decode cX4_group 34 = .ok (.iconst 0, 1) := by decide +kernel
theorem dX4_group_35 : decode cX4_group 35 = .ok (.istore_n 2, 1) := by decide +kernel
theorem dX4_group_36 : decode cX4_group 36 = .ok (.iload_n 2, 1) := by decide +kernel
theorem dX4_group_37 : decode cX4_group 37 = .ok (.aload_n 0, 1) := by decide +kernel
theorem dX4_group_38 : decode cX4_group 38 = .ok (.getfield 77, 3) := by decide +kernel
theorem dX4_group_41 : decode cX4_group 41 = .ok (.if_icmp .ge 169, 3) := by decide +kernel
theorem dX4_group_44 : decode cX4_group 44 = .ok (.iconst (-1), 1) := by decide +kernel
theorem dX4_group_45 : decode cX4_group 45 = .ok (.istore_n 3, 1) := by decide +kernel
theorem dX4_group_46 : decode cX4_group 46 = .ok (.iconst 0, 1) := by decide +kernel
theorem dX4_group_47 : decode cX4_group 47 = .ok (.istore 4, 2) := by decide +kernel
theorem dX4_group_49 : decode cX4_group 49 = .ok (.iconst 0, 1) := by decide +kernel
theorem dX4_group_50 : decode cX4_group 50 = .ok (.istore 5, 2) := by decide +kernel
theorem dX4_group_52 : decode cX4_group 52 = .ok (.iload 5, 2) := by decide +kernel
theorem dX4_group_54 : decode cX4_group 54 = .ok (.aload_n 0, 1) := by decide +kernel
theorem dX4_group_55 : decode cX4_group 55 = .ok (.getfield 175, 3) := by decide +kernel
theorem dX4_group_58 : decode cX4_group 58 = .ok (.if_icmp .ge 70, 3) := by decide +kernel
theorem dX4_group_61 : decode cX4_group 61 = .ok (.aload_n 0, 1) := by decide +kernel
theorem dX4_group_62 : decode cX4_group 62 = .ok (.iconst 1, 1) := by decide +kernel
theorem dX4_group_63 : decode cX4_group 63 = .ok (.iload 5, 2) := by decide +kernel
theorem dX4_group_65 : decode cX4_group 65 = .ok (.iadd, 1) := by decide +kernel
theorem dX4_group_66 : decode cX4_group 66 = .ok (.iload_n 2, 1) := by decide +kernel
theorem dX4_group_67 : decode cX4_group 67 = .ok (.invokevirtual 145, 3) := by decide +kernel
theorem dX4_group_70 : decode cX4_group 70 = .ok (.istore 6, 2) := by decide +kernel
theorem dX4_group_72 : decode cX4_group 72 = .ok (.aload_n 0, 1) := by decide +kernel
theorem dX4_group_73 : decode cX4_group 73 = .ok (.iconst 1, 1) := by decide +kernel
theorem dX4_group_74 : decode cX4_group 74 = .ok (.iload 5, 2) := by decide +kernel
theorem dX4_group_76 : decode cX4_group 76 = .ok (.iadd, 1) := by decide +kernel
theorem dX4_group_77 : decode cX4_group 77 = .ok (.iload_n 2, 1) := by decide +kernel
theorem dX4_group_78 : decode cX4_group 78 = .ok (.invokevirtual 148, 3) := by decide +kernel
theorem dX4_group_81 : decode cX4_group 81 = .ok (.aload_n 0, 1) := by decide +kernel
theorem dX4_group_82 : decode cX4_group 82 = .ok (.getfield 41, 3) := by decide +kernel
theorem dX4_group_85 : decode cX4_group 85 = .ok (.iconst 1, 1) := by decide +kernel
theorem dX4_group_86 : decode cX4_group 86 = .ok (.iload 5, 2) := by decide +kernel
theorem dX4_group_88 : decode cX4_group 88 = .ok (.iadd, 1) := by decide +kernel
theorem dX4_group_89 : decode cX4_group 89 = .ok (.iaload, 1) := by decide +kernel
theorem dX4_group_90 : decode cX4_group 90 = .ok (.aload_n 0, 1) := by decide +kernel
theorem dX4_group_91 : decode cX4_group 91 = .ok (.invokevirtual 152, 3) := by decide +kernel
theorem dX4_group_94 : decode cX4_group 94 = .ok (.iadd, 1) := by decide +kernel
theorem dX4_group_95 : decode cX4_group 95 = .ok (.bipush 40, 2) := by decide +kernel
theorem dX4_group_97 : decode cX4_group 97 = .ok (.if_icmp .gt 25, 3) := by decide +kernel
theorem dX4_group_100 : decode cX4_group 100 = .ok (.iload_n 3, 1) := by decide +kernel
theorem dX4_group_101 : decode cX4_group 101 = .ok (.iconst (-1), 1) := by decide +kernel
theorem dX4_group_102 : decode cX4_group 102 = .ok (.if_icmp .eq 13, 3) := by decide +kernel
theorem dX4_group_105 : decode cX4_group 105 = .ok (.iload 6, 2) := by decide +kernel
theorem dX4_group_107 : decode cX4_group 107 = .ok (.iload 4, 2) := by decide +kernel
theorem dX4_group_109 : decode cX4_group 109 = .ok (.if_icmp .lt 6, 3) := by decide +kernel
theorem dX4_group_112 : decode cX4_group 112 = .ok (.goto 10, 3) := by decide +kernel
theorem dX4_group_115 : decode cX4_group 115 = .ok (.iload 5, 2) := by decide +kernel
theorem dX4_group_117 : decode cX4_group 117 = .ok (.istore_n 3, 1) := by decide +kernel
theorem dX4_group_118 : decode cX4_group 118 = .ok (.iload 6, 2) := by decide +kernel
theorem dX4_group_120 : decode cX4_group 120 = .ok (.istore 4, 2) := by decide +kernel
theorem dX4_group_122 : decode cX4_group 122 = .ok (.iinc 5 1, 3) := by decide +kernel
theorem dX4_group_125 : decode cX4_group 125 = .ok (.goto (-73), 3) := by decide +kernel
theorem dX4_group_128 : decode cX4_group 128 = .ok (.iload_n 3, 1) := by decide +kernel
theorem dX4_group_129 : decode cX4_group 129 = .ok (.iconst (-1), 1) := by decide +kernel
theorem dX4_group_130 : decode cX4_group 130 = .ok (.if_icmp .eq 9, 3) := by decide +kernel
theorem dX4_group_133 : decode cX4_group 133 = .ok (.iload 4, 2) := by decide +kernel
theorem dX4_group_135 : decode cX4_group 135 = .ok (.iload_n 1, 1) := by decide +kernel
theorem dX4_group_136 : decode cX4_group 136 = .ok (.if_icmp .le 36, 3) := by decide +kernel
theorem dX4_group_139 : decode cX4_group 139 = .ok (.aload_n 0, 1) := by decide +kernel
theorem dX4_group_140 : decode cX4_group 140 = .ok (.getfield 175, 3) := by decide +kernel
theorem dX4_group_143 : decode cX4_group 143 = .ok (.istore_n 3, 1) := by decide +kernel
theorem dX4_group_144 : decode cX4_group 144 = .ok (.aload_n 0, 1) := by decide +kernel
theorem dX4_group_145 : decode cX4_group 145 = .ok (.getfield 41, 3) := by decide +kernel
theorem dX4_group_148 : decode cX4_group 148 = .ok (.iconst 1, 1) := by decide +kernel
theorem dX4_group_149 : decode cX4_group 149 = .ok (.iload_n 3, 1) := by decide +kernel
theorem dX4_group_150 : decode cX4_group 150 = .ok (.iadd, 1) := by decide +kernel
theorem dX4_group_151 : decode cX4_group 151 = .ok (.iconst 0, 1) := by decide +kernel
theorem dX4_group_152 : decode cX4_group 152 = .ok (.iastore, 1) := by decide +kernel
theorem dX4_group_153 : decode cX4_group 153 = .ok (.aload_n 0, 1) := by decide +kernel
theorem dX4_group_154 : decode cX4_group 154 = .ok (.getfield 44, 3) := by decide +kernel
theorem dX4_group_157 : decode cX4_group 157 = .ok (.iconst 1, 1) := by decide +kernel
theorem dX4_group_158 : decode cX4_group 158 = .ok (.iload_n 3, 1) := by decide +kernel
theorem dX4_group_159 : decode cX4_group 159 = .ok (.iadd, 1) := by decide +kernel
theorem dX4_group_160 : decode cX4_group 160 = .ok (.iconst 0, 1) := by decide +kernel
theorem dX4_group_161 : decode cX4_group 161 = .ok (.iastore, 1) := by decide +kernel
theorem dX4_group_162 : decode cX4_group 162 = .ok (.aload_n 0, 1) := by decide +kernel
theorem dX4_group_163 : decode cX4_group 163 = .ok (.dup, 1) := by decide +kernel
theorem dX4_group_164 : decode cX4_group 164 = .ok (.getfield 175, 3) := by decide +kernel
theorem dX4_group_167 : decode cX4_group 167 = .ok (.iconst 1, 1) := by decide +kernel
theorem dX4_group_168 : decode cX4_group 168 = .ok (.iadd, 1) := by decide +kernel
theorem dX4_group_169 : decode cX4_group 169 = .ok (.putfield 175, 3) := by decide +kernel
theorem dX4_group_172 : decode cX4_group 172 = .ok (.aload_n 0, 1) := by decide +kernel
theorem dX4_group_173 : decode cX4_group 173 = .ok (.iconst 1, 1) := by decide +kernel
theorem dX4_group_174 : decode cX4_group 174 = .ok (.iload_n 3, 1) := by decide +kernel
theorem dX4_group_175 : decode cX4_group 175 = .ok (.iadd, 1) := by decide +kernel
theorem dX4_group_176 : decode cX4_group 176 = .ok (.iload_n 2, 1) := by decide +kernel
theorem dX4_group_177 : decode cX4_group 177 = .ok (.invokevirtual 145, 3) := by decide +kernel
theorem dX4_group_180 : decode cX4_group 180 = .ok (.pop, 1) := by decide +kernel
theorem dX4_group_181 : decode cX4_group 181 = .ok (.aload_n 0, 1) := by decide +kernel
theorem dX4_group_182 : decode cX4_group 182 = .ok (.iconst 1, 1) := by decide +kernel
theorem dX4_group_183 : decode cX4_group 183 = .ok (.iload_n 3, 1) := by decide +kernel
theorem dX4_group_184 : decode cX4_group 184 = .ok (.iadd, 1) := by decide +kernel
theorem dX4_group_185 : decode cX4_group 185 = .ok (.iload_n 2, 1) := by decide +kernel
theorem dX4_group_186 : decode cX4_group 186 = .ok (.invokevirtual 148, 3) := by decide +kernel
theorem dX4_group_189 : decode cX4_group 189 = .ok (.aload_n 0, 1) := by decide +kernel
theorem dX4_group_190 : decode cX4_group 190 = .ok (.iconst 1, 1) := by decide +kernel
theorem dX4_group_191 : decode cX4_group 191 = .ok (.iload_n 3, 1) := by decide +kernel
theorem dX4_group_192 : decode cX4_group 192 = .ok (.iadd, 1) := by decide +kernel
theorem dX4_group_193 : decode cX4_group 193 = .ok (.iload_n 2, 1) := by decide +kernel
theorem dX4_group_194 : decode cX4_group 194 = .ok (.invokevirtual 156, 3) := by decide +kernel
theorem dX4_group_197 : decode cX4_group 197 = .ok (.aload_n 0, 1) := by decide +kernel
theorem dX4_group_198 : decode cX4_group 198 = .ok (.getfield 56, 3) := by decide +kernel
theorem dX4_group_201 : decode cX4_group 201 = .ok (.iload_n 2, 1) := by decide +kernel
theorem dX4_group_202 : decode cX4_group 202 = .ok (.iload_n 3, 1) := by decide +kernel
theorem dX4_group_203 : decode cX4_group 203 = .ok (.iastore, 1) := by decide +kernel
theorem dX4_group_204 : decode cX4_group 204 = .ok (.iinc 2 1, 3) := by decide +kernel
theorem dX4_group_207 : decode cX4_group 207 = .ok (.goto (-171), 3) := by decide +kernel
theorem dX4_group_210 : decode cX4_group 210 = .ok (.aload_n 0, 1) := by decide +kernel
theorem dX4_group_211 : decode cX4_group 211 = .ok (.iconst 1, 1) := by decide +kernel
theorem dX4_group_212 : decode cX4_group 212 = .ok (.putfield 92, 3) := by decide +kernel
theorem dX4_group_215 : decode cX4_group 215 = .ok (.aload_n 0, 1) := by decide +kernel
theorem dX4_group_216 : decode cX4_group 216 = .ok (.getfield 175, 3) := by decide +kernel
theorem dX4_group_219 : decode cX4_group 219 = .ok (.ireturn, 1) := by decide +kernel
theorem dX4_groupOf_0 : decode cX4_groupOf 0 = .ok (.aload_n 0, 1) := by decide +kernel
theorem dX4_groupOf_1 : decode cX4_groupOf 1 = .ok (.iconst 0, 1) := by decide +kernel
theorem dX4_groupOf_2 : decode cX4_groupOf 2 = .ok (.putfield 74, 3) := by decide +kernel
theorem dX4_groupOf_5 : decode cX4_groupOf 5 = .ok (.aload_n 0, 1) := by decide +kernel
theorem dX4_groupOf_6 : decode cX4_groupOf 6 = .ok (.getfield 92, 3) := by decide +kernel
theorem dX4_groupOf_9 : decode cX4_groupOf 9 = .ok (.ifCond .ne 9, 3) := by decide +kernel
theorem dX4_groupOf_12 : decode cX4_groupOf 12 = .ok (.aload_n 0, 1) := by decide +kernel
theorem dX4_groupOf_13 : decode cX4_groupOf 13 = .ok (.iconst 1, 1) := by decide +kernel
theorem dX4_groupOf_14 : decode cX4_groupOf 14 = .ok (.invokevirtual 85, 3) := by decide +kernel
theorem dX4_groupOf_17 : decode cX4_groupOf 17 = .ok (.ireturn, 1) := by decide +kernel
theorem dX4_groupOf_18 : decode cX4_groupOf 18 = .ok (.aload_n 0, 1) := by decide +kernel
theorem dX4_groupOf_19 : decode cX4_groupOf 19 = .ok (.iload_n 1, 1) := by decide +kernel
theorem dX4_groupOf_20 : decode cX4_groupOf 20 = .ok (.invokevirtual 96, 3) := by decide +kernel
theorem dX4_groupOf_23 : decode cX4_groupOf 23 = .ok (.ifCond .eq 12, 3) := by decide +kernel
theorem dX4_groupOf_26 : decode cX4_groupOf 26 = .ok (.aload_n 0, 1) := by decide +kernel
theorem dX4_groupOf_27 : decode cX4_groupOf 27 = .ok (.getfield 56, 3) := by decide +kernel
theorem dX4_groupOf_30 : decode cX4_groupOf 30 = .ok (.iload_n 1, 1) := by decide +kernel
theorem dX4_groupOf_31 : decode cX4_groupOf 31 = .ok (.iaload, 1) := by decide +kernel
theorem dX4_groupOf_32 : decode cX4_groupOf 32 = .ok (.goto 8, 3) := by decide +kernel
theorem dX4_groupOf_35 : decode cX4_groupOf 35 = .ok (.aload_n 0, 1) := by decide +kernel
theorem dX4_groupOf_36 : decode cX4_groupOf 36 = .ok (.iconst 2, 1) := by decide +kernel
theorem dX4_groupOf_37 : decode cX4_groupOf 37 = .ok (.invokevirtual 85, 3) := by decide +kernel
theorem dX4_groupOf_40 : decode cX4_groupOf 40 = .ok (.ireturn, 1) := by decide +kernel
theorem dX4_groupSlots_0 : decode cX4_groupSlots 0 = .ok (.aload_n 0, 1) := by decide +kernel
theorem dX4_groupSlots_1 : decode cX4_groupSlots 1 = .ok (.iconst 0, 1) := by decide +kernel
theorem dX4_groupSlots_2 : decode cX4_groupSlots 2 = .ok (.putfield 74, 3) := by decide +kernel
theorem dX4_groupSlots_5 : decode cX4_groupSlots 5 = .ok (.aload_n 0, 1) := by decide +kernel
theorem dX4_groupSlots_6 : decode cX4_groupSlots 6 = .ok (.getfield 92, 3) := by decide +kernel
theorem dX4_groupSlots_9 : decode cX4_groupSlots 9 = .ok (.ifCond .ne 9, 3) := by decide +kernel
theorem dX4_groupSlots_12 : decode cX4_groupSlots 12 = .ok (.aload_n 0, 1) := by decide +kernel
theorem dX4_groupSlots_13 : decode cX4_groupSlots 13 = .ok (.iconst 1, 1) := by decide +kernel
theorem dX4_groupSlots_14 : decode cX4_groupSlots 14 = .ok (.invokevirtual 85, 3) := by decide +kernel
theorem dX4_groupSlots_17 : decode cX4_groupSlots 17 = .ok (.ireturn, 1) := by decide +kernel
theorem dX4_groupSlots_18 : decode cX4_groupSlots 18 = .ok (.iload_n 1, 1) := by decide +kernel
theorem dX4_groupSlots_19 : decode cX4_groupSlots 19 = .ok (.ifCond .lt 22, 3) := by decide +kernel
theorem dX4_groupSlots_22 : decode cX4_groupSlots 22 = .ok (.iload_n 1, 1) := by decide +kernel
theorem dX4_groupSlots_23 : decode cX4_groupSlots 23 = .ok (.aload_n 0, 1) := by decide +kernel
theorem dX4_groupSlots_24 : decode cX4_groupSlots 24 = .ok (.getfield 175, 3) := by decide +kernel
theorem dX4_groupSlots_27 : decode cX4_groupSlots 27 = .ok (.if_icmp .ge 14, 3) := by decide +kernel
theorem dX4_groupSlots_30 : decode cX4_groupSlots 30 = .ok (.aload_n 0, 1) := by decide +kernel
theorem dX4_groupSlots_31 : decode cX4_groupSlots 31 = .ok (.getfield 41, 3) := by decide +kernel
theorem dX4_groupSlots_34 : decode cX4_groupSlots 34 = .ok (.iconst 1, 1) := by decide +kernel
theorem dX4_groupSlots_35 : decode cX4_groupSlots 35 = .ok (.iload_n 1, 1) := by decide +kernel
theorem dX4_groupSlots_36 : decode cX4_groupSlots 36 = .ok (.iadd, 1) := by decide +kernel
theorem dX4_groupSlots_37 : decode cX4_groupSlots 37 = .ok (.iaload, 1) := by decide +kernel
theorem dX4_groupSlots_38 : decode cX4_groupSlots 38 = .ok (.goto 8, 3) := by decide +kernel
theorem dX4_groupSlots_41 : decode cX4_groupSlots 41 = .ok (.aload_n 0, 1) := by decide +kernel
theorem dX4_groupSlots_42 : decode cX4_groupSlots 42 = .ok (.iconst 2, 1) := by decide +kernel
theorem dX4_groupSlots_43 : decode cX4_groupSlots 43 = .ok (.invokevirtual 85, 3) := by decide +kernel
theorem dX4_groupSlots_46 : decode cX4_groupSlots 46 = .ok (.ireturn, 1) := by decide +kernel
theorem dX4_digest_0 : decode cX4_digest 0 = .ok (.aload_n 0, 1) := by decide +kernel
theorem dX4_digest_1 : decode cX4_digest 1 = .ok (.iconst 0, 1) := by decide +kernel
theorem dX4_digest_2 : decode cX4_digest 2 = .ok (.putfield 74, 3) := by decide +kernel
theorem dX4_digest_5 : decode cX4_digest 5 = .ok (.ldc2_w 178, 3) := by decide +kernel
theorem dX4_digest_8 : decode cX4_digest 8 = .ok (.aload_n 0, 1) := by decide +kernel
theorem dX4_digest_9 : decode cX4_digest 9 = .ok (.getfield 82, 3) := by decide +kernel
theorem dX4_digest_12 : decode cX4_digest 12 = .ok (.i2l, 1) := by decide +kernel
theorem dX4_digest_13 : decode cX4_digest 13 = .ok (.ladd, 1) := by decide +kernel
theorem dX4_digest_14 : decode cX4_digest 14 = .ok (.ldc2_w 180, 3) := by decide +kernel
theorem dX4_digest_17 : decode cX4_digest 17 = .ok (.lmul, 1) := by decide +kernel
theorem dX4_digest_18 : decode cX4_digest 18 = .ok (.aload_n 0, 1) := by decide +kernel
theorem dX4_digest_19 : decode cX4_digest 19 = .ok (.getfield 77, 3) := by decide +kernel
theorem dX4_digest_22 : decode cX4_digest 22 = .ok (.i2l, 1) := by decide +kernel
theorem dX4_digest_23 : decode cX4_digest 23 = .ok (.ladd, 1) := by decide +kernel
theorem dX4_digest_24 : decode cX4_digest 24 = .ok (.lstore_n 1, 1) := by decide +kernel
theorem dX4_digest_25 : decode cX4_digest 25 = .ok (.iconst 0, 1) := by decide +kernel
theorem dX4_digest_26 : decode cX4_digest 26 = .ok (.istore_n 3, 1) := by decide +kernel
theorem dX4_digest_27 : decode cX4_digest 27 = .ok (.iload_n 3, 1) := by decide +kernel
theorem dX4_digest_28 : decode cX4_digest 28 = .ok (.aload_n 0, 1) := by decide +kernel
theorem dX4_digest_29 : decode cX4_digest 29 = .ok (.getfield 77, 3) := by decide +kernel
theorem dX4_digest_32 : decode cX4_digest 32 = .ok (.if_icmp .ge 63, 3) := by decide +kernel
theorem dX4_digest_35 : decode cX4_digest 35 = .ok (.lload_n 1, 1) := by decide +kernel
theorem dX4_digest_36 : decode cX4_digest 36 = .ok (.ldc2_w 180, 3) := by decide +kernel
theorem dX4_digest_39 : decode cX4_digest 39 = .ok (.lmul, 1) := by decide +kernel
theorem dX4_digest_40 : decode cX4_digest 40 = .ok (.aload_n 0, 1) := by decide +kernel
theorem dX4_digest_41 : decode cX4_digest 41 = .ok (.getfield 13, 3) := by decide +kernel
theorem dX4_digest_44 : decode cX4_digest 44 = .ok (.iload_n 3, 1) := by decide +kernel
theorem dX4_digest_45 : decode cX4_digest 45 = .ok (.iaload, 1) := by decide +kernel
theorem dX4_digest_46 : decode cX4_digest 46 = .ok (.i2l, 1) := by decide +kernel
theorem dX4_digest_47 : decode cX4_digest 47 = .ok (.ladd, 1) := by decide +kernel
theorem dX4_digest_48 : decode cX4_digest 48 = .ok (.lstore_n 1, 1) := by decide +kernel
theorem dX4_digest_49 : decode cX4_digest 49 = .ok (.iconst 0, 1) := by decide +kernel
theorem dX4_digest_50 : decode cX4_digest 50 = .ok (.istore 4, 2) := by decide +kernel
theorem dX4_digest_52 : decode cX4_digest 52 = .ok (.iload 4, 2) := by decide +kernel
theorem dX4_digest_54 : decode cX4_digest 54 = .ok (.aload_n 0, 1) := by decide +kernel
theorem dX4_digest_55 : decode cX4_digest 55 = .ok (.getfield 13, 3) := by decide +kernel
theorem dX4_digest_58 : decode cX4_digest 58 = .ok (.iload_n 3, 1) := by decide +kernel
theorem dX4_digest_59 : decode cX4_digest 59 = .ok (.iaload, 1) := by decide +kernel
theorem dX4_digest_60 : decode cX4_digest 60 = .ok (.if_icmp .ge 29, 3) := by decide +kernel
theorem dX4_digest_63 : decode cX4_digest 63 = .ok (.lload_n 1, 1) := by decide +kernel
theorem dX4_digest_64 : decode cX4_digest 64 = .ok (.ldc2_w 180, 3) := by decide +kernel
theorem dX4_digest_67 : decode cX4_digest 67 = .ok (.lmul, 1) := by decide +kernel
theorem dX4_digest_68 : decode cX4_digest 68 = .ok (.aload_n 0, 1) := by decide +kernel
theorem dX4_digest_69 : decode cX4_digest 69 = .ok (.getfield 16, 3) := by decide +kernel
theorem dX4_digest_72 : decode cX4_digest 72 = .ok (.bipush 30, 2) := by decide +kernel
theorem dX4_digest_74 : decode cX4_digest 74 = .ok (.iload_n 3, 1) := by decide +kernel
theorem dX4_digest_75 : decode cX4_digest 75 = .ok (.imul, 1) := by decide +kernel
theorem dX4_digest_76 : decode cX4_digest 76 = .ok (.iload 4, 2) := by decide +kernel
theorem dX4_digest_78 : decode cX4_digest 78 = .ok (.iadd, 1) := by decide +kernel
theorem dX4_digest_79 : decode cX4_digest 79 = .ok (.iaload, 1) := by decide +kernel
theorem dX4_digest_80 : decode cX4_digest 80 = .ok (.i2l, 1) := by decide +kernel
theorem dX4_digest_81 : decode cX4_digest 81 = .ok (.ladd, 1) := by decide +kernel
theorem dX4_digest_82 : decode cX4_digest 82 = .ok (.lstore_n 1, 1) := by decide +kernel
theorem dX4_digest_83 : decode cX4_digest 83 = .ok (.iinc 4 1, 3) := by decide +kernel
theorem dX4_digest_86 : decode cX4_digest 86 = .ok (.goto (-34), 3) := by decide +kernel
theorem dX4_digest_89 : decode cX4_digest 89 = .ok (.iinc 3 1, 3) := by decide +kernel
theorem dX4_digest_92 : decode cX4_digest 92 = .ok (.goto (-65), 3) := by decide +kernel
theorem dX4_digest_95 : decode cX4_digest 95 = .ok (.lload_n 1, 1) := by decide +kernel
theorem dX4_digest_96 : decode cX4_digest 96 = .ok (.ldc2_w 180, 3) := by decide +kernel
theorem dX4_digest_99 : decode cX4_digest 99 = .ok (.lmul, 1) := by decide +kernel
theorem dX4_digest_100 : decode cX4_digest 100 = .ok (.aload_n 0, 1) := by decide +kernel
theorem dX4_digest_101 : decode cX4_digest 101 = .ok (.getfield 31, 3) := by decide +kernel
theorem dX4_digest_104 : decode cX4_digest 104 = .ok (.i2l, 1) := by decide +kernel
theorem dX4_digest_105 : decode cX4_digest 105 = .ok (.ladd, 1) := by decide +kernel
theorem dX4_digest_106 : decode cX4_digest 106 = .ok (.ldc2_w 180, 3) := by decide +kernel
theorem dX4_digest_109 : decode cX4_digest 109 = .ok (.lmul, 1) := by decide +kernel
theorem dX4_digest_110 : decode cX4_digest 110 = .ok (.aload_n 0, 1) := by decide +kernel
theorem dX4_digest_111 : decode cX4_digest 111 = .ok (.getfield 35, 3) := by decide +kernel
theorem dX4_digest_114 : decode cX4_digest 114 = .ok (.i2l, 1) := by decide +kernel
theorem dX4_digest_115 : decode cX4_digest 115 = .ok (.ladd, 1) := by decide +kernel
theorem dX4_digest_116 : decode cX4_digest 116 = .ok (.ldc2_w 180, 3) := by decide +kernel
theorem dX4_digest_119 : decode cX4_digest 119 = .ok (.lmul, 1) := by decide +kernel
theorem dX4_digest_120 : decode cX4_digest 120 = .ok (.aload_n 0, 1) := by decide +kernel
theorem dX4_digest_121 : decode cX4_digest 121 = .ok (.getfield 38, 3) := by decide +kernel
theorem dX4_digest_124 : decode cX4_digest 124 = .ok (.i2l, 1) := by decide +kernel
theorem dX4_digest_125 : decode cX4_digest 125 = .ok (.ladd, 1) := by decide +kernel
theorem dX4_digest_126 : decode cX4_digest 126 = .ok (.lstore_n 1, 1) := by decide +kernel
theorem dX4_digest_127 : decode cX4_digest 127 = .ok (.lload_n 1, 1) := by decide +kernel
theorem dX4_digest_128 : decode cX4_digest 128 = .ok (.ldc2_w 180, 3) := by decide +kernel
theorem dX4_digest_131 : decode cX4_digest 131 = .ok (.lmul, 1) := by decide +kernel
theorem dX4_digest_132 : decode cX4_digest 132 = .ok (.aload_n 0, 1) := by decide +kernel
theorem dX4_digest_133 : decode cX4_digest 133 = .ok (.getfield 41, 3) := by decide +kernel
theorem dX4_digest_136 : decode cX4_digest 136 = .ok (.iconst 0, 1) := by decide +kernel
theorem dX4_digest_137 : decode cX4_digest 137 = .ok (.iaload, 1) := by decide +kernel
theorem dX4_digest_138 : decode cX4_digest 138 = .ok (.i2l, 1) := by decide +kernel
theorem dX4_digest_139 : decode cX4_digest 139 = .ok (.ladd, 1) := by decide +kernel
theorem dX4_digest_140 : decode cX4_digest 140 = .ok (.lstore_n 1, 1) := by decide +kernel
theorem dX4_digest_141 : decode cX4_digest 141 = .ok (.iconst 0, 1) := by decide +kernel
theorem dX4_digest_142 : decode cX4_digest 142 = .ok (.istore_n 3, 1) := by decide +kernel
theorem dX4_digest_143 : decode cX4_digest 143 = .ok (.iload_n 3, 1) := by decide +kernel
theorem dX4_digest_144 : decode cX4_digest 144 = .ok (.aload_n 0, 1) := by decide +kernel
theorem dX4_digest_145 : decode cX4_digest 145 = .ok (.getfield 41, 3) := by decide +kernel
theorem dX4_digest_148 : decode cX4_digest 148 = .ok (.iconst 0, 1) := by decide +kernel
theorem dX4_digest_149 : decode cX4_digest 149 = .ok (.iaload, 1) := by decide +kernel
theorem dX4_digest_150 : decode cX4_digest 150 = .ok (.if_icmp .ge 92, 3) := by decide +kernel
theorem dX4_digest_153 : decode cX4_digest 153 = .ok (.lload_n 1, 1) := by decide +kernel
theorem dX4_digest_154 : decode cX4_digest 154 = .ok (.ldc2_w 180, 3) := by decide +kernel
theorem dX4_digest_157 : decode cX4_digest 157 = .ok (.lmul, 1) := by decide +kernel
theorem dX4_digest_158 : decode cX4_digest 158 = .ok (.aload_n 0, 1) := by decide +kernel
theorem dX4_digest_159 : decode cX4_digest 159 = .ok (.getfield 47, 3) := by decide +kernel
theorem dX4_digest_162 : decode cX4_digest 162 = .ok (.iload_n 3, 1) := by decide +kernel
theorem dX4_digest_163 : decode cX4_digest 163 = .ok (.iaload, 1) := by decide +kernel
theorem dX4_digest_164 : decode cX4_digest 164 = .ok (.i2l, 1) := by decide +kernel
theorem dX4_digest_165 : decode cX4_digest 165 = .ok (.ladd, 1) := by decide +kernel
theorem dX4_digest_166 : decode cX4_digest 166 = .ok (.ldc2_w 180, 3) := by decide +kernel
theorem dX4_digest_169 : decode cX4_digest 169 = .ok (.lmul, 1) := by decide +kernel
theorem dX4_digest_170 : decode cX4_digest 170 = .ok (.aload_n 0, 1) := by decide +kernel
theorem dX4_digest_171 : decode cX4_digest 171 = .ok (.iload_n 3, 1) := by decide +kernel
theorem dX4_digest_172 : decode cX4_digest 172 = .ok (.iconst 0, 1) := by decide +kernel
theorem dX4_digest_173 : decode cX4_digest 173 = .ok (.invokevirtual 159, 3) := by decide +kernel
theorem dX4_digest_176 : decode cX4_digest 176 = .ok (.i2l, 1) := by decide +kernel
theorem dX4_digest_177 : decode cX4_digest 177 = .ok (.ladd, 1) := by decide +kernel
theorem dX4_digest_178 : decode cX4_digest 178 = .ok (.ldc2_w 180, 3) := by decide +kernel
theorem dX4_digest_181 : decode cX4_digest 181 = .ok (.lmul, 1) := by decide +kernel
theorem dX4_digest_182 : decode cX4_digest 182 = .ok (.aload_n 0, 1) := by decide +kernel
theorem dX4_digest_183 : decode cX4_digest 183 = .ok (.iload_n 3, 1) := by decide +kernel
theorem dX4_digest_184 : decode cX4_digest 184 = .ok (.iconst 1, 1) := by decide +kernel
theorem dX4_digest_185 : decode cX4_digest 185 = .ok (.invokevirtual 159, 3) := by decide +kernel
theorem dX4_digest_188 : decode cX4_digest 188 = .ok (.i2l, 1) := by decide +kernel
theorem dX4_digest_189 : decode cX4_digest 189 = .ok (.ladd, 1) := by decide +kernel
theorem dX4_digest_190 : decode cX4_digest 190 = .ok (.lstore_n 1, 1) := by decide +kernel
theorem dX4_digest_191 : decode cX4_digest 191 = .ok (.lload_n 1, 1) := by decide +kernel
theorem dX4_digest_192 : decode cX4_digest 192 = .ok (.ldc2_w 180, 3) := by decide +kernel
theorem dX4_digest_195 : decode cX4_digest 195 = .ok (.lmul, 1) := by decide +kernel
theorem dX4_digest_196 : decode cX4_digest 196 = .ok (.aload_n 0, 1) := by decide +kernel
theorem dX4_digest_197 : decode cX4_digest 197 = .ok (.iconst 0, 1) := by decide +kernel
theorem dX4_digest_198 : decode cX4_digest 198 = .ok (.iload_n 3, 1) := by decide +kernel
theorem dX4_digest_199 : decode cX4_digest 199 = .ok (.invokevirtual 115, 3) := by decide +kernel
theorem dX4_digest_202 : decode cX4_digest 202 = .ok (.i2l, 1) := by decide +kernel
theorem dX4_digest_203 : decode cX4_digest 203 = .ok (.ladd, 1) := by decide +kernel
theorem dX4_digest_204 : decode cX4_digest 204 = .ok (.ldc2_w 180, 3) := by decide +kernel
theorem dX4_digest_207 : decode cX4_digest 207 = .ok (.lmul, 1) := by decide +kernel
theorem dX4_digest_208 : decode cX4_digest 208 = .ok (.aload_n 0, 1) := by decide +kernel
theorem dX4_digest_209 : decode cX4_digest 209 = .ok (.getfield 50, 3) := by decide +kernel
theorem dX4_digest_212 : decode cX4_digest 212 = .ok (.iload_n 3, 1) := by decide +kernel
theorem dX4_digest_213 : decode cX4_digest 213 = .ok (.iaload, 1) := by decide +kernel
theorem dX4_digest_214 : decode cX4_digest 214 = .ok (.iconst (-1), 1) := by decide +kernel
theorem dX4_digest_215 : decode cX4_digest 215 = .ok (.if_icmp .ne 7, 3) := by decide +kernel
theorem dX4_digest_218 : decode cX4_digest 218 = .ok (.iconst (-1), 1) := by decide +kernel
theorem dX4_digest_219 : decode cX4_digest 219 = .ok (.goto 14, 3) := by decide +kernel
theorem dX4_digest_222 : decode cX4_digest 222 = .ok (.aload_n 0, 1) := by decide +kernel
theorem dX4_digest_223 : decode cX4_digest 223 = .ok (.getfield 28, 3) := by decide +kernel
theorem dX4_digest_226 : decode cX4_digest 226 = .ok (.aload_n 0, 1) := by decide +kernel
theorem dX4_digest_227 : decode cX4_digest 227 = .ok (.getfield 50, 3) := by decide +kernel
theorem dX4_digest_230 : decode cX4_digest 230 = .ok (.iload_n 3, 1) := by decide +kernel
theorem dX4_digest_231 : decode cX4_digest 231 = .ok (.iaload, 1) := by decide +kernel
theorem dX4_digest_232 : decode cX4_digest 232 = .ok (.iaload, 1) := by decide +kernel
theorem dX4_digest_233 : decode cX4_digest 233 = .ok (.i2l, 1) := by decide +kernel
theorem dX4_digest_234 : decode cX4_digest 234 = .ok (.ladd, 1) := by decide +kernel
theorem dX4_digest_235 : decode cX4_digest 235 = .ok (.lstore_n 1, 1) := by decide +kernel
theorem dX4_digest_236 : decode cX4_digest 236 = .ok (.iinc 3 1, 3) := by decide +kernel
theorem dX4_digest_239 : decode cX4_digest 239 = .ok (.goto (-96), 3) := by decide +kernel
theorem dX4_digest_242 : decode cX4_digest 242 = .ok (.lload_n 1, 1) := by decide +kernel
theorem dX4_digest_243 : decode cX4_digest 243 = .ok (.ldc2_w 180, 3) := by decide +kernel
theorem dX4_digest_246 : decode cX4_digest 246 = .ok (.lmul, 1) := by decide +kernel
theorem dX4_digest_247 : decode cX4_digest 247 = .ok (.aload_n 0, 1) := by decide +kernel
theorem dX4_digest_248 : decode cX4_digest 248 = .ok (.getfield 44, 3) := by decide +kernel
theorem dX4_digest_251 : decode cX4_digest 251 = .ok (.iconst 0, 1) := by decide +kernel
theorem dX4_digest_252 : decode cX4_digest 252 = .ok (.iaload, 1) := by decide +kernel
theorem dX4_digest_253 : decode cX4_digest 253 = .ok (.invokestatic 118, 3) := by decide +kernel
theorem dX4_digest_256 : decode cX4_digest 256 = .ok (.i2l, 1) := by decide +kernel
theorem dX4_digest_257 : decode cX4_digest 257 = .ok (.ladd, 1) := by decide +kernel
theorem dX4_digest_258 : decode cX4_digest 258 = .ok (.lstore_n 1, 1) := by decide +kernel
theorem dX4_digest_259 : decode cX4_digest 259 = .ok (.iconst 0, 1) := by decide +kernel
theorem dX4_digest_260 : decode cX4_digest 260 = .ok (.istore_n 3, 1) := by decide +kernel
theorem dX4_digest_261 : decode cX4_digest 261 = .ok (.aload_n 0, 1) := by decide +kernel
theorem dX4_digest_262 : decode cX4_digest 262 = .ok (.getfield 92, 3) := by decide +kernel
theorem dX4_digest_265 : decode cX4_digest 265 = .ok (.ifCond .eq 31, 3) := by decide +kernel
theorem dX4_digest_268 : decode cX4_digest 268 = .ok (.iload_n 3, 1) := by decide +kernel
theorem dX4_digest_269 : decode cX4_digest 269 = .ok (.aload_n 0, 1) := by decide +kernel
theorem dX4_digest_270 : decode cX4_digest 270 = .ok (.getfield 77, 3) := by decide +kernel
theorem dX4_digest_273 : decode cX4_digest 273 = .ok (.if_icmp .ge 23, 3) := by decide +kernel
theorem dX4_digest_276 : decode cX4_digest 276 = .ok (.lload_n 1, 1) := by decide +kernel
theorem dX4_digest_277 : decode cX4_digest 277 = .ok (.ldc2_w 180, 3) := by decide +kernel
theorem dX4_digest_280 : decode cX4_digest 280 = .ok (.lmul, 1) := by decide +kernel
theorem dX4_digest_281 : decode cX4_digest 281 = .ok (.aload_n 0, 1) := by decide +kernel
theorem dX4_digest_282 : decode cX4_digest 282 = .ok (.getfield 56, 3) := by decide +kernel
theorem dX4_digest_285 : decode cX4_digest 285 = .ok (.iload_n 3, 1) := by decide +kernel
theorem dX4_digest_286 : decode cX4_digest 286 = .ok (.iaload, 1) := by decide +kernel
theorem dX4_digest_287 : decode cX4_digest 287 = .ok (.i2l, 1) := by decide +kernel
theorem dX4_digest_288 : decode cX4_digest 288 = .ok (.ladd, 1) := by decide +kernel
theorem dX4_digest_289 : decode cX4_digest 289 = .ok (.lstore_n 1, 1) := by decide +kernel
theorem dX4_digest_290 : decode cX4_digest 290 = .ok (.iinc 3 1, 3) := by decide +kernel
theorem dX4_digest_293 : decode cX4_digest 293 = .ok (.goto (-32), 3) := by decide +kernel
theorem dX4_digest_296 : decode cX4_digest 296 = .ok (.lload_n 1, 1) := by decide +kernel
theorem dX4_digest_297 : decode cX4_digest 297 = .ok (.lreturn, 1) := by decide +kernel

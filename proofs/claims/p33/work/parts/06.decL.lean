theorem dL_below_0 : decode cL_below 0 = .ok (.iload_n 0, 1) := by decide +kernel
theorem dL_below_1 : decode cL_below 1 = .ok (.ldc 7, 2) := by decide +kernel
theorem dL_below_3 : decode cL_below 3 = .ok (.iand, 1) := by decide +kernel
theorem dL_below_4 : decode cL_below 4 = .ok (.iload_n 1, 1) := by decide +kernel
theorem dL_below_5 : decode cL_below 5 = .ok (.irem, 1) := by decide +kernel
theorem dL_below_6 : decode cL_below 6 = .ok (.ireturn, 1) := by decide +kernel
theorem dL_cell_0 : decode cL_cell 0 = .ok (.iload_n 1, 1) := by decide +kernel
theorem dL_cell_1 : decode cL_cell 1 = .ok (.aload_n 0, 1) := by decide +kernel
theorem dL_cell_2 : decode cL_cell 2 = .ok (.arraylength, 1) := by decide +kernel
theorem dL_cell_3 : decode cL_cell 3 = .ok (.if_icmp .ge 9, 3) := by decide +kernel
theorem dL_cell_6 : decode cL_cell 6 = .ok (.aload_n 0, 1) := by decide +kernel
theorem dL_cell_7 : decode cL_cell 7 = .ok (.iload_n 1, 1) := by decide +kernel
theorem dL_cell_8 : decode cL_cell 8 = .ok (.iaload, 1) := by decide +kernel
theorem dL_cell_9 : decode cL_cell 9 = .ok (.goto 9, 3) := by decide +kernel
theorem dL_cell_12 : decode cL_cell 12 = .ok (.ldc 8, 2) := by decide +kernel
theorem dL_cell_14 : decode cL_cell 14 = .ok (.iload_n 1, 1) := by decide +kernel
theorem dL_cell_15 : decode cL_cell 15 = .ok (.iconst 3, 1) := by decide +kernel
theorem dL_cell_16 : decode cL_cell 16 = .ok (.iadd, 1) := by decide +kernel
theorem dL_cell_17 : decode cL_cell 17 = .ok (.imul, 1) := by decide +kernel
theorem dL_cell_18 : decode cL_cell 18 = .ok (.ireturn, 1) := by decide +kernel
theorem dL_line_0 : decode cL_line 0 = .ok (.bipush 15, 2) := by decide +kernel
theorem dL_line_2 : decode cL_line 2 = .ok (.anewarray 9, 3) := by decide +kernel
theorem dL_line_5 : decode cL_line 5 = .ok (.dup, 1) := by decide +kernel
theorem dL_line_6 : decode cL_line 6 = .ok (.iconst 0, 1) := by decide +kernel
theorem dL_line_7 : decode cL_line 7 = .ok (.ldc 11, 2) := by decide +kernel
theorem dL_line_9 : decode cL_line 9 = .ok (.aastore, 1) := by decide +kernel
theorem dL_line_10 : decode cL_line 10 = .ok (.dup, 1) := by decide +kernel
theorem dL_line_11 : decode cL_line 11 = .ok (.iconst 1, 1) := by decide +kernel
theorem dL_line_12 : decode cL_line 12 = .ok (.ldc 13, 2) := by decide +kernel
theorem dL_line_14 : decode cL_line 14 = .ok (.aastore, 1) := by decide +kernel
theorem dL_line_15 : decode cL_line 15 = .ok (.dup, 1) := by decide +kernel
theorem dL_line_16 : decode cL_line 16 = .ok (.iconst 2, 1) := by decide +kernel
theorem dL_line_17 : decode cL_line 17 = .ok (.ldc 15, 2) := by decide +kernel
theorem dL_line_19 : decode cL_line 19 = .ok (.aastore, 1) := by decide +kernel
theorem dL_line_20 : decode cL_line 20 = .ok (.dup, 1) := by decide +kernel
theorem dL_line_21 : decode cL_line 21 = .ok (.iconst 3, 1) := by decide +kernel
theorem dL_line_22 : decode cL_line 22 = .ok (.ldc 17, 2) := by decide +kernel
theorem dL_line_24 : decode cL_line 24 = .ok (.aastore, 1) := by decide +kernel
theorem dL_line_25 : decode cL_line 25 = .ok (.dup, 1) := by decide +kernel
theorem dL_line_26 : decode cL_line 26 = .ok (.iconst 4, 1) := by decide +kernel
theorem dL_line_27 : decode cL_line 27 = .ok (.ldc 19, 2) := by decide +kernel
theorem dL_line_29 : decode cL_line 29 = .ok (.aastore, 1) := by decide +kernel
theorem dL_line_30 : decode cL_line 30 = .ok (.dup, 1) := by decide +kernel
theorem dL_line_31 : decode cL_line 31 = .ok (.iconst 5, 1) := by decide +kernel
theorem dL_line_32 : decode cL_line 32 = .ok (.ldc 21, 2) := by decide +kernel
theorem dL_line_34 : decode cL_line 34 = .ok (.aastore, 1) := by decide +kernel
theorem dL_line_35 : decode cL_line 35 = .ok (.dup, 1) := by decide +kernel
theorem dL_line_36 : decode cL_line 36 = .ok (.bipush 6, 2) := by decide +kernel
theorem dL_line_38 : decode cL_line 38 = .ok (.ldc 23, 2) := by decide +kernel
theorem dL_line_40 : decode cL_line 40 = .ok (.aastore, 1) := by decide +kernel
theorem dL_line_41 : decode cL_line 41 = .ok (.dup, 1) := by decide +kernel
theorem dL_line_42 : decode cL_line 42 = .ok (.bipush 7, 2) := by decide +kernel
theorem dL_line_44 : decode cL_line 44 = .ok (.ldc 25, 2) := by decide +kernel
theorem dL_line_46 : decode cL_line 46 = .ok (.aastore, 1) := by decide +kernel
theorem dL_line_47 : decode cL_line 47 = .ok (.dup, 1) := by decide +kernel
theorem dL_line_48 : decode cL_line 48 = .ok (.bipush 8, 2) := by decide +kernel
theorem dL_line_50 : decode cL_line 50 = .ok (.ldc 27, 2) := by decide +kernel
theorem dL_line_52 : decode cL_line 52 = .ok (.aastore, 1) := by decide +kernel
theorem dL_line_53 : decode cL_line 53 = .ok (.dup, 1) := by decide +kernel
theorem dL_line_54 : decode cL_line 54 = .ok (.bipush 9, 2) := by decide +kernel
theorem dL_line_56 : decode cL_line 56 = .ok (.ldc 29, 2) := by decide +kernel
theorem dL_line_58 : decode cL_line 58 = .ok (.aastore, 1) := by decide +kernel
theorem dL_line_59 : decode cL_line 59 = .ok (.dup, 1) := by decide +kernel
theorem dL_line_60 : decode cL_line 60 = .ok (.bipush 10, 2) := by decide +kernel
theorem dL_line_62 : decode cL_line 62 = .ok (.ldc 31, 2) := by decide +kernel
theorem dL_line_64 : decode cL_line 64 = .ok (.aastore, 1) := by decide +kernel
theorem dL_line_65 : decode cL_line 65 = .ok (.dup, 1) := by decide +kernel
theorem dL_line_66 : decode cL_line 66 = .ok (.bipush 11, 2) := by decide +kernel
theorem dL_line_68 : decode cL_line 68 = .ok (.ldc 33, 2) := by decide +kernel
theorem dL_line_70 : decode cL_line 70 = .ok (.aastore, 1) := by decide +kernel
theorem dL_line_71 : decode cL_line 71 = .ok (.dup, 1) := by decide +kernel
theorem dL_line_72 : decode cL_line 72 = .ok (.bipush 12, 2) := by decide +kernel
theorem dL_line_74 : decode cL_line 74 = .ok (.ldc 35, 2) := by decide +kernel
theorem dL_line_76 : decode cL_line 76 = .ok (.aastore, 1) := by decide +kernel
theorem dL_line_77 : decode cL_line 77 = .ok (.dup, 1) := by decide +kernel
theorem dL_line_78 : decode cL_line 78 = .ok (.bipush 13, 2) := by decide +kernel
theorem dL_line_80 : decode cL_line 80 = .ok (.ldc 37, 2) := by decide +kernel
theorem dL_line_82 : decode cL_line 82 = .ok (.aastore, 1) := by decide +kernel
theorem dL_line_83 : decode cL_line 83 = .ok (.dup, 1) := by decide +kernel
theorem dL_line_84 : decode cL_line 84 = .ok (.bipush 14, 2) := by decide +kernel
theorem dL_line_86 : decode cL_line 86 = .ok (.ldc 39, 2) := by decide +kernel
theorem dL_line_88 : decode cL_line 88 = .ok (.aastore, 1) := by decide +kernel
theorem dL_line_89 : decode cL_line 89 = .ok (.astore_n 2, 1) := by decide +kernel
theorem dL_line_90 : decode cL_line 90 = .ok (.ldc 41, 2) := by decide +kernel
theorem dL_line_92 : decode cL_line 92 = .ok (.astore_n 3, 1) := by decide +kernel
theorem dL_line_93 : decode cL_line 93 = .ok (.iload_n 0, 1) := by decide +kernel
theorem dL_line_94 : decode cL_line 94 = .ok (.bipush 8, 2) := by decide +kernel
theorem dL_line_96 : decode cL_line 96 = .ok (.invokestatic 43, 3) := by decide +kernel
theorem dL_line_99 : decode cL_line 99 = .ok (.istore 4, 2) := by decide +kernel
theorem dL_line_101 : decode cL_line 101 = .ok (.iconst 0, 1) := by decide +kernel
theorem dL_line_102 : decode cL_line 102 = .ok (.istore 5, 2) := by decide +kernel
theorem dL_line_104 : decode cL_line 104 = .ok (.iload 5, 2) := by decide +kernel
theorem dL_line_106 : decode cL_line 106 = .ok (.iload 4, 2) := by decide +kernel
theorem dL_line_108 : decode cL_line 108 = .ok (.if_icmp .ge 88, 3) := by decide +kernel
theorem dL_line_111 : decode cL_line 111 = .ok (.iload 5, 2) := by decide +kernel
theorem dL_line_113 : decode cL_line 113 = .ok (.ifCond .ne 15, 3) := by decide +kernel
theorem dL_line_116 : decode cL_line 116 = .ok (.aload_n 2, 1) := by decide +kernel
theorem dL_line_117 : decode cL_line 117 = .ok (.iload_n 0, 1) := by decide +kernel
theorem dL_line_118 : decode cL_line 118 = .ok (.iconst 3, 1) := by decide +kernel
theorem dL_line_119 : decode cL_line 119 = .ok (.ishr, 1) := by decide +kernel
theorem dL_line_120 : decode cL_line 120 = .ok (.iconst 2, 1) := by decide +kernel
theorem dL_line_121 : decode cL_line 121 = .ok (.invokestatic 43, 3) := by decide +kernel
theorem dL_line_124 : decode cL_line 124 = .ok (.aaload, 1) := by decide +kernel
theorem dL_line_125 : decode cL_line 125 = .ok (.goto 29, 3) := by decide +kernel
theorem dL_line_128 : decode cL_line 128 = .ok (.iload 5, 2) := by decide +kernel
theorem dL_line_130 : decode cL_line 130 = .ok (.iconst 1, 1) := by decide +kernel
theorem dL_line_131 : decode cL_line 131 = .ok (.if_icmp .ne 8, 3) := by decide +kernel
theorem dL_line_134 : decode cL_line 134 = .ok (.ldc 15, 2) := by decide +kernel
theorem dL_line_136 : decode cL_line 136 = .ok (.goto 18, 3) := by decide +kernel
theorem dL_line_139 : decode cL_line 139 = .ok (.aload_n 2, 1) := by decide +kernel
theorem dL_line_140 : decode cL_line 140 = .ok (.iload_n 0, 1) := by decide +kernel
theorem dL_line_141 : decode cL_line 141 = .ok (.iconst 2, 1) := by decide +kernel
theorem dL_line_142 : decode cL_line 142 = .ok (.iload 5, 2) := by decide +kernel
theorem dL_line_144 : decode cL_line 144 = .ok (.imul, 1) := by decide +kernel
theorem dL_line_145 : decode cL_line 145 = .ok (.iconst 3, 1) := by decide +kernel
theorem dL_line_146 : decode cL_line 146 = .ok (.iadd, 1) := by decide +kernel
theorem dL_line_147 : decode cL_line 147 = .ok (.ishr, 1) := by decide +kernel
theorem dL_line_148 : decode cL_line 148 = .ok (.bipush 15, 2) := by decide +kernel
theorem dL_line_150 : decode cL_line 150 = .ok (.invokestatic 43, 3) := by decide +kernel
theorem dL_line_153 : decode cL_line 153 = .ok (.aaload, 1) := by decide +kernel
theorem dL_line_154 : decode cL_line 154 = .ok (.astore 6, 2) := by decide +kernel
theorem dL_line_156 : decode cL_line 156 = .ok (.aload_n 3, 1) := by decide +kernel
theorem dL_line_157 : decode cL_line 157 = .ok (.invokevirtual 49, 3) := by decide +kernel
theorem dL_line_160 : decode cL_line 160 = .ok (.aload 6, 2) := by decide +kernel
theorem dL_line_162 : decode cL_line 162 = .ok (.invokevirtual 49, 3) := by decide +kernel
theorem dL_line_165 : decode cL_line 165 = .ok (.iadd, 1) := by decide +kernel
theorem dL_line_166 : decode cL_line 166 = .ok (.iload_n 1, 1) := by decide +kernel
theorem dL_line_167 : decode cL_line 167 = .ok (.if_icmp .gt 23, 3) := by decide +kernel
theorem dL_line_170 : decode cL_line 170 = .ok (.new 53, 3) := by decide +kernel
theorem dL_line_173 : decode cL_line 173 = .ok (.dup, 1) := by decide +kernel
theorem dL_line_174 : decode cL_line 174 = .ok (.invokespecial 55, 3) := by decide +kernel
theorem dL_line_177 : decode cL_line 177 = .ok (.aload_n 3, 1) := by decide +kernel
theorem dL_line_178 : decode cL_line 178 = .ok (.invokevirtual 56, 3) := by decide +kernel
theorem dL_line_181 : decode cL_line 181 = .ok (.aload 6, 2) := by decide +kernel
theorem dL_line_183 : decode cL_line 183 = .ok (.invokevirtual 56, 3) := by decide +kernel
theorem dL_line_186 : decode cL_line 186 = .ok (.invokevirtual 60, 3) := by decide +kernel
theorem dL_line_189 : decode cL_line 189 = .ok (.astore_n 3, 1) := by decide +kernel
theorem dL_line_190 : decode cL_line 190 = .ok (.iinc 5 1, 3) := by decide +kernel
theorem dL_line_193 : decode cL_line 193 = .ok (.goto (-89), 3) := by decide +kernel
theorem dL_line_196 : decode cL_line 196 = .ok (.aload_n 3, 1) := by decide +kernel
theorem dL_line_197 : decode cL_line 197 = .ok (.areturn, 1) := by decide +kernel
theorem dL_store_0 : decode cL_store 0 = .ok (.iconst 0, 1) := by decide +kernel
theorem dL_store_1 : decode cL_store 1 = .ok (.istore_n 3, 1) := by decide +kernel
theorem dL_store_2 : decode cL_store 2 = .ok (.iload_n 3, 1) := by decide +kernel
theorem dL_store_3 : decode cL_store 3 = .ok (.aload_n 1, 1) := by decide +kernel
theorem dL_store_4 : decode cL_store 4 = .ok (.invokevirtual 49, 3) := by decide +kernel
theorem dL_store_7 : decode cL_store 7 = .ok (.if_icmp .ge 74, 3) := by decide +kernel
theorem dL_store_10 : decode cL_store 10 = .ok (.lconst 0, 1) := by decide +kernel
theorem dL_store_11 : decode cL_store 11 = .ok (.lstore 4, 2) := by decide +kernel
theorem dL_store_13 : decode cL_store 13 = .ok (.iload_n 3, 1) := by decide +kernel
theorem dL_store_14 : decode cL_store 14 = .ok (.istore 6, 2) := by decide +kernel
theorem dL_store_16 : decode cL_store 16 = .ok (.iload 6, 2) := by decide +kernel
theorem dL_store_18 : decode cL_store 18 = .ok (.iload_n 3, 1) := by decide +kernel
theorem dL_store_19 : decode cL_store 19 = .ok (.bipush 8, 2) := by decide +kernel
theorem dL_store_21 : decode cL_store 21 = .ok (.iadd, 1) := by decide +kernel
theorem dL_store_22 : decode cL_store 22 = .ok (.aload_n 1, 1) := by decide +kernel
theorem dL_store_23 : decode cL_store 23 = .ok (.invokevirtual 49, 3) := by decide +kernel
theorem dL_store_26 : decode cL_store 26 = .ok (.invokestatic 64, 3) := by decide +kernel
theorem dL_store_29 : decode cL_store 29 = .ok (.if_icmp .ge 24, 3) := by decide +kernel
theorem dL_store_32 : decode cL_store 32 = .ok (.lload 4, 2) := by decide +kernel
theorem dL_store_34 : decode cL_store 34 = .ok (.bipush 8, 2) := by decide +kernel
theorem dL_store_36 : decode cL_store 36 = .ok (.lshl, 1) := by decide +kernel
theorem dL_store_37 : decode cL_store 37 = .ok (.aload_n 1, 1) := by decide +kernel
theorem dL_store_38 : decode cL_store 38 = .ok (.iload 6, 2) := by decide +kernel
theorem dL_store_40 : decode cL_store 40 = .ok (.invokevirtual 69, 3) := by decide +kernel
theorem dL_store_43 : decode cL_store 43 = .ok (.i2l, 1) := by decide +kernel
theorem dL_store_44 : decode cL_store 44 = .ok (.lor, 1) := by decide +kernel
theorem dL_store_45 : decode cL_store 45 = .ok (.lstore 4, 2) := by decide +kernel
theorem dL_store_47 : decode cL_store 47 = .ok (.iinc 6 1, 3) := by decide +kernel
theorem dL_store_50 : decode cL_store 50 = .ok (.goto (-34), 3) := by decide +kernel
theorem dL_store_53 : decode cL_store 53 = .ok (.aload_n 0, 1) := by decide +kernel
theorem dL_store_54 : decode cL_store 54 = .ok (.lload 4, 2) := by decide +kernel
theorem dL_store_56 : decode cL_store 56 = .ok (.invokevirtual 73, 3) := by decide +kernel
theorem dL_store_59 : decode cL_store 59 = .ok (.iload_n 3, 1) := by decide +kernel
theorem dL_store_60 : decode cL_store 60 = .ok (.bipush 8, 2) := by decide +kernel
theorem dL_store_62 : decode cL_store 62 = .ok (.iadd, 1) := by decide +kernel
theorem dL_store_63 : decode cL_store 63 = .ok (.aload_n 1, 1) := by decide +kernel
theorem dL_store_64 : decode cL_store 64 = .ok (.invokevirtual 49, 3) := by decide +kernel
theorem dL_store_67 : decode cL_store 67 = .ok (.invokestatic 64, 3) := by decide +kernel
theorem dL_store_70 : decode cL_store 70 = .ok (.if_icmp .eq 5, 3) := by decide +kernel
theorem dL_store_73 : decode cL_store 73 = .ok (.iconst 0, 1) := by decide +kernel
theorem dL_store_74 : decode cL_store 74 = .ok (.ireturn, 1) := by decide +kernel
theorem dL_store_75 : decode cL_store 75 = .ok (.iinc 3 8, 3) := by decide +kernel
theorem dL_store_78 : decode cL_store 78 = .ok (.goto (-76), 3) := by decide +kernel
theorem dL_store_81 : decode cL_store 81 = .ok (.aload_n 0, 1) := by decide +kernel
theorem dL_store_82 : decode cL_store 82 = .ok (.invokevirtual 79, 3) := by decide +kernel
theorem dL_store_85 : decode cL_store 85 = .ok (.iload_n 2, 1) := by decide +kernel
theorem dL_store_86 : decode cL_store 86 = .ok (.if_icmp .ne 17, 3) := by decide +kernel
theorem dL_store_89 : decode cL_store 89 = .ok (.aload_n 0, 1) := by decide +kernel
theorem dL_store_90 : decode cL_store 90 = .ok (.invokevirtual 82, 3) := by decide +kernel
theorem dL_store_93 : decode cL_store 93 = .ok (.iload_n 2, 1) := by decide +kernel
theorem dL_store_94 : decode cL_store 94 = .ok (.iconst 1, 1) := by decide +kernel
theorem dL_store_95 : decode cL_store 95 = .ok (.iadd, 1) := by decide +kernel
theorem dL_store_96 : decode cL_store 96 = .ok (.if_icmp .ne 7, 3) := by decide +kernel
theorem dL_store_99 : decode cL_store 99 = .ok (.iconst 1, 1) := by decide +kernel
theorem dL_store_100 : decode cL_store 100 = .ok (.goto 4, 3) := by decide +kernel
theorem dL_store_103 : decode cL_store 103 = .ok (.iconst 0, 1) := by decide +kernel
theorem dL_store_104 : decode cL_store 104 = .ok (.ireturn, 1) := by decide +kernel
theorem dL_build_0 : decode cL_build 0 = .ok (.iconst 1, 1) := by decide +kernel
theorem dL_build_1 : decode cL_build 1 = .ok (.aload_n 1, 1) := by decide +kernel
theorem dL_build_2 : decode cL_build 2 = .ok (.iload_n 2, 1) := by decide +kernel
theorem dL_build_3 : decode cL_build 3 = .ok (.invokestatic 92, 3) := by decide +kernel
theorem dL_build_6 : decode cL_build 6 = .ok (.aload_n 3, 1) := by decide +kernel
theorem dL_build_7 : decode cL_build 7 = .ok (.arraylength, 1) := by decide +kernel
theorem dL_build_8 : decode cL_build 8 = .ok (.invokestatic 43, 3) := by decide +kernel
theorem dL_build_11 : decode cL_build 11 = .ok (.iadd, 1) := by decide +kernel
theorem dL_build_12 : decode cL_build 12 = .ok (.istore 4, 2) := by decide +kernel
theorem dL_build_14 : decode cL_build 14 = .ok (.iconst 0, 1) := by decide +kernel
theorem dL_build_15 : decode cL_build 15 = .ok (.istore 5, 2) := by decide +kernel
theorem dL_build_17 : decode cL_build 17 = .ok (.iconst 0, 1) := by decide +kernel
theorem dL_build_18 : decode cL_build 18 = .ok (.istore 6, 2) := by decide +kernel
theorem dL_build_20 : decode cL_build 20 = .ok (.iload 6, 2) := by decide +kernel
theorem dL_build_22 : decode cL_build 22 = .ok (.iload 4, 2) := by decide +kernel
theorem dL_build_24 : decode cL_build 24 = .ok (.if_icmp .ge 55, 3) := by decide +kernel
theorem dL_build_27 : decode cL_build 27 = .ok (.aload_n 3, 1) := by decide +kernel
theorem dL_build_28 : decode cL_build 28 = .ok (.iload 6, 2) := by decide +kernel
theorem dL_build_30 : decode cL_build 30 = .ok (.aload_n 1, 1) := by decide +kernel
theorem dL_build_31 : decode cL_build 31 = .ok (.iload_n 2, 1) := by decide +kernel
theorem dL_build_32 : decode cL_build 32 = .ok (.iconst 1, 1) := by decide +kernel
theorem dL_build_33 : decode cL_build 33 = .ok (.iadd, 1) := by decide +kernel
theorem dL_build_34 : decode cL_build 34 = .ok (.iload 6, 2) := by decide +kernel
theorem dL_build_36 : decode cL_build 36 = .ok (.bipush 6, 2) := by decide +kernel
theorem dL_build_38 : decode cL_build 38 = .ok (.irem, 1) := by decide +kernel
theorem dL_build_39 : decode cL_build 39 = .ok (.iadd, 1) := by decide +kernel
theorem dL_build_40 : decode cL_build 40 = .ok (.invokestatic 92, 3) := by decide +kernel
theorem dL_build_43 : decode cL_build 43 = .ok (.iload 6, 2) := by decide +kernel
theorem dL_build_45 : decode cL_build 45 = .ok (.bipush 6, 2) := by decide +kernel
theorem dL_build_47 : decode cL_build 47 = .ok (.idiv, 1) := by decide +kernel
theorem dL_build_48 : decode cL_build 48 = .ok (.ldc 96, 2) := by decide +kernel
theorem dL_build_50 : decode cL_build 50 = .ok (.imul, 1) := by decide +kernel
theorem dL_build_51 : decode cL_build 51 = .ok (.ixor, 1) := by decide +kernel
theorem dL_build_52 : decode cL_build 52 = .ok (.bipush 24, 2) := by decide +kernel
theorem dL_build_54 : decode cL_build 54 = .ok (.invokestatic 97, 3) := by decide +kernel
theorem dL_build_57 : decode cL_build 57 = .ok (.aastore, 1) := by decide +kernel
theorem dL_build_58 : decode cL_build 58 = .ok (.aload_n 0, 1) := by decide +kernel
theorem dL_build_59 : decode cL_build 59 = .ok (.aload_n 3, 1) := by decide +kernel
theorem dL_build_60 : decode cL_build 60 = .ok (.iload 6, 2) := by decide +kernel
theorem dL_build_62 : decode cL_build 62 = .ok (.aaload, 1) := by decide +kernel
theorem dL_build_63 : decode cL_build 63 = .ok (.iload 6, 2) := by decide +kernel
theorem dL_build_65 : decode cL_build 65 = .ok (.invokestatic 101, 3) := by decide +kernel
theorem dL_build_68 : decode cL_build 68 = .ok (.ifCond .ne 5, 3) := by decide +kernel
theorem dL_build_71 : decode cL_build 71 = .ok (.iconst (-1), 1) := by decide +kernel
theorem dL_build_72 : decode cL_build 72 = .ok (.ireturn, 1) := by decide +kernel
theorem dL_build_73 : decode cL_build 73 = .ok (.iinc 6 1, 3) := by decide +kernel
theorem dL_build_76 : decode cL_build 76 = .ok (.goto (-56), 3) := by decide +kernel
theorem dL_build_79 : decode cL_build 79 = .ok (.aload_n 1, 1) := by decide +kernel
theorem dL_build_80 : decode cL_build 80 = .ok (.iload_n 2, 1) := by decide +kernel
theorem dL_build_81 : decode cL_build 81 = .ok (.bipush 7, 2) := by decide +kernel
theorem dL_build_83 : decode cL_build 83 = .ok (.iadd, 1) := by decide +kernel
theorem dL_build_84 : decode cL_build 84 = .ok (.invokestatic 92, 3) := by decide +kernel
theorem dL_build_87 : decode cL_build 87 = .ok (.istore 6, 2) := by decide +kernel
theorem dL_build_89 : decode cL_build 89 = .ok (.iload 6, 2) := by decide +kernel
theorem dL_build_91 : decode cL_build 91 = .ok (.iconst 2, 1) := by decide +kernel
theorem dL_build_92 : decode cL_build 92 = .ok (.invokestatic 43, 3) := by decide +kernel
theorem dL_build_95 : decode cL_build 95 = .ok (.ifCond .ne 36, 3) := by decide +kernel
theorem dL_build_98 : decode cL_build 98 = .ok (.aload_n 0, 1) := by decide +kernel
theorem dL_build_99 : decode cL_build 99 = .ok (.iload 6, 2) := by decide +kernel
theorem dL_build_101 : decode cL_build 101 = .ok (.iconst 1, 1) := by decide +kernel
theorem dL_build_102 : decode cL_build 102 = .ok (.ishr, 1) := by decide +kernel
theorem dL_build_103 : decode cL_build 103 = .ok (.bipush 8, 2) := by decide +kernel
theorem dL_build_105 : decode cL_build 105 = .ok (.invokestatic 43, 3) := by decide +kernel
theorem dL_build_108 : decode cL_build 108 = .ok (.iload 6, 2) := by decide +kernel
theorem dL_build_110 : decode cL_build 110 = .ok (.iconst 4, 1) := by decide +kernel
theorem dL_build_111 : decode cL_build 111 = .ok (.ishr, 1) := by decide +kernel
theorem dL_build_112 : decode cL_build 112 = .ok (.bipush 8, 2) := by decide +kernel
theorem dL_build_114 : decode cL_build 114 = .ok (.invokestatic 43, 3) := by decide +kernel
theorem dL_build_117 : decode cL_build 117 = .ok (.iload 6, 2) := by decide +kernel
theorem dL_build_119 : decode cL_build 119 = .ok (.bipush 7, 2) := by decide +kernel
theorem dL_build_121 : decode cL_build 121 = .ok (.ishr, 1) := by decide +kernel
theorem dL_build_122 : decode cL_build 122 = .ok (.bipush 8, 2) := by decide +kernel
theorem dL_build_124 : decode cL_build 124 = .ok (.invokestatic 43, 3) := by decide +kernel
theorem dL_build_127 : decode cL_build 127 = .ok (.invokevirtual 104, 3) := by decide +kernel
theorem dL_build_130 : decode cL_build 130 = .ok (.pop, 1) := by decide +kernel
theorem dL_build_131 : decode cL_build 131 = .ok (.iload 6, 2) := by decide +kernel
theorem dL_build_133 : decode cL_build 133 = .ok (.bipush 10, 2) := by decide +kernel
theorem dL_build_135 : decode cL_build 135 = .ok (.ishr, 1) := by decide +kernel
theorem dL_build_136 : decode cL_build 136 = .ok (.iload 4, 2) := by decide +kernel
theorem dL_build_138 : decode cL_build 138 = .ok (.invokestatic 43, 3) := by decide +kernel
theorem dL_build_141 : decode cL_build 141 = .ok (.istore 7, 2) := by decide +kernel
theorem dL_build_143 : decode cL_build 143 = .ok (.iconst 0, 1) := by decide +kernel
theorem dL_build_144 : decode cL_build 144 = .ok (.istore 8, 2) := by decide +kernel
theorem dL_build_146 : decode cL_build 146 = .ok (.iload 8, 2) := by decide +kernel
theorem dL_build_148 : decode cL_build 148 = .ok (.iload 4, 2) := by decide +kernel
theorem dL_build_150 : decode cL_build 150 = .ok (.if_icmp .ge 76, 3) := by decide +kernel
theorem dL_build_153 : decode cL_build 153 = .ok (.iload 7, 2) := by decide +kernel
theorem dL_build_155 : decode cL_build 155 = .ok (.iload 8, 2) := by decide +kernel
theorem dL_build_157 : decode cL_build 157 = .ok (.iadd, 1) := by decide +kernel
theorem dL_build_158 : decode cL_build 158 = .ok (.iload 4, 2) := by decide +kernel
theorem dL_build_160 : decode cL_build 160 = .ok (.irem, 1) := by decide +kernel
theorem dL_build_161 : decode cL_build 161 = .ok (.istore 9, 2) := by decide +kernel
theorem dL_build_163 : decode cL_build 163 = .ok (.iload 6, 2) := by decide +kernel
theorem dL_build_165 : decode cL_build 165 = .ok (.bipush 13, 2) := by decide +kernel
theorem dL_build_167 : decode cL_build 167 = .ok (.iload 8, 2) := by decide +kernel
theorem dL_build_169 : decode cL_build 169 = .ok (.iadd, 1) := by decide +kernel
theorem dL_build_170 : decode cL_build 170 = .ok (.ishr, 1) := by decide +kernel
theorem dL_build_171 : decode cL_build 171 = .ok (.iconst 4, 1) := by decide +kernel
theorem dL_build_172 : decode cL_build 172 = .ok (.invokestatic 43, 3) := by decide +kernel
theorem dL_build_175 : decode cL_build 175 = .ok (.ifCond .eq 45, 3) := by decide +kernel
theorem dL_build_178 : decode cL_build 178 = .ok (.aload_n 0, 1) := by decide +kernel
theorem dL_build_179 : decode cL_build 179 = .ok (.invokevirtual 108, 3) := by decide +kernel
theorem dL_build_182 : decode cL_build 182 = .ok (.bipush 20, 2) := by decide +kernel
theorem dL_build_184 : decode cL_build 184 = .ok (.if_icmp .le 6, 3) := by decide +kernel
theorem dL_build_187 : decode cL_build 187 = .ok (.goto 33, 3) := by decide +kernel
theorem dL_build_190 : decode cL_build 190 = .ok (.aload_n 0, 1) := by decide +kernel
theorem dL_build_191 : decode cL_build 191 = .ok (.iload 9, 2) := by decide +kernel
theorem dL_build_193 : decode cL_build 193 = .ok (.invokevirtual 111, 3) := by decide +kernel
theorem dL_build_196 : decode cL_build 196 = .ok (.istore 10, 2) := by decide +kernel
theorem dL_build_198 : decode cL_build 198 = .ok (.aload_n 0, 1) := by decide +kernel
theorem dL_build_199 : decode cL_build 199 = .ok (.iload 9, 2) := by decide +kernel
theorem dL_build_201 : decode cL_build 201 = .ok (.invokevirtual 115, 3) := by decide +kernel
theorem dL_build_204 : decode cL_build 204 = .ok (.iload 10, 2) := by decide +kernel
theorem dL_build_206 : decode cL_build 206 = .ok (.if_icmp .eq 5, 3) := by decide +kernel
theorem dL_build_209 : decode cL_build 209 = .ok (.iconst (-1), 1) := by decide +kernel
theorem dL_build_210 : decode cL_build 210 = .ok (.ireturn, 1) := by decide +kernel
theorem dL_build_211 : decode cL_build 211 = .ok (.iload 5, 2) := by decide +kernel
theorem dL_build_213 : decode cL_build 213 = .ok (.iconst 1, 1) := by decide +kernel
theorem dL_build_214 : decode cL_build 214 = .ok (.iload 9, 2) := by decide +kernel
theorem dL_build_216 : decode cL_build 216 = .ok (.ishl, 1) := by decide +kernel
theorem dL_build_217 : decode cL_build 217 = .ok (.ior, 1) := by decide +kernel
theorem dL_build_218 : decode cL_build 218 = .ok (.istore 5, 2) := by decide +kernel
theorem dL_build_220 : decode cL_build 220 = .ok (.iinc 8 1, 3) := by decide +kernel
theorem dL_build_223 : decode cL_build 223 = .ok (.goto (-77), 3) := by decide +kernel
theorem dL_build_226 : decode cL_build 226 = .ok (.iload 5, 2) := by decide +kernel
theorem dL_build_228 : decode cL_build 228 = .ok (.ireturn, 1) := by decide +kernel
theorem dL_law_0 : decode cL_law 0 = .ok (.new 74, 3) := by decide +kernel
theorem dL_law_3 : decode cL_law 3 = .ok (.dup, 1) := by decide +kernel
theorem dL_law_4 : decode cL_law 4 = .ok (.invokespecial 118, 3) := by decide +kernel
theorem dL_law_7 : decode cL_law 7 = .ok (.astore_n 1, 1) := by decide +kernel
theorem dL_law_8 : decode cL_law 8 = .ok (.bipush 8, 2) := by decide +kernel
theorem dL_law_10 : decode cL_law 10 = .ok (.anewarray 9, 3) := by decide +kernel
theorem dL_law_13 : decode cL_law 13 = .ok (.astore_n 2, 1) := by decide +kernel
theorem dL_law_14 : decode cL_law 14 = .ok (.aload_n 1, 1) := by decide +kernel
theorem dL_law_15 : decode cL_law 15 = .ok (.aload_n 0, 1) := by decide +kernel
theorem dL_law_16 : decode cL_law 16 = .ok (.iconst 0, 1) := by decide +kernel
theorem dL_law_17 : decode cL_law 17 = .ok (.aload_n 2, 1) := by decide +kernel
theorem dL_law_18 : decode cL_law 18 = .ok (.invokestatic 119, 3) := by decide +kernel
theorem dL_law_21 : decode cL_law 21 = .ok (.istore_n 3, 1) := by decide +kernel
theorem dL_law_22 : decode cL_law 22 = .ok (.iload_n 3, 1) := by decide +kernel
theorem dL_law_23 : decode cL_law 23 = .ok (.ifCond .ge 5, 3) := by decide +kernel
theorem dL_law_26 : decode cL_law 26 = .ok (.iconst 0, 1) := by decide +kernel
theorem dL_law_27 : decode cL_law 27 = .ok (.ireturn, 1) := by decide +kernel
theorem dL_law_28 : decode cL_law 28 = .ok (.aload_n 1, 1) := by decide +kernel
theorem dL_law_29 : decode cL_law 29 = .ok (.invokevirtual 108, 3) := by decide +kernel
theorem dL_law_32 : decode cL_law 32 = .ok (.istore 4, 2) := by decide +kernel
theorem dL_law_34 : decode cL_law 34 = .ok (.iconst 0, 1) := by decide +kernel
theorem dL_law_35 : decode cL_law 35 = .ok (.istore 5, 2) := by decide +kernel
theorem dL_law_37 : decode cL_law 37 = .ok (.iload 5, 2) := by decide +kernel
theorem dL_law_39 : decode cL_law 39 = .ok (.aload_n 1, 1) := by decide +kernel
theorem dL_law_40 : decode cL_law 40 = .ok (.invokevirtual 82, 3) := by decide +kernel
theorem dL_law_43 : decode cL_law 43 = .ok (.if_icmp .ge 154, 3) := by decide +kernel
theorem dL_law_46 : decode cL_law 46 = .ok (.iload_n 3, 1) := by decide +kernel
theorem dL_law_47 : decode cL_law 47 = .ok (.iload 5, 2) := by decide +kernel
theorem dL_law_49 : decode cL_law 49 = .ok (.ishr, 1) := by decide +kernel
theorem dL_law_50 : decode cL_law 50 = .ok (.iconst 1, 1) := by decide +kernel
theorem dL_law_51 : decode cL_law 51 = .ok (.iand, 1) := by decide +kernel
theorem dL_law_52 : decode cL_law 52 = .ok (.iconst 1, 1) := by decide +kernel
theorem dL_law_53 : decode cL_law 53 = .ok (.if_icmp .ne 7, 3) := by decide +kernel
theorem dL_law_56 : decode cL_law 56 = .ok (.iconst 1, 1) := by decide +kernel
theorem dL_law_57 : decode cL_law 57 = .ok (.goto 4, 3) := by decide +kernel
theorem dL_law_60 : decode cL_law 60 = .ok (.iconst 0, 1) := by decide +kernel
theorem dL_law_61 : decode cL_law 61 = .ok (.istore 6, 2) := by decide +kernel
theorem dL_law_63 : decode cL_law 63 = .ok (.aload_n 1, 1) := by decide +kernel
theorem dL_law_64 : decode cL_law 64 = .ok (.iload 5, 2) := by decide +kernel
theorem dL_law_66 : decode cL_law 66 = .ok (.invokevirtual 123, 3) := by decide +kernel
theorem dL_law_69 : decode cL_law 69 = .ok (.iload 6, 2) := by decide +kernel
theorem dL_law_71 : decode cL_law 71 = .ok (.if_icmp .ne 17, 3) := by decide +kernel
theorem dL_law_74 : decode cL_law 74 = .ok (.iload 6, 2) := by decide +kernel
theorem dL_law_76 : decode cL_law 76 = .ok (.ifCond .eq 14, 3) := by decide +kernel
theorem dL_law_79 : decode cL_law 79 = .ok (.aload_n 1, 1) := by decide +kernel
theorem dL_law_80 : decode cL_law 80 = .ok (.iload 5, 2) := by decide +kernel
theorem dL_law_82 : decode cL_law 82 = .ok (.invokevirtual 127, 3) := by decide +kernel
theorem dL_law_85 : decode cL_law 85 = .ok (.ifCond .ne 5, 3) := by decide +kernel
theorem dL_law_88 : decode cL_law 88 = .ok (.iconst 0, 1) := by decide +kernel
theorem dL_law_89 : decode cL_law 89 = .ok (.ireturn, 1) := by decide +kernel
theorem dL_law_90 : decode cL_law 90 = .ok (.iconst 0, 1) := by decide +kernel
theorem dL_law_91 : decode cL_law 91 = .ok (.istore 7, 2) := by decide +kernel
theorem dL_law_93 : decode cL_law 93 = .ok (.iconst 0, 1) := by decide +kernel
theorem dL_law_94 : decode cL_law 94 = .ok (.istore 8, 2) := by decide +kernel
theorem dL_law_96 : decode cL_law 96 = .ok (.iload 8, 2) := by decide +kernel
theorem dL_law_98 : decode cL_law 98 = .ok (.iload 4, 2) := by decide +kernel
theorem dL_law_100 : decode cL_law 100 = .ok (.if_icmp .ge 69, 3) := by decide +kernel
theorem dL_law_103 : decode cL_law 103 = .ok (.aload_n 1, 1) := by decide +kernel
theorem dL_law_104 : decode cL_law 104 = .ok (.iload 5, 2) := by decide +kernel
theorem dL_law_106 : decode cL_law 106 = .ok (.iload 8, 2) := by decide +kernel
theorem dL_law_108 : decode cL_law 108 = .ok (.invokevirtual 130, 3) := by decide +kernel
theorem dL_law_111 : decode cL_law 111 = .ok (.istore 9, 2) := by decide +kernel
theorem dL_law_113 : decode cL_law 113 = .ok (.iload 9, 2) := by decide +kernel
theorem dL_law_115 : decode cL_law 115 = .ok (.ifCond .ge 19, 3) := by decide +kernel
theorem dL_law_118 : decode cL_law 118 = .ok (.iload 6, 2) := by decide +kernel
theorem dL_law_120 : decode cL_law 120 = .ok (.ifCond .eq 43, 3) := by decide +kernel
theorem dL_law_123 : decode cL_law 123 = .ok (.aload_n 1, 1) := by decide +kernel
theorem dL_law_124 : decode cL_law 124 = .ok (.iload 8, 2) := by decide +kernel
theorem dL_law_126 : decode cL_law 126 = .ok (.invokevirtual 133, 3) := by decide +kernel
theorem dL_law_129 : decode cL_law 129 = .ok (.ifCond .ne 34, 3) := by decide +kernel
theorem dL_law_132 : decode cL_law 132 = .ok (.iconst 0, 1) := by decide +kernel
theorem dL_law_133 : decode cL_law 133 = .ok (.ireturn, 1) := by decide +kernel
theorem dL_law_134 : decode cL_law 134 = .ok (.iload 9, 2) := by decide +kernel
theorem dL_law_136 : decode cL_law 136 = .ok (.iload 7, 2) := by decide +kernel
theorem dL_law_138 : decode cL_law 138 = .ok (.if_icmp .ne 20, 3) := by decide +kernel
theorem dL_law_141 : decode cL_law 141 = .ok (.aload_n 1, 1) := by decide +kernel
theorem dL_law_142 : decode cL_law 142 = .ok (.iload 5, 2) := by decide +kernel
theorem dL_law_144 : decode cL_law 144 = .ok (.iload 9, 2) := by decide +kernel
theorem dL_law_146 : decode cL_law 146 = .ok (.invokevirtual 136, 3) := by decide +kernel
theorem dL_law_149 : decode cL_law 149 = .ok (.aload_n 1, 1) := by decide +kernel
theorem dL_law_150 : decode cL_law 150 = .ok (.iload 8, 2) := by decide +kernel
theorem dL_law_152 : decode cL_law 152 = .ok (.invokevirtual 139, 3) := by decide +kernel
theorem dL_law_155 : decode cL_law 155 = .ok (.if_icmp .eq 5, 3) := by decide +kernel
theorem dL_law_158 : decode cL_law 158 = .ok (.iconst 0, 1) := by decide +kernel
theorem dL_law_159 : decode cL_law 159 = .ok (.ireturn, 1) := by decide +kernel
theorem dL_law_160 : decode cL_law 160 = .ok (.iinc 7 1, 3) := by decide +kernel
theorem dL_law_163 : decode cL_law 163 = .ok (.iinc 8 1, 3) := by decide +kernel
theorem dL_law_166 : decode cL_law 166 = .ok (.goto (-70), 3) := by decide +kernel
theorem dL_law_169 : decode cL_law 169 = .ok (.iload 7, 2) := by decide +kernel
theorem dL_law_171 : decode cL_law 171 = .ok (.iload 6, 2) := by decide +kernel
theorem dL_law_173 : decode cL_law 173 = .ok (.ifCond .eq 12, 3) := by decide +kernel
theorem dL_law_176 : decode cL_law 176 = .ok (.aload_n 1, 1) := by decide +kernel
theorem dL_law_177 : decode cL_law 177 = .ok (.iload 5, 2) := by decide +kernel
theorem dL_law_179 : decode cL_law 179 = .ok (.invokevirtual 142, 3) := by decide +kernel
theorem dL_law_182 : decode cL_law 182 = .ok (.goto 4, 3) := by decide +kernel
theorem dL_law_185 : decode cL_law 185 = .ok (.iconst 0, 1) := by decide +kernel
theorem dL_law_186 : decode cL_law 186 = .ok (.if_icmp .eq 5, 3) := by decide +kernel
theorem dL_law_189 : decode cL_law 189 = .ok (.iconst 0, 1) := by decide +kernel
theorem dL_law_190 : decode cL_law 190 = .ok (.ireturn, 1) := by decide +kernel
theorem dL_law_191 : decode cL_law 191 = .ok (.iinc 5 1, 3) := by decide +kernel
theorem dL_law_194 : decode cL_law 194 = .ok (.goto (-157), 3) := by decide +kernel
theorem dL_law_197 : decode cL_law 197 = .ok (.iconst 0, 1) := by decide +kernel
theorem dL_law_198 : decode cL_law 198 = .ok (.istore 5, 2) := by decide +kernel
theorem dL_law_200 : decode cL_law 200 = .ok (.iload 5, 2) := by decide +kernel
theorem dL_law_202 : decode cL_law 202 = .ok (.aload_n 1, 1) := by decide +kernel
theorem dL_law_203 : decode cL_law 203 = .ok (.invokevirtual 82, 3) := by decide +kernel
theorem dL_law_206 : decode cL_law 206 = .ok (.if_icmp .ge 143, 3) := by decide +kernel
theorem dL_law_209 : decode cL_law 209 = .ok (.iload_n 3, 1) := by decide +kernel
theorem dL_law_210 : decode cL_law 210 = .ok (.iload 5, 2) := by decide +kernel
theorem dL_law_212 : decode cL_law 212 = .ok (.ishr, 1) := by decide +kernel
theorem dL_law_213 : decode cL_law 213 = .ok (.iconst 1, 1) := by decide +kernel
theorem dL_law_214 : decode cL_law 214 = .ok (.iand, 1) := by decide +kernel
theorem dL_law_215 : decode cL_law 215 = .ok (.iconst 1, 1) := by decide +kernel
theorem dL_law_216 : decode cL_law 216 = .ok (.if_icmp .ne 6, 3) := by decide +kernel
theorem dL_law_219 : decode cL_law 219 = .ok (.goto 124, 3) := by decide +kernel
theorem dL_law_222 : decode cL_law 222 = .ok (.aload_n 1, 1) := by decide +kernel
theorem dL_law_223 : decode cL_law 223 = .ok (.iload 5, 2) := by decide +kernel
theorem dL_law_225 : decode cL_law 225 = .ok (.invokevirtual 111, 3) := by decide +kernel
theorem dL_law_228 : decode cL_law 228 = .ok (.istore 6, 2) := by decide +kernel
theorem dL_law_230 : decode cL_law 230 = .ok (.iload 6, 2) := by decide +kernel
theorem dL_law_232 : decode cL_law 232 = .ok (.ifCond .lt 48, 3) := by decide +kernel
theorem dL_law_235 : decode cL_law 235 = .ok (.aload_n 1, 1) := by decide +kernel
theorem dL_law_236 : decode cL_law 236 = .ok (.iload 5, 2) := by decide +kernel
theorem dL_law_238 : decode cL_law 238 = .ok (.invokevirtual 115, 3) := by decide +kernel
theorem dL_law_241 : decode cL_law 241 = .ok (.iload 6, 2) := by decide +kernel
theorem dL_law_243 : decode cL_law 243 = .ok (.if_icmp .ne 37, 3) := by decide +kernel
theorem dL_law_246 : decode cL_law 246 = .ok (.aload_n 1, 1) := by decide +kernel
theorem dL_law_247 : decode cL_law 247 = .ok (.invokevirtual 108, 3) := by decide +kernel
theorem dL_law_250 : decode cL_law 250 = .ok (.iload 4, 2) := by decide +kernel
theorem dL_law_252 : decode cL_law 252 = .ok (.if_icmp .lt 28, 3) := by decide +kernel
theorem dL_law_255 : decode cL_law 255 = .ok (.aload_n 1, 1) := by decide +kernel
theorem dL_law_256 : decode cL_law 256 = .ok (.invokevirtual 108, 3) := by decide +kernel
theorem dL_law_259 : decode cL_law 259 = .ok (.iload 4, 2) := by decide +kernel
theorem dL_law_261 : decode cL_law 261 = .ok (.aload_n 1, 1) := by decide +kernel
theorem dL_law_262 : decode cL_law 262 = .ok (.iload 5, 2) := by decide +kernel
theorem dL_law_264 : decode cL_law 264 = .ok (.invokevirtual 142, 3) := by decide +kernel
theorem dL_law_267 : decode cL_law 267 = .ok (.iadd, 1) := by decide +kernel
theorem dL_law_268 : decode cL_law 268 = .ok (.if_icmp .gt 12, 3) := by decide +kernel
theorem dL_law_271 : decode cL_law 271 = .ok (.aload_n 1, 1) := by decide +kernel
theorem dL_law_272 : decode cL_law 272 = .ok (.iload 5, 2) := by decide +kernel
theorem dL_law_274 : decode cL_law 274 = .ok (.invokevirtual 127, 3) := by decide +kernel
theorem dL_law_277 : decode cL_law 277 = .ok (.ifCond .ne 5, 3) := by decide +kernel
theorem dL_law_280 : decode cL_law 280 = .ok (.iconst 0, 1) := by decide +kernel
theorem dL_law_281 : decode cL_law 281 = .ok (.ireturn, 1) := by decide +kernel
theorem dL_law_282 : decode cL_law 282 = .ok (.aload_n 1, 1) := by decide +kernel
theorem dL_law_283 : decode cL_law 283 = .ok (.invokevirtual 108, 3) := by decide +kernel
theorem dL_law_286 : decode cL_law 286 = .ok (.istore 4, 2) := by decide +kernel
theorem dL_law_288 : decode cL_law 288 = .ok (.iload_n 3, 1) := by decide +kernel
theorem dL_law_289 : decode cL_law 289 = .ok (.iconst 1, 1) := by decide +kernel
theorem dL_law_290 : decode cL_law 290 = .ok (.iload 5, 2) := by decide +kernel
theorem dL_law_292 : decode cL_law 292 = .ok (.ishl, 1) := by decide +kernel
theorem dL_law_293 : decode cL_law 293 = .ok (.ior, 1) := by decide +kernel
theorem dL_law_294 : decode cL_law 294 = .ok (.istore_n 3, 1) := by decide +kernel
theorem dL_law_295 : decode cL_law 295 = .ok (.iconst 0, 1) := by decide +kernel
theorem dL_law_296 : decode cL_law 296 = .ok (.istore 7, 2) := by decide +kernel
theorem dL_law_298 : decode cL_law 298 = .ok (.iload 7, 2) := by decide +kernel
theorem dL_law_300 : decode cL_law 300 = .ok (.aload_n 1, 1) := by decide +kernel
theorem dL_law_301 : decode cL_law 301 = .ok (.invokevirtual 82, 3) := by decide +kernel
theorem dL_law_304 : decode cL_law 304 = .ok (.if_icmp .ge 30, 3) := by decide +kernel
theorem dL_law_307 : decode cL_law 307 = .ok (.iload_n 3, 1) := by decide +kernel
theorem dL_law_308 : decode cL_law 308 = .ok (.iload 7, 2) := by decide +kernel
theorem dL_law_310 : decode cL_law 310 = .ok (.ishr, 1) := by decide +kernel
theorem dL_law_311 : decode cL_law 311 = .ok (.iconst 1, 1) := by decide +kernel
theorem dL_law_312 : decode cL_law 312 = .ok (.iand, 1) := by decide +kernel
theorem dL_law_313 : decode cL_law 313 = .ok (.iconst 1, 1) := by decide +kernel
theorem dL_law_314 : decode cL_law 314 = .ok (.if_icmp .ne 14, 3) := by decide +kernel
theorem dL_law_317 : decode cL_law 317 = .ok (.aload_n 1, 1) := by decide +kernel
theorem dL_law_318 : decode cL_law 318 = .ok (.iload 7, 2) := by decide +kernel
theorem dL_law_320 : decode cL_law 320 = .ok (.invokevirtual 127, 3) := by decide +kernel
theorem dL_law_323 : decode cL_law 323 = .ok (.ifCond .ne 5, 3) := by decide +kernel
theorem dL_law_326 : decode cL_law 326 = .ok (.iconst 0, 1) := by decide +kernel
theorem dL_law_327 : decode cL_law 327 = .ok (.ireturn, 1) := by decide +kernel
theorem dL_law_328 : decode cL_law 328 = .ok (.iinc 7 1, 3) := by decide +kernel
theorem dL_law_331 : decode cL_law 331 = .ok (.goto (-33), 3) := by decide +kernel
theorem dL_law_334 : decode cL_law 334 = .ok (.iload 4, 2) := by decide +kernel
theorem dL_law_336 : decode cL_law 336 = .ok (.bipush 28, 2) := by decide +kernel
theorem dL_law_338 : decode cL_law 338 = .ok (.if_icmp .le 5, 3) := by decide +kernel
theorem dL_law_341 : decode cL_law 341 = .ok (.iconst 1, 1) := by decide +kernel
theorem dL_law_342 : decode cL_law 342 = .ok (.ireturn, 1) := by decide +kernel
theorem dL_law_343 : decode cL_law 343 = .ok (.iinc 5 1, 3) := by decide +kernel
theorem dL_law_346 : decode cL_law 346 = .ok (.goto (-146), 3) := by decide +kernel
theorem dL_law_349 : decode cL_law 349 = .ok (.aload_n 1, 1) := by decide +kernel
theorem dL_law_350 : decode cL_law 350 = .ok (.invokevirtual 145, 3) := by decide +kernel
theorem dL_law_353 : decode cL_law 353 = .ok (.aload_n 1, 1) := by decide +kernel
theorem dL_law_354 : decode cL_law 354 = .ok (.invokevirtual 82, 3) := by decide +kernel
theorem dL_law_357 : decode cL_law 357 = .ok (.if_icmp .ne 14, 3) := by decide +kernel
theorem dL_law_360 : decode cL_law 360 = .ok (.aload_n 1, 1) := by decide +kernel
theorem dL_law_361 : decode cL_law 361 = .ok (.invokevirtual 148, 3) := by decide +kernel
theorem dL_law_364 : decode cL_law 364 = .ok (.ifCond .lt 7, 3) := by decide +kernel
theorem dL_law_367 : decode cL_law 367 = .ok (.iconst 1, 1) := by decide +kernel
theorem dL_law_368 : decode cL_law 368 = .ok (.goto 4, 3) := by decide +kernel
theorem dL_law_371 : decode cL_law 371 = .ok (.iconst 0, 1) := by decide +kernel
theorem dL_law_372 : decode cL_law 372 = .ok (.ireturn, 1) := by decide +kernel

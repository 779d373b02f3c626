theorem dX0_init_0 : decode cX0_init 0 = .ok (.aload_n 0, 1) := by decide +kernel
theorem dX0_init_1 : decode cX0_init 1 = .ok (.invokespecial 3, 3) := by decide +kernel
theorem dX0_init_4 : decode cX0_init 4 = .ok (.aload_n 0, 1) := by decide +kernel
theorem dX0_init_5 : decode cX0_init 5 = .ok (.iconst 2, 1) := by decide +kernel
theorem dX0_init_6 : decode cX0_init 6 = .ok (.putfield 9, 3) := by decide +kernel
theorem dX0_init_9 : decode cX0_init 9 = .ok (.aload_n 0, 1) := by decide +kernel
theorem dX0_init_10 : decode cX0_init 10 = .ok (.iconst 3, 1) := by decide +kernel
theorem dX0_init_11 : decode cX0_init 11 = .ok (.putfield 15, 3) := by decide +kernel
theorem dX0_init_14 : decode cX0_init 14 = .ok (.aload_n 0, 1) := by decide +kernel
theorem dX0_init_15 : decode cX0_init 15 = .ok (.iconst 4, 1) := by decide +kernel
theorem dX0_init_16 : decode cX0_init 16 = .ok (.putfield 18, 3) := by decide +kernel
theorem dX0_init_19 : decode cX0_init 19 = .ok (.aload_n 0, 1) := by decide +kernel
theorem dX0_init_20 : decode cX0_init 20 = .ok (.sipush 1271, 3) := by decide +kernel
theorem dX0_init_23 : decode cX0_init 23 = .ok (.newarray .int, 2) := by decide +kernel
theorem dX0_init_25 : decode cX0_init 25 = .ok (.putfield 21, 3) := by decide +kernel
theorem dX0_init_28 : decode cX0_init 28 = .ok (.aload_n 0, 1) := by decide +kernel
theorem dX0_init_29 : decode cX0_init 29 = .ok (.bipush 70, 2) := by decide +kernel
theorem dX0_init_31 : decode cX0_init 31 = .ok (.newarray .int, 2) := by decide +kernel
theorem dX0_init_33 : decode cX0_init 33 = .ok (.putfield 25, 3) := by decide +kernel
theorem dX0_init_36 : decode cX0_init 36 = .ok (.aload_n 0, 1) := by decide +kernel
theorem dX0_init_37 : decode cX0_init 37 = .ok (.bipush 30, 2) := by decide +kernel
theorem dX0_init_39 : decode cX0_init 39 = .ok (.newarray .int, 2) := by decide +kernel
theorem dX0_init_41 : decode cX0_init 41 = .ok (.putfield 28, 3) := by decide +kernel
theorem dX0_init_44 : decode cX0_init 44 = .ok (.aload_n 0, 1) := by decide +kernel
theorem dX0_init_45 : decode cX0_init 45 = .ok (.bipush 31, 2) := by decide +kernel
theorem dX0_init_47 : decode cX0_init 47 = .ok (.newarray .boolean, 2) := by decide +kernel
theorem dX0_init_49 : decode cX0_init 49 = .ok (.putfield 31, 3) := by decide +kernel
theorem dX0_init_52 : decode cX0_init 52 = .ok (.aload_n 0, 1) := by decide +kernel
theorem dX0_init_53 : decode cX0_init 53 = .ok (.aload_n 1, 1) := by decide +kernel
theorem dX0_init_54 : decode cX0_init 54 = .ok (.putfield 35, 3) := by decide +kernel
theorem dX0_init_57 : decode cX0_init 57 = .ok (.return_, 1) := by decide +kernel
theorem dX0_takeCosts_0 : decode cX0_takeCosts 0 = .ok (.iload_n 1, 1) := by decide +kernel
theorem dX0_takeCosts_1 : decode cX0_takeCosts 1 = .ok (.aload_n 0, 1) := by decide +kernel
theorem dX0_takeCosts_2 : decode cX0_takeCosts 2 = .ok (.getfield 9, 3) := by decide +kernel
theorem dX0_takeCosts_5 : decode cX0_takeCosts 5 = .ok (.if_icmp .ne 19, 3) := by decide +kernel
theorem dX0_takeCosts_8 : decode cX0_takeCosts 8 = .ok (.iload_n 2, 1) := by decide +kernel
theorem dX0_takeCosts_9 : decode cX0_takeCosts 9 = .ok (.aload_n 0, 1) := by decide +kernel
theorem dX0_takeCosts_10 : decode cX0_takeCosts 10 = .ok (.getfield 15, 3) := by decide +kernel
theorem dX0_takeCosts_13 : decode cX0_takeCosts 13 = .ok (.if_icmp .ne 11, 3) := by decide +kernel
theorem dX0_takeCosts_16 : decode cX0_takeCosts 16 = .ok (.iload_n 3, 1) := by decide +kernel
theorem dX0_takeCosts_17 : decode cX0_takeCosts 17 = .ok (.aload_n 0, 1) := by decide +kernel
theorem dX0_takeCosts_18 : decode cX0_takeCosts 18 = .ok (.getfield 18, 3) := by decide +kernel
theorem dX0_takeCosts_21 : decode cX0_takeCosts 21 = .ok (.if_icmp .eq 7, 3) := by decide +kernel
theorem dX0_takeCosts_24 : decode cX0_takeCosts 24 = .ok (.iconst 1, 1) := by decide +kernel
theorem dX0_takeCosts_25 : decode cX0_takeCosts 25 = .ok (.goto 4, 3) := by decide +kernel
theorem dX0_takeCosts_28 : decode cX0_takeCosts 28 = .ok (.iconst 0, 1) := by decide +kernel
theorem dX0_takeCosts_29 : decode cX0_takeCosts 29 = .ok (.istore 4, 2) := by decide +kernel
theorem dX0_takeCosts_31 : decode cX0_takeCosts 31 = .ok (.aload_n 0, 1) := by decide +kernel
theorem dX0_takeCosts_32 : decode cX0_takeCosts 32 = .ok (.iload_n 1, 1) := by decide +kernel
theorem dX0_takeCosts_33 : decode cX0_takeCosts 33 = .ok (.putfield 9, 3) := by decide +kernel
theorem dX0_takeCosts_36 : decode cX0_takeCosts 36 = .ok (.aload_n 0, 1) := by decide +kernel
theorem dX0_takeCosts_37 : decode cX0_takeCosts 37 = .ok (.iload_n 2, 1) := by decide +kernel
theorem dX0_takeCosts_38 : decode cX0_takeCosts 38 = .ok (.putfield 15, 3) := by decide +kernel
theorem dX0_takeCosts_41 : decode cX0_takeCosts 41 = .ok (.aload_n 0, 1) := by decide +kernel
theorem dX0_takeCosts_42 : decode cX0_takeCosts 42 = .ok (.iload_n 3, 1) := by decide +kernel
theorem dX0_takeCosts_43 : decode cX0_takeCosts 43 = .ok (.putfield 18, 3) := by decide +kernel
theorem dX0_takeCosts_46 : decode cX0_takeCosts 46 = .ok (.iload 4, 2) := by decide +kernel
theorem dX0_takeCosts_48 : decode cX0_takeCosts 48 = .ok (.ireturn, 1) := by decide +kernel
theorem dX0_leastCost_0 : decode cX0_leastCost 0 = .ok (.aload_n 0, 1) := by decide +kernel
theorem dX0_leastCost_1 : decode cX0_leastCost 1 = .ok (.getfield 35, 3) := by decide +kernel
theorem dX0_leastCost_4 : decode cX0_leastCost 4 = .ok (.getfield 39, 3) := by decide +kernel
theorem dX0_leastCost_7 : decode cX0_leastCost 7 = .ok (.iload_n 2, 1) := by decide +kernel
theorem dX0_leastCost_8 : decode cX0_leastCost 8 = .ok (.iaload, 1) := by decide +kernel
theorem dX0_leastCost_9 : decode cX0_leastCost 9 = .ok (.istore_n 3, 1) := by decide +kernel
theorem dX0_leastCost_10 : decode cX0_leastCost 10 = .ok (.iconst 0, 1) := by decide +kernel
theorem dX0_leastCost_11 : decode cX0_leastCost 11 = .ok (.istore 4, 2) := by decide +kernel
theorem dX0_leastCost_13 : decode cX0_leastCost 13 = .ok (.iload 4, 2) := by decide +kernel
theorem dX0_leastCost_15 : decode cX0_leastCost 15 = .ok (.iload_n 3, 1) := by decide +kernel
theorem dX0_leastCost_16 : decode cX0_leastCost 16 = .ok (.if_icmp .gt 23, 3) := by decide +kernel
theorem dX0_leastCost_19 : decode cX0_leastCost 19 = .ok (.aload_n 0, 1) := by decide +kernel
theorem dX0_leastCost_20 : decode cX0_leastCost 20 = .ok (.getfield 21, 3) := by decide +kernel
theorem dX0_leastCost_23 : decode cX0_leastCost 23 = .ok (.iload 4, 2) := by decide +kernel
theorem dX0_leastCost_25 : decode cX0_leastCost 25 = .ok (.iload 4, 2) := by decide +kernel
theorem dX0_leastCost_27 : decode cX0_leastCost 27 = .ok (.aload_n 0, 1) := by decide +kernel
theorem dX0_leastCost_28 : decode cX0_leastCost 28 = .ok (.getfield 18, 3) := by decide +kernel
theorem dX0_leastCost_31 : decode cX0_leastCost 31 = .ok (.imul, 1) := by decide +kernel
theorem dX0_leastCost_32 : decode cX0_leastCost 32 = .ok (.iastore, 1) := by decide +kernel
theorem dX0_leastCost_33 : decode cX0_leastCost 33 = .ok (.iinc 4 1, 3) := by decide +kernel
theorem dX0_leastCost_36 : decode cX0_leastCost 36 = .ok (.goto (-23), 3) := by decide +kernel
theorem dX0_leastCost_39 : decode cX0_leastCost 39 = .ok (.iconst 0, 1) := by decide +kernel
theorem dX0_leastCost_40 : decode cX0_leastCost 40 = .ok (.istore 4, 2) := by decide +kernel
theorem dX0_leastCost_42 : decode cX0_leastCost 42 = .ok (.iload 4, 2) := by decide +kernel
theorem dX0_leastCost_44 : decode cX0_leastCost 44 = .ok (.aload_n 1, 1) := by decide +kernel
theorem dX0_leastCost_45 : decode cX0_leastCost 45 = .ok (.getfield 44, 3) := by decide +kernel
theorem dX0_leastCost_48 : decode cX0_leastCost 48 = .ok (.if_icmp .ge 17, 3) := by decide +kernel
theorem dX0_leastCost_51 : decode cX0_leastCost 51 = .ok (.aload_n 0, 1) := by decide +kernel
theorem dX0_leastCost_52 : decode cX0_leastCost 52 = .ok (.aload_n 1, 1) := by decide +kernel
theorem dX0_leastCost_53 : decode cX0_leastCost 53 = .ok (.iload 4, 2) := by decide +kernel
theorem dX0_leastCost_55 : decode cX0_leastCost 55 = .ok (.iload_n 2, 1) := by decide +kernel
theorem dX0_leastCost_56 : decode cX0_leastCost 56 = .ok (.invokevirtual 49, 3) := by decide +kernel
theorem dX0_leastCost_59 : decode cX0_leastCost 59 = .ok (.iinc 4 1, 3) := by decide +kernel
theorem dX0_leastCost_62 : decode cX0_leastCost 62 = .ok (.goto (-20), 3) := by decide +kernel
theorem dX0_leastCost_65 : decode cX0_leastCost 65 = .ok (.aload_n 0, 1) := by decide +kernel
theorem dX0_leastCost_66 : decode cX0_leastCost 66 = .ok (.getfield 21, 3) := by decide +kernel
theorem dX0_leastCost_69 : decode cX0_leastCost 69 = .ok (.aload_n 1, 1) := by decide +kernel
theorem dX0_leastCost_70 : decode cX0_leastCost 70 = .ok (.getfield 44, 3) := by decide +kernel
theorem dX0_leastCost_73 : decode cX0_leastCost 73 = .ok (.bipush 31, 2) := by decide +kernel
theorem dX0_leastCost_75 : decode cX0_leastCost 75 = .ok (.imul, 1) := by decide +kernel
theorem dX0_leastCost_76 : decode cX0_leastCost 76 = .ok (.iload_n 3, 1) := by decide +kernel
theorem dX0_leastCost_77 : decode cX0_leastCost 77 = .ok (.iadd, 1) := by decide +kernel
theorem dX0_leastCost_78 : decode cX0_leastCost 78 = .ok (.iaload, 1) := by decide +kernel
theorem dX0_leastCost_79 : decode cX0_leastCost 79 = .ok (.ireturn, 1) := by decide +kernel
theorem dX0_fillRow_0 : decode cX0_fillRow 0 = .ok (.aload_n 1, 1) := by decide +kernel
theorem dX0_fillRow_1 : decode cX0_fillRow 1 = .ok (.getfield 53, 3) := by decide +kernel
theorem dX0_fillRow_4 : decode cX0_fillRow 4 = .ok (.iload_n 2, 1) := by decide +kernel
theorem dX0_fillRow_5 : decode cX0_fillRow 5 = .ok (.iaload, 1) := by decide +kernel
theorem dX0_fillRow_6 : decode cX0_fillRow 6 = .ok (.istore 4, 2) := by decide +kernel
theorem dX0_fillRow_8 : decode cX0_fillRow 8 = .ok (.aload_n 0, 1) := by decide +kernel
theorem dX0_fillRow_9 : decode cX0_fillRow 9 = .ok (.getfield 35, 3) := by decide +kernel
theorem dX0_fillRow_12 : decode cX0_fillRow 12 = .ok (.getfield 39, 3) := by decide +kernel
theorem dX0_fillRow_15 : decode cX0_fillRow 15 = .ok (.iload_n 3, 1) := by decide +kernel
theorem dX0_fillRow_16 : decode cX0_fillRow 16 = .ok (.iaload, 1) := by decide +kernel
theorem dX0_fillRow_17 : decode cX0_fillRow 17 = .ok (.istore 5, 2) := by decide +kernel
theorem dX0_fillRow_19 : decode cX0_fillRow 19 = .ok (.aload_n 0, 1) := by decide +kernel
theorem dX0_fillRow_20 : decode cX0_fillRow 20 = .ok (.aload_n 1, 1) := by decide +kernel
theorem dX0_fillRow_21 : decode cX0_fillRow 21 = .ok (.iload 4, 2) := by decide +kernel
theorem dX0_fillRow_23 : decode cX0_fillRow 23 = .ok (.invokevirtual 56, 3) := by decide +kernel
theorem dX0_fillRow_26 : decode cX0_fillRow 26 = .ok (.istore 6, 2) := by decide +kernel
theorem dX0_fillRow_28 : decode cX0_fillRow 28 = .ok (.iload_n 2, 1) := by decide +kernel
theorem dX0_fillRow_29 : decode cX0_fillRow 29 = .ok (.bipush 31, 2) := by decide +kernel
theorem dX0_fillRow_31 : decode cX0_fillRow 31 = .ok (.imul, 1) := by decide +kernel
theorem dX0_fillRow_32 : decode cX0_fillRow 32 = .ok (.istore 7, 2) := by decide +kernel
theorem dX0_fillRow_34 : decode cX0_fillRow 34 = .ok (.iload 7, 2) := by decide +kernel
theorem dX0_fillRow_36 : decode cX0_fillRow 36 = .ok (.bipush 31, 2) := by decide +kernel
theorem dX0_fillRow_38 : decode cX0_fillRow 38 = .ok (.iadd, 1) := by decide +kernel
theorem dX0_fillRow_39 : decode cX0_fillRow 39 = .ok (.istore 8, 2) := by decide +kernel
theorem dX0_fillRow_41 : decode cX0_fillRow 41 = .ok (.aload_n 0, 1) := by decide +kernel
theorem dX0_fillRow_42 : decode cX0_fillRow 42 = .ok (.getfield 21, 3) := by decide +kernel
theorem dX0_fillRow_45 : decode cX0_fillRow 45 = .ok (.iload 8, 2) := by decide +kernel
theorem dX0_fillRow_47 : decode cX0_fillRow 47 = .ok (.aload_n 0, 1) := by decide +kernel
theorem dX0_fillRow_48 : decode cX0_fillRow 48 = .ok (.getfield 21, 3) := by decide +kernel
theorem dX0_fillRow_51 : decode cX0_fillRow 51 = .ok (.iload 7, 2) := by decide +kernel
theorem dX0_fillRow_53 : decode cX0_fillRow 53 = .ok (.iaload, 1) := by decide +kernel
theorem dX0_fillRow_54 : decode cX0_fillRow 54 = .ok (.iload 6, 2) := by decide +kernel
theorem dX0_fillRow_56 : decode cX0_fillRow 56 = .ok (.iadd, 1) := by decide +kernel
theorem dX0_fillRow_57 : decode cX0_fillRow 57 = .ok (.iastore, 1) := by decide +kernel
theorem dX0_fillRow_58 : decode cX0_fillRow 58 = .ok (.iconst 0, 1) := by decide +kernel
theorem dX0_fillRow_59 : decode cX0_fillRow 59 = .ok (.istore 9, 2) := by decide +kernel
theorem dX0_fillRow_61 : decode cX0_fillRow 61 = .ok (.iload 9, 2) := by decide +kernel
theorem dX0_fillRow_63 : decode cX0_fillRow 63 = .ok (.iload 5, 2) := by decide +kernel
theorem dX0_fillRow_65 : decode cX0_fillRow 65 = .ok (.if_icmp .ge 99, 3) := by decide +kernel
theorem dX0_fillRow_68 : decode cX0_fillRow 68 = .ok (.aload_n 0, 1) := by decide +kernel
theorem dX0_fillRow_69 : decode cX0_fillRow 69 = .ok (.getfield 21, 3) := by decide +kernel
theorem dX0_fillRow_72 : decode cX0_fillRow 72 = .ok (.iload 7, 2) := by decide +kernel
theorem dX0_fillRow_74 : decode cX0_fillRow 74 = .ok (.iload 9, 2) := by decide +kernel
theorem dX0_fillRow_76 : decode cX0_fillRow 76 = .ok (.iadd, 1) := by decide +kernel
theorem dX0_fillRow_77 : decode cX0_fillRow 77 = .ok (.iconst 1, 1) := by decide +kernel
theorem dX0_fillRow_78 : decode cX0_fillRow 78 = .ok (.iadd, 1) := by decide +kernel
theorem dX0_fillRow_79 : decode cX0_fillRow 79 = .ok (.iaload, 1) := by decide +kernel
theorem dX0_fillRow_80 : decode cX0_fillRow 80 = .ok (.iload 6, 2) := by decide +kernel
theorem dX0_fillRow_82 : decode cX0_fillRow 82 = .ok (.iadd, 1) := by decide +kernel
theorem dX0_fillRow_83 : decode cX0_fillRow 83 = .ok (.aload_n 0, 1) := by decide +kernel
theorem dX0_fillRow_84 : decode cX0_fillRow 84 = .ok (.getfield 21, 3) := by decide +kernel
theorem dX0_fillRow_87 : decode cX0_fillRow 87 = .ok (.iload 8, 2) := by decide +kernel
theorem dX0_fillRow_89 : decode cX0_fillRow 89 = .ok (.iload 9, 2) := by decide +kernel
theorem dX0_fillRow_91 : decode cX0_fillRow 91 = .ok (.iadd, 1) := by decide +kernel
theorem dX0_fillRow_92 : decode cX0_fillRow 92 = .ok (.iaload, 1) := by decide +kernel
theorem dX0_fillRow_93 : decode cX0_fillRow 93 = .ok (.aload_n 0, 1) := by decide +kernel
theorem dX0_fillRow_94 : decode cX0_fillRow 94 = .ok (.getfield 18, 3) := by decide +kernel
theorem dX0_fillRow_97 : decode cX0_fillRow 97 = .ok (.iadd, 1) := by decide +kernel
theorem dX0_fillRow_98 : decode cX0_fillRow 98 = .ok (.invokestatic 60, 3) := by decide +kernel
theorem dX0_fillRow_101 : decode cX0_fillRow 101 = .ok (.istore 10, 2) := by decide +kernel
theorem dX0_fillRow_103 : decode cX0_fillRow 103 = .ok (.aload_n 0, 1) := by decide +kernel
theorem dX0_fillRow_104 : decode cX0_fillRow 104 = .ok (.aload_n 1, 1) := by decide +kernel
theorem dX0_fillRow_105 : decode cX0_fillRow 105 = .ok (.iload 4, 2) := by decide +kernel
theorem dX0_fillRow_107 : decode cX0_fillRow 107 = .ok (.iload_n 3, 1) := by decide +kernel
theorem dX0_fillRow_108 : decode cX0_fillRow 108 = .ok (.iload 9, 2) := by decide +kernel
theorem dX0_fillRow_110 : decode cX0_fillRow 110 = .ok (.invokestatic 66, 3) := by decide +kernel
theorem dX0_fillRow_113 : decode cX0_fillRow 113 = .ok (.invokevirtual 69, 3) := by decide +kernel
theorem dX0_fillRow_116 : decode cX0_fillRow 116 = .ok (.istore 11, 2) := by decide +kernel
theorem dX0_fillRow_118 : decode cX0_fillRow 118 = .ok (.iload 11, 2) := by decide +kernel
theorem dX0_fillRow_120 : decode cX0_fillRow 120 = .ok (.iconst (-1), 1) := by decide +kernel
theorem dX0_fillRow_121 : decode cX0_fillRow 121 = .ok (.if_icmp .eq 23, 3) := by decide +kernel
theorem dX0_fillRow_124 : decode cX0_fillRow 124 = .ok (.iload 10, 2) := by decide +kernel
theorem dX0_fillRow_126 : decode cX0_fillRow 126 = .ok (.aload_n 0, 1) := by decide +kernel
theorem dX0_fillRow_127 : decode cX0_fillRow 127 = .ok (.getfield 21, 3) := by decide +kernel
theorem dX0_fillRow_130 : decode cX0_fillRow 130 = .ok (.iload 7, 2) := by decide +kernel
theorem dX0_fillRow_132 : decode cX0_fillRow 132 = .ok (.iload 9, 2) := by decide +kernel
theorem dX0_fillRow_134 : decode cX0_fillRow 134 = .ok (.iadd, 1) := by decide +kernel
theorem dX0_fillRow_135 : decode cX0_fillRow 135 = .ok (.iaload, 1) := by decide +kernel
theorem dX0_fillRow_136 : decode cX0_fillRow 136 = .ok (.iload 11, 2) := by decide +kernel
theorem dX0_fillRow_138 : decode cX0_fillRow 138 = .ok (.iadd, 1) := by decide +kernel
theorem dX0_fillRow_139 : decode cX0_fillRow 139 = .ok (.invokestatic 60, 3) := by decide +kernel
theorem dX0_fillRow_142 : decode cX0_fillRow 142 = .ok (.istore 10, 2) := by decide +kernel
theorem dX0_fillRow_144 : decode cX0_fillRow 144 = .ok (.aload_n 0, 1) := by decide +kernel
theorem dX0_fillRow_145 : decode cX0_fillRow 145 = .ok (.getfield 21, 3) := by decide +kernel
theorem dX0_fillRow_148 : decode cX0_fillRow 148 = .ok (.iload 8, 2) := by decide +kernel
theorem dX0_fillRow_150 : decode cX0_fillRow 150 = .ok (.iload 9, 2) := by decide +kernel
theorem dX0_fillRow_152 : decode cX0_fillRow 152 = .ok (.iadd, 1) := by decide +kernel
theorem dX0_fillRow_153 : decode cX0_fillRow 153 = .ok (.iconst 1, 1) := by decide +kernel
theorem dX0_fillRow_154 : decode cX0_fillRow 154 = .ok (.iadd, 1) := by decide +kernel
theorem dX0_fillRow_155 : decode cX0_fillRow 155 = .ok (.iload 10, 2) := by decide +kernel
theorem dX0_fillRow_157 : decode cX0_fillRow 157 = .ok (.iastore, 1) := by decide +kernel
theorem dX0_fillRow_158 : decode cX0_fillRow 158 = .ok (.iinc 9 1, 3) := by decide +kernel
theorem dX0_fillRow_161 : decode cX0_fillRow 161 = .ok (.goto (-100), 3) := by decide +kernel
theorem dX0_fillRow_164 : decode cX0_fillRow 164 = .ok (.return_, 1) := by decide +kernel
theorem dX0_skipCost_0 : decode cX0_skipCost 0 = .ok (.aload_n 1, 1) := by decide +kernel
theorem dX0_skipCost_1 : decode cX0_skipCost 1 = .ok (.iload_n 2, 1) := by decide +kernel
theorem dX0_skipCost_2 : decode cX0_skipCost 2 = .ok (.invokevirtual 73, 3) := by decide +kernel
theorem dX0_skipCost_5 : decode cX0_skipCost 5 = .ok (.ifCond .eq 7, 3) := by decide +kernel
theorem dX0_skipCost_8 : decode cX0_skipCost 8 = .ok (.iconst 1, 1) := by decide +kernel
theorem dX0_skipCost_9 : decode cX0_skipCost 9 = .ok (.goto 7, 3) := by decide +kernel
theorem dX0_skipCost_12 : decode cX0_skipCost 12 = .ok (.aload_n 0, 1) := by decide +kernel
theorem dX0_skipCost_13 : decode cX0_skipCost 13 = .ok (.getfield 15, 3) := by decide +kernel
theorem dX0_skipCost_16 : decode cX0_skipCost 16 = .ok (.ireturn, 1) := by decide +kernel
theorem dX0_pairCost_0 : decode cX0_pairCost 0 = .ok (.aload_n 1, 1) := by decide +kernel
theorem dX0_pairCost_1 : decode cX0_pairCost 1 = .ok (.getfield 77, 3) := by decide +kernel
theorem dX0_pairCost_4 : decode cX0_pairCost 4 = .ok (.iload_n 2, 1) := by decide +kernel
theorem dX0_pairCost_5 : decode cX0_pairCost 5 = .ok (.iaload, 1) := by decide +kernel
theorem dX0_pairCost_6 : decode cX0_pairCost 6 = .ok (.aload_n 0, 1) := by decide +kernel
theorem dX0_pairCost_7 : decode cX0_pairCost 7 = .ok (.getfield 35, 3) := by decide +kernel
theorem dX0_pairCost_10 : decode cX0_pairCost 10 = .ok (.getfield 80, 3) := by decide +kernel
theorem dX0_pairCost_13 : decode cX0_pairCost 13 = .ok (.iload_n 3, 1) := by decide +kernel
theorem dX0_pairCost_14 : decode cX0_pairCost 14 = .ok (.iaload, 1) := by decide +kernel
theorem dX0_pairCost_15 : decode cX0_pairCost 15 = .ok (.if_icmp .eq 5, 3) := by decide +kernel
theorem dX0_pairCost_18 : decode cX0_pairCost 18 = .ok (.iconst (-1), 1) := by decide +kernel
theorem dX0_pairCost_19 : decode cX0_pairCost 19 = .ok (.ireturn, 1) := by decide +kernel
theorem dX0_pairCost_20 : decode cX0_pairCost 20 = .ok (.aload_n 1, 1) := by decide +kernel
theorem dX0_pairCost_21 : decode cX0_pairCost 21 = .ok (.getfield 81, 3) := by decide +kernel
theorem dX0_pairCost_24 : decode cX0_pairCost 24 = .ok (.iload_n 2, 1) := by decide +kernel
theorem dX0_pairCost_25 : decode cX0_pairCost 25 = .ok (.iaload, 1) := by decide +kernel
theorem dX0_pairCost_26 : decode cX0_pairCost 26 = .ok (.iconst (-1), 1) := by decide +kernel
theorem dX0_pairCost_27 : decode cX0_pairCost 27 = .ok (.if_icmp .ne 5, 3) := by decide +kernel
theorem dX0_pairCost_30 : decode cX0_pairCost 30 = .ok (.iconst 1, 1) := by decide +kernel
theorem dX0_pairCost_31 : decode cX0_pairCost 31 = .ok (.ireturn, 1) := by decide +kernel
theorem dX0_pairCost_32 : decode cX0_pairCost 32 = .ok (.aload_n 1, 1) := by decide +kernel
theorem dX0_pairCost_33 : decode cX0_pairCost 33 = .ok (.getfield 81, 3) := by decide +kernel
theorem dX0_pairCost_36 : decode cX0_pairCost 36 = .ok (.iload_n 2, 1) := by decide +kernel
theorem dX0_pairCost_37 : decode cX0_pairCost 37 = .ok (.iaload, 1) := by decide +kernel
theorem dX0_pairCost_38 : decode cX0_pairCost 38 = .ok (.aload_n 0, 1) := by decide +kernel
theorem dX0_pairCost_39 : decode cX0_pairCost 39 = .ok (.getfield 35, 3) := by decide +kernel
theorem dX0_pairCost_42 : decode cX0_pairCost 42 = .ok (.getfield 84, 3) := by decide +kernel
theorem dX0_pairCost_45 : decode cX0_pairCost 45 = .ok (.iload_n 3, 1) := by decide +kernel
theorem dX0_pairCost_46 : decode cX0_pairCost 46 = .ok (.iaload, 1) := by decide +kernel
theorem dX0_pairCost_47 : decode cX0_pairCost 47 = .ok (.if_icmp .ne 7, 3) := by decide +kernel
theorem dX0_pairCost_50 : decode cX0_pairCost 50 = .ok (.iconst 0, 1) := by decide +kernel
theorem dX0_pairCost_51 : decode cX0_pairCost 51 = .ok (.goto 7, 3) := by decide +kernel
theorem dX0_pairCost_54 : decode cX0_pairCost 54 = .ok (.aload_n 0, 1) := by decide +kernel
theorem dX0_pairCost_55 : decode cX0_pairCost 55 = .ok (.getfield 9, 3) := by decide +kernel
theorem dX0_pairCost_58 : decode cX0_pairCost 58 = .ok (.ireturn, 1) := by decide +kernel
theorem dX0_align_0 : decode cX0_align 0 = .ok (.aload_n 0, 1) := by decide +kernel
theorem dX0_align_1 : decode cX0_align 1 = .ok (.aload_n 1, 1) := by decide +kernel
theorem dX0_align_2 : decode cX0_align 2 = .ok (.iload_n 2, 1) := by decide +kernel
theorem dX0_align_3 : decode cX0_align 3 = .ok (.invokevirtual 85, 3) := by decide +kernel
theorem dX0_align_6 : decode cX0_align 6 = .ok (.istore_n 3, 1) := by decide +kernel
theorem dX0_align_7 : decode cX0_align 7 = .ok (.aload_n 1, 1) := by decide +kernel
theorem dX0_align_8 : decode cX0_align 8 = .ok (.getfield 44, 3) := by decide +kernel
theorem dX0_align_11 : decode cX0_align 11 = .ok (.istore 4, 2) := by decide +kernel
theorem dX0_align_13 : decode cX0_align 13 = .ok (.aload_n 0, 1) := by decide +kernel
theorem dX0_align_14 : decode cX0_align 14 = .ok (.getfield 35, 3) := by decide +kernel
theorem dX0_align_17 : decode cX0_align 17 = .ok (.getfield 39, 3) := by decide +kernel
theorem dX0_align_20 : decode cX0_align 20 = .ok (.iload_n 2, 1) := by decide +kernel
theorem dX0_align_21 : decode cX0_align 21 = .ok (.iaload, 1) := by decide +kernel
theorem dX0_align_22 : decode cX0_align 22 = .ok (.istore 5, 2) := by decide +kernel
theorem dX0_align_24 : decode cX0_align 24 = .ok (.iconst 0, 1) := by decide +kernel
theorem dX0_align_25 : decode cX0_align 25 = .ok (.istore 6, 2) := by decide +kernel
theorem dX0_align_27 : decode cX0_align 27 = .ok (.aload_n 0, 1) := by decide +kernel
theorem dX0_align_28 : decode cX0_align 28 = .ok (.iconst 0, 1) := by decide +kernel
theorem dX0_align_29 : decode cX0_align 29 = .ok (.putfield 88, 3) := by decide +kernel
theorem dX0_align_32 : decode cX0_align 32 = .ok (.iload 6, 2) := by decide +kernel
theorem dX0_align_34 : decode cX0_align 34 = .ok (.bipush 70, 2) := by decide +kernel
theorem dX0_align_36 : decode cX0_align 36 = .ok (.if_icmp .ge 69, 3) := by decide +kernel
theorem dX0_align_39 : decode cX0_align 39 = .ok (.iload 4, 2) := by decide +kernel
theorem dX0_align_41 : decode cX0_align 41 = .ok (.iload 5, 2) := by decide +kernel
theorem dX0_align_43 : decode cX0_align 43 = .ok (.iadd, 1) := by decide +kernel
theorem dX0_align_44 : decode cX0_align 44 = .ok (.ifCond .le 61, 3) := by decide +kernel
theorem dX0_align_47 : decode cX0_align 47 = .ok (.aload_n 0, 1) := by decide +kernel
theorem dX0_align_48 : decode cX0_align 48 = .ok (.aload_n 1, 1) := by decide +kernel
theorem dX0_align_49 : decode cX0_align 49 = .ok (.iload_n 2, 1) := by decide +kernel
theorem dX0_align_50 : decode cX0_align 50 = .ok (.iload 4, 2) := by decide +kernel
theorem dX0_align_52 : decode cX0_align 52 = .ok (.iload 5, 2) := by decide +kernel
theorem dX0_align_54 : decode cX0_align 54 = .ok (.invokevirtual 91, 3) := by decide +kernel
theorem dX0_align_57 : decode cX0_align 57 = .ok (.istore 7, 2) := by decide +kernel
theorem dX0_align_59 : decode cX0_align 59 = .ok (.aload_n 0, 1) := by decide +kernel
theorem dX0_align_60 : decode cX0_align 60 = .ok (.getfield 25, 3) := by decide +kernel
theorem dX0_align_63 : decode cX0_align 63 = .ok (.iload 6, 2) := by decide +kernel
theorem dX0_align_65 : decode cX0_align 65 = .ok (.iload 7, 2) := by decide +kernel
theorem dX0_align_67 : decode cX0_align 67 = .ok (.iastore, 1) := by decide +kernel
theorem dX0_align_68 : decode cX0_align 68 = .ok (.iinc 6 1, 3) := by decide +kernel
theorem dX0_align_71 : decode cX0_align 71 = .ok (.iload 7, 2) := by decide +kernel
theorem dX0_align_73 : decode cX0_align 73 = .ok (.iconst 2, 1) := by decide +kernel
theorem dX0_align_74 : decode cX0_align 74 = .ok (.if_icmp .ne 16, 3) := by decide +kernel
theorem dX0_align_77 : decode cX0_align 77 = .ok (.aload_n 0, 1) := by decide +kernel
theorem dX0_align_78 : decode cX0_align 78 = .ok (.dup, 1) := by decide +kernel
theorem dX0_align_79 : decode cX0_align 79 = .ok (.getfield 88, 3) := by decide +kernel
theorem dX0_align_82 : decode cX0_align 82 = .ok (.iconst 1, 1) := by decide +kernel
theorem dX0_align_83 : decode cX0_align 83 = .ok (.iadd, 1) := by decide +kernel
theorem dX0_align_84 : decode cX0_align 84 = .ok (.putfield 88, 3) := by decide +kernel
theorem dX0_align_87 : decode cX0_align 87 = .ok (.goto 6, 3) := by decide +kernel
theorem dX0_align_90 : decode cX0_align 90 = .ok (.iinc 4 (-1), 3) := by decide +kernel
theorem dX0_align_93 : decode cX0_align 93 = .ok (.iload 7, 2) := by decide +kernel
theorem dX0_align_95 : decode cX0_align 95 = .ok (.iconst 1, 1) := by decide +kernel
theorem dX0_align_96 : decode cX0_align 96 = .ok (.if_icmp .eq 6, 3) := by decide +kernel
theorem dX0_align_99 : decode cX0_align 99 = .ok (.iinc 5 (-1), 3) := by decide +kernel
theorem dX0_align_102 : decode cX0_align 102 = .ok (.goto (-70), 3) := by decide +kernel
theorem dX0_align_105 : decode cX0_align 105 = .ok (.aload_n 0, 1) := by decide +kernel
theorem dX0_align_106 : decode cX0_align 106 = .ok (.iload 6, 2) := by decide +kernel
theorem dX0_align_108 : decode cX0_align 108 = .ok (.putfield 95, 3) := by decide +kernel
theorem dX0_align_111 : decode cX0_align 111 = .ok (.iload_n 3, 1) := by decide +kernel
theorem dX0_align_112 : decode cX0_align 112 = .ok (.ireturn, 1) := by decide +kernel
theorem dX0_lastStep_0 : decode cX0_lastStep 0 = .ok (.iload_n 3, 1) := by decide +kernel
theorem dX0_lastStep_1 : decode cX0_lastStep 1 = .ok (.ifCond .ne 5, 3) := by decide +kernel
theorem dX0_lastStep_4 : decode cX0_lastStep 4 = .ok (.iconst 2, 1) := by decide +kernel
theorem dX0_lastStep_5 : decode cX0_lastStep 5 = .ok (.ireturn, 1) := by decide +kernel
theorem dX0_lastStep_6 : decode cX0_lastStep 6 = .ok (.iload 4, 2) := by decide +kernel
theorem dX0_lastStep_8 : decode cX0_lastStep 8 = .ok (.ifCond .ne 5, 3) := by decide +kernel
theorem dX0_lastStep_11 : decode cX0_lastStep 11 = .ok (.iconst 1, 1) := by decide +kernel
theorem dX0_lastStep_12 : decode cX0_lastStep 12 = .ok (.ireturn, 1) := by decide +kernel
theorem dX0_lastStep_13 : decode cX0_lastStep 13 = .ok (.iload_n 3, 1) := by decide +kernel
theorem dX0_lastStep_14 : decode cX0_lastStep 14 = .ok (.bipush 31, 2) := by decide +kernel
theorem dX0_lastStep_16 : decode cX0_lastStep 16 = .ok (.imul, 1) := by decide +kernel
theorem dX0_lastStep_17 : decode cX0_lastStep 17 = .ok (.iload 4, 2) := by decide +kernel
theorem dX0_lastStep_19 : decode cX0_lastStep 19 = .ok (.iadd, 1) := by decide +kernel
theorem dX0_lastStep_20 : decode cX0_lastStep 20 = .ok (.istore 5, 2) := by decide +kernel
theorem dX0_lastStep_22 : decode cX0_lastStep 22 = .ok (.aload_n 1, 1) := by decide +kernel
theorem dX0_lastStep_23 : decode cX0_lastStep 23 = .ok (.getfield 53, 3) := by decide +kernel
theorem dX0_lastStep_26 : decode cX0_lastStep 26 = .ok (.iload_n 3, 1) := by decide +kernel
theorem dX0_lastStep_27 : decode cX0_lastStep 27 = .ok (.iconst 1, 1) := by decide +kernel
theorem dX0_lastStep_28 : decode cX0_lastStep 28 = .ok (.isub, 1) := by decide +kernel
theorem dX0_lastStep_29 : decode cX0_lastStep 29 = .ok (.iaload, 1) := by decide +kernel
theorem dX0_lastStep_30 : decode cX0_lastStep 30 = .ok (.istore 6, 2) := by decide +kernel
theorem dX0_lastStep_32 : decode cX0_lastStep 32 = .ok (.aload_n 0, 1) := by decide +kernel
theorem dX0_lastStep_33 : decode cX0_lastStep 33 = .ok (.aload_n 1, 1) := by decide +kernel
theorem dX0_lastStep_34 : decode cX0_lastStep 34 = .ok (.iload 6, 2) := by decide +kernel
theorem dX0_lastStep_36 : decode cX0_lastStep 36 = .ok (.iload_n 2, 1) := by decide +kernel
theorem dX0_lastStep_37 : decode cX0_lastStep 37 = .ok (.iload 4, 2) := by decide +kernel
theorem dX0_lastStep_39 : decode cX0_lastStep 39 = .ok (.iconst 1, 1) := by decide +kernel
theorem dX0_lastStep_40 : decode cX0_lastStep 40 = .ok (.isub, 1) := by decide +kernel
theorem dX0_lastStep_41 : decode cX0_lastStep 41 = .ok (.invokestatic 66, 3) := by decide +kernel
theorem dX0_lastStep_44 : decode cX0_lastStep 44 = .ok (.invokevirtual 69, 3) := by decide +kernel
theorem dX0_lastStep_47 : decode cX0_lastStep 47 = .ok (.istore 7, 2) := by decide +kernel
theorem dX0_lastStep_49 : decode cX0_lastStep 49 = .ok (.iload 7, 2) := by decide +kernel
theorem dX0_lastStep_51 : decode cX0_lastStep 51 = .ok (.iconst (-1), 1) := by decide +kernel
theorem dX0_lastStep_52 : decode cX0_lastStep 52 = .ok (.if_icmp .eq 30, 3) := by decide +kernel
theorem dX0_lastStep_55 : decode cX0_lastStep 55 = .ok (.aload_n 0, 1) := by decide +kernel
theorem dX0_lastStep_56 : decode cX0_lastStep 56 = .ok (.getfield 21, 3) := by decide +kernel
theorem dX0_lastStep_59 : decode cX0_lastStep 59 = .ok (.iload 5, 2) := by decide +kernel
theorem dX0_lastStep_61 : decode cX0_lastStep 61 = .ok (.iaload, 1) := by decide +kernel
theorem dX0_lastStep_62 : decode cX0_lastStep 62 = .ok (.aload_n 0, 1) := by decide +kernel
theorem dX0_lastStep_63 : decode cX0_lastStep 63 = .ok (.getfield 21, 3) := by decide +kernel
theorem dX0_lastStep_66 : decode cX0_lastStep 66 = .ok (.iload 5, 2) := by decide +kernel
theorem dX0_lastStep_68 : decode cX0_lastStep 68 = .ok (.bipush 31, 2) := by decide +kernel
theorem dX0_lastStep_70 : decode cX0_lastStep 70 = .ok (.isub, 1) := by decide +kernel
theorem dX0_lastStep_71 : decode cX0_lastStep 71 = .ok (.iconst 1, 1) := by decide +kernel
theorem dX0_lastStep_72 : decode cX0_lastStep 72 = .ok (.isub, 1) := by decide +kernel
theorem dX0_lastStep_73 : decode cX0_lastStep 73 = .ok (.iaload, 1) := by decide +kernel
theorem dX0_lastStep_74 : decode cX0_lastStep 74 = .ok (.iload 7, 2) := by decide +kernel
theorem dX0_lastStep_76 : decode cX0_lastStep 76 = .ok (.iadd, 1) := by decide +kernel
theorem dX0_lastStep_77 : decode cX0_lastStep 77 = .ok (.if_icmp .ne 5, 3) := by decide +kernel
theorem dX0_lastStep_80 : decode cX0_lastStep 80 = .ok (.iconst 0, 1) := by decide +kernel
theorem dX0_lastStep_81 : decode cX0_lastStep 81 = .ok (.ireturn, 1) := by decide +kernel
theorem dX0_lastStep_82 : decode cX0_lastStep 82 = .ok (.aload_n 0, 1) := by decide +kernel
theorem dX0_lastStep_83 : decode cX0_lastStep 83 = .ok (.getfield 21, 3) := by decide +kernel
theorem dX0_lastStep_86 : decode cX0_lastStep 86 = .ok (.iload 5, 2) := by decide +kernel
theorem dX0_lastStep_88 : decode cX0_lastStep 88 = .ok (.iaload, 1) := by decide +kernel
theorem dX0_lastStep_89 : decode cX0_lastStep 89 = .ok (.aload_n 0, 1) := by decide +kernel
theorem dX0_lastStep_90 : decode cX0_lastStep 90 = .ok (.getfield 21, 3) := by decide +kernel
theorem dX0_lastStep_93 : decode cX0_lastStep 93 = .ok (.iload 5, 2) := by decide +kernel
theorem dX0_lastStep_95 : decode cX0_lastStep 95 = .ok (.bipush 31, 2) := by decide +kernel
theorem dX0_lastStep_97 : decode cX0_lastStep 97 = .ok (.isub, 1) := by decide +kernel
theorem dX0_lastStep_98 : decode cX0_lastStep 98 = .ok (.iaload, 1) := by decide +kernel
theorem dX0_lastStep_99 : decode cX0_lastStep 99 = .ok (.aload_n 0, 1) := by decide +kernel
theorem dX0_lastStep_100 : decode cX0_lastStep 100 = .ok (.aload_n 1, 1) := by decide +kernel
theorem dX0_lastStep_101 : decode cX0_lastStep 101 = .ok (.iload 6, 2) := by decide +kernel
theorem dX0_lastStep_103 : decode cX0_lastStep 103 = .ok (.invokevirtual 56, 3) := by decide +kernel
theorem dX0_lastStep_106 : decode cX0_lastStep 106 = .ok (.iadd, 1) := by decide +kernel
theorem dX0_lastStep_107 : decode cX0_lastStep 107 = .ok (.if_icmp .ne 7, 3) := by decide +kernel
theorem dX0_lastStep_110 : decode cX0_lastStep 110 = .ok (.iconst 1, 1) := by decide +kernel
theorem dX0_lastStep_111 : decode cX0_lastStep 111 = .ok (.goto 4, 3) := by decide +kernel
theorem dX0_lastStep_114 : decode cX0_lastStep 114 = .ok (.iconst 2, 1) := by decide +kernel
theorem dX0_lastStep_115 : decode cX0_lastStep 115 = .ok (.ireturn, 1) := by decide +kernel
theorem dX0_hasRoom_0 : decode cX0_hasRoom 0 = .ok (.aload_n 1, 1) := by decide +kernel
theorem dX0_hasRoom_1 : decode cX0_hasRoom 1 = .ok (.getfield 44, 3) := by decide +kernel
theorem dX0_hasRoom_4 : decode cX0_hasRoom 4 = .ok (.aload_n 0, 1) := by decide +kernel
theorem dX0_hasRoom_5 : decode cX0_hasRoom 5 = .ok (.getfield 88, 3) := by decide +kernel
theorem dX0_hasRoom_8 : decode cX0_hasRoom 8 = .ok (.iadd, 1) := by decide +kernel
theorem dX0_hasRoom_9 : decode cX0_hasRoom 9 = .ok (.bipush 40, 2) := by decide +kernel
theorem dX0_hasRoom_11 : decode cX0_hasRoom 11 = .ok (.if_icmp .gt 7, 3) := by decide +kernel
theorem dX0_hasRoom_14 : decode cX0_hasRoom 14 = .ok (.iconst 1, 1) := by decide +kernel
theorem dX0_hasRoom_15 : decode cX0_hasRoom 15 = .ok (.goto 4, 3) := by decide +kernel
theorem dX0_hasRoom_18 : decode cX0_hasRoom 18 = .ok (.iconst 0, 1) := by decide +kernel
theorem dX0_hasRoom_19 : decode cX0_hasRoom 19 = .ok (.ireturn, 1) := by decide +kernel
theorem dX0_join_0 : decode cX0_join 0 = .ok (.aload_n 1, 1) := by decide +kernel
theorem dX0_join_1 : decode cX0_join 1 = .ok (.getfield 44, 3) := by decide +kernel
theorem dX0_join_4 : decode cX0_join 4 = .ok (.istore_n 3, 1) := by decide +kernel
theorem dX0_join_5 : decode cX0_join 5 = .ok (.aload_n 0, 1) := by decide +kernel
theorem dX0_join_6 : decode cX0_join 6 = .ok (.getfield 35, 3) := by decide +kernel
theorem dX0_join_9 : decode cX0_join 9 = .ok (.getfield 39, 3) := by decide +kernel
theorem dX0_join_12 : decode cX0_join 12 = .ok (.iload_n 2, 1) := by decide +kernel
theorem dX0_join_13 : decode cX0_join 13 = .ok (.iaload, 1) := by decide +kernel
theorem dX0_join_14 : decode cX0_join 14 = .ok (.istore 4, 2) := by decide +kernel
theorem dX0_join_16 : decode cX0_join 16 = .ok (.iload_n 3, 1) := by decide +kernel
theorem dX0_join_17 : decode cX0_join 17 = .ok (.aload_n 0, 1) := by decide +kernel
theorem dX0_join_18 : decode cX0_join 18 = .ok (.getfield 88, 3) := by decide +kernel
theorem dX0_join_21 : decode cX0_join 21 = .ok (.iadd, 1) := by decide +kernel
theorem dX0_join_22 : decode cX0_join 22 = .ok (.istore 5, 2) := by decide +kernel
theorem dX0_join_24 : decode cX0_join 24 = .ok (.iconst 0, 1) := by decide +kernel
theorem dX0_join_25 : decode cX0_join 25 = .ok (.istore 6, 2) := by decide +kernel
theorem dX0_join_27 : decode cX0_join 27 = .ok (.iload 6, 2) := by decide +kernel
theorem dX0_join_29 : decode cX0_join 29 = .ok (.aload_n 0, 1) := by decide +kernel
theorem dX0_join_30 : decode cX0_join 30 = .ok (.getfield 95, 3) := by decide +kernel
theorem dX0_join_33 : decode cX0_join 33 = .ok (.if_icmp .ge 115, 3) := by decide +kernel
theorem dX0_join_36 : decode cX0_join 36 = .ok (.iinc 5 (-1), 3) := by decide +kernel
theorem dX0_join_39 : decode cX0_join 39 = .ok (.aload_n 0, 1) := by decide +kernel
theorem dX0_join_40 : decode cX0_join 40 = .ok (.getfield 25, 3) := by decide +kernel
theorem dX0_join_43 : decode cX0_join 43 = .ok (.iload 6, 2) := by decide +kernel
theorem dX0_join_45 : decode cX0_join 45 = .ok (.iaload, 1) := by decide +kernel
theorem dX0_join_46 : decode cX0_join 46 = .ok (.iconst 2, 1) := by decide +kernel
theorem dX0_join_47 : decode cX0_join 47 = .ok (.if_icmp .ne 24, 3) := by decide +kernel
theorem dX0_join_50 : decode cX0_join 50 = .ok (.aload_n 1, 1) := by decide +kernel
theorem dX0_join_51 : decode cX0_join 51 = .ok (.aload_n 0, 1) := by decide +kernel
theorem dX0_join_52 : decode cX0_join 52 = .ok (.getfield 35, 3) := by decide +kernel
theorem dX0_join_55 : decode cX0_join 55 = .ok (.iload_n 2, 1) := by decide +kernel
theorem dX0_join_56 : decode cX0_join 56 = .ok (.iload 4, 2) := by decide +kernel
theorem dX0_join_58 : decode cX0_join 58 = .ok (.iconst 1, 1) := by decide +kernel
theorem dX0_join_59 : decode cX0_join 59 = .ok (.isub, 1) := by decide +kernel
theorem dX0_join_60 : decode cX0_join 60 = .ok (.invokestatic 66, 3) := by decide +kernel
theorem dX0_join_63 : decode cX0_join 63 = .ok (.invokevirtual 98, 3) := by decide +kernel
theorem dX0_join_66 : decode cX0_join 66 = .ok (.istore 7, 2) := by decide +kernel
theorem dX0_join_68 : decode cX0_join 68 = .ok (.goto 42, 3) := by decide +kernel
theorem dX0_join_71 : decode cX0_join 71 = .ok (.iinc 3 (-1), 3) := by decide +kernel
theorem dX0_join_74 : decode cX0_join 74 = .ok (.aload_n 1, 1) := by decide +kernel
theorem dX0_join_75 : decode cX0_join 75 = .ok (.getfield 53, 3) := by decide +kernel
theorem dX0_join_78 : decode cX0_join 78 = .ok (.iload_n 3, 1) := by decide +kernel
theorem dX0_join_79 : decode cX0_join 79 = .ok (.iaload, 1) := by decide +kernel
theorem dX0_join_80 : decode cX0_join 80 = .ok (.istore 7, 2) := by decide +kernel
theorem dX0_join_82 : decode cX0_join 82 = .ok (.aload_n 0, 1) := by decide +kernel
theorem dX0_join_83 : decode cX0_join 83 = .ok (.getfield 25, 3) := by decide +kernel
theorem dX0_join_86 : decode cX0_join 86 = .ok (.iload 6, 2) := by decide +kernel
theorem dX0_join_88 : decode cX0_join 88 = .ok (.iaload, 1) := by decide +kernel
theorem dX0_join_89 : decode cX0_join 89 = .ok (.ifCond .ne 21, 3) := by decide +kernel
theorem dX0_join_92 : decode cX0_join 92 = .ok (.aload_n 1, 1) := by decide +kernel
theorem dX0_join_93 : decode cX0_join 93 = .ok (.iload 7, 2) := by decide +kernel
theorem dX0_join_95 : decode cX0_join 95 = .ok (.aload_n 0, 1) := by decide +kernel
theorem dX0_join_96 : decode cX0_join 96 = .ok (.getfield 35, 3) := by decide +kernel
theorem dX0_join_99 : decode cX0_join 99 = .ok (.iload_n 2, 1) := by decide +kernel
theorem dX0_join_100 : decode cX0_join 100 = .ok (.iload 4, 2) := by decide +kernel
theorem dX0_join_102 : decode cX0_join 102 = .ok (.iconst 1, 1) := by decide +kernel
theorem dX0_join_103 : decode cX0_join 103 = .ok (.isub, 1) := by decide +kernel
theorem dX0_join_104 : decode cX0_join 104 = .ok (.invokestatic 66, 3) := by decide +kernel
theorem dX0_join_107 : decode cX0_join 107 = .ok (.invokevirtual 102, 3) := by decide +kernel
theorem dX0_join_110 : decode cX0_join 110 = .ok (.aload_n 0, 1) := by decide +kernel
theorem dX0_join_111 : decode cX0_join 111 = .ok (.getfield 25, 3) := by decide +kernel
theorem dX0_join_114 : decode cX0_join 114 = .ok (.iload 6, 2) := by decide +kernel
theorem dX0_join_116 : decode cX0_join 116 = .ok (.iaload, 1) := by decide +kernel
theorem dX0_join_117 : decode cX0_join 117 = .ok (.iconst 1, 1) := by decide +kernel
theorem dX0_join_118 : decode cX0_join 118 = .ok (.if_icmp .eq 15, 3) := by decide +kernel
theorem dX0_join_121 : decode cX0_join 121 = .ok (.iinc 4 (-1), 3) := by decide +kernel
theorem dX0_join_124 : decode cX0_join 124 = .ok (.aload_n 0, 1) := by decide +kernel
theorem dX0_join_125 : decode cX0_join 125 = .ok (.getfield 28, 3) := by decide +kernel
theorem dX0_join_128 : decode cX0_join 128 = .ok (.iload 4, 2) := by decide +kernel
theorem dX0_join_130 : decode cX0_join 130 = .ok (.iload 7, 2) := by decide +kernel
theorem dX0_join_132 : decode cX0_join 132 = .ok (.iastore, 1) := by decide +kernel
theorem dX0_join_133 : decode cX0_join 133 = .ok (.aload_n 1, 1) := by decide +kernel
theorem dX0_join_134 : decode cX0_join 134 = .ok (.getfield 53, 3) := by decide +kernel
theorem dX0_join_137 : decode cX0_join 137 = .ok (.iload 5, 2) := by decide +kernel
theorem dX0_join_139 : decode cX0_join 139 = .ok (.iload 7, 2) := by decide +kernel
theorem dX0_join_141 : decode cX0_join 141 = .ok (.iastore, 1) := by decide +kernel
theorem dX0_join_142 : decode cX0_join 142 = .ok (.iinc 6 1, 3) := by decide +kernel
theorem dX0_join_145 : decode cX0_join 145 = .ok (.goto (-118), 3) := by decide +kernel
theorem dX0_join_148 : decode cX0_join 148 = .ok (.aload_n 1, 1) := by decide +kernel
theorem dX0_join_149 : decode cX0_join 149 = .ok (.dup, 1) := by decide +kernel
theorem dX0_join_150 : decode cX0_join 150 = .ok (.getfield 106, 3) := by decide +kernel
theorem dX0_join_153 : decode cX0_join 153 = .ok (.iconst 1, 1) := by decide +kernel
theorem dX0_join_154 : decode cX0_join 154 = .ok (.iadd, 1) := by decide +kernel
theorem dX0_join_155 : decode cX0_join 155 = .ok (.putfield 106, 3) := by decide +kernel
theorem dX0_join_158 : decode cX0_join 158 = .ok (.return_, 1) := by decide +kernel
theorem dX0_isMatch_0 : decode cX0_isMatch 0 = .ok (.aload_n 0, 1) := by decide +kernel
theorem dX0_isMatch_1 : decode cX0_isMatch 1 = .ok (.getfield 35, 3) := by decide +kernel
theorem dX0_isMatch_4 : decode cX0_isMatch 4 = .ok (.getfield 39, 3) := by decide +kernel
theorem dX0_isMatch_7 : decode cX0_isMatch 7 = .ok (.iload_n 2, 1) := by decide +kernel
theorem dX0_isMatch_8 : decode cX0_isMatch 8 = .ok (.iaload, 1) := by decide +kernel
theorem dX0_isMatch_9 : decode cX0_isMatch 9 = .ok (.istore_n 3, 1) := by decide +kernel
theorem dX0_isMatch_10 : decode cX0_isMatch 10 = .ok (.iconst 0, 1) := by decide +kernel
theorem dX0_isMatch_11 : decode cX0_isMatch 11 = .ok (.istore 4, 2) := by decide +kernel
theorem dX0_isMatch_13 : decode cX0_isMatch 13 = .ok (.iload 4, 2) := by decide +kernel
theorem dX0_isMatch_15 : decode cX0_isMatch 15 = .ok (.iload_n 3, 1) := by decide +kernel
theorem dX0_isMatch_16 : decode cX0_isMatch 16 = .ok (.if_icmp .gt 26, 3) := by decide +kernel
theorem dX0_isMatch_19 : decode cX0_isMatch 19 = .ok (.aload_n 0, 1) := by decide +kernel
theorem dX0_isMatch_20 : decode cX0_isMatch 20 = .ok (.getfield 31, 3) := by decide +kernel
theorem dX0_isMatch_23 : decode cX0_isMatch 23 = .ok (.iload 4, 2) := by decide +kernel
theorem dX0_isMatch_25 : decode cX0_isMatch 25 = .ok (.iload 4, 2) := by decide +kernel
theorem dX0_isMatch_27 : decode cX0_isMatch 27 = .ok (.ifCond .ne 7, 3) := by decide +kernel
theorem dX0_isMatch_30 : decode cX0_isMatch 30 = .ok (.iconst 1, 1) := by decide +kernel
theorem dX0_isMatch_31 : decode cX0_isMatch 31 = .ok (.goto 4, 3) := by decide +kernel
theorem dX0_isMatch_34 : decode cX0_isMatch 34 = .ok (.iconst 0, 1) := by decide +kernel
theorem dX0_isMatch_35 : decode cX0_isMatch 35 = .ok (.bastore, 1) := by decide +kernel
theorem dX0_isMatch_36 : decode cX0_isMatch 36 = .ok (.iinc 4 1, 3) := by decide +kernel
theorem dX0_isMatch_39 : decode cX0_isMatch 39 = .ok (.goto (-26), 3) := by decide +kernel
theorem dX0_isMatch_42 : decode cX0_isMatch 42 = .ok (.iconst 0, 1) := by decide +kernel
theorem dX0_isMatch_43 : decode cX0_isMatch 43 = .ok (.istore 4, 2) := by decide +kernel
theorem dX0_isMatch_45 : decode cX0_isMatch 45 = .ok (.iload 4, 2) := by decide +kernel
theorem dX0_isMatch_47 : decode cX0_isMatch 47 = .ok (.aload_n 1, 1) := by decide +kernel
theorem dX0_isMatch_48 : decode cX0_isMatch 48 = .ok (.getfield 44, 3) := by decide +kernel
theorem dX0_isMatch_51 : decode cX0_isMatch 51 = .ok (.if_icmp .ge 122, 3) := by decide +kernel
theorem dX0_isMatch_54 : decode cX0_isMatch 54 = .ok (.aload_n 1, 1) := by decide +kernel
theorem dX0_isMatch_55 : decode cX0_isMatch 55 = .ok (.getfield 53, 3) := by decide +kernel
theorem dX0_isMatch_58 : decode cX0_isMatch 58 = .ok (.iload 4, 2) := by decide +kernel
theorem dX0_isMatch_60 : decode cX0_isMatch 60 = .ok (.iaload, 1) := by decide +kernel
theorem dX0_isMatch_61 : decode cX0_isMatch 61 = .ok (.istore 5, 2) := by decide +kernel
theorem dX0_isMatch_63 : decode cX0_isMatch 63 = .ok (.aload_n 1, 1) := by decide +kernel
theorem dX0_isMatch_64 : decode cX0_isMatch 64 = .ok (.iload 5, 2) := by decide +kernel
theorem dX0_isMatch_66 : decode cX0_isMatch 66 = .ok (.invokevirtual 73, 3) := by decide +kernel
theorem dX0_isMatch_69 : decode cX0_isMatch 69 = .ok (.istore 6, 2) := by decide +kernel
theorem dX0_isMatch_71 : decode cX0_isMatch 71 = .ok (.iload_n 3, 1) := by decide +kernel
theorem dX0_isMatch_72 : decode cX0_isMatch 72 = .ok (.istore 7, 2) := by decide +kernel
theorem dX0_isMatch_74 : decode cX0_isMatch 74 = .ok (.iload 7, 2) := by decide +kernel
theorem dX0_isMatch_76 : decode cX0_isMatch 76 = .ok (.ifCond .le 66, 3) := by decide +kernel
theorem dX0_isMatch_79 : decode cX0_isMatch 79 = .ok (.aload_n 0, 1) := by decide +kernel
theorem dX0_isMatch_80 : decode cX0_isMatch 80 = .ok (.getfield 31, 3) := by decide +kernel
theorem dX0_isMatch_83 : decode cX0_isMatch 83 = .ok (.iload 7, 2) := by decide +kernel
theorem dX0_isMatch_85 : decode cX0_isMatch 85 = .ok (.iload 6, 2) := by decide +kernel
theorem dX0_isMatch_87 : decode cX0_isMatch 87 = .ok (.ifCond .eq 13, 3) := by decide +kernel
theorem dX0_isMatch_90 : decode cX0_isMatch 90 = .ok (.aload_n 0, 1) := by decide +kernel
theorem dX0_isMatch_91 : decode cX0_isMatch 91 = .ok (.getfield 31, 3) := by decide +kernel
theorem dX0_isMatch_94 : decode cX0_isMatch 94 = .ok (.iload 7, 2) := by decide +kernel
theorem dX0_isMatch_96 : decode cX0_isMatch 96 = .ok (.baload, 1) := by decide +kernel
theorem dX0_isMatch_97 : decode cX0_isMatch 97 = .ok (.ifCond .ne 33, 3) := by decide +kernel
theorem dX0_isMatch_100 : decode cX0_isMatch 100 = .ok (.aload_n 0, 1) := by decide +kernel
theorem dX0_isMatch_101 : decode cX0_isMatch 101 = .ok (.getfield 31, 3) := by decide +kernel
theorem dX0_isMatch_104 : decode cX0_isMatch 104 = .ok (.iload 7, 2) := by decide +kernel
theorem dX0_isMatch_106 : decode cX0_isMatch 106 = .ok (.iconst 1, 1) := by decide +kernel
theorem dX0_isMatch_107 : decode cX0_isMatch 107 = .ok (.isub, 1) := by decide +kernel
theorem dX0_isMatch_108 : decode cX0_isMatch 108 = .ok (.baload, 1) := by decide +kernel
theorem dX0_isMatch_109 : decode cX0_isMatch 109 = .ok (.ifCond .eq 25, 3) := by decide +kernel
theorem dX0_isMatch_112 : decode cX0_isMatch 112 = .ok (.aload_n 0, 1) := by decide +kernel
theorem dX0_isMatch_113 : decode cX0_isMatch 113 = .ok (.aload_n 1, 1) := by decide +kernel
theorem dX0_isMatch_114 : decode cX0_isMatch 114 = .ok (.iload 5, 2) := by decide +kernel
theorem dX0_isMatch_116 : decode cX0_isMatch 116 = .ok (.iload_n 2, 1) := by decide +kernel
theorem dX0_isMatch_117 : decode cX0_isMatch 117 = .ok (.iload 7, 2) := by decide +kernel
theorem dX0_isMatch_119 : decode cX0_isMatch 119 = .ok (.iconst 1, 1) := by decide +kernel
theorem dX0_isMatch_120 : decode cX0_isMatch 120 = .ok (.isub, 1) := by decide +kernel
theorem dX0_isMatch_121 : decode cX0_isMatch 121 = .ok (.invokestatic 66, 3) := by decide +kernel
theorem dX0_isMatch_124 : decode cX0_isMatch 124 = .ok (.invokevirtual 109, 3) := by decide +kernel
theorem dX0_isMatch_127 : decode cX0_isMatch 127 = .ok (.ifCond .eq 7, 3) := by decide +kernel
theorem dX0_isMatch_130 : decode cX0_isMatch 130 = .ok (.iconst 1, 1) := by decide +kernel
theorem dX0_isMatch_131 : decode cX0_isMatch 131 = .ok (.goto 4, 3) := by decide +kernel
theorem dX0_isMatch_134 : decode cX0_isMatch 134 = .ok (.iconst 0, 1) := by decide +kernel
theorem dX0_isMatch_135 : decode cX0_isMatch 135 = .ok (.bastore, 1) := by decide +kernel
theorem dX0_isMatch_136 : decode cX0_isMatch 136 = .ok (.iinc 7 (-1), 3) := by decide +kernel
theorem dX0_isMatch_139 : decode cX0_isMatch 139 = .ok (.goto (-65), 3) := by decide +kernel
theorem dX0_isMatch_142 : decode cX0_isMatch 142 = .ok (.aload_n 0, 1) := by decide +kernel
theorem dX0_isMatch_143 : decode cX0_isMatch 143 = .ok (.getfield 31, 3) := by decide +kernel
theorem dX0_isMatch_146 : decode cX0_isMatch 146 = .ok (.iconst 0, 1) := by decide +kernel
theorem dX0_isMatch_147 : decode cX0_isMatch 147 = .ok (.iload 6, 2) := by decide +kernel
theorem dX0_isMatch_149 : decode cX0_isMatch 149 = .ok (.ifCond .eq 16, 3) := by decide +kernel
theorem dX0_isMatch_152 : decode cX0_isMatch 152 = .ok (.aload_n 0, 1) := by decide +kernel
theorem dX0_isMatch_153 : decode cX0_isMatch 153 = .ok (.getfield 31, 3) := by decide +kernel
theorem dX0_isMatch_156 : decode cX0_isMatch 156 = .ok (.iconst 0, 1) := by decide +kernel
theorem dX0_isMatch_157 : decode cX0_isMatch 157 = .ok (.baload, 1) := by decide +kernel
theorem dX0_isMatch_158 : decode cX0_isMatch 158 = .ok (.ifCond .eq 7, 3) := by decide +kernel
theorem dX0_isMatch_161 : decode cX0_isMatch 161 = .ok (.iconst 1, 1) := by decide +kernel
theorem dX0_isMatch_162 : decode cX0_isMatch 162 = .ok (.goto 4, 3) := by decide +kernel
theorem dX0_isMatch_165 : decode cX0_isMatch 165 = .ok (.iconst 0, 1) := by decide +kernel
theorem dX0_isMatch_166 : decode cX0_isMatch 166 = .ok (.bastore, 1) := by decide +kernel
theorem dX0_isMatch_167 : decode cX0_isMatch 167 = .ok (.iinc 4 1, 3) := by decide +kernel
theorem dX0_isMatch_170 : decode cX0_isMatch 170 = .ok (.goto (-125), 3) := by decide +kernel
theorem dX0_isMatch_173 : decode cX0_isMatch 173 = .ok (.aload_n 0, 1) := by decide +kernel
theorem dX0_isMatch_174 : decode cX0_isMatch 174 = .ok (.getfield 31, 3) := by decide +kernel
theorem dX0_isMatch_177 : decode cX0_isMatch 177 = .ok (.iload_n 3, 1) := by decide +kernel
theorem dX0_isMatch_178 : decode cX0_isMatch 178 = .ok (.baload, 1) := by decide +kernel
theorem dX0_isMatch_179 : decode cX0_isMatch 179 = .ok (.ireturn, 1) := by decide +kernel
theorem dX0_canTake_0 : decode cX0_canTake 0 = .ok (.aload_n 1, 1) := by decide +kernel
theorem dX0_canTake_1 : decode cX0_canTake 1 = .ok (.getfield 81, 3) := by decide +kernel
theorem dX0_canTake_4 : decode cX0_canTake 4 = .ok (.iload_n 2, 1) := by decide +kernel
theorem dX0_canTake_5 : decode cX0_canTake 5 = .ok (.iaload, 1) := by decide +kernel
theorem dX0_canTake_6 : decode cX0_canTake 6 = .ok (.iconst (-1), 1) := by decide +kernel
theorem dX0_canTake_7 : decode cX0_canTake 7 = .ok (.if_icmp .eq 27, 3) := by decide +kernel
theorem dX0_canTake_10 : decode cX0_canTake 10 = .ok (.aload_n 1, 1) := by decide +kernel
theorem dX0_canTake_11 : decode cX0_canTake 11 = .ok (.getfield 81, 3) := by decide +kernel
theorem dX0_canTake_14 : decode cX0_canTake 14 = .ok (.iload_n 2, 1) := by decide +kernel
theorem dX0_canTake_15 : decode cX0_canTake 15 = .ok (.iaload, 1) := by decide +kernel
theorem dX0_canTake_16 : decode cX0_canTake 16 = .ok (.aload_n 0, 1) := by decide +kernel
theorem dX0_canTake_17 : decode cX0_canTake 17 = .ok (.getfield 35, 3) := by decide +kernel
theorem dX0_canTake_20 : decode cX0_canTake 20 = .ok (.getfield 84, 3) := by decide +kernel
theorem dX0_canTake_23 : decode cX0_canTake 23 = .ok (.iload_n 3, 1) := by decide +kernel
theorem dX0_canTake_24 : decode cX0_canTake 24 = .ok (.iaload, 1) := by decide +kernel
theorem dX0_canTake_25 : decode cX0_canTake 25 = .ok (.if_icmp .ne 7, 3) := by decide +kernel
theorem dX0_canTake_28 : decode cX0_canTake 28 = .ok (.iconst 1, 1) := by decide +kernel
theorem dX0_canTake_29 : decode cX0_canTake 29 = .ok (.goto 4, 3) := by decide +kernel
theorem dX0_canTake_32 : decode cX0_canTake 32 = .ok (.iconst 0, 1) := by decide +kernel
theorem dX0_canTake_33 : decode cX0_canTake 33 = .ok (.ireturn, 1) := by decide +kernel
theorem dX0_canTake_34 : decode cX0_canTake 34 = .ok (.aload_n 0, 1) := by decide +kernel
theorem dX0_canTake_35 : decode cX0_canTake 35 = .ok (.getfield 35, 3) := by decide +kernel
theorem dX0_canTake_38 : decode cX0_canTake 38 = .ok (.getfield 113, 3) := by decide +kernel
theorem dX0_canTake_41 : decode cX0_canTake 41 = .ok (.iload_n 3, 1) := by decide +kernel
theorem dX0_canTake_42 : decode cX0_canTake 42 = .ok (.iaload, 1) := by decide +kernel
theorem dX0_canTake_43 : decode cX0_canTake 43 = .ok (.istore 4, 2) := by decide +kernel
theorem dX0_canTake_45 : decode cX0_canTake 45 = .ok (.aload_n 1, 1) := by decide +kernel
theorem dX0_canTake_46 : decode cX0_canTake 46 = .ok (.getfield 77, 3) := by decide +kernel
theorem dX0_canTake_49 : decode cX0_canTake 49 = .ok (.iload_n 2, 1) := by decide +kernel
theorem dX0_canTake_50 : decode cX0_canTake 50 = .ok (.iaload, 1) := by decide +kernel
theorem dX0_canTake_51 : decode cX0_canTake 51 = .ok (.aload_n 0, 1) := by decide +kernel
theorem dX0_canTake_52 : decode cX0_canTake 52 = .ok (.getfield 35, 3) := by decide +kernel
theorem dX0_canTake_55 : decode cX0_canTake 55 = .ok (.getfield 80, 3) := by decide +kernel
theorem dX0_canTake_58 : decode cX0_canTake 58 = .ok (.iload_n 3, 1) := by decide +kernel
theorem dX0_canTake_59 : decode cX0_canTake 59 = .ok (.iaload, 1) := by decide +kernel
theorem dX0_canTake_60 : decode cX0_canTake 60 = .ok (.if_icmp .ne 29, 3) := by decide +kernel
theorem dX0_canTake_63 : decode cX0_canTake 63 = .ok (.aload_n 1, 1) := by decide +kernel
theorem dX0_canTake_64 : decode cX0_canTake 64 = .ok (.getfield 116, 3) := by decide +kernel
theorem dX0_canTake_67 : decode cX0_canTake 67 = .ok (.iload_n 2, 1) := by decide +kernel
theorem dX0_canTake_68 : decode cX0_canTake 68 = .ok (.iaload, 1) := by decide +kernel
theorem dX0_canTake_69 : decode cX0_canTake 69 = .ok (.iload 4, 2) := by decide +kernel
theorem dX0_canTake_71 : decode cX0_canTake 71 = .ok (.if_icmp .gt 18, 3) := by decide +kernel
theorem dX0_canTake_74 : decode cX0_canTake 74 = .ok (.aload_n 1, 1) := by decide +kernel
theorem dX0_canTake_75 : decode cX0_canTake 75 = .ok (.getfield 119, 3) := by decide +kernel
theorem dX0_canTake_78 : decode cX0_canTake 78 = .ok (.iload_n 2, 1) := by decide +kernel
theorem dX0_canTake_79 : decode cX0_canTake 79 = .ok (.iaload, 1) := by decide +kernel
theorem dX0_canTake_80 : decode cX0_canTake 80 = .ok (.iload 4, 2) := by decide +kernel
theorem dX0_canTake_82 : decode cX0_canTake 82 = .ok (.if_icmp .lt 7, 3) := by decide +kernel
theorem dX0_canTake_85 : decode cX0_canTake 85 = .ok (.iconst 1, 1) := by decide +kernel
theorem dX0_canTake_86 : decode cX0_canTake 86 = .ok (.goto 4, 3) := by decide +kernel
theorem dX0_canTake_89 : decode cX0_canTake 89 = .ok (.iconst 0, 1) := by decide +kernel
theorem dX0_canTake_90 : decode cX0_canTake 90 = .ok (.ireturn, 1) := by decide +kernel
theorem dX1_init_0 : decode cX1_init 0 = .ok (.aload_n 0, 1) := by decide +kernel
theorem dX1_init_1 : decode cX1_init 1 = .ok (.invokespecial 3, 3) := by decide +kernel
theorem dX1_init_4 : decode cX1_init 4 = .ok (.aload_n 0, 1) := by decide +kernel
theorem dX1_init_5 : decode cX1_init 5 = .ok (.bipush 40, 2) := by decide +kernel
theorem dX1_init_7 : decode cX1_init 7 = .ok (.newarray .int, 2) := by decide +kernel
theorem dX1_init_9 : decode cX1_init 9 = .ok (.putfield 9, 3) := by decide +kernel
theorem dX1_init_12 : decode cX1_init 12 = .ok (.aload_n 0, 1) := by decide +kernel
theorem dX1_init_13 : decode cX1_init 13 = .ok (.bipush 40, 2) := by decide +kernel
theorem dX1_init_15 : decode cX1_init 15 = .ok (.newarray .int, 2) := by decide +kernel
theorem dX1_init_17 : decode cX1_init 17 = .ok (.putfield 15, 3) := by decide +kernel
theorem dX1_init_20 : decode cX1_init 20 = .ok (.aload_n 0, 1) := by decide +kernel
theorem dX1_init_21 : decode cX1_init 21 = .ok (.bipush 40, 2) := by decide +kernel
theorem dX1_init_23 : decode cX1_init 23 = .ok (.newarray .int, 2) := by decide +kernel
theorem dX1_init_25 : decode cX1_init 25 = .ok (.putfield 18, 3) := by decide +kernel
theorem dX1_init_28 : decode cX1_init 28 = .ok (.aload_n 0, 1) := by decide +kernel
theorem dX1_init_29 : decode cX1_init 29 = .ok (.bipush 40, 2) := by decide +kernel
theorem dX1_init_31 : decode cX1_init 31 = .ok (.newarray .int, 2) := by decide +kernel
theorem dX1_init_33 : decode cX1_init 33 = .ok (.putfield 21, 3) := by decide +kernel
theorem dX1_init_36 : decode cX1_init 36 = .ok (.aload_n 0, 1) := by decide +kernel
theorem dX1_init_37 : decode cX1_init 37 = .ok (.bipush 40, 2) := by decide +kernel
theorem dX1_init_39 : decode cX1_init 39 = .ok (.newarray .int, 2) := by decide +kernel
theorem dX1_init_41 : decode cX1_init 41 = .ok (.putfield 24, 3) := by decide +kernel
theorem dX1_init_44 : decode cX1_init 44 = .ok (.aload_n 0, 1) := by decide +kernel
theorem dX1_init_45 : decode cX1_init 45 = .ok (.bipush 40, 2) := by decide +kernel
theorem dX1_init_47 : decode cX1_init 47 = .ok (.newarray .int, 2) := by decide +kernel
theorem dX1_init_49 : decode cX1_init 49 = .ok (.putfield 27, 3) := by decide +kernel
theorem dX1_init_52 : decode cX1_init 52 = .ok (.return_, 1) := by decide +kernel
theorem dX1_makeEmpty_0 : decode cX1_makeEmpty 0 = .ok (.aload_n 0, 1) := by decide +kernel
theorem dX1_makeEmpty_1 : decode cX1_makeEmpty 1 = .ok (.iconst 0, 1) := by decide +kernel
theorem dX1_makeEmpty_2 : decode cX1_makeEmpty 2 = .ok (.putfield 30, 3) := by decide +kernel
theorem dX1_makeEmpty_5 : decode cX1_makeEmpty 5 = .ok (.aload_n 0, 1) := by decide +kernel
theorem dX1_makeEmpty_6 : decode cX1_makeEmpty 6 = .ok (.iconst 0, 1) := by decide +kernel
theorem dX1_makeEmpty_7 : decode cX1_makeEmpty 7 = .ok (.putfield 34, 3) := by decide +kernel
theorem dX1_makeEmpty_10 : decode cX1_makeEmpty 10 = .ok (.return_, 1) := by decide +kernel
theorem dX1_canMiss_0 : decode cX1_canMiss 0 = .ok (.aload_n 0, 1) := by decide +kernel
theorem dX1_canMiss_1 : decode cX1_canMiss 1 = .ok (.getfield 27, 3) := by decide +kernel
theorem dX1_canMiss_4 : decode cX1_canMiss 4 = .ok (.iload_n 1, 1) := by decide +kernel
theorem dX1_canMiss_5 : decode cX1_canMiss 5 = .ok (.iaload, 1) := by decide +kernel
theorem dX1_canMiss_6 : decode cX1_canMiss 6 = .ok (.aload_n 0, 1) := by decide +kernel
theorem dX1_canMiss_7 : decode cX1_canMiss 7 = .ok (.getfield 34, 3) := by decide +kernel
theorem dX1_canMiss_10 : decode cX1_canMiss 10 = .ok (.if_icmp .ge 7, 3) := by decide +kernel
theorem dX1_canMiss_13 : decode cX1_canMiss 13 = .ok (.iconst 1, 1) := by decide +kernel
theorem dX1_canMiss_14 : decode cX1_canMiss 14 = .ok (.goto 4, 3) := by decide +kernel
theorem dX1_canMiss_17 : decode cX1_canMiss 17 = .ok (.iconst 0, 1) := by decide +kernel
theorem dX1_canMiss_18 : decode cX1_canMiss 18 = .ok (.ireturn, 1) := by decide +kernel
theorem dX1_addSlot_0 : decode cX1_addSlot 0 = .ok (.aload_n 0, 1) := by decide +kernel
theorem dX1_addSlot_1 : decode cX1_addSlot 1 = .ok (.getfield 30, 3) := by decide +kernel
theorem dX1_addSlot_4 : decode cX1_addSlot 4 = .ok (.istore_n 3, 1) := by decide +kernel
theorem dX1_addSlot_5 : decode cX1_addSlot 5 = .ok (.aload_n 0, 1) := by decide +kernel
theorem dX1_addSlot_6 : decode cX1_addSlot 6 = .ok (.dup, 1) := by decide +kernel
theorem dX1_addSlot_7 : decode cX1_addSlot 7 = .ok (.getfield 30, 3) := by decide +kernel
theorem dX1_addSlot_10 : decode cX1_addSlot 10 = .ok (.iconst 1, 1) := by decide +kernel
theorem dX1_addSlot_11 : decode cX1_addSlot 11 = .ok (.iadd, 1) := by decide +kernel
theorem dX1_addSlot_12 : decode cX1_addSlot 12 = .ok (.putfield 30, 3) := by decide +kernel
theorem dX1_addSlot_15 : decode cX1_addSlot 15 = .ok (.aload_n 0, 1) := by decide +kernel
theorem dX1_addSlot_16 : decode cX1_addSlot 16 = .ok (.getfield 15, 3) := by decide +kernel
theorem dX1_addSlot_19 : decode cX1_addSlot 19 = .ok (.iload_n 3, 1) := by decide +kernel
theorem dX1_addSlot_20 : decode cX1_addSlot 20 = .ok (.aload_n 1, 1) := by decide +kernel
theorem dX1_addSlot_21 : decode cX1_addSlot 21 = .ok (.getfield 37, 3) := by decide +kernel
theorem dX1_addSlot_24 : decode cX1_addSlot 24 = .ok (.iload_n 2, 1) := by decide +kernel
theorem dX1_addSlot_25 : decode cX1_addSlot 25 = .ok (.iaload, 1) := by decide +kernel
theorem dX1_addSlot_26 : decode cX1_addSlot 26 = .ok (.iastore, 1) := by decide +kernel
theorem dX1_addSlot_27 : decode cX1_addSlot 27 = .ok (.aload_n 0, 1) := by decide +kernel
theorem dX1_addSlot_28 : decode cX1_addSlot 28 = .ok (.getfield 18, 3) := by decide +kernel
theorem dX1_addSlot_31 : decode cX1_addSlot 31 = .ok (.iload_n 3, 1) := by decide +kernel
theorem dX1_addSlot_32 : decode cX1_addSlot 32 = .ok (.aload_n 1, 1) := by decide +kernel
theorem dX1_addSlot_33 : decode cX1_addSlot 33 = .ok (.getfield 40, 3) := by decide +kernel
theorem dX1_addSlot_36 : decode cX1_addSlot 36 = .ok (.iload_n 2, 1) := by decide +kernel
theorem dX1_addSlot_37 : decode cX1_addSlot 37 = .ok (.iaload, 1) := by decide +kernel
theorem dX1_addSlot_38 : decode cX1_addSlot 38 = .ok (.iastore, 1) := by decide +kernel
theorem dX1_addSlot_39 : decode cX1_addSlot 39 = .ok (.aload_n 0, 1) := by decide +kernel
theorem dX1_addSlot_40 : decode cX1_addSlot 40 = .ok (.getfield 21, 3) := by decide +kernel
theorem dX1_addSlot_43 : decode cX1_addSlot 43 = .ok (.iload_n 3, 1) := by decide +kernel
theorem dX1_addSlot_44 : decode cX1_addSlot 44 = .ok (.aload_n 1, 1) := by decide +kernel
theorem dX1_addSlot_45 : decode cX1_addSlot 45 = .ok (.getfield 41, 3) := by decide +kernel
theorem dX1_addSlot_48 : decode cX1_addSlot 48 = .ok (.iload_n 2, 1) := by decide +kernel
theorem dX1_addSlot_49 : decode cX1_addSlot 49 = .ok (.iaload, 1) := by decide +kernel
theorem dX1_addSlot_50 : decode cX1_addSlot 50 = .ok (.iastore, 1) := by decide +kernel
theorem dX1_addSlot_51 : decode cX1_addSlot 51 = .ok (.aload_n 0, 1) := by decide +kernel
theorem dX1_addSlot_52 : decode cX1_addSlot 52 = .ok (.getfield 24, 3) := by decide +kernel
theorem dX1_addSlot_55 : decode cX1_addSlot 55 = .ok (.iload_n 3, 1) := by decide +kernel
theorem dX1_addSlot_56 : decode cX1_addSlot 56 = .ok (.aload_n 1, 1) := by decide +kernel
theorem dX1_addSlot_57 : decode cX1_addSlot 57 = .ok (.getfield 41, 3) := by decide +kernel
theorem dX1_addSlot_60 : decode cX1_addSlot 60 = .ok (.iload_n 2, 1) := by decide +kernel
theorem dX1_addSlot_61 : decode cX1_addSlot 61 = .ok (.iaload, 1) := by decide +kernel
theorem dX1_addSlot_62 : decode cX1_addSlot 62 = .ok (.iastore, 1) := by decide +kernel
theorem dX1_addSlot_63 : decode cX1_addSlot 63 = .ok (.aload_n 0, 1) := by decide +kernel
theorem dX1_addSlot_64 : decode cX1_addSlot 64 = .ok (.getfield 27, 3) := by decide +kernel
theorem dX1_addSlot_67 : decode cX1_addSlot 67 = .ok (.iload_n 3, 1) := by decide +kernel
theorem dX1_addSlot_68 : decode cX1_addSlot 68 = .ok (.iconst 1, 1) := by decide +kernel
theorem dX1_addSlot_69 : decode cX1_addSlot 69 = .ok (.iastore, 1) := by decide +kernel
theorem dX1_addSlot_70 : decode cX1_addSlot 70 = .ok (.iload_n 3, 1) := by decide +kernel
theorem dX1_addSlot_71 : decode cX1_addSlot 71 = .ok (.ireturn, 1) := by decide +kernel
theorem dX1_useSlot_0 : decode cX1_useSlot 0 = .ok (.aload_n 0, 1) := by decide +kernel
theorem dX1_useSlot_1 : decode cX1_useSlot 1 = .ok (.getfield 18, 3) := by decide +kernel
theorem dX1_useSlot_4 : decode cX1_useSlot 4 = .ok (.iload_n 1, 1) := by decide +kernel
theorem dX1_useSlot_5 : decode cX1_useSlot 5 = .ok (.iaload, 1) := by decide +kernel
theorem dX1_useSlot_6 : decode cX1_useSlot 6 = .ok (.aload_n 2, 1) := by decide +kernel
theorem dX1_useSlot_7 : decode cX1_useSlot 7 = .ok (.getfield 40, 3) := by decide +kernel
theorem dX1_useSlot_10 : decode cX1_useSlot 10 = .ok (.iload_n 3, 1) := by decide +kernel
theorem dX1_useSlot_11 : decode cX1_useSlot 11 = .ok (.iaload, 1) := by decide +kernel
theorem dX1_useSlot_12 : decode cX1_useSlot 12 = .ok (.if_icmp .eq 10, 3) := by decide +kernel
theorem dX1_useSlot_15 : decode cX1_useSlot 15 = .ok (.aload_n 0, 1) := by decide +kernel
theorem dX1_useSlot_16 : decode cX1_useSlot 16 = .ok (.getfield 18, 3) := by decide +kernel
theorem dX1_useSlot_19 : decode cX1_useSlot 19 = .ok (.iload_n 1, 1) := by decide +kernel
theorem dX1_useSlot_20 : decode cX1_useSlot 20 = .ok (.iconst (-1), 1) := by decide +kernel
theorem dX1_useSlot_21 : decode cX1_useSlot 21 = .ok (.iastore, 1) := by decide +kernel
theorem dX1_useSlot_22 : decode cX1_useSlot 22 = .ok (.aload_n 0, 1) := by decide +kernel
theorem dX1_useSlot_23 : decode cX1_useSlot 23 = .ok (.getfield 21, 3) := by decide +kernel
theorem dX1_useSlot_26 : decode cX1_useSlot 26 = .ok (.iload_n 1, 1) := by decide +kernel
theorem dX1_useSlot_27 : decode cX1_useSlot 27 = .ok (.aload_n 0, 1) := by decide +kernel
theorem dX1_useSlot_28 : decode cX1_useSlot 28 = .ok (.getfield 21, 3) := by decide +kernel
theorem dX1_useSlot_31 : decode cX1_useSlot 31 = .ok (.iload_n 1, 1) := by decide +kernel
theorem dX1_useSlot_32 : decode cX1_useSlot 32 = .ok (.iaload, 1) := by decide +kernel
theorem dX1_useSlot_33 : decode cX1_useSlot 33 = .ok (.aload_n 2, 1) := by decide +kernel
theorem dX1_useSlot_34 : decode cX1_useSlot 34 = .ok (.getfield 41, 3) := by decide +kernel
theorem dX1_useSlot_37 : decode cX1_useSlot 37 = .ok (.iload_n 3, 1) := by decide +kernel
theorem dX1_useSlot_38 : decode cX1_useSlot 38 = .ok (.iaload, 1) := by decide +kernel
theorem dX1_useSlot_39 : decode cX1_useSlot 39 = .ok (.invokestatic 44, 3) := by decide +kernel
theorem dX1_useSlot_42 : decode cX1_useSlot 42 = .ok (.iastore, 1) := by decide +kernel
theorem dX1_useSlot_43 : decode cX1_useSlot 43 = .ok (.aload_n 0, 1) := by decide +kernel
theorem dX1_useSlot_44 : decode cX1_useSlot 44 = .ok (.getfield 24, 3) := by decide +kernel
theorem dX1_useSlot_47 : decode cX1_useSlot 47 = .ok (.iload_n 1, 1) := by decide +kernel
theorem dX1_useSlot_48 : decode cX1_useSlot 48 = .ok (.aload_n 0, 1) := by decide +kernel
theorem dX1_useSlot_49 : decode cX1_useSlot 49 = .ok (.getfield 24, 3) := by decide +kernel
theorem dX1_useSlot_52 : decode cX1_useSlot 52 = .ok (.iload_n 1, 1) := by decide +kernel
theorem dX1_useSlot_53 : decode cX1_useSlot 53 = .ok (.iaload, 1) := by decide +kernel
theorem dX1_useSlot_54 : decode cX1_useSlot 54 = .ok (.aload_n 2, 1) := by decide +kernel
theorem dX1_useSlot_55 : decode cX1_useSlot 55 = .ok (.getfield 41, 3) := by decide +kernel
theorem dX1_useSlot_58 : decode cX1_useSlot 58 = .ok (.iload_n 3, 1) := by decide +kernel
theorem dX1_useSlot_59 : decode cX1_useSlot 59 = .ok (.iaload, 1) := by decide +kernel
theorem dX1_useSlot_60 : decode cX1_useSlot 60 = .ok (.invokestatic 50, 3) := by decide +kernel
theorem dX1_useSlot_63 : decode cX1_useSlot 63 = .ok (.iastore, 1) := by decide +kernel
theorem dX1_useSlot_64 : decode cX1_useSlot 64 = .ok (.aload_n 0, 1) := by decide +kernel
theorem dX1_useSlot_65 : decode cX1_useSlot 65 = .ok (.getfield 27, 3) := by decide +kernel
theorem dX1_useSlot_68 : decode cX1_useSlot 68 = .ok (.iload_n 1, 1) := by decide +kernel
theorem dX1_useSlot_69 : decode cX1_useSlot 69 = .ok (.dup2, 1) := by decide +kernel
theorem dX1_useSlot_70 : decode cX1_useSlot 70 = .ok (.iaload, 1) := by decide +kernel
theorem dX1_useSlot_71 : decode cX1_useSlot 71 = .ok (.iconst 1, 1) := by decide +kernel
theorem dX1_useSlot_72 : decode cX1_useSlot 72 = .ok (.iadd, 1) := by decide +kernel
theorem dX1_useSlot_73 : decode cX1_useSlot 73 = .ok (.iastore, 1) := by decide +kernel
theorem dX1_useSlot_74 : decode cX1_useSlot 74 = .ok (.return_, 1) := by decide +kernel
theorem dX2_init_0 : decode cX2_init 0 = .ok (.aload_n 0, 1) := by decide +kernel
theorem dX2_init_1 : decode cX2_init 1 = .ok (.invokespecial 3, 3) := by decide +kernel
theorem dX2_init_4 : decode cX2_init 4 = .ok (.aload_n 0, 1) := by decide +kernel
theorem dX2_init_5 : decode cX2_init 5 = .ok (.bipush 12, 2) := by decide +kernel
theorem dX2_init_7 : decode cX2_init 7 = .ok (.newarray .int, 2) := by decide +kernel
theorem dX2_init_9 : decode cX2_init 9 = .ok (.putfield 9, 3) := by decide +kernel
theorem dX2_init_12 : decode cX2_init 12 = .ok (.aload_n 0, 1) := by decide +kernel
theorem dX2_init_13 : decode cX2_init 13 = .ok (.bipush 12, 2) := by decide +kernel
theorem dX2_init_15 : decode cX2_init 15 = .ok (.newarray .int, 2) := by decide +kernel
theorem dX2_init_17 : decode cX2_init 17 = .ok (.putfield 15, 3) := by decide +kernel
theorem dX2_init_20 : decode cX2_init 20 = .ok (.aload_n 0, 1) := by decide +kernel
theorem dX2_init_21 : decode cX2_init 21 = .ok (.sipush 360, 3) := by decide +kernel
theorem dX2_init_24 : decode cX2_init 24 = .ok (.newarray .byte, 2) := by decide +kernel
theorem dX2_init_26 : decode cX2_init 26 = .ok (.putfield 18, 3) := by decide +kernel
theorem dX2_init_29 : decode cX2_init 29 = .ok (.aload_n 0, 1) := by decide +kernel
theorem dX2_init_30 : decode cX2_init 30 = .ok (.sipush 360, 3) := by decide +kernel
theorem dX2_init_33 : decode cX2_init 33 = .ok (.newarray .int, 2) := by decide +kernel
theorem dX2_init_35 : decode cX2_init 35 = .ok (.putfield 22, 3) := by decide +kernel
theorem dX2_init_38 : decode cX2_init 38 = .ok (.aload_n 0, 1) := by decide +kernel
theorem dX2_init_39 : decode cX2_init 39 = .ok (.sipush 360, 3) := by decide +kernel
theorem dX2_init_42 : decode cX2_init 42 = .ok (.newarray .int, 2) := by decide +kernel
theorem dX2_init_44 : decode cX2_init 44 = .ok (.putfield 25, 3) := by decide +kernel
theorem dX2_init_47 : decode cX2_init 47 = .ok (.aload_n 0, 1) := by decide +kernel
theorem dX2_init_48 : decode cX2_init 48 = .ok (.sipush 360, 3) := by decide +kernel
theorem dX2_init_51 : decode cX2_init 51 = .ok (.newarray .int, 2) := by decide +kernel
theorem dX2_init_53 : decode cX2_init 53 = .ok (.putfield 28, 3) := by decide +kernel
theorem dX2_init_56 : decode cX2_init 56 = .ok (.aload_n 0, 1) := by decide +kernel
theorem dX2_init_57 : decode cX2_init 57 = .ok (.sipush 360, 3) := by decide +kernel
theorem dX2_init_60 : decode cX2_init 60 = .ok (.newarray .int, 2) := by decide +kernel
theorem dX2_init_62 : decode cX2_init 62 = .ok (.putfield 31, 3) := by decide +kernel
theorem dX2_init_65 : decode cX2_init 65 = .ok (.return_, 1) := by decide +kernel
theorem dX2_add_0 : decode cX2_add 0 = .ok (.aload_n 0, 1) := by decide +kernel
theorem dX2_add_1 : decode cX2_add 1 = .ok (.getfield 34, 3) := by decide +kernel
theorem dX2_add_4 : decode cX2_add 4 = .ok (.istore_n 3, 1) := by decide +kernel
theorem dX2_add_5 : decode cX2_add 5 = .ok (.iconst 0, 1) := by decide +kernel
theorem dX2_add_6 : decode cX2_add 6 = .ok (.istore 4, 2) := by decide +kernel
theorem dX2_add_8 : decode cX2_add 8 = .ok (.iload 4, 2) := by decide +kernel
theorem dX2_add_10 : decode cX2_add 10 = .ok (.iload_n 2, 1) := by decide +kernel
theorem dX2_add_11 : decode cX2_add 11 = .ok (.if_icmp .ge 25, 3) := by decide +kernel
theorem dX2_add_14 : decode cX2_add 14 = .ok (.aload_n 0, 1) := by decide +kernel
theorem dX2_add_15 : decode cX2_add 15 = .ok (.getfield 18, 3) := by decide +kernel
theorem dX2_add_18 : decode cX2_add 18 = .ok (.iload_n 3, 1) := by decide +kernel
theorem dX2_add_19 : decode cX2_add 19 = .ok (.invokestatic 38, 3) := by decide +kernel
theorem dX2_add_22 : decode cX2_add 22 = .ok (.iload 4, 2) := by decide +kernel
theorem dX2_add_24 : decode cX2_add 24 = .ok (.iadd, 1) := by decide +kernel
theorem dX2_add_25 : decode cX2_add 25 = .ok (.aload_n 1, 1) := by decide +kernel
theorem dX2_add_26 : decode cX2_add 26 = .ok (.iload 4, 2) := by decide +kernel
theorem dX2_add_28 : decode cX2_add 28 = .ok (.baload, 1) := by decide +kernel
theorem dX2_add_29 : decode cX2_add 29 = .ok (.bastore, 1) := by decide +kernel
theorem dX2_add_30 : decode cX2_add 30 = .ok (.iinc 4 1, 3) := by decide +kernel
theorem dX2_add_33 : decode cX2_add 33 = .ok (.goto (-25), 3) := by decide +kernel
theorem dX2_add_36 : decode cX2_add 36 = .ok (.aload_n 0, 1) := by decide +kernel
theorem dX2_add_37 : decode cX2_add 37 = .ok (.getfield 9, 3) := by decide +kernel
theorem dX2_add_40 : decode cX2_add 40 = .ok (.iload_n 3, 1) := by decide +kernel
theorem dX2_add_41 : decode cX2_add 41 = .ok (.iload_n 2, 1) := by decide +kernel
theorem dX2_add_42 : decode cX2_add 42 = .ok (.iastore, 1) := by decide +kernel
theorem dX2_add_43 : decode cX2_add 43 = .ok (.aload_n 0, 1) := by decide +kernel
theorem dX2_add_44 : decode cX2_add 44 = .ok (.iload_n 3, 1) := by decide +kernel
theorem dX2_add_45 : decode cX2_add 45 = .ok (.invokevirtual 42, 3) := by decide +kernel
theorem dX2_add_48 : decode cX2_add 48 = .ok (.aload_n 0, 1) := by decide +kernel
theorem dX2_add_49 : decode cX2_add 49 = .ok (.iload_n 3, 1) := by decide +kernel
theorem dX2_add_50 : decode cX2_add 50 = .ok (.invokevirtual 46, 3) := by decide +kernel
theorem dX2_add_53 : decode cX2_add 53 = .ok (.aload_n 0, 1) := by decide +kernel
theorem dX2_add_54 : decode cX2_add 54 = .ok (.dup, 1) := by decide +kernel
theorem dX2_add_55 : decode cX2_add 55 = .ok (.getfield 34, 3) := by decide +kernel
theorem dX2_add_58 : decode cX2_add 58 = .ok (.iconst 1, 1) := by decide +kernel
theorem dX2_add_59 : decode cX2_add 59 = .ok (.iadd, 1) := by decide +kernel
theorem dX2_add_60 : decode cX2_add 60 = .ok (.putfield 34, 3) := by decide +kernel
theorem dX2_add_63 : decode cX2_add 63 = .ok (.iload_n 3, 1) := by decide +kernel
theorem dX2_add_64 : decode cX2_add 64 = .ok (.ireturn, 1) := by decide +kernel
theorem dX2_cut_0 : decode cX2_cut 0 = .ok (.iload_n 1, 1) := by decide +kernel
theorem dX2_cut_1 : decode cX2_cut 1 = .ok (.invokestatic 38, 3) := by decide +kernel
theorem dX2_cut_4 : decode cX2_cut 4 = .ok (.istore_n 2, 1) := by decide +kernel
theorem dX2_cut_5 : decode cX2_cut 5 = .ok (.iconst 0, 1) := by decide +kernel
theorem dX2_cut_6 : decode cX2_cut 6 = .ok (.istore_n 3, 1) := by decide +kernel
theorem dX2_cut_7 : decode cX2_cut 7 = .ok (.iload_n 2, 1) := by decide +kernel
theorem dX2_cut_8 : decode cX2_cut 8 = .ok (.istore 4, 2) := by decide +kernel
theorem dX2_cut_10 : decode cX2_cut 10 = .ok (.iconst (-1), 1) := by decide +kernel
theorem dX2_cut_11 : decode cX2_cut 11 = .ok (.istore 5, 2) := by decide +kernel
theorem dX2_cut_13 : decode cX2_cut 13 = .ok (.iconst 0, 1) := by decide +kernel
theorem dX2_cut_14 : decode cX2_cut 14 = .ok (.istore 6, 2) := by decide +kernel
theorem dX2_cut_16 : decode cX2_cut 16 = .ok (.iload 6, 2) := by decide +kernel
theorem dX2_cut_18 : decode cX2_cut 18 = .ok (.aload_n 0, 1) := by decide +kernel
theorem dX2_cut_19 : decode cX2_cut 19 = .ok (.getfield 9, 3) := by decide +kernel
theorem dX2_cut_22 : decode cX2_cut 22 = .ok (.iload_n 1, 1) := by decide +kernel
theorem dX2_cut_23 : decode cX2_cut 23 = .ok (.iaload, 1) := by decide +kernel
theorem dX2_cut_24 : decode cX2_cut 24 = .ok (.if_icmp .ge 89, 3) := by decide +kernel
theorem dX2_cut_27 : decode cX2_cut 27 = .ok (.aload_n 0, 1) := by decide +kernel
theorem dX2_cut_28 : decode cX2_cut 28 = .ok (.getfield 18, 3) := by decide +kernel
theorem dX2_cut_31 : decode cX2_cut 31 = .ok (.iload_n 2, 1) := by decide +kernel
theorem dX2_cut_32 : decode cX2_cut 32 = .ok (.iload 6, 2) := by decide +kernel
theorem dX2_cut_34 : decode cX2_cut 34 = .ok (.iadd, 1) := by decide +kernel
theorem dX2_cut_35 : decode cX2_cut 35 = .ok (.baload, 1) := by decide +kernel
theorem dX2_cut_36 : decode cX2_cut 36 = .ok (.invokestatic 49, 3) := by decide +kernel
theorem dX2_cut_39 : decode cX2_cut 39 = .ok (.istore 7, 2) := by decide +kernel
theorem dX2_cut_41 : decode cX2_cut 41 = .ok (.iload 7, 2) := by decide +kernel
theorem dX2_cut_43 : decode cX2_cut 43 = .ok (.iload 5, 2) := by decide +kernel
theorem dX2_cut_45 : decode cX2_cut 45 = .ok (.if_icmp .ne 9, 3) := by decide +kernel
theorem dX2_cut_48 : decode cX2_cut 48 = .ok (.iload 7, 2) := by decide +kernel
theorem dX2_cut_50 : decode cX2_cut 50 = .ok (.iconst 3, 1) := by decide +kernel
theorem dX2_cut_51 : decode cX2_cut 51 = .ok (.if_icmp .ne 41, 3) := by decide +kernel
theorem dX2_cut_54 : decode cX2_cut 54 = .ok (.iload_n 1, 1) := by decide +kernel
theorem dX2_cut_55 : decode cX2_cut 55 = .ok (.iload_n 3, 1) := by decide +kernel
theorem dX2_cut_56 : decode cX2_cut 56 = .ok (.invokestatic 52, 3) := by decide +kernel
theorem dX2_cut_59 : decode cX2_cut 59 = .ok (.istore 4, 2) := by decide +kernel
theorem dX2_cut_61 : decode cX2_cut 61 = .ok (.aload_n 0, 1) := by decide +kernel
theorem dX2_cut_62 : decode cX2_cut 62 = .ok (.getfield 22, 3) := by decide +kernel
theorem dX2_cut_65 : decode cX2_cut 65 = .ok (.iload 4, 2) := by decide +kernel
theorem dX2_cut_67 : decode cX2_cut 67 = .ok (.iload 7, 2) := by decide +kernel
theorem dX2_cut_69 : decode cX2_cut 69 = .ok (.iastore, 1) := by decide +kernel
theorem dX2_cut_70 : decode cX2_cut 70 = .ok (.aload_n 0, 1) := by decide +kernel
theorem dX2_cut_71 : decode cX2_cut 71 = .ok (.getfield 25, 3) := by decide +kernel
theorem dX2_cut_74 : decode cX2_cut 74 = .ok (.iload 4, 2) := by decide +kernel
theorem dX2_cut_76 : decode cX2_cut 76 = .ok (.iload_n 2, 1) := by decide +kernel
theorem dX2_cut_77 : decode cX2_cut 77 = .ok (.iload 6, 2) := by decide +kernel
theorem dX2_cut_79 : decode cX2_cut 79 = .ok (.iadd, 1) := by decide +kernel
theorem dX2_cut_80 : decode cX2_cut 80 = .ok (.iastore, 1) := by decide +kernel
theorem dX2_cut_81 : decode cX2_cut 81 = .ok (.aload_n 0, 1) := by decide +kernel
theorem dX2_cut_82 : decode cX2_cut 82 = .ok (.getfield 28, 3) := by decide +kernel
theorem dX2_cut_85 : decode cX2_cut 85 = .ok (.iload 4, 2) := by decide +kernel
theorem dX2_cut_87 : decode cX2_cut 87 = .ok (.iconst 0, 1) := by decide +kernel
theorem dX2_cut_88 : decode cX2_cut 88 = .ok (.iastore, 1) := by decide +kernel
theorem dX2_cut_89 : decode cX2_cut 89 = .ok (.iinc 3 1, 3) := by decide +kernel
theorem dX2_cut_92 : decode cX2_cut 92 = .ok (.aload_n 0, 1) := by decide +kernel
theorem dX2_cut_93 : decode cX2_cut 93 = .ok (.getfield 28, 3) := by decide +kernel
theorem dX2_cut_96 : decode cX2_cut 96 = .ok (.iload 4, 2) := by decide +kernel
theorem dX2_cut_98 : decode cX2_cut 98 = .ok (.dup2, 1) := by decide +kernel
theorem dX2_cut_99 : decode cX2_cut 99 = .ok (.iaload, 1) := by decide +kernel
theorem dX2_cut_100 : decode cX2_cut 100 = .ok (.iconst 1, 1) := by decide +kernel
theorem dX2_cut_101 : decode cX2_cut 101 = .ok (.iadd, 1) := by decide +kernel
theorem dX2_cut_102 : decode cX2_cut 102 = .ok (.iastore, 1) := by decide +kernel
theorem dX2_cut_103 : decode cX2_cut 103 = .ok (.iload 7, 2) := by decide +kernel
theorem dX2_cut_105 : decode cX2_cut 105 = .ok (.istore 5, 2) := by decide +kernel
theorem dX2_cut_107 : decode cX2_cut 107 = .ok (.iinc 6 1, 3) := by decide +kernel
theorem dX2_cut_110 : decode cX2_cut 110 = .ok (.goto (-94), 3) := by decide +kernel
theorem dX2_cut_113 : decode cX2_cut 113 = .ok (.aload_n 0, 1) := by decide +kernel
theorem dX2_cut_114 : decode cX2_cut 114 = .ok (.getfield 15, 3) := by decide +kernel
theorem dX2_cut_117 : decode cX2_cut 117 = .ok (.iload_n 1, 1) := by decide +kernel
theorem dX2_cut_118 : decode cX2_cut 118 = .ok (.iload_n 3, 1) := by decide +kernel
theorem dX2_cut_119 : decode cX2_cut 119 = .ok (.iastore, 1) := by decide +kernel
theorem dX2_cut_120 : decode cX2_cut 120 = .ok (.return_, 1) := by decide +kernel
theorem dX2_kindOf_0 : decode cX2_kindOf 0 = .ok (.iload_n 0, 1) := by decide +kernel
theorem dX2_kindOf_1 : decode cX2_kindOf 1 = .ok (.bipush 65, 2) := by decide +kernel
theorem dX2_kindOf_3 : decode cX2_kindOf 3 = .ok (.if_icmp .lt 9, 3) := by decide +kernel
theorem dX2_kindOf_6 : decode cX2_kindOf 6 = .ok (.iload_n 0, 1) := by decide +kernel
theorem dX2_kindOf_7 : decode cX2_kindOf 7 = .ok (.bipush 90, 2) := by decide +kernel
theorem dX2_kindOf_9 : decode cX2_kindOf 9 = .ok (.if_icmp .le 15, 3) := by decide +kernel
theorem dX2_kindOf_12 : decode cX2_kindOf 12 = .ok (.iload_n 0, 1) := by decide +kernel
theorem dX2_kindOf_13 : decode cX2_kindOf 13 = .ok (.bipush 97, 2) := by decide +kernel
theorem dX2_kindOf_15 : decode cX2_kindOf 15 = .ok (.if_icmp .lt 11, 3) := by decide +kernel
theorem dX2_kindOf_18 : decode cX2_kindOf 18 = .ok (.iload_n 0, 1) := by decide +kernel
theorem dX2_kindOf_19 : decode cX2_kindOf 19 = .ok (.bipush 122, 2) := by decide +kernel
theorem dX2_kindOf_21 : decode cX2_kindOf 21 = .ok (.if_icmp .gt 5, 3) := by decide +kernel
theorem dX2_kindOf_24 : decode cX2_kindOf 24 = .ok (.iconst 0, 1) := by decide +kernel
theorem dX2_kindOf_25 : decode cX2_kindOf 25 = .ok (.ireturn, 1) := by decide +kernel
theorem dX2_kindOf_26 : decode cX2_kindOf 26 = .ok (.iload_n 0, 1) := by decide +kernel
theorem dX2_kindOf_27 : decode cX2_kindOf 27 = .ok (.bipush 48, 2) := by decide +kernel
theorem dX2_kindOf_29 : decode cX2_kindOf 29 = .ok (.if_icmp .lt 11, 3) := by decide +kernel
theorem dX2_kindOf_32 : decode cX2_kindOf 32 = .ok (.iload_n 0, 1) := by decide +kernel
theorem dX2_kindOf_33 : decode cX2_kindOf 33 = .ok (.bipush 57, 2) := by decide +kernel
theorem dX2_kindOf_35 : decode cX2_kindOf 35 = .ok (.if_icmp .gt 5, 3) := by decide +kernel
theorem dX2_kindOf_38 : decode cX2_kindOf 38 = .ok (.iconst 1, 1) := by decide +kernel
theorem dX2_kindOf_39 : decode cX2_kindOf 39 = .ok (.ireturn, 1) := by decide +kernel
theorem dX2_kindOf_40 : decode cX2_kindOf 40 = .ok (.iload_n 0, 1) := by decide +kernel
theorem dX2_kindOf_41 : decode cX2_kindOf 41 = .ok (.bipush 32, 2) := by decide +kernel
theorem dX2_kindOf_43 : decode cX2_kindOf 43 = .ok (.if_icmp .ne 7, 3) := by decide +kernel
theorem dX2_kindOf_46 : decode cX2_kindOf 46 = .ok (.iconst 2, 1) := by decide +kernel
theorem dX2_kindOf_47 : decode cX2_kindOf 47 = .ok (.goto 4, 3) := by decide +kernel
theorem dX2_kindOf_50 : decode cX2_kindOf 50 = .ok (.iconst 3, 1) := by decide +kernel
theorem dX2_kindOf_51 : decode cX2_kindOf 51 = .ok (.ireturn, 1) := by decide +kernel
theorem dX2_numberTexts_0 : decode cX2_numberTexts 0 = .ok (.iconst 0, 1) := by decide +kernel
theorem dX2_numberTexts_1 : decode cX2_numberTexts 1 = .ok (.istore_n 2, 1) := by decide +kernel
theorem dX2_numberTexts_2 : decode cX2_numberTexts 2 = .ok (.iload_n 2, 1) := by decide +kernel
theorem dX2_numberTexts_3 : decode cX2_numberTexts 3 = .ok (.aload_n 0, 1) := by decide +kernel
theorem dX2_numberTexts_4 : decode cX2_numberTexts 4 = .ok (.getfield 15, 3) := by decide +kernel
theorem dX2_numberTexts_7 : decode cX2_numberTexts 7 = .ok (.iload_n 1, 1) := by decide +kernel
theorem dX2_numberTexts_8 : decode cX2_numberTexts 8 = .ok (.iaload, 1) := by decide +kernel
theorem dX2_numberTexts_9 : decode cX2_numberTexts 9 = .ok (.if_icmp .ge 27, 3) := by decide +kernel
theorem dX2_numberTexts_12 : decode cX2_numberTexts 12 = .ok (.iload_n 1, 1) := by decide +kernel
theorem dX2_numberTexts_13 : decode cX2_numberTexts 13 = .ok (.iload_n 2, 1) := by decide +kernel
theorem dX2_numberTexts_14 : decode cX2_numberTexts 14 = .ok (.invokestatic 52, 3) := by decide +kernel
theorem dX2_numberTexts_17 : decode cX2_numberTexts 17 = .ok (.istore_n 3, 1) := by decide +kernel
theorem dX2_numberTexts_18 : decode cX2_numberTexts 18 = .ok (.aload_n 0, 1) := by decide +kernel
theorem dX2_numberTexts_19 : decode cX2_numberTexts 19 = .ok (.getfield 31, 3) := by decide +kernel
theorem dX2_numberTexts_22 : decode cX2_numberTexts 22 = .ok (.iload_n 3, 1) := by decide +kernel
theorem dX2_numberTexts_23 : decode cX2_numberTexts 23 = .ok (.aload_n 0, 1) := by decide +kernel
theorem dX2_numberTexts_24 : decode cX2_numberTexts 24 = .ok (.iload_n 1, 1) := by decide +kernel
theorem dX2_numberTexts_25 : decode cX2_numberTexts 25 = .ok (.iload_n 3, 1) := by decide +kernel
theorem dX2_numberTexts_26 : decode cX2_numberTexts 26 = .ok (.invokevirtual 56, 3) := by decide +kernel
theorem dX2_numberTexts_29 : decode cX2_numberTexts 29 = .ok (.iastore, 1) := by decide +kernel
theorem dX2_numberTexts_30 : decode cX2_numberTexts 30 = .ok (.iinc 2 1, 3) := by decide +kernel
theorem dX2_numberTexts_33 : decode cX2_numberTexts 33 = .ok (.goto (-31), 3) := by decide +kernel
theorem dX2_numberTexts_36 : decode cX2_numberTexts 36 = .ok (.return_, 1) := by decide +kernel
theorem dX2_firstAlike_0 : decode cX2_firstAlike 0 = .ok (.iconst 0, 1) := by decide +kernel
theorem dX2_firstAlike_1 : decode cX2_firstAlike 1 = .ok (.istore_n 3, 1) := by decide +kernel
theorem dX2_firstAlike_2 : decode cX2_firstAlike 2 = .ok (.iload_n 3, 1) := by decide +kernel
theorem dX2_firstAlike_3 : decode cX2_firstAlike 3 = .ok (.iload_n 1, 1) := by decide +kernel
theorem dX2_firstAlike_4 : decode cX2_firstAlike 4 = .ok (.if_icmp .gt 50, 3) := by decide +kernel
theorem dX2_firstAlike_7 : decode cX2_firstAlike 7 = .ok (.iconst 0, 1) := by decide +kernel
theorem dX2_firstAlike_8 : decode cX2_firstAlike 8 = .ok (.istore 4, 2) := by decide +kernel
theorem dX2_firstAlike_10 : decode cX2_firstAlike 10 = .ok (.iload 4, 2) := by decide +kernel
theorem dX2_firstAlike_12 : decode cX2_firstAlike 12 = .ok (.aload_n 0, 1) := by decide +kernel
theorem dX2_firstAlike_13 : decode cX2_firstAlike 13 = .ok (.getfield 15, 3) := by decide +kernel
theorem dX2_firstAlike_16 : decode cX2_firstAlike 16 = .ok (.iload_n 3, 1) := by decide +kernel
theorem dX2_firstAlike_17 : decode cX2_firstAlike 17 = .ok (.iaload, 1) := by decide +kernel
theorem dX2_firstAlike_18 : decode cX2_firstAlike 18 = .ok (.if_icmp .ge 30, 3) := by decide +kernel
theorem dX2_firstAlike_21 : decode cX2_firstAlike 21 = .ok (.aload_n 0, 1) := by decide +kernel
theorem dX2_firstAlike_22 : decode cX2_firstAlike 22 = .ok (.iload_n 3, 1) := by decide +kernel
theorem dX2_firstAlike_23 : decode cX2_firstAlike 23 = .ok (.iload 4, 2) := by decide +kernel
theorem dX2_firstAlike_25 : decode cX2_firstAlike 25 = .ok (.invokestatic 52, 3) := by decide +kernel
theorem dX2_firstAlike_28 : decode cX2_firstAlike 28 = .ok (.iload_n 2, 1) := by decide +kernel
theorem dX2_firstAlike_29 : decode cX2_firstAlike 29 = .ok (.invokevirtual 59, 3) := by decide +kernel
theorem dX2_firstAlike_32 : decode cX2_firstAlike 32 = .ok (.ifCond .eq 10, 3) := by decide +kernel
theorem dX2_firstAlike_35 : decode cX2_firstAlike 35 = .ok (.iload_n 3, 1) := by decide +kernel
theorem dX2_firstAlike_36 : decode cX2_firstAlike 36 = .ok (.iload 4, 2) := by decide +kernel
theorem dX2_firstAlike_38 : decode cX2_firstAlike 38 = .ok (.invokestatic 52, 3) := by decide +kernel
theorem dX2_firstAlike_41 : decode cX2_firstAlike 41 = .ok (.ireturn, 1) := by decide +kernel
theorem dX2_firstAlike_42 : decode cX2_firstAlike 42 = .ok (.iinc 4 1, 3) := by decide +kernel
theorem dX2_firstAlike_45 : decode cX2_firstAlike 45 = .ok (.goto (-35), 3) := by decide +kernel
theorem dX2_firstAlike_48 : decode cX2_firstAlike 48 = .ok (.iinc 3 1, 3) := by decide +kernel
theorem dX2_firstAlike_51 : decode cX2_firstAlike 51 = .ok (.goto (-49), 3) := by decide +kernel
theorem dX2_firstAlike_54 : decode cX2_firstAlike 54 = .ok (.iload_n 2, 1) := by decide +kernel
theorem dX2_firstAlike_55 : decode cX2_firstAlike 55 = .ok (.ireturn, 1) := by decide +kernel
theorem dX2_isSameText_0 : decode cX2_isSameText 0 = .ok (.aload_n 0, 1) := by decide +kernel
theorem dX2_isSameText_1 : decode cX2_isSameText 1 = .ok (.getfield 28, 3) := by decide +kernel
theorem dX2_isSameText_4 : decode cX2_isSameText 4 = .ok (.iload_n 1, 1) := by decide +kernel
theorem dX2_isSameText_5 : decode cX2_isSameText 5 = .ok (.iaload, 1) := by decide +kernel
theorem dX2_isSameText_6 : decode cX2_isSameText 6 = .ok (.aload_n 0, 1) := by decide +kernel
theorem dX2_isSameText_7 : decode cX2_isSameText 7 = .ok (.getfield 28, 3) := by decide +kernel
theorem dX2_isSameText_10 : decode cX2_isSameText 10 = .ok (.iload_n 2, 1) := by decide +kernel
theorem dX2_isSameText_11 : decode cX2_isSameText 11 = .ok (.iaload, 1) := by decide +kernel
theorem dX2_isSameText_12 : decode cX2_isSameText 12 = .ok (.if_icmp .eq 5, 3) := by decide +kernel
theorem dX2_isSameText_15 : decode cX2_isSameText 15 = .ok (.iconst 0, 1) := by decide +kernel
theorem dX2_isSameText_16 : decode cX2_isSameText 16 = .ok (.ireturn, 1) := by decide +kernel
theorem dX2_isSameText_17 : decode cX2_isSameText 17 = .ok (.iconst 0, 1) := by decide +kernel
theorem dX2_isSameText_18 : decode cX2_isSameText 18 = .ok (.istore_n 3, 1) := by decide +kernel
theorem dX2_isSameText_19 : decode cX2_isSameText 19 = .ok (.iload_n 3, 1) := by decide +kernel
theorem dX2_isSameText_20 : decode cX2_isSameText 20 = .ok (.aload_n 0, 1) := by decide +kernel
theorem dX2_isSameText_21 : decode cX2_isSameText 21 = .ok (.getfield 28, 3) := by decide +kernel
theorem dX2_isSameText_24 : decode cX2_isSameText 24 = .ok (.iload_n 1, 1) := by decide +kernel
theorem dX2_isSameText_25 : decode cX2_isSameText 25 = .ok (.iaload, 1) := by decide +kernel
theorem dX2_isSameText_26 : decode cX2_isSameText 26 = .ok (.if_icmp .ge 40, 3) := by decide +kernel
theorem dX2_isSameText_29 : decode cX2_isSameText 29 = .ok (.aload_n 0, 1) := by decide +kernel
theorem dX2_isSameText_30 : decode cX2_isSameText 30 = .ok (.getfield 18, 3) := by decide +kernel
theorem dX2_isSameText_33 : decode cX2_isSameText 33 = .ok (.aload_n 0, 1) := by decide +kernel
theorem dX2_isSameText_34 : decode cX2_isSameText 34 = .ok (.getfield 25, 3) := by decide +kernel
theorem dX2_isSameText_37 : decode cX2_isSameText 37 = .ok (.iload_n 1, 1) := by decide +kernel
theorem dX2_isSameText_38 : decode cX2_isSameText 38 = .ok (.iaload, 1) := by decide +kernel
theorem dX2_isSameText_39 : decode cX2_isSameText 39 = .ok (.iload_n 3, 1) := by decide +kernel
theorem dX2_isSameText_40 : decode cX2_isSameText 40 = .ok (.iadd, 1) := by decide +kernel
theorem dX2_isSameText_41 : decode cX2_isSameText 41 = .ok (.baload, 1) := by decide +kernel
theorem dX2_isSameText_42 : decode cX2_isSameText 42 = .ok (.aload_n 0, 1) := by decide +kernel
theorem dX2_isSameText_43 : decode cX2_isSameText 43 = .ok (.getfield 18, 3) := by decide +kernel
theorem dX2_isSameText_46 : decode cX2_isSameText 46 = .ok (.aload_n 0, 1) := by decide +kernel
theorem dX2_isSameText_47 : decode cX2_isSameText 47 = .ok (.getfield 25, 3) := by decide +kernel
theorem dX2_isSameText_50 : decode cX2_isSameText 50 = .ok (.iload_n 2, 1) := by decide +kernel
theorem dX2_isSameText_51 : decode cX2_isSameText 51 = .ok (.iaload, 1) := by decide +kernel
theorem dX2_isSameText_52 : decode cX2_isSameText 52 = .ok (.iload_n 3, 1) := by decide +kernel
theorem dX2_isSameText_53 : decode cX2_isSameText 53 = .ok (.iadd, 1) := by decide +kernel
theorem dX2_isSameText_54 : decode cX2_isSameText 54 = .ok (.baload, 1) := by decide +kernel
theorem dX2_isSameText_55 : decode cX2_isSameText 55 = .ok (.if_icmp .eq 5, 3) := by decide +kernel
theorem dX2_isSameText_58 : decode cX2_isSameText 58 = .ok (.iconst 0, 1) := by decide +kernel
theorem dX2_isSameText_59 : decode cX2_isSameText 59 = .ok (.ireturn, 1) := by decide +kernel
theorem dX2_isSameText_60 : decode cX2_isSameText 60 = .ok (.iinc 3 1, 3) := by decide +kernel
theorem dX2_isSameText_63 : decode cX2_isSameText 63 = .ok (.goto (-44), 3) := by decide +kernel
theorem dX2_isSameText_66 : decode cX2_isSameText 66 = .ok (.iconst 1, 1) := by decide +kernel
theorem dX2_isSameText_67 : decode cX2_isSameText 67 = .ok (.ireturn, 1) := by decide +kernel
theorem dX3_init_0 : decode cX3_init 0 = .ok (.aload_n 0, 1) := by decide +kernel
theorem dX3_init_1 : decode cX3_init 1 = .ok (.invokespecial 3, 3) := by decide +kernel
theorem dX3_init_4 : decode cX3_init 4 = .ok (.aload_n 0, 1) := by decide +kernel
theorem dX3_init_5 : decode cX3_init 5 = .ok (.bipush 30, 2) := by decide +kernel
theorem dX3_init_7 : decode cX3_init 7 = .ok (.newarray .byte, 2) := by decide +kernel
theorem dX3_init_9 : decode cX3_init 9 = .ok (.putfield 9, 3) := by decide +kernel
theorem dX3_init_12 : decode cX3_init 12 = .ok (.aload_n 0, 1) := by decide +kernel
theorem dX3_init_13 : decode cX3_init 13 = .ok (.new 13, 3) := by decide +kernel
theorem dX3_init_16 : decode cX3_init 16 = .ok (.dup, 1) := by decide +kernel
theorem dX3_init_17 : decode cX3_init 17 = .ok (.invokespecial 15, 3) := by decide +kernel
theorem dX3_init_20 : decode cX3_init 20 = .ok (.putfield 16, 3) := by decide +kernel
theorem dX3_init_23 : decode cX3_init 23 = .ok (.aload_n 0, 1) := by decide +kernel
theorem dX3_init_24 : decode cX3_init 24 = .ok (.new 20, 3) := by decide +kernel
theorem dX3_init_27 : decode cX3_init 27 = .ok (.dup, 1) := by decide +kernel
theorem dX3_init_28 : decode cX3_init 28 = .ok (.aload_n 0, 1) := by decide +kernel
theorem dX3_init_29 : decode cX3_init 29 = .ok (.getfield 16, 3) := by decide +kernel
theorem dX3_init_32 : decode cX3_init 32 = .ok (.invokespecial 22, 3) := by decide +kernel
theorem dX3_init_35 : decode cX3_init 35 = .ok (.putfield 25, 3) := by decide +kernel
theorem dX3_init_38 : decode cX3_init 38 = .ok (.aload_n 0, 1) := by decide +kernel
theorem dX3_init_39 : decode cX3_init 39 = .ok (.new 29, 3) := by decide +kernel
theorem dX3_init_42 : decode cX3_init 42 = .ok (.dup, 1) := by decide +kernel
theorem dX3_init_43 : decode cX3_init 43 = .ok (.invokespecial 31, 3) := by decide +kernel
theorem dX3_init_46 : decode cX3_init 46 = .ok (.putfield 32, 3) := by decide +kernel
theorem dX3_init_49 : decode cX3_init 49 = .ok (.aload_n 0, 1) := by decide +kernel
theorem dX3_init_50 : decode cX3_init 50 = .ok (.bipush 12, 2) := by decide +kernel
theorem dX3_init_52 : decode cX3_init 52 = .ok (.newarray .boolean, 2) := by decide +kernel
theorem dX3_init_54 : decode cX3_init 54 = .ok (.putfield 36, 3) := by decide +kernel
theorem dX3_init_57 : decode cX3_init 57 = .ok (.aload_n 0, 1) := by decide +kernel
theorem dX3_init_58 : decode cX3_init 58 = .ok (.sipush 360, 3) := by decide +kernel
theorem dX3_init_61 : decode cX3_init 61 = .ok (.newarray .int, 2) := by decide +kernel
theorem dX3_init_63 : decode cX3_init 63 = .ok (.putfield 40, 3) := by decide +kernel
theorem dX3_init_66 : decode cX3_init 66 = .ok (.aload_n 0, 1) := by decide +kernel
theorem dX3_init_67 : decode cX3_init 67 = .ok (.bipush 12, 2) := by decide +kernel
theorem dX3_init_69 : decode cX3_init 69 = .ok (.newarray .int, 2) := by decide +kernel
theorem dX3_init_71 : decode cX3_init 71 = .ok (.putfield 44, 3) := by decide +kernel
theorem dX3_init_74 : decode cX3_init 74 = .ok (.aload_n 0, 1) := by decide +kernel
theorem dX3_init_75 : decode cX3_init 75 = .ok (.bipush 12, 2) := by decide +kernel
theorem dX3_init_77 : decode cX3_init 77 = .ok (.anewarray 29, 3) := by decide +kernel
theorem dX3_init_80 : decode cX3_init 80 = .ok (.putfield 47, 3) := by decide +kernel
theorem dX3_init_83 : decode cX3_init 83 = .ok (.iconst 0, 1) := by decide +kernel
theorem dX3_init_84 : decode cX3_init 84 = .ok (.istore_n 1, 1) := by decide +kernel
theorem dX3_init_85 : decode cX3_init 85 = .ok (.iload_n 1, 1) := by decide +kernel
theorem dX3_init_86 : decode cX3_init 86 = .ok (.bipush 12, 2) := by decide +kernel
theorem dX3_init_88 : decode cX3_init 88 = .ok (.if_icmp .ge 22, 3) := by decide +kernel
theorem dX3_init_91 : decode cX3_init 91 = .ok (.aload_n 0, 1) := by decide +kernel
theorem dX3_init_92 : decode cX3_init 92 = .ok (.getfield 47, 3) := by decide +kernel
theorem dX3_init_95 : decode cX3_init 95 = .ok (.iload_n 1, 1) := by decide +kernel
theorem dX3_init_96 : decode cX3_init 96 = .ok (.new 29, 3) := by decide +kernel
theorem dX3_init_99 : decode cX3_init 99 = .ok (.dup, 1) := by decide +kernel
theorem dX3_init_100 : decode cX3_init 100 = .ok (.invokespecial 31, 3) := by decide +kernel
theorem dX3_init_103 : decode cX3_init 103 = .ok (.aastore, 1) := by decide +kernel
theorem dX3_init_104 : decode cX3_init 104 = .ok (.iinc 1 1, 3) := by decide +kernel
theorem dX3_init_107 : decode cX3_init 107 = .ok (.goto (-22), 3) := by decide +kernel
theorem dX3_init_110 : decode cX3_init 110 = .ok (.return_, 1) := by decide +kernel
theorem dX3_feed_0 : decode cX3_feed 0 = .ok (.lload_n 1, 1) := by decide +kernel
theorem dX3_feed_1 : decode cX3_feed 1 = .ok (.invokestatic 51, 3) := by decide +kernel
theorem dX3_feed_4 : decode cX3_feed 4 = .ok (.istore_n 3, 1) := by decide +kernel
theorem dX3_feed_5 : decode cX3_feed 5 = .ok (.iload_n 3, 1) := by decide +kernel
theorem dX3_feed_6 : decode cX3_feed 6 = .ok (.iconst (-1), 1) := by decide +kernel
theorem dX3_feed_7 : decode cX3_feed 7 = .ok (.if_icmp .ne 13, 3) := by decide +kernel
theorem dX3_feed_10 : decode cX3_feed 10 = .ok (.new 55, 3) := by decide +kernel
theorem dX3_feed_13 : decode cX3_feed 13 = .ok (.dup, 1) := by decide +kernel
theorem dX3_feed_14 : decode cX3_feed 14 = .ok (.ldc 57, 2) := by decide +kernel
theorem dX3_feed_16 : decode cX3_feed 16 = .ok (.invokespecial 59, 3) := by decide +kernel
theorem dX3_feed_19 : decode cX3_feed 19 = .ok (.athrow, 1) := by decide +kernel
theorem dX3_feed_20 : decode cX3_feed 20 = .ok (.aload_n 0, 1) := by decide +kernel
theorem dX3_feed_21 : decode cX3_feed 21 = .ok (.getfield 62, 3) := by decide +kernel
theorem dX3_feed_24 : decode cX3_feed 24 = .ok (.iload_n 3, 1) := by decide +kernel
theorem dX3_feed_25 : decode cX3_feed 25 = .ok (.iadd, 1) := by decide +kernel
theorem dX3_feed_26 : decode cX3_feed 26 = .ok (.bipush 30, 2) := by decide +kernel
theorem dX3_feed_28 : decode cX3_feed 28 = .ok (.if_icmp .le 13, 3) := by decide +kernel
theorem dX3_feed_31 : decode cX3_feed 31 = .ok (.new 66, 3) := by decide +kernel
theorem dX3_feed_34 : decode cX3_feed 34 = .ok (.dup, 1) := by decide +kernel
theorem dX3_feed_35 : decode cX3_feed 35 = .ok (.ldc 68, 2) := by decide +kernel
theorem dX3_feed_37 : decode cX3_feed 37 = .ok (.invokespecial 70, 3) := by decide +kernel
theorem dX3_feed_40 : decode cX3_feed 40 = .ok (.athrow, 1) := by decide +kernel
theorem dX3_feed_41 : decode cX3_feed 41 = .ok (.iconst 0, 1) := by decide +kernel
theorem dX3_feed_42 : decode cX3_feed 42 = .ok (.istore 4, 2) := by decide +kernel
theorem dX3_feed_44 : decode cX3_feed 44 = .ok (.iload 4, 2) := by decide +kernel
theorem dX3_feed_46 : decode cX3_feed 46 = .ok (.bipush 8, 2) := by decide +kernel
theorem dX3_feed_48 : decode cX3_feed 48 = .ok (.if_icmp .ge 44, 3) := by decide +kernel
theorem dX3_feed_51 : decode cX3_feed 51 = .ok (.lload_n 1, 1) := by decide +kernel
theorem dX3_feed_52 : decode cX3_feed 52 = .ok (.iload 4, 2) := by decide +kernel
theorem dX3_feed_54 : decode cX3_feed 54 = .ok (.invokestatic 71, 3) := by decide +kernel
theorem dX3_feed_57 : decode cX3_feed 57 = .ok (.istore 5, 2) := by decide +kernel
theorem dX3_feed_59 : decode cX3_feed 59 = .ok (.iload 5, 2) := by decide +kernel
theorem dX3_feed_61 : decode cX3_feed 61 = .ok (.ifCond .eq 25, 3) := by decide +kernel
theorem dX3_feed_64 : decode cX3_feed 64 = .ok (.aload_n 0, 1) := by decide +kernel
theorem dX3_feed_65 : decode cX3_feed 65 = .ok (.getfield 9, 3) := by decide +kernel
theorem dX3_feed_68 : decode cX3_feed 68 = .ok (.aload_n 0, 1) := by decide +kernel
theorem dX3_feed_69 : decode cX3_feed 69 = .ok (.getfield 62, 3) := by decide +kernel
theorem dX3_feed_72 : decode cX3_feed 72 = .ok (.iload 5, 2) := by decide +kernel
theorem dX3_feed_74 : decode cX3_feed 74 = .ok (.i2b, 1) := by decide +kernel
theorem dX3_feed_75 : decode cX3_feed 75 = .ok (.bastore, 1) := by decide +kernel
theorem dX3_feed_76 : decode cX3_feed 76 = .ok (.aload_n 0, 1) := by decide +kernel
theorem dX3_feed_77 : decode cX3_feed 77 = .ok (.dup, 1) := by decide +kernel
theorem dX3_feed_78 : decode cX3_feed 78 = .ok (.getfield 62, 3) := by decide +kernel
theorem dX3_feed_81 : decode cX3_feed 81 = .ok (.iconst 1, 1) := by decide +kernel
theorem dX3_feed_82 : decode cX3_feed 82 = .ok (.iadd, 1) := by decide +kernel
theorem dX3_feed_83 : decode cX3_feed 83 = .ok (.putfield 62, 3) := by decide +kernel
theorem dX3_feed_86 : decode cX3_feed 86 = .ok (.iinc 4 1, 3) := by decide +kernel
theorem dX3_feed_89 : decode cX3_feed 89 = .ok (.goto (-45), 3) := by decide +kernel
theorem dX3_feed_92 : decode cX3_feed 92 = .ok (.aload_n 0, 1) := by decide +kernel
theorem dX3_feed_93 : decode cX3_feed 93 = .ok (.getfield 62, 3) := by decide +kernel
theorem dX3_feed_96 : decode cX3_feed 96 = .ok (.ireturn, 1) := by decide +kernel
theorem dX3_countBytes_0 : decode cX3_countBytes 0 = .ok (.iconst 0, 1) := by decide +kernel
theorem dX3_countBytes_1 : decode cX3_countBytes 1 = .ok (.istore_n 2, 1) := by decide +kernel
theorem dX3_countBytes_2 : decode cX3_countBytes 2 = .ok (.iconst 0, 1) := by decide +kernel
theorem dX3_countBytes_3 : decode cX3_countBytes 3 = .ok (.istore_n 3, 1) := by decide +kernel
theorem dX3_countBytes_4 : decode cX3_countBytes 4 = .ok (.iload_n 3, 1) := by decide +kernel
theorem dX3_countBytes_5 : decode cX3_countBytes 5 = .ok (.bipush 8, 2) := by decide +kernel
theorem dX3_countBytes_7 : decode cX3_countBytes 7 = .ok (.if_icmp .ge 40, 3) := by decide +kernel
theorem dX3_countBytes_10 : decode cX3_countBytes 10 = .ok (.lload_n 0, 1) := by decide +kernel
theorem dX3_countBytes_11 : decode cX3_countBytes 11 = .ok (.iload_n 3, 1) := by decide +kernel
theorem dX3_countBytes_12 : decode cX3_countBytes 12 = .ok (.invokestatic 71, 3) := by decide +kernel
theorem dX3_countBytes_15 : decode cX3_countBytes 15 = .ok (.istore 4, 2) := by decide +kernel
theorem dX3_countBytes_17 : decode cX3_countBytes 17 = .ok (.iload 4, 2) := by decide +kernel
theorem dX3_countBytes_19 : decode cX3_countBytes 19 = .ok (.ifCond .eq 22, 3) := by decide +kernel
theorem dX3_countBytes_22 : decode cX3_countBytes 22 = .ok (.iload 4, 2) := by decide +kernel
theorem dX3_countBytes_24 : decode cX3_countBytes 24 = .ok (.bipush 32, 2) := by decide +kernel
theorem dX3_countBytes_26 : decode cX3_countBytes 26 = .ok (.if_icmp .lt 10, 3) := by decide +kernel
theorem dX3_countBytes_29 : decode cX3_countBytes 29 = .ok (.iload 4, 2) := by decide +kernel
theorem dX3_countBytes_31 : decode cX3_countBytes 31 = .ok (.bipush 126, 2) := by decide +kernel
theorem dX3_countBytes_33 : decode cX3_countBytes 33 = .ok (.if_icmp .le 5, 3) := by decide +kernel
theorem dX3_countBytes_36 : decode cX3_countBytes 36 = .ok (.iconst (-1), 1) := by decide +kernel
theorem dX3_countBytes_37 : decode cX3_countBytes 37 = .ok (.ireturn, 1) := by decide +kernel
theorem dX3_countBytes_38 : decode cX3_countBytes 38 = .ok (.iinc 2 1, 3) := by decide +kernel
theorem dX3_countBytes_41 : decode cX3_countBytes 41 = .ok (.iinc 3 1, 3) := by decide +kernel
theorem dX3_countBytes_44 : decode cX3_countBytes 44 = .ok (.goto (-40), 3) := by decide +kernel
theorem dX3_countBytes_47 : decode cX3_countBytes 47 = .ok (.iload_n 2, 1) := by decide +kernel
theorem dX3_countBytes_48 : decode cX3_countBytes 48 = .ok (.ireturn, 1) := by decide +kernel
theorem dX3_byteOf_0 : decode cX3_byteOf 0 = .ok (.lload_n 0, 1) := by decide +kernel
theorem dX3_byteOf_1 : decode cX3_byteOf 1 = .ok (.bipush 56, 2) := by decide +kernel
theorem dX3_byteOf_3 : decode cX3_byteOf 3 = .ok (.bipush 8, 2) := by decide +kernel
theorem dX3_byteOf_5 : decode cX3_byteOf 5 = .ok (.iload_n 2, 1) := by decide +kernel
theorem dX3_byteOf_6 : decode cX3_byteOf 6 = .ok (.imul, 1) := by decide +kernel
theorem dX3_byteOf_7 : decode cX3_byteOf 7 = .ok (.isub, 1) := by decide +kernel
theorem dX3_byteOf_8 : decode cX3_byteOf 8 = .ok (.lushr, 1) := by decide +kernel
theorem dX3_byteOf_9 : decode cX3_byteOf 9 = .ok (.l2i, 1) := by decide +kernel
theorem dX3_byteOf_10 : decode cX3_byteOf 10 = .ok (.sipush 255, 3) := by decide +kernel
theorem dX3_byteOf_13 : decode cX3_byteOf 13 = .ok (.iand, 1) := by decide +kernel
theorem dX3_byteOf_14 : decode cX3_byteOf 14 = .ok (.ireturn, 1) := by decide +kernel
theorem dX3_store_0 : decode cX3_store 0 = .ok (.aload_n 0, 1) := by decide +kernel
theorem dX3_store_1 : decode cX3_store 1 = .ok (.getfield 16, 3) := by decide +kernel
theorem dX3_store_4 : decode cX3_store 4 = .ok (.getfield 75, 3) := by decide +kernel
theorem dX3_store_7 : decode cX3_store 7 = .ok (.bipush 12, 2) := by decide +kernel
theorem dX3_store_9 : decode cX3_store 9 = .ok (.if_icmp .lt 13, 3) := by decide +kernel
theorem dX3_store_12 : decode cX3_store 12 = .ok (.new 66, 3) := by decide +kernel
theorem dX3_store_15 : decode cX3_store 15 = .ok (.dup, 1) := by decide +kernel
theorem dX3_store_16 : decode cX3_store 16 = .ok (.ldc 78, 2) := by decide +kernel
theorem dX3_store_18 : decode cX3_store 18 = .ok (.invokespecial 70, 3) := by decide +kernel
theorem dX3_store_21 : decode cX3_store 21 = .ok (.athrow, 1) := by decide +kernel
theorem dX3_store_22 : decode cX3_store 22 = .ok (.aload_n 0, 1) := by decide +kernel
theorem dX3_store_23 : decode cX3_store 23 = .ok (.getfield 16, 3) := by decide +kernel
theorem dX3_store_26 : decode cX3_store 26 = .ok (.aload_n 0, 1) := by decide +kernel
theorem dX3_store_27 : decode cX3_store 27 = .ok (.getfield 9, 3) := by decide +kernel
theorem dX3_store_30 : decode cX3_store 30 = .ok (.aload_n 0, 1) := by decide +kernel
theorem dX3_store_31 : decode cX3_store 31 = .ok (.getfield 62, 3) := by decide +kernel
theorem dX3_store_34 : decode cX3_store 34 = .ok (.invokevirtual 80, 3) := by decide +kernel
theorem dX3_store_37 : decode cX3_store 37 = .ok (.istore_n 1, 1) := by decide +kernel
theorem dX3_store_38 : decode cX3_store 38 = .ok (.aload_n 0, 1) := by decide +kernel
theorem dX3_store_39 : decode cX3_store 39 = .ok (.iconst 0, 1) := by decide +kernel
theorem dX3_store_40 : decode cX3_store 40 = .ok (.putfield 62, 3) := by decide +kernel
theorem dX3_store_43 : decode cX3_store 43 = .ok (.aload_n 0, 1) := by decide +kernel
theorem dX3_store_44 : decode cX3_store 44 = .ok (.iconst 0, 1) := by decide +kernel
theorem dX3_store_45 : decode cX3_store 45 = .ok (.putfield 84, 3) := by decide +kernel
theorem dX3_store_48 : decode cX3_store 48 = .ok (.iload_n 1, 1) := by decide +kernel
theorem dX3_store_49 : decode cX3_store 49 = .ok (.ireturn, 1) := by decide +kernel
theorem dX3_lineCount_0 : decode cX3_lineCount 0 = .ok (.aload_n 0, 1) := by decide +kernel
theorem dX3_lineCount_1 : decode cX3_lineCount 1 = .ok (.getfield 16, 3) := by decide +kernel
theorem dX3_lineCount_4 : decode cX3_lineCount 4 = .ok (.getfield 75, 3) := by decide +kernel
theorem dX3_lineCount_7 : decode cX3_lineCount 7 = .ok (.ireturn, 1) := by decide +kernel
theorem dX3_tokenCount_0 : decode cX3_tokenCount 0 = .ok (.aload_n 0, 1) := by decide +kernel
theorem dX3_tokenCount_1 : decode cX3_tokenCount 1 = .ok (.iload_n 1, 1) := by decide +kernel
theorem dX3_tokenCount_2 : decode cX3_tokenCount 2 = .ok (.invokevirtual 88, 3) := by decide +kernel
theorem dX3_tokenCount_5 : decode cX3_tokenCount 5 = .ok (.aload_n 0, 1) := by decide +kernel
theorem dX3_tokenCount_6 : decode cX3_tokenCount 6 = .ok (.getfield 16, 3) := by decide +kernel
theorem dX3_tokenCount_9 : decode cX3_tokenCount 9 = .ok (.getfield 92, 3) := by decide +kernel
theorem dX3_tokenCount_12 : decode cX3_tokenCount 12 = .ok (.iload_n 1, 1) := by decide +kernel
theorem dX3_tokenCount_13 : decode cX3_tokenCount 13 = .ok (.iaload, 1) := by decide +kernel
theorem dX3_tokenCount_14 : decode cX3_tokenCount 14 = .ok (.ireturn, 1) := by decide +kernel
theorem dX3_tokenKind_0 : decode cX3_tokenKind 0 = .ok (.aload_n 0, 1) := by decide +kernel
theorem dX3_tokenKind_1 : decode cX3_tokenKind 1 = .ok (.iload_n 1, 1) := by decide +kernel
theorem dX3_tokenKind_2 : decode cX3_tokenKind 2 = .ok (.iload_n 2, 1) := by decide +kernel
theorem dX3_tokenKind_3 : decode cX3_tokenKind 3 = .ok (.invokevirtual 95, 3) := by decide +kernel
theorem dX3_tokenKind_6 : decode cX3_tokenKind 6 = .ok (.aload_n 0, 1) := by decide +kernel
theorem dX3_tokenKind_7 : decode cX3_tokenKind 7 = .ok (.getfield 16, 3) := by decide +kernel
theorem dX3_tokenKind_10 : decode cX3_tokenKind 10 = .ok (.getfield 99, 3) := by decide +kernel
theorem dX3_tokenKind_13 : decode cX3_tokenKind 13 = .ok (.iload_n 1, 1) := by decide +kernel
theorem dX3_tokenKind_14 : decode cX3_tokenKind 14 = .ok (.iload_n 2, 1) := by decide +kernel
theorem dX3_tokenKind_15 : decode cX3_tokenKind 15 = .ok (.invokestatic 102, 3) := by decide +kernel
theorem dX3_tokenKind_18 : decode cX3_tokenKind 18 = .ok (.iaload, 1) := by decide +kernel
theorem dX3_tokenKind_19 : decode cX3_tokenKind 19 = .ok (.ireturn, 1) := by decide +kernel
theorem dX3_setCosts_0 : decode cX3_setCosts 0 = .ok (.iload_n 1, 1) := by decide +kernel
theorem dX3_setCosts_1 : decode cX3_setCosts 1 = .ok (.invokestatic 121, 3) := by decide +kernel
theorem dX3_setCosts_4 : decode cX3_setCosts 4 = .ok (.ifCond .eq 17, 3) := by decide +kernel
theorem dX3_setCosts_7 : decode cX3_setCosts 7 = .ok (.iload_n 2, 1) := by decide +kernel
theorem dX3_setCosts_8 : decode cX3_setCosts 8 = .ok (.invokestatic 121, 3) := by decide +kernel
theorem dX3_setCosts_11 : decode cX3_setCosts 11 = .ok (.ifCond .eq 10, 3) := by decide +kernel
theorem dX3_setCosts_14 : decode cX3_setCosts 14 = .ok (.iload_n 3, 1) := by decide +kernel
theorem dX3_setCosts_15 : decode cX3_setCosts 15 = .ok (.invokestatic 121, 3) := by decide +kernel
theorem dX3_setCosts_18 : decode cX3_setCosts 18 = .ok (.ifCond .ne 13, 3) := by decide +kernel
theorem dX3_setCosts_21 : decode cX3_setCosts 21 = .ok (.new 55, 3) := by decide +kernel
theorem dX3_setCosts_24 : decode cX3_setCosts 24 = .ok (.dup, 1) := by decide +kernel
theorem dX3_setCosts_25 : decode cX3_setCosts 25 = .ok (.ldc 125, 2) := by decide +kernel
theorem dX3_setCosts_27 : decode cX3_setCosts 27 = .ok (.invokespecial 59, 3) := by decide +kernel
theorem dX3_setCosts_30 : decode cX3_setCosts 30 = .ok (.athrow, 1) := by decide +kernel
theorem dX3_setCosts_31 : decode cX3_setCosts 31 = .ok (.aload_n 0, 1) := by decide +kernel
theorem dX3_setCosts_32 : decode cX3_setCosts 32 = .ok (.iconst 0, 1) := by decide +kernel
theorem dX3_setCosts_33 : decode cX3_setCosts 33 = .ok (.putfield 84, 3) := by decide +kernel
theorem dX3_setCosts_36 : decode cX3_setCosts 36 = .ok (.aload_n 0, 1) := by decide +kernel
theorem dX3_setCosts_37 : decode cX3_setCosts 37 = .ok (.getfield 25, 3) := by decide +kernel
theorem dX3_setCosts_40 : decode cX3_setCosts 40 = .ok (.iload_n 1, 1) := by decide +kernel
theorem dX3_setCosts_41 : decode cX3_setCosts 41 = .ok (.iload_n 2, 1) := by decide +kernel
theorem dX3_setCosts_42 : decode cX3_setCosts 42 = .ok (.iload_n 3, 1) := by decide +kernel
theorem dX3_setCosts_43 : decode cX3_setCosts 43 = .ok (.invokevirtual 127, 3) := by decide +kernel
theorem dX3_setCosts_46 : decode cX3_setCosts 46 = .ok (.ireturn, 1) := by decide +kernel
theorem dX3_isCost_0 : decode cX3_isCost 0 = .ok (.iload_n 0, 1) := by decide +kernel
theorem dX3_isCost_1 : decode cX3_isCost 1 = .ok (.ifCond .lt 13, 3) := by decide +kernel
theorem dX3_isCost_4 : decode cX3_isCost 4 = .ok (.iload_n 0, 1) := by decide +kernel
theorem dX3_isCost_5 : decode cX3_isCost 5 = .ok (.bipush 20, 2) := by decide +kernel
theorem dX3_isCost_7 : decode cX3_isCost 7 = .ok (.if_icmp .gt 7, 3) := by decide +kernel
theorem dX3_isCost_10 : decode cX3_isCost 10 = .ok (.iconst 1, 1) := by decide +kernel
theorem dX3_isCost_11 : decode cX3_isCost 11 = .ok (.goto 4, 3) := by decide +kernel
theorem dX3_isCost_14 : decode cX3_isCost 14 = .ok (.iconst 0, 1) := by decide +kernel
theorem dX3_isCost_15 : decode cX3_isCost 15 = .ok (.ireturn, 1) := by decide +kernel
theorem dX3_merge_0 : decode cX3_merge 0 = .ok (.aload_n 0, 1) := by decide +kernel
theorem dX3_merge_1 : decode cX3_merge 1 = .ok (.iload_n 1, 1) := by decide +kernel
theorem dX3_merge_2 : decode cX3_merge 2 = .ok (.invokevirtual 88, 3) := by decide +kernel
theorem dX3_merge_5 : decode cX3_merge 5 = .ok (.aload_n 0, 1) := by decide +kernel
theorem dX3_merge_6 : decode cX3_merge 6 = .ok (.getfield 36, 3) := by decide +kernel
theorem dX3_merge_9 : decode cX3_merge 9 = .ok (.iload_n 1, 1) := by decide +kernel
theorem dX3_merge_10 : decode cX3_merge 10 = .ok (.baload, 1) := by decide +kernel
theorem dX3_merge_11 : decode cX3_merge 11 = .ok (.ifCond .eq 13, 3) := by decide +kernel
theorem dX3_merge_14 : decode cX3_merge 14 = .ok (.new 66, 3) := by decide +kernel
theorem dX3_merge_17 : decode cX3_merge 17 = .ok (.dup, 1) := by decide +kernel
theorem dX3_merge_18 : decode cX3_merge 18 = .ok (.ldc 131, 2) := by decide +kernel
theorem dX3_merge_20 : decode cX3_merge 20 = .ok (.invokespecial 70, 3) := by decide +kernel
theorem dX3_merge_23 : decode cX3_merge 23 = .ok (.athrow, 1) := by decide +kernel
theorem dX3_merge_24 : decode cX3_merge 24 = .ok (.aload_n 0, 1) := by decide +kernel
theorem dX3_merge_25 : decode cX3_merge 25 = .ok (.getfield 25, 3) := by decide +kernel
theorem dX3_merge_28 : decode cX3_merge 28 = .ok (.aload_n 0, 1) := by decide +kernel
theorem dX3_merge_29 : decode cX3_merge 29 = .ok (.getfield 32, 3) := by decide +kernel
theorem dX3_merge_32 : decode cX3_merge 32 = .ok (.iload_n 1, 1) := by decide +kernel
theorem dX3_merge_33 : decode cX3_merge 33 = .ok (.invokevirtual 133, 3) := by decide +kernel
theorem dX3_merge_36 : decode cX3_merge 36 = .ok (.istore_n 2, 1) := by decide +kernel
theorem dX3_merge_37 : decode cX3_merge 37 = .ok (.aload_n 0, 1) := by decide +kernel
theorem dX3_merge_38 : decode cX3_merge 38 = .ok (.getfield 25, 3) := by decide +kernel
theorem dX3_merge_41 : decode cX3_merge 41 = .ok (.aload_n 0, 1) := by decide +kernel
theorem dX3_merge_42 : decode cX3_merge 42 = .ok (.getfield 32, 3) := by decide +kernel
theorem dX3_merge_45 : decode cX3_merge 45 = .ok (.invokevirtual 137, 3) := by decide +kernel
theorem dX3_merge_48 : decode cX3_merge 48 = .ok (.ifCond .ne 13, 3) := by decide +kernel
theorem dX3_merge_51 : decode cX3_merge 51 = .ok (.new 66, 3) := by decide +kernel
theorem dX3_merge_54 : decode cX3_merge 54 = .ok (.dup, 1) := by decide +kernel
theorem dX3_merge_55 : decode cX3_merge 55 = .ok (.ldc 141, 2) := by decide +kernel
theorem dX3_merge_57 : decode cX3_merge 57 = .ok (.invokespecial 70, 3) := by decide +kernel
theorem dX3_merge_60 : decode cX3_merge 60 = .ok (.athrow, 1) := by decide +kernel
theorem dX3_merge_61 : decode cX3_merge 61 = .ok (.aload_n 0, 1) := by decide +kernel
theorem dX3_merge_62 : decode cX3_merge 62 = .ok (.getfield 25, 3) := by decide +kernel
theorem dX3_merge_65 : decode cX3_merge 65 = .ok (.aload_n 0, 1) := by decide +kernel
theorem dX3_merge_66 : decode cX3_merge 66 = .ok (.getfield 32, 3) := by decide +kernel
theorem dX3_merge_69 : decode cX3_merge 69 = .ok (.iload_n 1, 1) := by decide +kernel
theorem dX3_merge_70 : decode cX3_merge 70 = .ok (.invokevirtual 143, 3) := by decide +kernel
theorem dX3_merge_73 : decode cX3_merge 73 = .ok (.aload_n 0, 1) := by decide +kernel
theorem dX3_merge_74 : decode cX3_merge 74 = .ok (.getfield 16, 3) := by decide +kernel
theorem dX3_merge_77 : decode cX3_merge 77 = .ok (.getfield 92, 3) := by decide +kernel
theorem dX3_merge_80 : decode cX3_merge 80 = .ok (.iload_n 1, 1) := by decide +kernel
theorem dX3_merge_81 : decode cX3_merge 81 = .ok (.iaload, 1) := by decide +kernel
theorem dX3_merge_82 : decode cX3_merge 82 = .ok (.istore_n 3, 1) := by decide +kernel
theorem dX3_merge_83 : decode cX3_merge 83 = .ok (.iconst 0, 1) := by decide +kernel
theorem dX3_merge_84 : decode cX3_merge 84 = .ok (.istore 4, 2) := by decide +kernel
theorem dX3_merge_86 : decode cX3_merge 86 = .ok (.iload 4, 2) := by decide +kernel
theorem dX3_merge_88 : decode cX3_merge 88 = .ok (.iload_n 3, 1) := by decide +kernel
theorem dX3_merge_89 : decode cX3_merge 89 = .ok (.if_icmp .ge 30, 3) := by decide +kernel
theorem dX3_merge_92 : decode cX3_merge 92 = .ok (.aload_n 0, 1) := by decide +kernel
theorem dX3_merge_93 : decode cX3_merge 93 = .ok (.getfield 40, 3) := by decide +kernel
theorem dX3_merge_96 : decode cX3_merge 96 = .ok (.iload_n 1, 1) := by decide +kernel

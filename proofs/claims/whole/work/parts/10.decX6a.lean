theorem dX6_init_0 : decode cX6_init 0 = .ok (.aload_n 0, 1) := by decide +kernel
theorem dX6_init_1 : decode cX6_init 1 = .ok (.invokespecial 3, 3) := by decide +kernel
theorem dX6_init_4 : decode cX6_init 4 = .ok (.aload_n 0, 1) := by decide +kernel
theorem dX6_init_5 : decode cX6_init 5 = .ok (.bipush 56, 2) := by decide +kernel
theorem dX6_init_7 : decode cX6_init 7 = .ok (.newarray .int, 2) := by decide +kernel
theorem dX6_init_9 : decode cX6_init 9 = .ok (.putfield 11, 3) := by decide +kernel
theorem dX6_init_12 : decode cX6_init 12 = .ok (.aload_n 0, 1) := by decide +kernel
theorem dX6_init_13 : decode cX6_init 13 = .ok (.sipush 672, 3) := by decide +kernel
theorem dX6_init_16 : decode cX6_init 16 = .ok (.newarray .int, 2) := by decide +kernel
theorem dX6_init_18 : decode cX6_init 18 = .ok (.putfield 15, 3) := by decide +kernel
theorem dX6_init_21 : decode cX6_init 21 = .ok (.aload_n 0, 1) := by decide +kernel
theorem dX6_init_22 : decode cX6_init 22 = .ok (.aload_n 1, 1) := by decide +kernel
theorem dX6_init_23 : decode cX6_init 23 = .ok (.putfield 18, 3) := by decide +kernel
theorem dX6_init_26 : decode cX6_init 26 = .ok (.aload_n 0, 1) := by decide +kernel
theorem dX6_init_27 : decode cX6_init 27 = .ok (.aload_n 2, 1) := by decide +kernel
theorem dX6_init_28 : decode cX6_init 28 = .ok (.putfield 22, 3) := by decide +kernel
theorem dX6_init_31 : decode cX6_init 31 = .ok (.return_, 1) := by decide +kernel
theorem dX6_useCell_0 : decode cX6_useCell 0 = .ok (.aload_n 0, 1) := by decide +kernel
theorem dX6_useCell_1 : decode cX6_useCell 1 = .ok (.getfield 11, 3) := by decide +kernel
theorem dX6_useCell_4 : decode cX6_useCell 4 = .ok (.iload_n 1, 1) := by decide +kernel
theorem dX6_useCell_5 : decode cX6_useCell 5 = .ok (.bipush 7, 2) := by decide +kernel
theorem dX6_useCell_7 : decode cX6_useCell 7 = .ok (.imul, 1) := by decide +kernel
theorem dX6_useCell_8 : decode cX6_useCell 8 = .ok (.iload_n 2, 1) := by decide +kernel
theorem dX6_useCell_9 : decode cX6_useCell 9 = .ok (.iadd, 1) := by decide +kernel
theorem dX6_useCell_10 : decode cX6_useCell 10 = .ok (.iaload, 1) := by decide +kernel
theorem dX6_useCell_11 : decode cX6_useCell 11 = .ok (.ireturn, 1) := by decide +kernel
theorem dX6_nodeCell_0 : decode cX6_nodeCell 0 = .ok (.aload_n 0, 1) := by decide +kernel
theorem dX6_nodeCell_1 : decode cX6_nodeCell 1 = .ok (.getfield 15, 3) := by decide +kernel
theorem dX6_nodeCell_4 : decode cX6_nodeCell 4 = .ok (.iload_n 1, 1) := by decide +kernel
theorem dX6_nodeCell_5 : decode cX6_nodeCell 5 = .ok (.bipush 12, 2) := by decide +kernel
theorem dX6_nodeCell_7 : decode cX6_nodeCell 7 = .ok (.imul, 1) := by decide +kernel
theorem dX6_nodeCell_8 : decode cX6_nodeCell 8 = .ok (.iload_n 2, 1) := by decide +kernel
theorem dX6_nodeCell_9 : decode cX6_nodeCell 9 = .ok (.iadd, 1) := by decide +kernel
theorem dX6_nodeCell_10 : decode cX6_nodeCell 10 = .ok (.bipush 7, 2) := by decide +kernel
theorem dX6_nodeCell_12 : decode cX6_nodeCell 12 = .ok (.imul, 1) := by decide +kernel
theorem dX6_nodeCell_13 : decode cX6_nodeCell 13 = .ok (.iload_n 3, 1) := by decide +kernel
theorem dX6_nodeCell_14 : decode cX6_nodeCell 14 = .ok (.iadd, 1) := by decide +kernel
theorem dX6_nodeCell_15 : decode cX6_nodeCell 15 = .ok (.iaload, 1) := by decide +kernel
theorem dX6_nodeCell_16 : decode cX6_nodeCell 16 = .ok (.ireturn, 1) := by decide +kernel
theorem dX6_unfold_0 : decode cX6_unfold 0 = .ok (.aload_n 0, 1) := by decide +kernel
theorem dX6_unfold_1 : decode cX6_unfold 1 = .ok (.iconst 0, 1) := by decide +kernel
theorem dX6_unfold_2 : decode cX6_unfold 2 = .ok (.putfield 26, 3) := by decide +kernel
theorem dX6_unfold_5 : decode cX6_unfold 5 = .ok (.aload_n 0, 1) := by decide +kernel
theorem dX6_unfold_6 : decode cX6_unfold 6 = .ok (.iload_n 1, 1) := by decide +kernel
theorem dX6_unfold_7 : decode cX6_unfold 7 = .ok (.iconst (-1), 1) := by decide +kernel
theorem dX6_unfold_8 : decode cX6_unfold 8 = .ok (.iconst (-1), 1) := by decide +kernel
theorem dX6_unfold_9 : decode cX6_unfold 9 = .ok (.iconst 0, 1) := by decide +kernel
theorem dX6_unfold_10 : decode cX6_unfold 10 = .ok (.aload_n 0, 1) := by decide +kernel
theorem dX6_unfold_11 : decode cX6_unfold 11 = .ok (.getfield 22, 3) := by decide +kernel
theorem dX6_unfold_14 : decode cX6_unfold 14 = .ok (.getfield 30, 3) := by decide +kernel
theorem dX6_unfold_17 : decode cX6_unfold 17 = .ok (.iload_n 2, 1) := by decide +kernel
theorem dX6_unfold_18 : decode cX6_unfold 18 = .ok (.invokevirtual 35, 3) := by decide +kernel
theorem dX6_unfold_21 : decode cX6_unfold 21 = .ok (.istore_n 3, 1) := by decide +kernel
theorem dX6_unfold_22 : decode cX6_unfold 22 = .ok (.iload_n 3, 1) := by decide +kernel
theorem dX6_unfold_23 : decode cX6_unfold 23 = .ok (.iconst (-1), 1) := by decide +kernel
theorem dX6_unfold_24 : decode cX6_unfold 24 = .ok (.if_icmp .eq 8, 3) := by decide +kernel
theorem dX6_unfold_27 : decode cX6_unfold 27 = .ok (.aload_n 0, 1) := by decide +kernel
theorem dX6_unfold_28 : decode cX6_unfold 28 = .ok (.iload_n 3, 1) := by decide +kernel
theorem dX6_unfold_29 : decode cX6_unfold 29 = .ok (.invokevirtual 39, 3) := by decide +kernel
theorem dX6_unfold_32 : decode cX6_unfold 32 = .ok (.return_, 1) := by decide +kernel
theorem dX6_unfoldUse_0 : decode cX6_unfoldUse 0 = .ok (.aload_n 0, 1) := by decide +kernel
theorem dX6_unfoldUse_1 : decode cX6_unfoldUse 1 = .ok (.iload_n 1, 1) := by decide +kernel
theorem dX6_unfoldUse_2 : decode cX6_unfoldUse 2 = .ok (.iconst 0, 1) := by decide +kernel
theorem dX6_unfoldUse_3 : decode cX6_unfoldUse 3 = .ok (.invokevirtual 43, 3) := by decide +kernel
theorem dX6_unfoldUse_6 : decode cX6_unfoldUse 6 = .ok (.istore_n 2, 1) := by decide +kernel
theorem dX6_unfoldUse_7 : decode cX6_unfoldUse 7 = .ok (.iconst 3, 1) := by decide +kernel
theorem dX6_unfoldUse_8 : decode cX6_unfoldUse 8 = .ok (.istore_n 3, 1) := by decide +kernel
theorem dX6_unfoldUse_9 : decode cX6_unfoldUse 9 = .ok (.iload_n 3, 1) := by decide +kernel
theorem dX6_unfoldUse_10 : decode cX6_unfoldUse 10 = .ok (.bipush 6, 2) := by decide +kernel
theorem dX6_unfoldUse_12 : decode cX6_unfoldUse 12 = .ok (.if_icmp .gt 27, 3) := by decide +kernel
theorem dX6_unfoldUse_15 : decode cX6_unfoldUse 15 = .ok (.aload_n 0, 1) := by decide +kernel
theorem dX6_unfoldUse_16 : decode cX6_unfoldUse 16 = .ok (.getfield 11, 3) := by decide +kernel
theorem dX6_unfoldUse_19 : decode cX6_unfoldUse 19 = .ok (.iload_n 1, 1) := by decide +kernel
theorem dX6_unfoldUse_20 : decode cX6_unfoldUse 20 = .ok (.bipush 7, 2) := by decide +kernel
theorem dX6_unfoldUse_22 : decode cX6_unfoldUse 22 = .ok (.imul, 1) := by decide +kernel
theorem dX6_unfoldUse_23 : decode cX6_unfoldUse 23 = .ok (.iload_n 3, 1) := by decide +kernel
theorem dX6_unfoldUse_24 : decode cX6_unfoldUse 24 = .ok (.iadd, 1) := by decide +kernel
theorem dX6_unfoldUse_25 : decode cX6_unfoldUse 25 = .ok (.aload_n 0, 1) := by decide +kernel
theorem dX6_unfoldUse_26 : decode cX6_unfoldUse 26 = .ok (.iload_n 1, 1) := by decide +kernel
theorem dX6_unfoldUse_27 : decode cX6_unfoldUse 27 = .ok (.iconst 0, 1) := by decide +kernel
theorem dX6_unfoldUse_28 : decode cX6_unfoldUse 28 = .ok (.iload_n 3, 1) := by decide +kernel
theorem dX6_unfoldUse_29 : decode cX6_unfoldUse 29 = .ok (.invokevirtual 47, 3) := by decide +kernel
theorem dX6_unfoldUse_32 : decode cX6_unfoldUse 32 = .ok (.iastore, 1) := by decide +kernel
theorem dX6_unfoldUse_33 : decode cX6_unfoldUse 33 = .ok (.iinc 3 1, 3) := by decide +kernel
theorem dX6_unfoldUse_36 : decode cX6_unfoldUse 36 = .ok (.goto (-27), 3) := by decide +kernel
theorem dX6_unfoldUse_39 : decode cX6_unfoldUse 39 = .ok (.iconst 0, 1) := by decide +kernel
theorem dX6_unfoldUse_40 : decode cX6_unfoldUse 40 = .ok (.istore_n 3, 1) := by decide +kernel
theorem dX6_unfoldUse_41 : decode cX6_unfoldUse 41 = .ok (.iload_n 3, 1) := by decide +kernel
theorem dX6_unfoldUse_42 : decode cX6_unfoldUse 42 = .ok (.aload_n 0, 1) := by decide +kernel
theorem dX6_unfoldUse_43 : decode cX6_unfoldUse 43 = .ok (.getfield 18, 3) := by decide +kernel
theorem dX6_unfoldUse_46 : decode cX6_unfoldUse 46 = .ok (.getfield 51, 3) := by decide +kernel
theorem dX6_unfoldUse_49 : decode cX6_unfoldUse 49 = .ok (.iload_n 2, 1) := by decide +kernel
theorem dX6_unfoldUse_50 : decode cX6_unfoldUse 50 = .ok (.iaload, 1) := by decide +kernel
theorem dX6_unfoldUse_51 : decode cX6_unfoldUse 51 = .ok (.if_icmp .ge 123, 3) := by decide +kernel
theorem dX6_unfoldUse_54 : decode cX6_unfoldUse 54 = .ok (.iload_n 2, 1) := by decide +kernel
theorem dX6_unfoldUse_55 : decode cX6_unfoldUse 55 = .ok (.iload_n 3, 1) := by decide +kernel
theorem dX6_unfoldUse_56 : decode cX6_unfoldUse 56 = .ok (.invokestatic 56, 3) := by decide +kernel
theorem dX6_unfoldUse_59 : decode cX6_unfoldUse 59 = .ok (.istore 4, 2) := by decide +kernel
theorem dX6_unfoldUse_61 : decode cX6_unfoldUse 61 = .ok (.aload_n 0, 1) := by decide +kernel
theorem dX6_unfoldUse_62 : decode cX6_unfoldUse 62 = .ok (.getfield 18, 3) := by decide +kernel
theorem dX6_unfoldUse_65 : decode cX6_unfoldUse 65 = .ok (.iload 4, 2) := by decide +kernel
theorem dX6_unfoldUse_67 : decode cX6_unfoldUse 67 = .ok (.iconst 0, 1) := by decide +kernel
theorem dX6_unfoldUse_68 : decode cX6_unfoldUse 68 = .ok (.invokevirtual 59, 3) := by decide +kernel
theorem dX6_unfoldUse_71 : decode cX6_unfoldUse 71 = .ok (.istore 5, 2) := by decide +kernel
theorem dX6_unfoldUse_73 : decode cX6_unfoldUse 73 = .ok (.iconst (-1), 1) := by decide +kernel
theorem dX6_unfoldUse_74 : decode cX6_unfoldUse 74 = .ok (.istore 6, 2) := by decide +kernel
theorem dX6_unfoldUse_76 : decode cX6_unfoldUse 76 = .ok (.iload 5, 2) := by decide +kernel
theorem dX6_unfoldUse_78 : decode cX6_unfoldUse 78 = .ok (.iconst 1, 1) := by decide +kernel
theorem dX6_unfoldUse_79 : decode cX6_unfoldUse 79 = .ok (.if_icmp .ne 45, 3) := by decide +kernel
theorem dX6_unfoldUse_82 : decode cX6_unfoldUse 82 = .ok (.aload_n 0, 1) := by decide +kernel
theorem dX6_unfoldUse_83 : decode cX6_unfoldUse 83 = .ok (.aload_n 0, 1) := by decide +kernel
theorem dX6_unfoldUse_84 : decode cX6_unfoldUse 84 = .ok (.getfield 18, 3) := by decide +kernel
theorem dX6_unfoldUse_87 : decode cX6_unfoldUse 87 = .ok (.iload 4, 2) := by decide +kernel
theorem dX6_unfoldUse_89 : decode cX6_unfoldUse 89 = .ok (.iconst 1, 1) := by decide +kernel
theorem dX6_unfoldUse_90 : decode cX6_unfoldUse 90 = .ok (.invokevirtual 59, 3) := by decide +kernel
theorem dX6_unfoldUse_93 : decode cX6_unfoldUse 93 = .ok (.iload_n 1, 1) := by decide +kernel
theorem dX6_unfoldUse_94 : decode cX6_unfoldUse 94 = .ok (.iload_n 3, 1) := by decide +kernel
theorem dX6_unfoldUse_95 : decode cX6_unfoldUse 95 = .ok (.aload_n 0, 1) := by decide +kernel
theorem dX6_unfoldUse_96 : decode cX6_unfoldUse 96 = .ok (.iload_n 1, 1) := by decide +kernel
theorem dX6_unfoldUse_97 : decode cX6_unfoldUse 97 = .ok (.iload_n 3, 1) := by decide +kernel
theorem dX6_unfoldUse_98 : decode cX6_unfoldUse 98 = .ok (.iconst 3, 1) := by decide +kernel
theorem dX6_unfoldUse_99 : decode cX6_unfoldUse 99 = .ok (.invokevirtual 47, 3) := by decide +kernel
theorem dX6_unfoldUse_102 : decode cX6_unfoldUse 102 = .ok (.aload_n 0, 1) := by decide +kernel
theorem dX6_unfoldUse_103 : decode cX6_unfoldUse 103 = .ok (.iload_n 1, 1) := by decide +kernel
theorem dX6_unfoldUse_104 : decode cX6_unfoldUse 104 = .ok (.iload_n 3, 1) := by decide +kernel
theorem dX6_unfoldUse_105 : decode cX6_unfoldUse 105 = .ok (.iconst 4, 1) := by decide +kernel
theorem dX6_unfoldUse_106 : decode cX6_unfoldUse 106 = .ok (.invokevirtual 47, 3) := by decide +kernel
theorem dX6_unfoldUse_109 : decode cX6_unfoldUse 109 = .ok (.aload_n 0, 1) := by decide +kernel
theorem dX6_unfoldUse_110 : decode cX6_unfoldUse 110 = .ok (.iload_n 1, 1) := by decide +kernel
theorem dX6_unfoldUse_111 : decode cX6_unfoldUse 111 = .ok (.iload_n 3, 1) := by decide +kernel
theorem dX6_unfoldUse_112 : decode cX6_unfoldUse 112 = .ok (.iconst 1, 1) := by decide +kernel
theorem dX6_unfoldUse_113 : decode cX6_unfoldUse 113 = .ok (.invokevirtual 47, 3) := by decide +kernel
theorem dX6_unfoldUse_116 : decode cX6_unfoldUse 116 = .ok (.invokevirtual 35, 3) := by decide +kernel
theorem dX6_unfoldUse_119 : decode cX6_unfoldUse 119 = .ok (.istore 6, 2) := by decide +kernel
theorem dX6_unfoldUse_121 : decode cX6_unfoldUse 121 = .ok (.goto 26, 3) := by decide +kernel
theorem dX6_unfoldUse_124 : decode cX6_unfoldUse 124 = .ok (.iload 5, 2) := by decide +kernel
theorem dX6_unfoldUse_126 : decode cX6_unfoldUse 126 = .ok (.ifCond .ne 21, 3) := by decide +kernel
theorem dX6_unfoldUse_129 : decode cX6_unfoldUse 129 = .ok (.aload_n 0, 1) := by decide +kernel
theorem dX6_unfoldUse_130 : decode cX6_unfoldUse 130 = .ok (.iload_n 1, 1) := by decide +kernel
theorem dX6_unfoldUse_131 : decode cX6_unfoldUse 131 = .ok (.iload_n 3, 1) := by decide +kernel
theorem dX6_unfoldUse_132 : decode cX6_unfoldUse 132 = .ok (.iload 4, 2) := by decide +kernel
theorem dX6_unfoldUse_134 : decode cX6_unfoldUse 134 = .ok (.invokevirtual 62, 3) := by decide +kernel
theorem dX6_unfoldUse_137 : decode cX6_unfoldUse 137 = .ok (.istore 6, 2) := by decide +kernel
theorem dX6_unfoldUse_139 : decode cX6_unfoldUse 139 = .ok (.aload_n 0, 1) := by decide +kernel
theorem dX6_unfoldUse_140 : decode cX6_unfoldUse 140 = .ok (.iload_n 1, 1) := by decide +kernel
theorem dX6_unfoldUse_141 : decode cX6_unfoldUse 141 = .ok (.iload_n 3, 1) := by decide +kernel
theorem dX6_unfoldUse_142 : decode cX6_unfoldUse 142 = .ok (.iload 4, 2) := by decide +kernel
theorem dX6_unfoldUse_144 : decode cX6_unfoldUse 144 = .ok (.invokevirtual 65, 3) := by decide +kernel
theorem dX6_unfoldUse_147 : decode cX6_unfoldUse 147 = .ok (.aload_n 0, 1) := by decide +kernel
theorem dX6_unfoldUse_148 : decode cX6_unfoldUse 148 = .ok (.iload_n 1, 1) := by decide +kernel
theorem dX6_unfoldUse_149 : decode cX6_unfoldUse 149 = .ok (.iload_n 3, 1) := by decide +kernel
theorem dX6_unfoldUse_150 : decode cX6_unfoldUse 150 = .ok (.iconst 2, 1) := by decide +kernel
theorem dX6_unfoldUse_151 : decode cX6_unfoldUse 151 = .ok (.iload 6, 2) := by decide +kernel
theorem dX6_unfoldUse_153 : decode cX6_unfoldUse 153 = .ok (.invokevirtual 69, 3) := by decide +kernel
theorem dX6_unfoldUse_156 : decode cX6_unfoldUse 156 = .ok (.iload 6, 2) := by decide +kernel
theorem dX6_unfoldUse_158 : decode cX6_unfoldUse 158 = .ok (.iconst (-1), 1) := by decide +kernel
theorem dX6_unfoldUse_159 : decode cX6_unfoldUse 159 = .ok (.if_icmp .eq 9, 3) := by decide +kernel
theorem dX6_unfoldUse_162 : decode cX6_unfoldUse 162 = .ok (.aload_n 0, 1) := by decide +kernel
theorem dX6_unfoldUse_163 : decode cX6_unfoldUse 163 = .ok (.iload 6, 2) := by decide +kernel
theorem dX6_unfoldUse_165 : decode cX6_unfoldUse 165 = .ok (.invokevirtual 39, 3) := by decide +kernel
theorem dX6_unfoldUse_168 : decode cX6_unfoldUse 168 = .ok (.iinc 3 1, 3) := by decide +kernel
theorem dX6_unfoldUse_171 : decode cX6_unfoldUse 171 = .ok (.goto (-130), 3) := by decide +kernel
theorem dX6_unfoldUse_174 : decode cX6_unfoldUse 174 = .ok (.return_, 1) := by decide +kernel
theorem dX6_startInitial_0 : decode cX6_startInitial 0 = .ok (.iload 6, 2) := by decide +kernel
theorem dX6_startInitial_2 : decode cX6_startInitial 2 = .ok (.istore 7, 2) := by decide +kernel
theorem dX6_startInitial_4 : decode cX6_startInitial 4 = .ok (.iconst 0, 1) := by decide +kernel
theorem dX6_startInitial_5 : decode cX6_startInitial 5 = .ok (.istore 8, 2) := by decide +kernel
theorem dX6_startInitial_7 : decode cX6_startInitial 7 = .ok (.iload 8, 2) := by decide +kernel
theorem dX6_startInitial_9 : decode cX6_startInitial 9 = .ok (.aload_n 0, 1) := by decide +kernel
theorem dX6_startInitial_10 : decode cX6_startInitial 10 = .ok (.getfield 18, 3) := by decide +kernel
theorem dX6_startInitial_13 : decode cX6_startInitial 13 = .ok (.getfield 73, 3) := by decide +kernel
theorem dX6_startInitial_16 : decode cX6_startInitial 16 = .ok (.if_icmp .ge 109, 3) := by decide +kernel
theorem dX6_startInitial_19 : decode cX6_startInitial 19 = .ok (.aload_n 0, 1) := by decide +kernel
theorem dX6_startInitial_20 : decode cX6_startInitial 20 = .ok (.getfield 26, 3) := by decide +kernel
theorem dX6_startInitial_23 : decode cX6_startInitial 23 = .ok (.bipush 8, 2) := by decide +kernel
theorem dX6_startInitial_25 : decode cX6_startInitial 25 = .ok (.if_icmp .ge 100, 3) := by decide +kernel
theorem dX6_startInitial_28 : decode cX6_startInitial 28 = .ok (.aload_n 0, 1) := by decide +kernel
theorem dX6_startInitial_29 : decode cX6_startInitial 29 = .ok (.getfield 18, 3) := by decide +kernel
theorem dX6_startInitial_32 : decode cX6_startInitial 32 = .ok (.iload 8, 2) := by decide +kernel
theorem dX6_startInitial_34 : decode cX6_startInitial 34 = .ok (.invokevirtual 76, 3) := by decide +kernel
theorem dX6_startInitial_37 : decode cX6_startInitial 37 = .ok (.iload_n 1, 1) := by decide +kernel
theorem dX6_startInitial_38 : decode cX6_startInitial 38 = .ok (.if_icmp .ne 81, 3) := by decide +kernel
theorem dX6_startInitial_41 : decode cX6_startInitial 41 = .ok (.aload_n 0, 1) := by decide +kernel
theorem dX6_startInitial_42 : decode cX6_startInitial 42 = .ok (.getfield 18, 3) := by decide +kernel
theorem dX6_startInitial_45 : decode cX6_startInitial 45 = .ok (.iload 8, 2) := by decide +kernel
theorem dX6_startInitial_47 : decode cX6_startInitial 47 = .ok (.invokevirtual 80, 3) := by decide +kernel
theorem dX6_startInitial_50 : decode cX6_startInitial 50 = .ok (.ifCond .eq 6, 3) := by decide +kernel
theorem dX6_startInitial_53 : decode cX6_startInitial 53 = .ok (.goto 66, 3) := by decide +kernel
theorem dX6_startInitial_56 : decode cX6_startInitial 56 = .ok (.aload_n 0, 1) := by decide +kernel
theorem dX6_startInitial_57 : decode cX6_startInitial 57 = .ok (.getfield 22, 3) := by decide +kernel
theorem dX6_startInitial_60 : decode cX6_startInitial 60 = .ok (.iload 8, 2) := by decide +kernel
theorem dX6_startInitial_62 : decode cX6_startInitial 62 = .ok (.iconst 0, 1) := by decide +kernel
theorem dX6_startInitial_63 : decode cX6_startInitial 63 = .ok (.invokestatic 56, 3) := by decide +kernel
theorem dX6_startInitial_66 : decode cX6_startInitial 66 = .ok (.iload 4, 2) := by decide +kernel
theorem dX6_startInitial_68 : decode cX6_startInitial 68 = .ok (.iload 5, 2) := by decide +kernel
theorem dX6_startInitial_70 : decode cX6_startInitial 70 = .ok (.iconst (-1), 1) := by decide +kernel
theorem dX6_startInitial_71 : decode cX6_startInitial 71 = .ok (.iconst (-1), 1) := by decide +kernel
theorem dX6_startInitial_72 : decode cX6_startInitial 72 = .ok (.invokevirtual 84, 3) := by decide +kernel
theorem dX6_startInitial_75 : decode cX6_startInitial 75 = .ok (.istore 9, 2) := by decide +kernel
theorem dX6_startInitial_77 : decode cX6_startInitial 77 = .ok (.iload 7, 2) := by decide +kernel
theorem dX6_startInitial_79 : decode cX6_startInitial 79 = .ok (.iload 9, 2) := by decide +kernel
theorem dX6_startInitial_81 : decode cX6_startInitial 81 = .ok (.if_icmp .ge 31, 3) := by decide +kernel
theorem dX6_startInitial_84 : decode cX6_startInitial 84 = .ok (.aload_n 0, 1) := by decide +kernel
theorem dX6_startInitial_85 : decode cX6_startInitial 85 = .ok (.iload 8, 2) := by decide +kernel
theorem dX6_startInitial_87 : decode cX6_startInitial 87 = .ok (.iload_n 2, 1) := by decide +kernel
theorem dX6_startInitial_88 : decode cX6_startInitial 88 = .ok (.iload_n 3, 1) := by decide +kernel
theorem dX6_startInitial_89 : decode cX6_startInitial 89 = .ok (.invokevirtual 88, 3) := by decide +kernel
theorem dX6_startInitial_92 : decode cX6_startInitial 92 = .ok (.istore 10, 2) := by decide +kernel
theorem dX6_startInitial_94 : decode cX6_startInitial 94 = .ok (.aload_n 0, 1) := by decide +kernel
theorem dX6_startInitial_95 : decode cX6_startInitial 95 = .ok (.iload 10, 2) := by decide +kernel
theorem dX6_startInitial_97 : decode cX6_startInitial 97 = .ok (.iconst 0, 1) := by decide +kernel
theorem dX6_startInitial_98 : decode cX6_startInitial 98 = .ok (.iload 4, 2) := by decide +kernel
theorem dX6_startInitial_100 : decode cX6_startInitial 100 = .ok (.iload 5, 2) := by decide +kernel
theorem dX6_startInitial_102 : decode cX6_startInitial 102 = .ok (.iconst (-1), 1) := by decide +kernel
theorem dX6_startInitial_103 : decode cX6_startInitial 103 = .ok (.iconst (-1), 1) := by decide +kernel
theorem dX6_startInitial_104 : decode cX6_startInitial 104 = .ok (.iload 7, 2) := by decide +kernel
theorem dX6_startInitial_106 : decode cX6_startInitial 106 = .ok (.invokevirtual 91, 3) := by decide +kernel
theorem dX6_startInitial_109 : decode cX6_startInitial 109 = .ok (.iload 10, 2) := by decide +kernel
theorem dX6_startInitial_111 : decode cX6_startInitial 111 = .ok (.ireturn, 1) := by decide +kernel
theorem dX6_startInitial_112 : decode cX6_startInitial 112 = .ok (.iload 7, 2) := by decide +kernel
theorem dX6_startInitial_114 : decode cX6_startInitial 114 = .ok (.iload 9, 2) := by decide +kernel
theorem dX6_startInitial_116 : decode cX6_startInitial 116 = .ok (.isub, 1) := by decide +kernel
theorem dX6_startInitial_117 : decode cX6_startInitial 117 = .ok (.istore 7, 2) := by decide +kernel
theorem dX6_startInitial_119 : decode cX6_startInitial 119 = .ok (.iinc 8 1, 3) := by decide +kernel
theorem dX6_startInitial_122 : decode cX6_startInitial 122 = .ok (.goto (-115), 3) := by decide +kernel
theorem dX6_startInitial_125 : decode cX6_startInitial 125 = .ok (.iconst (-1), 1) := by decide +kernel
theorem dX6_startInitial_126 : decode cX6_startInitial 126 = .ok (.ireturn, 1) := by decide +kernel
theorem dX6_startAuxiliary_0 : decode cX6_startAuxiliary 0 = .ok (.aload_n 0, 1) := by decide +kernel
theorem dX6_startAuxiliary_1 : decode cX6_startAuxiliary 1 = .ok (.iload_n 1, 1) := by decide +kernel
theorem dX6_startAuxiliary_2 : decode cX6_startAuxiliary 2 = .ok (.iload_n 2, 1) := by decide +kernel
theorem dX6_startAuxiliary_3 : decode cX6_startAuxiliary 3 = .ok (.iconst 1, 1) := by decide +kernel
theorem dX6_startAuxiliary_4 : decode cX6_startAuxiliary 4 = .ok (.invokevirtual 47, 3) := by decide +kernel
theorem dX6_startAuxiliary_7 : decode cX6_startAuxiliary 7 = .ok (.istore 4, 2) := by decide +kernel
theorem dX6_startAuxiliary_9 : decode cX6_startAuxiliary 9 = .ok (.aload_n 0, 1) := by decide +kernel
theorem dX6_startAuxiliary_10 : decode cX6_startAuxiliary 10 = .ok (.getfield 18, 3) := by decide +kernel
theorem dX6_startAuxiliary_13 : decode cX6_startAuxiliary 13 = .ok (.iload_n 3, 1) := by decide +kernel
theorem dX6_startAuxiliary_14 : decode cX6_startAuxiliary 14 = .ok (.iconst 4, 1) := by decide +kernel
theorem dX6_startAuxiliary_15 : decode cX6_startAuxiliary 15 = .ok (.invokevirtual 59, 3) := by decide +kernel
theorem dX6_startAuxiliary_18 : decode cX6_startAuxiliary 18 = .ok (.iconst 1, 1) := by decide +kernel
theorem dX6_startAuxiliary_19 : decode cX6_startAuxiliary 19 = .ok (.if_icmp .eq 7, 3) := by decide +kernel
theorem dX6_startAuxiliary_22 : decode cX6_startAuxiliary 22 = .ok (.iconst 1, 1) := by decide +kernel
theorem dX6_startAuxiliary_23 : decode cX6_startAuxiliary 23 = .ok (.goto 4, 3) := by decide +kernel
theorem dX6_startAuxiliary_26 : decode cX6_startAuxiliary 26 = .ok (.iconst 0, 1) := by decide +kernel
theorem dX6_startAuxiliary_27 : decode cX6_startAuxiliary 27 = .ok (.istore 5, 2) := by decide +kernel
theorem dX6_startAuxiliary_29 : decode cX6_startAuxiliary 29 = .ok (.iload 5, 2) := by decide +kernel
theorem dX6_startAuxiliary_31 : decode cX6_startAuxiliary 31 = .ok (.ifCond .eq 43, 3) := by decide +kernel
theorem dX6_startAuxiliary_34 : decode cX6_startAuxiliary 34 = .ok (.aload_n 0, 1) := by decide +kernel
theorem dX6_startAuxiliary_35 : decode cX6_startAuxiliary 35 = .ok (.getfield 22, 3) := by decide +kernel
theorem dX6_startAuxiliary_38 : decode cX6_startAuxiliary 38 = .ok (.iload_n 3, 1) := by decide +kernel
theorem dX6_startAuxiliary_39 : decode cX6_startAuxiliary 39 = .ok (.aload_n 0, 1) := by decide +kernel
theorem dX6_startAuxiliary_40 : decode cX6_startAuxiliary 40 = .ok (.iload_n 1, 1) := by decide +kernel
theorem dX6_startAuxiliary_41 : decode cX6_startAuxiliary 41 = .ok (.iload_n 2, 1) := by decide +kernel
theorem dX6_startAuxiliary_42 : decode cX6_startAuxiliary 42 = .ok (.iconst 3, 1) := by decide +kernel
theorem dX6_startAuxiliary_43 : decode cX6_startAuxiliary 43 = .ok (.invokevirtual 47, 3) := by decide +kernel
theorem dX6_startAuxiliary_46 : decode cX6_startAuxiliary 46 = .ok (.aload_n 0, 1) := by decide +kernel
theorem dX6_startAuxiliary_47 : decode cX6_startAuxiliary 47 = .ok (.iload_n 1, 1) := by decide +kernel
theorem dX6_startAuxiliary_48 : decode cX6_startAuxiliary 48 = .ok (.iload_n 2, 1) := by decide +kernel
theorem dX6_startAuxiliary_49 : decode cX6_startAuxiliary 49 = .ok (.iconst 4, 1) := by decide +kernel
theorem dX6_startAuxiliary_50 : decode cX6_startAuxiliary 50 = .ok (.invokevirtual 47, 3) := by decide +kernel
theorem dX6_startAuxiliary_53 : decode cX6_startAuxiliary 53 = .ok (.aload_n 0, 1) := by decide +kernel
theorem dX6_startAuxiliary_54 : decode cX6_startAuxiliary 54 = .ok (.iload_n 1, 1) := by decide +kernel
theorem dX6_startAuxiliary_55 : decode cX6_startAuxiliary 55 = .ok (.iload_n 2, 1) := by decide +kernel
theorem dX6_startAuxiliary_56 : decode cX6_startAuxiliary 56 = .ok (.iconst 5, 1) := by decide +kernel
theorem dX6_startAuxiliary_57 : decode cX6_startAuxiliary 57 = .ok (.invokevirtual 47, 3) := by decide +kernel
theorem dX6_startAuxiliary_60 : decode cX6_startAuxiliary 60 = .ok (.aload_n 0, 1) := by decide +kernel
theorem dX6_startAuxiliary_61 : decode cX6_startAuxiliary 61 = .ok (.iload_n 1, 1) := by decide +kernel
theorem dX6_startAuxiliary_62 : decode cX6_startAuxiliary 62 = .ok (.iload_n 2, 1) := by decide +kernel
theorem dX6_startAuxiliary_63 : decode cX6_startAuxiliary 63 = .ok (.bipush 6, 2) := by decide +kernel
theorem dX6_startAuxiliary_65 : decode cX6_startAuxiliary 65 = .ok (.invokevirtual 47, 3) := by decide +kernel
theorem dX6_startAuxiliary_68 : decode cX6_startAuxiliary 68 = .ok (.invokevirtual 95, 3) := by decide +kernel
theorem dX6_startAuxiliary_71 : decode cX6_startAuxiliary 71 = .ok (.goto 4, 3) := by decide +kernel
theorem dX6_startAuxiliary_74 : decode cX6_startAuxiliary 74 = .ok (.iconst 0, 1) := by decide +kernel
theorem dX6_startAuxiliary_75 : decode cX6_startAuxiliary 75 = .ok (.istore 6, 2) := by decide +kernel
theorem dX6_startAuxiliary_77 : decode cX6_startAuxiliary 77 = .ok (.iload 4, 2) := by decide +kernel
theorem dX6_startAuxiliary_79 : decode cX6_startAuxiliary 79 = .ok (.iload 6, 2) := by decide +kernel
theorem dX6_startAuxiliary_81 : decode cX6_startAuxiliary 81 = .ok (.if_icmp .ge 5, 3) := by decide +kernel
theorem dX6_startAuxiliary_84 : decode cX6_startAuxiliary 84 = .ok (.iconst (-1), 1) := by decide +kernel
theorem dX6_startAuxiliary_85 : decode cX6_startAuxiliary 85 = .ok (.ireturn, 1) := by decide +kernel
theorem dX6_startAuxiliary_86 : decode cX6_startAuxiliary 86 = .ok (.aload_n 0, 1) := by decide +kernel
theorem dX6_startAuxiliary_87 : decode cX6_startAuxiliary 87 = .ok (.iload_n 1, 1) := by decide +kernel
theorem dX6_startAuxiliary_88 : decode cX6_startAuxiliary 88 = .ok (.iload_n 2, 1) := by decide +kernel
theorem dX6_startAuxiliary_89 : decode cX6_startAuxiliary 89 = .ok (.iconst 1, 1) := by decide +kernel
theorem dX6_startAuxiliary_90 : decode cX6_startAuxiliary 90 = .ok (.iload 4, 2) := by decide +kernel
theorem dX6_startAuxiliary_92 : decode cX6_startAuxiliary 92 = .ok (.iload 6, 2) := by decide +kernel
theorem dX6_startAuxiliary_94 : decode cX6_startAuxiliary 94 = .ok (.isub, 1) := by decide +kernel
theorem dX6_startAuxiliary_95 : decode cX6_startAuxiliary 95 = .ok (.invokevirtual 69, 3) := by decide +kernel
theorem dX6_startAuxiliary_98 : decode cX6_startAuxiliary 98 = .ok (.iconst (-1), 1) := by decide +kernel
theorem dX6_startAuxiliary_99 : decode cX6_startAuxiliary 99 = .ok (.istore 7, 2) := by decide +kernel
theorem dX6_startAuxiliary_101 : decode cX6_startAuxiliary 101 = .ok (.iconst 0, 1) := by decide +kernel
theorem dX6_startAuxiliary_102 : decode cX6_startAuxiliary 102 = .ok (.istore 8, 2) := by decide +kernel
theorem dX6_startAuxiliary_104 : decode cX6_startAuxiliary 104 = .ok (.iload 8, 2) := by decide +kernel
theorem dX6_startAuxiliary_106 : decode cX6_startAuxiliary 106 = .ok (.aload_n 0, 1) := by decide +kernel
theorem dX6_startAuxiliary_107 : decode cX6_startAuxiliary 107 = .ok (.getfield 18, 3) := by decide +kernel
theorem dX6_startAuxiliary_110 : decode cX6_startAuxiliary 110 = .ok (.getfield 73, 3) := by decide +kernel
theorem dX6_startAuxiliary_113 : decode cX6_startAuxiliary 113 = .ok (.if_icmp .ge 68, 3) := by decide +kernel
theorem dX6_startAuxiliary_116 : decode cX6_startAuxiliary 116 = .ok (.iload 7, 2) := by decide +kernel
theorem dX6_startAuxiliary_118 : decode cX6_startAuxiliary 118 = .ok (.iconst (-1), 1) := by decide +kernel
theorem dX6_startAuxiliary_119 : decode cX6_startAuxiliary 119 = .ok (.if_icmp .ne 62, 3) := by decide +kernel
theorem dX6_startAuxiliary_122 : decode cX6_startAuxiliary 122 = .ok (.aload_n 0, 1) := by decide +kernel
theorem dX6_startAuxiliary_123 : decode cX6_startAuxiliary 123 = .ok (.getfield 18, 3) := by decide +kernel
theorem dX6_startAuxiliary_126 : decode cX6_startAuxiliary 126 = .ok (.iload 8, 2) := by decide +kernel
theorem dX6_startAuxiliary_128 : decode cX6_startAuxiliary 128 = .ok (.invokevirtual 76, 3) := by decide +kernel
theorem dX6_startAuxiliary_131 : decode cX6_startAuxiliary 131 = .ok (.aload_n 0, 1) := by decide +kernel
theorem dX6_startAuxiliary_132 : decode cX6_startAuxiliary 132 = .ok (.getfield 18, 3) := by decide +kernel
theorem dX6_startAuxiliary_135 : decode cX6_startAuxiliary 135 = .ok (.iload_n 3, 1) := by decide +kernel
theorem dX6_startAuxiliary_136 : decode cX6_startAuxiliary 136 = .ok (.iconst 1, 1) := by decide +kernel
theorem dX6_startAuxiliary_137 : decode cX6_startAuxiliary 137 = .ok (.invokevirtual 59, 3) := by decide +kernel
theorem dX6_startAuxiliary_140 : decode cX6_startAuxiliary 140 = .ok (.if_icmp .ne 35, 3) := by decide +kernel
theorem dX6_startAuxiliary_143 : decode cX6_startAuxiliary 143 = .ok (.aload_n 0, 1) := by decide +kernel
theorem dX6_startAuxiliary_144 : decode cX6_startAuxiliary 144 = .ok (.getfield 18, 3) := by decide +kernel
theorem dX6_startAuxiliary_147 : decode cX6_startAuxiliary 147 = .ok (.iload 8, 2) := by decide +kernel
theorem dX6_startAuxiliary_149 : decode cX6_startAuxiliary 149 = .ok (.invokevirtual 80, 3) := by decide +kernel
theorem dX6_startAuxiliary_152 : decode cX6_startAuxiliary 152 = .ok (.ifCond .eq 23, 3) := by decide +kernel
theorem dX6_startAuxiliary_155 : decode cX6_startAuxiliary 155 = .ok (.aload_n 0, 1) := by decide +kernel
theorem dX6_startAuxiliary_156 : decode cX6_startAuxiliary 156 = .ok (.getfield 26, 3) := by decide +kernel
theorem dX6_startAuxiliary_159 : decode cX6_startAuxiliary 159 = .ok (.bipush 8, 2) := by decide +kernel
theorem dX6_startAuxiliary_161 : decode cX6_startAuxiliary 161 = .ok (.if_icmp .ge 14, 3) := by decide +kernel
theorem dX6_startAuxiliary_164 : decode cX6_startAuxiliary 164 = .ok (.aload_n 0, 1) := by decide +kernel
theorem dX6_startAuxiliary_165 : decode cX6_startAuxiliary 165 = .ok (.iload_n 1, 1) := by decide +kernel
theorem dX6_startAuxiliary_166 : decode cX6_startAuxiliary 166 = .ok (.iload_n 2, 1) := by decide +kernel
theorem dX6_startAuxiliary_167 : decode cX6_startAuxiliary 167 = .ok (.iload_n 3, 1) := by decide +kernel
theorem dX6_startAuxiliary_168 : decode cX6_startAuxiliary 168 = .ok (.iload 8, 2) := by decide +kernel
theorem dX6_startAuxiliary_170 : decode cX6_startAuxiliary 170 = .ok (.invokevirtual 98, 3) := by decide +kernel
theorem dX6_startAuxiliary_173 : decode cX6_startAuxiliary 173 = .ok (.istore 7, 2) := by decide +kernel
theorem dX6_startAuxiliary_175 : decode cX6_startAuxiliary 175 = .ok (.iinc 8 1, 3) := by decide +kernel
theorem dX6_startAuxiliary_178 : decode cX6_startAuxiliary 178 = .ok (.goto (-74), 3) := by decide +kernel
theorem dX6_startAuxiliary_181 : decode cX6_startAuxiliary 181 = .ok (.iload 7, 2) := by decide +kernel
theorem dX6_startAuxiliary_183 : decode cX6_startAuxiliary 183 = .ok (.ireturn, 1) := by decide +kernel
theorem dX6_tryAuxiliary_0 : decode cX6_tryAuxiliary 0 = .ok (.aload_n 0, 1) := by decide +kernel
theorem dX6_tryAuxiliary_1 : decode cX6_tryAuxiliary 1 = .ok (.iload_n 1, 1) := by decide +kernel
theorem dX6_tryAuxiliary_2 : decode cX6_tryAuxiliary 2 = .ok (.iload_n 2, 1) := by decide +kernel
theorem dX6_tryAuxiliary_3 : decode cX6_tryAuxiliary 3 = .ok (.iconst 3, 1) := by decide +kernel
theorem dX6_tryAuxiliary_4 : decode cX6_tryAuxiliary 4 = .ok (.invokevirtual 47, 3) := by decide +kernel
theorem dX6_tryAuxiliary_7 : decode cX6_tryAuxiliary 7 = .ok (.istore 5, 2) := by decide +kernel
theorem dX6_tryAuxiliary_9 : decode cX6_tryAuxiliary 9 = .ok (.aload_n 0, 1) := by decide +kernel
theorem dX6_tryAuxiliary_10 : decode cX6_tryAuxiliary 10 = .ok (.iload_n 1, 1) := by decide +kernel
theorem dX6_tryAuxiliary_11 : decode cX6_tryAuxiliary 11 = .ok (.iload_n 2, 1) := by decide +kernel
theorem dX6_tryAuxiliary_12 : decode cX6_tryAuxiliary 12 = .ok (.iconst 4, 1) := by decide +kernel
theorem dX6_tryAuxiliary_13 : decode cX6_tryAuxiliary 13 = .ok (.invokevirtual 47, 3) := by decide +kernel
theorem dX6_tryAuxiliary_16 : decode cX6_tryAuxiliary 16 = .ok (.istore 6, 2) := by decide +kernel
theorem dX6_tryAuxiliary_18 : decode cX6_tryAuxiliary 18 = .ok (.aload_n 0, 1) := by decide +kernel
theorem dX6_tryAuxiliary_19 : decode cX6_tryAuxiliary 19 = .ok (.iload_n 1, 1) := by decide +kernel
theorem dX6_tryAuxiliary_20 : decode cX6_tryAuxiliary 20 = .ok (.iload_n 2, 1) := by decide +kernel
theorem dX6_tryAuxiliary_21 : decode cX6_tryAuxiliary 21 = .ok (.iconst 5, 1) := by decide +kernel
theorem dX6_tryAuxiliary_22 : decode cX6_tryAuxiliary 22 = .ok (.invokevirtual 47, 3) := by decide +kernel
theorem dX6_tryAuxiliary_25 : decode cX6_tryAuxiliary 25 = .ok (.istore 7, 2) := by decide +kernel
theorem dX6_tryAuxiliary_27 : decode cX6_tryAuxiliary 27 = .ok (.aload_n 0, 1) := by decide +kernel
theorem dX6_tryAuxiliary_28 : decode cX6_tryAuxiliary 28 = .ok (.iload_n 1, 1) := by decide +kernel
theorem dX6_tryAuxiliary_29 : decode cX6_tryAuxiliary 29 = .ok (.iload_n 2, 1) := by decide +kernel
theorem dX6_tryAuxiliary_30 : decode cX6_tryAuxiliary 30 = .ok (.bipush 6, 2) := by decide +kernel
theorem dX6_tryAuxiliary_32 : decode cX6_tryAuxiliary 32 = .ok (.invokevirtual 47, 3) := by decide +kernel
theorem dX6_tryAuxiliary_35 : decode cX6_tryAuxiliary 35 = .ok (.istore 8, 2) := by decide +kernel
theorem dX6_tryAuxiliary_37 : decode cX6_tryAuxiliary 37 = .ok (.aload_n 0, 1) := by decide +kernel
theorem dX6_tryAuxiliary_38 : decode cX6_tryAuxiliary 38 = .ok (.iload_n 1, 1) := by decide +kernel
theorem dX6_tryAuxiliary_39 : decode cX6_tryAuxiliary 39 = .ok (.iload_n 2, 1) := by decide +kernel
theorem dX6_tryAuxiliary_40 : decode cX6_tryAuxiliary 40 = .ok (.iconst 1, 1) := by decide +kernel
theorem dX6_tryAuxiliary_41 : decode cX6_tryAuxiliary 41 = .ok (.invokevirtual 47, 3) := by decide +kernel
theorem dX6_tryAuxiliary_44 : decode cX6_tryAuxiliary 44 = .ok (.istore 9, 2) := by decide +kernel
theorem dX6_tryAuxiliary_46 : decode cX6_tryAuxiliary 46 = .ok (.aload_n 0, 1) := by decide +kernel
theorem dX6_tryAuxiliary_47 : decode cX6_tryAuxiliary 47 = .ok (.getfield 22, 3) := by decide +kernel
theorem dX6_tryAuxiliary_50 : decode cX6_tryAuxiliary 50 = .ok (.iload_n 3, 1) := by decide +kernel
theorem dX6_tryAuxiliary_51 : decode cX6_tryAuxiliary 51 = .ok (.iload 7, 2) := by decide +kernel
theorem dX6_tryAuxiliary_53 : decode cX6_tryAuxiliary 53 = .ok (.iload 8, 2) := by decide +kernel
theorem dX6_tryAuxiliary_55 : decode cX6_tryAuxiliary 55 = .ok (.invokevirtual 102, 3) := by decide +kernel
theorem dX6_tryAuxiliary_58 : decode cX6_tryAuxiliary 58 = .ok (.istore 10, 2) := by decide +kernel
theorem dX6_tryAuxiliary_60 : decode cX6_tryAuxiliary 60 = .ok (.aload_n 0, 1) := by decide +kernel
theorem dX6_tryAuxiliary_61 : decode cX6_tryAuxiliary 61 = .ok (.getfield 22, 3) := by decide +kernel
theorem dX6_tryAuxiliary_64 : decode cX6_tryAuxiliary 64 = .ok (.iload 6, 2) := by decide +kernel
theorem dX6_tryAuxiliary_66 : decode cX6_tryAuxiliary 66 = .ok (.iload 7, 2) := by decide +kernel
theorem dX6_tryAuxiliary_68 : decode cX6_tryAuxiliary 68 = .ok (.iload 10, 2) := by decide +kernel
theorem dX6_tryAuxiliary_70 : decode cX6_tryAuxiliary 70 = .ok (.invokevirtual 105, 3) := by decide +kernel
theorem dX6_tryAuxiliary_73 : decode cX6_tryAuxiliary 73 = .ok (.istore 11, 2) := by decide +kernel
theorem dX6_tryAuxiliary_75 : decode cX6_tryAuxiliary 75 = .ok (.iload 5, 2) := by decide +kernel
theorem dX6_tryAuxiliary_77 : decode cX6_tryAuxiliary 77 = .ok (.istore 12, 2) := by decide +kernel
theorem dX6_tryAuxiliary_79 : decode cX6_tryAuxiliary 79 = .ok (.iload 12, 2) := by decide +kernel
theorem dX6_tryAuxiliary_81 : decode cX6_tryAuxiliary 81 = .ok (.iload 11, 2) := by decide +kernel
theorem dX6_tryAuxiliary_83 : decode cX6_tryAuxiliary 83 = .ok (.if_icmp .gt 158, 3) := by decide +kernel
theorem dX6_tryAuxiliary_86 : decode cX6_tryAuxiliary 86 = .ok (.iload 12, 2) := by decide +kernel
theorem dX6_tryAuxiliary_88 : decode cX6_tryAuxiliary 88 = .ok (.iload 10, 2) := by decide +kernel
theorem dX6_tryAuxiliary_90 : decode cX6_tryAuxiliary 90 = .ok (.iadd, 1) := by decide +kernel
theorem dX6_tryAuxiliary_91 : decode cX6_tryAuxiliary 91 = .ok (.iload 8, 2) := by decide +kernel
theorem dX6_tryAuxiliary_93 : decode cX6_tryAuxiliary 93 = .ok (.invokestatic 108, 3) := by decide +kernel
theorem dX6_tryAuxiliary_96 : decode cX6_tryAuxiliary 96 = .ok (.istore 13, 2) := by decide +kernel
theorem dX6_tryAuxiliary_98 : decode cX6_tryAuxiliary 98 = .ok (.iload 13, 2) := by decide +kernel
theorem dX6_tryAuxiliary_100 : decode cX6_tryAuxiliary 100 = .ok (.iload 6, 2) := by decide +kernel
theorem dX6_tryAuxiliary_102 : decode cX6_tryAuxiliary 102 = .ok (.if_icmp .gt 133, 3) := by decide +kernel
theorem dX6_tryAuxiliary_105 : decode cX6_tryAuxiliary 105 = .ok (.aload_n 0, 1) := by decide +kernel
theorem dX6_tryAuxiliary_106 : decode cX6_tryAuxiliary 106 = .ok (.getfield 22, 3) := by decide +kernel
theorem dX6_tryAuxiliary_109 : decode cX6_tryAuxiliary 109 = .ok (.iload 4, 2) := by decide +kernel
theorem dX6_tryAuxiliary_111 : decode cX6_tryAuxiliary 111 = .ok (.iconst 0, 1) := by decide +kernel
theorem dX6_tryAuxiliary_112 : decode cX6_tryAuxiliary 112 = .ok (.invokestatic 56, 3) := by decide +kernel
theorem dX6_tryAuxiliary_115 : decode cX6_tryAuxiliary 115 = .ok (.iload 5, 2) := by decide +kernel
theorem dX6_tryAuxiliary_117 : decode cX6_tryAuxiliary 117 = .ok (.iload 6, 2) := by decide +kernel
theorem dX6_tryAuxiliary_119 : decode cX6_tryAuxiliary 119 = .ok (.iload 12, 2) := by decide +kernel
theorem dX6_tryAuxiliary_121 : decode cX6_tryAuxiliary 121 = .ok (.iload 13, 2) := by decide +kernel
theorem dX6_tryAuxiliary_123 : decode cX6_tryAuxiliary 123 = .ok (.invokevirtual 84, 3) := by decide +kernel
theorem dX6_tryAuxiliary_126 : decode cX6_tryAuxiliary 126 = .ok (.i2l, 1) := by decide +kernel
theorem dX6_tryAuxiliary_127 : decode cX6_tryAuxiliary 127 = .ok (.lstore 14, 2) := by decide +kernel
theorem dX6_tryAuxiliary_129 : decode cX6_tryAuxiliary 129 = .ok (.aload_n 0, 1) := by decide +kernel
theorem dX6_tryAuxiliary_130 : decode cX6_tryAuxiliary 130 = .ok (.getfield 22, 3) := by decide +kernel
theorem dX6_tryAuxiliary_133 : decode cX6_tryAuxiliary 133 = .ok (.iload_n 3, 1) := by decide +kernel
theorem dX6_tryAuxiliary_134 : decode cX6_tryAuxiliary 134 = .ok (.iload 12, 2) := by decide +kernel
theorem dX6_tryAuxiliary_136 : decode cX6_tryAuxiliary 136 = .ok (.iload 13, 2) := by decide +kernel
theorem dX6_tryAuxiliary_138 : decode cX6_tryAuxiliary 138 = .ok (.iload 7, 2) := by decide +kernel
theorem dX6_tryAuxiliary_140 : decode cX6_tryAuxiliary 140 = .ok (.iload 8, 2) := by decide +kernel
theorem dX6_tryAuxiliary_142 : decode cX6_tryAuxiliary 142 = .ok (.invokevirtual 95, 3) := by decide +kernel
theorem dX6_tryAuxiliary_145 : decode cX6_tryAuxiliary 145 = .ok (.istore 16, 2) := by decide +kernel
theorem dX6_tryAuxiliary_147 : decode cX6_tryAuxiliary 147 = .ok (.lload 14, 2) := by decide +kernel
theorem dX6_tryAuxiliary_149 : decode cX6_tryAuxiliary 149 = .ok (.iload 16, 2) := by decide +kernel
theorem dX6_tryAuxiliary_151 : decode cX6_tryAuxiliary 151 = .ok (.i2l, 1) := by decide +kernel
theorem dX6_tryAuxiliary_152 : decode cX6_tryAuxiliary 152 = .ok (.lmul, 1) := by decide +kernel
theorem dX6_tryAuxiliary_153 : decode cX6_tryAuxiliary 153 = .ok (.invokestatic 113, 3) := by decide +kernel
theorem dX6_tryAuxiliary_156 : decode cX6_tryAuxiliary 156 = .ok (.istore 17, 2) := by decide +kernel
theorem dX6_tryAuxiliary_158 : decode cX6_tryAuxiliary 158 = .ok (.iload 16, 2) := by decide +kernel
theorem dX6_tryAuxiliary_160 : decode cX6_tryAuxiliary 160 = .ok (.ifCond .le 62, 3) := by decide +kernel
theorem dX6_tryAuxiliary_163 : decode cX6_tryAuxiliary 163 = .ok (.iload 9, 2) := by decide +kernel
theorem dX6_tryAuxiliary_165 : decode cX6_tryAuxiliary 165 = .ok (.iload 17, 2) := by decide +kernel
theorem dX6_tryAuxiliary_167 : decode cX6_tryAuxiliary 167 = .ok (.if_icmp .ge 55, 3) := by decide +kernel
theorem dX6_tryAuxiliary_170 : decode cX6_tryAuxiliary 170 = .ok (.aload_n 0, 1) := by decide +kernel
theorem dX6_tryAuxiliary_171 : decode cX6_tryAuxiliary 171 = .ok (.iload 4, 2) := by decide +kernel
theorem dX6_tryAuxiliary_173 : decode cX6_tryAuxiliary 173 = .ok (.iload_n 1, 1) := by decide +kernel
theorem dX6_tryAuxiliary_174 : decode cX6_tryAuxiliary 174 = .ok (.iload_n 2, 1) := by decide +kernel
theorem dX6_tryAuxiliary_175 : decode cX6_tryAuxiliary 175 = .ok (.invokevirtual 88, 3) := by decide +kernel
theorem dX6_tryAuxiliary_178 : decode cX6_tryAuxiliary 178 = .ok (.istore 18, 2) := by decide +kernel
theorem dX6_tryAuxiliary_180 : decode cX6_tryAuxiliary 180 = .ok (.aload_n 0, 1) := by decide +kernel
theorem dX6_tryAuxiliary_181 : decode cX6_tryAuxiliary 181 = .ok (.iload 18, 2) := by decide +kernel
theorem dX6_tryAuxiliary_183 : decode cX6_tryAuxiliary 183 = .ok (.iconst 0, 1) := by decide +kernel
theorem dX6_tryAuxiliary_184 : decode cX6_tryAuxiliary 184 = .ok (.iload 5, 2) := by decide +kernel
theorem dX6_tryAuxiliary_186 : decode cX6_tryAuxiliary 186 = .ok (.iload 6, 2) := by decide +kernel
theorem dX6_tryAuxiliary_188 : decode cX6_tryAuxiliary 188 = .ok (.iload 12, 2) := by decide +kernel
theorem dX6_tryAuxiliary_190 : decode cX6_tryAuxiliary 190 = .ok (.iload 13, 2) := by decide +kernel
theorem dX6_tryAuxiliary_192 : decode cX6_tryAuxiliary 192 = .ok (.iload 9, 2) := by decide +kernel
theorem dX6_tryAuxiliary_194 : decode cX6_tryAuxiliary 194 = .ok (.iload 16, 2) := by decide +kernel
theorem dX6_tryAuxiliary_196 : decode cX6_tryAuxiliary 196 = .ok (.idiv, 1) := by decide +kernel
theorem dX6_tryAuxiliary_197 : decode cX6_tryAuxiliary 197 = .ok (.invokevirtual 91, 3) := by decide +kernel
theorem dX6_tryAuxiliary_200 : decode cX6_tryAuxiliary 200 = .ok (.aload_n 0, 1) := by decide +kernel
theorem dX6_tryAuxiliary_201 : decode cX6_tryAuxiliary 201 = .ok (.iload_n 1, 1) := by decide +kernel
theorem dX6_tryAuxiliary_202 : decode cX6_tryAuxiliary 202 = .ok (.iload_n 2, 1) := by decide +kernel
theorem dX6_tryAuxiliary_203 : decode cX6_tryAuxiliary 203 = .ok (.iload 12, 2) := by decide +kernel
theorem dX6_tryAuxiliary_205 : decode cX6_tryAuxiliary 205 = .ok (.iload 13, 2) := by decide +kernel
theorem dX6_tryAuxiliary_207 : decode cX6_tryAuxiliary 207 = .ok (.iload 7, 2) := by decide +kernel
theorem dX6_tryAuxiliary_209 : decode cX6_tryAuxiliary 209 = .ok (.iload 8, 2) := by decide +kernel
theorem dX6_tryAuxiliary_211 : decode cX6_tryAuxiliary 211 = .ok (.iload 9, 2) := by decide +kernel
theorem dX6_tryAuxiliary_213 : decode cX6_tryAuxiliary 213 = .ok (.iload 16, 2) := by decide +kernel
theorem dX6_tryAuxiliary_215 : decode cX6_tryAuxiliary 215 = .ok (.irem, 1) := by decide +kernel
theorem dX6_tryAuxiliary_216 : decode cX6_tryAuxiliary 216 = .ok (.invokevirtual 91, 3) := by decide +kernel
theorem dX6_tryAuxiliary_219 : decode cX6_tryAuxiliary 219 = .ok (.iload 18, 2) := by decide +kernel
theorem dX6_tryAuxiliary_221 : decode cX6_tryAuxiliary 221 = .ok (.ireturn, 1) := by decide +kernel
theorem dX6_tryAuxiliary_222 : decode cX6_tryAuxiliary 222 = .ok (.iload 9, 2) := by decide +kernel
theorem dX6_tryAuxiliary_224 : decode cX6_tryAuxiliary 224 = .ok (.iload 17, 2) := by decide +kernel
theorem dX6_tryAuxiliary_226 : decode cX6_tryAuxiliary 226 = .ok (.isub, 1) := by decide +kernel
theorem dX6_tryAuxiliary_227 : decode cX6_tryAuxiliary 227 = .ok (.istore 9, 2) := by decide +kernel
theorem dX6_tryAuxiliary_229 : decode cX6_tryAuxiliary 229 = .ok (.iinc 13 1, 3) := by decide +kernel
theorem dX6_tryAuxiliary_232 : decode cX6_tryAuxiliary 232 = .ok (.goto (-134), 3) := by decide +kernel
theorem dX6_tryAuxiliary_235 : decode cX6_tryAuxiliary 235 = .ok (.iinc 12 1, 3) := by decide +kernel
theorem dX6_tryAuxiliary_238 : decode cX6_tryAuxiliary 238 = .ok (.goto (-159), 3) := by decide +kernel
theorem dX6_tryAuxiliary_241 : decode cX6_tryAuxiliary 241 = .ok (.aload_n 0, 1) := by decide +kernel
theorem dX6_tryAuxiliary_242 : decode cX6_tryAuxiliary 242 = .ok (.iload_n 1, 1) := by decide +kernel
theorem dX6_tryAuxiliary_243 : decode cX6_tryAuxiliary 243 = .ok (.iload_n 2, 1) := by decide +kernel
theorem dX6_tryAuxiliary_244 : decode cX6_tryAuxiliary 244 = .ok (.iconst 1, 1) := by decide +kernel
theorem dX6_tryAuxiliary_245 : decode cX6_tryAuxiliary 245 = .ok (.iload 9, 2) := by decide +kernel
theorem dX6_tryAuxiliary_247 : decode cX6_tryAuxiliary 247 = .ok (.invokevirtual 69, 3) := by decide +kernel
theorem dX6_tryAuxiliary_250 : decode cX6_tryAuxiliary 250 = .ok (.iconst (-1), 1) := by decide +kernel
theorem dX6_tryAuxiliary_251 : decode cX6_tryAuxiliary 251 = .ok (.ireturn, 1) := by decide +kernel
theorem dX6_layParts_0 : decode cX6_layParts 0 = .ok (.iload_n 2, 1) := by decide +kernel
theorem dX6_layParts_1 : decode cX6_layParts 1 = .ok (.iconst 1, 1) := by decide +kernel
theorem dX6_layParts_2 : decode cX6_layParts 2 = .ok (.iadd, 1) := by decide +kernel
theorem dX6_layParts_3 : decode cX6_layParts 3 = .ok (.istore 4, 2) := by decide +kernel
theorem dX6_layParts_5 : decode cX6_layParts 5 = .ok (.aload_n 0, 1) := by decide +kernel
theorem dX6_layParts_6 : decode cX6_layParts 6 = .ok (.iload_n 1, 1) := by decide +kernel
theorem dX6_layParts_7 : decode cX6_layParts 7 = .ok (.iload 4, 2) := by decide +kernel
theorem dX6_layParts_9 : decode cX6_layParts 9 = .ok (.aload_n 0, 1) := by decide +kernel
theorem dX6_layParts_10 : decode cX6_layParts 10 = .ok (.iload_n 1, 1) := by decide +kernel
theorem dX6_layParts_11 : decode cX6_layParts 11 = .ok (.iload_n 2, 1) := by decide +kernel
theorem dX6_layParts_12 : decode cX6_layParts 12 = .ok (.iconst 3, 1) := by decide +kernel
theorem dX6_layParts_13 : decode cX6_layParts 13 = .ok (.invokevirtual 47, 3) := by decide +kernel
theorem dX6_layParts_16 : decode cX6_layParts 16 = .ok (.aload_n 0, 1) := by decide +kernel
theorem dX6_layParts_17 : decode cX6_layParts 17 = .ok (.iload_n 1, 1) := by decide +kernel
theorem dX6_layParts_18 : decode cX6_layParts 18 = .ok (.iload_n 2, 1) := by decide +kernel
theorem dX6_layParts_19 : decode cX6_layParts 19 = .ok (.iconst 4, 1) := by decide +kernel
theorem dX6_layParts_20 : decode cX6_layParts 20 = .ok (.invokevirtual 47, 3) := by decide +kernel
theorem dX6_layParts_23 : decode cX6_layParts 23 = .ok (.aload_n 0, 1) := by decide +kernel
theorem dX6_layParts_24 : decode cX6_layParts 24 = .ok (.iload_n 1, 1) := by decide +kernel
theorem dX6_layParts_25 : decode cX6_layParts 25 = .ok (.iload_n 2, 1) := by decide +kernel
theorem dX6_layParts_26 : decode cX6_layParts 26 = .ok (.iconst 5, 1) := by decide +kernel
theorem dX6_layParts_27 : decode cX6_layParts 27 = .ok (.invokevirtual 47, 3) := by decide +kernel
theorem dX6_layParts_30 : decode cX6_layParts 30 = .ok (.aload_n 0, 1) := by decide +kernel
theorem dX6_layParts_31 : decode cX6_layParts 31 = .ok (.iload_n 1, 1) := by decide +kernel
theorem dX6_layParts_32 : decode cX6_layParts 32 = .ok (.iload_n 2, 1) := by decide +kernel
theorem dX6_layParts_33 : decode cX6_layParts 33 = .ok (.bipush 6, 2) := by decide +kernel
theorem dX6_layParts_35 : decode cX6_layParts 35 = .ok (.invokevirtual 47, 3) := by decide +kernel
theorem dX6_layParts_38 : decode cX6_layParts 38 = .ok (.aload_n 0, 1) := by decide +kernel
theorem dX6_layParts_39 : decode cX6_layParts 39 = .ok (.iload_n 1, 1) := by decide +kernel
theorem dX6_layParts_40 : decode cX6_layParts 40 = .ok (.iload_n 2, 1) := by decide +kernel
theorem dX6_layParts_41 : decode cX6_layParts 41 = .ok (.iconst 1, 1) := by decide +kernel
theorem dX6_layParts_42 : decode cX6_layParts 42 = .ok (.invokevirtual 47, 3) := by decide +kernel
theorem dX6_layParts_45 : decode cX6_layParts 45 = .ok (.invokevirtual 91, 3) := by decide +kernel
theorem dX6_layParts_48 : decode cX6_layParts 48 = .ok (.iconst 1, 1) := by decide +kernel
theorem dX6_layParts_49 : decode cX6_layParts 49 = .ok (.istore 5, 2) := by decide +kernel
theorem dX6_layParts_51 : decode cX6_layParts 51 = .ok (.iload 5, 2) := by decide +kernel
theorem dX6_layParts_53 : decode cX6_layParts 53 = .ok (.aload_n 0, 1) := by decide +kernel
theorem dX6_layParts_54 : decode cX6_layParts 54 = .ok (.getfield 18, 3) := by decide +kernel
theorem dX6_layParts_57 : decode cX6_layParts 57 = .ok (.iload_n 3, 1) := by decide +kernel
theorem dX6_layParts_58 : decode cX6_layParts 58 = .ok (.iconst 3, 1) := by decide +kernel
theorem dX6_layParts_59 : decode cX6_layParts 59 = .ok (.invokevirtual 59, 3) := by decide +kernel
theorem dX6_layParts_62 : decode cX6_layParts 62 = .ok (.if_icmp .ge 24, 3) := by decide +kernel
theorem dX6_layParts_65 : decode cX6_layParts 65 = .ok (.aload_n 0, 1) := by decide +kernel
theorem dX6_layParts_66 : decode cX6_layParts 66 = .ok (.iload_n 1, 1) := by decide +kernel
theorem dX6_layParts_67 : decode cX6_layParts 67 = .ok (.iload 4, 2) := by decide +kernel
theorem dX6_layParts_69 : decode cX6_layParts 69 = .ok (.iload_n 3, 1) := by decide +kernel
theorem dX6_layParts_70 : decode cX6_layParts 70 = .ok (.iload_n 2, 1) := by decide +kernel
theorem dX6_layParts_71 : decode cX6_layParts 71 = .ok (.isub, 1) := by decide +kernel
theorem dX6_layParts_72 : decode cX6_layParts 72 = .ok (.iload 4, 2) := by decide +kernel
theorem dX6_layParts_74 : decode cX6_layParts 74 = .ok (.iadd, 1) := by decide +kernel
theorem dX6_layParts_75 : decode cX6_layParts 75 = .ok (.invokevirtual 117, 3) := by decide +kernel
theorem dX6_layParts_78 : decode cX6_layParts 78 = .ok (.istore 4, 2) := by decide +kernel
theorem dX6_layParts_80 : decode cX6_layParts 80 = .ok (.iinc 5 1, 3) := by decide +kernel
theorem dX6_layParts_83 : decode cX6_layParts 83 = .ok (.goto (-32), 3) := by decide +kernel
theorem dX6_layParts_86 : decode cX6_layParts 86 = .ok (.return_, 1) := by decide +kernel
theorem dX6_splitOff_0 : decode cX6_splitOff 0 = .ok (.aload_n 0, 1) := by decide +kernel
theorem dX6_splitOff_1 : decode cX6_splitOff 1 = .ok (.iload_n 1, 1) := by decide +kernel
theorem dX6_splitOff_2 : decode cX6_splitOff 2 = .ok (.iload_n 2, 1) := by decide +kernel
theorem dX6_splitOff_3 : decode cX6_splitOff 3 = .ok (.iconst 3, 1) := by decide +kernel
theorem dX6_splitOff_4 : decode cX6_splitOff 4 = .ok (.invokevirtual 47, 3) := by decide +kernel
theorem dX6_splitOff_7 : decode cX6_splitOff 7 = .ok (.istore 4, 2) := by decide +kernel
theorem dX6_splitOff_9 : decode cX6_splitOff 9 = .ok (.aload_n 0, 1) := by decide +kernel
theorem dX6_splitOff_10 : decode cX6_splitOff 10 = .ok (.iload_n 1, 1) := by decide +kernel
theorem dX6_splitOff_11 : decode cX6_splitOff 11 = .ok (.iload_n 2, 1) := by decide +kernel
theorem dX6_splitOff_12 : decode cX6_splitOff 12 = .ok (.iconst 4, 1) := by decide +kernel
theorem dX6_splitOff_13 : decode cX6_splitOff 13 = .ok (.invokevirtual 47, 3) := by decide +kernel
theorem dX6_splitOff_16 : decode cX6_splitOff 16 = .ok (.istore 5, 2) := by decide +kernel
theorem dX6_splitOff_18 : decode cX6_splitOff 18 = .ok (.aload_n 0, 1) := by decide +kernel
theorem dX6_splitOff_19 : decode cX6_splitOff 19 = .ok (.iload_n 1, 1) := by decide +kernel
theorem dX6_splitOff_20 : decode cX6_splitOff 20 = .ok (.iload_n 2, 1) := by decide +kernel
theorem dX6_splitOff_21 : decode cX6_splitOff 21 = .ok (.iconst 5, 1) := by decide +kernel
theorem dX6_splitOff_22 : decode cX6_splitOff 22 = .ok (.invokevirtual 47, 3) := by decide +kernel
theorem dX6_splitOff_25 : decode cX6_splitOff 25 = .ok (.istore 6, 2) := by decide +kernel
theorem dX6_splitOff_27 : decode cX6_splitOff 27 = .ok (.aload_n 0, 1) := by decide +kernel
theorem dX6_splitOff_28 : decode cX6_splitOff 28 = .ok (.iload_n 1, 1) := by decide +kernel
theorem dX6_splitOff_29 : decode cX6_splitOff 29 = .ok (.iload_n 2, 1) := by decide +kernel
theorem dX6_splitOff_30 : decode cX6_splitOff 30 = .ok (.bipush 6, 2) := by decide +kernel
theorem dX6_splitOff_32 : decode cX6_splitOff 32 = .ok (.invokevirtual 47, 3) := by decide +kernel
theorem dX6_splitOff_35 : decode cX6_splitOff 35 = .ok (.istore 7, 2) := by decide +kernel
theorem dX6_splitOff_37 : decode cX6_splitOff 37 = .ok (.aload_n 0, 1) := by decide +kernel
theorem dX6_splitOff_38 : decode cX6_splitOff 38 = .ok (.iload_n 1, 1) := by decide +kernel
theorem dX6_splitOff_39 : decode cX6_splitOff 39 = .ok (.iload_n 2, 1) := by decide +kernel
theorem dX6_splitOff_40 : decode cX6_splitOff 40 = .ok (.iconst 1, 1) := by decide +kernel
theorem dX6_splitOff_41 : decode cX6_splitOff 41 = .ok (.invokevirtual 47, 3) := by decide +kernel
theorem dX6_splitOff_44 : decode cX6_splitOff 44 = .ok (.istore 8, 2) := by decide +kernel
theorem dX6_splitOff_46 : decode cX6_splitOff 46 = .ok (.aload_n 0, 1) := by decide +kernel
theorem dX6_splitOff_47 : decode cX6_splitOff 47 = .ok (.getfield 18, 3) := by decide +kernel
theorem dX6_splitOff_50 : decode cX6_splitOff 50 = .ok (.iload_n 3, 1) := by decide +kernel
theorem dX6_splitOff_51 : decode cX6_splitOff 51 = .ok (.iconst 5, 1) := by decide +kernel
theorem dX6_splitOff_52 : decode cX6_splitOff 52 = .ok (.invokevirtual 59, 3) := by decide +kernel
theorem dX6_splitOff_55 : decode cX6_splitOff 55 = .ok (.iload_n 3, 1) := by decide +kernel
theorem dX6_splitOff_56 : decode cX6_splitOff 56 = .ok (.isub, 1) := by decide +kernel
theorem dX6_splitOff_57 : decode cX6_splitOff 57 = .ok (.iload_n 2, 1) := by decide +kernel
theorem dX6_splitOff_58 : decode cX6_splitOff 58 = .ok (.iadd, 1) := by decide +kernel
theorem dX6_splitOff_59 : decode cX6_splitOff 59 = .ok (.istore 9, 2) := by decide +kernel
theorem dX6_splitOff_61 : decode cX6_splitOff 61 = .ok (.aload_n 0, 1) := by decide +kernel
theorem dX6_splitOff_62 : decode cX6_splitOff 62 = .ok (.getfield 18, 3) := by decide +kernel
theorem dX6_splitOff_65 : decode cX6_splitOff 65 = .ok (.iload_n 3, 1) := by decide +kernel
theorem dX6_splitOff_66 : decode cX6_splitOff 66 = .ok (.invokevirtual 120, 3) := by decide +kernel
theorem dX6_splitOff_69 : decode cX6_splitOff 69 = .ok (.istore 10, 2) := by decide +kernel
theorem dX6_splitOff_71 : decode cX6_splitOff 71 = .ok (.aload_n 0, 1) := by decide +kernel
theorem dX6_splitOff_72 : decode cX6_splitOff 72 = .ok (.getfield 22, 3) := by decide +kernel
theorem dX6_splitOff_75 : decode cX6_splitOff 75 = .ok (.iload_n 3, 1) := by decide +kernel
theorem dX6_splitOff_76 : decode cX6_splitOff 76 = .ok (.iload 5, 2) := by decide +kernel
theorem dX6_splitOff_78 : decode cX6_splitOff 78 = .ok (.iload 6, 2) := by decide +kernel
theorem dX6_splitOff_80 : decode cX6_splitOff 80 = .ok (.invokevirtual 123, 3) := by decide +kernel
theorem dX6_splitOff_83 : decode cX6_splitOff 83 = .ok (.istore 11, 2) := by decide +kernel
theorem dX6_splitOff_85 : decode cX6_splitOff 85 = .ok (.aload_n 0, 1) := by decide +kernel
theorem dX6_splitOff_86 : decode cX6_splitOff 86 = .ok (.getfield 22, 3) := by decide +kernel
theorem dX6_splitOff_89 : decode cX6_splitOff 89 = .ok (.iload_n 3, 1) := by decide +kernel
theorem dX6_splitOff_90 : decode cX6_splitOff 90 = .ok (.iload 4, 2) := by decide +kernel
theorem dX6_splitOff_92 : decode cX6_splitOff 92 = .ok (.iload 7, 2) := by decide +kernel
theorem dX6_splitOff_94 : decode cX6_splitOff 94 = .ok (.invokevirtual 126, 3) := by decide +kernel
theorem dX6_splitOff_97 : decode cX6_splitOff 97 = .ok (.istore 12, 2) := by decide +kernel
theorem dX6_splitOff_99 : decode cX6_splitOff 99 = .ok (.iload 12, 2) := by decide +kernel
theorem dX6_splitOff_101 : decode cX6_splitOff 101 = .ok (.iload 11, 2) := by decide +kernel
theorem dX6_splitOff_103 : decode cX6_splitOff 103 = .ok (.if_icmp .gt 154, 3) := by decide +kernel
theorem dX6_splitOff_106 : decode cX6_splitOff 106 = .ok (.aload_n 0, 1) := by decide +kernel
theorem dX6_splitOff_107 : decode cX6_splitOff 107 = .ok (.getfield 22, 3) := by decide +kernel
theorem dX6_splitOff_110 : decode cX6_splitOff 110 = .ok (.iload_n 3, 1) := by decide +kernel
theorem dX6_splitOff_111 : decode cX6_splitOff 111 = .ok (.iload 4, 2) := by decide +kernel
theorem dX6_splitOff_113 : decode cX6_splitOff 113 = .ok (.iload 12, 2) := by decide +kernel
theorem dX6_splitOff_115 : decode cX6_splitOff 115 = .ok (.iload 6, 2) := by decide +kernel
theorem dX6_splitOff_117 : decode cX6_splitOff 117 = .ok (.iload 7, 2) := by decide +kernel
theorem dX6_splitOff_119 : decode cX6_splitOff 119 = .ok (.invokevirtual 129, 3) := by decide +kernel
theorem dX6_splitOff_122 : decode cX6_splitOff 122 = .ok (.i2l, 1) := by decide +kernel
theorem dX6_splitOff_123 : decode cX6_splitOff 123 = .ok (.lstore 13, 2) := by decide +kernel
theorem dX6_splitOff_125 : decode cX6_splitOff 125 = .ok (.aload_n 0, 1) := by decide +kernel
theorem dX6_splitOff_126 : decode cX6_splitOff 126 = .ok (.getfield 22, 3) := by decide +kernel
theorem dX6_splitOff_129 : decode cX6_splitOff 129 = .ok (.iload_n 3, 1) := by decide +kernel
theorem dX6_splitOff_130 : decode cX6_splitOff 130 = .ok (.iload 12, 2) := by decide +kernel
theorem dX6_splitOff_132 : decode cX6_splitOff 132 = .ok (.iload 5, 2) := by decide +kernel
theorem dX6_splitOff_134 : decode cX6_splitOff 134 = .ok (.iload 6, 2) := by decide +kernel
theorem dX6_splitOff_136 : decode cX6_splitOff 136 = .ok (.iload 7, 2) := by decide +kernel
theorem dX6_splitOff_138 : decode cX6_splitOff 138 = .ok (.invokevirtual 132, 3) := by decide +kernel
theorem dX6_splitOff_141 : decode cX6_splitOff 141 = .ok (.istore 15, 2) := by decide +kernel
theorem dX6_splitOff_143 : decode cX6_splitOff 143 = .ok (.lload 13, 2) := by decide +kernel
theorem dX6_splitOff_145 : decode cX6_splitOff 145 = .ok (.iload 15, 2) := by decide +kernel
theorem dX6_splitOff_147 : decode cX6_splitOff 147 = .ok (.i2l, 1) := by decide +kernel
theorem dX6_splitOff_148 : decode cX6_splitOff 148 = .ok (.lmul, 1) := by decide +kernel
theorem dX6_splitOff_149 : decode cX6_splitOff 149 = .ok (.invokestatic 113, 3) := by decide +kernel
theorem dX6_splitOff_152 : decode cX6_splitOff 152 = .ok (.istore 16, 2) := by decide +kernel
theorem dX6_splitOff_154 : decode cX6_splitOff 154 = .ok (.iload 15, 2) := by decide +kernel
theorem dX6_splitOff_156 : decode cX6_splitOff 156 = .ok (.ifCond .le 88, 3) := by decide +kernel
theorem dX6_splitOff_159 : decode cX6_splitOff 159 = .ok (.iload 8, 2) := by decide +kernel
theorem dX6_splitOff_161 : decode cX6_splitOff 161 = .ok (.iload 16, 2) := by decide +kernel
theorem dX6_splitOff_163 : decode cX6_splitOff 163 = .ok (.if_icmp .ge 81, 3) := by decide +kernel
theorem dX6_splitOff_166 : decode cX6_splitOff 166 = .ok (.aload_n 0, 1) := by decide +kernel
theorem dX6_splitOff_167 : decode cX6_splitOff 167 = .ok (.iload_n 1, 1) := by decide +kernel
theorem dX6_splitOff_168 : decode cX6_splitOff 168 = .ok (.iload_n 2, 1) := by decide +kernel
theorem dX6_splitOff_169 : decode cX6_splitOff 169 = .ok (.iload 4, 2) := by decide +kernel
theorem dX6_splitOff_171 : decode cX6_splitOff 171 = .ok (.iload 12, 2) := by decide +kernel
theorem dX6_splitOff_173 : decode cX6_splitOff 173 = .ok (.iload 10, 2) := by decide +kernel
theorem dX6_splitOff_175 : decode cX6_splitOff 175 = .ok (.ifCond .eq 8, 3) := by decide +kernel
theorem dX6_splitOff_178 : decode cX6_splitOff 178 = .ok (.iload 6, 2) := by decide +kernel
theorem dX6_splitOff_180 : decode cX6_splitOff 180 = .ok (.goto 4, 3) := by decide +kernel
theorem dX6_splitOff_183 : decode cX6_splitOff 183 = .ok (.iconst (-1), 1) := by decide +kernel
theorem dX6_splitOff_184 : decode cX6_splitOff 184 = .ok (.iload 10, 2) := by decide +kernel
theorem dX6_splitOff_186 : decode cX6_splitOff 186 = .ok (.ifCond .eq 8, 3) := by decide +kernel
theorem dX6_splitOff_189 : decode cX6_splitOff 189 = .ok (.iload 7, 2) := by decide +kernel
theorem dX6_splitOff_191 : decode cX6_splitOff 191 = .ok (.goto 4, 3) := by decide +kernel
theorem dX6_splitOff_194 : decode cX6_splitOff 194 = .ok (.iconst (-1), 1) := by decide +kernel
theorem dX6_splitOff_195 : decode cX6_splitOff 195 = .ok (.iload 8, 2) := by decide +kernel
theorem dX6_splitOff_197 : decode cX6_splitOff 197 = .ok (.iload 15, 2) := by decide +kernel
theorem dX6_splitOff_199 : decode cX6_splitOff 199 = .ok (.idiv, 1) := by decide +kernel
theorem dX6_splitOff_200 : decode cX6_splitOff 200 = .ok (.invokevirtual 91, 3) := by decide +kernel
theorem dX6_splitOff_203 : decode cX6_splitOff 203 = .ok (.aload_n 0, 1) := by decide +kernel
theorem dX6_splitOff_204 : decode cX6_splitOff 204 = .ok (.iload_n 1, 1) := by decide +kernel
theorem dX6_splitOff_205 : decode cX6_splitOff 205 = .ok (.iload 9, 2) := by decide +kernel
theorem dX6_splitOff_207 : decode cX6_splitOff 207 = .ok (.iload 12, 2) := by decide +kernel
theorem dX6_splitOff_209 : decode cX6_splitOff 209 = .ok (.iload 5, 2) := by decide +kernel
theorem dX6_splitOff_211 : decode cX6_splitOff 211 = .ok (.iload 10, 2) := by decide +kernel
theorem dX6_splitOff_213 : decode cX6_splitOff 213 = .ok (.ifCond .eq 7, 3) := by decide +kernel
theorem dX6_splitOff_216 : decode cX6_splitOff 216 = .ok (.iconst (-1), 1) := by decide +kernel
theorem dX6_splitOff_217 : decode cX6_splitOff 217 = .ok (.goto 5, 3) := by decide +kernel
theorem dX6_splitOff_220 : decode cX6_splitOff 220 = .ok (.iload 6, 2) := by decide +kernel
theorem dX6_splitOff_222 : decode cX6_splitOff 222 = .ok (.iload 10, 2) := by decide +kernel
theorem dX6_splitOff_224 : decode cX6_splitOff 224 = .ok (.ifCond .eq 7, 3) := by decide +kernel
theorem dX6_splitOff_227 : decode cX6_splitOff 227 = .ok (.iconst (-1), 1) := by decide +kernel
theorem dX6_splitOff_228 : decode cX6_splitOff 228 = .ok (.goto 5, 3) := by decide +kernel
theorem dX6_splitOff_231 : decode cX6_splitOff 231 = .ok (.iload 7, 2) := by decide +kernel
theorem dX6_splitOff_233 : decode cX6_splitOff 233 = .ok (.iload 8, 2) := by decide +kernel
theorem dX6_splitOff_235 : decode cX6_splitOff 235 = .ok (.iload 15, 2) := by decide +kernel
theorem dX6_splitOff_237 : decode cX6_splitOff 237 = .ok (.irem, 1) := by decide +kernel
theorem dX6_splitOff_238 : decode cX6_splitOff 238 = .ok (.invokevirtual 91, 3) := by decide +kernel
theorem dX6_splitOff_241 : decode cX6_splitOff 241 = .ok (.goto 16, 3) := by decide +kernel
theorem dX6_splitOff_244 : decode cX6_splitOff 244 = .ok (.iload 8, 2) := by decide +kernel
theorem dX6_splitOff_246 : decode cX6_splitOff 246 = .ok (.iload 16, 2) := by decide +kernel
theorem dX6_splitOff_248 : decode cX6_splitOff 248 = .ok (.isub, 1) := by decide +kernel
theorem dX6_splitOff_249 : decode cX6_splitOff 249 = .ok (.istore 8, 2) := by decide +kernel
theorem dX6_splitOff_251 : decode cX6_splitOff 251 = .ok (.iinc 12 1, 3) := by decide +kernel
theorem dX6_splitOff_254 : decode cX6_splitOff 254 = .ok (.goto (-155), 3) := by decide +kernel
theorem dX6_splitOff_257 : decode cX6_splitOff 257 = .ok (.iload 9, 2) := by decide +kernel
theorem dX6_splitOff_259 : decode cX6_splitOff 259 = .ok (.ireturn, 1) := by decide +kernel
theorem dX6_addUse_0 : decode cX6_addUse 0 = .ok (.aload_n 0, 1) := by decide +kernel
theorem dX6_addUse_1 : decode cX6_addUse 1 = .ok (.getfield 26, 3) := by decide +kernel
theorem dX6_addUse_4 : decode cX6_addUse 4 = .ok (.istore 4, 2) := by decide +kernel
theorem dX6_addUse_6 : decode cX6_addUse 6 = .ok (.aload_n 0, 1) := by decide +kernel
theorem dX6_addUse_7 : decode cX6_addUse 7 = .ok (.dup, 1) := by decide +kernel
theorem dX6_addUse_8 : decode cX6_addUse 8 = .ok (.getfield 26, 3) := by decide +kernel
theorem dX6_addUse_11 : decode cX6_addUse 11 = .ok (.iconst 1, 1) := by decide +kernel
theorem dX6_addUse_12 : decode cX6_addUse 12 = .ok (.iadd, 1) := by decide +kernel
theorem dX6_addUse_13 : decode cX6_addUse 13 = .ok (.putfield 26, 3) := by decide +kernel
theorem dX6_addUse_16 : decode cX6_addUse 16 = .ok (.aload_n 0, 1) := by decide +kernel
theorem dX6_addUse_17 : decode cX6_addUse 17 = .ok (.getfield 11, 3) := by decide +kernel
theorem dX6_addUse_20 : decode cX6_addUse 20 = .ok (.iload 4, 2) := by decide +kernel
theorem dX6_addUse_22 : decode cX6_addUse 22 = .ok (.bipush 7, 2) := by decide +kernel
theorem dX6_addUse_24 : decode cX6_addUse 24 = .ok (.imul, 1) := by decide +kernel
theorem dX6_addUse_25 : decode cX6_addUse 25 = .ok (.iconst 0, 1) := by decide +kernel
theorem dX6_addUse_26 : decode cX6_addUse 26 = .ok (.iadd, 1) := by decide +kernel
theorem dX6_addUse_27 : decode cX6_addUse 27 = .ok (.iload_n 1, 1) := by decide +kernel
theorem dX6_addUse_28 : decode cX6_addUse 28 = .ok (.iastore, 1) := by decide +kernel
theorem dX6_addUse_29 : decode cX6_addUse 29 = .ok (.aload_n 0, 1) := by decide +kernel
theorem dX6_addUse_30 : decode cX6_addUse 30 = .ok (.getfield 11, 3) := by decide +kernel
theorem dX6_addUse_33 : decode cX6_addUse 33 = .ok (.iload 4, 2) := by decide +kernel
theorem dX6_addUse_35 : decode cX6_addUse 35 = .ok (.bipush 7, 2) := by decide +kernel
theorem dX6_addUse_37 : decode cX6_addUse 37 = .ok (.imul, 1) := by decide +kernel
theorem dX6_addUse_38 : decode cX6_addUse 38 = .ok (.iconst 1, 1) := by decide +kernel
theorem dX6_addUse_39 : decode cX6_addUse 39 = .ok (.iadd, 1) := by decide +kernel
theorem dX6_addUse_40 : decode cX6_addUse 40 = .ok (.iload_n 2, 1) := by decide +kernel
theorem dX6_addUse_41 : decode cX6_addUse 41 = .ok (.iastore, 1) := by decide +kernel
theorem dX6_addUse_42 : decode cX6_addUse 42 = .ok (.aload_n 0, 1) := by decide +kernel
theorem dX6_addUse_43 : decode cX6_addUse 43 = .ok (.getfield 11, 3) := by decide +kernel
theorem dX6_addUse_46 : decode cX6_addUse 46 = .ok (.iload 4, 2) := by decide +kernel
theorem dX6_addUse_48 : decode cX6_addUse 48 = .ok (.bipush 7, 2) := by decide +kernel
theorem dX6_addUse_50 : decode cX6_addUse 50 = .ok (.imul, 1) := by decide +kernel
theorem dX6_addUse_51 : decode cX6_addUse 51 = .ok (.iconst 2, 1) := by decide +kernel
theorem dX6_addUse_52 : decode cX6_addUse 52 = .ok (.iadd, 1) := by decide +kernel
theorem dX6_addUse_53 : decode cX6_addUse 53 = .ok (.iload_n 3, 1) := by decide +kernel
theorem dX6_addUse_54 : decode cX6_addUse 54 = .ok (.iastore, 1) := by decide +kernel
theorem dX6_addUse_55 : decode cX6_addUse 55 = .ok (.iload 4, 2) := by decide +kernel
theorem dX6_addUse_57 : decode cX6_addUse 57 = .ok (.ireturn, 1) := by decide +kernel
theorem dX6_lay_0 : decode cX6_lay 0 = .ok (.aload_n 0, 1) := by decide +kernel
theorem dX6_lay_1 : decode cX6_lay 1 = .ok (.iload_n 1, 1) := by decide +kernel
theorem dX6_lay_2 : decode cX6_lay 2 = .ok (.iload_n 2, 1) := by decide +kernel
theorem dX6_lay_3 : decode cX6_lay 3 = .ok (.iconst 3, 1) := by decide +kernel
theorem dX6_lay_4 : decode cX6_lay 4 = .ok (.iload_n 3, 1) := by decide +kernel
theorem dX6_lay_5 : decode cX6_lay 5 = .ok (.invokevirtual 69, 3) := by decide +kernel
theorem dX6_lay_8 : decode cX6_lay 8 = .ok (.aload_n 0, 1) := by decide +kernel
theorem dX6_lay_9 : decode cX6_lay 9 = .ok (.iload_n 1, 1) := by decide +kernel
theorem dX6_lay_10 : decode cX6_lay 10 = .ok (.iload_n 2, 1) := by decide +kernel
theorem dX6_lay_11 : decode cX6_lay 11 = .ok (.iconst 4, 1) := by decide +kernel
theorem dX6_lay_12 : decode cX6_lay 12 = .ok (.iload 4, 2) := by decide +kernel
theorem dX6_lay_14 : decode cX6_lay 14 = .ok (.invokevirtual 69, 3) := by decide +kernel
theorem dX6_lay_17 : decode cX6_lay 17 = .ok (.aload_n 0, 1) := by decide +kernel
theorem dX6_lay_18 : decode cX6_lay 18 = .ok (.iload_n 1, 1) := by decide +kernel
theorem dX6_lay_19 : decode cX6_lay 19 = .ok (.iload_n 2, 1) := by decide +kernel
theorem dX6_lay_20 : decode cX6_lay 20 = .ok (.iconst 5, 1) := by decide +kernel
theorem dX6_lay_21 : decode cX6_lay 21 = .ok (.iload 5, 2) := by decide +kernel
theorem dX6_lay_23 : decode cX6_lay 23 = .ok (.invokevirtual 69, 3) := by decide +kernel
theorem dX6_lay_26 : decode cX6_lay 26 = .ok (.aload_n 0, 1) := by decide +kernel
theorem dX6_lay_27 : decode cX6_lay 27 = .ok (.iload_n 1, 1) := by decide +kernel
theorem dX6_lay_28 : decode cX6_lay 28 = .ok (.iload_n 2, 1) := by decide +kernel
theorem dX6_lay_29 : decode cX6_lay 29 = .ok (.bipush 6, 2) := by decide +kernel
theorem dX6_lay_31 : decode cX6_lay 31 = .ok (.iload 6, 2) := by decide +kernel
theorem dX6_lay_33 : decode cX6_lay 33 = .ok (.invokevirtual 69, 3) := by decide +kernel
theorem dX6_lay_36 : decode cX6_lay 36 = .ok (.aload_n 0, 1) := by decide +kernel
theorem dX6_lay_37 : decode cX6_lay 37 = .ok (.iload_n 1, 1) := by decide +kernel
theorem dX6_lay_38 : decode cX6_lay 38 = .ok (.iload_n 2, 1) := by decide +kernel
theorem dX6_lay_39 : decode cX6_lay 39 = .ok (.iconst 1, 1) := by decide +kernel
theorem dX6_lay_40 : decode cX6_lay 40 = .ok (.iload 7, 2) := by decide +kernel
theorem dX6_lay_42 : decode cX6_lay 42 = .ok (.invokevirtual 69, 3) := by decide +kernel
theorem dX6_lay_45 : decode cX6_lay 45 = .ok (.return_, 1) := by decide +kernel
theorem dX6_setNodeCell_0 : decode cX6_setNodeCell 0 = .ok (.aload_n 0, 1) := by decide +kernel
theorem dX6_setNodeCell_1 : decode cX6_setNodeCell 1 = .ok (.getfield 15, 3) := by decide +kernel
theorem dX6_setNodeCell_4 : decode cX6_setNodeCell 4 = .ok (.iload_n 1, 1) := by decide +kernel
theorem dX6_setNodeCell_5 : decode cX6_setNodeCell 5 = .ok (.bipush 12, 2) := by decide +kernel
theorem dX6_setNodeCell_7 : decode cX6_setNodeCell 7 = .ok (.imul, 1) := by decide +kernel
theorem dX6_setNodeCell_8 : decode cX6_setNodeCell 8 = .ok (.iload_n 2, 1) := by decide +kernel
theorem dX6_setNodeCell_9 : decode cX6_setNodeCell 9 = .ok (.iadd, 1) := by decide +kernel
theorem dX6_setNodeCell_10 : decode cX6_setNodeCell 10 = .ok (.bipush 7, 2) := by decide +kernel
theorem dX6_setNodeCell_12 : decode cX6_setNodeCell 12 = .ok (.imul, 1) := by decide +kernel
theorem dX6_setNodeCell_13 : decode cX6_setNodeCell 13 = .ok (.iload_n 3, 1) := by decide +kernel
theorem dX6_setNodeCell_14 : decode cX6_setNodeCell 14 = .ok (.iadd, 1) := by decide +kernel
theorem dX6_setNodeCell_15 : decode cX6_setNodeCell 15 = .ok (.iload 4, 2) := by decide +kernel
theorem dX6_setNodeCell_17 : decode cX6_setNodeCell 17 = .ok (.iastore, 1) := by decide +kernel
theorem dX6_setNodeCell_18 : decode cX6_setNodeCell 18 = .ok (.return_, 1) := by decide +kernel

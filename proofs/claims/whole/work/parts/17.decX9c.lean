theorem dX9_lay_404 : decode cX9_lay 404 = .ok (.iinc 16 1, 3) := by decide +kernel
theorem dX9_lay_407 : decode cX9_lay 407 = .ok (.goto (-132), 3) := by decide +kernel
theorem dX9_lay_410 : decode cX9_lay 410 = .ok (.iinc 15 1, 3) := by decide +kernel
theorem dX9_lay_413 : decode cX9_lay 413 = .ok (.goto (-182), 3) := by decide +kernel
theorem dX9_lay_416 : decode cX9_lay 416 = .ok (.iinc 14 1, 3) := by decide +kernel
theorem dX9_lay_419 : decode cX9_lay 419 = .ok (.goto (-200), 3) := by decide +kernel
theorem dX9_lay_422 : decode cX9_lay 422 = .ok (.return_, 1) := by decide +kernel
theorem dX9_layOn_0 : decode cX9_layOn 0 = .ok (.aload_n 0, 1) := by decide +kernel
theorem dX9_layOn_1 : decode cX9_layOn 1 = .ok (.getfield 41, 3) := by decide +kernel
theorem dX9_layOn_4 : decode cX9_layOn 4 = .ok (.iload_n 2, 1) := by decide +kernel
theorem dX9_layOn_5 : decode cX9_layOn 5 = .ok (.iaload, 1) := by decide +kernel
theorem dX9_layOn_6 : decode cX9_layOn 6 = .ok (.iconst (-1), 1) := by decide +kernel
theorem dX9_layOn_7 : decode cX9_layOn 7 = .ok (.if_icmp .ne 20, 3) := by decide +kernel
theorem dX9_layOn_10 : decode cX9_layOn 10 = .ok (.aload_n 0, 1) := by decide +kernel
theorem dX9_layOn_11 : decode cX9_layOn 11 = .ok (.iload_n 1, 1) := by decide +kernel
theorem dX9_layOn_12 : decode cX9_layOn 12 = .ok (.iload_n 2, 1) := by decide +kernel
theorem dX9_layOn_13 : decode cX9_layOn 13 = .ok (.iconst 0, 1) := by decide +kernel
theorem dX9_layOn_14 : decode cX9_layOn 14 = .ok (.iload_n 3, 1) := by decide +kernel
theorem dX9_layOn_15 : decode cX9_layOn 15 = .ok (.iload 4, 2) := by decide +kernel
theorem dX9_layOn_17 : decode cX9_layOn 17 = .ok (.iload 5, 2) := by decide +kernel
theorem dX9_layOn_19 : decode cX9_layOn 19 = .ok (.iload 6, 2) := by decide +kernel
theorem dX9_layOn_21 : decode cX9_layOn 21 = .ok (.lload 7, 2) := by decide +kernel
theorem dX9_layOn_23 : decode cX9_layOn 23 = .ok (.invokevirtual 285, 3) := by decide +kernel
theorem dX9_layOn_26 : decode cX9_layOn 26 = .ok (.return_, 1) := by decide +kernel
theorem dX9_layOn_27 : decode cX9_layOn 27 = .ok (.lload 7, 2) := by decide +kernel
theorem dX9_layOn_29 : decode cX9_layOn 29 = .ok (.lstore 9, 2) := by decide +kernel
theorem dX9_layOn_31 : decode cX9_layOn 31 = .ok (.iload_n 3, 1) := by decide +kernel
theorem dX9_layOn_32 : decode cX9_layOn 32 = .ok (.istore 11, 2) := by decide +kernel
theorem dX9_layOn_34 : decode cX9_layOn 34 = .ok (.lload 9, 2) := by decide +kernel
theorem dX9_layOn_36 : decode cX9_layOn 36 = .ok (.aload_n 0, 1) := by decide +kernel
theorem dX9_layOn_37 : decode cX9_layOn 37 = .ok (.iload_n 2, 1) := by decide +kernel
theorem dX9_layOn_38 : decode cX9_layOn 38 = .ok (.iload_n 3, 1) := by decide +kernel
theorem dX9_layOn_39 : decode cX9_layOn 39 = .ok (.iload 11, 2) := by decide +kernel
theorem dX9_layOn_41 : decode cX9_layOn 41 = .ok (.iload 4, 2) := by decide +kernel
theorem dX9_layOn_43 : decode cX9_layOn 43 = .ok (.iload 5, 2) := by decide +kernel
theorem dX9_layOn_45 : decode cX9_layOn 45 = .ok (.iload 6, 2) := by decide +kernel
theorem dX9_layOn_47 : decode cX9_layOn 47 = .ok (.invokevirtual 240, 3) := by decide +kernel
theorem dX9_layOn_50 : decode cX9_layOn 50 = .ok (.lcmp, 1) := by decide +kernel
theorem dX9_layOn_51 : decode cX9_layOn 51 = .ok (.ifCond .lt 28, 3) := by decide +kernel
theorem dX9_layOn_54 : decode cX9_layOn 54 = .ok (.lload 9, 2) := by decide +kernel
theorem dX9_layOn_56 : decode cX9_layOn 56 = .ok (.aload_n 0, 1) := by decide +kernel
theorem dX9_layOn_57 : decode cX9_layOn 57 = .ok (.iload_n 2, 1) := by decide +kernel
theorem dX9_layOn_58 : decode cX9_layOn 58 = .ok (.iload_n 3, 1) := by decide +kernel
theorem dX9_layOn_59 : decode cX9_layOn 59 = .ok (.iload 11, 2) := by decide +kernel
theorem dX9_layOn_61 : decode cX9_layOn 61 = .ok (.iload 4, 2) := by decide +kernel
theorem dX9_layOn_63 : decode cX9_layOn 63 = .ok (.iload 5, 2) := by decide +kernel
theorem dX9_layOn_65 : decode cX9_layOn 65 = .ok (.iload 6, 2) := by decide +kernel
theorem dX9_layOn_67 : decode cX9_layOn 67 = .ok (.invokevirtual 240, 3) := by decide +kernel
theorem dX9_layOn_70 : decode cX9_layOn 70 = .ok (.lsub, 1) := by decide +kernel
theorem dX9_layOn_71 : decode cX9_layOn 71 = .ok (.lstore 9, 2) := by decide +kernel
theorem dX9_layOn_73 : decode cX9_layOn 73 = .ok (.iinc 11 1, 3) := by decide +kernel
theorem dX9_layOn_76 : decode cX9_layOn 76 = .ok (.goto (-42), 3) := by decide +kernel
theorem dX9_layOn_79 : decode cX9_layOn 79 = .ok (.aload_n 0, 1) := by decide +kernel
theorem dX9_layOn_80 : decode cX9_layOn 80 = .ok (.getfield 47, 3) := by decide +kernel
theorem dX9_layOn_83 : decode cX9_layOn 83 = .ok (.iload_n 2, 1) := by decide +kernel
theorem dX9_layOn_84 : decode cX9_layOn 84 = .ok (.baload, 1) := by decide +kernel
theorem dX9_layOn_85 : decode cX9_layOn 85 = .ok (.istore 12, 2) := by decide +kernel
theorem dX9_layOn_87 : decode cX9_layOn 87 = .ok (.aload_n 0, 1) := by decide +kernel
theorem dX9_layOn_88 : decode cX9_layOn 88 = .ok (.aload_n 0, 1) := by decide +kernel
theorem dX9_layOn_89 : decode cX9_layOn 89 = .ok (.getfield 41, 3) := by decide +kernel
theorem dX9_layOn_92 : decode cX9_layOn 92 = .ok (.iload_n 2, 1) := by decide +kernel
theorem dX9_layOn_93 : decode cX9_layOn 93 = .ok (.iaload, 1) := by decide +kernel
theorem dX9_layOn_94 : decode cX9_layOn 94 = .ok (.iload 11, 2) := by decide +kernel
theorem dX9_layOn_96 : decode cX9_layOn 96 = .ok (.iload 12, 2) := by decide +kernel
theorem dX9_layOn_98 : decode cX9_layOn 98 = .ok (.ifCond .eq 7, 3) := by decide +kernel
theorem dX9_layOn_101 : decode cX9_layOn 101 = .ok (.iconst (-1), 1) := by decide +kernel
theorem dX9_layOn_102 : decode cX9_layOn 102 = .ok (.goto 5, 3) := by decide +kernel
theorem dX9_layOn_105 : decode cX9_layOn 105 = .ok (.iload 4, 2) := by decide +kernel
theorem dX9_layOn_107 : decode cX9_layOn 107 = .ok (.iload 5, 2) := by decide +kernel
theorem dX9_layOn_109 : decode cX9_layOn 109 = .ok (.iload 6, 2) := by decide +kernel
theorem dX9_layOn_111 : decode cX9_layOn 111 = .ok (.invokevirtual 233, 3) := by decide +kernel
theorem dX9_layOn_114 : decode cX9_layOn 114 = .ok (.lstore 13, 2) := by decide +kernel
theorem dX9_layOn_116 : decode cX9_layOn 116 = .ok (.aload_n 0, 1) := by decide +kernel
theorem dX9_layOn_117 : decode cX9_layOn 117 = .ok (.iload_n 1, 1) := by decide +kernel
theorem dX9_layOn_118 : decode cX9_layOn 118 = .ok (.aload_n 0, 1) := by decide +kernel
theorem dX9_layOn_119 : decode cX9_layOn 119 = .ok (.getfield 41, 3) := by decide +kernel
theorem dX9_layOn_122 : decode cX9_layOn 122 = .ok (.iload_n 2, 1) := by decide +kernel
theorem dX9_layOn_123 : decode cX9_layOn 123 = .ok (.iaload, 1) := by decide +kernel
theorem dX9_layOn_124 : decode cX9_layOn 124 = .ok (.iconst 1, 1) := by decide +kernel
theorem dX9_layOn_125 : decode cX9_layOn 125 = .ok (.iload 11, 2) := by decide +kernel
theorem dX9_layOn_127 : decode cX9_layOn 127 = .ok (.iload 12, 2) := by decide +kernel
theorem dX9_layOn_129 : decode cX9_layOn 129 = .ok (.ifCond .eq 7, 3) := by decide +kernel
theorem dX9_layOn_132 : decode cX9_layOn 132 = .ok (.iconst (-1), 1) := by decide +kernel
theorem dX9_layOn_133 : decode cX9_layOn 133 = .ok (.goto 5, 3) := by decide +kernel
theorem dX9_layOn_136 : decode cX9_layOn 136 = .ok (.iload 4, 2) := by decide +kernel
theorem dX9_layOn_138 : decode cX9_layOn 138 = .ok (.iload 5, 2) := by decide +kernel
theorem dX9_layOn_140 : decode cX9_layOn 140 = .ok (.iload 6, 2) := by decide +kernel
theorem dX9_layOn_142 : decode cX9_layOn 142 = .ok (.lload 9, 2) := by decide +kernel
theorem dX9_layOn_144 : decode cX9_layOn 144 = .ok (.lload 13, 2) := by decide +kernel
theorem dX9_layOn_146 : decode cX9_layOn 146 = .ok (.lrem, 1) := by decide +kernel
theorem dX9_layOn_147 : decode cX9_layOn 147 = .ok (.invokevirtual 285, 3) := by decide +kernel
theorem dX9_layOn_150 : decode cX9_layOn 150 = .ok (.aload_n 0, 1) := by decide +kernel
theorem dX9_layOn_151 : decode cX9_layOn 151 = .ok (.iload_n 1, 1) := by decide +kernel
theorem dX9_layOn_152 : decode cX9_layOn 152 = .ok (.iload_n 2, 1) := by decide +kernel
theorem dX9_layOn_153 : decode cX9_layOn 153 = .ok (.iconst 0, 1) := by decide +kernel
theorem dX9_layOn_154 : decode cX9_layOn 154 = .ok (.iload_n 3, 1) := by decide +kernel
theorem dX9_layOn_155 : decode cX9_layOn 155 = .ok (.iload 12, 2) := by decide +kernel
theorem dX9_layOn_157 : decode cX9_layOn 157 = .ok (.ifCond .eq 8, 3) := by decide +kernel
theorem dX9_layOn_160 : decode cX9_layOn 160 = .ok (.iload 4, 2) := by decide +kernel
theorem dX9_layOn_162 : decode cX9_layOn 162 = .ok (.goto 4, 3) := by decide +kernel
theorem dX9_layOn_165 : decode cX9_layOn 165 = .ok (.iconst (-1), 1) := by decide +kernel
theorem dX9_layOn_166 : decode cX9_layOn 166 = .ok (.iload 5, 2) := by decide +kernel
theorem dX9_layOn_168 : decode cX9_layOn 168 = .ok (.iload 11, 2) := by decide +kernel
theorem dX9_layOn_170 : decode cX9_layOn 170 = .ok (.lload 9, 2) := by decide +kernel
theorem dX9_layOn_172 : decode cX9_layOn 172 = .ok (.lload 13, 2) := by decide +kernel
theorem dX9_layOn_174 : decode cX9_layOn 174 = .ok (.ldiv, 1) := by decide +kernel
theorem dX9_layOn_175 : decode cX9_layOn 175 = .ok (.invokevirtual 285, 3) := by decide +kernel
theorem dX9_layOn_178 : decode cX9_layOn 178 = .ok (.return_, 1) := by decide +kernel
theorem dX9_choose_0 : decode cX9_choose 0 = .ok (.aload_n 0, 1) := by decide +kernel
theorem dX9_choose_1 : decode cX9_choose 1 = .ok (.aload_n 0, 1) := by decide +kernel
theorem dX9_choose_2 : decode cX9_choose 2 = .ok (.getfield 210, 3) := by decide +kernel
theorem dX9_choose_5 : decode cX9_choose 5 = .ok (.ifCond .ne 7, 3) := by decide +kernel
theorem dX9_choose_8 : decode cX9_choose 8 = .ok (.iconst 1, 1) := by decide +kernel
theorem dX9_choose_9 : decode cX9_choose 9 = .ok (.goto 22, 3) := by decide +kernel
theorem dX9_choose_12 : decode cX9_choose 12 = .ok (.iload_n 1, 1) := by decide +kernel
theorem dX9_choose_13 : decode cX9_choose 13 = .ok (.ifCond .lt 13, 3) := by decide +kernel
theorem dX9_choose_16 : decode cX9_choose 16 = .ok (.iload_n 1, 1) := by decide +kernel
theorem dX9_choose_17 : decode cX9_choose 17 = .ok (.i2l, 1) := by decide +kernel
theorem dX9_choose_18 : decode cX9_choose 18 = .ok (.aload_n 0, 1) := by decide +kernel
theorem dX9_choose_19 : decode cX9_choose 19 = .ok (.getfield 71, 3) := by decide +kernel
theorem dX9_choose_22 : decode cX9_choose 22 = .ok (.lcmp, 1) := by decide +kernel
theorem dX9_choose_23 : decode cX9_choose 23 = .ok (.ifCond .lt 7, 3) := by decide +kernel
theorem dX9_choose_26 : decode cX9_choose 26 = .ok (.iconst 2, 1) := by decide +kernel
theorem dX9_choose_27 : decode cX9_choose 27 = .ok (.goto 4, 3) := by decide +kernel
theorem dX9_choose_30 : decode cX9_choose 30 = .ok (.iconst 0, 1) := by decide +kernel
theorem dX9_choose_31 : decode cX9_choose 31 = .ok (.putfield 107, 3) := by decide +kernel
theorem dX9_choose_34 : decode cX9_choose 34 = .ok (.aload_n 0, 1) := by decide +kernel
theorem dX9_choose_35 : decode cX9_choose 35 = .ok (.getfield 107, 3) := by decide +kernel
theorem dX9_choose_38 : decode cX9_choose 38 = .ok (.ifCond .le 5, 3) := by decide +kernel
theorem dX9_choose_41 : decode cX9_choose 41 = .ok (.iconst 0, 1) := by decide +kernel
theorem dX9_choose_42 : decode cX9_choose 42 = .ok (.ireturn, 1) := by decide +kernel
theorem dX9_choose_43 : decode cX9_choose 43 = .ok (.iload_n 1, 1) := by decide +kernel
theorem dX9_choose_44 : decode cX9_choose 44 = .ok (.i2l, 1) := by decide +kernel
theorem dX9_choose_45 : decode cX9_choose 45 = .ok (.lstore_n 2, 1) := by decide +kernel
theorem dX9_choose_46 : decode cX9_choose 46 = .ok (.iconst 0, 1) := by decide +kernel
theorem dX9_choose_47 : decode cX9_choose 47 = .ok (.istore 4, 2) := by decide +kernel
theorem dX9_choose_49 : decode cX9_choose 49 = .ok (.aload_n 0, 1) := by decide +kernel
theorem dX9_choose_50 : decode cX9_choose 50 = .ok (.iload 4, 2) := by decide +kernel
theorem dX9_choose_52 : decode cX9_choose 52 = .ok (.invokevirtual 279, 3) := by decide +kernel
theorem dX9_choose_55 : decode cX9_choose 55 = .ok (.ifCond .eq 24, 3) := by decide +kernel
theorem dX9_choose_58 : decode cX9_choose 58 = .ok (.lload_n 2, 1) := by decide +kernel
theorem dX9_choose_59 : decode cX9_choose 59 = .ok (.aload_n 0, 1) := by decide +kernel
theorem dX9_choose_60 : decode cX9_choose 60 = .ok (.bipush 12, 2) := by decide +kernel
theorem dX9_choose_62 : decode cX9_choose 62 = .ok (.iload 4, 2) := by decide +kernel
theorem dX9_choose_64 : decode cX9_choose 64 = .ok (.imul, 1) := by decide +kernel
theorem dX9_choose_65 : decode cX9_choose 65 = .ok (.iconst 0, 1) := by decide +kernel
theorem dX9_choose_66 : decode cX9_choose 66 = .ok (.iconst (-1), 1) := by decide +kernel
theorem dX9_choose_67 : decode cX9_choose 67 = .ok (.iconst (-1), 1) := by decide +kernel
theorem dX9_choose_68 : decode cX9_choose 68 = .ok (.aload_n 0, 1) := by decide +kernel
theorem dX9_choose_69 : decode cX9_choose 69 = .ok (.getfield 220, 3) := by decide +kernel
theorem dX9_choose_72 : decode cX9_choose 72 = .ok (.invokevirtual 229, 3) := by decide +kernel
theorem dX9_choose_75 : decode cX9_choose 75 = .ok (.lcmp, 1) := by decide +kernel
theorem dX9_choose_76 : decode cX9_choose 76 = .ok (.ifCond .lt 41, 3) := by decide +kernel
theorem dX9_choose_79 : decode cX9_choose 79 = .ok (.lload_n 2, 1) := by decide +kernel
theorem dX9_choose_80 : decode cX9_choose 80 = .ok (.aload_n 0, 1) := by decide +kernel
theorem dX9_choose_81 : decode cX9_choose 81 = .ok (.iload 4, 2) := by decide +kernel
theorem dX9_choose_83 : decode cX9_choose 83 = .ok (.invokevirtual 279, 3) := by decide +kernel
theorem dX9_choose_86 : decode cX9_choose 86 = .ok (.ifCond .eq 22, 3) := by decide +kernel
theorem dX9_choose_89 : decode cX9_choose 89 = .ok (.aload_n 0, 1) := by decide +kernel
theorem dX9_choose_90 : decode cX9_choose 90 = .ok (.bipush 12, 2) := by decide +kernel
theorem dX9_choose_92 : decode cX9_choose 92 = .ok (.iload 4, 2) := by decide +kernel
theorem dX9_choose_94 : decode cX9_choose 94 = .ok (.imul, 1) := by decide +kernel
theorem dX9_choose_95 : decode cX9_choose 95 = .ok (.iconst 0, 1) := by decide +kernel
theorem dX9_choose_96 : decode cX9_choose 96 = .ok (.iconst (-1), 1) := by decide +kernel
theorem dX9_choose_97 : decode cX9_choose 97 = .ok (.iconst (-1), 1) := by decide +kernel
theorem dX9_choose_98 : decode cX9_choose 98 = .ok (.aload_n 0, 1) := by decide +kernel
theorem dX9_choose_99 : decode cX9_choose 99 = .ok (.getfield 220, 3) := by decide +kernel
theorem dX9_choose_102 : decode cX9_choose 102 = .ok (.invokevirtual 229, 3) := by decide +kernel
theorem dX9_choose_105 : decode cX9_choose 105 = .ok (.goto 4, 3) := by decide +kernel
theorem dX9_choose_108 : decode cX9_choose 108 = .ok (.lconst 0, 1) := by decide +kernel
theorem dX9_choose_109 : decode cX9_choose 109 = .ok (.lsub, 1) := by decide +kernel
theorem dX9_choose_110 : decode cX9_choose 110 = .ok (.lstore_n 2, 1) := by decide +kernel
theorem dX9_choose_111 : decode cX9_choose 111 = .ok (.iinc 4 1, 3) := by decide +kernel
theorem dX9_choose_114 : decode cX9_choose 114 = .ok (.goto (-65), 3) := by decide +kernel
theorem dX9_choose_117 : decode cX9_choose 117 = .ok (.aload_n 0, 1) := by decide +kernel
theorem dX9_choose_118 : decode cX9_choose 118 = .ok (.iconst 0, 1) := by decide +kernel
theorem dX9_choose_119 : decode cX9_choose 119 = .ok (.putfield 214, 3) := by decide +kernel
theorem dX9_choose_122 : decode cX9_choose 122 = .ok (.aload_n 0, 1) := by decide +kernel
theorem dX9_choose_123 : decode cX9_choose 123 = .ok (.iconst 0, 1) := by decide +kernel
theorem dX9_choose_124 : decode cX9_choose 124 = .ok (.putfield 282, 3) := by decide +kernel
theorem dX9_choose_127 : decode cX9_choose 127 = .ok (.aload_n 0, 1) := by decide +kernel
theorem dX9_choose_128 : decode cX9_choose 128 = .ok (.iload 4, 2) := by decide +kernel
theorem dX9_choose_130 : decode cX9_choose 130 = .ok (.iconst (-1), 1) := by decide +kernel
theorem dX9_choose_131 : decode cX9_choose 131 = .ok (.iconst (-1), 1) := by decide +kernel
theorem dX9_choose_132 : decode cX9_choose 132 = .ok (.iconst 0, 1) := by decide +kernel
theorem dX9_choose_133 : decode cX9_choose 133 = .ok (.iconst (-1), 1) := by decide +kernel
theorem dX9_choose_134 : decode cX9_choose 134 = .ok (.iconst (-1), 1) := by decide +kernel
theorem dX9_choose_135 : decode cX9_choose 135 = .ok (.aload_n 0, 1) := by decide +kernel
theorem dX9_choose_136 : decode cX9_choose 136 = .ok (.getfield 220, 3) := by decide +kernel
theorem dX9_choose_139 : decode cX9_choose 139 = .ok (.lload_n 2, 1) := by decide +kernel
theorem dX9_choose_140 : decode cX9_choose 140 = .ok (.invokevirtual 289, 3) := by decide +kernel
theorem dX9_choose_143 : decode cX9_choose 143 = .ok (.aload_n 0, 1) := by decide +kernel
theorem dX9_choose_144 : decode cX9_choose 144 = .ok (.getfield 282, 3) := by decide +kernel
theorem dX9_choose_147 : decode cX9_choose 147 = .ok (.ifCond .le 185, 3) := by decide +kernel
theorem dX9_choose_150 : decode cX9_choose 150 = .ok (.aload_n 0, 1) := by decide +kernel
theorem dX9_choose_151 : decode cX9_choose 151 = .ok (.dup, 1) := by decide +kernel
theorem dX9_choose_152 : decode cX9_choose 152 = .ok (.getfield 282, 3) := by decide +kernel
theorem dX9_choose_155 : decode cX9_choose 155 = .ok (.iconst 1, 1) := by decide +kernel
theorem dX9_choose_156 : decode cX9_choose 156 = .ok (.isub, 1) := by decide +kernel
theorem dX9_choose_157 : decode cX9_choose 157 = .ok (.putfield 282, 3) := by decide +kernel
theorem dX9_choose_160 : decode cX9_choose 160 = .ok (.bipush 7, 2) := by decide +kernel
theorem dX9_choose_162 : decode cX9_choose 162 = .ok (.aload_n 0, 1) := by decide +kernel
theorem dX9_choose_163 : decode cX9_choose 163 = .ok (.getfield 282, 3) := by decide +kernel
theorem dX9_choose_166 : decode cX9_choose 166 = .ok (.imul, 1) := by decide +kernel
theorem dX9_choose_167 : decode cX9_choose 167 = .ok (.istore 5, 2) := by decide +kernel
theorem dX9_choose_169 : decode cX9_choose 169 = .ok (.aload_n 0, 1) := by decide +kernel
theorem dX9_choose_170 : decode cX9_choose 170 = .ok (.getfield 98, 3) := by decide +kernel
theorem dX9_choose_173 : decode cX9_choose 173 = .ok (.iload 5, 2) := by decide +kernel
theorem dX9_choose_175 : decode cX9_choose 175 = .ok (.iconst 2, 1) := by decide +kernel
theorem dX9_choose_176 : decode cX9_choose 176 = .ok (.iadd, 1) := by decide +kernel
theorem dX9_choose_177 : decode cX9_choose 177 = .ok (.iaload, 1) := by decide +kernel
theorem dX9_choose_178 : decode cX9_choose 178 = .ok (.iconst 1, 1) := by decide +kernel
theorem dX9_choose_179 : decode cX9_choose 179 = .ok (.if_icmp .ne 7, 3) := by decide +kernel
theorem dX9_choose_182 : decode cX9_choose 182 = .ok (.iconst 1, 1) := by decide +kernel
theorem dX9_choose_183 : decode cX9_choose 183 = .ok (.goto 4, 3) := by decide +kernel
theorem dX9_choose_186 : decode cX9_choose 186 = .ok (.iconst 0, 1) := by decide +kernel
theorem dX9_choose_187 : decode cX9_choose 187 = .ok (.istore 6, 2) := by decide +kernel
theorem dX9_choose_189 : decode cX9_choose 189 = .ok (.iload 6, 2) := by decide +kernel
theorem dX9_choose_191 : decode cX9_choose 191 = .ok (.ifCond .eq 72, 3) := by decide +kernel
theorem dX9_choose_194 : decode cX9_choose 194 = .ok (.aload_n 0, 1) := by decide +kernel
theorem dX9_choose_195 : decode cX9_choose 195 = .ok (.aload_n 0, 1) := by decide +kernel
theorem dX9_choose_196 : decode cX9_choose 196 = .ok (.getfield 98, 3) := by decide +kernel
theorem dX9_choose_199 : decode cX9_choose 199 = .ok (.iload 5, 2) := by decide +kernel
theorem dX9_choose_201 : decode cX9_choose 201 = .ok (.iaload, 1) := by decide +kernel
theorem dX9_choose_202 : decode cX9_choose 202 = .ok (.aload_n 0, 1) := by decide +kernel
theorem dX9_choose_203 : decode cX9_choose 203 = .ok (.getfield 98, 3) := by decide +kernel
theorem dX9_choose_206 : decode cX9_choose 206 = .ok (.iload 5, 2) := by decide +kernel
theorem dX9_choose_208 : decode cX9_choose 208 = .ok (.iconst 1, 1) := by decide +kernel
theorem dX9_choose_209 : decode cX9_choose 209 = .ok (.iadd, 1) := by decide +kernel
theorem dX9_choose_210 : decode cX9_choose 210 = .ok (.iaload, 1) := by decide +kernel
theorem dX9_choose_211 : decode cX9_choose 211 = .ok (.aload_n 0, 1) := by decide +kernel
theorem dX9_choose_212 : decode cX9_choose 212 = .ok (.getfield 98, 3) := by decide +kernel
theorem dX9_choose_215 : decode cX9_choose 215 = .ok (.iload 5, 2) := by decide +kernel
theorem dX9_choose_217 : decode cX9_choose 217 = .ok (.iconst 3, 1) := by decide +kernel
theorem dX9_choose_218 : decode cX9_choose 218 = .ok (.iadd, 1) := by decide +kernel
theorem dX9_choose_219 : decode cX9_choose 219 = .ok (.iaload, 1) := by decide +kernel
theorem dX9_choose_220 : decode cX9_choose 220 = .ok (.aload_n 0, 1) := by decide +kernel
theorem dX9_choose_221 : decode cX9_choose 221 = .ok (.getfield 98, 3) := by decide +kernel
theorem dX9_choose_224 : decode cX9_choose 224 = .ok (.iload 5, 2) := by decide +kernel
theorem dX9_choose_226 : decode cX9_choose 226 = .ok (.iconst 4, 1) := by decide +kernel
theorem dX9_choose_227 : decode cX9_choose 227 = .ok (.iadd, 1) := by decide +kernel
theorem dX9_choose_228 : decode cX9_choose 228 = .ok (.iaload, 1) := by decide +kernel
theorem dX9_choose_229 : decode cX9_choose 229 = .ok (.aload_n 0, 1) := by decide +kernel
theorem dX9_choose_230 : decode cX9_choose 230 = .ok (.getfield 98, 3) := by decide +kernel
theorem dX9_choose_233 : decode cX9_choose 233 = .ok (.iload 5, 2) := by decide +kernel
theorem dX9_choose_235 : decode cX9_choose 235 = .ok (.iconst 5, 1) := by decide +kernel
theorem dX9_choose_236 : decode cX9_choose 236 = .ok (.iadd, 1) := by decide +kernel
theorem dX9_choose_237 : decode cX9_choose 237 = .ok (.iaload, 1) := by decide +kernel
theorem dX9_choose_238 : decode cX9_choose 238 = .ok (.aload_n 0, 1) := by decide +kernel
theorem dX9_choose_239 : decode cX9_choose 239 = .ok (.getfield 98, 3) := by decide +kernel
theorem dX9_choose_242 : decode cX9_choose 242 = .ok (.iload 5, 2) := by decide +kernel
theorem dX9_choose_244 : decode cX9_choose 244 = .ok (.bipush 6, 2) := by decide +kernel
theorem dX9_choose_246 : decode cX9_choose 246 = .ok (.iadd, 1) := by decide +kernel
theorem dX9_choose_247 : decode cX9_choose 247 = .ok (.iaload, 1) := by decide +kernel
theorem dX9_choose_248 : decode cX9_choose 248 = .ok (.aload_n 0, 1) := by decide +kernel
theorem dX9_choose_249 : decode cX9_choose 249 = .ok (.getfield 101, 3) := by decide +kernel
theorem dX9_choose_252 : decode cX9_choose 252 = .ok (.aload_n 0, 1) := by decide +kernel
theorem dX9_choose_253 : decode cX9_choose 253 = .ok (.getfield 282, 3) := by decide +kernel
theorem dX9_choose_256 : decode cX9_choose 256 = .ok (.laload, 1) := by decide +kernel
theorem dX9_choose_257 : decode cX9_choose 257 = .ok (.invokevirtual 293, 3) := by decide +kernel
theorem dX9_choose_260 : decode cX9_choose 260 = .ok (.goto 69, 3) := by decide +kernel
theorem dX9_choose_263 : decode cX9_choose 263 = .ok (.aload_n 0, 1) := by decide +kernel
theorem dX9_choose_264 : decode cX9_choose 264 = .ok (.aload_n 0, 1) := by decide +kernel
theorem dX9_choose_265 : decode cX9_choose 265 = .ok (.getfield 98, 3) := by decide +kernel
theorem dX9_choose_268 : decode cX9_choose 268 = .ok (.iload 5, 2) := by decide +kernel
theorem dX9_choose_270 : decode cX9_choose 270 = .ok (.iaload, 1) := by decide +kernel
theorem dX9_choose_271 : decode cX9_choose 271 = .ok (.aload_n 0, 1) := by decide +kernel
theorem dX9_choose_272 : decode cX9_choose 272 = .ok (.getfield 98, 3) := by decide +kernel
theorem dX9_choose_275 : decode cX9_choose 275 = .ok (.iload 5, 2) := by decide +kernel
theorem dX9_choose_277 : decode cX9_choose 277 = .ok (.iconst 1, 1) := by decide +kernel
theorem dX9_choose_278 : decode cX9_choose 278 = .ok (.iadd, 1) := by decide +kernel
theorem dX9_choose_279 : decode cX9_choose 279 = .ok (.iaload, 1) := by decide +kernel
theorem dX9_choose_280 : decode cX9_choose 280 = .ok (.aload_n 0, 1) := by decide +kernel
theorem dX9_choose_281 : decode cX9_choose 281 = .ok (.getfield 98, 3) := by decide +kernel
theorem dX9_choose_284 : decode cX9_choose 284 = .ok (.iload 5, 2) := by decide +kernel
theorem dX9_choose_286 : decode cX9_choose 286 = .ok (.iconst 3, 1) := by decide +kernel
theorem dX9_choose_287 : decode cX9_choose 287 = .ok (.iadd, 1) := by decide +kernel
theorem dX9_choose_288 : decode cX9_choose 288 = .ok (.iaload, 1) := by decide +kernel
theorem dX9_choose_289 : decode cX9_choose 289 = .ok (.aload_n 0, 1) := by decide +kernel
theorem dX9_choose_290 : decode cX9_choose 290 = .ok (.getfield 98, 3) := by decide +kernel
theorem dX9_choose_293 : decode cX9_choose 293 = .ok (.iload 5, 2) := by decide +kernel
theorem dX9_choose_295 : decode cX9_choose 295 = .ok (.iconst 4, 1) := by decide +kernel
theorem dX9_choose_296 : decode cX9_choose 296 = .ok (.iadd, 1) := by decide +kernel
theorem dX9_choose_297 : decode cX9_choose 297 = .ok (.iaload, 1) := by decide +kernel
theorem dX9_choose_298 : decode cX9_choose 298 = .ok (.aload_n 0, 1) := by decide +kernel
theorem dX9_choose_299 : decode cX9_choose 299 = .ok (.getfield 98, 3) := by decide +kernel
theorem dX9_choose_302 : decode cX9_choose 302 = .ok (.iload 5, 2) := by decide +kernel
theorem dX9_choose_304 : decode cX9_choose 304 = .ok (.iconst 5, 1) := by decide +kernel
theorem dX9_choose_305 : decode cX9_choose 305 = .ok (.iadd, 1) := by decide +kernel
theorem dX9_choose_306 : decode cX9_choose 306 = .ok (.iaload, 1) := by decide +kernel
theorem dX9_choose_307 : decode cX9_choose 307 = .ok (.aload_n 0, 1) := by decide +kernel
theorem dX9_choose_308 : decode cX9_choose 308 = .ok (.getfield 98, 3) := by decide +kernel
theorem dX9_choose_311 : decode cX9_choose 311 = .ok (.iload 5, 2) := by decide +kernel
theorem dX9_choose_313 : decode cX9_choose 313 = .ok (.bipush 6, 2) := by decide +kernel
theorem dX9_choose_315 : decode cX9_choose 315 = .ok (.iadd, 1) := by decide +kernel
theorem dX9_choose_316 : decode cX9_choose 316 = .ok (.iaload, 1) := by decide +kernel
theorem dX9_choose_317 : decode cX9_choose 317 = .ok (.aload_n 0, 1) := by decide +kernel
theorem dX9_choose_318 : decode cX9_choose 318 = .ok (.getfield 101, 3) := by decide +kernel
theorem dX9_choose_321 : decode cX9_choose 321 = .ok (.aload_n 0, 1) := by decide +kernel
theorem dX9_choose_322 : decode cX9_choose 322 = .ok (.getfield 282, 3) := by decide +kernel
theorem dX9_choose_325 : decode cX9_choose 325 = .ok (.laload, 1) := by decide +kernel
theorem dX9_choose_326 : decode cX9_choose 326 = .ok (.invokevirtual 297, 3) := by decide +kernel
theorem dX9_choose_329 : decode cX9_choose 329 = .ok (.goto (-186), 3) := by decide +kernel
theorem dX9_choose_332 : decode cX9_choose 332 = .ok (.aload_n 0, 1) := by decide +kernel
theorem dX9_choose_333 : decode cX9_choose 333 = .ok (.invokevirtual 300, 3) := by decide +kernel
theorem dX9_choose_336 : decode cX9_choose 336 = .ok (.aload_n 0, 1) := by decide +kernel
theorem dX9_choose_337 : decode cX9_choose 337 = .ok (.getfield 214, 3) := by decide +kernel
theorem dX9_choose_340 : decode cX9_choose 340 = .ok (.ireturn, 1) := by decide +kernel
theorem dX9_later_0 : decode cX9_later 0 = .ok (.iconst 4, 1) := by decide +kernel
theorem dX9_later_1 : decode cX9_later 1 = .ok (.aload_n 0, 1) := by decide +kernel
theorem dX9_later_2 : decode cX9_later 2 = .ok (.getfield 282, 3) := by decide +kernel
theorem dX9_later_5 : decode cX9_later 5 = .ok (.imul, 1) := by decide +kernel
theorem dX9_later_6 : decode cX9_later 6 = .ok (.istore 5, 2) := by decide +kernel
theorem dX9_later_8 : decode cX9_later 8 = .ok (.aload_n 0, 1) := by decide +kernel
theorem dX9_later_9 : decode cX9_later 9 = .ok (.getfield 98, 3) := by decide +kernel
theorem dX9_later_12 : decode cX9_later 12 = .ok (.iload 5, 2) := by decide +kernel
theorem dX9_later_14 : decode cX9_later 14 = .ok (.iload_n 1, 1) := by decide +kernel
theorem dX9_later_15 : decode cX9_later 15 = .ok (.iastore, 1) := by decide +kernel
theorem dX9_later_16 : decode cX9_later 16 = .ok (.aload_n 0, 1) := by decide +kernel
theorem dX9_later_17 : decode cX9_later 17 = .ok (.getfield 98, 3) := by decide +kernel
theorem dX9_later_20 : decode cX9_later 20 = .ok (.iload 5, 2) := by decide +kernel
theorem dX9_later_22 : decode cX9_later 22 = .ok (.iconst 1, 1) := by decide +kernel
theorem dX9_later_23 : decode cX9_later 23 = .ok (.iadd, 1) := by decide +kernel
theorem dX9_later_24 : decode cX9_later 24 = .ok (.iload_n 2, 1) := by decide +kernel
theorem dX9_later_25 : decode cX9_later 25 = .ok (.iastore, 1) := by decide +kernel
theorem dX9_later_26 : decode cX9_later 26 = .ok (.aload_n 0, 1) := by decide +kernel
theorem dX9_later_27 : decode cX9_later 27 = .ok (.getfield 98, 3) := by decide +kernel
theorem dX9_later_30 : decode cX9_later 30 = .ok (.iload 5, 2) := by decide +kernel
theorem dX9_later_32 : decode cX9_later 32 = .ok (.iconst 2, 1) := by decide +kernel
theorem dX9_later_33 : decode cX9_later 33 = .ok (.iadd, 1) := by decide +kernel
theorem dX9_later_34 : decode cX9_later 34 = .ok (.iload_n 3, 1) := by decide +kernel
theorem dX9_later_35 : decode cX9_later 35 = .ok (.ifCond .eq 7, 3) := by decide +kernel
theorem dX9_later_38 : decode cX9_later 38 = .ok (.iconst 1, 1) := by decide +kernel
theorem dX9_later_39 : decode cX9_later 39 = .ok (.goto 4, 3) := by decide +kernel
theorem dX9_later_42 : decode cX9_later 42 = .ok (.iconst 0, 1) := by decide +kernel
theorem dX9_later_43 : decode cX9_later 43 = .ok (.iastore, 1) := by decide +kernel
theorem dX9_later_44 : decode cX9_later 44 = .ok (.aload_n 0, 1) := by decide +kernel
theorem dX9_later_45 : decode cX9_later 45 = .ok (.getfield 98, 3) := by decide +kernel
theorem dX9_later_48 : decode cX9_later 48 = .ok (.iload 5, 2) := by decide +kernel
theorem dX9_later_50 : decode cX9_later 50 = .ok (.iconst 3, 1) := by decide +kernel
theorem dX9_later_51 : decode cX9_later 51 = .ok (.iadd, 1) := by decide +kernel
theorem dX9_later_52 : decode cX9_later 52 = .ok (.iload 4, 2) := by decide +kernel
theorem dX9_later_54 : decode cX9_later 54 = .ok (.iastore, 1) := by decide +kernel
theorem dX9_later_55 : decode cX9_later 55 = .ok (.aload_n 0, 1) := by decide +kernel
theorem dX9_later_56 : decode cX9_later 56 = .ok (.dup, 1) := by decide +kernel
theorem dX9_later_57 : decode cX9_later 57 = .ok (.getfield 282, 3) := by decide +kernel
theorem dX9_later_60 : decode cX9_later 60 = .ok (.iconst 1, 1) := by decide +kernel
theorem dX9_later_61 : decode cX9_later 61 = .ok (.iadd, 1) := by decide +kernel
theorem dX9_later_62 : decode cX9_later 62 = .ok (.putfield 282, 3) := by decide +kernel
theorem dX9_later_65 : decode cX9_later 65 = .ok (.return_, 1) := by decide +kernel
theorem dX9_build_0 : decode cX9_build 0 = .ok (.aload_n 0, 1) := by decide +kernel
theorem dX9_build_1 : decode cX9_build 1 = .ok (.iconst 0, 1) := by decide +kernel
theorem dX9_build_2 : decode cX9_build 2 = .ok (.putfield 217, 3) := by decide +kernel
theorem dX9_build_5 : decode cX9_build 5 = .ok (.aload_n 0, 1) := by decide +kernel
theorem dX9_build_6 : decode cX9_build 6 = .ok (.iconst 0, 1) := by decide +kernel
theorem dX9_build_7 : decode cX9_build 7 = .ok (.putfield 282, 3) := by decide +kernel
theorem dX9_build_10 : decode cX9_build 10 = .ok (.aload_n 0, 1) := by decide +kernel
theorem dX9_build_11 : decode cX9_build 11 = .ok (.iconst 0, 1) := by decide +kernel
theorem dX9_build_12 : decode cX9_build 12 = .ok (.iconst 0, 1) := by decide +kernel
theorem dX9_build_13 : decode cX9_build 13 = .ok (.iconst 0, 1) := by decide +kernel
theorem dX9_build_14 : decode cX9_build 14 = .ok (.iconst (-1), 1) := by decide +kernel
theorem dX9_build_15 : decode cX9_build 15 = .ok (.invokevirtual 303, 3) := by decide +kernel
theorem dX9_build_18 : decode cX9_build 18 = .ok (.aload_n 0, 1) := by decide +kernel
theorem dX9_build_19 : decode cX9_build 19 = .ok (.getfield 282, 3) := by decide +kernel
theorem dX9_build_22 : decode cX9_build 22 = .ok (.ifCond .le 185, 3) := by decide +kernel
theorem dX9_build_25 : decode cX9_build 25 = .ok (.aload_n 0, 1) := by decide +kernel
theorem dX9_build_26 : decode cX9_build 26 = .ok (.dup, 1) := by decide +kernel
theorem dX9_build_27 : decode cX9_build 27 = .ok (.getfield 282, 3) := by decide +kernel
theorem dX9_build_30 : decode cX9_build 30 = .ok (.iconst 1, 1) := by decide +kernel
theorem dX9_build_31 : decode cX9_build 31 = .ok (.isub, 1) := by decide +kernel
theorem dX9_build_32 : decode cX9_build 32 = .ok (.putfield 282, 3) := by decide +kernel
theorem dX9_build_35 : decode cX9_build 35 = .ok (.aload_n 0, 1) := by decide +kernel
theorem dX9_build_36 : decode cX9_build 36 = .ok (.getfield 98, 3) := by decide +kernel
theorem dX9_build_39 : decode cX9_build 39 = .ok (.iconst 4, 1) := by decide +kernel
theorem dX9_build_40 : decode cX9_build 40 = .ok (.aload_n 0, 1) := by decide +kernel
theorem dX9_build_41 : decode cX9_build 41 = .ok (.getfield 282, 3) := by decide +kernel
theorem dX9_build_44 : decode cX9_build 44 = .ok (.imul, 1) := by decide +kernel
theorem dX9_build_45 : decode cX9_build 45 = .ok (.iaload, 1) := by decide +kernel
theorem dX9_build_46 : decode cX9_build 46 = .ok (.istore_n 1, 1) := by decide +kernel
theorem dX9_build_47 : decode cX9_build 47 = .ok (.aload_n 0, 1) := by decide +kernel
theorem dX9_build_48 : decode cX9_build 48 = .ok (.getfield 98, 3) := by decide +kernel
theorem dX9_build_51 : decode cX9_build 51 = .ok (.iconst 4, 1) := by decide +kernel
theorem dX9_build_52 : decode cX9_build 52 = .ok (.aload_n 0, 1) := by decide +kernel
theorem dX9_build_53 : decode cX9_build 53 = .ok (.getfield 282, 3) := by decide +kernel
theorem dX9_build_56 : decode cX9_build 56 = .ok (.imul, 1) := by decide +kernel
theorem dX9_build_57 : decode cX9_build 57 = .ok (.iconst 1, 1) := by decide +kernel
theorem dX9_build_58 : decode cX9_build 58 = .ok (.iadd, 1) := by decide +kernel
theorem dX9_build_59 : decode cX9_build 59 = .ok (.iaload, 1) := by decide +kernel
theorem dX9_build_60 : decode cX9_build 60 = .ok (.istore_n 2, 1) := by decide +kernel
theorem dX9_build_61 : decode cX9_build 61 = .ok (.aload_n 0, 1) := by decide +kernel
theorem dX9_build_62 : decode cX9_build 62 = .ok (.getfield 98, 3) := by decide +kernel
theorem dX9_build_65 : decode cX9_build 65 = .ok (.iconst 4, 1) := by decide +kernel
theorem dX9_build_66 : decode cX9_build 66 = .ok (.aload_n 0, 1) := by decide +kernel
theorem dX9_build_67 : decode cX9_build 67 = .ok (.getfield 282, 3) := by decide +kernel
theorem dX9_build_70 : decode cX9_build 70 = .ok (.imul, 1) := by decide +kernel
theorem dX9_build_71 : decode cX9_build 71 = .ok (.iconst 2, 1) := by decide +kernel
theorem dX9_build_72 : decode cX9_build 72 = .ok (.iadd, 1) := by decide +kernel
theorem dX9_build_73 : decode cX9_build 73 = .ok (.iaload, 1) := by decide +kernel
theorem dX9_build_74 : decode cX9_build 74 = .ok (.iconst 1, 1) := by decide +kernel
theorem dX9_build_75 : decode cX9_build 75 = .ok (.if_icmp .ne 7, 3) := by decide +kernel
theorem dX9_build_78 : decode cX9_build 78 = .ok (.iconst 1, 1) := by decide +kernel
theorem dX9_build_79 : decode cX9_build 79 = .ok (.goto 4, 3) := by decide +kernel
theorem dX9_build_82 : decode cX9_build 82 = .ok (.iconst 0, 1) := by decide +kernel
theorem dX9_build_83 : decode cX9_build 83 = .ok (.istore_n 3, 1) := by decide +kernel
theorem dX9_build_84 : decode cX9_build 84 = .ok (.aload_n 0, 1) := by decide +kernel
theorem dX9_build_85 : decode cX9_build 85 = .ok (.getfield 98, 3) := by decide +kernel
theorem dX9_build_88 : decode cX9_build 88 = .ok (.iconst 4, 1) := by decide +kernel
theorem dX9_build_89 : decode cX9_build 89 = .ok (.aload_n 0, 1) := by decide +kernel
theorem dX9_build_90 : decode cX9_build 90 = .ok (.getfield 282, 3) := by decide +kernel
theorem dX9_build_93 : decode cX9_build 93 = .ok (.imul, 1) := by decide +kernel
theorem dX9_build_94 : decode cX9_build 94 = .ok (.iconst 3, 1) := by decide +kernel
theorem dX9_build_95 : decode cX9_build 95 = .ok (.iadd, 1) := by decide +kernel
theorem dX9_build_96 : decode cX9_build 96 = .ok (.iaload, 1) := by decide +kernel
theorem dX9_build_97 : decode cX9_build 97 = .ok (.istore 4, 2) := by decide +kernel
theorem dX9_build_99 : decode cX9_build 99 = .ok (.bipush 12, 2) := by decide +kernel
theorem dX9_build_101 : decode cX9_build 101 = .ok (.aload_n 0, 1) := by decide +kernel
theorem dX9_build_102 : decode cX9_build 102 = .ok (.getfield 86, 3) := by decide +kernel
theorem dX9_build_105 : decode cX9_build 105 = .ok (.bipush 7, 2) := by decide +kernel
theorem dX9_build_107 : decode cX9_build 107 = .ok (.iload_n 1, 1) := by decide +kernel
theorem dX9_build_108 : decode cX9_build 108 = .ok (.imul, 1) := by decide +kernel
theorem dX9_build_109 : decode cX9_build 109 = .ok (.iaload, 1) := by decide +kernel
theorem dX9_build_110 : decode cX9_build 110 = .ok (.imul, 1) := by decide +kernel
theorem dX9_build_111 : decode cX9_build 111 = .ok (.iload_n 2, 1) := by decide +kernel
theorem dX9_build_112 : decode cX9_build 112 = .ok (.iadd, 1) := by decide +kernel
theorem dX9_build_113 : decode cX9_build 113 = .ok (.istore 5, 2) := by decide +kernel
theorem dX9_build_115 : decode cX9_build 115 = .ok (.aload_n 0, 1) := by decide +kernel
theorem dX9_build_116 : decode cX9_build 116 = .ok (.getfield 95, 3) := by decide +kernel
theorem dX9_build_119 : decode cX9_build 119 = .ok (.bipush 12, 2) := by decide +kernel
theorem dX9_build_121 : decode cX9_build 121 = .ok (.iload_n 1, 1) := by decide +kernel
theorem dX9_build_122 : decode cX9_build 122 = .ok (.imul, 1) := by decide +kernel
theorem dX9_build_123 : decode cX9_build 123 = .ok (.iload_n 2, 1) := by decide +kernel
theorem dX9_build_124 : decode cX9_build 124 = .ok (.iadd, 1) := by decide +kernel
theorem dX9_build_125 : decode cX9_build 125 = .ok (.iaload, 1) := by decide +kernel
theorem dX9_build_126 : decode cX9_build 126 = .ok (.istore 6, 2) := by decide +kernel
theorem dX9_build_128 : decode cX9_build 128 = .ok (.aload_n 0, 1) := by decide +kernel
theorem dX9_build_129 : decode cX9_build 129 = .ok (.getfield 26, 3) := by decide +kernel
theorem dX9_build_132 : decode cX9_build 132 = .ok (.iload 5, 2) := by decide +kernel
theorem dX9_build_134 : decode cX9_build 134 = .ok (.iaload, 1) := by decide +kernel
theorem dX9_build_135 : decode cX9_build 135 = .ok (.iconst 2, 1) := by decide +kernel
theorem dX9_build_136 : decode cX9_build 136 = .ok (.if_icmp .ne 35, 3) := by decide +kernel
theorem dX9_build_139 : decode cX9_build 139 = .ok (.aload_n 0, 1) := by decide +kernel
theorem dX9_build_140 : decode cX9_build 140 = .ok (.aload_n 0, 1) := by decide +kernel
theorem dX9_build_141 : decode cX9_build 141 = .ok (.getfield 86, 3) := by decide +kernel
theorem dX9_build_144 : decode cX9_build 144 = .ok (.bipush 7, 2) := by decide +kernel
theorem dX9_build_146 : decode cX9_build 146 = .ok (.iload_n 1, 1) := by decide +kernel
theorem dX9_build_147 : decode cX9_build 147 = .ok (.imul, 1) := by decide +kernel
theorem dX9_build_148 : decode cX9_build 148 = .ok (.iconst 1, 1) := by decide +kernel
theorem dX9_build_149 : decode cX9_build 149 = .ok (.iadd, 1) := by decide +kernel
theorem dX9_build_150 : decode cX9_build 150 = .ok (.iaload, 1) := by decide +kernel
theorem dX9_build_151 : decode cX9_build 151 = .ok (.aload_n 0, 1) := by decide +kernel
theorem dX9_build_152 : decode cX9_build 152 = .ok (.getfield 86, 3) := by decide +kernel
theorem dX9_build_155 : decode cX9_build 155 = .ok (.bipush 7, 2) := by decide +kernel
theorem dX9_build_157 : decode cX9_build 157 = .ok (.iload_n 1, 1) := by decide +kernel
theorem dX9_build_158 : decode cX9_build 158 = .ok (.imul, 1) := by decide +kernel
theorem dX9_build_159 : decode cX9_build 159 = .ok (.iconst 2, 1) := by decide +kernel
theorem dX9_build_160 : decode cX9_build 160 = .ok (.iadd, 1) := by decide +kernel
theorem dX9_build_161 : decode cX9_build 161 = .ok (.iaload, 1) := by decide +kernel
theorem dX9_build_162 : decode cX9_build 162 = .ok (.iconst 1, 1) := by decide +kernel
theorem dX9_build_163 : decode cX9_build 163 = .ok (.iload 4, 2) := by decide +kernel
theorem dX9_build_165 : decode cX9_build 165 = .ok (.invokevirtual 303, 3) := by decide +kernel
theorem dX9_build_168 : decode cX9_build 168 = .ok (.goto 36, 3) := by decide +kernel
theorem dX9_build_171 : decode cX9_build 171 = .ok (.iload 6, 2) := by decide +kernel
theorem dX9_build_173 : decode cX9_build 173 = .ok (.iconst (-1), 1) := by decide +kernel
theorem dX9_build_174 : decode cX9_build 174 = .ok (.if_icmp .eq 20, 3) := by decide +kernel
theorem dX9_build_177 : decode cX9_build 177 = .ok (.iload_n 3, 1) := by decide +kernel
theorem dX9_build_178 : decode cX9_build 178 = .ok (.ifCond .ne 16, 3) := by decide +kernel
theorem dX9_build_181 : decode cX9_build 181 = .ok (.aload_n 0, 1) := by decide +kernel
theorem dX9_build_182 : decode cX9_build 182 = .ok (.iload 6, 2) := by decide +kernel
theorem dX9_build_184 : decode cX9_build 184 = .ok (.iconst 0, 1) := by decide +kernel
theorem dX9_build_185 : decode cX9_build 185 = .ok (.iconst 0, 1) := by decide +kernel
theorem dX9_build_186 : decode cX9_build 186 = .ok (.iload 4, 2) := by decide +kernel
theorem dX9_build_188 : decode cX9_build 188 = .ok (.invokevirtual 303, 3) := by decide +kernel
theorem dX9_build_191 : decode cX9_build 191 = .ok (.goto 13, 3) := by decide +kernel
theorem dX9_build_194 : decode cX9_build 194 = .ok (.aload_n 0, 1) := by decide +kernel
theorem dX9_build_195 : decode cX9_build 195 = .ok (.iload_n 1, 1) := by decide +kernel
theorem dX9_build_196 : decode cX9_build 196 = .ok (.iload_n 2, 1) := by decide +kernel
theorem dX9_build_197 : decode cX9_build 197 = .ok (.iload 5, 2) := by decide +kernel
theorem dX9_build_199 : decode cX9_build 199 = .ok (.iload 4, 2) := by decide +kernel
theorem dX9_build_201 : decode cX9_build 201 = .ok (.invokevirtual 307, 3) := by decide +kernel
theorem dX9_build_204 : decode cX9_build 204 = .ok (.goto (-186), 3) := by decide +kernel
theorem dX9_build_207 : decode cX9_build 207 = .ok (.return_, 1) := by decide +kernel
theorem dX9_show_0 : decode cX9_show 0 = .ok (.bipush 6, 2) := by decide +kernel
theorem dX9_show_2 : decode cX9_show 2 = .ok (.aload_n 0, 1) := by decide +kernel
theorem dX9_show_3 : decode cX9_show 3 = .ok (.getfield 217, 3) := by decide +kernel
theorem dX9_show_6 : decode cX9_show 6 = .ok (.imul, 1) := by decide +kernel
theorem dX9_show_7 : decode cX9_show 7 = .ok (.istore 5, 2) := by decide +kernel
theorem dX9_show_9 : decode cX9_show 9 = .ok (.aload_n 0, 1) := by decide +kernel
theorem dX9_show_10 : decode cX9_show 10 = .ok (.getfield 104, 3) := by decide +kernel
theorem dX9_show_13 : decode cX9_show 13 = .ok (.iload 5, 2) := by decide +kernel
theorem dX9_show_15 : decode cX9_show 15 = .ok (.iload_n 1, 1) := by decide +kernel
theorem dX9_show_16 : decode cX9_show 16 = .ok (.iastore, 1) := by decide +kernel
theorem dX9_show_17 : decode cX9_show 17 = .ok (.aload_n 0, 1) := by decide +kernel
theorem dX9_show_18 : decode cX9_show 18 = .ok (.getfield 104, 3) := by decide +kernel
theorem dX9_show_21 : decode cX9_show 21 = .ok (.iload 5, 2) := by decide +kernel
theorem dX9_show_23 : decode cX9_show 23 = .ok (.iconst 1, 1) := by decide +kernel
theorem dX9_show_24 : decode cX9_show 24 = .ok (.iadd, 1) := by decide +kernel
theorem dX9_show_25 : decode cX9_show 25 = .ok (.iload_n 2, 1) := by decide +kernel
theorem dX9_show_26 : decode cX9_show 26 = .ok (.iastore, 1) := by decide +kernel
theorem dX9_show_27 : decode cX9_show 27 = .ok (.aload_n 0, 1) := by decide +kernel
theorem dX9_show_28 : decode cX9_show 28 = .ok (.getfield 104, 3) := by decide +kernel
theorem dX9_show_31 : decode cX9_show 31 = .ok (.iload 5, 2) := by decide +kernel
theorem dX9_show_33 : decode cX9_show 33 = .ok (.iconst 2, 1) := by decide +kernel
theorem dX9_show_34 : decode cX9_show 34 = .ok (.iadd, 1) := by decide +kernel
theorem dX9_show_35 : decode cX9_show 35 = .ok (.iload 4, 2) := by decide +kernel
theorem dX9_show_37 : decode cX9_show 37 = .ok (.iastore, 1) := by decide +kernel
theorem dX9_show_38 : decode cX9_show 38 = .ok (.aload_n 0, 1) := by decide +kernel
theorem dX9_show_39 : decode cX9_show 39 = .ok (.getfield 104, 3) := by decide +kernel
theorem dX9_show_42 : decode cX9_show 42 = .ok (.iload 5, 2) := by decide +kernel
theorem dX9_show_44 : decode cX9_show 44 = .ok (.iconst 3, 1) := by decide +kernel
theorem dX9_show_45 : decode cX9_show 45 = .ok (.iadd, 1) := by decide +kernel
theorem dX9_show_46 : decode cX9_show 46 = .ok (.aload_n 0, 1) := by decide +kernel
theorem dX9_show_47 : decode cX9_show 47 = .ok (.getfield 89, 3) := by decide +kernel
theorem dX9_show_50 : decode cX9_show 50 = .ok (.bipush 12, 2) := by decide +kernel
theorem dX9_show_52 : decode cX9_show 52 = .ok (.iload_n 1, 1) := by decide +kernel
theorem dX9_show_53 : decode cX9_show 53 = .ok (.imul, 1) := by decide +kernel
theorem dX9_show_54 : decode cX9_show 54 = .ok (.iload_n 2, 1) := by decide +kernel
theorem dX9_show_55 : decode cX9_show 55 = .ok (.iadd, 1) := by decide +kernel
theorem dX9_show_56 : decode cX9_show 56 = .ok (.iaload, 1) := by decide +kernel
theorem dX9_show_57 : decode cX9_show 57 = .ok (.iastore, 1) := by decide +kernel
theorem dX9_show_58 : decode cX9_show 58 = .ok (.aload_n 0, 1) := by decide +kernel
theorem dX9_show_59 : decode cX9_show 59 = .ok (.getfield 104, 3) := by decide +kernel
theorem dX9_show_62 : decode cX9_show 62 = .ok (.iload 5, 2) := by decide +kernel
theorem dX9_show_64 : decode cX9_show 64 = .ok (.iconst 4, 1) := by decide +kernel
theorem dX9_show_65 : decode cX9_show 65 = .ok (.iadd, 1) := by decide +kernel
theorem dX9_show_66 : decode cX9_show 66 = .ok (.aload_n 0, 1) := by decide +kernel
theorem dX9_show_67 : decode cX9_show 67 = .ok (.getfield 92, 3) := by decide +kernel
theorem dX9_show_70 : decode cX9_show 70 = .ok (.bipush 12, 2) := by decide +kernel
theorem dX9_show_72 : decode cX9_show 72 = .ok (.iload_n 1, 1) := by decide +kernel
theorem dX9_show_73 : decode cX9_show 73 = .ok (.imul, 1) := by decide +kernel
theorem dX9_show_74 : decode cX9_show 74 = .ok (.iload_n 2, 1) := by decide +kernel
theorem dX9_show_75 : decode cX9_show 75 = .ok (.iadd, 1) := by decide +kernel
theorem dX9_show_76 : decode cX9_show 76 = .ok (.iaload, 1) := by decide +kernel
theorem dX9_show_77 : decode cX9_show 77 = .ok (.iastore, 1) := by decide +kernel
theorem dX9_show_78 : decode cX9_show 78 = .ok (.aload_n 0, 1) := by decide +kernel
theorem dX9_show_79 : decode cX9_show 79 = .ok (.getfield 104, 3) := by decide +kernel
theorem dX9_show_82 : decode cX9_show 82 = .ok (.iload 5, 2) := by decide +kernel
theorem dX9_show_84 : decode cX9_show 84 = .ok (.iconst 5, 1) := by decide +kernel
theorem dX9_show_85 : decode cX9_show 85 = .ok (.iadd, 1) := by decide +kernel
theorem dX9_show_86 : decode cX9_show 86 = .ok (.aload_n 0, 1) := by decide +kernel
theorem dX9_show_87 : decode cX9_show 87 = .ok (.getfield 35, 3) := by decide +kernel
theorem dX9_show_90 : decode cX9_show 90 = .ok (.iload_n 3, 1) := by decide +kernel
theorem dX9_show_91 : decode cX9_show 91 = .ok (.iaload, 1) := by decide +kernel
theorem dX9_show_92 : decode cX9_show 92 = .ok (.iastore, 1) := by decide +kernel
theorem dX9_show_93 : decode cX9_show 93 = .ok (.aload_n 0, 1) := by decide +kernel
theorem dX9_show_94 : decode cX9_show 94 = .ok (.dup, 1) := by decide +kernel
theorem dX9_show_95 : decode cX9_show 95 = .ok (.getfield 217, 3) := by decide +kernel
theorem dX9_show_98 : decode cX9_show 98 = .ok (.iconst 1, 1) := by decide +kernel
theorem dX9_show_99 : decode cX9_show 99 = .ok (.iadd, 1) := by decide +kernel
theorem dX9_show_100 : decode cX9_show 100 = .ok (.putfield 217, 3) := by decide +kernel
theorem dX9_show_103 : decode cX9_show 103 = .ok (.aload_n 0, 1) := by decide +kernel
theorem dX9_show_104 : decode cX9_show 104 = .ok (.getfield 60, 3) := by decide +kernel
theorem dX9_show_107 : decode cX9_show 107 = .ok (.aload_n 0, 1) := by decide +kernel
theorem dX9_show_108 : decode cX9_show 108 = .ok (.getfield 86, 3) := by decide +kernel
theorem dX9_show_111 : decode cX9_show 111 = .ok (.bipush 7, 2) := by decide +kernel
theorem dX9_show_113 : decode cX9_show 113 = .ok (.iload_n 1, 1) := by decide +kernel
theorem dX9_show_114 : decode cX9_show 114 = .ok (.imul, 1) := by decide +kernel
theorem dX9_show_115 : decode cX9_show 115 = .ok (.iaload, 1) := by decide +kernel
theorem dX9_show_116 : decode cX9_show 116 = .ok (.iaload, 1) := by decide +kernel
theorem dX9_show_117 : decode cX9_show 117 = .ok (.iconst 1, 1) := by decide +kernel
theorem dX9_show_118 : decode cX9_show 118 = .ok (.isub, 1) := by decide +kernel
theorem dX9_show_119 : decode cX9_show 119 = .ok (.istore 6, 2) := by decide +kernel
theorem dX9_show_121 : decode cX9_show 121 = .ok (.iload 6, 2) := by decide +kernel
theorem dX9_show_123 : decode cX9_show 123 = .ok (.iload_n 2, 1) := by decide +kernel
theorem dX9_show_124 : decode cX9_show 124 = .ok (.if_icmp .le 47, 3) := by decide +kernel
theorem dX9_show_127 : decode cX9_show 127 = .ok (.aload_n 0, 1) := by decide +kernel
theorem dX9_show_128 : decode cX9_show 128 = .ok (.getfield 32, 3) := by decide +kernel
theorem dX9_show_131 : decode cX9_show 131 = .ok (.bipush 12, 2) := by decide +kernel
theorem dX9_show_133 : decode cX9_show 133 = .ok (.aload_n 0, 1) := by decide +kernel
theorem dX9_show_134 : decode cX9_show 134 = .ok (.getfield 86, 3) := by decide +kernel
theorem dX9_show_137 : decode cX9_show 137 = .ok (.bipush 7, 2) := by decide +kernel
theorem dX9_show_139 : decode cX9_show 139 = .ok (.iload_n 1, 1) := by decide +kernel
theorem dX9_show_140 : decode cX9_show 140 = .ok (.imul, 1) := by decide +kernel
theorem dX9_show_141 : decode cX9_show 141 = .ok (.iaload, 1) := by decide +kernel
theorem dX9_show_142 : decode cX9_show 142 = .ok (.imul, 1) := by decide +kernel
theorem dX9_show_143 : decode cX9_show 143 = .ok (.iload 6, 2) := by decide +kernel
theorem dX9_show_145 : decode cX9_show 145 = .ok (.iadd, 1) := by decide +kernel
theorem dX9_show_146 : decode cX9_show 146 = .ok (.iaload, 1) := by decide +kernel
theorem dX9_show_147 : decode cX9_show 147 = .ok (.iload_n 2, 1) := by decide +kernel
theorem dX9_show_148 : decode cX9_show 148 = .ok (.if_icmp .ne 17, 3) := by decide +kernel
theorem dX9_show_151 : decode cX9_show 151 = .ok (.aload_n 0, 1) := by decide +kernel
theorem dX9_show_152 : decode cX9_show 152 = .ok (.iload_n 1, 1) := by decide +kernel
theorem dX9_show_153 : decode cX9_show 153 = .ok (.iload 6, 2) := by decide +kernel
theorem dX9_show_155 : decode cX9_show 155 = .ok (.iconst 0, 1) := by decide +kernel
theorem dX9_show_156 : decode cX9_show 156 = .ok (.aload_n 0, 1) := by decide +kernel
theorem dX9_show_157 : decode cX9_show 157 = .ok (.getfield 217, 3) := by decide +kernel
theorem dX9_show_160 : decode cX9_show 160 = .ok (.iconst 1, 1) := by decide +kernel
theorem dX9_show_161 : decode cX9_show 161 = .ok (.isub, 1) := by decide +kernel
theorem dX9_show_162 : decode cX9_show 162 = .ok (.invokevirtual 303, 3) := by decide +kernel
theorem dX9_show_165 : decode cX9_show 165 = .ok (.iinc 6 (-1), 3) := by decide +kernel
theorem dX9_show_168 : decode cX9_show 168 = .ok (.goto (-47), 3) := by decide +kernel
theorem dX9_show_171 : decode cX9_show 171 = .ok (.return_, 1) := by decide +kernel
theorem dX9_use_0 : decode cX9_use 0 = .ok (.aload_n 0, 1) := by decide +kernel
theorem dX9_use_1 : decode cX9_use 1 = .ok (.iload_n 1, 1) := by decide +kernel
theorem dX9_use_2 : decode cX9_use 2 = .ok (.ifCond .lt 11, 3) := by decide +kernel
theorem dX9_use_5 : decode cX9_use 5 = .ok (.iload_n 1, 1) := by decide +kernel
theorem dX9_use_6 : decode cX9_use 6 = .ok (.aload_n 0, 1) := by decide +kernel
theorem dX9_use_7 : decode cX9_use 7 = .ok (.getfield 214, 3) := by decide +kernel
theorem dX9_use_10 : decode cX9_use 10 = .ok (.if_icmp .lt 7, 3) := by decide +kernel
theorem dX9_use_13 : decode cX9_use 13 = .ok (.iconst 1, 1) := by decide +kernel
theorem dX9_use_14 : decode cX9_use 14 = .ok (.goto 18, 3) := by decide +kernel
theorem dX9_use_17 : decode cX9_use 17 = .ok (.iload_n 2, 1) := by decide +kernel
theorem dX9_use_18 : decode cX9_use 18 = .ok (.ifCond .lt 9, 3) := by decide +kernel
theorem dX9_use_21 : decode cX9_use 21 = .ok (.iload_n 2, 1) := by decide +kernel
theorem dX9_use_22 : decode cX9_use 22 = .ok (.bipush 6, 2) := by decide +kernel
theorem dX9_use_24 : decode cX9_use 24 = .ok (.if_icmp .le 7, 3) := by decide +kernel
theorem dX9_use_27 : decode cX9_use 27 = .ok (.iconst 2, 1) := by decide +kernel
theorem dX9_use_28 : decode cX9_use 28 = .ok (.goto 4, 3) := by decide +kernel
theorem dX9_use_31 : decode cX9_use 31 = .ok (.iconst 0, 1) := by decide +kernel
theorem dX9_use_32 : decode cX9_use 32 = .ok (.putfield 107, 3) := by decide +kernel
theorem dX9_use_35 : decode cX9_use 35 = .ok (.aload_n 0, 1) := by decide +kernel
theorem dX9_use_36 : decode cX9_use 36 = .ok (.getfield 107, 3) := by decide +kernel
theorem dX9_use_39 : decode cX9_use 39 = .ok (.ifCond .le 7, 3) := by decide +kernel
theorem dX9_use_42 : decode cX9_use 42 = .ok (.iconst 0, 1) := by decide +kernel
theorem dX9_use_43 : decode cX9_use 43 = .ok (.goto 14, 3) := by decide +kernel
theorem dX9_use_46 : decode cX9_use 46 = .ok (.aload_n 0, 1) := by decide +kernel
theorem dX9_use_47 : decode cX9_use 47 = .ok (.getfield 86, 3) := by decide +kernel
theorem dX9_use_50 : decode cX9_use 50 = .ok (.bipush 7, 2) := by decide +kernel
theorem dX9_use_52 : decode cX9_use 52 = .ok (.iload_n 1, 1) := by decide +kernel
theorem dX9_use_53 : decode cX9_use 53 = .ok (.imul, 1) := by decide +kernel
theorem dX9_use_54 : decode cX9_use 54 = .ok (.iload_n 2, 1) := by decide +kernel
theorem dX9_use_55 : decode cX9_use 55 = .ok (.iadd, 1) := by decide +kernel
theorem dX9_use_56 : decode cX9_use 56 = .ok (.iaload, 1) := by decide +kernel
theorem dX9_use_57 : decode cX9_use 57 = .ok (.ireturn, 1) := by decide +kernel
theorem dX9_whole_0 : decode cX9_whole 0 = .ok (.aload_n 0, 1) := by decide +kernel
theorem dX9_whole_1 : decode cX9_whole 1 = .ok (.iload_n 1, 1) := by decide +kernel
theorem dX9_whole_2 : decode cX9_whole 2 = .ok (.ifCond .lt 11, 3) := by decide +kernel
theorem dX9_whole_5 : decode cX9_whole 5 = .ok (.iload_n 1, 1) := by decide +kernel
theorem dX9_whole_6 : decode cX9_whole 6 = .ok (.aload_n 0, 1) := by decide +kernel
theorem dX9_whole_7 : decode cX9_whole 7 = .ok (.getfield 217, 3) := by decide +kernel
theorem dX9_whole_10 : decode cX9_whole 10 = .ok (.if_icmp .lt 7, 3) := by decide +kernel
theorem dX9_whole_13 : decode cX9_whole 13 = .ok (.iconst 1, 1) := by decide +kernel
theorem dX9_whole_14 : decode cX9_whole 14 = .ok (.goto 17, 3) := by decide +kernel
theorem dX9_whole_17 : decode cX9_whole 17 = .ok (.iload_n 2, 1) := by decide +kernel
theorem dX9_whole_18 : decode cX9_whole 18 = .ok (.ifCond .lt 8, 3) := by decide +kernel
theorem dX9_whole_21 : decode cX9_whole 21 = .ok (.iload_n 2, 1) := by decide +kernel
theorem dX9_whole_22 : decode cX9_whole 22 = .ok (.iconst 5, 1) := by decide +kernel
theorem dX9_whole_23 : decode cX9_whole 23 = .ok (.if_icmp .le 7, 3) := by decide +kernel
theorem dX9_whole_26 : decode cX9_whole 26 = .ok (.iconst 2, 1) := by decide +kernel
theorem dX9_whole_27 : decode cX9_whole 27 = .ok (.goto 4, 3) := by decide +kernel
theorem dX9_whole_30 : decode cX9_whole 30 = .ok (.iconst 0, 1) := by decide +kernel
theorem dX9_whole_31 : decode cX9_whole 31 = .ok (.putfield 107, 3) := by decide +kernel
theorem dX9_whole_34 : decode cX9_whole 34 = .ok (.aload_n 0, 1) := by decide +kernel
theorem dX9_whole_35 : decode cX9_whole 35 = .ok (.getfield 107, 3) := by decide +kernel
theorem dX9_whole_38 : decode cX9_whole 38 = .ok (.ifCond .le 7, 3) := by decide +kernel
theorem dX9_whole_41 : decode cX9_whole 41 = .ok (.iconst 0, 1) := by decide +kernel
theorem dX9_whole_42 : decode cX9_whole 42 = .ok (.goto 14, 3) := by decide +kernel
theorem dX9_whole_45 : decode cX9_whole 45 = .ok (.aload_n 0, 1) := by decide +kernel
theorem dX9_whole_46 : decode cX9_whole 46 = .ok (.getfield 104, 3) := by decide +kernel
theorem dX9_whole_49 : decode cX9_whole 49 = .ok (.bipush 6, 2) := by decide +kernel
theorem dX9_whole_51 : decode cX9_whole 51 = .ok (.iload_n 1, 1) := by decide +kernel
theorem dX9_whole_52 : decode cX9_whole 52 = .ok (.imul, 1) := by decide +kernel
theorem dX9_whole_53 : decode cX9_whole 53 = .ok (.iload_n 2, 1) := by decide +kernel
theorem dX9_whole_54 : decode cX9_whole 54 = .ok (.iadd, 1) := by decide +kernel
theorem dX9_whole_55 : decode cX9_whole 55 = .ok (.iaload, 1) := by decide +kernel
theorem dX9_whole_56 : decode cX9_whole 56 = .ok (.ireturn, 1) := by decide +kernel
theorem dX9_node_0 : decode cX9_node 0 = .ok (.aload_n 0, 1) := by decide +kernel
theorem dX9_node_1 : decode cX9_node 1 = .ok (.iload_n 1, 1) := by decide +kernel
theorem dX9_node_2 : decode cX9_node 2 = .ok (.ifCond .lt 25, 3) := by decide +kernel
theorem dX9_node_5 : decode cX9_node 5 = .ok (.iload_n 1, 1) := by decide +kernel
theorem dX9_node_6 : decode cX9_node 6 = .ok (.aload_n 0, 1) := by decide +kernel
theorem dX9_node_7 : decode cX9_node 7 = .ok (.getfield 154, 3) := by decide +kernel
theorem dX9_node_10 : decode cX9_node 10 = .ok (.if_icmp .ge 17, 3) := by decide +kernel
theorem dX9_node_13 : decode cX9_node 13 = .ok (.iload_n 2, 1) := by decide +kernel
theorem dX9_node_14 : decode cX9_node 14 = .ok (.ifCond .lt 13, 3) := by decide +kernel
theorem dX9_node_17 : decode cX9_node 17 = .ok (.iload_n 2, 1) := by decide +kernel
theorem dX9_node_18 : decode cX9_node 18 = .ok (.aload_n 0, 1) := by decide +kernel
theorem dX9_node_19 : decode cX9_node 19 = .ok (.getfield 60, 3) := by decide +kernel
theorem dX9_node_22 : decode cX9_node 22 = .ok (.iload_n 1, 1) := by decide +kernel
theorem dX9_node_23 : decode cX9_node 23 = .ok (.iaload, 1) := by decide +kernel
theorem dX9_node_24 : decode cX9_node 24 = .ok (.if_icmp .lt 7, 3) := by decide +kernel
theorem dX9_node_27 : decode cX9_node 27 = .ok (.iconst 1, 1) := by decide +kernel
theorem dX9_node_28 : decode cX9_node 28 = .ok (.goto 17, 3) := by decide +kernel
theorem dX9_node_31 : decode cX9_node 31 = .ok (.iload_n 3, 1) := by decide +kernel
theorem dX9_node_32 : decode cX9_node 32 = .ok (.ifCond .lt 8, 3) := by decide +kernel
theorem dX9_node_35 : decode cX9_node 35 = .ok (.iload_n 3, 1) := by decide +kernel
theorem dX9_node_36 : decode cX9_node 36 = .ok (.iconst 4, 1) := by decide +kernel
theorem dX9_node_37 : decode cX9_node 37 = .ok (.if_icmp .le 7, 3) := by decide +kernel
theorem dX9_node_40 : decode cX9_node 40 = .ok (.iconst 2, 1) := by decide +kernel
theorem dX9_node_41 : decode cX9_node 41 = .ok (.goto 4, 3) := by decide +kernel
theorem dX9_node_44 : decode cX9_node 44 = .ok (.iconst 0, 1) := by decide +kernel
theorem dX9_node_45 : decode cX9_node 45 = .ok (.putfield 107, 3) := by decide +kernel
theorem dX9_node_48 : decode cX9_node 48 = .ok (.aload_n 0, 1) := by decide +kernel
theorem dX9_node_49 : decode cX9_node 49 = .ok (.getfield 107, 3) := by decide +kernel
theorem dX9_node_52 : decode cX9_node 52 = .ok (.ifCond .le 5, 3) := by decide +kernel
theorem dX9_node_55 : decode cX9_node 55 = .ok (.iconst 0, 1) := by decide +kernel
theorem dX9_node_56 : decode cX9_node 56 = .ok (.ireturn, 1) := by decide +kernel
theorem dX9_node_57 : decode cX9_node 57 = .ok (.bipush 12, 2) := by decide +kernel
theorem dX9_node_59 : decode cX9_node 59 = .ok (.iload_n 1, 1) := by decide +kernel
theorem dX9_node_60 : decode cX9_node 60 = .ok (.imul, 1) := by decide +kernel
theorem dX9_node_61 : decode cX9_node 61 = .ok (.iload_n 2, 1) := by decide +kernel
theorem dX9_node_62 : decode cX9_node 62 = .ok (.iadd, 1) := by decide +kernel
theorem dX9_node_63 : decode cX9_node 63 = .ok (.istore 4, 2) := by decide +kernel
theorem dX9_node_65 : decode cX9_node 65 = .ok (.iload_n 3, 1) := by decide +kernel
theorem dX9_node_66 : decode cX9_node 66 = .ok (.ifCond .ne 13, 3) := by decide +kernel
theorem dX9_node_69 : decode cX9_node 69 = .ok (.aload_n 0, 1) := by decide +kernel
theorem dX9_node_70 : decode cX9_node 70 = .ok (.getfield 26, 3) := by decide +kernel
theorem dX9_node_73 : decode cX9_node 73 = .ok (.iload 4, 2) := by decide +kernel
theorem dX9_node_75 : decode cX9_node 75 = .ok (.iaload, 1) := by decide +kernel
theorem dX9_node_76 : decode cX9_node 76 = .ok (.goto 55, 3) := by decide +kernel
theorem dX9_node_79 : decode cX9_node 79 = .ok (.iload_n 3, 1) := by decide +kernel
theorem dX9_node_80 : decode cX9_node 80 = .ok (.iconst 1, 1) := by decide +kernel
theorem dX9_node_81 : decode cX9_node 81 = .ok (.if_icmp .ne 13, 3) := by decide +kernel
theorem dX9_node_84 : decode cX9_node 84 = .ok (.aload_n 0, 1) := by decide +kernel
theorem dX9_node_85 : decode cX9_node 85 = .ok (.getfield 29, 3) := by decide +kernel
theorem dX9_node_88 : decode cX9_node 88 = .ok (.iload 4, 2) := by decide +kernel
theorem dX9_node_90 : decode cX9_node 90 = .ok (.iaload, 1) := by decide +kernel
theorem dX9_node_91 : decode cX9_node 91 = .ok (.goto 40, 3) := by decide +kernel
theorem dX9_node_94 : decode cX9_node 94 = .ok (.iload_n 3, 1) := by decide +kernel
theorem dX9_node_95 : decode cX9_node 95 = .ok (.iconst 2, 1) := by decide +kernel
theorem dX9_node_96 : decode cX9_node 96 = .ok (.if_icmp .ne 13, 3) := by decide +kernel
theorem dX9_node_99 : decode cX9_node 99 = .ok (.aload_n 0, 1) := by decide +kernel
theorem dX9_node_100 : decode cX9_node 100 = .ok (.getfield 32, 3) := by decide +kernel
theorem dX9_node_103 : decode cX9_node 103 = .ok (.iload 4, 2) := by decide +kernel
theorem dX9_node_105 : decode cX9_node 105 = .ok (.iaload, 1) := by decide +kernel
theorem dX9_node_106 : decode cX9_node 106 = .ok (.goto 25, 3) := by decide +kernel
theorem dX9_node_109 : decode cX9_node 109 = .ok (.iload_n 3, 1) := by decide +kernel
theorem dX9_node_110 : decode cX9_node 110 = .ok (.iconst 3, 1) := by decide +kernel
theorem dX9_node_111 : decode cX9_node 111 = .ok (.if_icmp .ne 13, 3) := by decide +kernel
theorem dX9_node_114 : decode cX9_node 114 = .ok (.aload_n 0, 1) := by decide +kernel
theorem dX9_node_115 : decode cX9_node 115 = .ok (.getfield 35, 3) := by decide +kernel
theorem dX9_node_118 : decode cX9_node 118 = .ok (.iload 4, 2) := by decide +kernel
theorem dX9_node_120 : decode cX9_node 120 = .ok (.iaload, 1) := by decide +kernel
theorem dX9_node_121 : decode cX9_node 121 = .ok (.goto 10, 3) := by decide +kernel
theorem dX9_node_124 : decode cX9_node 124 = .ok (.aload_n 0, 1) := by decide +kernel
theorem dX9_node_125 : decode cX9_node 125 = .ok (.getfield 38, 3) := by decide +kernel
theorem dX9_node_128 : decode cX9_node 128 = .ok (.iload 4, 2) := by decide +kernel
theorem dX9_node_130 : decode cX9_node 130 = .ok (.iaload, 1) := by decide +kernel
theorem dX9_node_131 : decode cX9_node 131 = .ok (.ireturn, 1) := by decide +kernel
theorem dX9_letter_0 : decode cX9_letter 0 = .ok (.iload_n 2, 1) := by decide +kernel
theorem dX9_letter_1 : decode cX9_letter 1 = .ok (.ifCond .lt 54, 3) := by decide +kernel
theorem dX9_letter_4 : decode cX9_letter 4 = .ok (.iload_n 3, 1) := by decide +kernel
theorem dX9_letter_5 : decode cX9_letter 5 = .ok (.ifCond .lt 50, 3) := by decide +kernel
theorem dX9_letter_8 : decode cX9_letter 8 = .ok (.iload_n 1, 1) := by decide +kernel
theorem dX9_letter_9 : decode cX9_letter 9 = .ok (.ifCond .eq 24, 3) := by decide +kernel
theorem dX9_letter_12 : decode cX9_letter 12 = .ok (.iload_n 2, 1) := by decide +kernel
theorem dX9_letter_13 : decode cX9_letter 13 = .ok (.aload_n 0, 1) := by decide +kernel
theorem dX9_letter_14 : decode cX9_letter 14 = .ok (.getfield 151, 3) := by decide +kernel
theorem dX9_letter_17 : decode cX9_letter 17 = .ok (.if_icmp .ge 38, 3) := by decide +kernel
theorem dX9_letter_20 : decode cX9_letter 20 = .ok (.iload_n 3, 1) := by decide +kernel
theorem dX9_letter_21 : decode cX9_letter 21 = .ok (.aload_n 0, 1) := by decide +kernel
theorem dX9_letter_22 : decode cX9_letter 22 = .ok (.getfield 23, 3) := by decide +kernel
theorem dX9_letter_25 : decode cX9_letter 25 = .ok (.iload_n 2, 1) := by decide +kernel
theorem dX9_letter_26 : decode cX9_letter 26 = .ok (.iaload, 1) := by decide +kernel
theorem dX9_letter_27 : decode cX9_letter 27 = .ok (.if_icmp .ge 28, 3) := by decide +kernel
theorem dX9_letter_30 : decode cX9_letter 30 = .ok (.goto 21, 3) := by decide +kernel
theorem dX9_letter_33 : decode cX9_letter 33 = .ok (.iload_n 2, 1) := by decide +kernel
theorem dX9_letter_34 : decode cX9_letter 34 = .ok (.aload_n 0, 1) := by decide +kernel
theorem dX9_letter_35 : decode cX9_letter 35 = .ok (.getfield 148, 3) := by decide +kernel
theorem dX9_letter_38 : decode cX9_letter 38 = .ok (.if_icmp .ge 17, 3) := by decide +kernel
theorem dX9_letter_41 : decode cX9_letter 41 = .ok (.iload_n 3, 1) := by decide +kernel
theorem dX9_letter_42 : decode cX9_letter 42 = .ok (.aload_n 0, 1) := by decide +kernel
theorem dX9_letter_43 : decode cX9_letter 43 = .ok (.getfield 16, 3) := by decide +kernel
theorem dX9_letter_46 : decode cX9_letter 46 = .ok (.iload_n 2, 1) := by decide +kernel
theorem dX9_letter_47 : decode cX9_letter 47 = .ok (.iaload, 1) := by decide +kernel
theorem dX9_letter_48 : decode cX9_letter 48 = .ok (.if_icmp .ge 7, 3) := by decide +kernel
theorem dX9_letter_51 : decode cX9_letter 51 = .ok (.iconst 1, 1) := by decide +kernel
theorem dX9_letter_52 : decode cX9_letter 52 = .ok (.goto 4, 3) := by decide +kernel
theorem dX9_letter_55 : decode cX9_letter 55 = .ok (.iconst 0, 1) := by decide +kernel
theorem dX9_letter_56 : decode cX9_letter 56 = .ok (.istore 4, 2) := by decide +kernel
theorem dX9_letter_58 : decode cX9_letter 58 = .ok (.aload_n 0, 1) := by decide +kernel
theorem dX9_letter_59 : decode cX9_letter 59 = .ok (.iload 4, 2) := by decide +kernel
theorem dX9_letter_61 : decode cX9_letter 61 = .ok (.ifCond .eq 7, 3) := by decide +kernel
theorem dX9_letter_64 : decode cX9_letter 64 = .ok (.iconst 0, 1) := by decide +kernel
theorem dX9_letter_65 : decode cX9_letter 65 = .ok (.goto 4, 3) := by decide +kernel
theorem dX9_letter_68 : decode cX9_letter 68 = .ok (.iconst 1, 1) := by decide +kernel
theorem dX9_letter_69 : decode cX9_letter 69 = .ok (.putfield 107, 3) := by decide +kernel
theorem dX9_letter_72 : decode cX9_letter 72 = .ok (.aload_n 0, 1) := by decide +kernel
theorem dX9_letter_73 : decode cX9_letter 73 = .ok (.getfield 107, 3) := by decide +kernel
theorem dX9_letter_76 : decode cX9_letter 76 = .ok (.ifCond .le 7, 3) := by decide +kernel
theorem dX9_letter_79 : decode cX9_letter 79 = .ok (.iconst 0, 1) := by decide +kernel
theorem dX9_letter_80 : decode cX9_letter 80 = .ok (.goto 32, 3) := by decide +kernel
theorem dX9_letter_83 : decode cX9_letter 83 = .ok (.iload_n 1, 1) := by decide +kernel
theorem dX9_letter_84 : decode cX9_letter 84 = .ok (.ifCond .eq 17, 3) := by decide +kernel
theorem dX9_letter_87 : decode cX9_letter 87 = .ok (.aload_n 0, 1) := by decide +kernel
theorem dX9_letter_88 : decode cX9_letter 88 = .ok (.getfield 20, 3) := by decide +kernel
theorem dX9_letter_91 : decode cX9_letter 91 = .ok (.bipush 12, 2) := by decide +kernel
theorem dX9_letter_93 : decode cX9_letter 93 = .ok (.iload_n 2, 1) := by decide +kernel
theorem dX9_letter_94 : decode cX9_letter 94 = .ok (.imul, 1) := by decide +kernel
theorem dX9_letter_95 : decode cX9_letter 95 = .ok (.iload_n 3, 1) := by decide +kernel
theorem dX9_letter_96 : decode cX9_letter 96 = .ok (.iadd, 1) := by decide +kernel
theorem dX9_letter_97 : decode cX9_letter 97 = .ok (.baload, 1) := by decide +kernel
theorem dX9_letter_98 : decode cX9_letter 98 = .ok (.goto 14, 3) := by decide +kernel
theorem dX9_letter_101 : decode cX9_letter 101 = .ok (.aload_n 0, 1) := by decide +kernel
theorem dX9_letter_102 : decode cX9_letter 102 = .ok (.getfield 13, 3) := by decide +kernel
theorem dX9_letter_105 : decode cX9_letter 105 = .ok (.bipush 8, 2) := by decide +kernel
theorem dX9_letter_107 : decode cX9_letter 107 = .ok (.iload_n 2, 1) := by decide +kernel
theorem dX9_letter_108 : decode cX9_letter 108 = .ok (.imul, 1) := by decide +kernel
theorem dX9_letter_109 : decode cX9_letter 109 = .ok (.iload_n 3, 1) := by decide +kernel
theorem dX9_letter_110 : decode cX9_letter 110 = .ok (.iadd, 1) := by decide +kernel
theorem dX9_letter_111 : decode cX9_letter 111 = .ok (.baload, 1) := by decide +kernel
theorem dX9_letter_112 : decode cX9_letter 112 = .ok (.ireturn, 1) := by decide +kernel
theorem dX9_count_0 : decode cX9_count 0 = .ok (.aload_n 0, 1) := by decide +kernel
theorem dX9_count_1 : decode cX9_count 1 = .ok (.iload_n 1, 1) := by decide +kernel
theorem dX9_count_2 : decode cX9_count 2 = .ok (.ifCond .lt 9, 3) := by decide +kernel
theorem dX9_count_5 : decode cX9_count 5 = .ok (.iload_n 1, 1) := by decide +kernel
theorem dX9_count_6 : decode cX9_count 6 = .ok (.bipush 6, 2) := by decide +kernel
theorem dX9_count_8 : decode cX9_count 8 = .ok (.if_icmp .le 7, 3) := by decide +kernel
theorem dX9_count_11 : decode cX9_count 11 = .ok (.iconst 1, 1) := by decide +kernel
theorem dX9_count_12 : decode cX9_count 12 = .ok (.goto 4, 3) := by decide +kernel
theorem dX9_count_15 : decode cX9_count 15 = .ok (.iconst 0, 1) := by decide +kernel
theorem dX9_count_16 : decode cX9_count 16 = .ok (.putfield 107, 3) := by decide +kernel
theorem dX9_count_19 : decode cX9_count 19 = .ok (.aload_n 0, 1) := by decide +kernel
theorem dX9_count_20 : decode cX9_count 20 = .ok (.getfield 107, 3) := by decide +kernel
theorem dX9_count_23 : decode cX9_count 23 = .ok (.ifCond .le 5, 3) := by decide +kernel
theorem dX9_count_26 : decode cX9_count 26 = .ok (.iconst 0, 1) := by decide +kernel
theorem dX9_count_27 : decode cX9_count 27 = .ok (.ireturn, 1) := by decide +kernel
theorem dX9_count_28 : decode cX9_count 28 = .ok (.iload_n 1, 1) := by decide +kernel
theorem dX9_count_29 : decode cX9_count 29 = .ok (.ifCond .ne 10, 3) := by decide +kernel
theorem dX9_count_32 : decode cX9_count 32 = .ok (.aload_n 0, 1) := by decide +kernel
theorem dX9_count_33 : decode cX9_count 33 = .ok (.getfield 154, 3) := by decide +kernel
theorem dX9_count_36 : decode cX9_count 36 = .ok (.goto 68, 3) := by decide +kernel
theorem dX9_count_39 : decode cX9_count 39 = .ok (.iload_n 1, 1) := by decide +kernel
theorem dX9_count_40 : decode cX9_count 40 = .ok (.iconst 1, 1) := by decide +kernel
theorem dX9_count_41 : decode cX9_count 41 = .ok (.if_icmp .ne 10, 3) := by decide +kernel
theorem dX9_count_44 : decode cX9_count 44 = .ok (.aload_n 0, 1) := by decide +kernel
theorem dX9_count_45 : decode cX9_count 45 = .ok (.getfield 148, 3) := by decide +kernel
theorem dX9_count_48 : decode cX9_count 48 = .ok (.goto 56, 3) := by decide +kernel
theorem dX9_count_51 : decode cX9_count 51 = .ok (.iload_n 1, 1) := by decide +kernel
theorem dX9_count_52 : decode cX9_count 52 = .ok (.iconst 2, 1) := by decide +kernel
theorem dX9_count_53 : decode cX9_count 53 = .ok (.if_icmp .ne 10, 3) := by decide +kernel
theorem dX9_count_56 : decode cX9_count 56 = .ok (.aload_n 0, 1) := by decide +kernel
theorem dX9_count_57 : decode cX9_count 57 = .ok (.getfield 151, 3) := by decide +kernel
theorem dX9_count_60 : decode cX9_count 60 = .ok (.goto 44, 3) := by decide +kernel
theorem dX9_count_63 : decode cX9_count 63 = .ok (.iload_n 1, 1) := by decide +kernel
theorem dX9_count_64 : decode cX9_count 64 = .ok (.iconst 3, 1) := by decide +kernel
theorem dX9_count_65 : decode cX9_count 65 = .ok (.if_icmp .ne 10, 3) := by decide +kernel
theorem dX9_count_68 : decode cX9_count 68 = .ok (.aload_n 0, 1) := by decide +kernel
theorem dX9_count_69 : decode cX9_count 69 = .ok (.getfield 220, 3) := by decide +kernel
theorem dX9_count_72 : decode cX9_count 72 = .ok (.goto 32, 3) := by decide +kernel
theorem dX9_count_75 : decode cX9_count 75 = .ok (.iload_n 1, 1) := by decide +kernel
theorem dX9_count_76 : decode cX9_count 76 = .ok (.iconst 4, 1) := by decide +kernel
theorem dX9_count_77 : decode cX9_count 77 = .ok (.if_icmp .ne 11, 3) := by decide +kernel
theorem dX9_count_80 : decode cX9_count 80 = .ok (.aload_n 0, 1) := by decide +kernel
theorem dX9_count_81 : decode cX9_count 81 = .ok (.getfield 71, 3) := by decide +kernel
theorem dX9_count_84 : decode cX9_count 84 = .ok (.l2i, 1) := by decide +kernel
theorem dX9_count_85 : decode cX9_count 85 = .ok (.goto 19, 3) := by decide +kernel
theorem dX9_count_88 : decode cX9_count 88 = .ok (.iload_n 1, 1) := by decide +kernel
theorem dX9_count_89 : decode cX9_count 89 = .ok (.iconst 5, 1) := by decide +kernel
theorem dX9_count_90 : decode cX9_count 90 = .ok (.if_icmp .ne 10, 3) := by decide +kernel
theorem dX9_count_93 : decode cX9_count 93 = .ok (.aload_n 0, 1) := by decide +kernel
theorem dX9_count_94 : decode cX9_count 94 = .ok (.getfield 214, 3) := by decide +kernel
theorem dX9_count_97 : decode cX9_count 97 = .ok (.goto 7, 3) := by decide +kernel
theorem dX9_count_100 : decode cX9_count 100 = .ok (.aload_n 0, 1) := by decide +kernel
theorem dX9_count_101 : decode cX9_count 101 = .ok (.getfield 217, 3) := by decide +kernel
theorem dX9_count_104 : decode cX9_count 104 = .ok (.ireturn, 1) := by decide +kernel

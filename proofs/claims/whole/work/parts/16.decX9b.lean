theorem dX9_forget_9 : decode cX9_forget 9 = .ok (.putfield 71, 3) := by decide +kernel
theorem dX9_forget_12 : decode cX9_forget 12 = .ok (.aload_n 0, 1) := by decide +kernel
theorem dX9_forget_13 : decode cX9_forget 13 = .ok (.iconst 0, 1) := by decide +kernel
theorem dX9_forget_14 : decode cX9_forget 14 = .ok (.putfield 214, 3) := by decide +kernel
theorem dX9_forget_17 : decode cX9_forget 17 = .ok (.aload_n 0, 1) := by decide +kernel
theorem dX9_forget_18 : decode cX9_forget 18 = .ok (.iconst 0, 1) := by decide +kernel
theorem dX9_forget_19 : decode cX9_forget 19 = .ok (.putfield 217, 3) := by decide +kernel
theorem dX9_forget_22 : decode cX9_forget 22 = .ok (.return_, 1) := by decide +kernel
theorem dX9_sentence_0 : decode cX9_sentence 0 = .ok (.aload_n 0, 1) := by decide +kernel
theorem dX9_sentence_1 : decode cX9_sentence 1 = .ok (.iconst 0, 1) := by decide +kernel
theorem dX9_sentence_2 : decode cX9_sentence 2 = .ok (.putfield 107, 3) := by decide +kernel
theorem dX9_sentence_5 : decode cX9_sentence 5 = .ok (.iconst 0, 1) := by decide +kernel
theorem dX9_sentence_6 : decode cX9_sentence 6 = .ok (.istore_n 1, 1) := by decide +kernel
theorem dX9_sentence_7 : decode cX9_sentence 7 = .ok (.aload_n 0, 1) := by decide +kernel
theorem dX9_sentence_8 : decode cX9_sentence 8 = .ok (.invokevirtual 195, 3) := by decide +kernel
theorem dX9_sentence_11 : decode cX9_sentence 11 = .ok (.istore_n 2, 1) := by decide +kernel
theorem dX9_sentence_12 : decode cX9_sentence 12 = .ok (.iload_n 2, 1) := by decide +kernel
theorem dX9_sentence_13 : decode cX9_sentence 13 = .ok (.ifCond .eq 72, 3) := by decide +kernel
theorem dX9_sentence_16 : decode cX9_sentence 16 = .ok (.aload_n 0, 1) := by decide +kernel
theorem dX9_sentence_17 : decode cX9_sentence 17 = .ok (.getfield 130, 3) := by decide +kernel
theorem dX9_sentence_20 : decode cX9_sentence 20 = .ok (.ifCond .eq 65, 3) := by decide +kernel
theorem dX9_sentence_23 : decode cX9_sentence 23 = .ok (.aload_n 0, 1) := by decide +kernel
theorem dX9_sentence_24 : decode cX9_sentence 24 = .ok (.getfield 130, 3) := by decide +kernel
theorem dX9_sentence_27 : decode cX9_sentence 27 = .ok (.iconst 2, 1) := by decide +kernel
theorem dX9_sentence_28 : decode cX9_sentence 28 = .ok (.if_icmp .ne 29, 3) := by decide +kernel
theorem dX9_sentence_31 : decode cX9_sentence 31 = .ok (.iload_n 1, 1) := by decide +kernel
theorem dX9_sentence_32 : decode cX9_sentence 32 = .ok (.bipush 8, 2) := by decide +kernel
theorem dX9_sentence_34 : decode cX9_sentence 34 = .ok (.if_icmp .lt 15, 3) := by decide +kernel
theorem dX9_sentence_37 : decode cX9_sentence 37 = .ok (.aload_n 0, 1) := by decide +kernel
theorem dX9_sentence_38 : decode cX9_sentence 38 = .ok (.iconst 3, 1) := by decide +kernel
theorem dX9_sentence_39 : decode cX9_sentence 39 = .ok (.aload_n 0, 1) := by decide +kernel
theorem dX9_sentence_40 : decode cX9_sentence 40 = .ok (.getfield 123, 3) := by decide +kernel
theorem dX9_sentence_43 : decode cX9_sentence 43 = .ok (.invokevirtual 137, 3) := by decide +kernel
theorem dX9_sentence_46 : decode cX9_sentence 46 = .ok (.ifCond .eq 7, 3) := by decide +kernel
theorem dX9_sentence_49 : decode cX9_sentence 49 = .ok (.iconst 1, 1) := by decide +kernel
theorem dX9_sentence_50 : decode cX9_sentence 50 = .ok (.goto 11, 3) := by decide +kernel
theorem dX9_sentence_53 : decode cX9_sentence 53 = .ok (.iconst 0, 1) := by decide +kernel
theorem dX9_sentence_54 : decode cX9_sentence 54 = .ok (.goto 7, 3) := by decide +kernel
theorem dX9_sentence_57 : decode cX9_sentence 57 = .ok (.aload_n 0, 1) := by decide +kernel
theorem dX9_sentence_58 : decode cX9_sentence 58 = .ok (.invokevirtual 189, 3) := by decide +kernel
theorem dX9_sentence_61 : decode cX9_sentence 61 = .ok (.istore_n 2, 1) := by decide +kernel
theorem dX9_sentence_62 : decode cX9_sentence 62 = .ok (.iinc 1 1, 3) := by decide +kernel
theorem dX9_sentence_65 : decode cX9_sentence 65 = .ok (.iload_n 2, 1) := by decide +kernel
theorem dX9_sentence_66 : decode cX9_sentence 66 = .ok (.ifCond .eq 14, 3) := by decide +kernel
theorem dX9_sentence_69 : decode cX9_sentence 69 = .ok (.aload_n 0, 1) := by decide +kernel
theorem dX9_sentence_70 : decode cX9_sentence 70 = .ok (.invokevirtual 144, 3) := by decide +kernel
theorem dX9_sentence_73 : decode cX9_sentence 73 = .ok (.ifCond .eq 7, 3) := by decide +kernel
theorem dX9_sentence_76 : decode cX9_sentence 76 = .ok (.iconst 1, 1) := by decide +kernel
theorem dX9_sentence_77 : decode cX9_sentence 77 = .ok (.goto 4, 3) := by decide +kernel
theorem dX9_sentence_80 : decode cX9_sentence 80 = .ok (.iconst 0, 1) := by decide +kernel
theorem dX9_sentence_81 : decode cX9_sentence 81 = .ok (.istore_n 2, 1) := by decide +kernel
theorem dX9_sentence_82 : decode cX9_sentence 82 = .ok (.goto (-70), 3) := by decide +kernel
theorem dX9_sentence_85 : decode cX9_sentence 85 = .ok (.iload_n 2, 1) := by decide +kernel
theorem dX9_sentence_86 : decode cX9_sentence 86 = .ok (.ifCond .eq 106, 3) := by decide +kernel
theorem dX9_sentence_89 : decode cX9_sentence 89 = .ok (.aload_n 0, 1) := by decide +kernel
theorem dX9_sentence_90 : decode cX9_sentence 90 = .ok (.iconst 0, 1) := by decide +kernel
theorem dX9_sentence_91 : decode cX9_sentence 91 = .ok (.putfield 220, 3) := by decide +kernel
theorem dX9_sentence_94 : decode cX9_sentence 94 = .ok (.aload_n 0, 1) := by decide +kernel
theorem dX9_sentence_95 : decode cX9_sentence 95 = .ok (.invokevirtual 195, 3) := by decide +kernel
theorem dX9_sentence_98 : decode cX9_sentence 98 = .ok (.istore_n 2, 1) := by decide +kernel
theorem dX9_sentence_99 : decode cX9_sentence 99 = .ok (.aload_n 0, 1) := by decide +kernel
theorem dX9_sentence_100 : decode cX9_sentence 100 = .ok (.getfield 130, 3) := by decide +kernel
theorem dX9_sentence_103 : decode cX9_sentence 103 = .ok (.ifCond .eq 85, 3) := by decide +kernel
theorem dX9_sentence_106 : decode cX9_sentence 106 = .ok (.aload_n 0, 1) := by decide +kernel
theorem dX9_sentence_107 : decode cX9_sentence 107 = .ok (.getfield 66, 3) := by decide +kernel
theorem dX9_sentence_110 : decode cX9_sentence 110 = .ok (.aload_n 0, 1) := by decide +kernel
theorem dX9_sentence_111 : decode cX9_sentence 111 = .ok (.getfield 220, 3) := by decide +kernel
theorem dX9_sentence_114 : decode cX9_sentence 114 = .ok (.aload_n 0, 1) := by decide +kernel
theorem dX9_sentence_115 : decode cX9_sentence 115 = .ok (.getfield 120, 3) := by decide +kernel
theorem dX9_sentence_118 : decode cX9_sentence 118 = .ok (.aload_n 0, 1) := by decide +kernel
theorem dX9_sentence_119 : decode cX9_sentence 119 = .ok (.getfield 123, 3) := by decide +kernel
theorem dX9_sentence_122 : decode cX9_sentence 122 = .ok (.isub, 1) := by decide +kernel
theorem dX9_sentence_123 : decode cX9_sentence 123 = .ok (.iastore, 1) := by decide +kernel
theorem dX9_sentence_124 : decode cX9_sentence 124 = .ok (.iconst 0, 1) := by decide +kernel
theorem dX9_sentence_125 : decode cX9_sentence 125 = .ok (.istore_n 3, 1) := by decide +kernel
theorem dX9_sentence_126 : decode cX9_sentence 126 = .ok (.iload_n 3, 1) := by decide +kernel
theorem dX9_sentence_127 : decode cX9_sentence 127 = .ok (.aload_n 0, 1) := by decide +kernel
theorem dX9_sentence_128 : decode cX9_sentence 128 = .ok (.getfield 120, 3) := by decide +kernel
theorem dX9_sentence_131 : decode cX9_sentence 131 = .ok (.aload_n 0, 1) := by decide +kernel
theorem dX9_sentence_132 : decode cX9_sentence 132 = .ok (.getfield 123, 3) := by decide +kernel
theorem dX9_sentence_135 : decode cX9_sentence 135 = .ok (.isub, 1) := by decide +kernel
theorem dX9_sentence_136 : decode cX9_sentence 136 = .ok (.if_icmp .ge 34, 3) := by decide +kernel
theorem dX9_sentence_139 : decode cX9_sentence 139 = .ok (.aload_n 0, 1) := by decide +kernel
theorem dX9_sentence_140 : decode cX9_sentence 140 = .ok (.getfield 63, 3) := by decide +kernel
theorem dX9_sentence_143 : decode cX9_sentence 143 = .ok (.bipush 12, 2) := by decide +kernel
theorem dX9_sentence_145 : decode cX9_sentence 145 = .ok (.aload_n 0, 1) := by decide +kernel
theorem dX9_sentence_146 : decode cX9_sentence 146 = .ok (.getfield 220, 3) := by decide +kernel
theorem dX9_sentence_149 : decode cX9_sentence 149 = .ok (.imul, 1) := by decide +kernel
theorem dX9_sentence_150 : decode cX9_sentence 150 = .ok (.iload_n 3, 1) := by decide +kernel
theorem dX9_sentence_151 : decode cX9_sentence 151 = .ok (.iadd, 1) := by decide +kernel
theorem dX9_sentence_152 : decode cX9_sentence 152 = .ok (.aload_n 0, 1) := by decide +kernel
theorem dX9_sentence_153 : decode cX9_sentence 153 = .ok (.getfield 7, 3) := by decide +kernel
theorem dX9_sentence_156 : decode cX9_sentence 156 = .ok (.aload_n 0, 1) := by decide +kernel
theorem dX9_sentence_157 : decode cX9_sentence 157 = .ok (.getfield 123, 3) := by decide +kernel
theorem dX9_sentence_160 : decode cX9_sentence 160 = .ok (.iload_n 3, 1) := by decide +kernel
theorem dX9_sentence_161 : decode cX9_sentence 161 = .ok (.iadd, 1) := by decide +kernel
theorem dX9_sentence_162 : decode cX9_sentence 162 = .ok (.baload, 1) := by decide +kernel
theorem dX9_sentence_163 : decode cX9_sentence 163 = .ok (.bastore, 1) := by decide +kernel
theorem dX9_sentence_164 : decode cX9_sentence 164 = .ok (.iinc 3 1, 3) := by decide +kernel
theorem dX9_sentence_167 : decode cX9_sentence 167 = .ok (.goto (-41), 3) := by decide +kernel
theorem dX9_sentence_170 : decode cX9_sentence 170 = .ok (.aload_n 0, 1) := by decide +kernel
theorem dX9_sentence_171 : decode cX9_sentence 171 = .ok (.dup, 1) := by decide +kernel
theorem dX9_sentence_172 : decode cX9_sentence 172 = .ok (.getfield 220, 3) := by decide +kernel
theorem dX9_sentence_175 : decode cX9_sentence 175 = .ok (.iconst 1, 1) := by decide +kernel
theorem dX9_sentence_176 : decode cX9_sentence 176 = .ok (.iadd, 1) := by decide +kernel
theorem dX9_sentence_177 : decode cX9_sentence 177 = .ok (.putfield 220, 3) := by decide +kernel
theorem dX9_sentence_180 : decode cX9_sentence 180 = .ok (.aload_n 0, 1) := by decide +kernel
theorem dX9_sentence_181 : decode cX9_sentence 181 = .ok (.invokevirtual 144, 3) := by decide +kernel
theorem dX9_sentence_184 : decode cX9_sentence 184 = .ok (.istore_n 2, 1) := by decide +kernel
theorem dX9_sentence_185 : decode cX9_sentence 185 = .ok (.goto (-86), 3) := by decide +kernel
theorem dX9_sentence_188 : decode cX9_sentence 188 = .ok (.aload_n 0, 1) := by decide +kernel
theorem dX9_sentence_189 : decode cX9_sentence 189 = .ok (.invokevirtual 207, 3) := by decide +kernel
theorem dX9_sentence_192 : decode cX9_sentence 192 = .ok (.aload_n 0, 1) := by decide +kernel
theorem dX9_sentence_193 : decode cX9_sentence 193 = .ok (.iconst 0, 1) := by decide +kernel
theorem dX9_sentence_194 : decode cX9_sentence 194 = .ok (.putfield 111, 3) := by decide +kernel
theorem dX9_sentence_197 : decode cX9_sentence 197 = .ok (.iload_n 2, 1) := by decide +kernel
theorem dX9_sentence_198 : decode cX9_sentence 198 = .ok (.ifCond .eq 10, 3) := by decide +kernel
theorem dX9_sentence_201 : decode cX9_sentence 201 = .ok (.aload_n 0, 1) := by decide +kernel
theorem dX9_sentence_202 : decode cX9_sentence 202 = .ok (.getfield 220, 3) := by decide +kernel
theorem dX9_sentence_205 : decode cX9_sentence 205 = .ok (.goto 9, 3) := by decide +kernel
theorem dX9_sentence_208 : decode cX9_sentence 208 = .ok (.iconst (-1), 1) := by decide +kernel
theorem dX9_sentence_209 : decode cX9_sentence 209 = .ok (.aload_n 0, 1) := by decide +kernel
theorem dX9_sentence_210 : decode cX9_sentence 210 = .ok (.getfield 117, 3) := by decide +kernel
theorem dX9_sentence_213 : decode cX9_sentence 213 = .ok (.isub, 1) := by decide +kernel
theorem dX9_sentence_214 : decode cX9_sentence 214 = .ok (.ireturn, 1) := by decide +kernel
theorem dX9_key_0 : decode cX9_key 0 = .ok (.sipush 729, 3) := by decide +kernel
theorem dX9_key_3 : decode cX9_key 3 = .ok (.iload_n 0, 1) := by decide +kernel
theorem dX9_key_4 : decode cX9_key 4 = .ok (.imul, 1) := by decide +kernel
theorem dX9_key_5 : decode cX9_key 5 = .ok (.bipush 81, 2) := by decide +kernel
theorem dX9_key_7 : decode cX9_key 7 = .ok (.iload_n 1, 1) := by decide +kernel
theorem dX9_key_8 : decode cX9_key 8 = .ok (.imul, 1) := by decide +kernel
theorem dX9_key_9 : decode cX9_key 9 = .ok (.iadd, 1) := by decide +kernel
theorem dX9_key_10 : decode cX9_key 10 = .ok (.bipush 9, 2) := by decide +kernel
theorem dX9_key_12 : decode cX9_key 12 = .ok (.iload_n 2, 1) := by decide +kernel
theorem dX9_key_13 : decode cX9_key 13 = .ok (.imul, 1) := by decide +kernel
theorem dX9_key_14 : decode cX9_key 14 = .ok (.iadd, 1) := by decide +kernel
theorem dX9_key_15 : decode cX9_key 15 = .ok (.iload_n 3, 1) := by decide +kernel
theorem dX9_key_16 : decode cX9_key 16 = .ok (.iadd, 1) := by decide +kernel
theorem dX9_key_17 : decode cX9_key 17 = .ok (.ireturn, 1) := by decide +kernel
theorem dX9_number_0 : decode cX9_number 0 = .ok (.iconst 0, 1) := by decide +kernel
theorem dX9_number_1 : decode cX9_number 1 = .ok (.istore_n 1, 1) := by decide +kernel
theorem dX9_number_2 : decode cX9_number 2 = .ok (.iconst 0, 1) := by decide +kernel
theorem dX9_number_3 : decode cX9_number 3 = .ok (.istore_n 2, 1) := by decide +kernel
theorem dX9_number_4 : decode cX9_number 4 = .ok (.iload_n 2, 1) := by decide +kernel
theorem dX9_number_5 : decode cX9_number 5 = .ok (.bipush 9, 2) := by decide +kernel
theorem dX9_number_7 : decode cX9_number 7 = .ok (.if_icmp .ge 74, 3) := by decide +kernel
theorem dX9_number_10 : decode cX9_number 10 = .ok (.iload_n 2, 1) := by decide +kernel
theorem dX9_number_11 : decode cX9_number 11 = .ok (.istore_n 3, 1) := by decide +kernel
theorem dX9_number_12 : decode cX9_number 12 = .ok (.iload_n 3, 1) := by decide +kernel
theorem dX9_number_13 : decode cX9_number 13 = .ok (.bipush 9, 2) := by decide +kernel
theorem dX9_number_15 : decode cX9_number 15 = .ok (.if_icmp .ge 60, 3) := by decide +kernel
theorem dX9_number_18 : decode cX9_number 18 = .ok (.iload_n 3, 1) := by decide +kernel
theorem dX9_number_19 : decode cX9_number 19 = .ok (.istore 4, 2) := by decide +kernel
theorem dX9_number_21 : decode cX9_number 21 = .ok (.iload 4, 2) := by decide +kernel
theorem dX9_number_23 : decode cX9_number 23 = .ok (.bipush 9, 2) := by decide +kernel
theorem dX9_number_25 : decode cX9_number 25 = .ok (.if_icmp .ge 44, 3) := by decide +kernel
theorem dX9_number_28 : decode cX9_number 28 = .ok (.iload 4, 2) := by decide +kernel
theorem dX9_number_30 : decode cX9_number 30 = .ok (.istore 5, 2) := by decide +kernel
theorem dX9_number_32 : decode cX9_number 32 = .ok (.iload 5, 2) := by decide +kernel
theorem dX9_number_34 : decode cX9_number 34 = .ok (.bipush 9, 2) := by decide +kernel
theorem dX9_number_36 : decode cX9_number 36 = .ok (.if_icmp .ge 27, 3) := by decide +kernel
theorem dX9_number_39 : decode cX9_number 39 = .ok (.aload_n 0, 1) := by decide +kernel
theorem dX9_number_40 : decode cX9_number 40 = .ok (.getfield 75, 3) := by decide +kernel
theorem dX9_number_43 : decode cX9_number 43 = .ok (.iload_n 2, 1) := by decide +kernel
theorem dX9_number_44 : decode cX9_number 44 = .ok (.iload_n 3, 1) := by decide +kernel
theorem dX9_number_45 : decode cX9_number 45 = .ok (.iload 4, 2) := by decide +kernel
theorem dX9_number_47 : decode cX9_number 47 = .ok (.iload 5, 2) := by decide +kernel
theorem dX9_number_49 : decode cX9_number 49 = .ok (.invokestatic 223, 3) := by decide +kernel
theorem dX9_number_52 : decode cX9_number 52 = .ok (.iload_n 1, 1) := by decide +kernel
theorem dX9_number_53 : decode cX9_number 53 = .ok (.iastore, 1) := by decide +kernel
theorem dX9_number_54 : decode cX9_number 54 = .ok (.iinc 1 1, 3) := by decide +kernel
theorem dX9_number_57 : decode cX9_number 57 = .ok (.iinc 5 1, 3) := by decide +kernel
theorem dX9_number_60 : decode cX9_number 60 = .ok (.goto (-28), 3) := by decide +kernel
theorem dX9_number_63 : decode cX9_number 63 = .ok (.iinc 4 1, 3) := by decide +kernel
theorem dX9_number_66 : decode cX9_number 66 = .ok (.goto (-45), 3) := by decide +kernel
theorem dX9_number_69 : decode cX9_number 69 = .ok (.iinc 3 1, 3) := by decide +kernel
theorem dX9_number_72 : decode cX9_number 72 = .ok (.goto (-60), 3) := by decide +kernel
theorem dX9_number_75 : decode cX9_number 75 = .ok (.iinc 2 1, 3) := by decide +kernel
theorem dX9_number_78 : decode cX9_number 78 = .ok (.goto (-74), 3) := by decide +kernel
theorem dX9_number_81 : decode cX9_number 81 = .ok (.return_, 1) := by decide +kernel
theorem dX9_least_0 : decode cX9_least 0 = .ok (.lload_n 0, 1) := by decide +kernel
theorem dX9_least_1 : decode cX9_least 1 = .ok (.ldc2_w 227, 3) := by decide +kernel
theorem dX9_least_4 : decode cX9_least 4 = .ok (.lcmp, 1) := by decide +kernel
theorem dX9_least_5 : decode cX9_least 5 = .ok (.ifCond .le 9, 3) := by decide +kernel
theorem dX9_least_8 : decode cX9_least 8 = .ok (.ldc2_w 227, 3) := by decide +kernel
theorem dX9_least_11 : decode cX9_least 11 = .ok (.goto 4, 3) := by decide +kernel
theorem dX9_least_14 : decode cX9_least 14 = .ok (.lload_n 0, 1) := by decide +kernel
theorem dX9_least_15 : decode cX9_least 15 = .ok (.lreturn, 1) := by decide +kernel
theorem dX9_lie_0 : decode cX9_lie 0 = .ok (.aload_n 0, 1) := by decide +kernel
theorem dX9_lie_1 : decode cX9_lie 1 = .ok (.getfield 79, 3) := by decide +kernel
theorem dX9_lie_4 : decode cX9_lie 4 = .ok (.sipush 495, 3) := by decide +kernel
theorem dX9_lie_7 : decode cX9_lie 7 = .ok (.iload_n 1, 1) := by decide +kernel
theorem dX9_lie_8 : decode cX9_lie 8 = .ok (.imul, 1) := by decide +kernel
theorem dX9_lie_9 : decode cX9_lie 9 = .ok (.aload_n 0, 1) := by decide +kernel
theorem dX9_lie_10 : decode cX9_lie 10 = .ok (.getfield 75, 3) := by decide +kernel
theorem dX9_lie_13 : decode cX9_lie 13 = .ok (.iload_n 3, 1) := by decide +kernel
theorem dX9_lie_14 : decode cX9_lie 14 = .ok (.iconst (-1), 1) := by decide +kernel
theorem dX9_lie_15 : decode cX9_lie 15 = .ok (.if_icmp .ne 14, 3) := by decide +kernel
theorem dX9_lie_18 : decode cX9_lie 18 = .ok (.iload_n 2, 1) := by decide +kernel
theorem dX9_lie_19 : decode cX9_lie 19 = .ok (.iload_n 2, 1) := by decide +kernel
theorem dX9_lie_20 : decode cX9_lie 20 = .ok (.iload_n 2, 1) := by decide +kernel
theorem dX9_lie_21 : decode cX9_lie 21 = .ok (.iload 5, 2) := by decide +kernel
theorem dX9_lie_23 : decode cX9_lie 23 = .ok (.invokestatic 223, 3) := by decide +kernel
theorem dX9_lie_26 : decode cX9_lie 26 = .ok (.goto 12, 3) := by decide +kernel
theorem dX9_lie_29 : decode cX9_lie 29 = .ok (.iload_n 2, 1) := by decide +kernel
theorem dX9_lie_30 : decode cX9_lie 30 = .ok (.iload_n 3, 1) := by decide +kernel
theorem dX9_lie_31 : decode cX9_lie 31 = .ok (.iload 4, 2) := by decide +kernel
theorem dX9_lie_33 : decode cX9_lie 33 = .ok (.iload 5, 2) := by decide +kernel
theorem dX9_lie_35 : decode cX9_lie 35 = .ok (.invokestatic 223, 3) := by decide +kernel
theorem dX9_lie_38 : decode cX9_lie 38 = .ok (.iaload, 1) := by decide +kernel
theorem dX9_lie_39 : decode cX9_lie 39 = .ok (.iadd, 1) := by decide +kernel
theorem dX9_lie_40 : decode cX9_lie 40 = .ok (.laload, 1) := by decide +kernel
theorem dX9_lie_41 : decode cX9_lie 41 = .ok (.lreturn, 1) := by decide +kernel
theorem dX9_run_0 : decode cX9_run 0 = .ok (.aload_n 0, 1) := by decide +kernel
theorem dX9_run_1 : decode cX9_run 1 = .ok (.getfield 83, 3) := by decide +kernel
theorem dX9_run_4 : decode cX9_run 4 = .ok (.sipush 495, 3) := by decide +kernel
theorem dX9_run_7 : decode cX9_run 7 = .ok (.iload_n 1, 1) := by decide +kernel
theorem dX9_run_8 : decode cX9_run 8 = .ok (.imul, 1) := by decide +kernel
theorem dX9_run_9 : decode cX9_run 9 = .ok (.aload_n 0, 1) := by decide +kernel
theorem dX9_run_10 : decode cX9_run 10 = .ok (.getfield 75, 3) := by decide +kernel
theorem dX9_run_13 : decode cX9_run 13 = .ok (.iload_n 3, 1) := by decide +kernel
theorem dX9_run_14 : decode cX9_run 14 = .ok (.iconst (-1), 1) := by decide +kernel
theorem dX9_run_15 : decode cX9_run 15 = .ok (.if_icmp .ne 14, 3) := by decide +kernel
theorem dX9_run_18 : decode cX9_run 18 = .ok (.iload_n 2, 1) := by decide +kernel
theorem dX9_run_19 : decode cX9_run 19 = .ok (.iload_n 2, 1) := by decide +kernel
theorem dX9_run_20 : decode cX9_run 20 = .ok (.iload_n 2, 1) := by decide +kernel
theorem dX9_run_21 : decode cX9_run 21 = .ok (.iload 5, 2) := by decide +kernel
theorem dX9_run_23 : decode cX9_run 23 = .ok (.invokestatic 223, 3) := by decide +kernel
theorem dX9_run_26 : decode cX9_run 26 = .ok (.goto 12, 3) := by decide +kernel
theorem dX9_run_29 : decode cX9_run 29 = .ok (.iload_n 2, 1) := by decide +kernel
theorem dX9_run_30 : decode cX9_run 30 = .ok (.iload_n 3, 1) := by decide +kernel
theorem dX9_run_31 : decode cX9_run 31 = .ok (.iload 4, 2) := by decide +kernel
theorem dX9_run_33 : decode cX9_run 33 = .ok (.iload 5, 2) := by decide +kernel
theorem dX9_run_35 : decode cX9_run 35 = .ok (.invokestatic 223, 3) := by decide +kernel
theorem dX9_run_38 : decode cX9_run 38 = .ok (.iaload, 1) := by decide +kernel
theorem dX9_run_39 : decode cX9_run 39 = .ok (.iadd, 1) := by decide +kernel
theorem dX9_run_40 : decode cX9_run 40 = .ok (.laload, 1) := by decide +kernel
theorem dX9_run_41 : decode cX9_run 41 = .ok (.lreturn, 1) := by decide +kernel
theorem dX9_split_0 : decode cX9_split 0 = .ok (.aload_n 0, 1) := by decide +kernel
theorem dX9_split_1 : decode cX9_split 1 = .ok (.getfield 47, 3) := by decide +kernel
theorem dX9_split_4 : decode cX9_split 4 = .ok (.iload_n 1, 1) := by decide +kernel
theorem dX9_split_5 : decode cX9_split 5 = .ok (.baload, 1) := by decide +kernel
theorem dX9_split_6 : decode cX9_split 6 = .ok (.istore 7, 2) := by decide +kernel
theorem dX9_split_8 : decode cX9_split 8 = .ok (.iload 7, 2) := by decide +kernel
theorem dX9_split_10 : decode cX9_split 10 = .ok (.ifCond .eq 9, 3) := by decide +kernel
theorem dX9_split_13 : decode cX9_split 13 = .ok (.iload 5, 2) := by decide +kernel
theorem dX9_split_15 : decode cX9_split 15 = .ok (.iload_n 3, 1) := by decide +kernel
theorem dX9_split_16 : decode cX9_split 16 = .ok (.if_icmp .gt 20, 3) := by decide +kernel
theorem dX9_split_19 : decode cX9_split 19 = .ok (.iload 7, 2) := by decide +kernel
theorem dX9_split_21 : decode cX9_split 21 = .ok (.ifCond .ne 17, 3) := by decide +kernel
theorem dX9_split_24 : decode cX9_split 24 = .ok (.iload 4, 2) := by decide +kernel
theorem dX9_split_26 : decode cX9_split 26 = .ok (.iconst (-1), 1) := by decide +kernel
theorem dX9_split_27 : decode cX9_split 27 = .ok (.if_icmp .eq 11, 3) := by decide +kernel
theorem dX9_split_30 : decode cX9_split 30 = .ok (.iload 4, 2) := by decide +kernel
theorem dX9_split_32 : decode cX9_split 32 = .ok (.iload_n 3, 1) := by decide +kernel
theorem dX9_split_33 : decode cX9_split 33 = .ok (.if_icmp .ge 5, 3) := by decide +kernel
theorem dX9_split_36 : decode cX9_split 36 = .ok (.lconst 0, 1) := by decide +kernel
theorem dX9_split_37 : decode cX9_split 37 = .ok (.lreturn, 1) := by decide +kernel
theorem dX9_split_38 : decode cX9_split 38 = .ok (.aload_n 0, 1) := by decide +kernel
theorem dX9_split_39 : decode cX9_split 39 = .ok (.iload_n 1, 1) := by decide +kernel
theorem dX9_split_40 : decode cX9_split 40 = .ok (.iload_n 2, 1) := by decide +kernel
theorem dX9_split_41 : decode cX9_split 41 = .ok (.iload 7, 2) := by decide +kernel
theorem dX9_split_43 : decode cX9_split 43 = .ok (.ifCond .eq 8, 3) := by decide +kernel
theorem dX9_split_46 : decode cX9_split 46 = .ok (.iload 4, 2) := by decide +kernel
theorem dX9_split_48 : decode cX9_split 48 = .ok (.goto 4, 3) := by decide +kernel
theorem dX9_split_51 : decode cX9_split 51 = .ok (.iconst (-1), 1) := by decide +kernel
theorem dX9_split_52 : decode cX9_split 52 = .ok (.iload 5, 2) := by decide +kernel
theorem dX9_split_54 : decode cX9_split 54 = .ok (.iload_n 3, 1) := by decide +kernel
theorem dX9_split_55 : decode cX9_split 55 = .ok (.invokevirtual 229, 3) := by decide +kernel
theorem dX9_split_58 : decode cX9_split 58 = .ok (.aload_n 0, 1) := by decide +kernel
theorem dX9_split_59 : decode cX9_split 59 = .ok (.aload_n 0, 1) := by decide +kernel
theorem dX9_split_60 : decode cX9_split 60 = .ok (.getfield 41, 3) := by decide +kernel
theorem dX9_split_63 : decode cX9_split 63 = .ok (.iload_n 1, 1) := by decide +kernel
theorem dX9_split_64 : decode cX9_split 64 = .ok (.iaload, 1) := by decide +kernel
theorem dX9_split_65 : decode cX9_split 65 = .ok (.iload_n 3, 1) := by decide +kernel
theorem dX9_split_66 : decode cX9_split 66 = .ok (.iload 7, 2) := by decide +kernel
theorem dX9_split_68 : decode cX9_split 68 = .ok (.ifCond .eq 7, 3) := by decide +kernel
theorem dX9_split_71 : decode cX9_split 71 = .ok (.iconst (-1), 1) := by decide +kernel
theorem dX9_split_72 : decode cX9_split 72 = .ok (.goto 5, 3) := by decide +kernel
theorem dX9_split_75 : decode cX9_split 75 = .ok (.iload 4, 2) := by decide +kernel
theorem dX9_split_77 : decode cX9_split 77 = .ok (.iload 5, 2) := by decide +kernel
theorem dX9_split_79 : decode cX9_split 79 = .ok (.iload 6, 2) := by decide +kernel
theorem dX9_split_81 : decode cX9_split 81 = .ok (.invokevirtual 233, 3) := by decide +kernel
theorem dX9_split_84 : decode cX9_split 84 = .ok (.lmul, 1) := by decide +kernel
theorem dX9_split_85 : decode cX9_split 85 = .ok (.invokestatic 236, 3) := by decide +kernel
theorem dX9_split_88 : decode cX9_split 88 = .ok (.lreturn, 1) := by decide +kernel
theorem dX9_reckonRun_0 : decode cX9_reckonRun 0 = .ok (.aload_n 0, 1) := by decide +kernel
theorem dX9_reckonRun_1 : decode cX9_reckonRun 1 = .ok (.getfield 41, 3) := by decide +kernel
theorem dX9_reckonRun_4 : decode cX9_reckonRun 4 = .ok (.iload_n 1, 1) := by decide +kernel
theorem dX9_reckonRun_5 : decode cX9_reckonRun 5 = .ok (.iaload, 1) := by decide +kernel
theorem dX9_reckonRun_6 : decode cX9_reckonRun 6 = .ok (.iconst (-1), 1) := by decide +kernel
theorem dX9_reckonRun_7 : decode cX9_reckonRun 7 = .ok (.if_icmp .ne 15, 3) := by decide +kernel
theorem dX9_reckonRun_10 : decode cX9_reckonRun 10 = .ok (.aload_n 0, 1) := by decide +kernel
theorem dX9_reckonRun_11 : decode cX9_reckonRun 11 = .ok (.iload_n 1, 1) := by decide +kernel
theorem dX9_reckonRun_12 : decode cX9_reckonRun 12 = .ok (.iload_n 2, 1) := by decide +kernel
theorem dX9_reckonRun_13 : decode cX9_reckonRun 13 = .ok (.iload_n 3, 1) := by decide +kernel
theorem dX9_reckonRun_14 : decode cX9_reckonRun 14 = .ok (.iload 4, 2) := by decide +kernel
theorem dX9_reckonRun_16 : decode cX9_reckonRun 16 = .ok (.iload 5, 2) := by decide +kernel
theorem dX9_reckonRun_18 : decode cX9_reckonRun 18 = .ok (.invokevirtual 229, 3) := by decide +kernel
theorem dX9_reckonRun_21 : decode cX9_reckonRun 21 = .ok (.lreturn, 1) := by decide +kernel
theorem dX9_reckonRun_22 : decode cX9_reckonRun 22 = .ok (.lconst 0, 1) := by decide +kernel
theorem dX9_reckonRun_23 : decode cX9_reckonRun 23 = .ok (.lstore 6, 2) := by decide +kernel
theorem dX9_reckonRun_25 : decode cX9_reckonRun 25 = .ok (.iload_n 2, 1) := by decide +kernel
theorem dX9_reckonRun_26 : decode cX9_reckonRun 26 = .ok (.istore 8, 2) := by decide +kernel
theorem dX9_reckonRun_28 : decode cX9_reckonRun 28 = .ok (.iload 8, 2) := by decide +kernel
theorem dX9_reckonRun_30 : decode cX9_reckonRun 30 = .ok (.iload 5, 2) := by decide +kernel
theorem dX9_reckonRun_32 : decode cX9_reckonRun 32 = .ok (.if_icmp .gt 30, 3) := by decide +kernel
theorem dX9_reckonRun_35 : decode cX9_reckonRun 35 = .ok (.lload 6, 2) := by decide +kernel
theorem dX9_reckonRun_37 : decode cX9_reckonRun 37 = .ok (.aload_n 0, 1) := by decide +kernel
theorem dX9_reckonRun_38 : decode cX9_reckonRun 38 = .ok (.iload_n 1, 1) := by decide +kernel
theorem dX9_reckonRun_39 : decode cX9_reckonRun 39 = .ok (.iload_n 2, 1) := by decide +kernel
theorem dX9_reckonRun_40 : decode cX9_reckonRun 40 = .ok (.iload 8, 2) := by decide +kernel
theorem dX9_reckonRun_42 : decode cX9_reckonRun 42 = .ok (.iload_n 3, 1) := by decide +kernel
theorem dX9_reckonRun_43 : decode cX9_reckonRun 43 = .ok (.iload 4, 2) := by decide +kernel
theorem dX9_reckonRun_45 : decode cX9_reckonRun 45 = .ok (.iload 5, 2) := by decide +kernel
theorem dX9_reckonRun_47 : decode cX9_reckonRun 47 = .ok (.invokevirtual 240, 3) := by decide +kernel
theorem dX9_reckonRun_50 : decode cX9_reckonRun 50 = .ok (.ladd, 1) := by decide +kernel
theorem dX9_reckonRun_51 : decode cX9_reckonRun 51 = .ok (.invokestatic 236, 3) := by decide +kernel
theorem dX9_reckonRun_54 : decode cX9_reckonRun 54 = .ok (.lstore 6, 2) := by decide +kernel
theorem dX9_reckonRun_56 : decode cX9_reckonRun 56 = .ok (.iinc 8 1, 3) := by decide +kernel
theorem dX9_reckonRun_59 : decode cX9_reckonRun 59 = .ok (.goto (-31), 3) := by decide +kernel
theorem dX9_reckonRun_62 : decode cX9_reckonRun 62 = .ok (.lload 6, 2) := by decide +kernel
theorem dX9_reckonRun_64 : decode cX9_reckonRun 64 = .ok (.lreturn, 1) := by decide +kernel
theorem dX9_set_0 : decode cX9_set 0 = .ok (.aload_n 0, 1) := by decide +kernel
theorem dX9_set_1 : decode cX9_set 1 = .ok (.bipush 12, 2) := by decide +kernel
theorem dX9_set_3 : decode cX9_set 3 = .ok (.iload_n 2, 1) := by decide +kernel
theorem dX9_set_4 : decode cX9_set 4 = .ok (.imul, 1) := by decide +kernel
theorem dX9_set_5 : decode cX9_set 5 = .ok (.iload_n 3, 1) := by decide +kernel
theorem dX9_set_6 : decode cX9_set 6 = .ok (.iload 4, 2) := by decide +kernel
theorem dX9_set_8 : decode cX9_set 8 = .ok (.iload 5, 2) := by decide +kernel
theorem dX9_set_10 : decode cX9_set 10 = .ok (.iload 6, 2) := by decide +kernel
theorem dX9_set_12 : decode cX9_set 12 = .ok (.invokevirtual 229, 3) := by decide +kernel
theorem dX9_set_15 : decode cX9_set 15 = .ok (.aload_n 0, 1) := by decide +kernel
theorem dX9_set_16 : decode cX9_set 16 = .ok (.aload_n 0, 1) := by decide +kernel
theorem dX9_set_17 : decode cX9_set 17 = .ok (.getfield 44, 3) := by decide +kernel
theorem dX9_set_20 : decode cX9_set 20 = .ok (.iload_n 1, 1) := by decide +kernel
theorem dX9_set_21 : decode cX9_set 21 = .ok (.iaload, 1) := by decide +kernel
theorem dX9_set_22 : decode cX9_set 22 = .ok (.iload 4, 2) := by decide +kernel
theorem dX9_set_24 : decode cX9_set 24 = .ok (.iload 7, 2) := by decide +kernel
theorem dX9_set_26 : decode cX9_set 26 = .ok (.iload 8, 2) := by decide +kernel
theorem dX9_set_28 : decode cX9_set 28 = .ok (.iload 5, 2) := by decide +kernel
theorem dX9_set_30 : decode cX9_set 30 = .ok (.invokevirtual 233, 3) := by decide +kernel
theorem dX9_set_33 : decode cX9_set 33 = .ok (.lmul, 1) := by decide +kernel
theorem dX9_set_34 : decode cX9_set 34 = .ok (.invokestatic 236, 3) := by decide +kernel
theorem dX9_set_37 : decode cX9_set 37 = .ok (.lreturn, 1) := by decide +kernel
theorem dX9_isFor_0 : decode cX9_isFor 0 = .ok (.aload_n 0, 1) := by decide +kernel
theorem dX9_isFor_1 : decode cX9_isFor 1 = .ok (.getfield 29, 3) := by decide +kernel
theorem dX9_isFor_4 : decode cX9_isFor 4 = .ok (.bipush 12, 2) := by decide +kernel
theorem dX9_isFor_6 : decode cX9_isFor 6 = .ok (.iload_n 1, 1) := by decide +kernel
theorem dX9_isFor_7 : decode cX9_isFor 7 = .ok (.imul, 1) := by decide +kernel
theorem dX9_isFor_8 : decode cX9_isFor 8 = .ok (.iaload, 1) := by decide +kernel
theorem dX9_isFor_9 : decode cX9_isFor 9 = .ok (.aload_n 0, 1) := by decide +kernel
theorem dX9_isFor_10 : decode cX9_isFor 10 = .ok (.getfield 29, 3) := by decide +kernel
theorem dX9_isFor_13 : decode cX9_isFor 13 = .ok (.iload_n 2, 1) := by decide +kernel
theorem dX9_isFor_14 : decode cX9_isFor 14 = .ok (.iaload, 1) := by decide +kernel
theorem dX9_isFor_15 : decode cX9_isFor 15 = .ok (.if_icmp .ne 20, 3) := by decide +kernel
theorem dX9_isFor_18 : decode cX9_isFor 18 = .ok (.aload_n 0, 1) := by decide +kernel
theorem dX9_isFor_19 : decode cX9_isFor 19 = .ok (.getfield 47, 3) := by decide +kernel
theorem dX9_isFor_22 : decode cX9_isFor 22 = .ok (.bipush 12, 2) := by decide +kernel
theorem dX9_isFor_24 : decode cX9_isFor 24 = .ok (.iload_n 1, 1) := by decide +kernel
theorem dX9_isFor_25 : decode cX9_isFor 25 = .ok (.imul, 1) := by decide +kernel
theorem dX9_isFor_26 : decode cX9_isFor 26 = .ok (.baload, 1) := by decide +kernel
theorem dX9_isFor_27 : decode cX9_isFor 27 = .ok (.iload_n 3, 1) := by decide +kernel
theorem dX9_isFor_28 : decode cX9_isFor 28 = .ok (.if_icmp .ne 7, 3) := by decide +kernel
theorem dX9_isFor_31 : decode cX9_isFor 31 = .ok (.iconst 1, 1) := by decide +kernel
theorem dX9_isFor_32 : decode cX9_isFor 32 = .ok (.goto 4, 3) := by decide +kernel
theorem dX9_isFor_35 : decode cX9_isFor 35 = .ok (.iconst 0, 1) := by decide +kernel
theorem dX9_isFor_36 : decode cX9_isFor 36 = .ok (.ireturn, 1) := by decide +kernel
theorem dX9_reckonLie_0 : decode cX9_reckonLie 0 = .ok (.aload_n 0, 1) := by decide +kernel
theorem dX9_reckonLie_1 : decode cX9_reckonLie 1 = .ok (.getfield 26, 3) := by decide +kernel
theorem dX9_reckonLie_4 : decode cX9_reckonLie 4 = .ok (.iload_n 1, 1) := by decide +kernel
theorem dX9_reckonLie_5 : decode cX9_reckonLie 5 = .ok (.iaload, 1) := by decide +kernel
theorem dX9_reckonLie_6 : decode cX9_reckonLie 6 = .ok (.iconst 3, 1) := by decide +kernel
theorem dX9_reckonLie_7 : decode cX9_reckonLie 7 = .ok (.if_icmp .ne 26, 3) := by decide +kernel
theorem dX9_reckonLie_10 : decode cX9_reckonLie 10 = .ok (.iload 5, 2) := by decide +kernel
theorem dX9_reckonLie_12 : decode cX9_reckonLie 12 = .ok (.iload_n 2, 1) := by decide +kernel
theorem dX9_reckonLie_13 : decode cX9_reckonLie 13 = .ok (.iconst 1, 1) := by decide +kernel
theorem dX9_reckonLie_14 : decode cX9_reckonLie 14 = .ok (.iadd, 1) := by decide +kernel
theorem dX9_reckonLie_15 : decode cX9_reckonLie 15 = .ok (.if_icmp .ne 16, 3) := by decide +kernel
theorem dX9_reckonLie_18 : decode cX9_reckonLie 18 = .ok (.aload_n 0, 1) := by decide +kernel
theorem dX9_reckonLie_19 : decode cX9_reckonLie 19 = .ok (.iload_n 1, 1) := by decide +kernel
theorem dX9_reckonLie_20 : decode cX9_reckonLie 20 = .ok (.iload_n 2, 1) := by decide +kernel
theorem dX9_reckonLie_21 : decode cX9_reckonLie 21 = .ok (.invokevirtual 244, 3) := by decide +kernel
theorem dX9_reckonLie_24 : decode cX9_reckonLie 24 = .ok (.ifCond .eq 7, 3) := by decide +kernel
theorem dX9_reckonLie_27 : decode cX9_reckonLie 27 = .ok (.lconst 1, 1) := by decide +kernel
theorem dX9_reckonLie_28 : decode cX9_reckonLie 28 = .ok (.goto 4, 3) := by decide +kernel
theorem dX9_reckonLie_31 : decode cX9_reckonLie 31 = .ok (.lconst 0, 1) := by decide +kernel
theorem dX9_reckonLie_32 : decode cX9_reckonLie 32 = .ok (.lreturn, 1) := by decide +kernel
theorem dX9_reckonLie_33 : decode cX9_reckonLie 33 = .ok (.aload_n 0, 1) := by decide +kernel
theorem dX9_reckonLie_34 : decode cX9_reckonLie 34 = .ok (.getfield 26, 3) := by decide +kernel
theorem dX9_reckonLie_37 : decode cX9_reckonLie 37 = .ok (.iload_n 1, 1) := by decide +kernel
theorem dX9_reckonLie_38 : decode cX9_reckonLie 38 = .ok (.iaload, 1) := by decide +kernel
theorem dX9_reckonLie_39 : decode cX9_reckonLie 39 = .ok (.iconst 2, 1) := by decide +kernel
theorem dX9_reckonLie_40 : decode cX9_reckonLie 40 = .ok (.if_icmp .ne 21, 3) := by decide +kernel
theorem dX9_reckonLie_43 : decode cX9_reckonLie 43 = .ok (.iload_n 3, 1) := by decide +kernel
theorem dX9_reckonLie_44 : decode cX9_reckonLie 44 = .ok (.iload_n 2, 1) := by decide +kernel
theorem dX9_reckonLie_45 : decode cX9_reckonLie 45 = .ok (.if_icmp .ne 14, 3) := by decide +kernel
theorem dX9_reckonLie_48 : decode cX9_reckonLie 48 = .ok (.iload 4, 2) := by decide +kernel
theorem dX9_reckonLie_50 : decode cX9_reckonLie 50 = .ok (.iload 5, 2) := by decide +kernel
theorem dX9_reckonLie_52 : decode cX9_reckonLie 52 = .ok (.if_icmp .ne 7, 3) := by decide +kernel
theorem dX9_reckonLie_55 : decode cX9_reckonLie 55 = .ok (.lconst 1, 1) := by decide +kernel
theorem dX9_reckonLie_56 : decode cX9_reckonLie 56 = .ok (.goto 4, 3) := by decide +kernel
theorem dX9_reckonLie_59 : decode cX9_reckonLie 59 = .ok (.lconst 0, 1) := by decide +kernel
theorem dX9_reckonLie_60 : decode cX9_reckonLie 60 = .ok (.lreturn, 1) := by decide +kernel
theorem dX9_reckonLie_61 : decode cX9_reckonLie 61 = .ok (.lconst 0, 1) := by decide +kernel
theorem dX9_reckonLie_62 : decode cX9_reckonLie 62 = .ok (.lstore 6, 2) := by decide +kernel
theorem dX9_reckonLie_64 : decode cX9_reckonLie 64 = .ok (.aload_n 0, 1) := by decide +kernel
theorem dX9_reckonLie_65 : decode cX9_reckonLie 65 = .ok (.getfield 26, 3) := by decide +kernel
theorem dX9_reckonLie_68 : decode cX9_reckonLie 68 = .ok (.iload_n 1, 1) := by decide +kernel
theorem dX9_reckonLie_69 : decode cX9_reckonLie 69 = .ok (.iaload, 1) := by decide +kernel
theorem dX9_reckonLie_70 : decode cX9_reckonLie 70 = .ok (.iconst 1, 1) := by decide +kernel
theorem dX9_reckonLie_71 : decode cX9_reckonLie 71 = .ok (.if_icmp .ne 62, 3) := by decide +kernel
theorem dX9_reckonLie_74 : decode cX9_reckonLie 74 = .ok (.iconst 0, 1) := by decide +kernel
theorem dX9_reckonLie_75 : decode cX9_reckonLie 75 = .ok (.istore 8, 2) := by decide +kernel
theorem dX9_reckonLie_77 : decode cX9_reckonLie 77 = .ok (.iload 8, 2) := by decide +kernel
theorem dX9_reckonLie_79 : decode cX9_reckonLie 79 = .ok (.aload_n 0, 1) := by decide +kernel
theorem dX9_reckonLie_80 : decode cX9_reckonLie 80 = .ok (.getfield 154, 3) := by decide +kernel
theorem dX9_reckonLie_83 : decode cX9_reckonLie 83 = .ok (.if_icmp .ge 47, 3) := by decide +kernel
theorem dX9_reckonLie_86 : decode cX9_reckonLie 86 = .ok (.aload_n 0, 1) := by decide +kernel
theorem dX9_reckonLie_87 : decode cX9_reckonLie 87 = .ok (.iload 8, 2) := by decide +kernel
theorem dX9_reckonLie_89 : decode cX9_reckonLie 89 = .ok (.iload_n 1, 1) := by decide +kernel
theorem dX9_reckonLie_90 : decode cX9_reckonLie 90 = .ok (.iconst 0, 1) := by decide +kernel
theorem dX9_reckonLie_91 : decode cX9_reckonLie 91 = .ok (.invokevirtual 247, 3) := by decide +kernel
theorem dX9_reckonLie_94 : decode cX9_reckonLie 94 = .ok (.ifCond .eq 26, 3) := by decide +kernel
theorem dX9_reckonLie_97 : decode cX9_reckonLie 97 = .ok (.lload 6, 2) := by decide +kernel
theorem dX9_reckonLie_99 : decode cX9_reckonLie 99 = .ok (.aload_n 0, 1) := by decide +kernel
theorem dX9_reckonLie_100 : decode cX9_reckonLie 100 = .ok (.bipush 12, 2) := by decide +kernel
theorem dX9_reckonLie_102 : decode cX9_reckonLie 102 = .ok (.iload 8, 2) := by decide +kernel
theorem dX9_reckonLie_104 : decode cX9_reckonLie 104 = .ok (.imul, 1) := by decide +kernel
theorem dX9_reckonLie_105 : decode cX9_reckonLie 105 = .ok (.iload_n 2, 1) := by decide +kernel
theorem dX9_reckonLie_106 : decode cX9_reckonLie 106 = .ok (.iconst (-1), 1) := by decide +kernel
theorem dX9_reckonLie_107 : decode cX9_reckonLie 107 = .ok (.iconst (-1), 1) := by decide +kernel
theorem dX9_reckonLie_108 : decode cX9_reckonLie 108 = .ok (.iload 5, 2) := by decide +kernel
theorem dX9_reckonLie_110 : decode cX9_reckonLie 110 = .ok (.invokevirtual 229, 3) := by decide +kernel
theorem dX9_reckonLie_113 : decode cX9_reckonLie 113 = .ok (.ladd, 1) := by decide +kernel
theorem dX9_reckonLie_114 : decode cX9_reckonLie 114 = .ok (.invokestatic 236, 3) := by decide +kernel
theorem dX9_reckonLie_117 : decode cX9_reckonLie 117 = .ok (.goto 5, 3) := by decide +kernel
theorem dX9_reckonLie_120 : decode cX9_reckonLie 120 = .ok (.lload 6, 2) := by decide +kernel
theorem dX9_reckonLie_122 : decode cX9_reckonLie 122 = .ok (.lstore 6, 2) := by decide +kernel
theorem dX9_reckonLie_124 : decode cX9_reckonLie 124 = .ok (.iinc 8 1, 3) := by decide +kernel
theorem dX9_reckonLie_127 : decode cX9_reckonLie 127 = .ok (.goto (-50), 3) := by decide +kernel
theorem dX9_reckonLie_130 : decode cX9_reckonLie 130 = .ok (.lload 6, 2) := by decide +kernel
theorem dX9_reckonLie_132 : decode cX9_reckonLie 132 = .ok (.lreturn, 1) := by decide +kernel
theorem dX9_reckonLie_133 : decode cX9_reckonLie 133 = .ok (.aload_n 0, 1) := by decide +kernel
theorem dX9_reckonLie_134 : decode cX9_reckonLie 134 = .ok (.getfield 38, 3) := by decide +kernel
theorem dX9_reckonLie_137 : decode cX9_reckonLie 137 = .ok (.iload_n 1, 1) := by decide +kernel
theorem dX9_reckonLie_138 : decode cX9_reckonLie 138 = .ok (.iaload, 1) := by decide +kernel
theorem dX9_reckonLie_139 : decode cX9_reckonLie 139 = .ok (.iconst 1, 1) := by decide +kernel
theorem dX9_reckonLie_140 : decode cX9_reckonLie 140 = .ok (.if_icmp .ne 7, 3) := by decide +kernel
theorem dX9_reckonLie_143 : decode cX9_reckonLie 143 = .ok (.lconst 0, 1) := by decide +kernel
theorem dX9_reckonLie_144 : decode cX9_reckonLie 144 = .ok (.goto 19, 3) := by decide +kernel
theorem dX9_reckonLie_147 : decode cX9_reckonLie 147 = .ok (.aload_n 0, 1) := by decide +kernel
theorem dX9_reckonLie_148 : decode cX9_reckonLie 148 = .ok (.aload_n 0, 1) := by decide +kernel
theorem dX9_reckonLie_149 : decode cX9_reckonLie 149 = .ok (.getfield 44, 3) := by decide +kernel
theorem dX9_reckonLie_152 : decode cX9_reckonLie 152 = .ok (.iload_n 1, 1) := by decide +kernel
theorem dX9_reckonLie_153 : decode cX9_reckonLie 153 = .ok (.iaload, 1) := by decide +kernel
theorem dX9_reckonLie_154 : decode cX9_reckonLie 154 = .ok (.iload_n 2, 1) := by decide +kernel
theorem dX9_reckonLie_155 : decode cX9_reckonLie 155 = .ok (.iload_n 3, 1) := by decide +kernel
theorem dX9_reckonLie_156 : decode cX9_reckonLie 156 = .ok (.iload 4, 2) := by decide +kernel
theorem dX9_reckonLie_158 : decode cX9_reckonLie 158 = .ok (.iload 5, 2) := by decide +kernel
theorem dX9_reckonLie_160 : decode cX9_reckonLie 160 = .ok (.invokevirtual 233, 3) := by decide +kernel
theorem dX9_reckonLie_163 : decode cX9_reckonLie 163 = .ok (.lstore 6, 2) := by decide +kernel
theorem dX9_reckonLie_165 : decode cX9_reckonLie 165 = .ok (.iconst 0, 1) := by decide +kernel
theorem dX9_reckonLie_166 : decode cX9_reckonLie 166 = .ok (.istore 8, 2) := by decide +kernel
theorem dX9_reckonLie_168 : decode cX9_reckonLie 168 = .ok (.iload 8, 2) := by decide +kernel
theorem dX9_reckonLie_170 : decode cX9_reckonLie 170 = .ok (.aload_n 0, 1) := by decide +kernel
theorem dX9_reckonLie_171 : decode cX9_reckonLie 171 = .ok (.getfield 154, 3) := by decide +kernel
theorem dX9_reckonLie_174 : decode cX9_reckonLie 174 = .ok (.if_icmp .ge 110, 3) := by decide +kernel
theorem dX9_reckonLie_177 : decode cX9_reckonLie 177 = .ok (.aload_n 0, 1) := by decide +kernel
theorem dX9_reckonLie_178 : decode cX9_reckonLie 178 = .ok (.getfield 38, 3) := by decide +kernel
theorem dX9_reckonLie_181 : decode cX9_reckonLie 181 = .ok (.iload_n 1, 1) := by decide +kernel
theorem dX9_reckonLie_182 : decode cX9_reckonLie 182 = .ok (.iaload, 1) := by decide +kernel
theorem dX9_reckonLie_183 : decode cX9_reckonLie 183 = .ok (.iconst 2, 1) := by decide +kernel
theorem dX9_reckonLie_184 : decode cX9_reckonLie 184 = .ok (.if_icmp .eq 100, 3) := by decide +kernel
theorem dX9_reckonLie_187 : decode cX9_reckonLie 187 = .ok (.aload_n 0, 1) := by decide +kernel
theorem dX9_reckonLie_188 : decode cX9_reckonLie 188 = .ok (.iload 8, 2) := by decide +kernel
theorem dX9_reckonLie_190 : decode cX9_reckonLie 190 = .ok (.iload_n 1, 1) := by decide +kernel
theorem dX9_reckonLie_191 : decode cX9_reckonLie 191 = .ok (.iconst 1, 1) := by decide +kernel
theorem dX9_reckonLie_192 : decode cX9_reckonLie 192 = .ok (.invokevirtual 247, 3) := by decide +kernel
theorem dX9_reckonLie_195 : decode cX9_reckonLie 195 = .ok (.ifCond .ne 6, 3) := by decide +kernel
theorem dX9_reckonLie_198 : decode cX9_reckonLie 198 = .ok (.goto 80, 3) := by decide +kernel
theorem dX9_reckonLie_201 : decode cX9_reckonLie 201 = .ok (.iload_n 2, 1) := by decide +kernel
theorem dX9_reckonLie_202 : decode cX9_reckonLie 202 = .ok (.istore 9, 2) := by decide +kernel
theorem dX9_reckonLie_204 : decode cX9_reckonLie 204 = .ok (.iload 9, 2) := by decide +kernel
theorem dX9_reckonLie_206 : decode cX9_reckonLie 206 = .ok (.iload_n 3, 1) := by decide +kernel
theorem dX9_reckonLie_207 : decode cX9_reckonLie 207 = .ok (.iconst (-1), 1) := by decide +kernel
theorem dX9_reckonLie_208 : decode cX9_reckonLie 208 = .ok (.if_icmp .ne 8, 3) := by decide +kernel
theorem dX9_reckonLie_211 : decode cX9_reckonLie 211 = .ok (.iload 5, 2) := by decide +kernel
theorem dX9_reckonLie_213 : decode cX9_reckonLie 213 = .ok (.goto 4, 3) := by decide +kernel
theorem dX9_reckonLie_216 : decode cX9_reckonLie 216 = .ok (.iload_n 3, 1) := by decide +kernel
theorem dX9_reckonLie_217 : decode cX9_reckonLie 217 = .ok (.if_icmp .gt 61, 3) := by decide +kernel
theorem dX9_reckonLie_220 : decode cX9_reckonLie 220 = .ok (.iload_n 3, 1) := by decide +kernel
theorem dX9_reckonLie_221 : decode cX9_reckonLie 221 = .ok (.iconst (-1), 1) := by decide +kernel
theorem dX9_reckonLie_222 : decode cX9_reckonLie 222 = .ok (.if_icmp .ne 8, 3) := by decide +kernel
theorem dX9_reckonLie_225 : decode cX9_reckonLie 225 = .ok (.iload 9, 2) := by decide +kernel
theorem dX9_reckonLie_227 : decode cX9_reckonLie 227 = .ok (.goto 5, 3) := by decide +kernel
theorem dX9_reckonLie_230 : decode cX9_reckonLie 230 = .ok (.iload 4, 2) := by decide +kernel
theorem dX9_reckonLie_232 : decode cX9_reckonLie 232 = .ok (.istore 10, 2) := by decide +kernel
theorem dX9_reckonLie_234 : decode cX9_reckonLie 234 = .ok (.iload 10, 2) := by decide +kernel
theorem dX9_reckonLie_236 : decode cX9_reckonLie 236 = .ok (.iload 5, 2) := by decide +kernel
theorem dX9_reckonLie_238 : decode cX9_reckonLie 238 = .ok (.if_icmp .gt 34, 3) := by decide +kernel
theorem dX9_reckonLie_241 : decode cX9_reckonLie 241 = .ok (.lload 6, 2) := by decide +kernel
theorem dX9_reckonLie_243 : decode cX9_reckonLie 243 = .ok (.aload_n 0, 1) := by decide +kernel
theorem dX9_reckonLie_244 : decode cX9_reckonLie 244 = .ok (.iload_n 1, 1) := by decide +kernel
theorem dX9_reckonLie_245 : decode cX9_reckonLie 245 = .ok (.iload 8, 2) := by decide +kernel
theorem dX9_reckonLie_247 : decode cX9_reckonLie 247 = .ok (.iload_n 2, 1) := by decide +kernel
theorem dX9_reckonLie_248 : decode cX9_reckonLie 248 = .ok (.iload 9, 2) := by decide +kernel
theorem dX9_reckonLie_250 : decode cX9_reckonLie 250 = .ok (.iload 10, 2) := by decide +kernel
theorem dX9_reckonLie_252 : decode cX9_reckonLie 252 = .ok (.iload 5, 2) := by decide +kernel
theorem dX9_reckonLie_254 : decode cX9_reckonLie 254 = .ok (.iload_n 3, 1) := by decide +kernel
theorem dX9_reckonLie_255 : decode cX9_reckonLie 255 = .ok (.iload 4, 2) := by decide +kernel
theorem dX9_reckonLie_257 : decode cX9_reckonLie 257 = .ok (.invokevirtual 251, 3) := by decide +kernel
theorem dX9_reckonLie_260 : decode cX9_reckonLie 260 = .ok (.ladd, 1) := by decide +kernel
theorem dX9_reckonLie_261 : decode cX9_reckonLie 261 = .ok (.invokestatic 236, 3) := by decide +kernel
theorem dX9_reckonLie_264 : decode cX9_reckonLie 264 = .ok (.lstore 6, 2) := by decide +kernel
theorem dX9_reckonLie_266 : decode cX9_reckonLie 266 = .ok (.iinc 10 1, 3) := by decide +kernel
theorem dX9_reckonLie_269 : decode cX9_reckonLie 269 = .ok (.goto (-35), 3) := by decide +kernel
theorem dX9_reckonLie_272 : decode cX9_reckonLie 272 = .ok (.iinc 9 1, 3) := by decide +kernel
theorem dX9_reckonLie_275 : decode cX9_reckonLie 275 = .ok (.goto (-71), 3) := by decide +kernel
theorem dX9_reckonLie_278 : decode cX9_reckonLie 278 = .ok (.iinc 8 1, 3) := by decide +kernel
theorem dX9_reckonLie_281 : decode cX9_reckonLie 281 = .ok (.goto (-113), 3) := by decide +kernel
theorem dX9_reckonLie_284 : decode cX9_reckonLie 284 = .ok (.lload 6, 2) := by decide +kernel
theorem dX9_reckonLie_286 : decode cX9_reckonLie 286 = .ok (.lreturn, 1) := by decide +kernel
theorem dX9_isWord_0 : decode cX9_isWord 0 = .ok (.iload_n 2, 1) := by decide +kernel
theorem dX9_isWord_1 : decode cX9_isWord 1 = .ok (.aload_n 0, 1) := by decide +kernel
theorem dX9_isWord_2 : decode cX9_isWord 2 = .ok (.getfield 220, 3) := by decide +kernel
theorem dX9_isWord_5 : decode cX9_isWord 5 = .ok (.if_icmp .ge 23, 3) := by decide +kernel
theorem dX9_isWord_8 : decode cX9_isWord 8 = .ok (.aload_n 0, 1) := by decide +kernel
theorem dX9_isWord_9 : decode cX9_isWord 9 = .ok (.getfield 66, 3) := by decide +kernel
theorem dX9_isWord_12 : decode cX9_isWord 12 = .ok (.iload_n 2, 1) := by decide +kernel
theorem dX9_isWord_13 : decode cX9_isWord 13 = .ok (.iaload, 1) := by decide +kernel
theorem dX9_isWord_14 : decode cX9_isWord 14 = .ok (.aload_n 0, 1) := by decide +kernel
theorem dX9_isWord_15 : decode cX9_isWord 15 = .ok (.getfield 23, 3) := by decide +kernel
theorem dX9_isWord_18 : decode cX9_isWord 18 = .ok (.aload_n 0, 1) := by decide +kernel
theorem dX9_isWord_19 : decode cX9_isWord 19 = .ok (.getfield 29, 3) := by decide +kernel
theorem dX9_isWord_22 : decode cX9_isWord 22 = .ok (.iload_n 1, 1) := by decide +kernel
theorem dX9_isWord_23 : decode cX9_isWord 23 = .ok (.iaload, 1) := by decide +kernel
theorem dX9_isWord_24 : decode cX9_isWord 24 = .ok (.iaload, 1) := by decide +kernel
theorem dX9_isWord_25 : decode cX9_isWord 25 = .ok (.if_icmp .eq 5, 3) := by decide +kernel
theorem dX9_isWord_28 : decode cX9_isWord 28 = .ok (.iconst 0, 1) := by decide +kernel
theorem dX9_isWord_29 : decode cX9_isWord 29 = .ok (.ireturn, 1) := by decide +kernel
theorem dX9_isWord_30 : decode cX9_isWord 30 = .ok (.iconst 0, 1) := by decide +kernel
theorem dX9_isWord_31 : decode cX9_isWord 31 = .ok (.istore_n 3, 1) := by decide +kernel
theorem dX9_isWord_32 : decode cX9_isWord 32 = .ok (.iload_n 3, 1) := by decide +kernel
theorem dX9_isWord_33 : decode cX9_isWord 33 = .ok (.aload_n 0, 1) := by decide +kernel
theorem dX9_isWord_34 : decode cX9_isWord 34 = .ok (.getfield 66, 3) := by decide +kernel
theorem dX9_isWord_37 : decode cX9_isWord 37 = .ok (.iload_n 2, 1) := by decide +kernel
theorem dX9_isWord_38 : decode cX9_isWord 38 = .ok (.iaload, 1) := by decide +kernel
theorem dX9_isWord_39 : decode cX9_isWord 39 = .ok (.if_icmp .ge 41, 3) := by decide +kernel
theorem dX9_isWord_42 : decode cX9_isWord 42 = .ok (.aload_n 0, 1) := by decide +kernel
theorem dX9_isWord_43 : decode cX9_isWord 43 = .ok (.getfield 63, 3) := by decide +kernel
theorem dX9_isWord_46 : decode cX9_isWord 46 = .ok (.bipush 12, 2) := by decide +kernel
theorem dX9_isWord_48 : decode cX9_isWord 48 = .ok (.iload_n 2, 1) := by decide +kernel
theorem dX9_isWord_49 : decode cX9_isWord 49 = .ok (.imul, 1) := by decide +kernel
theorem dX9_isWord_50 : decode cX9_isWord 50 = .ok (.iload_n 3, 1) := by decide +kernel
theorem dX9_isWord_51 : decode cX9_isWord 51 = .ok (.iadd, 1) := by decide +kernel
theorem dX9_isWord_52 : decode cX9_isWord 52 = .ok (.baload, 1) := by decide +kernel
theorem dX9_isWord_53 : decode cX9_isWord 53 = .ok (.aload_n 0, 1) := by decide +kernel
theorem dX9_isWord_54 : decode cX9_isWord 54 = .ok (.getfield 20, 3) := by decide +kernel
theorem dX9_isWord_57 : decode cX9_isWord 57 = .ok (.bipush 12, 2) := by decide +kernel
theorem dX9_isWord_59 : decode cX9_isWord 59 = .ok (.aload_n 0, 1) := by decide +kernel
theorem dX9_isWord_60 : decode cX9_isWord 60 = .ok (.getfield 29, 3) := by decide +kernel
theorem dX9_isWord_63 : decode cX9_isWord 63 = .ok (.iload_n 1, 1) := by decide +kernel
theorem dX9_isWord_64 : decode cX9_isWord 64 = .ok (.iaload, 1) := by decide +kernel
theorem dX9_isWord_65 : decode cX9_isWord 65 = .ok (.imul, 1) := by decide +kernel
theorem dX9_isWord_66 : decode cX9_isWord 66 = .ok (.iload_n 3, 1) := by decide +kernel
theorem dX9_isWord_67 : decode cX9_isWord 67 = .ok (.iadd, 1) := by decide +kernel
theorem dX9_isWord_68 : decode cX9_isWord 68 = .ok (.baload, 1) := by decide +kernel
theorem dX9_isWord_69 : decode cX9_isWord 69 = .ok (.if_icmp .eq 5, 3) := by decide +kernel
theorem dX9_isWord_72 : decode cX9_isWord 72 = .ok (.iconst 0, 1) := by decide +kernel
theorem dX9_isWord_73 : decode cX9_isWord 73 = .ok (.ireturn, 1) := by decide +kernel
theorem dX9_isWord_74 : decode cX9_isWord 74 = .ok (.iinc 3 1, 3) := by decide +kernel
theorem dX9_isWord_77 : decode cX9_isWord 77 = .ok (.goto (-45), 3) := by decide +kernel
theorem dX9_isWord_80 : decode cX9_isWord 80 = .ok (.iconst 1, 1) := by decide +kernel
theorem dX9_isWord_81 : decode cX9_isWord 81 = .ok (.ireturn, 1) := by decide +kernel
theorem dX9_reckon_0 : decode cX9_reckon 0 = .ok (.iconst 0, 1) := by decide +kernel
theorem dX9_reckon_1 : decode cX9_reckon 1 = .ok (.istore_n 3, 1) := by decide +kernel
theorem dX9_reckon_2 : decode cX9_reckon 2 = .ok (.iload_n 3, 1) := by decide +kernel
theorem dX9_reckon_3 : decode cX9_reckon 3 = .ok (.aload_n 0, 1) := by decide +kernel
theorem dX9_reckon_4 : decode cX9_reckon 4 = .ok (.getfield 154, 3) := by decide +kernel
theorem dX9_reckon_7 : decode cX9_reckon 7 = .ok (.if_icmp .ge 77, 3) := by decide +kernel
theorem dX9_reckon_10 : decode cX9_reckon 10 = .ok (.aload_n 0, 1) := by decide +kernel
theorem dX9_reckon_11 : decode cX9_reckon 11 = .ok (.getfield 60, 3) := by decide +kernel
theorem dX9_reckon_14 : decode cX9_reckon 14 = .ok (.iload_n 3, 1) := by decide +kernel
theorem dX9_reckon_15 : decode cX9_reckon 15 = .ok (.iaload, 1) := by decide +kernel
theorem dX9_reckon_16 : decode cX9_reckon 16 = .ok (.iconst 1, 1) := by decide +kernel
theorem dX9_reckon_17 : decode cX9_reckon 17 = .ok (.isub, 1) := by decide +kernel
theorem dX9_reckon_18 : decode cX9_reckon 18 = .ok (.istore 4, 2) := by decide +kernel
theorem dX9_reckon_20 : decode cX9_reckon 20 = .ok (.iload 4, 2) := by decide +kernel
theorem dX9_reckon_22 : decode cX9_reckon 22 = .ok (.ifCond .lt 56, 3) := by decide +kernel
theorem dX9_reckon_25 : decode cX9_reckon 25 = .ok (.bipush 12, 2) := by decide +kernel
theorem dX9_reckon_27 : decode cX9_reckon 27 = .ok (.iload_n 3, 1) := by decide +kernel
theorem dX9_reckon_28 : decode cX9_reckon 28 = .ok (.imul, 1) := by decide +kernel
theorem dX9_reckon_29 : decode cX9_reckon 29 = .ok (.iload 4, 2) := by decide +kernel
theorem dX9_reckon_31 : decode cX9_reckon 31 = .ok (.iadd, 1) := by decide +kernel
theorem dX9_reckon_32 : decode cX9_reckon 32 = .ok (.istore 5, 2) := by decide +kernel
theorem dX9_reckon_34 : decode cX9_reckon 34 = .ok (.aload_n 0, 1) := by decide +kernel
theorem dX9_reckon_35 : decode cX9_reckon 35 = .ok (.getfield 51, 3) := by decide +kernel
theorem dX9_reckon_38 : decode cX9_reckon 38 = .ok (.iload 5, 2) := by decide +kernel
theorem dX9_reckon_40 : decode cX9_reckon 40 = .ok (.baload, 1) := by decide +kernel
theorem dX9_reckon_41 : decode cX9_reckon 41 = .ok (.iload_n 2, 1) := by decide +kernel
theorem dX9_reckon_42 : decode cX9_reckon 42 = .ok (.if_icmp .ne 11, 3) := by decide +kernel
theorem dX9_reckon_45 : decode cX9_reckon 45 = .ok (.aload_n 0, 1) := by decide +kernel
theorem dX9_reckon_46 : decode cX9_reckon 46 = .ok (.iload 5, 2) := by decide +kernel
theorem dX9_reckon_48 : decode cX9_reckon 48 = .ok (.iload_n 1, 1) := by decide +kernel
theorem dX9_reckon_49 : decode cX9_reckon 49 = .ok (.iconst 0, 1) := by decide +kernel
theorem dX9_reckon_50 : decode cX9_reckon 50 = .ok (.invokevirtual 255, 3) := by decide +kernel
theorem dX9_reckon_53 : decode cX9_reckon 53 = .ok (.aload_n 0, 1) := by decide +kernel
theorem dX9_reckon_54 : decode cX9_reckon 54 = .ok (.getfield 57, 3) := by decide +kernel
theorem dX9_reckon_57 : decode cX9_reckon 57 = .ok (.iload 5, 2) := by decide +kernel
theorem dX9_reckon_59 : decode cX9_reckon 59 = .ok (.baload, 1) := by decide +kernel
theorem dX9_reckon_60 : decode cX9_reckon 60 = .ok (.iload_n 2, 1) := by decide +kernel
theorem dX9_reckon_61 : decode cX9_reckon 61 = .ok (.if_icmp .ne 11, 3) := by decide +kernel
theorem dX9_reckon_64 : decode cX9_reckon 64 = .ok (.aload_n 0, 1) := by decide +kernel
theorem dX9_reckon_65 : decode cX9_reckon 65 = .ok (.iload 5, 2) := by decide +kernel
theorem dX9_reckon_67 : decode cX9_reckon 67 = .ok (.iload_n 1, 1) := by decide +kernel
theorem dX9_reckon_68 : decode cX9_reckon 68 = .ok (.iconst 1, 1) := by decide +kernel
theorem dX9_reckon_69 : decode cX9_reckon 69 = .ok (.invokevirtual 255, 3) := by decide +kernel
theorem dX9_reckon_72 : decode cX9_reckon 72 = .ok (.iinc 4 (-1), 3) := by decide +kernel
theorem dX9_reckon_75 : decode cX9_reckon 75 = .ok (.goto (-55), 3) := by decide +kernel
theorem dX9_reckon_78 : decode cX9_reckon 78 = .ok (.iinc 3 1, 3) := by decide +kernel
theorem dX9_reckon_81 : decode cX9_reckon 81 = .ok (.goto (-79), 3) := by decide +kernel
theorem dX9_reckon_84 : decode cX9_reckon 84 = .ok (.return_, 1) := by decide +kernel
theorem dX9_fill_0 : decode cX9_fill 0 = .ok (.iload_n 3, 1) := by decide +kernel
theorem dX9_fill_1 : decode cX9_fill 1 = .ok (.ifCond .eq 12, 3) := by decide +kernel
theorem dX9_fill_4 : decode cX9_fill 4 = .ok (.aload_n 0, 1) := by decide +kernel
theorem dX9_fill_5 : decode cX9_fill 5 = .ok (.getfield 54, 3) := by decide +kernel
theorem dX9_fill_8 : decode cX9_fill 8 = .ok (.iload_n 1, 1) := by decide +kernel
theorem dX9_fill_9 : decode cX9_fill 9 = .ok (.baload, 1) := by decide +kernel
theorem dX9_fill_10 : decode cX9_fill 10 = .ok (.goto 9, 3) := by decide +kernel
theorem dX9_fill_13 : decode cX9_fill 13 = .ok (.aload_n 0, 1) := by decide +kernel
theorem dX9_fill_14 : decode cX9_fill 14 = .ok (.getfield 47, 3) := by decide +kernel
theorem dX9_fill_17 : decode cX9_fill 17 = .ok (.iload_n 1, 1) := by decide +kernel
theorem dX9_fill_18 : decode cX9_fill 18 = .ok (.baload, 1) := by decide +kernel
theorem dX9_fill_19 : decode cX9_fill 19 = .ok (.istore 4, 2) := by decide +kernel
theorem dX9_fill_21 : decode cX9_fill 21 = .ok (.iconst 0, 1) := by decide +kernel
theorem dX9_fill_22 : decode cX9_fill 22 = .ok (.istore 5, 2) := by decide +kernel
theorem dX9_fill_24 : decode cX9_fill 24 = .ok (.iload 5, 2) := by decide +kernel
theorem dX9_fill_26 : decode cX9_fill 26 = .ok (.aload_n 0, 1) := by decide +kernel
theorem dX9_fill_27 : decode cX9_fill 27 = .ok (.getfield 220, 3) := by decide +kernel
theorem dX9_fill_30 : decode cX9_fill 30 = .ok (.if_icmp .gt 114, 3) := by decide +kernel
theorem dX9_fill_33 : decode cX9_fill 33 = .ok (.iload 5, 2) := by decide +kernel
theorem dX9_fill_35 : decode cX9_fill 35 = .ok (.istore 6, 2) := by decide +kernel
theorem dX9_fill_37 : decode cX9_fill 37 = .ok (.iload 6, 2) := by decide +kernel
theorem dX9_fill_39 : decode cX9_fill 39 = .ok (.aload_n 0, 1) := by decide +kernel
theorem dX9_fill_40 : decode cX9_fill 40 = .ok (.getfield 220, 3) := by decide +kernel
theorem dX9_fill_43 : decode cX9_fill 43 = .ok (.if_icmp .gt 95, 3) := by decide +kernel
theorem dX9_fill_46 : decode cX9_fill 46 = .ok (.iload 4, 2) := by decide +kernel
theorem dX9_fill_48 : decode cX9_fill 48 = .ok (.ifCond .ne 27, 3) := by decide +kernel
theorem dX9_fill_51 : decode cX9_fill 51 = .ok (.iload 6, 2) := by decide +kernel
theorem dX9_fill_53 : decode cX9_fill 53 = .ok (.iload 5, 2) := by decide +kernel
theorem dX9_fill_55 : decode cX9_fill 55 = .ok (.isub, 1) := by decide +kernel
theorem dX9_fill_56 : decode cX9_fill 56 = .ok (.iload_n 2, 1) := by decide +kernel
theorem dX9_fill_57 : decode cX9_fill 57 = .ok (.if_icmp .ne 75, 3) := by decide +kernel
theorem dX9_fill_60 : decode cX9_fill 60 = .ok (.aload_n 0, 1) := by decide +kernel
theorem dX9_fill_61 : decode cX9_fill 61 = .ok (.iload_n 1, 1) := by decide +kernel
theorem dX9_fill_62 : decode cX9_fill 62 = .ok (.iload 5, 2) := by decide +kernel
theorem dX9_fill_64 : decode cX9_fill 64 = .ok (.iconst (-1), 1) := by decide +kernel
theorem dX9_fill_65 : decode cX9_fill 65 = .ok (.iconst (-1), 1) := by decide +kernel
theorem dX9_fill_66 : decode cX9_fill 66 = .ok (.iload 6, 2) := by decide +kernel
theorem dX9_fill_68 : decode cX9_fill 68 = .ok (.iload_n 3, 1) := by decide +kernel
theorem dX9_fill_69 : decode cX9_fill 69 = .ok (.invokevirtual 259, 3) := by decide +kernel
theorem dX9_fill_72 : decode cX9_fill 72 = .ok (.goto 60, 3) := by decide +kernel
theorem dX9_fill_75 : decode cX9_fill 75 = .ok (.iload 5, 2) := by decide +kernel
theorem dX9_fill_77 : decode cX9_fill 77 = .ok (.istore 7, 2) := by decide +kernel
theorem dX9_fill_79 : decode cX9_fill 79 = .ok (.iload 7, 2) := by decide +kernel
theorem dX9_fill_81 : decode cX9_fill 81 = .ok (.iload 6, 2) := by decide +kernel
theorem dX9_fill_83 : decode cX9_fill 83 = .ok (.if_icmp .gt 49, 3) := by decide +kernel
theorem dX9_fill_86 : decode cX9_fill 86 = .ok (.iload 7, 2) := by decide +kernel
theorem dX9_fill_88 : decode cX9_fill 88 = .ok (.iload 6, 2) := by decide +kernel
theorem dX9_fill_90 : decode cX9_fill 90 = .ok (.iadd, 1) := by decide +kernel
theorem dX9_fill_91 : decode cX9_fill 91 = .ok (.iload 5, 2) := by decide +kernel
theorem dX9_fill_93 : decode cX9_fill 93 = .ok (.isub, 1) := by decide +kernel
theorem dX9_fill_94 : decode cX9_fill 94 = .ok (.iload_n 2, 1) := by decide +kernel
theorem dX9_fill_95 : decode cX9_fill 95 = .ok (.isub, 1) := by decide +kernel
theorem dX9_fill_96 : decode cX9_fill 96 = .ok (.istore 8, 2) := by decide +kernel
theorem dX9_fill_98 : decode cX9_fill 98 = .ok (.iload 8, 2) := by decide +kernel
theorem dX9_fill_100 : decode cX9_fill 100 = .ok (.iload 7, 2) := by decide +kernel
theorem dX9_fill_102 : decode cX9_fill 102 = .ok (.if_icmp .lt 24, 3) := by decide +kernel
theorem dX9_fill_105 : decode cX9_fill 105 = .ok (.iload 8, 2) := by decide +kernel
theorem dX9_fill_107 : decode cX9_fill 107 = .ok (.iload 6, 2) := by decide +kernel
theorem dX9_fill_109 : decode cX9_fill 109 = .ok (.if_icmp .gt 17, 3) := by decide +kernel
theorem dX9_fill_112 : decode cX9_fill 112 = .ok (.aload_n 0, 1) := by decide +kernel
theorem dX9_fill_113 : decode cX9_fill 113 = .ok (.iload_n 1, 1) := by decide +kernel
theorem dX9_fill_114 : decode cX9_fill 114 = .ok (.iload 5, 2) := by decide +kernel
theorem dX9_fill_116 : decode cX9_fill 116 = .ok (.iload 7, 2) := by decide +kernel
theorem dX9_fill_118 : decode cX9_fill 118 = .ok (.iload 8, 2) := by decide +kernel
theorem dX9_fill_120 : decode cX9_fill 120 = .ok (.iload 6, 2) := by decide +kernel
theorem dX9_fill_122 : decode cX9_fill 122 = .ok (.iload_n 3, 1) := by decide +kernel
theorem dX9_fill_123 : decode cX9_fill 123 = .ok (.invokevirtual 259, 3) := by decide +kernel
theorem dX9_fill_126 : decode cX9_fill 126 = .ok (.iinc 7 1, 3) := by decide +kernel
theorem dX9_fill_129 : decode cX9_fill 129 = .ok (.goto (-50), 3) := by decide +kernel
theorem dX9_fill_132 : decode cX9_fill 132 = .ok (.iinc 6 1, 3) := by decide +kernel
theorem dX9_fill_135 : decode cX9_fill 135 = .ok (.goto (-98), 3) := by decide +kernel
theorem dX9_fill_138 : decode cX9_fill 138 = .ok (.iinc 5 1, 3) := by decide +kernel
theorem dX9_fill_141 : decode cX9_fill 141 = .ok (.goto (-117), 3) := by decide +kernel
theorem dX9_fill_144 : decode cX9_fill 144 = .ok (.return_, 1) := by decide +kernel
theorem dX9_put_0 : decode cX9_put 0 = .ok (.sipush 495, 3) := by decide +kernel
theorem dX9_put_3 : decode cX9_put 3 = .ok (.iload_n 1, 1) := by decide +kernel
theorem dX9_put_4 : decode cX9_put 4 = .ok (.imul, 1) := by decide +kernel
theorem dX9_put_5 : decode cX9_put 5 = .ok (.aload_n 0, 1) := by decide +kernel
theorem dX9_put_6 : decode cX9_put 6 = .ok (.getfield 75, 3) := by decide +kernel
theorem dX9_put_9 : decode cX9_put 9 = .ok (.iload_n 3, 1) := by decide +kernel
theorem dX9_put_10 : decode cX9_put 10 = .ok (.iconst (-1), 1) := by decide +kernel
theorem dX9_put_11 : decode cX9_put 11 = .ok (.if_icmp .ne 14, 3) := by decide +kernel
theorem dX9_put_14 : decode cX9_put 14 = .ok (.iload_n 2, 1) := by decide +kernel
theorem dX9_put_15 : decode cX9_put 15 = .ok (.iload_n 2, 1) := by decide +kernel
theorem dX9_put_16 : decode cX9_put 16 = .ok (.iload_n 2, 1) := by decide +kernel
theorem dX9_put_17 : decode cX9_put 17 = .ok (.iload 5, 2) := by decide +kernel
theorem dX9_put_19 : decode cX9_put 19 = .ok (.invokestatic 223, 3) := by decide +kernel
theorem dX9_put_22 : decode cX9_put 22 = .ok (.goto 12, 3) := by decide +kernel
theorem dX9_put_25 : decode cX9_put 25 = .ok (.iload_n 2, 1) := by decide +kernel
theorem dX9_put_26 : decode cX9_put 26 = .ok (.iload_n 3, 1) := by decide +kernel
theorem dX9_put_27 : decode cX9_put 27 = .ok (.iload 4, 2) := by decide +kernel
theorem dX9_put_29 : decode cX9_put 29 = .ok (.iload 5, 2) := by decide +kernel
theorem dX9_put_31 : decode cX9_put 31 = .ok (.invokestatic 223, 3) := by decide +kernel
theorem dX9_put_34 : decode cX9_put 34 = .ok (.iaload, 1) := by decide +kernel
theorem dX9_put_35 : decode cX9_put 35 = .ok (.iadd, 1) := by decide +kernel
theorem dX9_put_36 : decode cX9_put 36 = .ok (.istore 7, 2) := by decide +kernel
theorem dX9_put_38 : decode cX9_put 38 = .ok (.iload 6, 2) := by decide +kernel
theorem dX9_put_40 : decode cX9_put 40 = .ok (.ifCond .eq 24, 3) := by decide +kernel
theorem dX9_put_43 : decode cX9_put 43 = .ok (.aload_n 0, 1) := by decide +kernel
theorem dX9_put_44 : decode cX9_put 44 = .ok (.getfield 83, 3) := by decide +kernel
theorem dX9_put_47 : decode cX9_put 47 = .ok (.iload 7, 2) := by decide +kernel
theorem dX9_put_49 : decode cX9_put 49 = .ok (.aload_n 0, 1) := by decide +kernel
theorem dX9_put_50 : decode cX9_put 50 = .ok (.iload_n 1, 1) := by decide +kernel
theorem dX9_put_51 : decode cX9_put 51 = .ok (.iload_n 2, 1) := by decide +kernel
theorem dX9_put_52 : decode cX9_put 52 = .ok (.iload_n 3, 1) := by decide +kernel
theorem dX9_put_53 : decode cX9_put 53 = .ok (.iload 4, 2) := by decide +kernel
theorem dX9_put_55 : decode cX9_put 55 = .ok (.iload 5, 2) := by decide +kernel
theorem dX9_put_57 : decode cX9_put 57 = .ok (.invokevirtual 263, 3) := by decide +kernel
theorem dX9_put_60 : decode cX9_put 60 = .ok (.lastore, 1) := by decide +kernel
theorem dX9_put_61 : decode cX9_put 61 = .ok (.goto 21, 3) := by decide +kernel
theorem dX9_put_64 : decode cX9_put 64 = .ok (.aload_n 0, 1) := by decide +kernel
theorem dX9_put_65 : decode cX9_put 65 = .ok (.getfield 79, 3) := by decide +kernel
theorem dX9_put_68 : decode cX9_put 68 = .ok (.iload 7, 2) := by decide +kernel
theorem dX9_put_70 : decode cX9_put 70 = .ok (.aload_n 0, 1) := by decide +kernel
theorem dX9_put_71 : decode cX9_put 71 = .ok (.iload_n 1, 1) := by decide +kernel
theorem dX9_put_72 : decode cX9_put 72 = .ok (.iload_n 2, 1) := by decide +kernel
theorem dX9_put_73 : decode cX9_put 73 = .ok (.iload_n 3, 1) := by decide +kernel
theorem dX9_put_74 : decode cX9_put 74 = .ok (.iload 4, 2) := by decide +kernel
theorem dX9_put_76 : decode cX9_put 76 = .ok (.iload 5, 2) := by decide +kernel
theorem dX9_put_78 : decode cX9_put 78 = .ok (.invokevirtual 266, 3) := by decide +kernel
theorem dX9_put_81 : decode cX9_put 81 = .ok (.lastore, 1) := by decide +kernel
theorem dX9_put_82 : decode cX9_put 82 = .ok (.return_, 1) := by decide +kernel
theorem dX9_read_0 : decode cX9_read 0 = .ok (.aload_n 0, 1) := by decide +kernel
theorem dX9_read_1 : decode cX9_read 1 = .ok (.iconst 0, 1) := by decide +kernel
theorem dX9_read_2 : decode cX9_read 2 = .ok (.putfield 107, 3) := by decide +kernel
theorem dX9_read_5 : decode cX9_read 5 = .ok (.aload_n 0, 1) := by decide +kernel
theorem dX9_read_6 : decode cX9_read 6 = .ok (.invokevirtual 207, 3) := by decide +kernel
theorem dX9_read_9 : decode cX9_read 9 = .ok (.aload_n 0, 1) := by decide +kernel
theorem dX9_read_10 : decode cX9_read 10 = .ok (.invokevirtual 195, 3) := by decide +kernel
theorem dX9_read_13 : decode cX9_read 13 = .ok (.istore_n 1, 1) := by decide +kernel
theorem dX9_read_14 : decode cX9_read 14 = .ok (.iload_n 1, 1) := by decide +kernel
theorem dX9_read_15 : decode cX9_read 15 = .ok (.ifCond .eq 16, 3) := by decide +kernel
theorem dX9_read_18 : decode cX9_read 18 = .ok (.aload_n 0, 1) := by decide +kernel
theorem dX9_read_19 : decode cX9_read 19 = .ok (.getfield 130, 3) := by decide +kernel
theorem dX9_read_22 : decode cX9_read 22 = .ok (.iconst 1, 1) := by decide +kernel
theorem dX9_read_23 : decode cX9_read 23 = .ok (.if_icmp .eq 8, 3) := by decide +kernel
theorem dX9_read_26 : decode cX9_read 26 = .ok (.aload_n 0, 1) := by decide +kernel
theorem dX9_read_27 : decode cX9_read 27 = .ok (.invokevirtual 189, 3) := by decide +kernel
theorem dX9_read_30 : decode cX9_read 30 = .ok (.istore_n 1, 1) := by decide +kernel
theorem dX9_read_31 : decode cX9_read 31 = .ok (.aload_n 0, 1) := by decide +kernel
theorem dX9_read_32 : decode cX9_read 32 = .ok (.iload_n 1, 1) := by decide +kernel
theorem dX9_read_33 : decode cX9_read 33 = .ok (.ifCond .eq 10, 3) := by decide +kernel
theorem dX9_read_36 : decode cX9_read 36 = .ok (.aload_n 0, 1) := by decide +kernel
theorem dX9_read_37 : decode cX9_read 37 = .ok (.invokevirtual 164, 3) := by decide +kernel
theorem dX9_read_40 : decode cX9_read 40 = .ok (.goto 4, 3) := by decide +kernel
theorem dX9_read_43 : decode cX9_read 43 = .ok (.iconst (-1), 1) := by decide +kernel
theorem dX9_read_44 : decode cX9_read 44 = .ok (.putfield 269, 3) := by decide +kernel
theorem dX9_read_47 : decode cX9_read 47 = .ok (.iload_n 1, 1) := by decide +kernel
theorem dX9_read_48 : decode cX9_read 48 = .ok (.ifCond .eq 28, 3) := by decide +kernel
theorem dX9_read_51 : decode cX9_read 51 = .ok (.aload_n 0, 1) := by decide +kernel
theorem dX9_read_52 : decode cX9_read 52 = .ok (.invokevirtual 144, 3) := by decide +kernel
theorem dX9_read_55 : decode cX9_read 55 = .ok (.ifCond .eq 21, 3) := by decide +kernel
theorem dX9_read_58 : decode cX9_read 58 = .ok (.aload_n 0, 1) := by decide +kernel
theorem dX9_read_59 : decode cX9_read 59 = .ok (.getfield 130, 3) := by decide +kernel
theorem dX9_read_62 : decode cX9_read 62 = .ok (.ifCond .eq 10, 3) := by decide +kernel
theorem dX9_read_65 : decode cX9_read 65 = .ok (.aload_n 0, 1) := by decide +kernel
theorem dX9_read_66 : decode cX9_read 66 = .ok (.invokevirtual 189, 3) := by decide +kernel
theorem dX9_read_69 : decode cX9_read 69 = .ok (.ifCond .eq 7, 3) := by decide +kernel
theorem dX9_read_72 : decode cX9_read 72 = .ok (.iconst 1, 1) := by decide +kernel
theorem dX9_read_73 : decode cX9_read 73 = .ok (.goto 4, 3) := by decide +kernel
theorem dX9_read_76 : decode cX9_read 76 = .ok (.iconst 0, 1) := by decide +kernel
theorem dX9_read_77 : decode cX9_read 77 = .ok (.istore_n 1, 1) := by decide +kernel
theorem dX9_read_78 : decode cX9_read 78 = .ok (.aload_n 0, 1) := by decide +kernel
theorem dX9_read_79 : decode cX9_read 79 = .ok (.iconst 0, 1) := by decide +kernel
theorem dX9_read_80 : decode cX9_read 80 = .ok (.putfield 111, 3) := by decide +kernel
theorem dX9_read_83 : decode cX9_read 83 = .ok (.iload_n 1, 1) := by decide +kernel
theorem dX9_read_84 : decode cX9_read 84 = .ok (.ifCond .ne 10, 3) := by decide +kernel
theorem dX9_read_87 : decode cX9_read 87 = .ok (.iconst (-1), 1) := by decide +kernel
theorem dX9_read_88 : decode cX9_read 88 = .ok (.aload_n 0, 1) := by decide +kernel
theorem dX9_read_89 : decode cX9_read 89 = .ok (.getfield 117, 3) := by decide +kernel
theorem dX9_read_92 : decode cX9_read 92 = .ok (.isub, 1) := by decide +kernel
theorem dX9_read_93 : decode cX9_read 93 = .ok (.ireturn, 1) := by decide +kernel
theorem dX9_read_94 : decode cX9_read 94 = .ok (.aload_n 0, 1) := by decide +kernel
theorem dX9_read_95 : decode cX9_read 95 = .ok (.invokevirtual 272, 3) := by decide +kernel
theorem dX9_read_98 : decode cX9_read 98 = .ok (.iconst 0, 1) := by decide +kernel
theorem dX9_read_99 : decode cX9_read 99 = .ok (.istore_n 2, 1) := by decide +kernel
theorem dX9_read_100 : decode cX9_read 100 = .ok (.iload_n 2, 1) := by decide +kernel
theorem dX9_read_101 : decode cX9_read 101 = .ok (.ldc 78, 2) := by decide +kernel
theorem dX9_read_103 : decode cX9_read 103 = .ok (.if_icmp .ge 23, 3) := by decide +kernel
theorem dX9_read_106 : decode cX9_read 106 = .ok (.aload_n 0, 1) := by decide +kernel
theorem dX9_read_107 : decode cX9_read 107 = .ok (.getfield 79, 3) := by decide +kernel
theorem dX9_read_110 : decode cX9_read 110 = .ok (.iload_n 2, 1) := by decide +kernel
theorem dX9_read_111 : decode cX9_read 111 = .ok (.lconst 0, 1) := by decide +kernel
theorem dX9_read_112 : decode cX9_read 112 = .ok (.lastore, 1) := by decide +kernel
theorem dX9_read_113 : decode cX9_read 113 = .ok (.aload_n 0, 1) := by decide +kernel
theorem dX9_read_114 : decode cX9_read 114 = .ok (.getfield 83, 3) := by decide +kernel
theorem dX9_read_117 : decode cX9_read 117 = .ok (.iload_n 2, 1) := by decide +kernel
theorem dX9_read_118 : decode cX9_read 118 = .ok (.lconst 0, 1) := by decide +kernel
theorem dX9_read_119 : decode cX9_read 119 = .ok (.lastore, 1) := by decide +kernel
theorem dX9_read_120 : decode cX9_read 120 = .ok (.iinc 2 1, 3) := by decide +kernel
theorem dX9_read_123 : decode cX9_read 123 = .ok (.goto (-23), 3) := by decide +kernel
theorem dX9_read_126 : decode cX9_read 126 = .ok (.iconst 0, 1) := by decide +kernel
theorem dX9_read_127 : decode cX9_read 127 = .ok (.istore_n 2, 1) := by decide +kernel
theorem dX9_read_128 : decode cX9_read 128 = .ok (.iload_n 2, 1) := by decide +kernel
theorem dX9_read_129 : decode cX9_read 129 = .ok (.aload_n 0, 1) := by decide +kernel
theorem dX9_read_130 : decode cX9_read 130 = .ok (.getfield 220, 3) := by decide +kernel
theorem dX9_read_133 : decode cX9_read 133 = .ok (.if_icmp .gt 21, 3) := by decide +kernel
theorem dX9_read_136 : decode cX9_read 136 = .ok (.aload_n 0, 1) := by decide +kernel
theorem dX9_read_137 : decode cX9_read 137 = .ok (.iload_n 2, 1) := by decide +kernel
theorem dX9_read_138 : decode cX9_read 138 = .ok (.iconst 1, 1) := by decide +kernel
theorem dX9_read_139 : decode cX9_read 139 = .ok (.invokevirtual 275, 3) := by decide +kernel
theorem dX9_read_142 : decode cX9_read 142 = .ok (.aload_n 0, 1) := by decide +kernel
theorem dX9_read_143 : decode cX9_read 143 = .ok (.iload_n 2, 1) := by decide +kernel
theorem dX9_read_144 : decode cX9_read 144 = .ok (.iconst 0, 1) := by decide +kernel
theorem dX9_read_145 : decode cX9_read 145 = .ok (.invokevirtual 275, 3) := by decide +kernel
theorem dX9_read_148 : decode cX9_read 148 = .ok (.iinc 2 1, 3) := by decide +kernel
theorem dX9_read_151 : decode cX9_read 151 = .ok (.goto (-23), 3) := by decide +kernel
theorem dX9_read_154 : decode cX9_read 154 = .ok (.aload_n 0, 1) := by decide +kernel
theorem dX9_read_155 : decode cX9_read 155 = .ok (.lconst 0, 1) := by decide +kernel
theorem dX9_read_156 : decode cX9_read 156 = .ok (.putfield 71, 3) := by decide +kernel
theorem dX9_read_159 : decode cX9_read 159 = .ok (.iconst 0, 1) := by decide +kernel
theorem dX9_read_160 : decode cX9_read 160 = .ok (.istore_n 2, 1) := by decide +kernel
theorem dX9_read_161 : decode cX9_read 161 = .ok (.iload_n 2, 1) := by decide +kernel
theorem dX9_read_162 : decode cX9_read 162 = .ok (.aload_n 0, 1) := by decide +kernel
theorem dX9_read_163 : decode cX9_read 163 = .ok (.getfield 154, 3) := by decide +kernel
theorem dX9_read_166 : decode cX9_read 166 = .ok (.if_icmp .ge 51, 3) := by decide +kernel
theorem dX9_read_169 : decode cX9_read 169 = .ok (.aload_n 0, 1) := by decide +kernel
theorem dX9_read_170 : decode cX9_read 170 = .ok (.aload_n 0, 1) := by decide +kernel
theorem dX9_read_171 : decode cX9_read 171 = .ok (.iload_n 2, 1) := by decide +kernel
theorem dX9_read_172 : decode cX9_read 172 = .ok (.invokevirtual 279, 3) := by decide +kernel
theorem dX9_read_175 : decode cX9_read 175 = .ok (.ifCond .eq 29, 3) := by decide +kernel
theorem dX9_read_178 : decode cX9_read 178 = .ok (.aload_n 0, 1) := by decide +kernel
theorem dX9_read_179 : decode cX9_read 179 = .ok (.getfield 71, 3) := by decide +kernel
theorem dX9_read_182 : decode cX9_read 182 = .ok (.aload_n 0, 1) := by decide +kernel
theorem dX9_read_183 : decode cX9_read 183 = .ok (.bipush 12, 2) := by decide +kernel
theorem dX9_read_185 : decode cX9_read 185 = .ok (.iload_n 2, 1) := by decide +kernel
theorem dX9_read_186 : decode cX9_read 186 = .ok (.imul, 1) := by decide +kernel
theorem dX9_read_187 : decode cX9_read 187 = .ok (.iconst 0, 1) := by decide +kernel
theorem dX9_read_188 : decode cX9_read 188 = .ok (.iconst (-1), 1) := by decide +kernel
theorem dX9_read_189 : decode cX9_read 189 = .ok (.iconst (-1), 1) := by decide +kernel
theorem dX9_read_190 : decode cX9_read 190 = .ok (.aload_n 0, 1) := by decide +kernel
theorem dX9_read_191 : decode cX9_read 191 = .ok (.getfield 220, 3) := by decide +kernel
theorem dX9_read_194 : decode cX9_read 194 = .ok (.invokevirtual 229, 3) := by decide +kernel
theorem dX9_read_197 : decode cX9_read 197 = .ok (.ladd, 1) := by decide +kernel
theorem dX9_read_198 : decode cX9_read 198 = .ok (.invokestatic 236, 3) := by decide +kernel
theorem dX9_read_201 : decode cX9_read 201 = .ok (.goto 7, 3) := by decide +kernel
theorem dX9_read_204 : decode cX9_read 204 = .ok (.aload_n 0, 1) := by decide +kernel
theorem dX9_read_205 : decode cX9_read 205 = .ok (.getfield 71, 3) := by decide +kernel
theorem dX9_read_208 : decode cX9_read 208 = .ok (.putfield 71, 3) := by decide +kernel
theorem dX9_read_211 : decode cX9_read 211 = .ok (.iinc 2 1, 3) := by decide +kernel
theorem dX9_read_214 : decode cX9_read 214 = .ok (.goto (-53), 3) := by decide +kernel
theorem dX9_read_217 : decode cX9_read 217 = .ok (.aload_n 0, 1) := by decide +kernel
theorem dX9_read_218 : decode cX9_read 218 = .ok (.iconst 1, 1) := by decide +kernel
theorem dX9_read_219 : decode cX9_read 219 = .ok (.putfield 210, 3) := by decide +kernel
theorem dX9_read_222 : decode cX9_read 222 = .ok (.aload_n 0, 1) := by decide +kernel
theorem dX9_read_223 : decode cX9_read 223 = .ok (.getfield 71, 3) := by decide +kernel
theorem dX9_read_226 : decode cX9_read 226 = .ok (.l2i, 1) := by decide +kernel
theorem dX9_read_227 : decode cX9_read 227 = .ok (.ireturn, 1) := by decide +kernel
theorem dX9_isGoal_0 : decode cX9_isGoal 0 = .ok (.aload_n 0, 1) := by decide +kernel
theorem dX9_isGoal_1 : decode cX9_isGoal 1 = .ok (.getfield 29, 3) := by decide +kernel
theorem dX9_isGoal_4 : decode cX9_isGoal 4 = .ok (.bipush 12, 2) := by decide +kernel
theorem dX9_isGoal_6 : decode cX9_isGoal 6 = .ok (.iload_n 1, 1) := by decide +kernel
theorem dX9_isGoal_7 : decode cX9_isGoal 7 = .ok (.imul, 1) := by decide +kernel
theorem dX9_isGoal_8 : decode cX9_isGoal 8 = .ok (.iaload, 1) := by decide +kernel
theorem dX9_isGoal_9 : decode cX9_isGoal 9 = .ok (.aload_n 0, 1) := by decide +kernel
theorem dX9_isGoal_10 : decode cX9_isGoal 10 = .ok (.getfield 269, 3) := by decide +kernel
theorem dX9_isGoal_13 : decode cX9_isGoal 13 = .ok (.if_icmp .ne 19, 3) := by decide +kernel
theorem dX9_isGoal_16 : decode cX9_isGoal 16 = .ok (.aload_n 0, 1) := by decide +kernel
theorem dX9_isGoal_17 : decode cX9_isGoal 17 = .ok (.getfield 47, 3) := by decide +kernel
theorem dX9_isGoal_20 : decode cX9_isGoal 20 = .ok (.bipush 12, 2) := by decide +kernel
theorem dX9_isGoal_22 : decode cX9_isGoal 22 = .ok (.iload_n 1, 1) := by decide +kernel
theorem dX9_isGoal_23 : decode cX9_isGoal 23 = .ok (.imul, 1) := by decide +kernel
theorem dX9_isGoal_24 : decode cX9_isGoal 24 = .ok (.baload, 1) := by decide +kernel
theorem dX9_isGoal_25 : decode cX9_isGoal 25 = .ok (.ifCond .ne 7, 3) := by decide +kernel
theorem dX9_isGoal_28 : decode cX9_isGoal 28 = .ok (.iconst 1, 1) := by decide +kernel
theorem dX9_isGoal_29 : decode cX9_isGoal 29 = .ok (.goto 4, 3) := by decide +kernel
theorem dX9_isGoal_32 : decode cX9_isGoal 32 = .ok (.iconst 0, 1) := by decide +kernel
theorem dX9_isGoal_33 : decode cX9_isGoal 33 = .ok (.ireturn, 1) := by decide +kernel
theorem dX9_job_0 : decode cX9_job 0 = .ok (.bipush 7, 2) := by decide +kernel
theorem dX9_job_2 : decode cX9_job 2 = .ok (.aload_n 0, 1) := by decide +kernel
theorem dX9_job_3 : decode cX9_job 3 = .ok (.getfield 282, 3) := by decide +kernel
theorem dX9_job_6 : decode cX9_job 6 = .ok (.imul, 1) := by decide +kernel
theorem dX9_job_7 : decode cX9_job 7 = .ok (.istore 10, 2) := by decide +kernel
theorem dX9_job_9 : decode cX9_job 9 = .ok (.aload_n 0, 1) := by decide +kernel
theorem dX9_job_10 : decode cX9_job 10 = .ok (.getfield 98, 3) := by decide +kernel
theorem dX9_job_13 : decode cX9_job 13 = .ok (.iload 10, 2) := by decide +kernel
theorem dX9_job_15 : decode cX9_job 15 = .ok (.iload_n 1, 1) := by decide +kernel
theorem dX9_job_16 : decode cX9_job 16 = .ok (.iastore, 1) := by decide +kernel
theorem dX9_job_17 : decode cX9_job 17 = .ok (.aload_n 0, 1) := by decide +kernel
theorem dX9_job_18 : decode cX9_job 18 = .ok (.getfield 98, 3) := by decide +kernel
theorem dX9_job_21 : decode cX9_job 21 = .ok (.iload 10, 2) := by decide +kernel
theorem dX9_job_23 : decode cX9_job 23 = .ok (.iconst 1, 1) := by decide +kernel
theorem dX9_job_24 : decode cX9_job 24 = .ok (.iadd, 1) := by decide +kernel
theorem dX9_job_25 : decode cX9_job 25 = .ok (.iload_n 2, 1) := by decide +kernel
theorem dX9_job_26 : decode cX9_job 26 = .ok (.iastore, 1) := by decide +kernel
theorem dX9_job_27 : decode cX9_job 27 = .ok (.aload_n 0, 1) := by decide +kernel
theorem dX9_job_28 : decode cX9_job 28 = .ok (.getfield 98, 3) := by decide +kernel
theorem dX9_job_31 : decode cX9_job 31 = .ok (.iload 10, 2) := by decide +kernel
theorem dX9_job_33 : decode cX9_job 33 = .ok (.iconst 2, 1) := by decide +kernel
theorem dX9_job_34 : decode cX9_job 34 = .ok (.iadd, 1) := by decide +kernel
theorem dX9_job_35 : decode cX9_job 35 = .ok (.iload_n 3, 1) := by decide +kernel
theorem dX9_job_36 : decode cX9_job 36 = .ok (.ifCond .eq 7, 3) := by decide +kernel
theorem dX9_job_39 : decode cX9_job 39 = .ok (.iconst 1, 1) := by decide +kernel
theorem dX9_job_40 : decode cX9_job 40 = .ok (.goto 4, 3) := by decide +kernel
theorem dX9_job_43 : decode cX9_job 43 = .ok (.iconst 0, 1) := by decide +kernel
theorem dX9_job_44 : decode cX9_job 44 = .ok (.iastore, 1) := by decide +kernel
theorem dX9_job_45 : decode cX9_job 45 = .ok (.aload_n 0, 1) := by decide +kernel
theorem dX9_job_46 : decode cX9_job 46 = .ok (.getfield 98, 3) := by decide +kernel
theorem dX9_job_49 : decode cX9_job 49 = .ok (.iload 10, 2) := by decide +kernel
theorem dX9_job_51 : decode cX9_job 51 = .ok (.iconst 3, 1) := by decide +kernel
theorem dX9_job_52 : decode cX9_job 52 = .ok (.iadd, 1) := by decide +kernel
theorem dX9_job_53 : decode cX9_job 53 = .ok (.iload 4, 2) := by decide +kernel
theorem dX9_job_55 : decode cX9_job 55 = .ok (.iastore, 1) := by decide +kernel
theorem dX9_job_56 : decode cX9_job 56 = .ok (.aload_n 0, 1) := by decide +kernel
theorem dX9_job_57 : decode cX9_job 57 = .ok (.getfield 98, 3) := by decide +kernel
theorem dX9_job_60 : decode cX9_job 60 = .ok (.iload 10, 2) := by decide +kernel
theorem dX9_job_62 : decode cX9_job 62 = .ok (.iconst 4, 1) := by decide +kernel
theorem dX9_job_63 : decode cX9_job 63 = .ok (.iadd, 1) := by decide +kernel
theorem dX9_job_64 : decode cX9_job 64 = .ok (.iload 5, 2) := by decide +kernel
theorem dX9_job_66 : decode cX9_job 66 = .ok (.iastore, 1) := by decide +kernel
theorem dX9_job_67 : decode cX9_job 67 = .ok (.aload_n 0, 1) := by decide +kernel
theorem dX9_job_68 : decode cX9_job 68 = .ok (.getfield 98, 3) := by decide +kernel
theorem dX9_job_71 : decode cX9_job 71 = .ok (.iload 10, 2) := by decide +kernel
theorem dX9_job_73 : decode cX9_job 73 = .ok (.iconst 5, 1) := by decide +kernel
theorem dX9_job_74 : decode cX9_job 74 = .ok (.iadd, 1) := by decide +kernel
theorem dX9_job_75 : decode cX9_job 75 = .ok (.iload 6, 2) := by decide +kernel
theorem dX9_job_77 : decode cX9_job 77 = .ok (.iastore, 1) := by decide +kernel
theorem dX9_job_78 : decode cX9_job 78 = .ok (.aload_n 0, 1) := by decide +kernel
theorem dX9_job_79 : decode cX9_job 79 = .ok (.getfield 98, 3) := by decide +kernel
theorem dX9_job_82 : decode cX9_job 82 = .ok (.iload 10, 2) := by decide +kernel
theorem dX9_job_84 : decode cX9_job 84 = .ok (.bipush 6, 2) := by decide +kernel
theorem dX9_job_86 : decode cX9_job 86 = .ok (.iadd, 1) := by decide +kernel
theorem dX9_job_87 : decode cX9_job 87 = .ok (.iload 7, 2) := by decide +kernel
theorem dX9_job_89 : decode cX9_job 89 = .ok (.iastore, 1) := by decide +kernel
theorem dX9_job_90 : decode cX9_job 90 = .ok (.aload_n 0, 1) := by decide +kernel
theorem dX9_job_91 : decode cX9_job 91 = .ok (.getfield 101, 3) := by decide +kernel
theorem dX9_job_94 : decode cX9_job 94 = .ok (.aload_n 0, 1) := by decide +kernel
theorem dX9_job_95 : decode cX9_job 95 = .ok (.getfield 282, 3) := by decide +kernel
theorem dX9_job_98 : decode cX9_job 98 = .ok (.lload 8, 2) := by decide +kernel
theorem dX9_job_100 : decode cX9_job 100 = .ok (.lastore, 1) := by decide +kernel
theorem dX9_job_101 : decode cX9_job 101 = .ok (.aload_n 0, 1) := by decide +kernel
theorem dX9_job_102 : decode cX9_job 102 = .ok (.dup, 1) := by decide +kernel
theorem dX9_job_103 : decode cX9_job 103 = .ok (.getfield 282, 3) := by decide +kernel
theorem dX9_job_106 : decode cX9_job 106 = .ok (.iconst 1, 1) := by decide +kernel
theorem dX9_job_107 : decode cX9_job 107 = .ok (.iadd, 1) := by decide +kernel
theorem dX9_job_108 : decode cX9_job 108 = .ok (.putfield 282, 3) := by decide +kernel
theorem dX9_job_111 : decode cX9_job 111 = .ok (.return_, 1) := by decide +kernel
theorem dX9_takeTree_0 : decode cX9_takeTree 0 = .ok (.bipush 7, 2) := by decide +kernel
theorem dX9_takeTree_2 : decode cX9_takeTree 2 = .ok (.aload_n 0, 1) := by decide +kernel
theorem dX9_takeTree_3 : decode cX9_takeTree 3 = .ok (.getfield 214, 3) := by decide +kernel
theorem dX9_takeTree_6 : decode cX9_takeTree 6 = .ok (.imul, 1) := by decide +kernel
theorem dX9_takeTree_7 : decode cX9_takeTree 7 = .ok (.istore 10, 2) := by decide +kernel
theorem dX9_takeTree_9 : decode cX9_takeTree 9 = .ok (.aload_n 0, 1) := by decide +kernel
theorem dX9_takeTree_10 : decode cX9_takeTree 10 = .ok (.getfield 86, 3) := by decide +kernel
theorem dX9_takeTree_13 : decode cX9_takeTree 13 = .ok (.iload 10, 2) := by decide +kernel
theorem dX9_takeTree_15 : decode cX9_takeTree 15 = .ok (.iload_n 1, 1) := by decide +kernel
theorem dX9_takeTree_16 : decode cX9_takeTree 16 = .ok (.iastore, 1) := by decide +kernel
theorem dX9_takeTree_17 : decode cX9_takeTree 17 = .ok (.aload_n 0, 1) := by decide +kernel
theorem dX9_takeTree_18 : decode cX9_takeTree 18 = .ok (.getfield 86, 3) := by decide +kernel
theorem dX9_takeTree_21 : decode cX9_takeTree 21 = .ok (.iload 10, 2) := by decide +kernel
theorem dX9_takeTree_23 : decode cX9_takeTree 23 = .ok (.iconst 1, 1) := by decide +kernel
theorem dX9_takeTree_24 : decode cX9_takeTree 24 = .ok (.iadd, 1) := by decide +kernel
theorem dX9_takeTree_25 : decode cX9_takeTree 25 = .ok (.iload_n 2, 1) := by decide +kernel
theorem dX9_takeTree_26 : decode cX9_takeTree 26 = .ok (.iastore, 1) := by decide +kernel
theorem dX9_takeTree_27 : decode cX9_takeTree 27 = .ok (.aload_n 0, 1) := by decide +kernel
theorem dX9_takeTree_28 : decode cX9_takeTree 28 = .ok (.getfield 86, 3) := by decide +kernel
theorem dX9_takeTree_31 : decode cX9_takeTree 31 = .ok (.iload 10, 2) := by decide +kernel
theorem dX9_takeTree_33 : decode cX9_takeTree 33 = .ok (.iconst 2, 1) := by decide +kernel
theorem dX9_takeTree_34 : decode cX9_takeTree 34 = .ok (.iadd, 1) := by decide +kernel
theorem dX9_takeTree_35 : decode cX9_takeTree 35 = .ok (.iload_n 3, 1) := by decide +kernel
theorem dX9_takeTree_36 : decode cX9_takeTree 36 = .ok (.iastore, 1) := by decide +kernel
theorem dX9_takeTree_37 : decode cX9_takeTree 37 = .ok (.aload_n 0, 1) := by decide +kernel
theorem dX9_takeTree_38 : decode cX9_takeTree 38 = .ok (.getfield 86, 3) := by decide +kernel
theorem dX9_takeTree_41 : decode cX9_takeTree 41 = .ok (.iload 10, 2) := by decide +kernel
theorem dX9_takeTree_43 : decode cX9_takeTree 43 = .ok (.iconst 3, 1) := by decide +kernel
theorem dX9_takeTree_44 : decode cX9_takeTree 44 = .ok (.iadd, 1) := by decide +kernel
theorem dX9_takeTree_45 : decode cX9_takeTree 45 = .ok (.iload 4, 2) := by decide +kernel
theorem dX9_takeTree_47 : decode cX9_takeTree 47 = .ok (.iastore, 1) := by decide +kernel
theorem dX9_takeTree_48 : decode cX9_takeTree 48 = .ok (.aload_n 0, 1) := by decide +kernel
theorem dX9_takeTree_49 : decode cX9_takeTree 49 = .ok (.getfield 86, 3) := by decide +kernel
theorem dX9_takeTree_52 : decode cX9_takeTree 52 = .ok (.iload 10, 2) := by decide +kernel
theorem dX9_takeTree_54 : decode cX9_takeTree 54 = .ok (.iconst 4, 1) := by decide +kernel
theorem dX9_takeTree_55 : decode cX9_takeTree 55 = .ok (.iadd, 1) := by decide +kernel
theorem dX9_takeTree_56 : decode cX9_takeTree 56 = .ok (.iload 7, 2) := by decide +kernel
theorem dX9_takeTree_58 : decode cX9_takeTree 58 = .ok (.iastore, 1) := by decide +kernel
theorem dX9_takeTree_59 : decode cX9_takeTree 59 = .ok (.aload_n 0, 1) := by decide +kernel
theorem dX9_takeTree_60 : decode cX9_takeTree 60 = .ok (.getfield 86, 3) := by decide +kernel
theorem dX9_takeTree_63 : decode cX9_takeTree 63 = .ok (.iload 10, 2) := by decide +kernel
theorem dX9_takeTree_65 : decode cX9_takeTree 65 = .ok (.iconst 5, 1) := by decide +kernel
theorem dX9_takeTree_66 : decode cX9_takeTree 66 = .ok (.iadd, 1) := by decide +kernel
theorem dX9_takeTree_67 : decode cX9_takeTree 67 = .ok (.iload 5, 2) := by decide +kernel
theorem dX9_takeTree_69 : decode cX9_takeTree 69 = .ok (.iastore, 1) := by decide +kernel
theorem dX9_takeTree_70 : decode cX9_takeTree 70 = .ok (.aload_n 0, 1) := by decide +kernel
theorem dX9_takeTree_71 : decode cX9_takeTree 71 = .ok (.getfield 86, 3) := by decide +kernel
theorem dX9_takeTree_74 : decode cX9_takeTree 74 = .ok (.iload 10, 2) := by decide +kernel
theorem dX9_takeTree_76 : decode cX9_takeTree 76 = .ok (.bipush 6, 2) := by decide +kernel
theorem dX9_takeTree_78 : decode cX9_takeTree 78 = .ok (.iadd, 1) := by decide +kernel
theorem dX9_takeTree_79 : decode cX9_takeTree 79 = .ok (.iload 5, 2) := by decide +kernel
theorem dX9_takeTree_81 : decode cX9_takeTree 81 = .ok (.iconst (-1), 1) := by decide +kernel
theorem dX9_takeTree_82 : decode cX9_takeTree 82 = .ok (.if_icmp .ne 7, 3) := by decide +kernel
theorem dX9_takeTree_85 : decode cX9_takeTree 85 = .ok (.iconst (-1), 1) := by decide +kernel
theorem dX9_takeTree_86 : decode cX9_takeTree 86 = .ok (.goto 5, 3) := by decide +kernel
theorem dX9_takeTree_89 : decode cX9_takeTree 89 = .ok (.iload 6, 2) := by decide +kernel
theorem dX9_takeTree_91 : decode cX9_takeTree 91 = .ok (.iastore, 1) := by decide +kernel
theorem dX9_takeTree_92 : decode cX9_takeTree 92 = .ok (.iconst 0, 1) := by decide +kernel
theorem dX9_takeTree_93 : decode cX9_takeTree 93 = .ok (.istore 11, 2) := by decide +kernel
theorem dX9_takeTree_95 : decode cX9_takeTree 95 = .ok (.iload 11, 2) := by decide +kernel
theorem dX9_takeTree_97 : decode cX9_takeTree 97 = .ok (.bipush 12, 2) := by decide +kernel
theorem dX9_takeTree_99 : decode cX9_takeTree 99 = .ok (.if_icmp .ge 25, 3) := by decide +kernel
theorem dX9_takeTree_102 : decode cX9_takeTree 102 = .ok (.aload_n 0, 1) := by decide +kernel
theorem dX9_takeTree_103 : decode cX9_takeTree 103 = .ok (.getfield 95, 3) := by decide +kernel
theorem dX9_takeTree_106 : decode cX9_takeTree 106 = .ok (.bipush 12, 2) := by decide +kernel
theorem dX9_takeTree_108 : decode cX9_takeTree 108 = .ok (.aload_n 0, 1) := by decide +kernel
theorem dX9_takeTree_109 : decode cX9_takeTree 109 = .ok (.getfield 214, 3) := by decide +kernel
theorem dX9_takeTree_112 : decode cX9_takeTree 112 = .ok (.imul, 1) := by decide +kernel
theorem dX9_takeTree_113 : decode cX9_takeTree 113 = .ok (.iload 11, 2) := by decide +kernel
theorem dX9_takeTree_115 : decode cX9_takeTree 115 = .ok (.iadd, 1) := by decide +kernel
theorem dX9_takeTree_116 : decode cX9_takeTree 116 = .ok (.iconst (-1), 1) := by decide +kernel
theorem dX9_takeTree_117 : decode cX9_takeTree 117 = .ok (.iastore, 1) := by decide +kernel
theorem dX9_takeTree_118 : decode cX9_takeTree 118 = .ok (.iinc 11 1, 3) := by decide +kernel
theorem dX9_takeTree_121 : decode cX9_takeTree 121 = .ok (.goto (-26), 3) := by decide +kernel
theorem dX9_takeTree_124 : decode cX9_takeTree 124 = .ok (.iload_n 2, 1) := by decide +kernel
theorem dX9_takeTree_125 : decode cX9_takeTree 125 = .ok (.iconst (-1), 1) := by decide +kernel
theorem dX9_takeTree_126 : decode cX9_takeTree 126 = .ok (.if_icmp .eq 18, 3) := by decide +kernel
theorem dX9_takeTree_129 : decode cX9_takeTree 129 = .ok (.aload_n 0, 1) := by decide +kernel
theorem dX9_takeTree_130 : decode cX9_takeTree 130 = .ok (.getfield 95, 3) := by decide +kernel
theorem dX9_takeTree_133 : decode cX9_takeTree 133 = .ok (.bipush 12, 2) := by decide +kernel
theorem dX9_takeTree_135 : decode cX9_takeTree 135 = .ok (.iload_n 2, 1) := by decide +kernel
theorem dX9_takeTree_136 : decode cX9_takeTree 136 = .ok (.imul, 1) := by decide +kernel
theorem dX9_takeTree_137 : decode cX9_takeTree 137 = .ok (.iload_n 3, 1) := by decide +kernel
theorem dX9_takeTree_138 : decode cX9_takeTree 138 = .ok (.iadd, 1) := by decide +kernel
theorem dX9_takeTree_139 : decode cX9_takeTree 139 = .ok (.aload_n 0, 1) := by decide +kernel
theorem dX9_takeTree_140 : decode cX9_takeTree 140 = .ok (.getfield 214, 3) := by decide +kernel
theorem dX9_takeTree_143 : decode cX9_takeTree 143 = .ok (.iastore, 1) := by decide +kernel
theorem dX9_takeTree_144 : decode cX9_takeTree 144 = .ok (.aload_n 0, 1) := by decide +kernel
theorem dX9_takeTree_145 : decode cX9_takeTree 145 = .ok (.dup, 1) := by decide +kernel
theorem dX9_takeTree_146 : decode cX9_takeTree 146 = .ok (.getfield 214, 3) := by decide +kernel
theorem dX9_takeTree_149 : decode cX9_takeTree 149 = .ok (.iconst 1, 1) := by decide +kernel
theorem dX9_takeTree_150 : decode cX9_takeTree 150 = .ok (.iadd, 1) := by decide +kernel
theorem dX9_takeTree_151 : decode cX9_takeTree 151 = .ok (.putfield 214, 3) := by decide +kernel
theorem dX9_takeTree_154 : decode cX9_takeTree 154 = .ok (.aload_n 0, 1) := by decide +kernel
theorem dX9_takeTree_155 : decode cX9_takeTree 155 = .ok (.aload_n 0, 1) := by decide +kernel
theorem dX9_takeTree_156 : decode cX9_takeTree 156 = .ok (.getfield 214, 3) := by decide +kernel
theorem dX9_takeTree_159 : decode cX9_takeTree 159 = .ok (.iconst 1, 1) := by decide +kernel
theorem dX9_takeTree_160 : decode cX9_takeTree 160 = .ok (.isub, 1) := by decide +kernel
theorem dX9_takeTree_161 : decode cX9_takeTree 161 = .ok (.bipush 12, 2) := by decide +kernel
theorem dX9_takeTree_163 : decode cX9_takeTree 163 = .ok (.iload_n 1, 1) := by decide +kernel
theorem dX9_takeTree_164 : decode cX9_takeTree 164 = .ok (.imul, 1) := by decide +kernel
theorem dX9_takeTree_165 : decode cX9_takeTree 165 = .ok (.iconst 0, 1) := by decide +kernel
theorem dX9_takeTree_166 : decode cX9_takeTree 166 = .ok (.iload 4, 2) := by decide +kernel
theorem dX9_takeTree_168 : decode cX9_takeTree 168 = .ok (.iload 5, 2) := by decide +kernel
theorem dX9_takeTree_170 : decode cX9_takeTree 170 = .ok (.iload 6, 2) := by decide +kernel
theorem dX9_takeTree_172 : decode cX9_takeTree 172 = .ok (.iload 7, 2) := by decide +kernel
theorem dX9_takeTree_174 : decode cX9_takeTree 174 = .ok (.lload 8, 2) := by decide +kernel
theorem dX9_takeTree_176 : decode cX9_takeTree 176 = .ok (.invokevirtual 285, 3) := by decide +kernel
theorem dX9_takeTree_179 : decode cX9_takeTree 179 = .ok (.return_, 1) := by decide +kernel
theorem dX9_lay_0 : decode cX9_lay 0 = .ok (.bipush 12, 2) := by decide +kernel
theorem dX9_lay_2 : decode cX9_lay 2 = .ok (.iload_n 1, 1) := by decide +kernel
theorem dX9_lay_3 : decode cX9_lay 3 = .ok (.imul, 1) := by decide +kernel
theorem dX9_lay_4 : decode cX9_lay 4 = .ok (.iload_n 2, 1) := by decide +kernel
theorem dX9_lay_5 : decode cX9_lay 5 = .ok (.bipush 12, 2) := by decide +kernel
theorem dX9_lay_7 : decode cX9_lay 7 = .ok (.irem, 1) := by decide +kernel
theorem dX9_lay_8 : decode cX9_lay 8 = .ok (.iadd, 1) := by decide +kernel
theorem dX9_lay_9 : decode cX9_lay 9 = .ok (.istore 9, 2) := by decide +kernel
theorem dX9_lay_11 : decode cX9_lay 11 = .ok (.aload_n 0, 1) := by decide +kernel
theorem dX9_lay_12 : decode cX9_lay 12 = .ok (.getfield 89, 3) := by decide +kernel
theorem dX9_lay_15 : decode cX9_lay 15 = .ok (.iload 9, 2) := by decide +kernel
theorem dX9_lay_17 : decode cX9_lay 17 = .ok (.iload_n 3, 1) := by decide +kernel
theorem dX9_lay_18 : decode cX9_lay 18 = .ok (.iastore, 1) := by decide +kernel
theorem dX9_lay_19 : decode cX9_lay 19 = .ok (.aload_n 0, 1) := by decide +kernel
theorem dX9_lay_20 : decode cX9_lay 20 = .ok (.getfield 92, 3) := by decide +kernel
theorem dX9_lay_23 : decode cX9_lay 23 = .ok (.iload 9, 2) := by decide +kernel
theorem dX9_lay_25 : decode cX9_lay 25 = .ok (.iload 6, 2) := by decide +kernel
theorem dX9_lay_27 : decode cX9_lay 27 = .ok (.iastore, 1) := by decide +kernel
theorem dX9_lay_28 : decode cX9_lay 28 = .ok (.aload_n 0, 1) := by decide +kernel
theorem dX9_lay_29 : decode cX9_lay 29 = .ok (.getfield 26, 3) := by decide +kernel
theorem dX9_lay_32 : decode cX9_lay 32 = .ok (.iload_n 2, 1) := by decide +kernel
theorem dX9_lay_33 : decode cX9_lay 33 = .ok (.iaload, 1) := by decide +kernel
theorem dX9_lay_34 : decode cX9_lay 34 = .ok (.iconst 1, 1) := by decide +kernel
theorem dX9_lay_35 : decode cX9_lay 35 = .ok (.if_icmp .le 4, 3) := by decide +kernel
theorem dX9_lay_38 : decode cX9_lay 38 = .ok (.return_, 1) := by decide +kernel
theorem dX9_lay_39 : decode cX9_lay 39 = .ok (.lload 7, 2) := by decide +kernel
theorem dX9_lay_41 : decode cX9_lay 41 = .ok (.lstore 10, 2) := by decide +kernel
theorem dX9_lay_43 : decode cX9_lay 43 = .ok (.aload_n 0, 1) := by decide +kernel
theorem dX9_lay_44 : decode cX9_lay 44 = .ok (.getfield 26, 3) := by decide +kernel
theorem dX9_lay_47 : decode cX9_lay 47 = .ok (.iload_n 2, 1) := by decide +kernel
theorem dX9_lay_48 : decode cX9_lay 48 = .ok (.iaload, 1) := by decide +kernel
theorem dX9_lay_49 : decode cX9_lay 49 = .ok (.iconst 1, 1) := by decide +kernel
theorem dX9_lay_50 : decode cX9_lay 50 = .ok (.if_icmp .ne 96, 3) := by decide +kernel
theorem dX9_lay_53 : decode cX9_lay 53 = .ok (.iconst 0, 1) := by decide +kernel
theorem dX9_lay_54 : decode cX9_lay 54 = .ok (.istore 12, 2) := by decide +kernel
theorem dX9_lay_56 : decode cX9_lay 56 = .ok (.aload_n 0, 1) := by decide +kernel
theorem dX9_lay_57 : decode cX9_lay 57 = .ok (.iload 12, 2) := by decide +kernel
theorem dX9_lay_59 : decode cX9_lay 59 = .ok (.iload_n 2, 1) := by decide +kernel
theorem dX9_lay_60 : decode cX9_lay 60 = .ok (.iconst 0, 1) := by decide +kernel
theorem dX9_lay_61 : decode cX9_lay 61 = .ok (.invokevirtual 247, 3) := by decide +kernel
theorem dX9_lay_64 : decode cX9_lay 64 = .ok (.ifCond .eq 23, 3) := by decide +kernel
theorem dX9_lay_67 : decode cX9_lay 67 = .ok (.lload 10, 2) := by decide +kernel
theorem dX9_lay_69 : decode cX9_lay 69 = .ok (.aload_n 0, 1) := by decide +kernel
theorem dX9_lay_70 : decode cX9_lay 70 = .ok (.bipush 12, 2) := by decide +kernel
theorem dX9_lay_72 : decode cX9_lay 72 = .ok (.iload 12, 2) := by decide +kernel
theorem dX9_lay_74 : decode cX9_lay 74 = .ok (.imul, 1) := by decide +kernel
theorem dX9_lay_75 : decode cX9_lay 75 = .ok (.iload_n 3, 1) := by decide +kernel
theorem dX9_lay_76 : decode cX9_lay 76 = .ok (.iconst (-1), 1) := by decide +kernel
theorem dX9_lay_77 : decode cX9_lay 77 = .ok (.iconst (-1), 1) := by decide +kernel
theorem dX9_lay_78 : decode cX9_lay 78 = .ok (.iload 6, 2) := by decide +kernel
theorem dX9_lay_80 : decode cX9_lay 80 = .ok (.invokevirtual 229, 3) := by decide +kernel
theorem dX9_lay_83 : decode cX9_lay 83 = .ok (.lcmp, 1) := by decide +kernel
theorem dX9_lay_84 : decode cX9_lay 84 = .ok (.ifCond .lt 43, 3) := by decide +kernel
theorem dX9_lay_87 : decode cX9_lay 87 = .ok (.lload 10, 2) := by decide +kernel
theorem dX9_lay_89 : decode cX9_lay 89 = .ok (.aload_n 0, 1) := by decide +kernel
theorem dX9_lay_90 : decode cX9_lay 90 = .ok (.iload 12, 2) := by decide +kernel
theorem dX9_lay_92 : decode cX9_lay 92 = .ok (.iload_n 2, 1) := by decide +kernel
theorem dX9_lay_93 : decode cX9_lay 93 = .ok (.iconst 0, 1) := by decide +kernel
theorem dX9_lay_94 : decode cX9_lay 94 = .ok (.invokevirtual 247, 3) := by decide +kernel
theorem dX9_lay_97 : decode cX9_lay 97 = .ok (.ifCond .eq 20, 3) := by decide +kernel
theorem dX9_lay_100 : decode cX9_lay 100 = .ok (.aload_n 0, 1) := by decide +kernel
theorem dX9_lay_101 : decode cX9_lay 101 = .ok (.bipush 12, 2) := by decide +kernel
theorem dX9_lay_103 : decode cX9_lay 103 = .ok (.iload 12, 2) := by decide +kernel
theorem dX9_lay_105 : decode cX9_lay 105 = .ok (.imul, 1) := by decide +kernel
theorem dX9_lay_106 : decode cX9_lay 106 = .ok (.iload_n 3, 1) := by decide +kernel
theorem dX9_lay_107 : decode cX9_lay 107 = .ok (.iconst (-1), 1) := by decide +kernel
theorem dX9_lay_108 : decode cX9_lay 108 = .ok (.iconst (-1), 1) := by decide +kernel
theorem dX9_lay_109 : decode cX9_lay 109 = .ok (.iload 6, 2) := by decide +kernel
theorem dX9_lay_111 : decode cX9_lay 111 = .ok (.invokevirtual 229, 3) := by decide +kernel
theorem dX9_lay_114 : decode cX9_lay 114 = .ok (.goto 4, 3) := by decide +kernel
theorem dX9_lay_117 : decode cX9_lay 117 = .ok (.lconst 0, 1) := by decide +kernel
theorem dX9_lay_118 : decode cX9_lay 118 = .ok (.lsub, 1) := by decide +kernel
theorem dX9_lay_119 : decode cX9_lay 119 = .ok (.lstore 10, 2) := by decide +kernel
theorem dX9_lay_121 : decode cX9_lay 121 = .ok (.iinc 12 1, 3) := by decide +kernel
theorem dX9_lay_124 : decode cX9_lay 124 = .ok (.goto (-68), 3) := by decide +kernel
theorem dX9_lay_127 : decode cX9_lay 127 = .ok (.aload_n 0, 1) := by decide +kernel
theorem dX9_lay_128 : decode cX9_lay 128 = .ok (.iload 12, 2) := by decide +kernel
theorem dX9_lay_130 : decode cX9_lay 130 = .ok (.iload_n 1, 1) := by decide +kernel
theorem dX9_lay_131 : decode cX9_lay 131 = .ok (.iload_n 2, 1) := by decide +kernel
theorem dX9_lay_132 : decode cX9_lay 132 = .ok (.bipush 12, 2) := by decide +kernel
theorem dX9_lay_134 : decode cX9_lay 134 = .ok (.irem, 1) := by decide +kernel
theorem dX9_lay_135 : decode cX9_lay 135 = .ok (.iload_n 3, 1) := by decide +kernel
theorem dX9_lay_136 : decode cX9_lay 136 = .ok (.iconst (-1), 1) := by decide +kernel
theorem dX9_lay_137 : decode cX9_lay 137 = .ok (.iconst (-1), 1) := by decide +kernel
theorem dX9_lay_138 : decode cX9_lay 138 = .ok (.iload 6, 2) := by decide +kernel
theorem dX9_lay_140 : decode cX9_lay 140 = .ok (.lload 10, 2) := by decide +kernel
theorem dX9_lay_142 : decode cX9_lay 142 = .ok (.invokevirtual 289, 3) := by decide +kernel
theorem dX9_lay_145 : decode cX9_lay 145 = .ok (.return_, 1) := by decide +kernel
theorem dX9_lay_146 : decode cX9_lay 146 = .ok (.aload_n 0, 1) := by decide +kernel
theorem dX9_lay_147 : decode cX9_lay 147 = .ok (.getfield 38, 3) := by decide +kernel
theorem dX9_lay_150 : decode cX9_lay 150 = .ok (.iload_n 2, 1) := by decide +kernel
theorem dX9_lay_151 : decode cX9_lay 151 = .ok (.iaload, 1) := by decide +kernel
theorem dX9_lay_152 : decode cX9_lay 152 = .ok (.iconst 1, 1) := by decide +kernel
theorem dX9_lay_153 : decode cX9_lay 153 = .ok (.if_icmp .ne 7, 3) := by decide +kernel
theorem dX9_lay_156 : decode cX9_lay 156 = .ok (.lconst 0, 1) := by decide +kernel
theorem dX9_lay_157 : decode cX9_lay 157 = .ok (.goto 20, 3) := by decide +kernel
theorem dX9_lay_160 : decode cX9_lay 160 = .ok (.aload_n 0, 1) := by decide +kernel
theorem dX9_lay_161 : decode cX9_lay 161 = .ok (.aload_n 0, 1) := by decide +kernel
theorem dX9_lay_162 : decode cX9_lay 162 = .ok (.getfield 44, 3) := by decide +kernel
theorem dX9_lay_165 : decode cX9_lay 165 = .ok (.iload_n 2, 1) := by decide +kernel
theorem dX9_lay_166 : decode cX9_lay 166 = .ok (.iaload, 1) := by decide +kernel
theorem dX9_lay_167 : decode cX9_lay 167 = .ok (.iload_n 3, 1) := by decide +kernel
theorem dX9_lay_168 : decode cX9_lay 168 = .ok (.iload 4, 2) := by decide +kernel
theorem dX9_lay_170 : decode cX9_lay 170 = .ok (.iload 5, 2) := by decide +kernel
theorem dX9_lay_172 : decode cX9_lay 172 = .ok (.iload 6, 2) := by decide +kernel
theorem dX9_lay_174 : decode cX9_lay 174 = .ok (.invokevirtual 233, 3) := by decide +kernel
theorem dX9_lay_177 : decode cX9_lay 177 = .ok (.lstore 12, 2) := by decide +kernel
theorem dX9_lay_179 : decode cX9_lay 179 = .ok (.lload 10, 2) := by decide +kernel
theorem dX9_lay_181 : decode cX9_lay 181 = .ok (.lload 12, 2) := by decide +kernel
theorem dX9_lay_183 : decode cX9_lay 183 = .ok (.lcmp, 1) := by decide +kernel
theorem dX9_lay_184 : decode cX9_lay 184 = .ok (.ifCond .ge 25, 3) := by decide +kernel
theorem dX9_lay_187 : decode cX9_lay 187 = .ok (.aload_n 0, 1) := by decide +kernel
theorem dX9_lay_188 : decode cX9_lay 188 = .ok (.iload_n 1, 1) := by decide +kernel
theorem dX9_lay_189 : decode cX9_lay 189 = .ok (.aload_n 0, 1) := by decide +kernel
theorem dX9_lay_190 : decode cX9_lay 190 = .ok (.getfield 44, 3) := by decide +kernel
theorem dX9_lay_193 : decode cX9_lay 193 = .ok (.iload_n 2, 1) := by decide +kernel
theorem dX9_lay_194 : decode cX9_lay 194 = .ok (.iaload, 1) := by decide +kernel
theorem dX9_lay_195 : decode cX9_lay 195 = .ok (.iconst 1, 1) := by decide +kernel
theorem dX9_lay_196 : decode cX9_lay 196 = .ok (.iload_n 3, 1) := by decide +kernel
theorem dX9_lay_197 : decode cX9_lay 197 = .ok (.iload 4, 2) := by decide +kernel
theorem dX9_lay_199 : decode cX9_lay 199 = .ok (.iload 5, 2) := by decide +kernel
theorem dX9_lay_201 : decode cX9_lay 201 = .ok (.iload 6, 2) := by decide +kernel
theorem dX9_lay_203 : decode cX9_lay 203 = .ok (.lload 10, 2) := by decide +kernel
theorem dX9_lay_205 : decode cX9_lay 205 = .ok (.invokevirtual 285, 3) := by decide +kernel
theorem dX9_lay_208 : decode cX9_lay 208 = .ok (.return_, 1) := by decide +kernel
theorem dX9_lay_209 : decode cX9_lay 209 = .ok (.lload 10, 2) := by decide +kernel
theorem dX9_lay_211 : decode cX9_lay 211 = .ok (.lload 12, 2) := by decide +kernel
theorem dX9_lay_213 : decode cX9_lay 213 = .ok (.lsub, 1) := by decide +kernel
theorem dX9_lay_214 : decode cX9_lay 214 = .ok (.lstore 10, 2) := by decide +kernel
theorem dX9_lay_216 : decode cX9_lay 216 = .ok (.iconst 0, 1) := by decide +kernel
theorem dX9_lay_217 : decode cX9_lay 217 = .ok (.istore 14, 2) := by decide +kernel
theorem dX9_lay_219 : decode cX9_lay 219 = .ok (.iload 14, 2) := by decide +kernel
theorem dX9_lay_221 : decode cX9_lay 221 = .ok (.aload_n 0, 1) := by decide +kernel
theorem dX9_lay_222 : decode cX9_lay 222 = .ok (.getfield 154, 3) := by decide +kernel
theorem dX9_lay_225 : decode cX9_lay 225 = .ok (.if_icmp .ge 197, 3) := by decide +kernel
theorem dX9_lay_228 : decode cX9_lay 228 = .ok (.iload_n 3, 1) := by decide +kernel
theorem dX9_lay_229 : decode cX9_lay 229 = .ok (.istore 15, 2) := by decide +kernel
theorem dX9_lay_231 : decode cX9_lay 231 = .ok (.iload 15, 2) := by decide +kernel
theorem dX9_lay_233 : decode cX9_lay 233 = .ok (.iload 4, 2) := by decide +kernel
theorem dX9_lay_235 : decode cX9_lay 235 = .ok (.iconst (-1), 1) := by decide +kernel
theorem dX9_lay_236 : decode cX9_lay 236 = .ok (.if_icmp .ne 8, 3) := by decide +kernel
theorem dX9_lay_239 : decode cX9_lay 239 = .ok (.iload 6, 2) := by decide +kernel
theorem dX9_lay_241 : decode cX9_lay 241 = .ok (.goto 5, 3) := by decide +kernel
theorem dX9_lay_244 : decode cX9_lay 244 = .ok (.iload 4, 2) := by decide +kernel
theorem dX9_lay_246 : decode cX9_lay 246 = .ok (.if_icmp .gt 170, 3) := by decide +kernel
theorem dX9_lay_249 : decode cX9_lay 249 = .ok (.aload_n 0, 1) := by decide +kernel
theorem dX9_lay_250 : decode cX9_lay 250 = .ok (.iload 14, 2) := by decide +kernel
theorem dX9_lay_252 : decode cX9_lay 252 = .ok (.iload_n 2, 1) := by decide +kernel
theorem dX9_lay_253 : decode cX9_lay 253 = .ok (.iconst 1, 1) := by decide +kernel
theorem dX9_lay_254 : decode cX9_lay 254 = .ok (.invokevirtual 247, 3) := by decide +kernel
theorem dX9_lay_257 : decode cX9_lay 257 = .ok (.ifCond .eq 159, 3) := by decide +kernel
theorem dX9_lay_260 : decode cX9_lay 260 = .ok (.iload 4, 2) := by decide +kernel
theorem dX9_lay_262 : decode cX9_lay 262 = .ok (.iconst (-1), 1) := by decide +kernel
theorem dX9_lay_263 : decode cX9_lay 263 = .ok (.if_icmp .ne 8, 3) := by decide +kernel
theorem dX9_lay_266 : decode cX9_lay 266 = .ok (.iload 15, 2) := by decide +kernel
theorem dX9_lay_268 : decode cX9_lay 268 = .ok (.goto 5, 3) := by decide +kernel
theorem dX9_lay_271 : decode cX9_lay 271 = .ok (.iload 5, 2) := by decide +kernel
theorem dX9_lay_273 : decode cX9_lay 273 = .ok (.istore 16, 2) := by decide +kernel
theorem dX9_lay_275 : decode cX9_lay 275 = .ok (.iload 16, 2) := by decide +kernel
theorem dX9_lay_277 : decode cX9_lay 277 = .ok (.iload 6, 2) := by decide +kernel
theorem dX9_lay_279 : decode cX9_lay 279 = .ok (.if_icmp .gt 131, 3) := by decide +kernel
theorem dX9_lay_282 : decode cX9_lay 282 = .ok (.aload_n 0, 1) := by decide +kernel
theorem dX9_lay_283 : decode cX9_lay 283 = .ok (.iload_n 2, 1) := by decide +kernel
theorem dX9_lay_284 : decode cX9_lay 284 = .ok (.iload 14, 2) := by decide +kernel
theorem dX9_lay_286 : decode cX9_lay 286 = .ok (.iload_n 3, 1) := by decide +kernel
theorem dX9_lay_287 : decode cX9_lay 287 = .ok (.iload 15, 2) := by decide +kernel
theorem dX9_lay_289 : decode cX9_lay 289 = .ok (.iload 16, 2) := by decide +kernel
theorem dX9_lay_291 : decode cX9_lay 291 = .ok (.iload 6, 2) := by decide +kernel
theorem dX9_lay_293 : decode cX9_lay 293 = .ok (.iload 4, 2) := by decide +kernel
theorem dX9_lay_295 : decode cX9_lay 295 = .ok (.iload 5, 2) := by decide +kernel
theorem dX9_lay_297 : decode cX9_lay 297 = .ok (.invokevirtual 251, 3) := by decide +kernel
theorem dX9_lay_300 : decode cX9_lay 300 = .ok (.lstore 17, 2) := by decide +kernel
theorem dX9_lay_302 : decode cX9_lay 302 = .ok (.lload 10, 2) := by decide +kernel
theorem dX9_lay_304 : decode cX9_lay 304 = .ok (.lload 17, 2) := by decide +kernel
theorem dX9_lay_306 : decode cX9_lay 306 = .ok (.lcmp, 1) := by decide +kernel
theorem dX9_lay_307 : decode cX9_lay 307 = .ok (.ifCond .ge 90, 3) := by decide +kernel
theorem dX9_lay_310 : decode cX9_lay 310 = .ok (.aload_n 0, 1) := by decide +kernel
theorem dX9_lay_311 : decode cX9_lay 311 = .ok (.aload_n 0, 1) := by decide +kernel
theorem dX9_lay_312 : decode cX9_lay 312 = .ok (.getfield 44, 3) := by decide +kernel
theorem dX9_lay_315 : decode cX9_lay 315 = .ok (.iload_n 2, 1) := by decide +kernel
theorem dX9_lay_316 : decode cX9_lay 316 = .ok (.iaload, 1) := by decide +kernel
theorem dX9_lay_317 : decode cX9_lay 317 = .ok (.iload 15, 2) := by decide +kernel
theorem dX9_lay_319 : decode cX9_lay 319 = .ok (.iload 4, 2) := by decide +kernel
theorem dX9_lay_321 : decode cX9_lay 321 = .ok (.iload 5, 2) := by decide +kernel
theorem dX9_lay_323 : decode cX9_lay 323 = .ok (.iload 16, 2) := by decide +kernel
theorem dX9_lay_325 : decode cX9_lay 325 = .ok (.invokevirtual 233, 3) := by decide +kernel
theorem dX9_lay_328 : decode cX9_lay 328 = .ok (.lstore 19, 2) := by decide +kernel
theorem dX9_lay_330 : decode cX9_lay 330 = .ok (.aload_n 0, 1) := by decide +kernel
theorem dX9_lay_331 : decode cX9_lay 331 = .ok (.getfield 89, 3) := by decide +kernel
theorem dX9_lay_334 : decode cX9_lay 334 = .ok (.iload 9, 2) := by decide +kernel
theorem dX9_lay_336 : decode cX9_lay 336 = .ok (.iload 15, 2) := by decide +kernel
theorem dX9_lay_338 : decode cX9_lay 338 = .ok (.iastore, 1) := by decide +kernel
theorem dX9_lay_339 : decode cX9_lay 339 = .ok (.aload_n 0, 1) := by decide +kernel
theorem dX9_lay_340 : decode cX9_lay 340 = .ok (.getfield 92, 3) := by decide +kernel
theorem dX9_lay_343 : decode cX9_lay 343 = .ok (.iload 9, 2) := by decide +kernel
theorem dX9_lay_345 : decode cX9_lay 345 = .ok (.iload 16, 2) := by decide +kernel
theorem dX9_lay_347 : decode cX9_lay 347 = .ok (.iastore, 1) := by decide +kernel
theorem dX9_lay_348 : decode cX9_lay 348 = .ok (.aload_n 0, 1) := by decide +kernel
theorem dX9_lay_349 : decode cX9_lay 349 = .ok (.iload_n 1, 1) := by decide +kernel
theorem dX9_lay_350 : decode cX9_lay 350 = .ok (.aload_n 0, 1) := by decide +kernel
theorem dX9_lay_351 : decode cX9_lay 351 = .ok (.getfield 44, 3) := by decide +kernel
theorem dX9_lay_354 : decode cX9_lay 354 = .ok (.iload_n 2, 1) := by decide +kernel
theorem dX9_lay_355 : decode cX9_lay 355 = .ok (.iaload, 1) := by decide +kernel
theorem dX9_lay_356 : decode cX9_lay 356 = .ok (.iconst 1, 1) := by decide +kernel
theorem dX9_lay_357 : decode cX9_lay 357 = .ok (.iload 15, 2) := by decide +kernel
theorem dX9_lay_359 : decode cX9_lay 359 = .ok (.iload 4, 2) := by decide +kernel
theorem dX9_lay_361 : decode cX9_lay 361 = .ok (.iload 5, 2) := by decide +kernel
theorem dX9_lay_363 : decode cX9_lay 363 = .ok (.iload 16, 2) := by decide +kernel
theorem dX9_lay_365 : decode cX9_lay 365 = .ok (.lload 10, 2) := by decide +kernel
theorem dX9_lay_367 : decode cX9_lay 367 = .ok (.lload 19, 2) := by decide +kernel
theorem dX9_lay_369 : decode cX9_lay 369 = .ok (.lrem, 1) := by decide +kernel
theorem dX9_lay_370 : decode cX9_lay 370 = .ok (.invokevirtual 285, 3) := by decide +kernel
theorem dX9_lay_373 : decode cX9_lay 373 = .ok (.aload_n 0, 1) := by decide +kernel
theorem dX9_lay_374 : decode cX9_lay 374 = .ok (.iload 14, 2) := by decide +kernel
theorem dX9_lay_376 : decode cX9_lay 376 = .ok (.iload_n 1, 1) := by decide +kernel
theorem dX9_lay_377 : decode cX9_lay 377 = .ok (.iload_n 2, 1) := by decide +kernel
theorem dX9_lay_378 : decode cX9_lay 378 = .ok (.bipush 12, 2) := by decide +kernel
theorem dX9_lay_380 : decode cX9_lay 380 = .ok (.irem, 1) := by decide +kernel
theorem dX9_lay_381 : decode cX9_lay 381 = .ok (.iload_n 3, 1) := by decide +kernel
theorem dX9_lay_382 : decode cX9_lay 382 = .ok (.iload 15, 2) := by decide +kernel
theorem dX9_lay_384 : decode cX9_lay 384 = .ok (.iload 16, 2) := by decide +kernel
theorem dX9_lay_386 : decode cX9_lay 386 = .ok (.iload 6, 2) := by decide +kernel
theorem dX9_lay_388 : decode cX9_lay 388 = .ok (.lload 10, 2) := by decide +kernel
theorem dX9_lay_390 : decode cX9_lay 390 = .ok (.lload 19, 2) := by decide +kernel
theorem dX9_lay_392 : decode cX9_lay 392 = .ok (.ldiv, 1) := by decide +kernel
theorem dX9_lay_393 : decode cX9_lay 393 = .ok (.invokevirtual 289, 3) := by decide +kernel
theorem dX9_lay_396 : decode cX9_lay 396 = .ok (.return_, 1) := by decide +kernel
theorem dX9_lay_397 : decode cX9_lay 397 = .ok (.lload 10, 2) := by decide +kernel
theorem dX9_lay_399 : decode cX9_lay 399 = .ok (.lload 17, 2) := by decide +kernel
theorem dX9_lay_401 : decode cX9_lay 401 = .ok (.lsub, 1) := by decide +kernel
theorem dX9_lay_402 : decode cX9_lay 402 = .ok (.lstore 10, 2) := by decide +kernel

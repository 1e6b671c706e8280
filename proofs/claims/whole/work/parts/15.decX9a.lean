theorem dX9_init_0 : decode cX9_init 0 = .ok (.aload_n 0, 1) := by decide +kernel
theorem dX9_init_1 : decode cX9_init 1 = .ok (.invokespecial 1, 3) := by decide +kernel
theorem dX9_init_4 : decode cX9_init 4 = .ok (.aload_n 0, 1) := by decide +kernel
theorem dX9_init_5 : decode cX9_init 5 = .ok (.sipush 1000, 3) := by decide +kernel
theorem dX9_init_8 : decode cX9_init 8 = .ok (.newarray .byte, 2) := by decide +kernel
theorem dX9_init_10 : decode cX9_init 10 = .ok (.putfield 7, 3) := by decide +kernel
theorem dX9_init_13 : decode cX9_init 13 = .ok (.aload_n 0, 1) := by decide +kernel
theorem dX9_init_14 : decode cX9_init 14 = .ok (.sipush 136, 3) := by decide +kernel
theorem dX9_init_17 : decode cX9_init 17 = .ok (.newarray .byte, 2) := by decide +kernel
theorem dX9_init_19 : decode cX9_init 19 = .ok (.putfield 13, 3) := by decide +kernel
theorem dX9_init_22 : decode cX9_init 22 = .ok (.aload_n 0, 1) := by decide +kernel
theorem dX9_init_23 : decode cX9_init 23 = .ok (.bipush 17, 2) := by decide +kernel
theorem dX9_init_25 : decode cX9_init 25 = .ok (.newarray .int, 2) := by decide +kernel
theorem dX9_init_27 : decode cX9_init 27 = .ok (.putfield 16, 3) := by decide +kernel
theorem dX9_init_30 : decode cX9_init 30 = .ok (.aload_n 0, 1) := by decide +kernel
theorem dX9_init_31 : decode cX9_init 31 = .ok (.sipush 396, 3) := by decide +kernel
theorem dX9_init_34 : decode cX9_init 34 = .ok (.newarray .byte, 2) := by decide +kernel
theorem dX9_init_36 : decode cX9_init 36 = .ok (.putfield 20, 3) := by decide +kernel
theorem dX9_init_39 : decode cX9_init 39 = .ok (.aload_n 0, 1) := by decide +kernel
theorem dX9_init_40 : decode cX9_init 40 = .ok (.bipush 33, 2) := by decide +kernel
theorem dX9_init_42 : decode cX9_init 42 = .ok (.newarray .int, 2) := by decide +kernel
theorem dX9_init_44 : decode cX9_init 44 = .ok (.putfield 23, 3) := by decide +kernel
theorem dX9_init_47 : decode cX9_init 47 = .ok (.aload_n 0, 1) := by decide +kernel
theorem dX9_init_48 : decode cX9_init 48 = .ok (.sipush 204, 3) := by decide +kernel
theorem dX9_init_51 : decode cX9_init 51 = .ok (.newarray .int, 2) := by decide +kernel
theorem dX9_init_53 : decode cX9_init 53 = .ok (.putfield 26, 3) := by decide +kernel
theorem dX9_init_56 : decode cX9_init 56 = .ok (.aload_n 0, 1) := by decide +kernel
theorem dX9_init_57 : decode cX9_init 57 = .ok (.sipush 204, 3) := by decide +kernel
theorem dX9_init_60 : decode cX9_init 60 = .ok (.newarray .int, 2) := by decide +kernel
theorem dX9_init_62 : decode cX9_init 62 = .ok (.putfield 29, 3) := by decide +kernel
theorem dX9_init_65 : decode cX9_init 65 = .ok (.aload_n 0, 1) := by decide +kernel
theorem dX9_init_66 : decode cX9_init 66 = .ok (.sipush 204, 3) := by decide +kernel
theorem dX9_init_69 : decode cX9_init 69 = .ok (.newarray .int, 2) := by decide +kernel
theorem dX9_init_71 : decode cX9_init 71 = .ok (.putfield 32, 3) := by decide +kernel
theorem dX9_init_74 : decode cX9_init 74 = .ok (.aload_n 0, 1) := by decide +kernel
theorem dX9_init_75 : decode cX9_init 75 = .ok (.sipush 204, 3) := by decide +kernel
theorem dX9_init_78 : decode cX9_init 78 = .ok (.newarray .int, 2) := by decide +kernel
theorem dX9_init_80 : decode cX9_init 80 = .ok (.putfield 35, 3) := by decide +kernel
theorem dX9_init_83 : decode cX9_init 83 = .ok (.aload_n 0, 1) := by decide +kernel
theorem dX9_init_84 : decode cX9_init 84 = .ok (.sipush 204, 3) := by decide +kernel
theorem dX9_init_87 : decode cX9_init 87 = .ok (.newarray .int, 2) := by decide +kernel
theorem dX9_init_89 : decode cX9_init 89 = .ok (.putfield 38, 3) := by decide +kernel
theorem dX9_init_92 : decode cX9_init 92 = .ok (.aload_n 0, 1) := by decide +kernel
theorem dX9_init_93 : decode cX9_init 93 = .ok (.sipush 204, 3) := by decide +kernel
theorem dX9_init_96 : decode cX9_init 96 = .ok (.newarray .int, 2) := by decide +kernel
theorem dX9_init_98 : decode cX9_init 98 = .ok (.putfield 41, 3) := by decide +kernel
theorem dX9_init_101 : decode cX9_init 101 = .ok (.aload_n 0, 1) := by decide +kernel
theorem dX9_init_102 : decode cX9_init 102 = .ok (.sipush 204, 3) := by decide +kernel
theorem dX9_init_105 : decode cX9_init 105 = .ok (.newarray .int, 2) := by decide +kernel
theorem dX9_init_107 : decode cX9_init 107 = .ok (.putfield 44, 3) := by decide +kernel
theorem dX9_init_110 : decode cX9_init 110 = .ok (.aload_n 0, 1) := by decide +kernel
theorem dX9_init_111 : decode cX9_init 111 = .ok (.sipush 204, 3) := by decide +kernel
theorem dX9_init_114 : decode cX9_init 114 = .ok (.newarray .boolean, 2) := by decide +kernel
theorem dX9_init_116 : decode cX9_init 116 = .ok (.putfield 47, 3) := by decide +kernel
theorem dX9_init_119 : decode cX9_init 119 = .ok (.aload_n 0, 1) := by decide +kernel
theorem dX9_init_120 : decode cX9_init 120 = .ok (.sipush 204, 3) := by decide +kernel
theorem dX9_init_123 : decode cX9_init 123 = .ok (.newarray .boolean, 2) := by decide +kernel
theorem dX9_init_125 : decode cX9_init 125 = .ok (.putfield 51, 3) := by decide +kernel
theorem dX9_init_128 : decode cX9_init 128 = .ok (.aload_n 0, 1) := by decide +kernel
theorem dX9_init_129 : decode cX9_init 129 = .ok (.sipush 204, 3) := by decide +kernel
theorem dX9_init_132 : decode cX9_init 132 = .ok (.newarray .boolean, 2) := by decide +kernel
theorem dX9_init_134 : decode cX9_init 134 = .ok (.putfield 54, 3) := by decide +kernel
theorem dX9_init_137 : decode cX9_init 137 = .ok (.aload_n 0, 1) := by decide +kernel
theorem dX9_init_138 : decode cX9_init 138 = .ok (.sipush 204, 3) := by decide +kernel
theorem dX9_init_141 : decode cX9_init 141 = .ok (.newarray .boolean, 2) := by decide +kernel
theorem dX9_init_143 : decode cX9_init 143 = .ok (.putfield 57, 3) := by decide +kernel
theorem dX9_init_146 : decode cX9_init 146 = .ok (.aload_n 0, 1) := by decide +kernel
theorem dX9_init_147 : decode cX9_init 147 = .ok (.bipush 17, 2) := by decide +kernel
theorem dX9_init_149 : decode cX9_init 149 = .ok (.newarray .int, 2) := by decide +kernel
theorem dX9_init_151 : decode cX9_init 151 = .ok (.putfield 60, 3) := by decide +kernel
theorem dX9_init_154 : decode cX9_init 154 = .ok (.aload_n 0, 1) := by decide +kernel
theorem dX9_init_155 : decode cX9_init 155 = .ok (.bipush 108, 2) := by decide +kernel
theorem dX9_init_157 : decode cX9_init 157 = .ok (.newarray .byte, 2) := by decide +kernel
theorem dX9_init_159 : decode cX9_init 159 = .ok (.putfield 63, 3) := by decide +kernel
theorem dX9_init_162 : decode cX9_init 162 = .ok (.aload_n 0, 1) := by decide +kernel
theorem dX9_init_163 : decode cX9_init 163 = .ok (.bipush 9, 2) := by decide +kernel
theorem dX9_init_165 : decode cX9_init 165 = .ok (.newarray .int, 2) := by decide +kernel
theorem dX9_init_167 : decode cX9_init 167 = .ok (.putfield 66, 3) := by decide +kernel
theorem dX9_init_170 : decode cX9_init 170 = .ok (.aload_n 0, 1) := by decide +kernel
theorem dX9_init_171 : decode cX9_init 171 = .ok (.ldc2_w 69, 3) := by decide +kernel
theorem dX9_init_174 : decode cX9_init 174 = .ok (.putfield 71, 3) := by decide +kernel
theorem dX9_init_177 : decode cX9_init 177 = .ok (.aload_n 0, 1) := by decide +kernel
theorem dX9_init_178 : decode cX9_init 178 = .ok (.sipush 6561, 3) := by decide +kernel
theorem dX9_init_181 : decode cX9_init 181 = .ok (.newarray .int, 2) := by decide +kernel
theorem dX9_init_183 : decode cX9_init 183 = .ok (.putfield 75, 3) := by decide +kernel
theorem dX9_init_186 : decode cX9_init 186 = .ok (.aload_n 0, 1) := by decide +kernel
theorem dX9_init_187 : decode cX9_init 187 = .ok (.ldc 78, 2) := by decide +kernel
theorem dX9_init_189 : decode cX9_init 189 = .ok (.newarray .long, 2) := by decide +kernel
theorem dX9_init_191 : decode cX9_init 191 = .ok (.putfield 79, 3) := by decide +kernel
theorem dX9_init_194 : decode cX9_init 194 = .ok (.aload_n 0, 1) := by decide +kernel
theorem dX9_init_195 : decode cX9_init 195 = .ok (.ldc 78, 2) := by decide +kernel
theorem dX9_init_197 : decode cX9_init 197 = .ok (.newarray .long, 2) := by decide +kernel
theorem dX9_init_199 : decode cX9_init 199 = .ok (.putfield 83, 3) := by decide +kernel
theorem dX9_init_202 : decode cX9_init 202 = .ok (.aload_n 0, 1) := by decide +kernel
theorem dX9_init_203 : decode cX9_init 203 = .ok (.bipush 70, 2) := by decide +kernel
theorem dX9_init_205 : decode cX9_init 205 = .ok (.newarray .int, 2) := by decide +kernel
theorem dX9_init_207 : decode cX9_init 207 = .ok (.putfield 86, 3) := by decide +kernel
theorem dX9_init_210 : decode cX9_init 210 = .ok (.aload_n 0, 1) := by decide +kernel
theorem dX9_init_211 : decode cX9_init 211 = .ok (.bipush 120, 2) := by decide +kernel
theorem dX9_init_213 : decode cX9_init 213 = .ok (.newarray .int, 2) := by decide +kernel
theorem dX9_init_215 : decode cX9_init 215 = .ok (.putfield 89, 3) := by decide +kernel
theorem dX9_init_218 : decode cX9_init 218 = .ok (.aload_n 0, 1) := by decide +kernel
theorem dX9_init_219 : decode cX9_init 219 = .ok (.bipush 120, 2) := by decide +kernel
theorem dX9_init_221 : decode cX9_init 221 = .ok (.newarray .int, 2) := by decide +kernel
theorem dX9_init_223 : decode cX9_init 223 = .ok (.putfield 92, 3) := by decide +kernel
theorem dX9_init_226 : decode cX9_init 226 = .ok (.aload_n 0, 1) := by decide +kernel
theorem dX9_init_227 : decode cX9_init 227 = .ok (.bipush 120, 2) := by decide +kernel
theorem dX9_init_229 : decode cX9_init 229 = .ok (.newarray .int, 2) := by decide +kernel
theorem dX9_init_231 : decode cX9_init 231 = .ok (.putfield 95, 3) := by decide +kernel
theorem dX9_init_234 : decode cX9_init 234 = .ok (.aload_n 0, 1) := by decide +kernel
theorem dX9_init_235 : decode cX9_init 235 = .ok (.sipush 1400, 3) := by decide +kernel
theorem dX9_init_238 : decode cX9_init 238 = .ok (.newarray .int, 2) := by decide +kernel
theorem dX9_init_240 : decode cX9_init 240 = .ok (.putfield 98, 3) := by decide +kernel
theorem dX9_init_243 : decode cX9_init 243 = .ok (.aload_n 0, 1) := by decide +kernel
theorem dX9_init_244 : decode cX9_init 244 = .ok (.sipush 200, 3) := by decide +kernel
theorem dX9_init_247 : decode cX9_init 247 = .ok (.newarray .long, 2) := by decide +kernel
theorem dX9_init_249 : decode cX9_init 249 = .ok (.putfield 101, 3) := by decide +kernel
theorem dX9_init_252 : decode cX9_init 252 = .ok (.aload_n 0, 1) := by decide +kernel
theorem dX9_init_253 : decode cX9_init 253 = .ok (.sipush 720, 3) := by decide +kernel
theorem dX9_init_256 : decode cX9_init 256 = .ok (.newarray .int, 2) := by decide +kernel
theorem dX9_init_258 : decode cX9_init 258 = .ok (.putfield 104, 3) := by decide +kernel
theorem dX9_init_261 : decode cX9_init 261 = .ok (.return_, 1) := by decide +kernel
theorem dX9_thrown_0 : decode cX9_thrown 0 = .ok (.aload_n 0, 1) := by decide +kernel
theorem dX9_thrown_1 : decode cX9_thrown 1 = .ok (.getfield 107, 3) := by decide +kernel
theorem dX9_thrown_4 : decode cX9_thrown 4 = .ok (.ireturn, 1) := by decide +kernel
theorem dX9_feed_0 : decode cX9_feed 0 = .ok (.aload_n 0, 1) := by decide +kernel
theorem dX9_feed_1 : decode cX9_feed 1 = .ok (.aload_n 0, 1) := by decide +kernel
theorem dX9_feed_2 : decode cX9_feed 2 = .ok (.getfield 111, 3) := by decide +kernel
theorem dX9_feed_5 : decode cX9_feed 5 = .ok (.bipush 20, 2) := by decide +kernel
theorem dX9_feed_7 : decode cX9_feed 7 = .ok (.iadd, 1) := by decide +kernel
theorem dX9_feed_8 : decode cX9_feed 8 = .ok (.sipush 1000, 3) := by decide +kernel
theorem dX9_feed_11 : decode cX9_feed 11 = .ok (.if_icmp .le 7, 3) := by decide +kernel
theorem dX9_feed_14 : decode cX9_feed 14 = .ok (.iconst 1, 1) := by decide +kernel
theorem dX9_feed_15 : decode cX9_feed 15 = .ok (.goto 4, 3) := by decide +kernel
theorem dX9_feed_18 : decode cX9_feed 18 = .ok (.iconst 0, 1) := by decide +kernel
theorem dX9_feed_19 : decode cX9_feed 19 = .ok (.putfield 107, 3) := by decide +kernel
theorem dX9_feed_22 : decode cX9_feed 22 = .ok (.aload_n 0, 1) := by decide +kernel
theorem dX9_feed_23 : decode cX9_feed 23 = .ok (.getfield 107, 3) := by decide +kernel
theorem dX9_feed_26 : decode cX9_feed 26 = .ok (.ifCond .le 5, 3) := by decide +kernel
theorem dX9_feed_29 : decode cX9_feed 29 = .ok (.iconst 0, 1) := by decide +kernel
theorem dX9_feed_30 : decode cX9_feed 30 = .ok (.ireturn, 1) := by decide +kernel
theorem dX9_feed_31 : decode cX9_feed 31 = .ok (.iconst 0, 1) := by decide +kernel
theorem dX9_feed_32 : decode cX9_feed 32 = .ok (.istore 6, 2) := by decide +kernel
theorem dX9_feed_34 : decode cX9_feed 34 = .ok (.iload 6, 2) := by decide +kernel
theorem dX9_feed_36 : decode cX9_feed 36 = .ok (.bipush 20, 2) := by decide +kernel
theorem dX9_feed_38 : decode cX9_feed 38 = .ok (.if_icmp .ge 90, 3) := by decide +kernel
theorem dX9_feed_41 : decode cX9_feed 41 = .ok (.iload 6, 2) := by decide +kernel
theorem dX9_feed_43 : decode cX9_feed 43 = .ok (.iconst 4, 1) := by decide +kernel
theorem dX9_feed_44 : decode cX9_feed 44 = .ok (.if_icmp .ge 7, 3) := by decide +kernel
theorem dX9_feed_47 : decode cX9_feed 47 = .ok (.iload_n 1, 1) := by decide +kernel
theorem dX9_feed_48 : decode cX9_feed 48 = .ok (.goto 39, 3) := by decide +kernel
theorem dX9_feed_51 : decode cX9_feed 51 = .ok (.iload 6, 2) := by decide +kernel
theorem dX9_feed_53 : decode cX9_feed 53 = .ok (.bipush 8, 2) := by decide +kernel
theorem dX9_feed_55 : decode cX9_feed 55 = .ok (.if_icmp .ge 7, 3) := by decide +kernel
theorem dX9_feed_58 : decode cX9_feed 58 = .ok (.iload_n 2, 1) := by decide +kernel
theorem dX9_feed_59 : decode cX9_feed 59 = .ok (.goto 28, 3) := by decide +kernel
theorem dX9_feed_62 : decode cX9_feed 62 = .ok (.iload 6, 2) := by decide +kernel
theorem dX9_feed_64 : decode cX9_feed 64 = .ok (.bipush 12, 2) := by decide +kernel
theorem dX9_feed_66 : decode cX9_feed 66 = .ok (.if_icmp .ge 7, 3) := by decide +kernel
theorem dX9_feed_69 : decode cX9_feed 69 = .ok (.iload_n 3, 1) := by decide +kernel
theorem dX9_feed_70 : decode cX9_feed 70 = .ok (.goto 17, 3) := by decide +kernel
theorem dX9_feed_73 : decode cX9_feed 73 = .ok (.iload 6, 2) := by decide +kernel
theorem dX9_feed_75 : decode cX9_feed 75 = .ok (.bipush 16, 2) := by decide +kernel
theorem dX9_feed_77 : decode cX9_feed 77 = .ok (.if_icmp .ge 8, 3) := by decide +kernel
theorem dX9_feed_80 : decode cX9_feed 80 = .ok (.iload 4, 2) := by decide +kernel
theorem dX9_feed_82 : decode cX9_feed 82 = .ok (.goto 5, 3) := by decide +kernel
theorem dX9_feed_85 : decode cX9_feed 85 = .ok (.iload 5, 2) := by decide +kernel
theorem dX9_feed_87 : decode cX9_feed 87 = .ok (.istore 7, 2) := by decide +kernel
theorem dX9_feed_89 : decode cX9_feed 89 = .ok (.aload_n 0, 1) := by decide +kernel
theorem dX9_feed_90 : decode cX9_feed 90 = .ok (.getfield 7, 3) := by decide +kernel
theorem dX9_feed_93 : decode cX9_feed 93 = .ok (.aload_n 0, 1) := by decide +kernel
theorem dX9_feed_94 : decode cX9_feed 94 = .ok (.getfield 111, 3) := by decide +kernel
theorem dX9_feed_97 : decode cX9_feed 97 = .ok (.iload 7, 2) := by decide +kernel
theorem dX9_feed_99 : decode cX9_feed 99 = .ok (.bipush 24, 2) := by decide +kernel
theorem dX9_feed_101 : decode cX9_feed 101 = .ok (.bipush 8, 2) := by decide +kernel
theorem dX9_feed_103 : decode cX9_feed 103 = .ok (.iload 6, 2) := by decide +kernel
theorem dX9_feed_105 : decode cX9_feed 105 = .ok (.iconst 4, 1) := by decide +kernel
theorem dX9_feed_106 : decode cX9_feed 106 = .ok (.irem, 1) := by decide +kernel
theorem dX9_feed_107 : decode cX9_feed 107 = .ok (.imul, 1) := by decide +kernel
theorem dX9_feed_108 : decode cX9_feed 108 = .ok (.isub, 1) := by decide +kernel
theorem dX9_feed_109 : decode cX9_feed 109 = .ok (.ishr, 1) := by decide +kernel
theorem dX9_feed_110 : decode cX9_feed 110 = .ok (.i2b, 1) := by decide +kernel
theorem dX9_feed_111 : decode cX9_feed 111 = .ok (.bastore, 1) := by decide +kernel
theorem dX9_feed_112 : decode cX9_feed 112 = .ok (.aload_n 0, 1) := by decide +kernel
theorem dX9_feed_113 : decode cX9_feed 113 = .ok (.dup, 1) := by decide +kernel
theorem dX9_feed_114 : decode cX9_feed 114 = .ok (.getfield 111, 3) := by decide +kernel
theorem dX9_feed_117 : decode cX9_feed 117 = .ok (.iconst 1, 1) := by decide +kernel
theorem dX9_feed_118 : decode cX9_feed 118 = .ok (.iadd, 1) := by decide +kernel
theorem dX9_feed_119 : decode cX9_feed 119 = .ok (.putfield 111, 3) := by decide +kernel
theorem dX9_feed_122 : decode cX9_feed 122 = .ok (.iinc 6 1, 3) := by decide +kernel
theorem dX9_feed_125 : decode cX9_feed 125 = .ok (.goto (-91), 3) := by decide +kernel
theorem dX9_feed_128 : decode cX9_feed 128 = .ok (.aload_n 0, 1) := by decide +kernel
theorem dX9_feed_129 : decode cX9_feed 129 = .ok (.getfield 111, 3) := by decide +kernel
theorem dX9_feed_132 : decode cX9_feed 132 = .ok (.ireturn, 1) := by decide +kernel
theorem dX9_end_0 : decode cX9_end 0 = .ok (.aload_n 0, 1) := by decide +kernel
theorem dX9_end_1 : decode cX9_end 1 = .ok (.iload_n 1, 1) := by decide +kernel
theorem dX9_end_2 : decode cX9_end 2 = .ok (.ifCond .lt 11, 3) := by decide +kernel
theorem dX9_end_5 : decode cX9_end 5 = .ok (.iload_n 1, 1) := by decide +kernel
theorem dX9_end_6 : decode cX9_end 6 = .ok (.aload_n 0, 1) := by decide +kernel
theorem dX9_end_7 : decode cX9_end 7 = .ok (.getfield 111, 3) := by decide +kernel
theorem dX9_end_10 : decode cX9_end 10 = .ok (.if_icmp .le 7, 3) := by decide +kernel
theorem dX9_end_13 : decode cX9_end 13 = .ok (.iconst 1, 1) := by decide +kernel
theorem dX9_end_14 : decode cX9_end 14 = .ok (.goto 4, 3) := by decide +kernel
theorem dX9_end_17 : decode cX9_end 17 = .ok (.iconst 0, 1) := by decide +kernel
theorem dX9_end_18 : decode cX9_end 18 = .ok (.putfield 107, 3) := by decide +kernel
theorem dX9_end_21 : decode cX9_end 21 = .ok (.aload_n 0, 1) := by decide +kernel
theorem dX9_end_22 : decode cX9_end 22 = .ok (.aload_n 0, 1) := by decide +kernel
theorem dX9_end_23 : decode cX9_end 23 = .ok (.getfield 107, 3) := by decide +kernel
theorem dX9_end_26 : decode cX9_end 26 = .ok (.ifCond .ne 7, 3) := by decide +kernel
theorem dX9_end_29 : decode cX9_end 29 = .ok (.iload_n 1, 1) := by decide +kernel
theorem dX9_end_30 : decode cX9_end 30 = .ok (.goto 7, 3) := by decide +kernel
theorem dX9_end_33 : decode cX9_end 33 = .ok (.aload_n 0, 1) := by decide +kernel
theorem dX9_end_34 : decode cX9_end 34 = .ok (.getfield 111, 3) := by decide +kernel
theorem dX9_end_37 : decode cX9_end 37 = .ok (.putfield 111, 3) := by decide +kernel
theorem dX9_end_40 : decode cX9_end 40 = .ok (.return_, 1) := by decide +kernel
theorem dX9_fault_0 : decode cX9_fault 0 = .ok (.aload_n 0, 1) := by decide +kernel
theorem dX9_fault_1 : decode cX9_fault 1 = .ok (.iconst 0, 1) := by decide +kernel
theorem dX9_fault_2 : decode cX9_fault 2 = .ok (.putfield 107, 3) := by decide +kernel
theorem dX9_fault_5 : decode cX9_fault 5 = .ok (.aload_n 0, 1) := by decide +kernel
theorem dX9_fault_6 : decode cX9_fault 6 = .ok (.getfield 114, 3) := by decide +kernel
theorem dX9_fault_9 : decode cX9_fault 9 = .ok (.ireturn, 1) := by decide +kernel
theorem dX9_flaw_0 : decode cX9_flaw 0 = .ok (.aload_n 0, 1) := by decide +kernel
theorem dX9_flaw_1 : decode cX9_flaw 1 = .ok (.iload_n 1, 1) := by decide +kernel
theorem dX9_flaw_2 : decode cX9_flaw 2 = .ok (.putfield 114, 3) := by decide +kernel
theorem dX9_flaw_5 : decode cX9_flaw 5 = .ok (.aload_n 0, 1) := by decide +kernel
theorem dX9_flaw_6 : decode cX9_flaw 6 = .ok (.iload_n 2, 1) := by decide +kernel
theorem dX9_flaw_7 : decode cX9_flaw 7 = .ok (.putfield 117, 3) := by decide +kernel
theorem dX9_flaw_10 : decode cX9_flaw 10 = .ok (.iconst 0, 1) := by decide +kernel
theorem dX9_flaw_11 : decode cX9_flaw 11 = .ok (.ireturn, 1) := by decide +kernel
theorem dX9_at_0 : decode cX9_at 0 = .ok (.iload_n 1, 1) := by decide +kernel
theorem dX9_at_1 : decode cX9_at 1 = .ok (.aload_n 0, 1) := by decide +kernel
theorem dX9_at_2 : decode cX9_at 2 = .ok (.getfield 111, 3) := by decide +kernel
theorem dX9_at_5 : decode cX9_at 5 = .ok (.if_icmp .ge 16, 3) := by decide +kernel
theorem dX9_at_8 : decode cX9_at 8 = .ok (.aload_n 0, 1) := by decide +kernel
theorem dX9_at_9 : decode cX9_at 9 = .ok (.getfield 7, 3) := by decide +kernel
theorem dX9_at_12 : decode cX9_at 12 = .ok (.iload_n 1, 1) := by decide +kernel
theorem dX9_at_13 : decode cX9_at 13 = .ok (.baload, 1) := by decide +kernel
theorem dX9_at_14 : decode cX9_at 14 = .ok (.sipush 255, 3) := by decide +kernel
theorem dX9_at_17 : decode cX9_at 17 = .ok (.iand, 1) := by decide +kernel
theorem dX9_at_18 : decode cX9_at 18 = .ok (.goto 4, 3) := by decide +kernel
theorem dX9_at_21 : decode cX9_at 21 = .ok (.iconst 0, 1) := by decide +kernel
theorem dX9_at_22 : decode cX9_at 22 = .ok (.ireturn, 1) := by decide +kernel
theorem dX9_isGreat_0 : decode cX9_isGreat 0 = .ok (.iload_n 0, 1) := by decide +kernel
theorem dX9_isGreat_1 : decode cX9_isGreat 1 = .ok (.bipush 65, 2) := by decide +kernel
theorem dX9_isGreat_3 : decode cX9_isGreat 3 = .ok (.if_icmp .lt 13, 3) := by decide +kernel
theorem dX9_isGreat_6 : decode cX9_isGreat 6 = .ok (.iload_n 0, 1) := by decide +kernel
theorem dX9_isGreat_7 : decode cX9_isGreat 7 = .ok (.bipush 90, 2) := by decide +kernel
theorem dX9_isGreat_9 : decode cX9_isGreat 9 = .ok (.if_icmp .gt 7, 3) := by decide +kernel
theorem dX9_isGreat_12 : decode cX9_isGreat 12 = .ok (.iconst 1, 1) := by decide +kernel
theorem dX9_isGreat_13 : decode cX9_isGreat 13 = .ok (.goto 4, 3) := by decide +kernel
theorem dX9_isGreat_16 : decode cX9_isGreat 16 = .ok (.iconst 0, 1) := by decide +kernel
theorem dX9_isGreat_17 : decode cX9_isGreat 17 = .ok (.ireturn, 1) := by decide +kernel
theorem dX9_isSmall_0 : decode cX9_isSmall 0 = .ok (.iload_n 0, 1) := by decide +kernel
theorem dX9_isSmall_1 : decode cX9_isSmall 1 = .ok (.bipush 97, 2) := by decide +kernel
theorem dX9_isSmall_3 : decode cX9_isSmall 3 = .ok (.if_icmp .lt 13, 3) := by decide +kernel
theorem dX9_isSmall_6 : decode cX9_isSmall 6 = .ok (.iload_n 0, 1) := by decide +kernel
theorem dX9_isSmall_7 : decode cX9_isSmall 7 = .ok (.bipush 122, 2) := by decide +kernel
theorem dX9_isSmall_9 : decode cX9_isSmall 9 = .ok (.if_icmp .gt 7, 3) := by decide +kernel
theorem dX9_isSmall_12 : decode cX9_isSmall 12 = .ok (.iconst 1, 1) := by decide +kernel
theorem dX9_isSmall_13 : decode cX9_isSmall 13 = .ok (.goto 4, 3) := by decide +kernel
theorem dX9_isSmall_16 : decode cX9_isSmall 16 = .ok (.iconst 0, 1) := by decide +kernel
theorem dX9_isSmall_17 : decode cX9_isSmall 17 = .ok (.ireturn, 1) := by decide +kernel
theorem dX9_next_0 : decode cX9_next 0 = .ok (.aload_n 0, 1) := by decide +kernel
theorem dX9_next_1 : decode cX9_next 1 = .ok (.aload_n 0, 1) := by decide +kernel
theorem dX9_next_2 : decode cX9_next 2 = .ok (.getfield 120, 3) := by decide +kernel
theorem dX9_next_5 : decode cX9_next 5 = .ok (.putfield 123, 3) := by decide +kernel
theorem dX9_next_8 : decode cX9_next 8 = .ok (.aload_n 0, 1) := by decide +kernel
theorem dX9_next_9 : decode cX9_next 9 = .ok (.getfield 123, 3) := by decide +kernel
theorem dX9_next_12 : decode cX9_next 12 = .ok (.aload_n 0, 1) := by decide +kernel
theorem dX9_next_13 : decode cX9_next 13 = .ok (.getfield 111, 3) := by decide +kernel
theorem dX9_next_16 : decode cX9_next 16 = .ok (.if_icmp .ge 68, 3) := by decide +kernel
theorem dX9_next_19 : decode cX9_next 19 = .ok (.aload_n 0, 1) := by decide +kernel
theorem dX9_next_20 : decode cX9_next 20 = .ok (.aload_n 0, 1) := by decide +kernel
theorem dX9_next_21 : decode cX9_next 21 = .ok (.getfield 123, 3) := by decide +kernel
theorem dX9_next_24 : decode cX9_next 24 = .ok (.invokevirtual 126, 3) := by decide +kernel
theorem dX9_next_27 : decode cX9_next 27 = .ok (.bipush 9, 2) := by decide +kernel
theorem dX9_next_29 : decode cX9_next 29 = .ok (.if_icmp .eq 42, 3) := by decide +kernel
theorem dX9_next_32 : decode cX9_next 32 = .ok (.aload_n 0, 1) := by decide +kernel
theorem dX9_next_33 : decode cX9_next 33 = .ok (.aload_n 0, 1) := by decide +kernel
theorem dX9_next_34 : decode cX9_next 34 = .ok (.getfield 123, 3) := by decide +kernel
theorem dX9_next_37 : decode cX9_next 37 = .ok (.invokevirtual 126, 3) := by decide +kernel
theorem dX9_next_40 : decode cX9_next 40 = .ok (.bipush 10, 2) := by decide +kernel
theorem dX9_next_42 : decode cX9_next 42 = .ok (.if_icmp .eq 29, 3) := by decide +kernel
theorem dX9_next_45 : decode cX9_next 45 = .ok (.aload_n 0, 1) := by decide +kernel
theorem dX9_next_46 : decode cX9_next 46 = .ok (.aload_n 0, 1) := by decide +kernel
theorem dX9_next_47 : decode cX9_next 47 = .ok (.getfield 123, 3) := by decide +kernel
theorem dX9_next_50 : decode cX9_next 50 = .ok (.invokevirtual 126, 3) := by decide +kernel
theorem dX9_next_53 : decode cX9_next 53 = .ok (.bipush 13, 2) := by decide +kernel
theorem dX9_next_55 : decode cX9_next 55 = .ok (.if_icmp .eq 16, 3) := by decide +kernel
theorem dX9_next_58 : decode cX9_next 58 = .ok (.aload_n 0, 1) := by decide +kernel
theorem dX9_next_59 : decode cX9_next 59 = .ok (.aload_n 0, 1) := by decide +kernel
theorem dX9_next_60 : decode cX9_next 60 = .ok (.getfield 123, 3) := by decide +kernel
theorem dX9_next_63 : decode cX9_next 63 = .ok (.invokevirtual 126, 3) := by decide +kernel
theorem dX9_next_66 : decode cX9_next 66 = .ok (.bipush 32, 2) := by decide +kernel
theorem dX9_next_68 : decode cX9_next 68 = .ok (.if_icmp .ne 16, 3) := by decide +kernel
theorem dX9_next_71 : decode cX9_next 71 = .ok (.aload_n 0, 1) := by decide +kernel
theorem dX9_next_72 : decode cX9_next 72 = .ok (.dup, 1) := by decide +kernel
theorem dX9_next_73 : decode cX9_next 73 = .ok (.getfield 123, 3) := by decide +kernel
theorem dX9_next_76 : decode cX9_next 76 = .ok (.iconst 1, 1) := by decide +kernel
theorem dX9_next_77 : decode cX9_next 77 = .ok (.iadd, 1) := by decide +kernel
theorem dX9_next_78 : decode cX9_next 78 = .ok (.putfield 123, 3) := by decide +kernel
theorem dX9_next_81 : decode cX9_next 81 = .ok (.goto (-73), 3) := by decide +kernel
theorem dX9_next_84 : decode cX9_next 84 = .ok (.aload_n 0, 1) := by decide +kernel
theorem dX9_next_85 : decode cX9_next 85 = .ok (.aload_n 0, 1) := by decide +kernel
theorem dX9_next_86 : decode cX9_next 86 = .ok (.getfield 123, 3) := by decide +kernel
theorem dX9_next_89 : decode cX9_next 89 = .ok (.putfield 120, 3) := by decide +kernel
theorem dX9_next_92 : decode cX9_next 92 = .ok (.aload_n 0, 1) := by decide +kernel
theorem dX9_next_93 : decode cX9_next 93 = .ok (.iconst 0, 1) := by decide +kernel
theorem dX9_next_94 : decode cX9_next 94 = .ok (.putfield 130, 3) := by decide +kernel
theorem dX9_next_97 : decode cX9_next 97 = .ok (.aload_n 0, 1) := by decide +kernel
theorem dX9_next_98 : decode cX9_next 98 = .ok (.getfield 123, 3) := by decide +kernel
theorem dX9_next_101 : decode cX9_next 101 = .ok (.aload_n 0, 1) := by decide +kernel
theorem dX9_next_102 : decode cX9_next 102 = .ok (.getfield 111, 3) := by decide +kernel
theorem dX9_next_105 : decode cX9_next 105 = .ok (.if_icmp .ne 5, 3) := by decide +kernel
theorem dX9_next_108 : decode cX9_next 108 = .ok (.iconst 1, 1) := by decide +kernel
theorem dX9_next_109 : decode cX9_next 109 = .ok (.ireturn, 1) := by decide +kernel
theorem dX9_next_110 : decode cX9_next 110 = .ok (.aload_n 0, 1) := by decide +kernel
theorem dX9_next_111 : decode cX9_next 111 = .ok (.aload_n 0, 1) := by decide +kernel
theorem dX9_next_112 : decode cX9_next 112 = .ok (.getfield 123, 3) := by decide +kernel
theorem dX9_next_115 : decode cX9_next 115 = .ok (.invokevirtual 126, 3) := by decide +kernel
theorem dX9_next_118 : decode cX9_next 118 = .ok (.istore_n 1, 1) := by decide +kernel
theorem dX9_next_119 : decode cX9_next 119 = .ok (.aload_n 0, 1) := by decide +kernel
theorem dX9_next_120 : decode cX9_next 120 = .ok (.dup, 1) := by decide +kernel
theorem dX9_next_121 : decode cX9_next 121 = .ok (.getfield 120, 3) := by decide +kernel
theorem dX9_next_124 : decode cX9_next 124 = .ok (.iconst 1, 1) := by decide +kernel
theorem dX9_next_125 : decode cX9_next 125 = .ok (.iadd, 1) := by decide +kernel
theorem dX9_next_126 : decode cX9_next 126 = .ok (.putfield 120, 3) := by decide +kernel
theorem dX9_next_129 : decode cX9_next 129 = .ok (.iload_n 1, 1) := by decide +kernel
theorem dX9_next_130 : decode cX9_next 130 = .ok (.invokestatic 133, 3) := by decide +kernel
theorem dX9_next_133 : decode cX9_next 133 = .ok (.ifCond .eq 93, 3) := by decide +kernel
theorem dX9_next_136 : decode cX9_next 136 = .ok (.aload_n 0, 1) := by decide +kernel
theorem dX9_next_137 : decode cX9_next 137 = .ok (.aload_n 0, 1) := by decide +kernel
theorem dX9_next_138 : decode cX9_next 138 = .ok (.getfield 120, 3) := by decide +kernel
theorem dX9_next_141 : decode cX9_next 141 = .ok (.invokevirtual 126, 3) := by decide +kernel
theorem dX9_next_144 : decode cX9_next 144 = .ok (.invokestatic 133, 3) := by decide +kernel
theorem dX9_next_147 : decode cX9_next 147 = .ok (.ifCond .ne 29, 3) := by decide +kernel
theorem dX9_next_150 : decode cX9_next 150 = .ok (.aload_n 0, 1) := by decide +kernel
theorem dX9_next_151 : decode cX9_next 151 = .ok (.aload_n 0, 1) := by decide +kernel
theorem dX9_next_152 : decode cX9_next 152 = .ok (.getfield 120, 3) := by decide +kernel
theorem dX9_next_155 : decode cX9_next 155 = .ok (.invokevirtual 126, 3) := by decide +kernel
theorem dX9_next_158 : decode cX9_next 158 = .ok (.bipush 48, 2) := by decide +kernel
theorem dX9_next_160 : decode cX9_next 160 = .ok (.if_icmp .lt 29, 3) := by decide +kernel
theorem dX9_next_163 : decode cX9_next 163 = .ok (.aload_n 0, 1) := by decide +kernel
theorem dX9_next_164 : decode cX9_next 164 = .ok (.aload_n 0, 1) := by decide +kernel
theorem dX9_next_165 : decode cX9_next 165 = .ok (.getfield 120, 3) := by decide +kernel
theorem dX9_next_168 : decode cX9_next 168 = .ok (.invokevirtual 126, 3) := by decide +kernel
theorem dX9_next_171 : decode cX9_next 171 = .ok (.bipush 57, 2) := by decide +kernel
theorem dX9_next_173 : decode cX9_next 173 = .ok (.if_icmp .gt 16, 3) := by decide +kernel
theorem dX9_next_176 : decode cX9_next 176 = .ok (.aload_n 0, 1) := by decide +kernel
theorem dX9_next_177 : decode cX9_next 177 = .ok (.dup, 1) := by decide +kernel
theorem dX9_next_178 : decode cX9_next 178 = .ok (.getfield 120, 3) := by decide +kernel
theorem dX9_next_181 : decode cX9_next 181 = .ok (.iconst 1, 1) := by decide +kernel
theorem dX9_next_182 : decode cX9_next 182 = .ok (.iadd, 1) := by decide +kernel
theorem dX9_next_183 : decode cX9_next 183 = .ok (.putfield 120, 3) := by decide +kernel
theorem dX9_next_186 : decode cX9_next 186 = .ok (.goto (-50), 3) := by decide +kernel
theorem dX9_next_189 : decode cX9_next 189 = .ok (.aload_n 0, 1) := by decide +kernel
theorem dX9_next_190 : decode cX9_next 190 = .ok (.iconst 1, 1) := by decide +kernel
theorem dX9_next_191 : decode cX9_next 191 = .ok (.putfield 130, 3) := by decide +kernel
theorem dX9_next_194 : decode cX9_next 194 = .ok (.aload_n 0, 1) := by decide +kernel
theorem dX9_next_195 : decode cX9_next 195 = .ok (.getfield 120, 3) := by decide +kernel
theorem dX9_next_198 : decode cX9_next 198 = .ok (.aload_n 0, 1) := by decide +kernel
theorem dX9_next_199 : decode cX9_next 199 = .ok (.getfield 123, 3) := by decide +kernel
theorem dX9_next_202 : decode cX9_next 202 = .ok (.isub, 1) := by decide +kernel
theorem dX9_next_203 : decode cX9_next 203 = .ok (.bipush 8, 2) := by decide +kernel
theorem dX9_next_205 : decode cX9_next 205 = .ok (.if_icmp .le 15, 3) := by decide +kernel
theorem dX9_next_208 : decode cX9_next 208 = .ok (.aload_n 0, 1) := by decide +kernel
theorem dX9_next_209 : decode cX9_next 209 = .ok (.iconst 1, 1) := by decide +kernel
theorem dX9_next_210 : decode cX9_next 210 = .ok (.aload_n 0, 1) := by decide +kernel
theorem dX9_next_211 : decode cX9_next 211 = .ok (.getfield 123, 3) := by decide +kernel
theorem dX9_next_214 : decode cX9_next 214 = .ok (.invokevirtual 137, 3) := by decide +kernel
theorem dX9_next_217 : decode cX9_next 217 = .ok (.ifCond .eq 7, 3) := by decide +kernel
theorem dX9_next_220 : decode cX9_next 220 = .ok (.iconst 1, 1) := by decide +kernel
theorem dX9_next_221 : decode cX9_next 221 = .ok (.goto 4, 3) := by decide +kernel
theorem dX9_next_224 : decode cX9_next 224 = .ok (.iconst 0, 1) := by decide +kernel
theorem dX9_next_225 : decode cX9_next 225 = .ok (.ireturn, 1) := by decide +kernel
theorem dX9_next_226 : decode cX9_next 226 = .ok (.iload_n 1, 1) := by decide +kernel
theorem dX9_next_227 : decode cX9_next 227 = .ok (.invokestatic 141, 3) := by decide +kernel
theorem dX9_next_230 : decode cX9_next 230 = .ok (.ifCond .eq 67, 3) := by decide +kernel
theorem dX9_next_233 : decode cX9_next 233 = .ok (.aload_n 0, 1) := by decide +kernel
theorem dX9_next_234 : decode cX9_next 234 = .ok (.aload_n 0, 1) := by decide +kernel
theorem dX9_next_235 : decode cX9_next 235 = .ok (.getfield 120, 3) := by decide +kernel
theorem dX9_next_238 : decode cX9_next 238 = .ok (.invokevirtual 126, 3) := by decide +kernel
theorem dX9_next_241 : decode cX9_next 241 = .ok (.invokestatic 141, 3) := by decide +kernel
theorem dX9_next_244 : decode cX9_next 244 = .ok (.ifCond .eq 16, 3) := by decide +kernel
theorem dX9_next_247 : decode cX9_next 247 = .ok (.aload_n 0, 1) := by decide +kernel
theorem dX9_next_248 : decode cX9_next 248 = .ok (.dup, 1) := by decide +kernel
theorem dX9_next_249 : decode cX9_next 249 = .ok (.getfield 120, 3) := by decide +kernel
theorem dX9_next_252 : decode cX9_next 252 = .ok (.iconst 1, 1) := by decide +kernel
theorem dX9_next_253 : decode cX9_next 253 = .ok (.iadd, 1) := by decide +kernel
theorem dX9_next_254 : decode cX9_next 254 = .ok (.putfield 120, 3) := by decide +kernel
theorem dX9_next_257 : decode cX9_next 257 = .ok (.goto (-24), 3) := by decide +kernel
theorem dX9_next_260 : decode cX9_next 260 = .ok (.aload_n 0, 1) := by decide +kernel
theorem dX9_next_261 : decode cX9_next 261 = .ok (.iconst 2, 1) := by decide +kernel
theorem dX9_next_262 : decode cX9_next 262 = .ok (.putfield 130, 3) := by decide +kernel
theorem dX9_next_265 : decode cX9_next 265 = .ok (.aload_n 0, 1) := by decide +kernel
theorem dX9_next_266 : decode cX9_next 266 = .ok (.getfield 120, 3) := by decide +kernel
theorem dX9_next_269 : decode cX9_next 269 = .ok (.aload_n 0, 1) := by decide +kernel
theorem dX9_next_270 : decode cX9_next 270 = .ok (.getfield 123, 3) := by decide +kernel
theorem dX9_next_273 : decode cX9_next 273 = .ok (.isub, 1) := by decide +kernel
theorem dX9_next_274 : decode cX9_next 274 = .ok (.bipush 12, 2) := by decide +kernel
theorem dX9_next_276 : decode cX9_next 276 = .ok (.if_icmp .le 15, 3) := by decide +kernel
theorem dX9_next_279 : decode cX9_next 279 = .ok (.aload_n 0, 1) := by decide +kernel
theorem dX9_next_280 : decode cX9_next 280 = .ok (.iconst 1, 1) := by decide +kernel
theorem dX9_next_281 : decode cX9_next 281 = .ok (.aload_n 0, 1) := by decide +kernel
theorem dX9_next_282 : decode cX9_next 282 = .ok (.getfield 123, 3) := by decide +kernel
theorem dX9_next_285 : decode cX9_next 285 = .ok (.invokevirtual 137, 3) := by decide +kernel
theorem dX9_next_288 : decode cX9_next 288 = .ok (.ifCond .eq 7, 3) := by decide +kernel
theorem dX9_next_291 : decode cX9_next 291 = .ok (.iconst 1, 1) := by decide +kernel
theorem dX9_next_292 : decode cX9_next 292 = .ok (.goto 4, 3) := by decide +kernel
theorem dX9_next_295 : decode cX9_next 295 = .ok (.iconst 0, 1) := by decide +kernel
theorem dX9_next_296 : decode cX9_next 296 = .ok (.ireturn, 1) := by decide +kernel
theorem dX9_next_297 : decode cX9_next 297 = .ok (.aload_n 0, 1) := by decide +kernel
theorem dX9_next_298 : decode cX9_next 298 = .ok (.iload_n 1, 1) := by decide +kernel
theorem dX9_next_299 : decode cX9_next 299 = .ok (.putfield 130, 3) := by decide +kernel
theorem dX9_next_302 : decode cX9_next 302 = .ok (.iload_n 1, 1) := by decide +kernel
theorem dX9_next_303 : decode cX9_next 303 = .ok (.bipush 40, 2) := by decide +kernel
theorem dX9_next_305 : decode cX9_next 305 = .ok (.if_icmp .eq 45, 3) := by decide +kernel
theorem dX9_next_308 : decode cX9_next 308 = .ok (.iload_n 1, 1) := by decide +kernel
theorem dX9_next_309 : decode cX9_next 309 = .ok (.bipush 41, 2) := by decide +kernel
theorem dX9_next_311 : decode cX9_next 311 = .ok (.if_icmp .eq 39, 3) := by decide +kernel
theorem dX9_next_314 : decode cX9_next 314 = .ok (.iload_n 1, 1) := by decide +kernel
theorem dX9_next_315 : decode cX9_next 315 = .ok (.bipush 33, 2) := by decide +kernel
theorem dX9_next_317 : decode cX9_next 317 = .ok (.if_icmp .eq 33, 3) := by decide +kernel
theorem dX9_next_320 : decode cX9_next 320 = .ok (.iload_n 1, 1) := by decide +kernel
theorem dX9_next_321 : decode cX9_next 321 = .ok (.bipush 42, 2) := by decide +kernel
theorem dX9_next_323 : decode cX9_next 323 = .ok (.if_icmp .eq 27, 3) := by decide +kernel
theorem dX9_next_326 : decode cX9_next 326 = .ok (.iload_n 1, 1) := by decide +kernel
theorem dX9_next_327 : decode cX9_next 327 = .ok (.bipush 43, 2) := by decide +kernel
theorem dX9_next_329 : decode cX9_next 329 = .ok (.if_icmp .eq 21, 3) := by decide +kernel
theorem dX9_next_332 : decode cX9_next 332 = .ok (.iload_n 1, 1) := by decide +kernel
theorem dX9_next_333 : decode cX9_next 333 = .ok (.bipush 45, 2) := by decide +kernel
theorem dX9_next_335 : decode cX9_next 335 = .ok (.if_icmp .eq 15, 3) := by decide +kernel
theorem dX9_next_338 : decode cX9_next 338 = .ok (.aload_n 0, 1) := by decide +kernel
theorem dX9_next_339 : decode cX9_next 339 = .ok (.iconst 1, 1) := by decide +kernel
theorem dX9_next_340 : decode cX9_next 340 = .ok (.aload_n 0, 1) := by decide +kernel
theorem dX9_next_341 : decode cX9_next 341 = .ok (.getfield 123, 3) := by decide +kernel
theorem dX9_next_344 : decode cX9_next 344 = .ok (.invokevirtual 137, 3) := by decide +kernel
theorem dX9_next_347 : decode cX9_next 347 = .ok (.ifCond .eq 7, 3) := by decide +kernel
theorem dX9_next_350 : decode cX9_next 350 = .ok (.iconst 1, 1) := by decide +kernel
theorem dX9_next_351 : decode cX9_next 351 = .ok (.goto 4, 3) := by decide +kernel
theorem dX9_next_354 : decode cX9_next 354 = .ok (.iconst 0, 1) := by decide +kernel
theorem dX9_next_355 : decode cX9_next 355 = .ok (.ireturn, 1) := by decide +kernel
theorem dX9_starts_0 : decode cX9_starts 0 = .ok (.aload_n 0, 1) := by decide +kernel
theorem dX9_starts_1 : decode cX9_starts 1 = .ok (.iconst 0, 1) := by decide +kernel
theorem dX9_starts_2 : decode cX9_starts 2 = .ok (.putfield 114, 3) := by decide +kernel
theorem dX9_starts_5 : decode cX9_starts 5 = .ok (.aload_n 0, 1) := by decide +kernel
theorem dX9_starts_6 : decode cX9_starts 6 = .ok (.iconst 0, 1) := by decide +kernel
theorem dX9_starts_7 : decode cX9_starts 7 = .ok (.putfield 117, 3) := by decide +kernel
theorem dX9_starts_10 : decode cX9_starts 10 = .ok (.aload_n 0, 1) := by decide +kernel
theorem dX9_starts_11 : decode cX9_starts 11 = .ok (.iconst 0, 1) := by decide +kernel
theorem dX9_starts_12 : decode cX9_starts 12 = .ok (.putfield 120, 3) := by decide +kernel
theorem dX9_starts_15 : decode cX9_starts 15 = .ok (.aload_n 0, 1) := by decide +kernel
theorem dX9_starts_16 : decode cX9_starts 16 = .ok (.invokevirtual 144, 3) := by decide +kernel
theorem dX9_starts_19 : decode cX9_starts 19 = .ok (.ireturn, 1) := by decide +kernel
theorem dX9_cannot_0 : decode cX9_cannot 0 = .ok (.aload_n 0, 1) := by decide +kernel
theorem dX9_cannot_1 : decode cX9_cannot 1 = .ok (.iconst 2, 1) := by decide +kernel
theorem dX9_cannot_2 : decode cX9_cannot 2 = .ok (.aload_n 0, 1) := by decide +kernel
theorem dX9_cannot_3 : decode cX9_cannot 3 = .ok (.getfield 123, 3) := by decide +kernel
theorem dX9_cannot_6 : decode cX9_cannot 6 = .ok (.invokevirtual 137, 3) := by decide +kernel
theorem dX9_cannot_9 : decode cX9_cannot 9 = .ok (.ireturn, 1) := by decide +kernel
theorem dX9_label_0 : decode cX9_label 0 = .ok (.iconst 0, 1) := by decide +kernel
theorem dX9_label_1 : decode cX9_label 1 = .ok (.istore_n 1, 1) := by decide +kernel
theorem dX9_label_2 : decode cX9_label 2 = .ok (.iload_n 1, 1) := by decide +kernel
theorem dX9_label_3 : decode cX9_label 3 = .ok (.aload_n 0, 1) := by decide +kernel
theorem dX9_label_4 : decode cX9_label 4 = .ok (.getfield 148, 3) := by decide +kernel
theorem dX9_label_7 : decode cX9_label 7 = .ok (.if_icmp .ge 95, 3) := by decide +kernel
theorem dX9_label_10 : decode cX9_label 10 = .ok (.aload_n 0, 1) := by decide +kernel
theorem dX9_label_11 : decode cX9_label 11 = .ok (.getfield 16, 3) := by decide +kernel
theorem dX9_label_14 : decode cX9_label 14 = .ok (.iload_n 1, 1) := by decide +kernel
theorem dX9_label_15 : decode cX9_label 15 = .ok (.iaload, 1) := by decide +kernel
theorem dX9_label_16 : decode cX9_label 16 = .ok (.aload_n 0, 1) := by decide +kernel
theorem dX9_label_17 : decode cX9_label 17 = .ok (.getfield 120, 3) := by decide +kernel
theorem dX9_label_20 : decode cX9_label 20 = .ok (.aload_n 0, 1) := by decide +kernel
theorem dX9_label_21 : decode cX9_label 21 = .ok (.getfield 123, 3) := by decide +kernel
theorem dX9_label_24 : decode cX9_label 24 = .ok (.isub, 1) := by decide +kernel
theorem dX9_label_25 : decode cX9_label 25 = .ok (.if_icmp .ne 7, 3) := by decide +kernel
theorem dX9_label_28 : decode cX9_label 28 = .ok (.iconst 1, 1) := by decide +kernel
theorem dX9_label_29 : decode cX9_label 29 = .ok (.goto 4, 3) := by decide +kernel
theorem dX9_label_32 : decode cX9_label 32 = .ok (.iconst 0, 1) := by decide +kernel
theorem dX9_label_33 : decode cX9_label 33 = .ok (.istore_n 2, 1) := by decide +kernel
theorem dX9_label_34 : decode cX9_label 34 = .ok (.iconst 0, 1) := by decide +kernel
theorem dX9_label_35 : decode cX9_label 35 = .ok (.istore_n 3, 1) := by decide +kernel
theorem dX9_label_36 : decode cX9_label 36 = .ok (.iload_n 3, 1) := by decide +kernel
theorem dX9_label_37 : decode cX9_label 37 = .ok (.aload_n 0, 1) := by decide +kernel
theorem dX9_label_38 : decode cX9_label 38 = .ok (.getfield 120, 3) := by decide +kernel
theorem dX9_label_41 : decode cX9_label 41 = .ok (.aload_n 0, 1) := by decide +kernel
theorem dX9_label_42 : decode cX9_label 42 = .ok (.getfield 123, 3) := by decide +kernel
theorem dX9_label_45 : decode cX9_label 45 = .ok (.isub, 1) := by decide +kernel
theorem dX9_label_46 : decode cX9_label 46 = .ok (.if_icmp .ge 44, 3) := by decide +kernel
theorem dX9_label_49 : decode cX9_label 49 = .ok (.iload_n 2, 1) := by decide +kernel
theorem dX9_label_50 : decode cX9_label 50 = .ok (.ifCond .eq 40, 3) := by decide +kernel
theorem dX9_label_53 : decode cX9_label 53 = .ok (.aload_n 0, 1) := by decide +kernel
theorem dX9_label_54 : decode cX9_label 54 = .ok (.getfield 13, 3) := by decide +kernel
theorem dX9_label_57 : decode cX9_label 57 = .ok (.bipush 8, 2) := by decide +kernel
theorem dX9_label_59 : decode cX9_label 59 = .ok (.iload_n 1, 1) := by decide +kernel
theorem dX9_label_60 : decode cX9_label 60 = .ok (.imul, 1) := by decide +kernel
theorem dX9_label_61 : decode cX9_label 61 = .ok (.iload_n 3, 1) := by decide +kernel
theorem dX9_label_62 : decode cX9_label 62 = .ok (.iadd, 1) := by decide +kernel
theorem dX9_label_63 : decode cX9_label 63 = .ok (.baload, 1) := by decide +kernel
theorem dX9_label_64 : decode cX9_label 64 = .ok (.aload_n 0, 1) := by decide +kernel
theorem dX9_label_65 : decode cX9_label 65 = .ok (.getfield 7, 3) := by decide +kernel
theorem dX9_label_68 : decode cX9_label 68 = .ok (.aload_n 0, 1) := by decide +kernel
theorem dX9_label_69 : decode cX9_label 69 = .ok (.getfield 123, 3) := by decide +kernel
theorem dX9_label_72 : decode cX9_label 72 = .ok (.iload_n 3, 1) := by decide +kernel
theorem dX9_label_73 : decode cX9_label 73 = .ok (.iadd, 1) := by decide +kernel
theorem dX9_label_74 : decode cX9_label 74 = .ok (.baload, 1) := by decide +kernel
theorem dX9_label_75 : decode cX9_label 75 = .ok (.if_icmp .ne 7, 3) := by decide +kernel
theorem dX9_label_78 : decode cX9_label 78 = .ok (.iconst 1, 1) := by decide +kernel
theorem dX9_label_79 : decode cX9_label 79 = .ok (.goto 4, 3) := by decide +kernel
theorem dX9_label_82 : decode cX9_label 82 = .ok (.iconst 0, 1) := by decide +kernel
theorem dX9_label_83 : decode cX9_label 83 = .ok (.istore_n 2, 1) := by decide +kernel
theorem dX9_label_84 : decode cX9_label 84 = .ok (.iinc 3 1, 3) := by decide +kernel
theorem dX9_label_87 : decode cX9_label 87 = .ok (.goto (-51), 3) := by decide +kernel
theorem dX9_label_90 : decode cX9_label 90 = .ok (.iload_n 2, 1) := by decide +kernel
theorem dX9_label_91 : decode cX9_label 91 = .ok (.ifCond .eq 5, 3) := by decide +kernel
theorem dX9_label_94 : decode cX9_label 94 = .ok (.iload_n 1, 1) := by decide +kernel
theorem dX9_label_95 : decode cX9_label 95 = .ok (.ireturn, 1) := by decide +kernel
theorem dX9_label_96 : decode cX9_label 96 = .ok (.iinc 1 1, 3) := by decide +kernel
theorem dX9_label_99 : decode cX9_label 99 = .ok (.goto (-97), 3) := by decide +kernel
theorem dX9_label_102 : decode cX9_label 102 = .ok (.iconst (-1), 1) := by decide +kernel
theorem dX9_label_103 : decode cX9_label 103 = .ok (.ireturn, 1) := by decide +kernel
theorem dX9_word_0 : decode cX9_word 0 = .ok (.iconst 0, 1) := by decide +kernel
theorem dX9_word_1 : decode cX9_word 1 = .ok (.istore_n 1, 1) := by decide +kernel
theorem dX9_word_2 : decode cX9_word 2 = .ok (.iload_n 1, 1) := by decide +kernel
theorem dX9_word_3 : decode cX9_word 3 = .ok (.aload_n 0, 1) := by decide +kernel
theorem dX9_word_4 : decode cX9_word 4 = .ok (.getfield 151, 3) := by decide +kernel
theorem dX9_word_7 : decode cX9_word 7 = .ok (.if_icmp .ge 95, 3) := by decide +kernel
theorem dX9_word_10 : decode cX9_word 10 = .ok (.aload_n 0, 1) := by decide +kernel
theorem dX9_word_11 : decode cX9_word 11 = .ok (.getfield 23, 3) := by decide +kernel
theorem dX9_word_14 : decode cX9_word 14 = .ok (.iload_n 1, 1) := by decide +kernel
theorem dX9_word_15 : decode cX9_word 15 = .ok (.iaload, 1) := by decide +kernel
theorem dX9_word_16 : decode cX9_word 16 = .ok (.aload_n 0, 1) := by decide +kernel
theorem dX9_word_17 : decode cX9_word 17 = .ok (.getfield 120, 3) := by decide +kernel
theorem dX9_word_20 : decode cX9_word 20 = .ok (.aload_n 0, 1) := by decide +kernel
theorem dX9_word_21 : decode cX9_word 21 = .ok (.getfield 123, 3) := by decide +kernel
theorem dX9_word_24 : decode cX9_word 24 = .ok (.isub, 1) := by decide +kernel
theorem dX9_word_25 : decode cX9_word 25 = .ok (.if_icmp .ne 7, 3) := by decide +kernel
theorem dX9_word_28 : decode cX9_word 28 = .ok (.iconst 1, 1) := by decide +kernel
theorem dX9_word_29 : decode cX9_word 29 = .ok (.goto 4, 3) := by decide +kernel
theorem dX9_word_32 : decode cX9_word 32 = .ok (.iconst 0, 1) := by decide +kernel
theorem dX9_word_33 : decode cX9_word 33 = .ok (.istore_n 2, 1) := by decide +kernel
theorem dX9_word_34 : decode cX9_word 34 = .ok (.iconst 0, 1) := by decide +kernel
theorem dX9_word_35 : decode cX9_word 35 = .ok (.istore_n 3, 1) := by decide +kernel
theorem dX9_word_36 : decode cX9_word 36 = .ok (.iload_n 3, 1) := by decide +kernel
theorem dX9_word_37 : decode cX9_word 37 = .ok (.aload_n 0, 1) := by decide +kernel
theorem dX9_word_38 : decode cX9_word 38 = .ok (.getfield 120, 3) := by decide +kernel
theorem dX9_word_41 : decode cX9_word 41 = .ok (.aload_n 0, 1) := by decide +kernel
theorem dX9_word_42 : decode cX9_word 42 = .ok (.getfield 123, 3) := by decide +kernel
theorem dX9_word_45 : decode cX9_word 45 = .ok (.isub, 1) := by decide +kernel
theorem dX9_word_46 : decode cX9_word 46 = .ok (.if_icmp .ge 44, 3) := by decide +kernel
theorem dX9_word_49 : decode cX9_word 49 = .ok (.iload_n 2, 1) := by decide +kernel
theorem dX9_word_50 : decode cX9_word 50 = .ok (.ifCond .eq 40, 3) := by decide +kernel
theorem dX9_word_53 : decode cX9_word 53 = .ok (.aload_n 0, 1) := by decide +kernel
theorem dX9_word_54 : decode cX9_word 54 = .ok (.getfield 20, 3) := by decide +kernel
theorem dX9_word_57 : decode cX9_word 57 = .ok (.bipush 12, 2) := by decide +kernel
theorem dX9_word_59 : decode cX9_word 59 = .ok (.iload_n 1, 1) := by decide +kernel
theorem dX9_word_60 : decode cX9_word 60 = .ok (.imul, 1) := by decide +kernel
theorem dX9_word_61 : decode cX9_word 61 = .ok (.iload_n 3, 1) := by decide +kernel
theorem dX9_word_62 : decode cX9_word 62 = .ok (.iadd, 1) := by decide +kernel
theorem dX9_word_63 : decode cX9_word 63 = .ok (.baload, 1) := by decide +kernel
theorem dX9_word_64 : decode cX9_word 64 = .ok (.aload_n 0, 1) := by decide +kernel
theorem dX9_word_65 : decode cX9_word 65 = .ok (.getfield 7, 3) := by decide +kernel
theorem dX9_word_68 : decode cX9_word 68 = .ok (.aload_n 0, 1) := by decide +kernel
theorem dX9_word_69 : decode cX9_word 69 = .ok (.getfield 123, 3) := by decide +kernel
theorem dX9_word_72 : decode cX9_word 72 = .ok (.iload_n 3, 1) := by decide +kernel
theorem dX9_word_73 : decode cX9_word 73 = .ok (.iadd, 1) := by decide +kernel
theorem dX9_word_74 : decode cX9_word 74 = .ok (.baload, 1) := by decide +kernel
theorem dX9_word_75 : decode cX9_word 75 = .ok (.if_icmp .ne 7, 3) := by decide +kernel
theorem dX9_word_78 : decode cX9_word 78 = .ok (.iconst 1, 1) := by decide +kernel
theorem dX9_word_79 : decode cX9_word 79 = .ok (.goto 4, 3) := by decide +kernel
theorem dX9_word_82 : decode cX9_word 82 = .ok (.iconst 0, 1) := by decide +kernel
theorem dX9_word_83 : decode cX9_word 83 = .ok (.istore_n 2, 1) := by decide +kernel
theorem dX9_word_84 : decode cX9_word 84 = .ok (.iinc 3 1, 3) := by decide +kernel
theorem dX9_word_87 : decode cX9_word 87 = .ok (.goto (-51), 3) := by decide +kernel
theorem dX9_word_90 : decode cX9_word 90 = .ok (.iload_n 2, 1) := by decide +kernel
theorem dX9_word_91 : decode cX9_word 91 = .ok (.ifCond .eq 5, 3) := by decide +kernel
theorem dX9_word_94 : decode cX9_word 94 = .ok (.iload_n 1, 1) := by decide +kernel
theorem dX9_word_95 : decode cX9_word 95 = .ok (.ireturn, 1) := by decide +kernel
theorem dX9_word_96 : decode cX9_word 96 = .ok (.iinc 1 1, 3) := by decide +kernel
theorem dX9_word_99 : decode cX9_word 99 = .ok (.goto (-97), 3) := by decide +kernel
theorem dX9_word_102 : decode cX9_word 102 = .ok (.iconst (-1), 1) := by decide +kernel
theorem dX9_word_103 : decode cX9_word 103 = .ok (.ireturn, 1) := by decide +kernel
theorem dX9_here_0 : decode cX9_here 0 = .ok (.bipush 12, 2) := by decide +kernel
theorem dX9_here_2 : decode cX9_here 2 = .ok (.aload_n 0, 1) := by decide +kernel
theorem dX9_here_3 : decode cX9_here 3 = .ok (.getfield 154, 3) := by decide +kernel
theorem dX9_here_6 : decode cX9_here 6 = .ok (.imul, 1) := by decide +kernel
theorem dX9_here_7 : decode cX9_here 7 = .ok (.iload_n 1, 1) := by decide +kernel
theorem dX9_here_8 : decode cX9_here 8 = .ok (.iadd, 1) := by decide +kernel
theorem dX9_here_9 : decode cX9_here 9 = .ok (.ireturn, 1) := by decide +kernel
theorem dX9_newNode_0 : decode cX9_newNode 0 = .ok (.aload_n 0, 1) := by decide +kernel
theorem dX9_newNode_1 : decode cX9_newNode 1 = .ok (.getfield 157, 3) := by decide +kernel
theorem dX9_newNode_4 : decode cX9_newNode 4 = .ok (.bipush 12, 2) := by decide +kernel
theorem dX9_newNode_6 : decode cX9_newNode 6 = .ok (.if_icmp .ne 13, 3) := by decide +kernel
theorem dX9_newNode_9 : decode cX9_newNode 9 = .ok (.aload_n 0, 1) := by decide +kernel
theorem dX9_newNode_10 : decode cX9_newNode 10 = .ok (.iconst 3, 1) := by decide +kernel
theorem dX9_newNode_11 : decode cX9_newNode 11 = .ok (.aload_n 0, 1) := by decide +kernel
theorem dX9_newNode_12 : decode cX9_newNode 12 = .ok (.getfield 123, 3) := by decide +kernel
theorem dX9_newNode_15 : decode cX9_newNode 15 = .ok (.invokevirtual 137, 3) := by decide +kernel
theorem dX9_newNode_18 : decode cX9_newNode 18 = .ok (.ireturn, 1) := by decide +kernel
theorem dX9_newNode_19 : decode cX9_newNode 19 = .ok (.aload_n 0, 1) := by decide +kernel
theorem dX9_newNode_20 : decode cX9_newNode 20 = .ok (.getfield 130, 3) := by decide +kernel
theorem dX9_newNode_23 : decode cX9_newNode 23 = .ok (.iconst 2, 1) := by decide +kernel
theorem dX9_newNode_24 : decode cX9_newNode 24 = .ok (.if_icmp .ne 7, 3) := by decide +kernel
theorem dX9_newNode_27 : decode cX9_newNode 27 = .ok (.iconst 1, 1) := by decide +kernel
theorem dX9_newNode_28 : decode cX9_newNode 28 = .ok (.goto 4, 3) := by decide +kernel
theorem dX9_newNode_31 : decode cX9_newNode 31 = .ok (.iconst 0, 1) := by decide +kernel
theorem dX9_newNode_32 : decode cX9_newNode 32 = .ok (.istore_n 1, 1) := by decide +kernel
theorem dX9_newNode_33 : decode cX9_newNode 33 = .ok (.iload_n 1, 1) := by decide +kernel
theorem dX9_newNode_34 : decode cX9_newNode 34 = .ok (.ifCond .eq 10, 3) := by decide +kernel
theorem dX9_newNode_37 : decode cX9_newNode 37 = .ok (.aload_n 0, 1) := by decide +kernel
theorem dX9_newNode_38 : decode cX9_newNode 38 = .ok (.invokevirtual 160, 3) := by decide +kernel
theorem dX9_newNode_41 : decode cX9_newNode 41 = .ok (.goto 7, 3) := by decide +kernel
theorem dX9_newNode_44 : decode cX9_newNode 44 = .ok (.aload_n 0, 1) := by decide +kernel
theorem dX9_newNode_45 : decode cX9_newNode 45 = .ok (.invokevirtual 164, 3) := by decide +kernel
theorem dX9_newNode_48 : decode cX9_newNode 48 = .ok (.istore_n 2, 1) := by decide +kernel
theorem dX9_newNode_49 : decode cX9_newNode 49 = .ok (.iload_n 2, 1) := by decide +kernel
theorem dX9_newNode_50 : decode cX9_newNode 50 = .ok (.iconst (-1), 1) := by decide +kernel
theorem dX9_newNode_51 : decode cX9_newNode 51 = .ok (.if_icmp .ne 38, 3) := by decide +kernel
theorem dX9_newNode_54 : decode cX9_newNode 54 = .ok (.iload_n 1, 1) := by decide +kernel
theorem dX9_newNode_55 : decode cX9_newNode 55 = .ok (.ifCond .eq 15, 3) := by decide +kernel
theorem dX9_newNode_58 : decode cX9_newNode 58 = .ok (.aload_n 0, 1) := by decide +kernel
theorem dX9_newNode_59 : decode cX9_newNode 59 = .ok (.getfield 151, 3) := by decide +kernel
theorem dX9_newNode_62 : decode cX9_newNode 62 = .ok (.bipush 32, 2) := by decide +kernel
theorem dX9_newNode_64 : decode cX9_newNode 64 = .ok (.if_icmp .ne 25, 3) := by decide +kernel
theorem dX9_newNode_67 : decode cX9_newNode 67 = .ok (.goto 12, 3) := by decide +kernel
theorem dX9_newNode_70 : decode cX9_newNode 70 = .ok (.aload_n 0, 1) := by decide +kernel
theorem dX9_newNode_71 : decode cX9_newNode 71 = .ok (.getfield 148, 3) := by decide +kernel
theorem dX9_newNode_74 : decode cX9_newNode 74 = .ok (.bipush 16, 2) := by decide +kernel
theorem dX9_newNode_76 : decode cX9_newNode 76 = .ok (.if_icmp .ne 13, 3) := by decide +kernel
theorem dX9_newNode_79 : decode cX9_newNode 79 = .ok (.aload_n 0, 1) := by decide +kernel
theorem dX9_newNode_80 : decode cX9_newNode 80 = .ok (.iconst 3, 1) := by decide +kernel
theorem dX9_newNode_81 : decode cX9_newNode 81 = .ok (.aload_n 0, 1) := by decide +kernel
theorem dX9_newNode_82 : decode cX9_newNode 82 = .ok (.getfield 123, 3) := by decide +kernel
theorem dX9_newNode_85 : decode cX9_newNode 85 = .ok (.invokevirtual 137, 3) := by decide +kernel
theorem dX9_newNode_88 : decode cX9_newNode 88 = .ok (.ireturn, 1) := by decide +kernel
theorem dX9_newNode_89 : decode cX9_newNode 89 = .ok (.iload_n 2, 1) := by decide +kernel
theorem dX9_newNode_90 : decode cX9_newNode 90 = .ok (.iconst (-1), 1) := by decide +kernel
theorem dX9_newNode_91 : decode cX9_newNode 91 = .ok (.if_icmp .ne 148, 3) := by decide +kernel
theorem dX9_newNode_94 : decode cX9_newNode 94 = .ok (.iload_n 1, 1) := by decide +kernel
theorem dX9_newNode_95 : decode cX9_newNode 95 = .ok (.ifCond .eq 10, 3) := by decide +kernel
theorem dX9_newNode_98 : decode cX9_newNode 98 = .ok (.aload_n 0, 1) := by decide +kernel
theorem dX9_newNode_99 : decode cX9_newNode 99 = .ok (.getfield 151, 3) := by decide +kernel
theorem dX9_newNode_102 : decode cX9_newNode 102 = .ok (.goto 7, 3) := by decide +kernel
theorem dX9_newNode_105 : decode cX9_newNode 105 = .ok (.aload_n 0, 1) := by decide +kernel
theorem dX9_newNode_106 : decode cX9_newNode 106 = .ok (.getfield 148, 3) := by decide +kernel
theorem dX9_newNode_109 : decode cX9_newNode 109 = .ok (.istore_n 2, 1) := by decide +kernel
theorem dX9_newNode_110 : decode cX9_newNode 110 = .ok (.iconst 0, 1) := by decide +kernel
theorem dX9_newNode_111 : decode cX9_newNode 111 = .ok (.istore_n 3, 1) := by decide +kernel
theorem dX9_newNode_112 : decode cX9_newNode 112 = .ok (.iload_n 3, 1) := by decide +kernel
theorem dX9_newNode_113 : decode cX9_newNode 113 = .ok (.aload_n 0, 1) := by decide +kernel
theorem dX9_newNode_114 : decode cX9_newNode 114 = .ok (.getfield 120, 3) := by decide +kernel
theorem dX9_newNode_117 : decode cX9_newNode 117 = .ok (.aload_n 0, 1) := by decide +kernel
theorem dX9_newNode_118 : decode cX9_newNode 118 = .ok (.getfield 123, 3) := by decide +kernel
theorem dX9_newNode_121 : decode cX9_newNode 121 = .ok (.isub, 1) := by decide +kernel
theorem dX9_newNode_122 : decode cX9_newNode 122 = .ok (.if_icmp .ge 60, 3) := by decide +kernel
theorem dX9_newNode_125 : decode cX9_newNode 125 = .ok (.iload_n 1, 1) := by decide +kernel
theorem dX9_newNode_126 : decode cX9_newNode 126 = .ok (.ifCond .eq 28, 3) := by decide +kernel
theorem dX9_newNode_129 : decode cX9_newNode 129 = .ok (.aload_n 0, 1) := by decide +kernel
theorem dX9_newNode_130 : decode cX9_newNode 130 = .ok (.getfield 20, 3) := by decide +kernel
theorem dX9_newNode_133 : decode cX9_newNode 133 = .ok (.bipush 12, 2) := by decide +kernel
theorem dX9_newNode_135 : decode cX9_newNode 135 = .ok (.iload_n 2, 1) := by decide +kernel
theorem dX9_newNode_136 : decode cX9_newNode 136 = .ok (.imul, 1) := by decide +kernel
theorem dX9_newNode_137 : decode cX9_newNode 137 = .ok (.iload_n 3, 1) := by decide +kernel
theorem dX9_newNode_138 : decode cX9_newNode 138 = .ok (.iadd, 1) := by decide +kernel
theorem dX9_newNode_139 : decode cX9_newNode 139 = .ok (.aload_n 0, 1) := by decide +kernel
theorem dX9_newNode_140 : decode cX9_newNode 140 = .ok (.getfield 7, 3) := by decide +kernel
theorem dX9_newNode_143 : decode cX9_newNode 143 = .ok (.aload_n 0, 1) := by decide +kernel
theorem dX9_newNode_144 : decode cX9_newNode 144 = .ok (.getfield 123, 3) := by decide +kernel
theorem dX9_newNode_147 : decode cX9_newNode 147 = .ok (.iload_n 3, 1) := by decide +kernel
theorem dX9_newNode_148 : decode cX9_newNode 148 = .ok (.iadd, 1) := by decide +kernel
theorem dX9_newNode_149 : decode cX9_newNode 149 = .ok (.baload, 1) := by decide +kernel
theorem dX9_newNode_150 : decode cX9_newNode 150 = .ok (.bastore, 1) := by decide +kernel
theorem dX9_newNode_151 : decode cX9_newNode 151 = .ok (.goto 25, 3) := by decide +kernel
theorem dX9_newNode_154 : decode cX9_newNode 154 = .ok (.aload_n 0, 1) := by decide +kernel
theorem dX9_newNode_155 : decode cX9_newNode 155 = .ok (.getfield 13, 3) := by decide +kernel
theorem dX9_newNode_158 : decode cX9_newNode 158 = .ok (.bipush 8, 2) := by decide +kernel
theorem dX9_newNode_160 : decode cX9_newNode 160 = .ok (.iload_n 2, 1) := by decide +kernel
theorem dX9_newNode_161 : decode cX9_newNode 161 = .ok (.imul, 1) := by decide +kernel
theorem dX9_newNode_162 : decode cX9_newNode 162 = .ok (.iload_n 3, 1) := by decide +kernel
theorem dX9_newNode_163 : decode cX9_newNode 163 = .ok (.iadd, 1) := by decide +kernel
theorem dX9_newNode_164 : decode cX9_newNode 164 = .ok (.aload_n 0, 1) := by decide +kernel
theorem dX9_newNode_165 : decode cX9_newNode 165 = .ok (.getfield 7, 3) := by decide +kernel
theorem dX9_newNode_168 : decode cX9_newNode 168 = .ok (.aload_n 0, 1) := by decide +kernel
theorem dX9_newNode_169 : decode cX9_newNode 169 = .ok (.getfield 123, 3) := by decide +kernel
theorem dX9_newNode_172 : decode cX9_newNode 172 = .ok (.iload_n 3, 1) := by decide +kernel
theorem dX9_newNode_173 : decode cX9_newNode 173 = .ok (.iadd, 1) := by decide +kernel
theorem dX9_newNode_174 : decode cX9_newNode 174 = .ok (.baload, 1) := by decide +kernel
theorem dX9_newNode_175 : decode cX9_newNode 175 = .ok (.bastore, 1) := by decide +kernel
theorem dX9_newNode_176 : decode cX9_newNode 176 = .ok (.iinc 3 1, 3) := by decide +kernel
theorem dX9_newNode_179 : decode cX9_newNode 179 = .ok (.goto (-67), 3) := by decide +kernel
theorem dX9_newNode_182 : decode cX9_newNode 182 = .ok (.iload_n 1, 1) := by decide +kernel
theorem dX9_newNode_183 : decode cX9_newNode 183 = .ok (.ifCond .eq 31, 3) := by decide +kernel
theorem dX9_newNode_186 : decode cX9_newNode 186 = .ok (.aload_n 0, 1) := by decide +kernel
theorem dX9_newNode_187 : decode cX9_newNode 187 = .ok (.getfield 23, 3) := by decide +kernel
theorem dX9_newNode_190 : decode cX9_newNode 190 = .ok (.iload_n 2, 1) := by decide +kernel
theorem dX9_newNode_191 : decode cX9_newNode 191 = .ok (.aload_n 0, 1) := by decide +kernel
theorem dX9_newNode_192 : decode cX9_newNode 192 = .ok (.getfield 120, 3) := by decide +kernel
theorem dX9_newNode_195 : decode cX9_newNode 195 = .ok (.aload_n 0, 1) := by decide +kernel
theorem dX9_newNode_196 : decode cX9_newNode 196 = .ok (.getfield 123, 3) := by decide +kernel
theorem dX9_newNode_199 : decode cX9_newNode 199 = .ok (.isub, 1) := by decide +kernel
theorem dX9_newNode_200 : decode cX9_newNode 200 = .ok (.iastore, 1) := by decide +kernel
theorem dX9_newNode_201 : decode cX9_newNode 201 = .ok (.aload_n 0, 1) := by decide +kernel
theorem dX9_newNode_202 : decode cX9_newNode 202 = .ok (.dup, 1) := by decide +kernel
theorem dX9_newNode_203 : decode cX9_newNode 203 = .ok (.getfield 151, 3) := by decide +kernel
theorem dX9_newNode_206 : decode cX9_newNode 206 = .ok (.iconst 1, 1) := by decide +kernel
theorem dX9_newNode_207 : decode cX9_newNode 207 = .ok (.iadd, 1) := by decide +kernel
theorem dX9_newNode_208 : decode cX9_newNode 208 = .ok (.putfield 151, 3) := by decide +kernel
theorem dX9_newNode_211 : decode cX9_newNode 211 = .ok (.goto 28, 3) := by decide +kernel
theorem dX9_newNode_214 : decode cX9_newNode 214 = .ok (.aload_n 0, 1) := by decide +kernel
theorem dX9_newNode_215 : decode cX9_newNode 215 = .ok (.getfield 16, 3) := by decide +kernel
theorem dX9_newNode_218 : decode cX9_newNode 218 = .ok (.iload_n 2, 1) := by decide +kernel
theorem dX9_newNode_219 : decode cX9_newNode 219 = .ok (.aload_n 0, 1) := by decide +kernel
theorem dX9_newNode_220 : decode cX9_newNode 220 = .ok (.getfield 120, 3) := by decide +kernel
theorem dX9_newNode_223 : decode cX9_newNode 223 = .ok (.aload_n 0, 1) := by decide +kernel
theorem dX9_newNode_224 : decode cX9_newNode 224 = .ok (.getfield 123, 3) := by decide +kernel
theorem dX9_newNode_227 : decode cX9_newNode 227 = .ok (.isub, 1) := by decide +kernel
theorem dX9_newNode_228 : decode cX9_newNode 228 = .ok (.iastore, 1) := by decide +kernel
theorem dX9_newNode_229 : decode cX9_newNode 229 = .ok (.aload_n 0, 1) := by decide +kernel
theorem dX9_newNode_230 : decode cX9_newNode 230 = .ok (.dup, 1) := by decide +kernel
theorem dX9_newNode_231 : decode cX9_newNode 231 = .ok (.getfield 148, 3) := by decide +kernel
theorem dX9_newNode_234 : decode cX9_newNode 234 = .ok (.iconst 1, 1) := by decide +kernel
theorem dX9_newNode_235 : decode cX9_newNode 235 = .ok (.iadd, 1) := by decide +kernel
theorem dX9_newNode_236 : decode cX9_newNode 236 = .ok (.putfield 148, 3) := by decide +kernel
theorem dX9_newNode_239 : decode cX9_newNode 239 = .ok (.aload_n 0, 1) := by decide +kernel
theorem dX9_newNode_240 : decode cX9_newNode 240 = .ok (.aload_n 0, 1) := by decide +kernel
theorem dX9_newNode_241 : decode cX9_newNode 241 = .ok (.getfield 157, 3) := by decide +kernel
theorem dX9_newNode_244 : decode cX9_newNode 244 = .ok (.invokevirtual 167, 3) := by decide +kernel
theorem dX9_newNode_247 : decode cX9_newNode 247 = .ok (.istore_n 3, 1) := by decide +kernel
theorem dX9_newNode_248 : decode cX9_newNode 248 = .ok (.aload_n 0, 1) := by decide +kernel
theorem dX9_newNode_249 : decode cX9_newNode 249 = .ok (.getfield 26, 3) := by decide +kernel
theorem dX9_newNode_252 : decode cX9_newNode 252 = .ok (.iload_n 3, 1) := by decide +kernel
theorem dX9_newNode_253 : decode cX9_newNode 253 = .ok (.iload_n 1, 1) := by decide +kernel
theorem dX9_newNode_254 : decode cX9_newNode 254 = .ok (.ifCond .eq 7, 3) := by decide +kernel
theorem dX9_newNode_257 : decode cX9_newNode 257 = .ok (.iconst 3, 1) := by decide +kernel
theorem dX9_newNode_258 : decode cX9_newNode 258 = .ok (.goto 4, 3) := by decide +kernel
theorem dX9_newNode_261 : decode cX9_newNode 261 = .ok (.iconst 0, 1) := by decide +kernel
theorem dX9_newNode_262 : decode cX9_newNode 262 = .ok (.iastore, 1) := by decide +kernel
theorem dX9_newNode_263 : decode cX9_newNode 263 = .ok (.aload_n 0, 1) := by decide +kernel
theorem dX9_newNode_264 : decode cX9_newNode 264 = .ok (.getfield 29, 3) := by decide +kernel
theorem dX9_newNode_267 : decode cX9_newNode 267 = .ok (.iload_n 3, 1) := by decide +kernel
theorem dX9_newNode_268 : decode cX9_newNode 268 = .ok (.iload_n 2, 1) := by decide +kernel
theorem dX9_newNode_269 : decode cX9_newNode 269 = .ok (.iastore, 1) := by decide +kernel
theorem dX9_newNode_270 : decode cX9_newNode 270 = .ok (.aload_n 0, 1) := by decide +kernel
theorem dX9_newNode_271 : decode cX9_newNode 271 = .ok (.getfield 32, 3) := by decide +kernel
theorem dX9_newNode_274 : decode cX9_newNode 274 = .ok (.iload_n 3, 1) := by decide +kernel
theorem dX9_newNode_275 : decode cX9_newNode 275 = .ok (.aload_n 0, 1) := by decide +kernel
theorem dX9_newNode_276 : decode cX9_newNode 276 = .ok (.getfield 170, 3) := by decide +kernel
theorem dX9_newNode_279 : decode cX9_newNode 279 = .ok (.iastore, 1) := by decide +kernel
theorem dX9_newNode_280 : decode cX9_newNode 280 = .ok (.aload_n 0, 1) := by decide +kernel
theorem dX9_newNode_281 : decode cX9_newNode 281 = .ok (.getfield 35, 3) := by decide +kernel
theorem dX9_newNode_284 : decode cX9_newNode 284 = .ok (.iload_n 3, 1) := by decide +kernel
theorem dX9_newNode_285 : decode cX9_newNode 285 = .ok (.iconst 0, 1) := by decide +kernel
theorem dX9_newNode_286 : decode cX9_newNode 286 = .ok (.iastore, 1) := by decide +kernel
theorem dX9_newNode_287 : decode cX9_newNode 287 = .ok (.aload_n 0, 1) := by decide +kernel
theorem dX9_newNode_288 : decode cX9_newNode 288 = .ok (.getfield 38, 3) := by decide +kernel
theorem dX9_newNode_291 : decode cX9_newNode 291 = .ok (.iload_n 3, 1) := by decide +kernel
theorem dX9_newNode_292 : decode cX9_newNode 292 = .ok (.iconst 0, 1) := by decide +kernel
theorem dX9_newNode_293 : decode cX9_newNode 293 = .ok (.iastore, 1) := by decide +kernel
theorem dX9_newNode_294 : decode cX9_newNode 294 = .ok (.aload_n 0, 1) := by decide +kernel
theorem dX9_newNode_295 : decode cX9_newNode 295 = .ok (.getfield 41, 3) := by decide +kernel
theorem dX9_newNode_298 : decode cX9_newNode 298 = .ok (.iload_n 3, 1) := by decide +kernel
theorem dX9_newNode_299 : decode cX9_newNode 299 = .ok (.iconst (-1), 1) := by decide +kernel
theorem dX9_newNode_300 : decode cX9_newNode 300 = .ok (.iastore, 1) := by decide +kernel
theorem dX9_newNode_301 : decode cX9_newNode 301 = .ok (.aload_n 0, 1) := by decide +kernel
theorem dX9_newNode_302 : decode cX9_newNode 302 = .ok (.getfield 44, 3) := by decide +kernel
theorem dX9_newNode_305 : decode cX9_newNode 305 = .ok (.iload_n 3, 1) := by decide +kernel
theorem dX9_newNode_306 : decode cX9_newNode 306 = .ok (.iconst (-1), 1) := by decide +kernel
theorem dX9_newNode_307 : decode cX9_newNode 307 = .ok (.iastore, 1) := by decide +kernel
theorem dX9_newNode_308 : decode cX9_newNode 308 = .ok (.aload_n 0, 1) := by decide +kernel
theorem dX9_newNode_309 : decode cX9_newNode 309 = .ok (.getfield 170, 3) := by decide +kernel
theorem dX9_newNode_312 : decode cX9_newNode 312 = .ok (.iconst (-1), 1) := by decide +kernel
theorem dX9_newNode_313 : decode cX9_newNode 313 = .ok (.if_icmp .eq 16, 3) := by decide +kernel
theorem dX9_newNode_316 : decode cX9_newNode 316 = .ok (.aload_n 0, 1) := by decide +kernel
theorem dX9_newNode_317 : decode cX9_newNode 317 = .ok (.iload_n 3, 1) := by decide +kernel
theorem dX9_newNode_318 : decode cX9_newNode 318 = .ok (.aload_n 0, 1) := by decide +kernel
theorem dX9_newNode_319 : decode cX9_newNode 319 = .ok (.aload_n 0, 1) := by decide +kernel
theorem dX9_newNode_320 : decode cX9_newNode 320 = .ok (.getfield 170, 3) := by decide +kernel
theorem dX9_newNode_323 : decode cX9_newNode 323 = .ok (.invokevirtual 167, 3) := by decide +kernel
theorem dX9_newNode_326 : decode cX9_newNode 326 = .ok (.invokevirtual 173, 3) := by decide +kernel
theorem dX9_newNode_329 : decode cX9_newNode 329 = .ok (.aload_n 0, 1) := by decide +kernel
theorem dX9_newNode_330 : decode cX9_newNode 330 = .ok (.dup, 1) := by decide +kernel
theorem dX9_newNode_331 : decode cX9_newNode 331 = .ok (.getfield 157, 3) := by decide +kernel
theorem dX9_newNode_334 : decode cX9_newNode 334 = .ok (.iconst 1, 1) := by decide +kernel
theorem dX9_newNode_335 : decode cX9_newNode 335 = .ok (.iadd, 1) := by decide +kernel
theorem dX9_newNode_336 : decode cX9_newNode 336 = .ok (.putfield 157, 3) := by decide +kernel
theorem dX9_newNode_339 : decode cX9_newNode 339 = .ok (.iconst 1, 1) := by decide +kernel
theorem dX9_newNode_340 : decode cX9_newNode 340 = .ok (.ireturn, 1) := by decide +kernel
theorem dX9_link_0 : decode cX9_link 0 = .ok (.aload_n 0, 1) := by decide +kernel
theorem dX9_link_1 : decode cX9_link 1 = .ok (.getfield 35, 3) := by decide +kernel
theorem dX9_link_4 : decode cX9_link 4 = .ok (.iload_n 2, 1) := by decide +kernel
theorem dX9_link_5 : decode cX9_link 5 = .ok (.dup2, 1) := by decide +kernel
theorem dX9_link_6 : decode cX9_link 6 = .ok (.iaload, 1) := by decide +kernel
theorem dX9_link_7 : decode cX9_link 7 = .ok (.iconst 1, 1) := by decide +kernel
theorem dX9_link_8 : decode cX9_link 8 = .ok (.iadd, 1) := by decide +kernel
theorem dX9_link_9 : decode cX9_link 9 = .ok (.iastore, 1) := by decide +kernel
theorem dX9_link_10 : decode cX9_link 10 = .ok (.aload_n 0, 1) := by decide +kernel
theorem dX9_link_11 : decode cX9_link 11 = .ok (.getfield 44, 3) := by decide +kernel
theorem dX9_link_14 : decode cX9_link 14 = .ok (.iload_n 2, 1) := by decide +kernel
theorem dX9_link_15 : decode cX9_link 15 = .ok (.iaload, 1) := by decide +kernel
theorem dX9_link_16 : decode cX9_link 16 = .ok (.iconst (-1), 1) := by decide +kernel
theorem dX9_link_17 : decode cX9_link 17 = .ok (.if_icmp .ne 11, 3) := by decide +kernel
theorem dX9_link_20 : decode cX9_link 20 = .ok (.aload_n 0, 1) := by decide +kernel
theorem dX9_link_21 : decode cX9_link 21 = .ok (.getfield 44, 3) := by decide +kernel
theorem dX9_link_24 : decode cX9_link 24 = .ok (.iload_n 2, 1) := by decide +kernel
theorem dX9_link_25 : decode cX9_link 25 = .ok (.iload_n 1, 1) := by decide +kernel
theorem dX9_link_26 : decode cX9_link 26 = .ok (.iastore, 1) := by decide +kernel
theorem dX9_link_27 : decode cX9_link 27 = .ok (.return_, 1) := by decide +kernel
theorem dX9_link_28 : decode cX9_link 28 = .ok (.aload_n 0, 1) := by decide +kernel
theorem dX9_link_29 : decode cX9_link 29 = .ok (.getfield 44, 3) := by decide +kernel
theorem dX9_link_32 : decode cX9_link 32 = .ok (.iload_n 2, 1) := by decide +kernel
theorem dX9_link_33 : decode cX9_link 33 = .ok (.iaload, 1) := by decide +kernel
theorem dX9_link_34 : decode cX9_link 34 = .ok (.istore_n 3, 1) := by decide +kernel
theorem dX9_link_35 : decode cX9_link 35 = .ok (.aload_n 0, 1) := by decide +kernel
theorem dX9_link_36 : decode cX9_link 36 = .ok (.getfield 41, 3) := by decide +kernel
theorem dX9_link_39 : decode cX9_link 39 = .ok (.iload_n 3, 1) := by decide +kernel
theorem dX9_link_40 : decode cX9_link 40 = .ok (.iaload, 1) := by decide +kernel
theorem dX9_link_41 : decode cX9_link 41 = .ok (.iconst (-1), 1) := by decide +kernel
theorem dX9_link_42 : decode cX9_link 42 = .ok (.if_icmp .eq 13, 3) := by decide +kernel
theorem dX9_link_45 : decode cX9_link 45 = .ok (.aload_n 0, 1) := by decide +kernel
theorem dX9_link_46 : decode cX9_link 46 = .ok (.getfield 41, 3) := by decide +kernel
theorem dX9_link_49 : decode cX9_link 49 = .ok (.iload_n 3, 1) := by decide +kernel
theorem dX9_link_50 : decode cX9_link 50 = .ok (.iaload, 1) := by decide +kernel
theorem dX9_link_51 : decode cX9_link 51 = .ok (.istore_n 3, 1) := by decide +kernel
theorem dX9_link_52 : decode cX9_link 52 = .ok (.goto (-17), 3) := by decide +kernel
theorem dX9_link_55 : decode cX9_link 55 = .ok (.aload_n 0, 1) := by decide +kernel
theorem dX9_link_56 : decode cX9_link 56 = .ok (.getfield 41, 3) := by decide +kernel
theorem dX9_link_59 : decode cX9_link 59 = .ok (.iload_n 3, 1) := by decide +kernel
theorem dX9_link_60 : decode cX9_link 60 = .ok (.iload_n 1, 1) := by decide +kernel
theorem dX9_link_61 : decode cX9_link 61 = .ok (.iastore, 1) := by decide +kernel
theorem dX9_link_62 : decode cX9_link 62 = .ok (.return_, 1) := by decide +kernel
theorem dX9_labelled_0 : decode cX9_labelled 0 = .ok (.aload_n 0, 1) := by decide +kernel
theorem dX9_labelled_1 : decode cX9_labelled 1 = .ok (.getfield 123, 3) := by decide +kernel
theorem dX9_labelled_4 : decode cX9_labelled 4 = .ok (.istore_n 1, 1) := by decide +kernel
theorem dX9_labelled_5 : decode cX9_labelled 5 = .ok (.aload_n 0, 1) := by decide +kernel
theorem dX9_labelled_6 : decode cX9_labelled 6 = .ok (.getfield 157, 3) := by decide +kernel
theorem dX9_labelled_9 : decode cX9_labelled 9 = .ok (.istore_n 2, 1) := by decide +kernel
theorem dX9_labelled_10 : decode cX9_labelled 10 = .ok (.aload_n 0, 1) := by decide +kernel
theorem dX9_labelled_11 : decode cX9_labelled 11 = .ok (.invokevirtual 177, 3) := by decide +kernel
theorem dX9_labelled_14 : decode cX9_labelled 14 = .ok (.ifCond .eq 10, 3) := by decide +kernel
theorem dX9_labelled_17 : decode cX9_labelled 17 = .ok (.aload_n 0, 1) := by decide +kernel
theorem dX9_labelled_18 : decode cX9_labelled 18 = .ok (.invokevirtual 144, 3) := by decide +kernel
theorem dX9_labelled_21 : decode cX9_labelled 21 = .ok (.ifCond .ne 5, 3) := by decide +kernel
theorem dX9_labelled_24 : decode cX9_labelled 24 = .ok (.iconst 0, 1) := by decide +kernel
theorem dX9_labelled_25 : decode cX9_labelled 25 = .ok (.ireturn, 1) := by decide +kernel
theorem dX9_labelled_26 : decode cX9_labelled 26 = .ok (.aload_n 0, 1) := by decide +kernel
theorem dX9_labelled_27 : decode cX9_labelled 27 = .ok (.getfield 130, 3) := by decide +kernel
theorem dX9_labelled_30 : decode cX9_labelled 30 = .ok (.bipush 33, 2) := by decide +kernel
theorem dX9_labelled_32 : decode cX9_labelled 32 = .ok (.if_icmp .ne 19, 3) := by decide +kernel
theorem dX9_labelled_35 : decode cX9_labelled 35 = .ok (.aload_n 0, 1) := by decide +kernel
theorem dX9_labelled_36 : decode cX9_labelled 36 = .ok (.getfield 26, 3) := by decide +kernel
theorem dX9_labelled_39 : decode cX9_labelled 39 = .ok (.aload_n 0, 1) := by decide +kernel
theorem dX9_labelled_40 : decode cX9_labelled 40 = .ok (.iload_n 2, 1) := by decide +kernel
theorem dX9_labelled_41 : decode cX9_labelled 41 = .ok (.invokevirtual 167, 3) := by decide +kernel
theorem dX9_labelled_44 : decode cX9_labelled 44 = .ok (.iconst 1, 1) := by decide +kernel
theorem dX9_labelled_45 : decode cX9_labelled 45 = .ok (.iastore, 1) := by decide +kernel
theorem dX9_labelled_46 : decode cX9_labelled 46 = .ok (.aload_n 0, 1) := by decide +kernel
theorem dX9_labelled_47 : decode cX9_labelled 47 = .ok (.invokevirtual 144, 3) := by decide +kernel
theorem dX9_labelled_50 : decode cX9_labelled 50 = .ok (.ireturn, 1) := by decide +kernel
theorem dX9_labelled_51 : decode cX9_labelled 51 = .ok (.aload_n 0, 1) := by decide +kernel
theorem dX9_labelled_52 : decode cX9_labelled 52 = .ok (.getfield 130, 3) := by decide +kernel
theorem dX9_labelled_55 : decode cX9_labelled 55 = .ok (.bipush 42, 2) := by decide +kernel
theorem dX9_labelled_57 : decode cX9_labelled 57 = .ok (.if_icmp .ne 86, 3) := by decide +kernel
theorem dX9_labelled_60 : decode cX9_labelled 60 = .ok (.aload_n 0, 1) := by decide +kernel
theorem dX9_labelled_61 : decode cX9_labelled 61 = .ok (.getfield 26, 3) := by decide +kernel
theorem dX9_labelled_64 : decode cX9_labelled 64 = .ok (.aload_n 0, 1) := by decide +kernel
theorem dX9_labelled_65 : decode cX9_labelled 65 = .ok (.iload_n 2, 1) := by decide +kernel
theorem dX9_labelled_66 : decode cX9_labelled 66 = .ok (.invokevirtual 167, 3) := by decide +kernel
theorem dX9_labelled_69 : decode cX9_labelled 69 = .ok (.iconst 2, 1) := by decide +kernel
theorem dX9_labelled_70 : decode cX9_labelled 70 = .ok (.iastore, 1) := by decide +kernel
theorem dX9_labelled_71 : decode cX9_labelled 71 = .ok (.aload_n 0, 1) := by decide +kernel
theorem dX9_labelled_72 : decode cX9_labelled 72 = .ok (.aload_n 0, 1) := by decide +kernel
theorem dX9_labelled_73 : decode cX9_labelled 73 = .ok (.getfield 180, 3) := by decide +kernel
theorem dX9_labelled_76 : decode cX9_labelled 76 = .ok (.iconst (-1), 1) := by decide +kernel
theorem dX9_labelled_77 : decode cX9_labelled 77 = .ok (.if_icmp .eq 14, 3) := by decide +kernel
theorem dX9_labelled_80 : decode cX9_labelled 80 = .ok (.aload_n 0, 1) := by decide +kernel
theorem dX9_labelled_81 : decode cX9_labelled 81 = .ok (.getfield 183, 3) := by decide +kernel
theorem dX9_labelled_84 : decode cX9_labelled 84 = .ok (.ifCond .ge 7, 3) := by decide +kernel
theorem dX9_labelled_87 : decode cX9_labelled 87 = .ok (.iload_n 1, 1) := by decide +kernel
theorem dX9_labelled_88 : decode cX9_labelled 88 = .ok (.goto 7, 3) := by decide +kernel
theorem dX9_labelled_91 : decode cX9_labelled 91 = .ok (.aload_n 0, 1) := by decide +kernel
theorem dX9_labelled_92 : decode cX9_labelled 92 = .ok (.getfield 183, 3) := by decide +kernel
theorem dX9_labelled_95 : decode cX9_labelled 95 = .ok (.putfield 183, 3) := by decide +kernel
theorem dX9_labelled_98 : decode cX9_labelled 98 = .ok (.aload_n 0, 1) := by decide +kernel
theorem dX9_labelled_99 : decode cX9_labelled 99 = .ok (.aload_n 0, 1) := by decide +kernel
theorem dX9_labelled_100 : decode cX9_labelled 100 = .ok (.getfield 180, 3) := by decide +kernel
theorem dX9_labelled_103 : decode cX9_labelled 103 = .ok (.iconst (-1), 1) := by decide +kernel
theorem dX9_labelled_104 : decode cX9_labelled 104 = .ok (.if_icmp .ne 7, 3) := by decide +kernel
theorem dX9_labelled_107 : decode cX9_labelled 107 = .ok (.iload_n 1, 1) := by decide +kernel
theorem dX9_labelled_108 : decode cX9_labelled 108 = .ok (.goto 7, 3) := by decide +kernel
theorem dX9_labelled_111 : decode cX9_labelled 111 = .ok (.aload_n 0, 1) := by decide +kernel
theorem dX9_labelled_112 : decode cX9_labelled 112 = .ok (.getfield 186, 3) := by decide +kernel
theorem dX9_labelled_115 : decode cX9_labelled 115 = .ok (.putfield 186, 3) := by decide +kernel
theorem dX9_labelled_118 : decode cX9_labelled 118 = .ok (.aload_n 0, 1) := by decide +kernel
theorem dX9_labelled_119 : decode cX9_labelled 119 = .ok (.aload_n 0, 1) := by decide +kernel
theorem dX9_labelled_120 : decode cX9_labelled 120 = .ok (.getfield 180, 3) := by decide +kernel
theorem dX9_labelled_123 : decode cX9_labelled 123 = .ok (.iconst (-1), 1) := by decide +kernel
theorem dX9_labelled_124 : decode cX9_labelled 124 = .ok (.if_icmp .ne 7, 3) := by decide +kernel
theorem dX9_labelled_127 : decode cX9_labelled 127 = .ok (.iload_n 2, 1) := by decide +kernel
theorem dX9_labelled_128 : decode cX9_labelled 128 = .ok (.goto 7, 3) := by decide +kernel
theorem dX9_labelled_131 : decode cX9_labelled 131 = .ok (.aload_n 0, 1) := by decide +kernel
theorem dX9_labelled_132 : decode cX9_labelled 132 = .ok (.getfield 180, 3) := by decide +kernel
theorem dX9_labelled_135 : decode cX9_labelled 135 = .ok (.putfield 180, 3) := by decide +kernel
theorem dX9_labelled_138 : decode cX9_labelled 138 = .ok (.aload_n 0, 1) := by decide +kernel
theorem dX9_labelled_139 : decode cX9_labelled 139 = .ok (.invokevirtual 144, 3) := by decide +kernel
theorem dX9_labelled_142 : decode cX9_labelled 142 = .ok (.ireturn, 1) := by decide +kernel
theorem dX9_labelled_143 : decode cX9_labelled 143 = .ok (.aload_n 0, 1) := by decide +kernel
theorem dX9_labelled_144 : decode cX9_labelled 144 = .ok (.getfield 130, 3) := by decide +kernel
theorem dX9_labelled_147 : decode cX9_labelled 147 = .ok (.bipush 43, 2) := by decide +kernel
theorem dX9_labelled_149 : decode cX9_labelled 149 = .ok (.if_icmp .eq 12, 3) := by decide +kernel
theorem dX9_labelled_152 : decode cX9_labelled 152 = .ok (.aload_n 0, 1) := by decide +kernel
theorem dX9_labelled_153 : decode cX9_labelled 153 = .ok (.getfield 130, 3) := by decide +kernel
theorem dX9_labelled_156 : decode cX9_labelled 156 = .ok (.bipush 45, 2) := by decide +kernel
theorem dX9_labelled_158 : decode cX9_labelled 158 = .ok (.if_icmp .ne 36, 3) := by decide +kernel
theorem dX9_labelled_161 : decode cX9_labelled 161 = .ok (.aload_n 0, 1) := by decide +kernel
theorem dX9_labelled_162 : decode cX9_labelled 162 = .ok (.getfield 38, 3) := by decide +kernel
theorem dX9_labelled_165 : decode cX9_labelled 165 = .ok (.aload_n 0, 1) := by decide +kernel
theorem dX9_labelled_166 : decode cX9_labelled 166 = .ok (.iload_n 2, 1) := by decide +kernel
theorem dX9_labelled_167 : decode cX9_labelled 167 = .ok (.invokevirtual 167, 3) := by decide +kernel
theorem dX9_labelled_170 : decode cX9_labelled 170 = .ok (.aload_n 0, 1) := by decide +kernel
theorem dX9_labelled_171 : decode cX9_labelled 171 = .ok (.getfield 130, 3) := by decide +kernel
theorem dX9_labelled_174 : decode cX9_labelled 174 = .ok (.bipush 43, 2) := by decide +kernel
theorem dX9_labelled_176 : decode cX9_labelled 176 = .ok (.if_icmp .ne 7, 3) := by decide +kernel
theorem dX9_labelled_179 : decode cX9_labelled 179 = .ok (.iconst 1, 1) := by decide +kernel
theorem dX9_labelled_180 : decode cX9_labelled 180 = .ok (.goto 4, 3) := by decide +kernel
theorem dX9_labelled_183 : decode cX9_labelled 183 = .ok (.iconst 2, 1) := by decide +kernel
theorem dX9_labelled_184 : decode cX9_labelled 184 = .ok (.iastore, 1) := by decide +kernel
theorem dX9_labelled_185 : decode cX9_labelled 185 = .ok (.aload_n 0, 1) := by decide +kernel
theorem dX9_labelled_186 : decode cX9_labelled 186 = .ok (.invokevirtual 144, 3) := by decide +kernel
theorem dX9_labelled_189 : decode cX9_labelled 189 = .ok (.ifCond .ne 5, 3) := by decide +kernel
theorem dX9_labelled_192 : decode cX9_labelled 192 = .ok (.iconst 0, 1) := by decide +kernel
theorem dX9_labelled_193 : decode cX9_labelled 193 = .ok (.ireturn, 1) := by decide +kernel
theorem dX9_labelled_194 : decode cX9_labelled 194 = .ok (.aload_n 0, 1) := by decide +kernel
theorem dX9_labelled_195 : decode cX9_labelled 195 = .ok (.getfield 130, 3) := by decide +kernel
theorem dX9_labelled_198 : decode cX9_labelled 198 = .ok (.bipush 40, 2) := by decide +kernel
theorem dX9_labelled_200 : decode cX9_labelled 200 = .ok (.if_icmp .eq 8, 3) := by decide +kernel
theorem dX9_labelled_203 : decode cX9_labelled 203 = .ok (.aload_n 0, 1) := by decide +kernel
theorem dX9_labelled_204 : decode cX9_labelled 204 = .ok (.invokevirtual 189, 3) := by decide +kernel
theorem dX9_labelled_207 : decode cX9_labelled 207 = .ok (.ireturn, 1) := by decide +kernel
theorem dX9_labelled_208 : decode cX9_labelled 208 = .ok (.aload_n 0, 1) := by decide +kernel
theorem dX9_labelled_209 : decode cX9_labelled 209 = .ok (.iload_n 2, 1) := by decide +kernel
theorem dX9_labelled_210 : decode cX9_labelled 210 = .ok (.putfield 170, 3) := by decide +kernel
theorem dX9_labelled_213 : decode cX9_labelled 213 = .ok (.aload_n 0, 1) := by decide +kernel
theorem dX9_labelled_214 : decode cX9_labelled 214 = .ok (.invokevirtual 144, 3) := by decide +kernel
theorem dX9_labelled_217 : decode cX9_labelled 217 = .ok (.ireturn, 1) := by decide +kernel
theorem dX9_readTree_0 : decode cX9_readTree 0 = .ok (.aload_n 0, 1) := by decide +kernel
theorem dX9_readTree_1 : decode cX9_readTree 1 = .ok (.iconst 0, 1) := by decide +kernel
theorem dX9_readTree_2 : decode cX9_readTree 2 = .ok (.putfield 157, 3) := by decide +kernel
theorem dX9_readTree_5 : decode cX9_readTree 5 = .ok (.aload_n 0, 1) := by decide +kernel
theorem dX9_readTree_6 : decode cX9_readTree 6 = .ok (.iconst (-1), 1) := by decide +kernel
theorem dX9_readTree_7 : decode cX9_readTree 7 = .ok (.putfield 170, 3) := by decide +kernel
theorem dX9_readTree_10 : decode cX9_readTree 10 = .ok (.aload_n 0, 1) := by decide +kernel
theorem dX9_readTree_11 : decode cX9_readTree 11 = .ok (.iconst (-1), 1) := by decide +kernel
theorem dX9_readTree_12 : decode cX9_readTree 12 = .ok (.putfield 180, 3) := by decide +kernel
theorem dX9_readTree_15 : decode cX9_readTree 15 = .ok (.aload_n 0, 1) := by decide +kernel
theorem dX9_readTree_16 : decode cX9_readTree 16 = .ok (.iconst (-1), 1) := by decide +kernel
theorem dX9_readTree_17 : decode cX9_readTree 17 = .ok (.putfield 183, 3) := by decide +kernel
theorem dX9_readTree_20 : decode cX9_readTree 20 = .ok (.iconst 1, 1) := by decide +kernel
theorem dX9_readTree_21 : decode cX9_readTree 21 = .ok (.istore_n 1, 1) := by decide +kernel
theorem dX9_readTree_22 : decode cX9_readTree 22 = .ok (.iload_n 1, 1) := by decide +kernel
theorem dX9_readTree_23 : decode cX9_readTree 23 = .ok (.ifCond .eq 125, 3) := by decide +kernel
theorem dX9_readTree_26 : decode cX9_readTree 26 = .ok (.aload_n 0, 1) := by decide +kernel
theorem dX9_readTree_27 : decode cX9_readTree 27 = .ok (.getfield 130, 3) := by decide +kernel
theorem dX9_readTree_30 : decode cX9_readTree 30 = .ok (.iconst 1, 1) := by decide +kernel
theorem dX9_readTree_31 : decode cX9_readTree 31 = .ok (.if_icmp .ne 12, 3) := by decide +kernel
theorem dX9_readTree_34 : decode cX9_readTree 34 = .ok (.aload_n 0, 1) := by decide +kernel
theorem dX9_readTree_35 : decode cX9_readTree 35 = .ok (.invokevirtual 192, 3) := by decide +kernel
theorem dX9_readTree_38 : decode cX9_readTree 38 = .ok (.ifCond .ne 93, 3) := by decide +kernel
theorem dX9_readTree_41 : decode cX9_readTree 41 = .ok (.iconst 0, 1) := by decide +kernel
theorem dX9_readTree_42 : decode cX9_readTree 42 = .ok (.ireturn, 1) := by decide +kernel
theorem dX9_readTree_43 : decode cX9_readTree 43 = .ok (.aload_n 0, 1) := by decide +kernel
theorem dX9_readTree_44 : decode cX9_readTree 44 = .ok (.getfield 130, 3) := by decide +kernel
theorem dX9_readTree_47 : decode cX9_readTree 47 = .ok (.iconst 2, 1) := by decide +kernel
theorem dX9_readTree_48 : decode cX9_readTree 48 = .ok (.if_icmp .ne 19, 3) := by decide +kernel
theorem dX9_readTree_51 : decode cX9_readTree 51 = .ok (.aload_n 0, 1) := by decide +kernel
theorem dX9_readTree_52 : decode cX9_readTree 52 = .ok (.invokevirtual 177, 3) := by decide +kernel
theorem dX9_readTree_55 : decode cX9_readTree 55 = .ok (.ifCond .eq 10, 3) := by decide +kernel
theorem dX9_readTree_58 : decode cX9_readTree 58 = .ok (.aload_n 0, 1) := by decide +kernel
theorem dX9_readTree_59 : decode cX9_readTree 59 = .ok (.invokevirtual 144, 3) := by decide +kernel
theorem dX9_readTree_62 : decode cX9_readTree 62 = .ok (.ifCond .ne 69, 3) := by decide +kernel
theorem dX9_readTree_65 : decode cX9_readTree 65 = .ok (.iconst 0, 1) := by decide +kernel
theorem dX9_readTree_66 : decode cX9_readTree 66 = .ok (.ireturn, 1) := by decide +kernel
theorem dX9_readTree_67 : decode cX9_readTree 67 = .ok (.aload_n 0, 1) := by decide +kernel
theorem dX9_readTree_68 : decode cX9_readTree 68 = .ok (.getfield 130, 3) := by decide +kernel
theorem dX9_readTree_71 : decode cX9_readTree 71 = .ok (.bipush 41, 2) := by decide +kernel
theorem dX9_readTree_73 : decode cX9_readTree 73 = .ok (.if_icmp .ne 53, 3) := by decide +kernel
theorem dX9_readTree_76 : decode cX9_readTree 76 = .ok (.aload_n 0, 1) := by decide +kernel
theorem dX9_readTree_77 : decode cX9_readTree 77 = .ok (.getfield 170, 3) := by decide +kernel
theorem dX9_readTree_80 : decode cX9_readTree 80 = .ok (.iconst (-1), 1) := by decide +kernel
theorem dX9_readTree_81 : decode cX9_readTree 81 = .ok (.if_icmp .eq 45, 3) := by decide +kernel
theorem dX9_readTree_84 : decode cX9_readTree 84 = .ok (.aload_n 0, 1) := by decide +kernel
theorem dX9_readTree_85 : decode cX9_readTree 85 = .ok (.getfield 35, 3) := by decide +kernel
theorem dX9_readTree_88 : decode cX9_readTree 88 = .ok (.aload_n 0, 1) := by decide +kernel
theorem dX9_readTree_89 : decode cX9_readTree 89 = .ok (.aload_n 0, 1) := by decide +kernel
theorem dX9_readTree_90 : decode cX9_readTree 90 = .ok (.getfield 170, 3) := by decide +kernel
theorem dX9_readTree_93 : decode cX9_readTree 93 = .ok (.invokevirtual 167, 3) := by decide +kernel
theorem dX9_readTree_96 : decode cX9_readTree 96 = .ok (.iaload, 1) := by decide +kernel
theorem dX9_readTree_97 : decode cX9_readTree 97 = .ok (.ifCond .le 29, 3) := by decide +kernel
theorem dX9_readTree_100 : decode cX9_readTree 100 = .ok (.aload_n 0, 1) := by decide +kernel
theorem dX9_readTree_101 : decode cX9_readTree 101 = .ok (.aload_n 0, 1) := by decide +kernel
theorem dX9_readTree_102 : decode cX9_readTree 102 = .ok (.getfield 32, 3) := by decide +kernel
theorem dX9_readTree_105 : decode cX9_readTree 105 = .ok (.aload_n 0, 1) := by decide +kernel
theorem dX9_readTree_106 : decode cX9_readTree 106 = .ok (.aload_n 0, 1) := by decide +kernel
theorem dX9_readTree_107 : decode cX9_readTree 107 = .ok (.getfield 170, 3) := by decide +kernel
theorem dX9_readTree_110 : decode cX9_readTree 110 = .ok (.invokevirtual 167, 3) := by decide +kernel
theorem dX9_readTree_113 : decode cX9_readTree 113 = .ok (.iaload, 1) := by decide +kernel
theorem dX9_readTree_114 : decode cX9_readTree 114 = .ok (.putfield 170, 3) := by decide +kernel
theorem dX9_readTree_117 : decode cX9_readTree 117 = .ok (.aload_n 0, 1) := by decide +kernel
theorem dX9_readTree_118 : decode cX9_readTree 118 = .ok (.invokevirtual 144, 3) := by decide +kernel
theorem dX9_readTree_121 : decode cX9_readTree 121 = .ok (.ifCond .ne 10, 3) := by decide +kernel
theorem dX9_readTree_124 : decode cX9_readTree 124 = .ok (.iconst 0, 1) := by decide +kernel
theorem dX9_readTree_125 : decode cX9_readTree 125 = .ok (.ireturn, 1) := by decide +kernel
theorem dX9_readTree_126 : decode cX9_readTree 126 = .ok (.aload_n 0, 1) := by decide +kernel
theorem dX9_readTree_127 : decode cX9_readTree 127 = .ok (.invokevirtual 189, 3) := by decide +kernel
theorem dX9_readTree_130 : decode cX9_readTree 130 = .ok (.ireturn, 1) := by decide +kernel
theorem dX9_readTree_131 : decode cX9_readTree 131 = .ok (.aload_n 0, 1) := by decide +kernel
theorem dX9_readTree_132 : decode cX9_readTree 132 = .ok (.getfield 170, 3) := by decide +kernel
theorem dX9_readTree_135 : decode cX9_readTree 135 = .ok (.iconst (-1), 1) := by decide +kernel
theorem dX9_readTree_136 : decode cX9_readTree 136 = .ok (.if_icmp .eq 7, 3) := by decide +kernel
theorem dX9_readTree_139 : decode cX9_readTree 139 = .ok (.iconst 1, 1) := by decide +kernel
theorem dX9_readTree_140 : decode cX9_readTree 140 = .ok (.goto 4, 3) := by decide +kernel
theorem dX9_readTree_143 : decode cX9_readTree 143 = .ok (.iconst 0, 1) := by decide +kernel
theorem dX9_readTree_144 : decode cX9_readTree 144 = .ok (.istore_n 1, 1) := by decide +kernel
theorem dX9_readTree_145 : decode cX9_readTree 145 = .ok (.goto (-123), 3) := by decide +kernel
theorem dX9_readTree_148 : decode cX9_readTree 148 = .ok (.aload_n 0, 1) := by decide +kernel
theorem dX9_readTree_149 : decode cX9_readTree 149 = .ok (.getfield 130, 3) := by decide +kernel
theorem dX9_readTree_152 : decode cX9_readTree 152 = .ok (.ifCond .eq 10, 3) := by decide +kernel
theorem dX9_readTree_155 : decode cX9_readTree 155 = .ok (.aload_n 0, 1) := by decide +kernel
theorem dX9_readTree_156 : decode cX9_readTree 156 = .ok (.invokevirtual 189, 3) := by decide +kernel
theorem dX9_readTree_159 : decode cX9_readTree 159 = .ok (.ifCond .eq 7, 3) := by decide +kernel
theorem dX9_readTree_162 : decode cX9_readTree 162 = .ok (.iconst 1, 1) := by decide +kernel
theorem dX9_readTree_163 : decode cX9_readTree 163 = .ok (.goto 4, 3) := by decide +kernel
theorem dX9_readTree_166 : decode cX9_readTree 166 = .ok (.iconst 0, 1) := by decide +kernel
theorem dX9_readTree_167 : decode cX9_readTree 167 = .ok (.ireturn, 1) := by decide +kernel
theorem dX9_isGood_0 : decode cX9_isGood 0 = .ok (.aload_n 0, 1) := by decide +kernel
theorem dX9_isGood_1 : decode cX9_isGood 1 = .ok (.iconst 0, 1) := by decide +kernel
theorem dX9_isGood_2 : decode cX9_isGood 2 = .ok (.invokevirtual 167, 3) := by decide +kernel
theorem dX9_isGood_5 : decode cX9_isGood 5 = .ok (.istore_n 1, 1) := by decide +kernel
theorem dX9_isGood_6 : decode cX9_isGood 6 = .ok (.aload_n 0, 1) := by decide +kernel
theorem dX9_isGood_7 : decode cX9_isGood 7 = .ok (.getfield 26, 3) := by decide +kernel
theorem dX9_isGood_10 : decode cX9_isGood 10 = .ok (.iload_n 1, 1) := by decide +kernel
theorem dX9_isGood_11 : decode cX9_isGood 11 = .ok (.iaload, 1) := by decide +kernel
theorem dX9_isGood_12 : decode cX9_isGood 12 = .ok (.ifCond .eq 10, 3) := by decide +kernel
theorem dX9_isGood_15 : decode cX9_isGood 15 = .ok (.aload_n 0, 1) := by decide +kernel
theorem dX9_isGood_16 : decode cX9_isGood 16 = .ok (.iconst 4, 1) := by decide +kernel
theorem dX9_isGood_17 : decode cX9_isGood 17 = .ok (.iconst 0, 1) := by decide +kernel
theorem dX9_isGood_18 : decode cX9_isGood 18 = .ok (.invokevirtual 137, 3) := by decide +kernel
theorem dX9_isGood_21 : decode cX9_isGood 21 = .ok (.ireturn, 1) := by decide +kernel
theorem dX9_isGood_22 : decode cX9_isGood 22 = .ok (.aload_n 0, 1) := by decide +kernel
theorem dX9_isGood_23 : decode cX9_isGood 23 = .ok (.getfield 183, 3) := by decide +kernel
theorem dX9_isGood_26 : decode cX9_isGood 26 = .ok (.ifCond .lt 13, 3) := by decide +kernel
theorem dX9_isGood_29 : decode cX9_isGood 29 = .ok (.aload_n 0, 1) := by decide +kernel
theorem dX9_isGood_30 : decode cX9_isGood 30 = .ok (.iconst 5, 1) := by decide +kernel
theorem dX9_isGood_31 : decode cX9_isGood 31 = .ok (.aload_n 0, 1) := by decide +kernel
theorem dX9_isGood_32 : decode cX9_isGood 32 = .ok (.getfield 183, 3) := by decide +kernel
theorem dX9_isGood_35 : decode cX9_isGood 35 = .ok (.invokevirtual 137, 3) := by decide +kernel
theorem dX9_isGood_38 : decode cX9_isGood 38 = .ok (.ireturn, 1) := by decide +kernel
theorem dX9_isGood_39 : decode cX9_isGood 39 = .ok (.aload_n 0, 1) := by decide +kernel
theorem dX9_isGood_40 : decode cX9_isGood 40 = .ok (.getfield 180, 3) := by decide +kernel
theorem dX9_isGood_43 : decode cX9_isGood 43 = .ok (.iconst (-1), 1) := by decide +kernel
theorem dX9_isGood_44 : decode cX9_isGood 44 = .ok (.if_icmp .eq 36, 3) := by decide +kernel
theorem dX9_isGood_47 : decode cX9_isGood 47 = .ok (.aload_n 0, 1) := by decide +kernel
theorem dX9_isGood_48 : decode cX9_isGood 48 = .ok (.getfield 29, 3) := by decide +kernel
theorem dX9_isGood_51 : decode cX9_isGood 51 = .ok (.aload_n 0, 1) := by decide +kernel
theorem dX9_isGood_52 : decode cX9_isGood 52 = .ok (.aload_n 0, 1) := by decide +kernel
theorem dX9_isGood_53 : decode cX9_isGood 53 = .ok (.getfield 180, 3) := by decide +kernel
theorem dX9_isGood_56 : decode cX9_isGood 56 = .ok (.invokevirtual 167, 3) := by decide +kernel
theorem dX9_isGood_59 : decode cX9_isGood 59 = .ok (.iaload, 1) := by decide +kernel
theorem dX9_isGood_60 : decode cX9_isGood 60 = .ok (.aload_n 0, 1) := by decide +kernel
theorem dX9_isGood_61 : decode cX9_isGood 61 = .ok (.getfield 29, 3) := by decide +kernel
theorem dX9_isGood_64 : decode cX9_isGood 64 = .ok (.iload_n 1, 1) := by decide +kernel
theorem dX9_isGood_65 : decode cX9_isGood 65 = .ok (.iaload, 1) := by decide +kernel
theorem dX9_isGood_66 : decode cX9_isGood 66 = .ok (.if_icmp .eq 14, 3) := by decide +kernel
theorem dX9_isGood_69 : decode cX9_isGood 69 = .ok (.aload_n 0, 1) := by decide +kernel
theorem dX9_isGood_70 : decode cX9_isGood 70 = .ok (.bipush 6, 2) := by decide +kernel
theorem dX9_isGood_72 : decode cX9_isGood 72 = .ok (.aload_n 0, 1) := by decide +kernel
theorem dX9_isGood_73 : decode cX9_isGood 73 = .ok (.getfield 186, 3) := by decide +kernel
theorem dX9_isGood_76 : decode cX9_isGood 76 = .ok (.invokevirtual 137, 3) := by decide +kernel
theorem dX9_isGood_79 : decode cX9_isGood 79 = .ok (.ireturn, 1) := by decide +kernel
theorem dX9_isGood_80 : decode cX9_isGood 80 = .ok (.aload_n 0, 1) := by decide +kernel
theorem dX9_isGood_81 : decode cX9_isGood 81 = .ok (.getfield 51, 3) := by decide +kernel
theorem dX9_isGood_84 : decode cX9_isGood 84 = .ok (.iload_n 1, 1) := by decide +kernel
theorem dX9_isGood_85 : decode cX9_isGood 85 = .ok (.baload, 1) := by decide +kernel
theorem dX9_isGood_86 : decode cX9_isGood 86 = .ok (.ifCond .eq 30, 3) := by decide +kernel
theorem dX9_isGood_89 : decode cX9_isGood 89 = .ok (.aload_n 0, 1) := by decide +kernel
theorem dX9_isGood_90 : decode cX9_isGood 90 = .ok (.getfield 154, 3) := by decide +kernel
theorem dX9_isGood_93 : decode cX9_isGood 93 = .ok (.bipush 16, 2) := by decide +kernel
theorem dX9_isGood_95 : decode cX9_isGood 95 = .ok (.if_icmp .lt 13, 3) := by decide +kernel
theorem dX9_isGood_98 : decode cX9_isGood 98 = .ok (.aload_n 0, 1) := by decide +kernel
theorem dX9_isGood_99 : decode cX9_isGood 99 = .ok (.bipush 8, 2) := by decide +kernel
theorem dX9_isGood_101 : decode cX9_isGood 101 = .ok (.iconst 0, 1) := by decide +kernel
theorem dX9_isGood_102 : decode cX9_isGood 102 = .ok (.invokevirtual 137, 3) := by decide +kernel
theorem dX9_isGood_105 : decode cX9_isGood 105 = .ok (.ifCond .eq 7, 3) := by decide +kernel
theorem dX9_isGood_108 : decode cX9_isGood 108 = .ok (.iconst 1, 1) := by decide +kernel
theorem dX9_isGood_109 : decode cX9_isGood 109 = .ok (.goto 14, 3) := by decide +kernel
theorem dX9_isGood_112 : decode cX9_isGood 112 = .ok (.iconst 0, 1) := by decide +kernel
theorem dX9_isGood_113 : decode cX9_isGood 113 = .ok (.goto 10, 3) := by decide +kernel
theorem dX9_isGood_116 : decode cX9_isGood 116 = .ok (.aload_n 0, 1) := by decide +kernel
theorem dX9_isGood_117 : decode cX9_isGood 117 = .ok (.bipush 7, 2) := by decide +kernel
theorem dX9_isGood_119 : decode cX9_isGood 119 = .ok (.iconst 0, 1) := by decide +kernel
theorem dX9_isGood_120 : decode cX9_isGood 120 = .ok (.invokevirtual 137, 3) := by decide +kernel
theorem dX9_isGood_123 : decode cX9_isGood 123 = .ok (.ireturn, 1) := by decide +kernel
theorem dX9_look_0 : decode cX9_look 0 = .ok (.aload_n 0, 1) := by decide +kernel
theorem dX9_look_1 : decode cX9_look 1 = .ok (.getfield 157, 3) := by decide +kernel
theorem dX9_look_4 : decode cX9_look 4 = .ok (.iconst 1, 1) := by decide +kernel
theorem dX9_look_5 : decode cX9_look 5 = .ok (.isub, 1) := by decide +kernel
theorem dX9_look_6 : decode cX9_look 6 = .ok (.istore_n 1, 1) := by decide +kernel
theorem dX9_look_7 : decode cX9_look 7 = .ok (.iload_n 1, 1) := by decide +kernel
theorem dX9_look_8 : decode cX9_look 8 = .ok (.ifCond .lt 180, 3) := by decide +kernel
theorem dX9_look_11 : decode cX9_look 11 = .ok (.aload_n 0, 1) := by decide +kernel
theorem dX9_look_12 : decode cX9_look 12 = .ok (.iload_n 1, 1) := by decide +kernel
theorem dX9_look_13 : decode cX9_look 13 = .ok (.invokevirtual 167, 3) := by decide +kernel
theorem dX9_look_16 : decode cX9_look 16 = .ok (.istore_n 2, 1) := by decide +kernel
theorem dX9_look_17 : decode cX9_look 17 = .ok (.aload_n 0, 1) := by decide +kernel
theorem dX9_look_18 : decode cX9_look 18 = .ok (.getfield 44, 3) := by decide +kernel
theorem dX9_look_21 : decode cX9_look 21 = .ok (.iload_n 2, 1) := by decide +kernel
theorem dX9_look_22 : decode cX9_look 22 = .ok (.iaload, 1) := by decide +kernel
theorem dX9_look_23 : decode cX9_look 23 = .ok (.istore_n 3, 1) := by decide +kernel
theorem dX9_look_24 : decode cX9_look 24 = .ok (.aload_n 0, 1) := by decide +kernel
theorem dX9_look_25 : decode cX9_look 25 = .ok (.getfield 47, 3) := by decide +kernel
theorem dX9_look_28 : decode cX9_look 28 = .ok (.iload_n 2, 1) := by decide +kernel
theorem dX9_look_29 : decode cX9_look 29 = .ok (.aload_n 0, 1) := by decide +kernel
theorem dX9_look_30 : decode cX9_look 30 = .ok (.getfield 26, 3) := by decide +kernel
theorem dX9_look_33 : decode cX9_look 33 = .ok (.iload_n 2, 1) := by decide +kernel
theorem dX9_look_34 : decode cX9_look 34 = .ok (.iaload, 1) := by decide +kernel
theorem dX9_look_35 : decode cX9_look 35 = .ok (.iconst 2, 1) := by decide +kernel
theorem dX9_look_36 : decode cX9_look 36 = .ok (.if_icmp .eq 17, 3) := by decide +kernel
theorem dX9_look_39 : decode cX9_look 39 = .ok (.iload_n 3, 1) := by decide +kernel
theorem dX9_look_40 : decode cX9_look 40 = .ok (.iconst (-1), 1) := by decide +kernel
theorem dX9_look_41 : decode cX9_look 41 = .ok (.if_icmp .eq 16, 3) := by decide +kernel
theorem dX9_look_44 : decode cX9_look 44 = .ok (.aload_n 0, 1) := by decide +kernel
theorem dX9_look_45 : decode cX9_look 45 = .ok (.getfield 54, 3) := by decide +kernel
theorem dX9_look_48 : decode cX9_look 48 = .ok (.iload_n 3, 1) := by decide +kernel
theorem dX9_look_49 : decode cX9_look 49 = .ok (.baload, 1) := by decide +kernel
theorem dX9_look_50 : decode cX9_look 50 = .ok (.ifCond .eq 7, 3) := by decide +kernel
theorem dX9_look_53 : decode cX9_look 53 = .ok (.iconst 1, 1) := by decide +kernel
theorem dX9_look_54 : decode cX9_look 54 = .ok (.goto 4, 3) := by decide +kernel
theorem dX9_look_57 : decode cX9_look 57 = .ok (.iconst 0, 1) := by decide +kernel
theorem dX9_look_58 : decode cX9_look 58 = .ok (.bastore, 1) := by decide +kernel
theorem dX9_look_59 : decode cX9_look 59 = .ok (.aload_n 0, 1) := by decide +kernel
theorem dX9_look_60 : decode cX9_look 60 = .ok (.getfield 51, 3) := by decide +kernel
theorem dX9_look_63 : decode cX9_look 63 = .ok (.iload_n 2, 1) := by decide +kernel
theorem dX9_look_64 : decode cX9_look 64 = .ok (.aload_n 0, 1) := by decide +kernel
theorem dX9_look_65 : decode cX9_look 65 = .ok (.getfield 26, 3) := by decide +kernel
theorem dX9_look_68 : decode cX9_look 68 = .ok (.iload_n 2, 1) := by decide +kernel
theorem dX9_look_69 : decode cX9_look 69 = .ok (.iaload, 1) := by decide +kernel
theorem dX9_look_70 : decode cX9_look 70 = .ok (.iconst 3, 1) := by decide +kernel
theorem dX9_look_71 : decode cX9_look 71 = .ok (.if_icmp .eq 17, 3) := by decide +kernel
theorem dX9_look_74 : decode cX9_look 74 = .ok (.iload_n 3, 1) := by decide +kernel
theorem dX9_look_75 : decode cX9_look 75 = .ok (.iconst (-1), 1) := by decide +kernel
theorem dX9_look_76 : decode cX9_look 76 = .ok (.if_icmp .eq 16, 3) := by decide +kernel
theorem dX9_look_79 : decode cX9_look 79 = .ok (.aload_n 0, 1) := by decide +kernel
theorem dX9_look_80 : decode cX9_look 80 = .ok (.getfield 57, 3) := by decide +kernel
theorem dX9_look_83 : decode cX9_look 83 = .ok (.iload_n 3, 1) := by decide +kernel
theorem dX9_look_84 : decode cX9_look 84 = .ok (.baload, 1) := by decide +kernel
theorem dX9_look_85 : decode cX9_look 85 = .ok (.ifCond .eq 7, 3) := by decide +kernel
theorem dX9_look_88 : decode cX9_look 88 = .ok (.iconst 1, 1) := by decide +kernel
theorem dX9_look_89 : decode cX9_look 89 = .ok (.goto 4, 3) := by decide +kernel
theorem dX9_look_92 : decode cX9_look 92 = .ok (.iconst 0, 1) := by decide +kernel
theorem dX9_look_93 : decode cX9_look 93 = .ok (.bastore, 1) := by decide +kernel
theorem dX9_look_94 : decode cX9_look 94 = .ok (.aload_n 0, 1) := by decide +kernel
theorem dX9_look_95 : decode cX9_look 95 = .ok (.getfield 54, 3) := by decide +kernel
theorem dX9_look_98 : decode cX9_look 98 = .ok (.iload_n 2, 1) := by decide +kernel
theorem dX9_look_99 : decode cX9_look 99 = .ok (.aload_n 0, 1) := by decide +kernel
theorem dX9_look_100 : decode cX9_look 100 = .ok (.getfield 47, 3) := by decide +kernel
theorem dX9_look_103 : decode cX9_look 103 = .ok (.iload_n 2, 1) := by decide +kernel
theorem dX9_look_104 : decode cX9_look 104 = .ok (.baload, 1) := by decide +kernel
theorem dX9_look_105 : decode cX9_look 105 = .ok (.ifCond .ne 27, 3) := by decide +kernel
theorem dX9_look_108 : decode cX9_look 108 = .ok (.aload_n 0, 1) := by decide +kernel
theorem dX9_look_109 : decode cX9_look 109 = .ok (.getfield 41, 3) := by decide +kernel
theorem dX9_look_112 : decode cX9_look 112 = .ok (.iload_n 2, 1) := by decide +kernel
theorem dX9_look_113 : decode cX9_look 113 = .ok (.iaload, 1) := by decide +kernel
theorem dX9_look_114 : decode cX9_look 114 = .ok (.iconst (-1), 1) := by decide +kernel
theorem dX9_look_115 : decode cX9_look 115 = .ok (.if_icmp .eq 21, 3) := by decide +kernel
theorem dX9_look_118 : decode cX9_look 118 = .ok (.aload_n 0, 1) := by decide +kernel
theorem dX9_look_119 : decode cX9_look 119 = .ok (.getfield 54, 3) := by decide +kernel
theorem dX9_look_122 : decode cX9_look 122 = .ok (.aload_n 0, 1) := by decide +kernel
theorem dX9_look_123 : decode cX9_look 123 = .ok (.getfield 41, 3) := by decide +kernel
theorem dX9_look_126 : decode cX9_look 126 = .ok (.iload_n 2, 1) := by decide +kernel
theorem dX9_look_127 : decode cX9_look 127 = .ok (.iaload, 1) := by decide +kernel
theorem dX9_look_128 : decode cX9_look 128 = .ok (.baload, 1) := by decide +kernel
theorem dX9_look_129 : decode cX9_look 129 = .ok (.ifCond .eq 7, 3) := by decide +kernel
theorem dX9_look_132 : decode cX9_look 132 = .ok (.iconst 1, 1) := by decide +kernel
theorem dX9_look_133 : decode cX9_look 133 = .ok (.goto 4, 3) := by decide +kernel
theorem dX9_look_136 : decode cX9_look 136 = .ok (.iconst 0, 1) := by decide +kernel
theorem dX9_look_137 : decode cX9_look 137 = .ok (.bastore, 1) := by decide +kernel
theorem dX9_look_138 : decode cX9_look 138 = .ok (.aload_n 0, 1) := by decide +kernel
theorem dX9_look_139 : decode cX9_look 139 = .ok (.getfield 57, 3) := by decide +kernel
theorem dX9_look_142 : decode cX9_look 142 = .ok (.iload_n 2, 1) := by decide +kernel
theorem dX9_look_143 : decode cX9_look 143 = .ok (.aload_n 0, 1) := by decide +kernel
theorem dX9_look_144 : decode cX9_look 144 = .ok (.getfield 51, 3) := by decide +kernel
theorem dX9_look_147 : decode cX9_look 147 = .ok (.iload_n 2, 1) := by decide +kernel
theorem dX9_look_148 : decode cX9_look 148 = .ok (.baload, 1) := by decide +kernel
theorem dX9_look_149 : decode cX9_look 149 = .ok (.ifCond .ne 27, 3) := by decide +kernel
theorem dX9_look_152 : decode cX9_look 152 = .ok (.aload_n 0, 1) := by decide +kernel
theorem dX9_look_153 : decode cX9_look 153 = .ok (.getfield 41, 3) := by decide +kernel
theorem dX9_look_156 : decode cX9_look 156 = .ok (.iload_n 2, 1) := by decide +kernel
theorem dX9_look_157 : decode cX9_look 157 = .ok (.iaload, 1) := by decide +kernel
theorem dX9_look_158 : decode cX9_look 158 = .ok (.iconst (-1), 1) := by decide +kernel
theorem dX9_look_159 : decode cX9_look 159 = .ok (.if_icmp .eq 21, 3) := by decide +kernel
theorem dX9_look_162 : decode cX9_look 162 = .ok (.aload_n 0, 1) := by decide +kernel
theorem dX9_look_163 : decode cX9_look 163 = .ok (.getfield 57, 3) := by decide +kernel
theorem dX9_look_166 : decode cX9_look 166 = .ok (.aload_n 0, 1) := by decide +kernel
theorem dX9_look_167 : decode cX9_look 167 = .ok (.getfield 41, 3) := by decide +kernel
theorem dX9_look_170 : decode cX9_look 170 = .ok (.iload_n 2, 1) := by decide +kernel
theorem dX9_look_171 : decode cX9_look 171 = .ok (.iaload, 1) := by decide +kernel
theorem dX9_look_172 : decode cX9_look 172 = .ok (.baload, 1) := by decide +kernel
theorem dX9_look_173 : decode cX9_look 173 = .ok (.ifCond .eq 7, 3) := by decide +kernel
theorem dX9_look_176 : decode cX9_look 176 = .ok (.iconst 1, 1) := by decide +kernel
theorem dX9_look_177 : decode cX9_look 177 = .ok (.goto 4, 3) := by decide +kernel
theorem dX9_look_180 : decode cX9_look 180 = .ok (.iconst 0, 1) := by decide +kernel
theorem dX9_look_181 : decode cX9_look 181 = .ok (.bastore, 1) := by decide +kernel
theorem dX9_look_182 : decode cX9_look 182 = .ok (.iinc 1 (-1), 3) := by decide +kernel
theorem dX9_look_185 : decode cX9_look 185 = .ok (.goto (-178), 3) := by decide +kernel
theorem dX9_look_188 : decode cX9_look 188 = .ok (.return_, 1) := by decide +kernel
theorem dX9_tree_0 : decode cX9_tree 0 = .ok (.aload_n 0, 1) := by decide +kernel
theorem dX9_tree_1 : decode cX9_tree 1 = .ok (.iconst 0, 1) := by decide +kernel
theorem dX9_tree_2 : decode cX9_tree 2 = .ok (.putfield 107, 3) := by decide +kernel
theorem dX9_tree_5 : decode cX9_tree 5 = .ok (.aload_n 0, 1) := by decide +kernel
theorem dX9_tree_6 : decode cX9_tree 6 = .ok (.getfield 148, 3) := by decide +kernel
theorem dX9_tree_9 : decode cX9_tree 9 = .ok (.istore_n 1, 1) := by decide +kernel
theorem dX9_tree_10 : decode cX9_tree 10 = .ok (.aload_n 0, 1) := by decide +kernel
theorem dX9_tree_11 : decode cX9_tree 11 = .ok (.getfield 151, 3) := by decide +kernel
theorem dX9_tree_14 : decode cX9_tree 14 = .ok (.istore_n 2, 1) := by decide +kernel
theorem dX9_tree_15 : decode cX9_tree 15 = .ok (.aload_n 0, 1) := by decide +kernel
theorem dX9_tree_16 : decode cX9_tree 16 = .ok (.invokevirtual 195, 3) := by decide +kernel
theorem dX9_tree_19 : decode cX9_tree 19 = .ok (.ifCond .eq 14, 3) := by decide +kernel
theorem dX9_tree_22 : decode cX9_tree 22 = .ok (.aload_n 0, 1) := by decide +kernel
theorem dX9_tree_23 : decode cX9_tree 23 = .ok (.invokevirtual 198, 3) := by decide +kernel
theorem dX9_tree_26 : decode cX9_tree 26 = .ok (.ifCond .eq 7, 3) := by decide +kernel
theorem dX9_tree_29 : decode cX9_tree 29 = .ok (.iconst 1, 1) := by decide +kernel
theorem dX9_tree_30 : decode cX9_tree 30 = .ok (.goto 4, 3) := by decide +kernel
theorem dX9_tree_33 : decode cX9_tree 33 = .ok (.iconst 0, 1) := by decide +kernel
theorem dX9_tree_34 : decode cX9_tree 34 = .ok (.istore_n 3, 1) := by decide +kernel
theorem dX9_tree_35 : decode cX9_tree 35 = .ok (.iload_n 3, 1) := by decide +kernel
theorem dX9_tree_36 : decode cX9_tree 36 = .ok (.ifCond .eq 12, 3) := by decide +kernel
theorem dX9_tree_39 : decode cX9_tree 39 = .ok (.aload_n 0, 1) := by decide +kernel
theorem dX9_tree_40 : decode cX9_tree 40 = .ok (.invokevirtual 201, 3) := by decide +kernel
theorem dX9_tree_43 : decode cX9_tree 43 = .ok (.aload_n 0, 1) := by decide +kernel
theorem dX9_tree_44 : decode cX9_tree 44 = .ok (.invokevirtual 204, 3) := by decide +kernel
theorem dX9_tree_47 : decode cX9_tree 47 = .ok (.istore_n 3, 1) := by decide +kernel
theorem dX9_tree_48 : decode cX9_tree 48 = .ok (.aload_n 0, 1) := by decide +kernel
theorem dX9_tree_49 : decode cX9_tree 49 = .ok (.iconst 0, 1) := by decide +kernel
theorem dX9_tree_50 : decode cX9_tree 50 = .ok (.putfield 111, 3) := by decide +kernel
theorem dX9_tree_53 : decode cX9_tree 53 = .ok (.iload_n 3, 1) := by decide +kernel
theorem dX9_tree_54 : decode cX9_tree 54 = .ok (.ifCond .ne 20, 3) := by decide +kernel
theorem dX9_tree_57 : decode cX9_tree 57 = .ok (.aload_n 0, 1) := by decide +kernel
theorem dX9_tree_58 : decode cX9_tree 58 = .ok (.iload_n 1, 1) := by decide +kernel
theorem dX9_tree_59 : decode cX9_tree 59 = .ok (.putfield 148, 3) := by decide +kernel
theorem dX9_tree_62 : decode cX9_tree 62 = .ok (.aload_n 0, 1) := by decide +kernel
theorem dX9_tree_63 : decode cX9_tree 63 = .ok (.iload_n 2, 1) := by decide +kernel
theorem dX9_tree_64 : decode cX9_tree 64 = .ok (.putfield 151, 3) := by decide +kernel
theorem dX9_tree_67 : decode cX9_tree 67 = .ok (.iconst (-1), 1) := by decide +kernel
theorem dX9_tree_68 : decode cX9_tree 68 = .ok (.aload_n 0, 1) := by decide +kernel
theorem dX9_tree_69 : decode cX9_tree 69 = .ok (.getfield 117, 3) := by decide +kernel
theorem dX9_tree_72 : decode cX9_tree 72 = .ok (.isub, 1) := by decide +kernel
theorem dX9_tree_73 : decode cX9_tree 73 = .ok (.ireturn, 1) := by decide +kernel
theorem dX9_tree_74 : decode cX9_tree 74 = .ok (.aload_n 0, 1) := by decide +kernel
theorem dX9_tree_75 : decode cX9_tree 75 = .ok (.getfield 60, 3) := by decide +kernel
theorem dX9_tree_78 : decode cX9_tree 78 = .ok (.aload_n 0, 1) := by decide +kernel
theorem dX9_tree_79 : decode cX9_tree 79 = .ok (.getfield 154, 3) := by decide +kernel
theorem dX9_tree_82 : decode cX9_tree 82 = .ok (.aload_n 0, 1) := by decide +kernel
theorem dX9_tree_83 : decode cX9_tree 83 = .ok (.getfield 157, 3) := by decide +kernel
theorem dX9_tree_86 : decode cX9_tree 86 = .ok (.iastore, 1) := by decide +kernel
theorem dX9_tree_87 : decode cX9_tree 87 = .ok (.aload_n 0, 1) := by decide +kernel
theorem dX9_tree_88 : decode cX9_tree 88 = .ok (.dup, 1) := by decide +kernel
theorem dX9_tree_89 : decode cX9_tree 89 = .ok (.getfield 154, 3) := by decide +kernel
theorem dX9_tree_92 : decode cX9_tree 92 = .ok (.iconst 1, 1) := by decide +kernel
theorem dX9_tree_93 : decode cX9_tree 93 = .ok (.iadd, 1) := by decide +kernel
theorem dX9_tree_94 : decode cX9_tree 94 = .ok (.putfield 154, 3) := by decide +kernel
theorem dX9_tree_97 : decode cX9_tree 97 = .ok (.aload_n 0, 1) := by decide +kernel
theorem dX9_tree_98 : decode cX9_tree 98 = .ok (.invokevirtual 207, 3) := by decide +kernel
theorem dX9_tree_101 : decode cX9_tree 101 = .ok (.aload_n 0, 1) := by decide +kernel
theorem dX9_tree_102 : decode cX9_tree 102 = .ok (.getfield 154, 3) := by decide +kernel
theorem dX9_tree_105 : decode cX9_tree 105 = .ok (.iconst 1, 1) := by decide +kernel
theorem dX9_tree_106 : decode cX9_tree 106 = .ok (.isub, 1) := by decide +kernel
theorem dX9_tree_107 : decode cX9_tree 107 = .ok (.ireturn, 1) := by decide +kernel
theorem dX9_clear_0 : decode cX9_clear 0 = .ok (.aload_n 0, 1) := by decide +kernel
theorem dX9_clear_1 : decode cX9_clear 1 = .ok (.iconst 0, 1) := by decide +kernel
theorem dX9_clear_2 : decode cX9_clear 2 = .ok (.putfield 107, 3) := by decide +kernel
theorem dX9_clear_5 : decode cX9_clear 5 = .ok (.aload_n 0, 1) := by decide +kernel
theorem dX9_clear_6 : decode cX9_clear 6 = .ok (.getfield 154, 3) := by decide +kernel
theorem dX9_clear_9 : decode cX9_clear 9 = .ok (.istore_n 1, 1) := by decide +kernel
theorem dX9_clear_10 : decode cX9_clear 10 = .ok (.aload_n 0, 1) := by decide +kernel
theorem dX9_clear_11 : decode cX9_clear 11 = .ok (.iconst 0, 1) := by decide +kernel
theorem dX9_clear_12 : decode cX9_clear 12 = .ok (.putfield 154, 3) := by decide +kernel
theorem dX9_clear_15 : decode cX9_clear 15 = .ok (.aload_n 0, 1) := by decide +kernel
theorem dX9_clear_16 : decode cX9_clear 16 = .ok (.iconst 0, 1) := by decide +kernel
theorem dX9_clear_17 : decode cX9_clear 17 = .ok (.putfield 148, 3) := by decide +kernel
theorem dX9_clear_20 : decode cX9_clear 20 = .ok (.aload_n 0, 1) := by decide +kernel
theorem dX9_clear_21 : decode cX9_clear 21 = .ok (.iconst 0, 1) := by decide +kernel
theorem dX9_clear_22 : decode cX9_clear 22 = .ok (.putfield 151, 3) := by decide +kernel
theorem dX9_clear_25 : decode cX9_clear 25 = .ok (.aload_n 0, 1) := by decide +kernel
theorem dX9_clear_26 : decode cX9_clear 26 = .ok (.invokevirtual 207, 3) := by decide +kernel
theorem dX9_clear_29 : decode cX9_clear 29 = .ok (.iload_n 1, 1) := by decide +kernel
theorem dX9_clear_30 : decode cX9_clear 30 = .ok (.ireturn, 1) := by decide +kernel
theorem dX9_forget_0 : decode cX9_forget 0 = .ok (.aload_n 0, 1) := by decide +kernel
theorem dX9_forget_1 : decode cX9_forget 1 = .ok (.iconst 0, 1) := by decide +kernel
theorem dX9_forget_2 : decode cX9_forget 2 = .ok (.putfield 210, 3) := by decide +kernel
theorem dX9_forget_5 : decode cX9_forget 5 = .ok (.aload_n 0, 1) := by decide +kernel
theorem dX9_forget_6 : decode cX9_forget 6 = .ok (.ldc2_w 69, 3) := by decide +kernel

theorem dX4_init_0 : decode cX4_init 0 = .ok (.aload_n 0, 1) := by decide +kernel
theorem dX4_init_1 : decode cX4_init 1 = .ok (.invokespecial 3, 3) := by decide +kernel
theorem dX4_init_4 : decode cX4_init 4 = .ok (.aload_n 0, 1) := by decide +kernel
theorem dX4_init_5 : decode cX4_init 5 = .ok (.sipush 1000, 3) := by decide +kernel
theorem dX4_init_8 : decode cX4_init 8 = .ok (.newarray .int, 2) := by decide +kernel
theorem dX4_init_10 : decode cX4_init 10 = .ok (.putfield 9, 3) := by decide +kernel
theorem dX4_init_13 : decode cX4_init 13 = .ok (.return_, 1) := by decide +kernel
theorem dX4_append_0 : decode cX4_append 0 = .ok (.bipush 24, 2) := by decide +kernel
theorem dX4_append_2 : decode cX4_append 2 = .ok (.istore_n 2, 1) := by decide +kernel
theorem dX4_append_3 : decode cX4_append 3 = .ok (.iload_n 2, 1) := by decide +kernel
theorem dX4_append_4 : decode cX4_append 4 = .ok (.ifCond .lt 45, 3) := by decide +kernel
theorem dX4_append_7 : decode cX4_append 7 = .ok (.aload_n 0, 1) := by decide +kernel
theorem dX4_append_8 : decode cX4_append 8 = .ok (.getfield 15, 3) := by decide +kernel
theorem dX4_append_11 : decode cX4_append 11 = .ok (.sipush 1000, 3) := by decide +kernel
theorem dX4_append_14 : decode cX4_append 14 = .ok (.if_icmp .ge 35, 3) := by decide +kernel
theorem dX4_append_17 : decode cX4_append 17 = .ok (.aload_n 0, 1) := by decide +kernel
theorem dX4_append_18 : decode cX4_append 18 = .ok (.getfield 9, 3) := by decide +kernel
theorem dX4_append_21 : decode cX4_append 21 = .ok (.aload_n 0, 1) := by decide +kernel
theorem dX4_append_22 : decode cX4_append 22 = .ok (.getfield 15, 3) := by decide +kernel
theorem dX4_append_25 : decode cX4_append 25 = .ok (.iload_n 1, 1) := by decide +kernel
theorem dX4_append_26 : decode cX4_append 26 = .ok (.iload_n 2, 1) := by decide +kernel
theorem dX4_append_27 : decode cX4_append 27 = .ok (.iushr, 1) := by decide +kernel
theorem dX4_append_28 : decode cX4_append 28 = .ok (.sipush 255, 3) := by decide +kernel
theorem dX4_append_31 : decode cX4_append 31 = .ok (.iand, 1) := by decide +kernel
theorem dX4_append_32 : decode cX4_append 32 = .ok (.iastore, 1) := by decide +kernel
theorem dX4_append_33 : decode cX4_append 33 = .ok (.aload_n 0, 1) := by decide +kernel
theorem dX4_append_34 : decode cX4_append 34 = .ok (.dup, 1) := by decide +kernel
theorem dX4_append_35 : decode cX4_append 35 = .ok (.getfield 15, 3) := by decide +kernel
theorem dX4_append_38 : decode cX4_append 38 = .ok (.iconst 1, 1) := by decide +kernel
theorem dX4_append_39 : decode cX4_append 39 = .ok (.iadd, 1) := by decide +kernel
theorem dX4_append_40 : decode cX4_append 40 = .ok (.putfield 15, 3) := by decide +kernel
theorem dX4_append_43 : decode cX4_append 43 = .ok (.iinc 2 (-8), 3) := by decide +kernel
theorem dX4_append_46 : decode cX4_append 46 = .ok (.goto (-43), 3) := by decide +kernel
theorem dX4_append_49 : decode cX4_append 49 = .ok (.return_, 1) := by decide +kernel
theorem dX4_rewind_0 : decode cX4_rewind 0 = .ok (.aload_n 0, 1) := by decide +kernel
theorem dX4_rewind_1 : decode cX4_rewind 1 = .ok (.iconst 0, 1) := by decide +kernel
theorem dX4_rewind_2 : decode cX4_rewind 2 = .ok (.putfield 19, 3) := by decide +kernel
theorem dX4_rewind_5 : decode cX4_rewind 5 = .ok (.return_, 1) := by decide +kernel
theorem dX4_advance_0 : decode cX4_advance 0 = .ok (.aload_n 0, 1) := by decide +kernel
theorem dX4_advance_1 : decode cX4_advance 1 = .ok (.invokevirtual 22, 3) := by decide +kernel
theorem dX4_advance_4 : decode cX4_advance 4 = .ok (.aload_n 0, 1) := by decide +kernel
theorem dX4_advance_5 : decode cX4_advance 5 = .ok (.aload_n 0, 1) := by decide +kernel
theorem dX4_advance_6 : decode cX4_advance 6 = .ok (.getfield 19, 3) := by decide +kernel
theorem dX4_advance_9 : decode cX4_advance 9 = .ok (.putfield 25, 3) := by decide +kernel
theorem dX4_advance_12 : decode cX4_advance 12 = .ok (.aload_n 0, 1) := by decide +kernel
theorem dX4_advance_13 : decode cX4_advance 13 = .ok (.getfield 25, 3) := by decide +kernel
theorem dX4_advance_16 : decode cX4_advance 16 = .ok (.aload_n 0, 1) := by decide +kernel
theorem dX4_advance_17 : decode cX4_advance 17 = .ok (.getfield 15, 3) := by decide +kernel
theorem dX4_advance_20 : decode cX4_advance 20 = .ok (.if_icmp .lt 9, 3) := by decide +kernel
theorem dX4_advance_23 : decode cX4_advance 23 = .ok (.aload_n 0, 1) := by decide +kernel
theorem dX4_advance_24 : decode cX4_advance 24 = .ok (.iconst 0, 1) := by decide +kernel
theorem dX4_advance_25 : decode cX4_advance 25 = .ok (.putfield 28, 3) := by decide +kernel
theorem dX4_advance_28 : decode cX4_advance 28 = .ok (.return_, 1) := by decide +kernel
theorem dX4_advance_29 : decode cX4_advance 29 = .ok (.aload_n 0, 1) := by decide +kernel
theorem dX4_advance_30 : decode cX4_advance 30 = .ok (.getfield 9, 3) := by decide +kernel
theorem dX4_advance_33 : decode cX4_advance 33 = .ok (.aload_n 0, 1) := by decide +kernel
theorem dX4_advance_34 : decode cX4_advance 34 = .ok (.getfield 25, 3) := by decide +kernel
theorem dX4_advance_37 : decode cX4_advance 37 = .ok (.iaload, 1) := by decide +kernel
theorem dX4_advance_38 : decode cX4_advance 38 = .ok (.istore_n 1, 1) := by decide +kernel
theorem dX4_advance_39 : decode cX4_advance 39 = .ok (.aload_n 0, 1) := by decide +kernel
theorem dX4_advance_40 : decode cX4_advance 40 = .ok (.dup, 1) := by decide +kernel
theorem dX4_advance_41 : decode cX4_advance 41 = .ok (.getfield 19, 3) := by decide +kernel
theorem dX4_advance_44 : decode cX4_advance 44 = .ok (.iconst 1, 1) := by decide +kernel
theorem dX4_advance_45 : decode cX4_advance 45 = .ok (.iadd, 1) := by decide +kernel
theorem dX4_advance_46 : decode cX4_advance 46 = .ok (.putfield 19, 3) := by decide +kernel
theorem dX4_advance_49 : decode cX4_advance 49 = .ok (.iload_n 1, 1) := by decide +kernel
theorem dX4_advance_50 : decode cX4_advance 50 = .ok (.invokestatic 31, 3) := by decide +kernel
theorem dX4_advance_53 : decode cX4_advance 53 = .ok (.ifCond .eq 10, 3) := by decide +kernel
theorem dX4_advance_56 : decode cX4_advance 56 = .ok (.aload_n 0, 1) := by decide +kernel
theorem dX4_advance_57 : decode cX4_advance 57 = .ok (.invokevirtual 35, 3) := by decide +kernel
theorem dX4_advance_60 : decode cX4_advance 60 = .ok (.goto 33, 3) := by decide +kernel
theorem dX4_advance_63 : decode cX4_advance 63 = .ok (.iload_n 1, 1) := by decide +kernel
theorem dX4_advance_64 : decode cX4_advance 64 = .ok (.invokestatic 38, 3) := by decide +kernel
theorem dX4_advance_67 : decode cX4_advance 67 = .ok (.ifCond .eq 10, 3) := by decide +kernel
theorem dX4_advance_70 : decode cX4_advance 70 = .ok (.aload_n 0, 1) := by decide +kernel
theorem dX4_advance_71 : decode cX4_advance 71 = .ok (.invokevirtual 41, 3) := by decide +kernel
theorem dX4_advance_74 : decode cX4_advance 74 = .ok (.goto 19, 3) := by decide +kernel
theorem dX4_advance_77 : decode cX4_advance 77 = .ok (.aload_n 0, 1) := by decide +kernel
theorem dX4_advance_78 : decode cX4_advance 78 = .ok (.iload_n 1, 1) := by decide +kernel
theorem dX4_advance_79 : decode cX4_advance 79 = .ok (.invokestatic 44, 3) := by decide +kernel
theorem dX4_advance_82 : decode cX4_advance 82 = .ok (.ifCond .eq 7, 3) := by decide +kernel
theorem dX4_advance_85 : decode cX4_advance 85 = .ok (.iconst 4, 1) := by decide +kernel
theorem dX4_advance_86 : decode cX4_advance 86 = .ok (.goto 4, 3) := by decide +kernel
theorem dX4_advance_89 : decode cX4_advance 89 = .ok (.iconst 1, 1) := by decide +kernel
theorem dX4_advance_90 : decode cX4_advance 90 = .ok (.putfield 28, 3) := by decide +kernel
theorem dX4_advance_93 : decode cX4_advance 93 = .ok (.return_, 1) := by decide +kernel
theorem dX4_misplaced_0 : decode cX4_misplaced 0 = .ok (.aload_n 0, 1) := by decide +kernel
theorem dX4_misplaced_1 : decode cX4_misplaced 1 = .ok (.getfield 28, 3) := by decide +kernel
theorem dX4_misplaced_4 : decode cX4_misplaced 4 = .ok (.iconst 1, 1) := by decide +kernel
theorem dX4_misplaced_5 : decode cX4_misplaced 5 = .ok (.if_icmp .ne 7, 3) := by decide +kernel
theorem dX4_misplaced_8 : decode cX4_misplaced 8 = .ok (.iconst 1, 1) := by decide +kernel
theorem dX4_misplaced_9 : decode cX4_misplaced 9 = .ok (.goto 4, 3) := by decide +kernel
theorem dX4_misplaced_12 : decode cX4_misplaced 12 = .ok (.iconst 2, 1) := by decide +kernel
theorem dX4_misplaced_13 : decode cX4_misplaced 13 = .ok (.ireturn, 1) := by decide +kernel
theorem dX4_isAt_0 : decode cX4_isAt 0 = .ok (.aload_n 0, 1) := by decide +kernel
theorem dX4_isAt_1 : decode cX4_isAt 1 = .ok (.getfield 28, 3) := by decide +kernel
theorem dX4_isAt_4 : decode cX4_isAt 4 = .ok (.iconst 4, 1) := by decide +kernel
theorem dX4_isAt_5 : decode cX4_isAt 5 = .ok (.if_icmp .ne 20, 3) := by decide +kernel
theorem dX4_isAt_8 : decode cX4_isAt 8 = .ok (.aload_n 0, 1) := by decide +kernel
theorem dX4_isAt_9 : decode cX4_isAt 9 = .ok (.getfield 9, 3) := by decide +kernel
theorem dX4_isAt_12 : decode cX4_isAt 12 = .ok (.aload_n 0, 1) := by decide +kernel
theorem dX4_isAt_13 : decode cX4_isAt 13 = .ok (.getfield 25, 3) := by decide +kernel
theorem dX4_isAt_16 : decode cX4_isAt 16 = .ok (.iaload, 1) := by decide +kernel
theorem dX4_isAt_17 : decode cX4_isAt 17 = .ok (.iload_n 1, 1) := by decide +kernel
theorem dX4_isAt_18 : decode cX4_isAt 18 = .ok (.if_icmp .ne 7, 3) := by decide +kernel
theorem dX4_isAt_21 : decode cX4_isAt 21 = .ok (.iconst 1, 1) := by decide +kernel
theorem dX4_isAt_22 : decode cX4_isAt 22 = .ok (.goto 4, 3) := by decide +kernel
theorem dX4_isAt_25 : decode cX4_isAt 25 = .ok (.iconst 0, 1) := by decide +kernel
theorem dX4_isAt_26 : decode cX4_isAt 26 = .ok (.ireturn, 1) := by decide +kernel
theorem dX4_skipBlanks_0 : decode cX4_skipBlanks 0 = .ok (.aload_n 0, 1) := by decide +kernel
theorem dX4_skipBlanks_1 : decode cX4_skipBlanks 1 = .ok (.getfield 19, 3) := by decide +kernel
theorem dX4_skipBlanks_4 : decode cX4_skipBlanks 4 = .ok (.aload_n 0, 1) := by decide +kernel
theorem dX4_skipBlanks_5 : decode cX4_skipBlanks 5 = .ok (.getfield 15, 3) := by decide +kernel
theorem dX4_skipBlanks_8 : decode cX4_skipBlanks 8 = .ok (.if_icmp .ge 31, 3) := by decide +kernel
theorem dX4_skipBlanks_11 : decode cX4_skipBlanks 11 = .ok (.aload_n 0, 1) := by decide +kernel
theorem dX4_skipBlanks_12 : decode cX4_skipBlanks 12 = .ok (.getfield 9, 3) := by decide +kernel
theorem dX4_skipBlanks_15 : decode cX4_skipBlanks 15 = .ok (.aload_n 0, 1) := by decide +kernel
theorem dX4_skipBlanks_16 : decode cX4_skipBlanks 16 = .ok (.getfield 19, 3) := by decide +kernel
theorem dX4_skipBlanks_19 : decode cX4_skipBlanks 19 = .ok (.iaload, 1) := by decide +kernel
theorem dX4_skipBlanks_20 : decode cX4_skipBlanks 20 = .ok (.invokestatic 47, 3) := by decide +kernel
theorem dX4_skipBlanks_23 : decode cX4_skipBlanks 23 = .ok (.ifCond .eq 16, 3) := by decide +kernel
theorem dX4_skipBlanks_26 : decode cX4_skipBlanks 26 = .ok (.aload_n 0, 1) := by decide +kernel
theorem dX4_skipBlanks_27 : decode cX4_skipBlanks 27 = .ok (.dup, 1) := by decide +kernel
theorem dX4_skipBlanks_28 : decode cX4_skipBlanks 28 = .ok (.getfield 19, 3) := by decide +kernel
theorem dX4_skipBlanks_31 : decode cX4_skipBlanks 31 = .ok (.iconst 1, 1) := by decide +kernel
theorem dX4_skipBlanks_32 : decode cX4_skipBlanks 32 = .ok (.iadd, 1) := by decide +kernel
theorem dX4_skipBlanks_33 : decode cX4_skipBlanks 33 = .ok (.putfield 19, 3) := by decide +kernel
theorem dX4_skipBlanks_36 : decode cX4_skipBlanks 36 = .ok (.goto (-36), 3) := by decide +kernel
theorem dX4_skipBlanks_39 : decode cX4_skipBlanks 39 = .ok (.return_, 1) := by decide +kernel
theorem dX4_takeLabel_0 : decode cX4_takeLabel 0 = .ok (.aload_n 0, 1) := by decide +kernel
theorem dX4_takeLabel_1 : decode cX4_takeLabel 1 = .ok (.getfield 19, 3) := by decide +kernel
theorem dX4_takeLabel_4 : decode cX4_takeLabel 4 = .ok (.aload_n 0, 1) := by decide +kernel
theorem dX4_takeLabel_5 : decode cX4_takeLabel 5 = .ok (.getfield 15, 3) := by decide +kernel
theorem dX4_takeLabel_8 : decode cX4_takeLabel 8 = .ok (.if_icmp .ge 46, 3) := by decide +kernel
theorem dX4_takeLabel_11 : decode cX4_takeLabel 11 = .ok (.aload_n 0, 1) := by decide +kernel
theorem dX4_takeLabel_12 : decode cX4_takeLabel 12 = .ok (.getfield 9, 3) := by decide +kernel
theorem dX4_takeLabel_15 : decode cX4_takeLabel 15 = .ok (.aload_n 0, 1) := by decide +kernel
theorem dX4_takeLabel_16 : decode cX4_takeLabel 16 = .ok (.getfield 19, 3) := by decide +kernel
theorem dX4_takeLabel_19 : decode cX4_takeLabel 19 = .ok (.iaload, 1) := by decide +kernel
theorem dX4_takeLabel_20 : decode cX4_takeLabel 20 = .ok (.invokestatic 31, 3) := by decide +kernel
theorem dX4_takeLabel_23 : decode cX4_takeLabel 23 = .ok (.ifCond .ne 18, 3) := by decide +kernel
theorem dX4_takeLabel_26 : decode cX4_takeLabel 26 = .ok (.aload_n 0, 1) := by decide +kernel
theorem dX4_takeLabel_27 : decode cX4_takeLabel 27 = .ok (.getfield 9, 3) := by decide +kernel
theorem dX4_takeLabel_30 : decode cX4_takeLabel 30 = .ok (.aload_n 0, 1) := by decide +kernel
theorem dX4_takeLabel_31 : decode cX4_takeLabel 31 = .ok (.getfield 19, 3) := by decide +kernel
theorem dX4_takeLabel_34 : decode cX4_takeLabel 34 = .ok (.iaload, 1) := by decide +kernel
theorem dX4_takeLabel_35 : decode cX4_takeLabel 35 = .ok (.invokestatic 50, 3) := by decide +kernel
theorem dX4_takeLabel_38 : decode cX4_takeLabel 38 = .ok (.ifCond .eq 16, 3) := by decide +kernel
theorem dX4_takeLabel_41 : decode cX4_takeLabel 41 = .ok (.aload_n 0, 1) := by decide +kernel
theorem dX4_takeLabel_42 : decode cX4_takeLabel 42 = .ok (.dup, 1) := by decide +kernel
theorem dX4_takeLabel_43 : decode cX4_takeLabel 43 = .ok (.getfield 19, 3) := by decide +kernel
theorem dX4_takeLabel_46 : decode cX4_takeLabel 46 = .ok (.iconst 1, 1) := by decide +kernel
theorem dX4_takeLabel_47 : decode cX4_takeLabel 47 = .ok (.iadd, 1) := by decide +kernel
theorem dX4_takeLabel_48 : decode cX4_takeLabel 48 = .ok (.putfield 19, 3) := by decide +kernel
theorem dX4_takeLabel_51 : decode cX4_takeLabel 51 = .ok (.goto (-51), 3) := by decide +kernel
theorem dX4_takeLabel_54 : decode cX4_takeLabel 54 = .ok (.aload_n 0, 1) := by decide +kernel
theorem dX4_takeLabel_55 : decode cX4_takeLabel 55 = .ok (.aload_n 0, 1) := by decide +kernel
theorem dX4_takeLabel_56 : decode cX4_takeLabel 56 = .ok (.getfield 19, 3) := by decide +kernel
theorem dX4_takeLabel_59 : decode cX4_takeLabel 59 = .ok (.aload_n 0, 1) := by decide +kernel
theorem dX4_takeLabel_60 : decode cX4_takeLabel 60 = .ok (.getfield 25, 3) := by decide +kernel
theorem dX4_takeLabel_63 : decode cX4_takeLabel 63 = .ok (.isub, 1) := by decide +kernel
theorem dX4_takeLabel_64 : decode cX4_takeLabel 64 = .ok (.bipush 8, 2) := by decide +kernel
theorem dX4_takeLabel_66 : decode cX4_takeLabel 66 = .ok (.if_icmp .le 7, 3) := by decide +kernel
theorem dX4_takeLabel_69 : decode cX4_takeLabel 69 = .ok (.iconst 1, 1) := by decide +kernel
theorem dX4_takeLabel_70 : decode cX4_takeLabel 70 = .ok (.goto 4, 3) := by decide +kernel
theorem dX4_takeLabel_73 : decode cX4_takeLabel 73 = .ok (.iconst 2, 1) := by decide +kernel
theorem dX4_takeLabel_74 : decode cX4_takeLabel 74 = .ok (.putfield 28, 3) := by decide +kernel
theorem dX4_takeLabel_77 : decode cX4_takeLabel 77 = .ok (.return_, 1) := by decide +kernel
theorem dX4_takeWord_0 : decode cX4_takeWord 0 = .ok (.aload_n 0, 1) := by decide +kernel
theorem dX4_takeWord_1 : decode cX4_takeWord 1 = .ok (.getfield 19, 3) := by decide +kernel
theorem dX4_takeWord_4 : decode cX4_takeWord 4 = .ok (.aload_n 0, 1) := by decide +kernel
theorem dX4_takeWord_5 : decode cX4_takeWord 5 = .ok (.getfield 15, 3) := by decide +kernel
theorem dX4_takeWord_8 : decode cX4_takeWord 8 = .ok (.if_icmp .ge 31, 3) := by decide +kernel
theorem dX4_takeWord_11 : decode cX4_takeWord 11 = .ok (.aload_n 0, 1) := by decide +kernel
theorem dX4_takeWord_12 : decode cX4_takeWord 12 = .ok (.getfield 9, 3) := by decide +kernel
theorem dX4_takeWord_15 : decode cX4_takeWord 15 = .ok (.aload_n 0, 1) := by decide +kernel
theorem dX4_takeWord_16 : decode cX4_takeWord 16 = .ok (.getfield 19, 3) := by decide +kernel
theorem dX4_takeWord_19 : decode cX4_takeWord 19 = .ok (.iaload, 1) := by decide +kernel
theorem dX4_takeWord_20 : decode cX4_takeWord 20 = .ok (.invokestatic 38, 3) := by decide +kernel
theorem dX4_takeWord_23 : decode cX4_takeWord 23 = .ok (.ifCond .eq 16, 3) := by decide +kernel
theorem dX4_takeWord_26 : decode cX4_takeWord 26 = .ok (.aload_n 0, 1) := by decide +kernel
theorem dX4_takeWord_27 : decode cX4_takeWord 27 = .ok (.dup, 1) := by decide +kernel
theorem dX4_takeWord_28 : decode cX4_takeWord 28 = .ok (.getfield 19, 3) := by decide +kernel
theorem dX4_takeWord_31 : decode cX4_takeWord 31 = .ok (.iconst 1, 1) := by decide +kernel
theorem dX4_takeWord_32 : decode cX4_takeWord 32 = .ok (.iadd, 1) := by decide +kernel
theorem dX4_takeWord_33 : decode cX4_takeWord 33 = .ok (.putfield 19, 3) := by decide +kernel
theorem dX4_takeWord_36 : decode cX4_takeWord 36 = .ok (.goto (-36), 3) := by decide +kernel
theorem dX4_takeWord_39 : decode cX4_takeWord 39 = .ok (.aload_n 0, 1) := by decide +kernel
theorem dX4_takeWord_40 : decode cX4_takeWord 40 = .ok (.aload_n 0, 1) := by decide +kernel
theorem dX4_takeWord_41 : decode cX4_takeWord 41 = .ok (.getfield 19, 3) := by decide +kernel
theorem dX4_takeWord_44 : decode cX4_takeWord 44 = .ok (.aload_n 0, 1) := by decide +kernel
theorem dX4_takeWord_45 : decode cX4_takeWord 45 = .ok (.getfield 25, 3) := by decide +kernel
theorem dX4_takeWord_48 : decode cX4_takeWord 48 = .ok (.isub, 1) := by decide +kernel
theorem dX4_takeWord_49 : decode cX4_takeWord 49 = .ok (.bipush 12, 2) := by decide +kernel
theorem dX4_takeWord_51 : decode cX4_takeWord 51 = .ok (.if_icmp .le 7, 3) := by decide +kernel
theorem dX4_takeWord_54 : decode cX4_takeWord 54 = .ok (.iconst 1, 1) := by decide +kernel
theorem dX4_takeWord_55 : decode cX4_takeWord 55 = .ok (.goto 4, 3) := by decide +kernel
theorem dX4_takeWord_58 : decode cX4_takeWord 58 = .ok (.iconst 3, 1) := by decide +kernel
theorem dX4_takeWord_59 : decode cX4_takeWord 59 = .ok (.putfield 28, 3) := by decide +kernel
theorem dX4_takeWord_62 : decode cX4_takeWord 62 = .ok (.return_, 1) := by decide +kernel
theorem dX4_isBlank_0 : decode cX4_isBlank 0 = .ok (.iload_n 0, 1) := by decide +kernel
theorem dX4_isBlank_1 : decode cX4_isBlank 1 = .ok (.bipush 9, 2) := by decide +kernel
theorem dX4_isBlank_3 : decode cX4_isBlank 3 = .ok (.if_icmp .eq 21, 3) := by decide +kernel
theorem dX4_isBlank_6 : decode cX4_isBlank 6 = .ok (.iload_n 0, 1) := by decide +kernel
theorem dX4_isBlank_7 : decode cX4_isBlank 7 = .ok (.bipush 10, 2) := by decide +kernel
theorem dX4_isBlank_9 : decode cX4_isBlank 9 = .ok (.if_icmp .eq 15, 3) := by decide +kernel
theorem dX4_isBlank_12 : decode cX4_isBlank 12 = .ok (.iload_n 0, 1) := by decide +kernel
theorem dX4_isBlank_13 : decode cX4_isBlank 13 = .ok (.bipush 13, 2) := by decide +kernel
theorem dX4_isBlank_15 : decode cX4_isBlank 15 = .ok (.if_icmp .eq 9, 3) := by decide +kernel
theorem dX4_isBlank_18 : decode cX4_isBlank 18 = .ok (.iload_n 0, 1) := by decide +kernel
theorem dX4_isBlank_19 : decode cX4_isBlank 19 = .ok (.bipush 32, 2) := by decide +kernel
theorem dX4_isBlank_21 : decode cX4_isBlank 21 = .ok (.if_icmp .ne 7, 3) := by decide +kernel
theorem dX4_isBlank_24 : decode cX4_isBlank 24 = .ok (.iconst 1, 1) := by decide +kernel
theorem dX4_isBlank_25 : decode cX4_isBlank 25 = .ok (.goto 4, 3) := by decide +kernel
theorem dX4_isBlank_28 : decode cX4_isBlank 28 = .ok (.iconst 0, 1) := by decide +kernel
theorem dX4_isBlank_29 : decode cX4_isBlank 29 = .ok (.ireturn, 1) := by decide +kernel
theorem dX4_isGreat_0 : decode cX4_isGreat 0 = .ok (.iload_n 0, 1) := by decide +kernel
theorem dX4_isGreat_1 : decode cX4_isGreat 1 = .ok (.bipush 65, 2) := by decide +kernel
theorem dX4_isGreat_3 : decode cX4_isGreat 3 = .ok (.if_icmp .lt 13, 3) := by decide +kernel
theorem dX4_isGreat_6 : decode cX4_isGreat 6 = .ok (.iload_n 0, 1) := by decide +kernel
theorem dX4_isGreat_7 : decode cX4_isGreat 7 = .ok (.bipush 90, 2) := by decide +kernel
theorem dX4_isGreat_9 : decode cX4_isGreat 9 = .ok (.if_icmp .gt 7, 3) := by decide +kernel
theorem dX4_isGreat_12 : decode cX4_isGreat 12 = .ok (.iconst 1, 1) := by decide +kernel
theorem dX4_isGreat_13 : decode cX4_isGreat 13 = .ok (.goto 4, 3) := by decide +kernel
theorem dX4_isGreat_16 : decode cX4_isGreat 16 = .ok (.iconst 0, 1) := by decide +kernel
theorem dX4_isGreat_17 : decode cX4_isGreat 17 = .ok (.ireturn, 1) := by decide +kernel
theorem dX4_isSmall_0 : decode cX4_isSmall 0 = .ok (.iload_n 0, 1) := by decide +kernel
theorem dX4_isSmall_1 : decode cX4_isSmall 1 = .ok (.bipush 97, 2) := by decide +kernel
theorem dX4_isSmall_3 : decode cX4_isSmall 3 = .ok (.if_icmp .lt 13, 3) := by decide +kernel
theorem dX4_isSmall_6 : decode cX4_isSmall 6 = .ok (.iload_n 0, 1) := by decide +kernel
theorem dX4_isSmall_7 : decode cX4_isSmall 7 = .ok (.bipush 122, 2) := by decide +kernel
theorem dX4_isSmall_9 : decode cX4_isSmall 9 = .ok (.if_icmp .gt 7, 3) := by decide +kernel
theorem dX4_isSmall_12 : decode cX4_isSmall 12 = .ok (.iconst 1, 1) := by decide +kernel
theorem dX4_isSmall_13 : decode cX4_isSmall 13 = .ok (.goto 4, 3) := by decide +kernel
theorem dX4_isSmall_16 : decode cX4_isSmall 16 = .ok (.iconst 0, 1) := by decide +kernel
theorem dX4_isSmall_17 : decode cX4_isSmall 17 = .ok (.ireturn, 1) := by decide +kernel
theorem dX4_isDigit_0 : decode cX4_isDigit 0 = .ok (.iload_n 0, 1) := by decide +kernel
theorem dX4_isDigit_1 : decode cX4_isDigit 1 = .ok (.bipush 48, 2) := by decide +kernel
theorem dX4_isDigit_3 : decode cX4_isDigit 3 = .ok (.if_icmp .lt 13, 3) := by decide +kernel
theorem dX4_isDigit_6 : decode cX4_isDigit 6 = .ok (.iload_n 0, 1) := by decide +kernel
theorem dX4_isDigit_7 : decode cX4_isDigit 7 = .ok (.bipush 57, 2) := by decide +kernel
theorem dX4_isDigit_9 : decode cX4_isDigit 9 = .ok (.if_icmp .gt 7, 3) := by decide +kernel
theorem dX4_isDigit_12 : decode cX4_isDigit 12 = .ok (.iconst 1, 1) := by decide +kernel
theorem dX4_isDigit_13 : decode cX4_isDigit 13 = .ok (.goto 4, 3) := by decide +kernel
theorem dX4_isDigit_16 : decode cX4_isDigit 16 = .ok (.iconst 0, 1) := by decide +kernel
theorem dX4_isDigit_17 : decode cX4_isDigit 17 = .ok (.ireturn, 1) := by decide +kernel
theorem dX4_isSign_0 : decode cX4_isSign 0 = .ok (.iload_n 0, 1) := by decide +kernel
theorem dX4_isSign_1 : decode cX4_isSign 1 = .ok (.bipush 40, 2) := by decide +kernel
theorem dX4_isSign_3 : decode cX4_isSign 3 = .ok (.if_icmp .eq 33, 3) := by decide +kernel
theorem dX4_isSign_6 : decode cX4_isSign 6 = .ok (.iload_n 0, 1) := by decide +kernel
theorem dX4_isSign_7 : decode cX4_isSign 7 = .ok (.bipush 41, 2) := by decide +kernel
theorem dX4_isSign_9 : decode cX4_isSign 9 = .ok (.if_icmp .eq 27, 3) := by decide +kernel
theorem dX4_isSign_12 : decode cX4_isSign 12 = .ok (.iload_n 0, 1) := by decide +kernel
theorem dX4_isSign_13 : decode cX4_isSign 13 = .ok (.bipush 33, 2) := by decide +kernel
theorem dX4_isSign_15 : decode cX4_isSign 15 = .ok (.if_icmp .eq 21, 3) := by decide +kernel
theorem dX4_isSign_18 : decode cX4_isSign 18 = .ok (.iload_n 0, 1) := by decide +kernel
theorem dX4_isSign_19 : decode cX4_isSign 19 = .ok (.bipush 42, 2) := by decide +kernel
theorem dX4_isSign_21 : decode cX4_isSign 21 = .ok (.if_icmp .eq 15, 3) := by decide +kernel
theorem dX4_isSign_24 : decode cX4_isSign 24 = .ok (.iload_n 0, 1) := by decide +kernel
theorem dX4_isSign_25 : decode cX4_isSign 25 = .ok (.bipush 43, 2) := by decide +kernel
theorem dX4_isSign_27 : decode cX4_isSign 27 = .ok (.if_icmp .eq 9, 3) := by decide +kernel
theorem dX4_isSign_30 : decode cX4_isSign 30 = .ok (.iload_n 0, 1) := by decide +kernel
theorem dX4_isSign_31 : decode cX4_isSign 31 = .ok (.bipush 45, 2) := by decide +kernel
theorem dX4_isSign_33 : decode cX4_isSign 33 = .ok (.if_icmp .ne 7, 3) := by decide +kernel
theorem dX4_isSign_36 : decode cX4_isSign 36 = .ok (.iconst 1, 1) := by decide +kernel
theorem dX4_isSign_37 : decode cX4_isSign 37 = .ok (.goto 4, 3) := by decide +kernel
theorem dX4_isSign_40 : decode cX4_isSign 40 = .ok (.iconst 0, 1) := by decide +kernel
theorem dX4_isSign_41 : decode cX4_isSign 41 = .ok (.ireturn, 1) := by decide +kernel

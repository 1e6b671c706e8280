theorem dX5_init_0 : decode cX5_init 0 = .ok (.aload_n 0, 1) := by decide +kernel
theorem dX5_init_1 : decode cX5_init 1 = .ok (.invokespecial 3, 3) := by decide +kernel
theorem dX5_init_4 : decode cX5_init 4 = .ok (.aload_n 0, 1) := by decide +kernel
theorem dX5_init_5 : decode cX5_init 5 = .ok (.aload_n 1, 1) := by decide +kernel
theorem dX5_init_6 : decode cX5_init 6 = .ok (.putfield 9, 3) := by decide +kernel
theorem dX5_init_9 : decode cX5_init 9 = .ok (.aload_n 0, 1) := by decide +kernel
theorem dX5_init_10 : decode cX5_init 10 = .ok (.aload_n 2, 1) := by decide +kernel
theorem dX5_init_11 : decode cX5_init 11 = .ok (.putfield 15, 3) := by decide +kernel
theorem dX5_init_14 : decode cX5_init 14 = .ok (.return_, 1) := by decide +kernel
theorem dX5_parse_0 : decode cX5_parse 0 = .ok (.aload_n 0, 1) := by decide +kernel
theorem dX5_parse_1 : decode cX5_parse 1 = .ok (.getfield 15, 3) := by decide +kernel
theorem dX5_parse_4 : decode cX5_parse 4 = .ok (.getfield 19, 3) := by decide +kernel
theorem dX5_parse_7 : decode cX5_parse 7 = .ok (.getfield 25, 3) := by decide +kernel
theorem dX5_parse_10 : decode cX5_parse 10 = .ok (.istore_n 1, 1) := by decide +kernel
theorem dX5_parse_11 : decode cX5_parse 11 = .ok (.aload_n 0, 1) := by decide +kernel
theorem dX5_parse_12 : decode cX5_parse 12 = .ok (.getfield 15, 3) := by decide +kernel
theorem dX5_parse_15 : decode cX5_parse 15 = .ok (.getfield 31, 3) := by decide +kernel
theorem dX5_parse_18 : decode cX5_parse 18 = .ok (.getfield 25, 3) := by decide +kernel
theorem dX5_parse_21 : decode cX5_parse 21 = .ok (.istore_n 2, 1) := by decide +kernel
theorem dX5_parse_22 : decode cX5_parse 22 = .ok (.aload_n 0, 1) := by decide +kernel
theorem dX5_parse_23 : decode cX5_parse 23 = .ok (.invokevirtual 34, 3) := by decide +kernel
theorem dX5_parse_26 : decode cX5_parse 26 = .ok (.aload_n 0, 1) := by decide +kernel
theorem dX5_parse_27 : decode cX5_parse 27 = .ok (.invokevirtual 37, 3) := by decide +kernel
theorem dX5_parse_30 : decode cX5_parse 30 = .ok (.aload_n 0, 1) := by decide +kernel
theorem dX5_parse_31 : decode cX5_parse 31 = .ok (.getfield 40, 3) := by decide +kernel
theorem dX5_parse_34 : decode cX5_parse 34 = .ok (.ifCond .ne 7, 3) := by decide +kernel
theorem dX5_parse_37 : decode cX5_parse 37 = .ok (.aload_n 0, 1) := by decide +kernel
theorem dX5_parse_38 : decode cX5_parse 38 = .ok (.invokevirtual 43, 3) := by decide +kernel
theorem dX5_parse_41 : decode cX5_parse 41 = .ok (.aload_n 0, 1) := by decide +kernel
theorem dX5_parse_42 : decode cX5_parse 42 = .ok (.getfield 40, 3) := by decide +kernel
theorem dX5_parse_45 : decode cX5_parse 45 = .ok (.ifCond .eq 26, 3) := by decide +kernel
theorem dX5_parse_48 : decode cX5_parse 48 = .ok (.aload_n 0, 1) := by decide +kernel
theorem dX5_parse_49 : decode cX5_parse 49 = .ok (.getfield 15, 3) := by decide +kernel
theorem dX5_parse_52 : decode cX5_parse 52 = .ok (.getfield 19, 3) := by decide +kernel
theorem dX5_parse_55 : decode cX5_parse 55 = .ok (.iload_n 1, 1) := by decide +kernel
theorem dX5_parse_56 : decode cX5_parse 56 = .ok (.putfield 25, 3) := by decide +kernel
theorem dX5_parse_59 : decode cX5_parse 59 = .ok (.aload_n 0, 1) := by decide +kernel
theorem dX5_parse_60 : decode cX5_parse 60 = .ok (.getfield 15, 3) := by decide +kernel
theorem dX5_parse_63 : decode cX5_parse 63 = .ok (.getfield 31, 3) := by decide +kernel
theorem dX5_parse_66 : decode cX5_parse 66 = .ok (.iload_n 2, 1) := by decide +kernel
theorem dX5_parse_67 : decode cX5_parse 67 = .ok (.putfield 25, 3) := by decide +kernel
theorem dX5_parse_70 : decode cX5_parse 70 = .ok (.return_, 1) := by decide +kernel
theorem dX5_parse_71 : decode cX5_parse 71 = .ok (.aload_n 0, 1) := by decide +kernel
theorem dX5_parse_72 : decode cX5_parse 72 = .ok (.getfield 15, 3) := by decide +kernel
theorem dX5_parse_75 : decode cX5_parse 75 = .ok (.aload_n 0, 1) := by decide +kernel
theorem dX5_parse_76 : decode cX5_parse 76 = .ok (.getfield 15, 3) := by decide +kernel
theorem dX5_parse_79 : decode cX5_parse 79 = .ok (.getfield 46, 3) := by decide +kernel
theorem dX5_parse_82 : decode cX5_parse 82 = .ok (.invokevirtual 49, 3) := by decide +kernel
theorem dX5_parse_85 : decode cX5_parse 85 = .ok (.aload_n 0, 1) := by decide +kernel
theorem dX5_parse_86 : decode cX5_parse 86 = .ok (.getfield 15, 3) := by decide +kernel
theorem dX5_parse_89 : decode cX5_parse 89 = .ok (.dup, 1) := by decide +kernel
theorem dX5_parse_90 : decode cX5_parse 90 = .ok (.getfield 46, 3) := by decide +kernel
theorem dX5_parse_93 : decode cX5_parse 93 = .ok (.iconst 1, 1) := by decide +kernel
theorem dX5_parse_94 : decode cX5_parse 94 = .ok (.iadd, 1) := by decide +kernel
theorem dX5_parse_95 : decode cX5_parse 95 = .ok (.putfield 46, 3) := by decide +kernel
theorem dX5_parse_98 : decode cX5_parse 98 = .ok (.return_, 1) := by decide +kernel
theorem dX5_begin_0 : decode cX5_begin 0 = .ok (.aload_n 0, 1) := by decide +kernel
theorem dX5_begin_1 : decode cX5_begin 1 = .ok (.iconst 0, 1) := by decide +kernel
theorem dX5_begin_2 : decode cX5_begin 2 = .ok (.putfield 40, 3) := by decide +kernel
theorem dX5_begin_5 : decode cX5_begin 5 = .ok (.aload_n 0, 1) := by decide +kernel
theorem dX5_begin_6 : decode cX5_begin 6 = .ok (.iconst 0, 1) := by decide +kernel
theorem dX5_begin_7 : decode cX5_begin 7 = .ok (.putfield 53, 3) := by decide +kernel
theorem dX5_begin_10 : decode cX5_begin 10 = .ok (.aload_n 0, 1) := by decide +kernel
theorem dX5_begin_11 : decode cX5_begin 11 = .ok (.iconst 0, 1) := by decide +kernel
theorem dX5_begin_12 : decode cX5_begin 12 = .ok (.putfield 56, 3) := by decide +kernel
theorem dX5_begin_15 : decode cX5_begin 15 = .ok (.aload_n 0, 1) := by decide +kernel
theorem dX5_begin_16 : decode cX5_begin 16 = .ok (.iconst (-1), 1) := by decide +kernel
theorem dX5_begin_17 : decode cX5_begin 17 = .ok (.putfield 59, 3) := by decide +kernel
theorem dX5_begin_20 : decode cX5_begin 20 = .ok (.aload_n 0, 1) := by decide +kernel
theorem dX5_begin_21 : decode cX5_begin 21 = .ok (.iconst 0, 1) := by decide +kernel
theorem dX5_begin_22 : decode cX5_begin 22 = .ok (.putfield 62, 3) := by decide +kernel
theorem dX5_begin_25 : decode cX5_begin 25 = .ok (.aload_n 0, 1) := by decide +kernel
theorem dX5_begin_26 : decode cX5_begin 26 = .ok (.iconst 0, 1) := by decide +kernel
theorem dX5_begin_27 : decode cX5_begin 27 = .ok (.putfield 65, 3) := by decide +kernel
theorem dX5_begin_30 : decode cX5_begin 30 = .ok (.aload_n 0, 1) := by decide +kernel
theorem dX5_begin_31 : decode cX5_begin 31 = .ok (.getfield 15, 3) := by decide +kernel
theorem dX5_begin_34 : decode cX5_begin 34 = .ok (.getfield 69, 3) := by decide +kernel
theorem dX5_begin_37 : decode cX5_begin 37 = .ok (.aload_n 0, 1) := by decide +kernel
theorem dX5_begin_38 : decode cX5_begin 38 = .ok (.getfield 15, 3) := by decide +kernel
theorem dX5_begin_41 : decode cX5_begin 41 = .ok (.getfield 46, 3) := by decide +kernel
theorem dX5_begin_44 : decode cX5_begin 44 = .ok (.iconst 0, 1) := by decide +kernel
theorem dX5_begin_45 : decode cX5_begin 45 = .ok (.iastore, 1) := by decide +kernel
theorem dX5_begin_46 : decode cX5_begin 46 = .ok (.aload_n 0, 1) := by decide +kernel
theorem dX5_begin_47 : decode cX5_begin 47 = .ok (.getfield 9, 3) := by decide +kernel
theorem dX5_begin_50 : decode cX5_begin 50 = .ok (.invokevirtual 73, 3) := by decide +kernel
theorem dX5_begin_53 : decode cX5_begin 53 = .ok (.return_, 1) := by decide +kernel
theorem dX5_takeTokens_0 : decode cX5_takeTokens 0 = .ok (.iconst 0, 1) := by decide +kernel
theorem dX5_takeTokens_1 : decode cX5_takeTokens 1 = .ok (.istore_n 1, 1) := by decide +kernel
theorem dX5_takeTokens_2 : decode cX5_takeTokens 2 = .ok (.iload_n 1, 1) := by decide +kernel
theorem dX5_takeTokens_3 : decode cX5_takeTokens 3 = .ok (.sipush 1000, 3) := by decide +kernel
theorem dX5_takeTokens_6 : decode cX5_takeTokens 6 = .ok (.if_icmp .gt 76, 3) := by decide +kernel
theorem dX5_takeTokens_9 : decode cX5_takeTokens 9 = .ok (.aload_n 0, 1) := by decide +kernel
theorem dX5_takeTokens_10 : decode cX5_takeTokens 10 = .ok (.getfield 40, 3) := by decide +kernel
theorem dX5_takeTokens_13 : decode cX5_takeTokens 13 = .ok (.ifCond .ne 69, 3) := by decide +kernel
theorem dX5_takeTokens_16 : decode cX5_takeTokens 16 = .ok (.aload_n 0, 1) := by decide +kernel
theorem dX5_takeTokens_17 : decode cX5_takeTokens 17 = .ok (.getfield 9, 3) := by decide +kernel
theorem dX5_takeTokens_20 : decode cX5_takeTokens 20 = .ok (.invokevirtual 78, 3) := by decide +kernel
theorem dX5_takeTokens_23 : decode cX5_takeTokens 23 = .ok (.aload_n 0, 1) := by decide +kernel
theorem dX5_takeTokens_24 : decode cX5_takeTokens 24 = .ok (.getfield 9, 3) := by decide +kernel
theorem dX5_takeTokens_27 : decode cX5_takeTokens 27 = .ok (.getfield 81, 3) := by decide +kernel
theorem dX5_takeTokens_30 : decode cX5_takeTokens 30 = .ok (.ifCond .ne 12, 3) := by decide +kernel
theorem dX5_takeTokens_33 : decode cX5_takeTokens 33 = .ok (.aload_n 0, 1) := by decide +kernel
theorem dX5_takeTokens_34 : decode cX5_takeTokens 34 = .ok (.getfield 56, 3) := by decide +kernel
theorem dX5_takeTokens_37 : decode cX5_takeTokens 37 = .ok (.iconst 4, 1) := by decide +kernel
theorem dX5_takeTokens_38 : decode cX5_takeTokens 38 = .ok (.if_icmp .ne 4, 3) := by decide +kernel
theorem dX5_takeTokens_41 : decode cX5_takeTokens 41 = .ok (.return_, 1) := by decide +kernel
theorem dX5_takeTokens_42 : decode cX5_takeTokens 42 = .ok (.aload_n 0, 1) := by decide +kernel
theorem dX5_takeTokens_43 : decode cX5_takeTokens 43 = .ok (.aload_n 0, 1) := by decide +kernel
theorem dX5_takeTokens_44 : decode cX5_takeTokens 44 = .ok (.getfield 9, 3) := by decide +kernel
theorem dX5_takeTokens_47 : decode cX5_takeTokens 47 = .ok (.getfield 81, 3) := by decide +kernel
theorem dX5_takeTokens_50 : decode cX5_takeTokens 50 = .ok (.iconst 1, 1) := by decide +kernel
theorem dX5_takeTokens_51 : decode cX5_takeTokens 51 = .ok (.if_icmp .ne 7, 3) := by decide +kernel
theorem dX5_takeTokens_54 : decode cX5_takeTokens 54 = .ok (.iconst 1, 1) := by decide +kernel
theorem dX5_takeTokens_55 : decode cX5_takeTokens 55 = .ok (.goto 7, 3) := by decide +kernel
theorem dX5_takeTokens_58 : decode cX5_takeTokens 58 = .ok (.aload_n 0, 1) := by decide +kernel
theorem dX5_takeTokens_59 : decode cX5_takeTokens 59 = .ok (.invokevirtual 84, 3) := by decide +kernel
theorem dX5_takeTokens_62 : decode cX5_takeTokens 62 = .ok (.putfield 40, 3) := by decide +kernel
theorem dX5_takeTokens_65 : decode cX5_takeTokens 65 = .ok (.aload_n 0, 1) := by decide +kernel
theorem dX5_takeTokens_66 : decode cX5_takeTokens 66 = .ok (.aload_n 0, 1) := by decide +kernel
theorem dX5_takeTokens_67 : decode cX5_takeTokens 67 = .ok (.getfield 9, 3) := by decide +kernel
theorem dX5_takeTokens_70 : decode cX5_takeTokens 70 = .ok (.getfield 88, 3) := by decide +kernel
theorem dX5_takeTokens_73 : decode cX5_takeTokens 73 = .ok (.putfield 53, 3) := by decide +kernel
theorem dX5_takeTokens_76 : decode cX5_takeTokens 76 = .ok (.iinc 1 1, 3) := by decide +kernel
theorem dX5_takeTokens_79 : decode cX5_takeTokens 79 = .ok (.goto (-77), 3) := by decide +kernel
theorem dX5_takeTokens_82 : decode cX5_takeTokens 82 = .ok (.return_, 1) := by decide +kernel
theorem dX5_takeToken_0 : decode cX5_takeToken 0 = .ok (.aload_n 0, 1) := by decide +kernel
theorem dX5_takeToken_1 : decode cX5_takeToken 1 = .ok (.getfield 56, 3) := by decide +kernel
theorem dX5_takeToken_4 : decode cX5_takeToken 4 = .ok (.tableswitch 87 0 3 #[32, 37, 42, 63], 32) := by decide +kernel
theorem dX5_takeToken_36 : decode cX5_takeToken 36 = .ok (.aload_n 0, 1) := by decide +kernel
theorem dX5_takeToken_37 : decode cX5_takeToken 37 = .ok (.invokevirtual 91, 3) := by decide +kernel
theorem dX5_takeToken_40 : decode cX5_takeToken 40 = .ok (.ireturn, 1) := by decide +kernel
theorem dX5_takeToken_41 : decode cX5_takeToken 41 = .ok (.aload_n 0, 1) := by decide +kernel
theorem dX5_takeToken_42 : decode cX5_takeToken 42 = .ok (.invokevirtual 94, 3) := by decide +kernel
theorem dX5_takeToken_45 : decode cX5_takeToken 45 = .ok (.ireturn, 1) := by decide +kernel
theorem dX5_takeToken_46 : decode cX5_takeToken 46 = .ok (.aload_n 0, 1) := by decide +kernel
theorem dX5_takeToken_47 : decode cX5_takeToken 47 = .ok (.getfield 9, 3) := by decide +kernel
theorem dX5_takeToken_50 : decode cX5_takeToken 50 = .ok (.bipush 40, 2) := by decide +kernel
theorem dX5_takeToken_52 : decode cX5_takeToken 52 = .ok (.invokevirtual 97, 3) := by decide +kernel
theorem dX5_takeToken_55 : decode cX5_takeToken 55 = .ok (.ifCond .eq 10, 3) := by decide +kernel
theorem dX5_takeToken_58 : decode cX5_takeToken 58 = .ok (.aload_n 0, 1) := by decide +kernel
theorem dX5_takeToken_59 : decode cX5_takeToken 59 = .ok (.invokevirtual 101, 3) := by decide +kernel
theorem dX5_takeToken_62 : decode cX5_takeToken 62 = .ok (.goto 4, 3) := by decide +kernel
theorem dX5_takeToken_65 : decode cX5_takeToken 65 = .ok (.iconst 2, 1) := by decide +kernel
theorem dX5_takeToken_66 : decode cX5_takeToken 66 = .ok (.ireturn, 1) := by decide +kernel
theorem dX5_takeToken_67 : decode cX5_takeToken 67 = .ok (.aload_n 0, 1) := by decide +kernel
theorem dX5_takeToken_68 : decode cX5_takeToken 68 = .ok (.getfield 9, 3) := by decide +kernel
theorem dX5_takeToken_71 : decode cX5_takeToken 71 = .ok (.bipush 41, 2) := by decide +kernel
theorem dX5_takeToken_73 : decode cX5_takeToken 73 = .ok (.invokevirtual 97, 3) := by decide +kernel
theorem dX5_takeToken_76 : decode cX5_takeToken 76 = .ok (.ifCond .eq 10, 3) := by decide +kernel
theorem dX5_takeToken_79 : decode cX5_takeToken 79 = .ok (.aload_n 0, 1) := by decide +kernel
theorem dX5_takeToken_80 : decode cX5_takeToken 80 = .ok (.invokevirtual 104, 3) := by decide +kernel
theorem dX5_takeToken_83 : decode cX5_takeToken 83 = .ok (.goto 7, 3) := by decide +kernel
theorem dX5_takeToken_86 : decode cX5_takeToken 86 = .ok (.aload_n 0, 1) := by decide +kernel
theorem dX5_takeToken_87 : decode cX5_takeToken 87 = .ok (.invokevirtual 91, 3) := by decide +kernel
theorem dX5_takeToken_90 : decode cX5_takeToken 90 = .ok (.ireturn, 1) := by decide +kernel
theorem dX5_takeToken_91 : decode cX5_takeToken 91 = .ok (.iconst 2, 1) := by decide +kernel
theorem dX5_takeToken_92 : decode cX5_takeToken 92 = .ok (.ireturn, 1) := by decide +kernel
theorem dX5_takeNode_0 : decode cX5_takeNode 0 = .ok (.aload_n 0, 1) := by decide +kernel
theorem dX5_takeNode_1 : decode cX5_takeNode 1 = .ok (.getfield 9, 3) := by decide +kernel
theorem dX5_takeNode_4 : decode cX5_takeNode 4 = .ok (.getfield 81, 3) := by decide +kernel
theorem dX5_takeNode_7 : decode cX5_takeNode 7 = .ok (.iconst 2, 1) := by decide +kernel
theorem dX5_takeNode_8 : decode cX5_takeNode 8 = .ok (.if_icmp .eq 16, 3) := by decide +kernel
theorem dX5_takeNode_11 : decode cX5_takeNode 11 = .ok (.aload_n 0, 1) := by decide +kernel
theorem dX5_takeNode_12 : decode cX5_takeNode 12 = .ok (.getfield 9, 3) := by decide +kernel
theorem dX5_takeNode_15 : decode cX5_takeNode 15 = .ok (.getfield 81, 3) := by decide +kernel
theorem dX5_takeNode_18 : decode cX5_takeNode 18 = .ok (.iconst 3, 1) := by decide +kernel
theorem dX5_takeNode_19 : decode cX5_takeNode 19 = .ok (.if_icmp .eq 5, 3) := by decide +kernel
theorem dX5_takeNode_22 : decode cX5_takeNode 22 = .ok (.iconst 2, 1) := by decide +kernel
theorem dX5_takeNode_23 : decode cX5_takeNode 23 = .ok (.ireturn, 1) := by decide +kernel
theorem dX5_takeNode_24 : decode cX5_takeNode 24 = .ok (.aload_n 0, 1) := by decide +kernel
theorem dX5_takeNode_25 : decode cX5_takeNode 25 = .ok (.getfield 15, 3) := by decide +kernel
theorem dX5_takeNode_28 : decode cX5_takeNode 28 = .ok (.getfield 69, 3) := by decide +kernel
theorem dX5_takeNode_31 : decode cX5_takeNode 31 = .ok (.aload_n 0, 1) := by decide +kernel
theorem dX5_takeNode_32 : decode cX5_takeNode 32 = .ok (.getfield 15, 3) := by decide +kernel
theorem dX5_takeNode_35 : decode cX5_takeNode 35 = .ok (.getfield 46, 3) := by decide +kernel
theorem dX5_takeNode_38 : decode cX5_takeNode 38 = .ok (.iaload, 1) := by decide +kernel
theorem dX5_takeNode_39 : decode cX5_takeNode 39 = .ok (.bipush 12, 2) := by decide +kernel
theorem dX5_takeNode_41 : decode cX5_takeNode 41 = .ok (.if_icmp .lt 5, 3) := by decide +kernel
theorem dX5_takeNode_44 : decode cX5_takeNode 44 = .ok (.iconst 3, 1) := by decide +kernel
theorem dX5_takeNode_45 : decode cX5_takeNode 45 = .ok (.ireturn, 1) := by decide +kernel
theorem dX5_takeNode_46 : decode cX5_takeNode 46 = .ok (.aload_n 0, 1) := by decide +kernel
theorem dX5_takeNode_47 : decode cX5_takeNode 47 = .ok (.getfield 9, 3) := by decide +kernel
theorem dX5_takeNode_50 : decode cX5_takeNode 50 = .ok (.getfield 81, 3) := by decide +kernel
theorem dX5_takeNode_53 : decode cX5_takeNode 53 = .ok (.iconst 3, 1) := by decide +kernel
theorem dX5_takeNode_54 : decode cX5_takeNode 54 = .ok (.if_icmp .ne 7, 3) := by decide +kernel
theorem dX5_takeNode_57 : decode cX5_takeNode 57 = .ok (.iconst 1, 1) := by decide +kernel
theorem dX5_takeNode_58 : decode cX5_takeNode 58 = .ok (.goto 4, 3) := by decide +kernel
theorem dX5_takeNode_61 : decode cX5_takeNode 61 = .ok (.iconst 0, 1) := by decide +kernel
theorem dX5_takeNode_62 : decode cX5_takeNode 62 = .ok (.istore_n 1, 1) := by decide +kernel
theorem dX5_takeNode_63 : decode cX5_takeNode 63 = .ok (.aload_n 0, 1) := by decide +kernel
theorem dX5_takeNode_64 : decode cX5_takeNode 64 = .ok (.iload_n 1, 1) := by decide +kernel
theorem dX5_takeNode_65 : decode cX5_takeNode 65 = .ok (.ifCond .eq 13, 3) := by decide +kernel
theorem dX5_takeNode_68 : decode cX5_takeNode 68 = .ok (.aload_n 0, 1) := by decide +kernel
theorem dX5_takeNode_69 : decode cX5_takeNode 69 = .ok (.getfield 15, 3) := by decide +kernel
theorem dX5_takeNode_72 : decode cX5_takeNode 72 = .ok (.getfield 31, 3) := by decide +kernel
theorem dX5_takeNode_75 : decode cX5_takeNode 75 = .ok (.goto 10, 3) := by decide +kernel
theorem dX5_takeNode_78 : decode cX5_takeNode 78 = .ok (.aload_n 0, 1) := by decide +kernel
theorem dX5_takeNode_79 : decode cX5_takeNode 79 = .ok (.getfield 15, 3) := by decide +kernel
theorem dX5_takeNode_82 : decode cX5_takeNode 82 = .ok (.getfield 19, 3) := by decide +kernel
theorem dX5_takeNode_85 : decode cX5_takeNode 85 = .ok (.invokevirtual 107, 3) := by decide +kernel
theorem dX5_takeNode_88 : decode cX5_takeNode 88 = .ok (.istore_n 2, 1) := by decide +kernel
theorem dX5_takeNode_89 : decode cX5_takeNode 89 = .ok (.iload_n 2, 1) := by decide +kernel
theorem dX5_takeNode_90 : decode cX5_takeNode 90 = .ok (.iconst (-1), 1) := by decide +kernel
theorem dX5_takeNode_91 : decode cX5_takeNode 91 = .ok (.if_icmp .ne 5, 3) := by decide +kernel
theorem dX5_takeNode_94 : decode cX5_takeNode 94 = .ok (.iconst 3, 1) := by decide +kernel
theorem dX5_takeNode_95 : decode cX5_takeNode 95 = .ok (.ireturn, 1) := by decide +kernel
theorem dX5_takeNode_96 : decode cX5_takeNode 96 = .ok (.iload_n 1, 1) := by decide +kernel
theorem dX5_takeNode_97 : decode cX5_takeNode 97 = .ok (.ifCond .eq 17, 3) := by decide +kernel
theorem dX5_takeNode_100 : decode cX5_takeNode 100 = .ok (.aload_n 0, 1) := by decide +kernel
theorem dX5_takeNode_101 : decode cX5_takeNode 101 = .ok (.iconst 1, 1) := by decide +kernel
theorem dX5_takeNode_102 : decode cX5_takeNode 102 = .ok (.putfield 65, 3) := by decide +kernel
theorem dX5_takeNode_105 : decode cX5_takeNode 105 = .ok (.aload_n 0, 1) := by decide +kernel
theorem dX5_takeNode_106 : decode cX5_takeNode 106 = .ok (.iconst 3, 1) := by decide +kernel
theorem dX5_takeNode_107 : decode cX5_takeNode 107 = .ok (.iload_n 2, 1) := by decide +kernel
theorem dX5_takeNode_108 : decode cX5_takeNode 108 = .ok (.invokevirtual 111, 3) := by decide +kernel
theorem dX5_takeNode_111 : decode cX5_takeNode 111 = .ok (.goto 29, 3) := by decide +kernel
theorem dX5_takeNode_114 : decode cX5_takeNode 114 = .ok (.aload_n 0, 1) := by decide +kernel
theorem dX5_takeNode_115 : decode cX5_takeNode 115 = .ok (.iload_n 2, 1) := by decide +kernel
theorem dX5_takeNode_116 : decode cX5_takeNode 116 = .ok (.putfield 115, 3) := by decide +kernel
theorem dX5_takeNode_119 : decode cX5_takeNode 119 = .ok (.aload_n 0, 1) := by decide +kernel
theorem dX5_takeNode_120 : decode cX5_takeNode 120 = .ok (.aload_n 0, 1) := by decide +kernel
theorem dX5_takeNode_121 : decode cX5_takeNode 121 = .ok (.getfield 9, 3) := by decide +kernel
theorem dX5_takeNode_124 : decode cX5_takeNode 124 = .ok (.getfield 88, 3) := by decide +kernel
theorem dX5_takeNode_127 : decode cX5_takeNode 127 = .ok (.putfield 118, 3) := by decide +kernel
theorem dX5_takeNode_130 : decode cX5_takeNode 130 = .ok (.aload_n 0, 1) := by decide +kernel
theorem dX5_takeNode_131 : decode cX5_takeNode 131 = .ok (.iconst 0, 1) := by decide +kernel
theorem dX5_takeNode_132 : decode cX5_takeNode 132 = .ok (.putfield 121, 3) := by decide +kernel
theorem dX5_takeNode_135 : decode cX5_takeNode 135 = .ok (.aload_n 0, 1) := by decide +kernel
theorem dX5_takeNode_136 : decode cX5_takeNode 136 = .ok (.iconst 1, 1) := by decide +kernel
theorem dX5_takeNode_137 : decode cX5_takeNode 137 = .ok (.putfield 56, 3) := by decide +kernel
theorem dX5_takeNode_140 : decode cX5_takeNode 140 = .ok (.iconst 0, 1) := by decide +kernel
theorem dX5_takeNode_141 : decode cX5_takeNode 141 = .ok (.ireturn, 1) := by decide +kernel
theorem dX5_takeName_0 : decode cX5_takeName 0 = .ok (.aload_n 1, 1) := by decide +kernel
theorem dX5_takeName_1 : decode cX5_takeName 1 = .ok (.aload_n 0, 1) := by decide +kernel
theorem dX5_takeName_2 : decode cX5_takeName 2 = .ok (.getfield 9, 3) := by decide +kernel
theorem dX5_takeName_5 : decode cX5_takeName 5 = .ok (.getfield 124, 3) := by decide +kernel
theorem dX5_takeName_8 : decode cX5_takeName 8 = .ok (.aload_n 0, 1) := by decide +kernel
theorem dX5_takeName_9 : decode cX5_takeName 9 = .ok (.getfield 9, 3) := by decide +kernel
theorem dX5_takeName_12 : decode cX5_takeName 12 = .ok (.getfield 88, 3) := by decide +kernel
theorem dX5_takeName_15 : decode cX5_takeName 15 = .ok (.aload_n 0, 1) := by decide +kernel
theorem dX5_takeName_16 : decode cX5_takeName 16 = .ok (.getfield 9, 3) := by decide +kernel
theorem dX5_takeName_19 : decode cX5_takeName 19 = .ok (.getfield 127, 3) := by decide +kernel
theorem dX5_takeName_22 : decode cX5_takeName 22 = .ok (.invokevirtual 130, 3) := by decide +kernel
theorem dX5_takeName_25 : decode cX5_takeName 25 = .ok (.istore_n 2, 1) := by decide +kernel
theorem dX5_takeName_26 : decode cX5_takeName 26 = .ok (.iload_n 2, 1) := by decide +kernel
theorem dX5_takeName_27 : decode cX5_takeName 27 = .ok (.iconst (-1), 1) := by decide +kernel
theorem dX5_takeName_28 : decode cX5_takeName 28 = .ok (.if_icmp .ne 10, 3) := by decide +kernel
theorem dX5_takeName_31 : decode cX5_takeName 31 = .ok (.aload_n 1, 1) := by decide +kernel
theorem dX5_takeName_32 : decode cX5_takeName 32 = .ok (.invokevirtual 134, 3) := by decide +kernel
theorem dX5_takeName_35 : decode cX5_takeName 35 = .ok (.ifCond .eq 5, 3) := by decide +kernel
theorem dX5_takeName_38 : decode cX5_takeName 38 = .ok (.iload_n 2, 1) := by decide +kernel
theorem dX5_takeName_39 : decode cX5_takeName 39 = .ok (.ireturn, 1) := by decide +kernel
theorem dX5_takeName_40 : decode cX5_takeName 40 = .ok (.aload_n 1, 1) := by decide +kernel
theorem dX5_takeName_41 : decode cX5_takeName 41 = .ok (.aload_n 0, 1) := by decide +kernel
theorem dX5_takeName_42 : decode cX5_takeName 42 = .ok (.getfield 9, 3) := by decide +kernel
theorem dX5_takeName_45 : decode cX5_takeName 45 = .ok (.getfield 124, 3) := by decide +kernel
theorem dX5_takeName_48 : decode cX5_takeName 48 = .ok (.aload_n 0, 1) := by decide +kernel
theorem dX5_takeName_49 : decode cX5_takeName 49 = .ok (.getfield 9, 3) := by decide +kernel
theorem dX5_takeName_52 : decode cX5_takeName 52 = .ok (.getfield 88, 3) := by decide +kernel
theorem dX5_takeName_55 : decode cX5_takeName 55 = .ok (.aload_n 0, 1) := by decide +kernel
theorem dX5_takeName_56 : decode cX5_takeName 56 = .ok (.getfield 9, 3) := by decide +kernel
theorem dX5_takeName_59 : decode cX5_takeName 59 = .ok (.getfield 127, 3) := by decide +kernel
theorem dX5_takeName_62 : decode cX5_takeName 62 = .ok (.invokevirtual 138, 3) := by decide +kernel
theorem dX5_takeName_65 : decode cX5_takeName 65 = .ok (.aload_n 1, 1) := by decide +kernel
theorem dX5_takeName_66 : decode cX5_takeName 66 = .ok (.getfield 25, 3) := by decide +kernel
theorem dX5_takeName_69 : decode cX5_takeName 69 = .ok (.iconst 1, 1) := by decide +kernel
theorem dX5_takeName_70 : decode cX5_takeName 70 = .ok (.isub, 1) := by decide +kernel
theorem dX5_takeName_71 : decode cX5_takeName 71 = .ok (.ireturn, 1) := by decide +kernel
theorem dX5_takeKind_0 : decode cX5_takeKind 0 = .ok (.aload_n 0, 1) := by decide +kernel
theorem dX5_takeKind_1 : decode cX5_takeKind 1 = .ok (.getfield 9, 3) := by decide +kernel
theorem dX5_takeKind_4 : decode cX5_takeKind 4 = .ok (.bipush 40, 2) := by decide +kernel
theorem dX5_takeKind_6 : decode cX5_takeKind 6 = .ok (.invokevirtual 97, 3) := by decide +kernel
theorem dX5_takeKind_9 : decode cX5_takeKind 9 = .ok (.ifCond .eq 8, 3) := by decide +kernel
theorem dX5_takeKind_12 : decode cX5_takeKind 12 = .ok (.aload_n 0, 1) := by decide +kernel
theorem dX5_takeKind_13 : decode cX5_takeKind 13 = .ok (.invokevirtual 101, 3) := by decide +kernel
theorem dX5_takeKind_16 : decode cX5_takeKind 16 = .ok (.ireturn, 1) := by decide +kernel
theorem dX5_takeKind_17 : decode cX5_takeKind 17 = .ok (.aload_n 0, 1) := by decide +kernel
theorem dX5_takeKind_18 : decode cX5_takeKind 18 = .ok (.getfield 9, 3) := by decide +kernel
theorem dX5_takeKind_21 : decode cX5_takeKind 21 = .ok (.bipush 33, 2) := by decide +kernel
theorem dX5_takeKind_23 : decode cX5_takeKind 23 = .ok (.invokevirtual 97, 3) := by decide +kernel
theorem dX5_takeKind_26 : decode cX5_takeKind 26 = .ok (.ifCond .eq 15, 3) := by decide +kernel
theorem dX5_takeKind_29 : decode cX5_takeKind 29 = .ok (.aload_n 0, 1) := by decide +kernel
theorem dX5_takeKind_30 : decode cX5_takeKind 30 = .ok (.iconst 1, 1) := by decide +kernel
theorem dX5_takeKind_31 : decode cX5_takeKind 31 = .ok (.aload_n 0, 1) := by decide +kernel
theorem dX5_takeKind_32 : decode cX5_takeKind 32 = .ok (.getfield 115, 3) := by decide +kernel
theorem dX5_takeKind_35 : decode cX5_takeKind 35 = .ok (.invokevirtual 111, 3) := by decide +kernel
theorem dX5_takeKind_38 : decode cX5_takeKind 38 = .ok (.goto 83, 3) := by decide +kernel
theorem dX5_takeKind_41 : decode cX5_takeKind 41 = .ok (.aload_n 0, 1) := by decide +kernel
theorem dX5_takeKind_42 : decode cX5_takeKind 42 = .ok (.getfield 9, 3) := by decide +kernel
theorem dX5_takeKind_45 : decode cX5_takeKind 45 = .ok (.bipush 42, 2) := by decide +kernel
theorem dX5_takeKind_47 : decode cX5_takeKind 47 = .ok (.invokevirtual 97, 3) := by decide +kernel
theorem dX5_takeKind_50 : decode cX5_takeKind 50 = .ok (.ifCond .eq 19, 3) := by decide +kernel
theorem dX5_takeKind_53 : decode cX5_takeKind 53 = .ok (.aload_n 0, 1) := by decide +kernel
theorem dX5_takeKind_54 : decode cX5_takeKind 54 = .ok (.invokevirtual 142, 3) := by decide +kernel
theorem dX5_takeKind_57 : decode cX5_takeKind 57 = .ok (.aload_n 0, 1) := by decide +kernel
theorem dX5_takeKind_58 : decode cX5_takeKind 58 = .ok (.iconst 2, 1) := by decide +kernel
theorem dX5_takeKind_59 : decode cX5_takeKind 59 = .ok (.aload_n 0, 1) := by decide +kernel
theorem dX5_takeKind_60 : decode cX5_takeKind 60 = .ok (.getfield 115, 3) := by decide +kernel
theorem dX5_takeKind_63 : decode cX5_takeKind 63 = .ok (.invokevirtual 111, 3) := by decide +kernel
theorem dX5_takeKind_66 : decode cX5_takeKind 66 = .ok (.goto 55, 3) := by decide +kernel
theorem dX5_takeKind_69 : decode cX5_takeKind 69 = .ok (.aload_n 0, 1) := by decide +kernel
theorem dX5_takeKind_70 : decode cX5_takeKind 70 = .ok (.getfield 9, 3) := by decide +kernel
theorem dX5_takeKind_73 : decode cX5_takeKind 73 = .ok (.bipush 43, 2) := by decide +kernel
theorem dX5_takeKind_75 : decode cX5_takeKind 75 = .ok (.invokevirtual 97, 3) := by decide +kernel
theorem dX5_takeKind_78 : decode cX5_takeKind 78 = .ok (.ifCond .eq 16, 3) := by decide +kernel
theorem dX5_takeKind_81 : decode cX5_takeKind 81 = .ok (.aload_n 0, 1) := by decide +kernel
theorem dX5_takeKind_82 : decode cX5_takeKind 82 = .ok (.iconst 1, 1) := by decide +kernel
theorem dX5_takeKind_83 : decode cX5_takeKind 83 = .ok (.putfield 121, 3) := by decide +kernel
theorem dX5_takeKind_86 : decode cX5_takeKind 86 = .ok (.aload_n 0, 1) := by decide +kernel
theorem dX5_takeKind_87 : decode cX5_takeKind 87 = .ok (.iconst 2, 1) := by decide +kernel
theorem dX5_takeKind_88 : decode cX5_takeKind 88 = .ok (.putfield 56, 3) := by decide +kernel
theorem dX5_takeKind_91 : decode cX5_takeKind 91 = .ok (.goto 30, 3) := by decide +kernel
theorem dX5_takeKind_94 : decode cX5_takeKind 94 = .ok (.aload_n 0, 1) := by decide +kernel
theorem dX5_takeKind_95 : decode cX5_takeKind 95 = .ok (.getfield 9, 3) := by decide +kernel
theorem dX5_takeKind_98 : decode cX5_takeKind 98 = .ok (.bipush 45, 2) := by decide +kernel
theorem dX5_takeKind_100 : decode cX5_takeKind 100 = .ok (.invokevirtual 97, 3) := by decide +kernel
theorem dX5_takeKind_103 : decode cX5_takeKind 103 = .ok (.ifCond .eq 16, 3) := by decide +kernel
theorem dX5_takeKind_106 : decode cX5_takeKind 106 = .ok (.aload_n 0, 1) := by decide +kernel
theorem dX5_takeKind_107 : decode cX5_takeKind 107 = .ok (.iconst 2, 1) := by decide +kernel
theorem dX5_takeKind_108 : decode cX5_takeKind 108 = .ok (.putfield 121, 3) := by decide +kernel
theorem dX5_takeKind_111 : decode cX5_takeKind 111 = .ok (.aload_n 0, 1) := by decide +kernel
theorem dX5_takeKind_112 : decode cX5_takeKind 112 = .ok (.iconst 2, 1) := by decide +kernel
theorem dX5_takeKind_113 : decode cX5_takeKind 113 = .ok (.putfield 56, 3) := by decide +kernel
theorem dX5_takeKind_116 : decode cX5_takeKind 116 = .ok (.goto 5, 3) := by decide +kernel
theorem dX5_takeKind_119 : decode cX5_takeKind 119 = .ok (.iconst 2, 1) := by decide +kernel
theorem dX5_takeKind_120 : decode cX5_takeKind 120 = .ok (.ireturn, 1) := by decide +kernel
theorem dX5_takeKind_121 : decode cX5_takeKind 121 = .ok (.iconst 0, 1) := by decide +kernel
theorem dX5_takeKind_122 : decode cX5_takeKind 122 = .ok (.ireturn, 1) := by decide +kernel
theorem dX5_noteFoot_0 : decode cX5_noteFoot 0 = .ok (.aload_n 0, 1) := by decide +kernel
theorem dX5_noteFoot_1 : decode cX5_noteFoot 1 = .ok (.dup, 1) := by decide +kernel
theorem dX5_noteFoot_2 : decode cX5_noteFoot 2 = .ok (.getfield 62, 3) := by decide +kernel
theorem dX5_noteFoot_5 : decode cX5_noteFoot 5 = .ok (.iconst 1, 1) := by decide +kernel
theorem dX5_noteFoot_6 : decode cX5_noteFoot 6 = .ok (.iadd, 1) := by decide +kernel
theorem dX5_noteFoot_7 : decode cX5_noteFoot 7 = .ok (.putfield 62, 3) := by decide +kernel
theorem dX5_noteFoot_10 : decode cX5_noteFoot 10 = .ok (.aload_n 0, 1) := by decide +kernel
theorem dX5_noteFoot_11 : decode cX5_noteFoot 11 = .ok (.getfield 62, 3) := by decide +kernel
theorem dX5_noteFoot_14 : decode cX5_noteFoot 14 = .ok (.iconst 2, 1) := by decide +kernel
theorem dX5_noteFoot_15 : decode cX5_noteFoot 15 = .ok (.if_icmp .gt 19, 3) := by decide +kernel
theorem dX5_noteFoot_18 : decode cX5_noteFoot 18 = .ok (.aload_n 0, 1) := by decide +kernel
theorem dX5_noteFoot_19 : decode cX5_noteFoot 19 = .ok (.aload_n 0, 1) := by decide +kernel
theorem dX5_noteFoot_20 : decode cX5_noteFoot 20 = .ok (.getfield 118, 3) := by decide +kernel
theorem dX5_noteFoot_23 : decode cX5_noteFoot 23 = .ok (.putfield 145, 3) := by decide +kernel
theorem dX5_noteFoot_26 : decode cX5_noteFoot 26 = .ok (.aload_n 0, 1) := by decide +kernel
theorem dX5_noteFoot_27 : decode cX5_noteFoot 27 = .ok (.aload_n 0, 1) := by decide +kernel
theorem dX5_noteFoot_28 : decode cX5_noteFoot 28 = .ok (.getfield 115, 3) := by decide +kernel
theorem dX5_noteFoot_31 : decode cX5_noteFoot 31 = .ok (.putfield 148, 3) := by decide +kernel
theorem dX5_noteFoot_34 : decode cX5_noteFoot 34 = .ok (.return_, 1) := by decide +kernel
theorem dX5_addLeaf_0 : decode cX5_addLeaf 0 = .ok (.aload_n 0, 1) := by decide +kernel
theorem dX5_addLeaf_1 : decode cX5_addLeaf 1 = .ok (.getfield 15, 3) := by decide +kernel
theorem dX5_addLeaf_4 : decode cX5_addLeaf 4 = .ok (.aload_n 0, 1) := by decide +kernel
theorem dX5_addLeaf_5 : decode cX5_addLeaf 5 = .ok (.getfield 15, 3) := by decide +kernel
theorem dX5_addLeaf_8 : decode cX5_addLeaf 8 = .ok (.getfield 46, 3) := by decide +kernel
theorem dX5_addLeaf_11 : decode cX5_addLeaf 11 = .ok (.iload_n 1, 1) := by decide +kernel
theorem dX5_addLeaf_12 : decode cX5_addLeaf 12 = .ok (.iload_n 2, 1) := by decide +kernel
theorem dX5_addLeaf_13 : decode cX5_addLeaf 13 = .ok (.aload_n 0, 1) := by decide +kernel
theorem dX5_addLeaf_14 : decode cX5_addLeaf 14 = .ok (.getfield 59, 3) := by decide +kernel
theorem dX5_addLeaf_17 : decode cX5_addLeaf 17 = .ok (.invokevirtual 151, 3) := by decide +kernel
theorem dX5_addLeaf_20 : decode cX5_addLeaf 20 = .ok (.aload_n 0, 1) := by decide +kernel
theorem dX5_addLeaf_21 : decode cX5_addLeaf 21 = .ok (.aload_n 0, 1) := by decide +kernel
theorem dX5_addLeaf_22 : decode cX5_addLeaf 22 = .ok (.getfield 59, 3) := by decide +kernel
theorem dX5_addLeaf_25 : decode cX5_addLeaf 25 = .ok (.iconst (-1), 1) := by decide +kernel
theorem dX5_addLeaf_26 : decode cX5_addLeaf 26 = .ok (.if_icmp .ne 7, 3) := by decide +kernel
theorem dX5_addLeaf_29 : decode cX5_addLeaf 29 = .ok (.iconst 4, 1) := by decide +kernel
theorem dX5_addLeaf_30 : decode cX5_addLeaf 30 = .ok (.goto 4, 3) := by decide +kernel
theorem dX5_addLeaf_33 : decode cX5_addLeaf 33 = .ok (.iconst 3, 1) := by decide +kernel
theorem dX5_addLeaf_34 : decode cX5_addLeaf 34 = .ok (.putfield 56, 3) := by decide +kernel
theorem dX5_addLeaf_37 : decode cX5_addLeaf 37 = .ok (.return_, 1) := by decide +kernel
theorem dX5_openParts_0 : decode cX5_openParts 0 = .ok (.aload_n 0, 1) := by decide +kernel
theorem dX5_openParts_1 : decode cX5_openParts 1 = .ok (.getfield 15, 3) := by decide +kernel
theorem dX5_openParts_4 : decode cX5_openParts 4 = .ok (.aload_n 0, 1) := by decide +kernel
theorem dX5_openParts_5 : decode cX5_openParts 5 = .ok (.getfield 15, 3) := by decide +kernel
theorem dX5_openParts_8 : decode cX5_openParts 8 = .ok (.getfield 46, 3) := by decide +kernel
theorem dX5_openParts_11 : decode cX5_openParts 11 = .ok (.iconst 0, 1) := by decide +kernel
theorem dX5_openParts_12 : decode cX5_openParts 12 = .ok (.aload_n 0, 1) := by decide +kernel
theorem dX5_openParts_13 : decode cX5_openParts 13 = .ok (.getfield 115, 3) := by decide +kernel
theorem dX5_openParts_16 : decode cX5_openParts 16 = .ok (.aload_n 0, 1) := by decide +kernel
theorem dX5_openParts_17 : decode cX5_openParts 17 = .ok (.getfield 59, 3) := by decide +kernel
theorem dX5_openParts_20 : decode cX5_openParts 20 = .ok (.invokevirtual 151, 3) := by decide +kernel
theorem dX5_openParts_23 : decode cX5_openParts 23 = .ok (.aload_n 0, 1) := by decide +kernel
theorem dX5_openParts_24 : decode cX5_openParts 24 = .ok (.aload_n 0, 1) := by decide +kernel
theorem dX5_openParts_25 : decode cX5_openParts 25 = .ok (.getfield 15, 3) := by decide +kernel
theorem dX5_openParts_28 : decode cX5_openParts 28 = .ok (.getfield 69, 3) := by decide +kernel
theorem dX5_openParts_31 : decode cX5_openParts 31 = .ok (.aload_n 0, 1) := by decide +kernel
theorem dX5_openParts_32 : decode cX5_openParts 32 = .ok (.getfield 15, 3) := by decide +kernel
theorem dX5_openParts_35 : decode cX5_openParts 35 = .ok (.getfield 46, 3) := by decide +kernel
theorem dX5_openParts_38 : decode cX5_openParts 38 = .ok (.iaload, 1) := by decide +kernel
theorem dX5_openParts_39 : decode cX5_openParts 39 = .ok (.iconst 1, 1) := by decide +kernel
theorem dX5_openParts_40 : decode cX5_openParts 40 = .ok (.isub, 1) := by decide +kernel
theorem dX5_openParts_41 : decode cX5_openParts 41 = .ok (.putfield 59, 3) := by decide +kernel
theorem dX5_openParts_44 : decode cX5_openParts 44 = .ok (.aload_n 0, 1) := by decide +kernel
theorem dX5_openParts_45 : decode cX5_openParts 45 = .ok (.getfield 15, 3) := by decide +kernel
theorem dX5_openParts_48 : decode cX5_openParts 48 = .ok (.aload_n 0, 1) := by decide +kernel
theorem dX5_openParts_49 : decode cX5_openParts 49 = .ok (.getfield 15, 3) := by decide +kernel
theorem dX5_openParts_52 : decode cX5_openParts 52 = .ok (.getfield 46, 3) := by decide +kernel
theorem dX5_openParts_55 : decode cX5_openParts 55 = .ok (.aload_n 0, 1) := by decide +kernel
theorem dX5_openParts_56 : decode cX5_openParts 56 = .ok (.getfield 59, 3) := by decide +kernel
theorem dX5_openParts_59 : decode cX5_openParts 59 = .ok (.invokestatic 155, 3) := by decide +kernel
theorem dX5_openParts_62 : decode cX5_openParts 62 = .ok (.iconst 4, 1) := by decide +kernel
theorem dX5_openParts_63 : decode cX5_openParts 63 = .ok (.aload_n 0, 1) := by decide +kernel
theorem dX5_openParts_64 : decode cX5_openParts 64 = .ok (.getfield 121, 3) := by decide +kernel
theorem dX5_openParts_67 : decode cX5_openParts 67 = .ok (.invokevirtual 159, 3) := by decide +kernel
theorem dX5_openParts_70 : decode cX5_openParts 70 = .ok (.aload_n 0, 1) := by decide +kernel
theorem dX5_openParts_71 : decode cX5_openParts 71 = .ok (.iconst 0, 1) := by decide +kernel
theorem dX5_openParts_72 : decode cX5_openParts 72 = .ok (.putfield 56, 3) := by decide +kernel
theorem dX5_openParts_75 : decode cX5_openParts 75 = .ok (.iconst 0, 1) := by decide +kernel
theorem dX5_openParts_76 : decode cX5_openParts 76 = .ok (.ireturn, 1) := by decide +kernel
theorem dX5_closeParts_0 : decode cX5_closeParts 0 = .ok (.aload_n 0, 1) := by decide +kernel
theorem dX5_closeParts_1 : decode cX5_closeParts 1 = .ok (.aload_n 0, 1) := by decide +kernel
theorem dX5_closeParts_2 : decode cX5_closeParts 2 = .ok (.getfield 15, 3) := by decide +kernel
theorem dX5_closeParts_5 : decode cX5_closeParts 5 = .ok (.aload_n 0, 1) := by decide +kernel
theorem dX5_closeParts_6 : decode cX5_closeParts 6 = .ok (.getfield 15, 3) := by decide +kernel
theorem dX5_closeParts_9 : decode cX5_closeParts 9 = .ok (.getfield 46, 3) := by decide +kernel
theorem dX5_closeParts_12 : decode cX5_closeParts 12 = .ok (.aload_n 0, 1) := by decide +kernel
theorem dX5_closeParts_13 : decode cX5_closeParts 13 = .ok (.getfield 59, 3) := by decide +kernel
theorem dX5_closeParts_16 : decode cX5_closeParts 16 = .ok (.invokestatic 155, 3) := by decide +kernel
theorem dX5_closeParts_19 : decode cX5_closeParts 19 = .ok (.iconst 2, 1) := by decide +kernel
theorem dX5_closeParts_20 : decode cX5_closeParts 20 = .ok (.invokevirtual 163, 3) := by decide +kernel
theorem dX5_closeParts_23 : decode cX5_closeParts 23 = .ok (.putfield 59, 3) := by decide +kernel
theorem dX5_closeParts_26 : decode cX5_closeParts 26 = .ok (.aload_n 0, 1) := by decide +kernel
theorem dX5_closeParts_27 : decode cX5_closeParts 27 = .ok (.aload_n 0, 1) := by decide +kernel
theorem dX5_closeParts_28 : decode cX5_closeParts 28 = .ok (.getfield 59, 3) := by decide +kernel
theorem dX5_closeParts_31 : decode cX5_closeParts 31 = .ok (.iconst (-1), 1) := by decide +kernel
theorem dX5_closeParts_32 : decode cX5_closeParts 32 = .ok (.if_icmp .ne 7, 3) := by decide +kernel
theorem dX5_closeParts_35 : decode cX5_closeParts 35 = .ok (.iconst 4, 1) := by decide +kernel
theorem dX5_closeParts_36 : decode cX5_closeParts 36 = .ok (.goto 4, 3) := by decide +kernel
theorem dX5_closeParts_39 : decode cX5_closeParts 39 = .ok (.iconst 3, 1) := by decide +kernel
theorem dX5_closeParts_40 : decode cX5_closeParts 40 = .ok (.putfield 56, 3) := by decide +kernel
theorem dX5_closeParts_43 : decode cX5_closeParts 43 = .ok (.iconst 0, 1) := by decide +kernel
theorem dX5_closeParts_44 : decode cX5_closeParts 44 = .ok (.ireturn, 1) := by decide +kernel
theorem dX5_judge_0 : decode cX5_judge 0 = .ok (.aload_n 0, 1) := by decide +kernel
theorem dX5_judge_1 : decode cX5_judge 1 = .ok (.getfield 15, 3) := by decide +kernel
theorem dX5_judge_4 : decode cX5_judge 4 = .ok (.getfield 46, 3) := by decide +kernel
theorem dX5_judge_7 : decode cX5_judge 7 = .ok (.iconst 0, 1) := by decide +kernel
theorem dX5_judge_8 : decode cX5_judge 8 = .ok (.invokestatic 155, 3) := by decide +kernel
theorem dX5_judge_11 : decode cX5_judge 11 = .ok (.istore_n 1, 1) := by decide +kernel
theorem dX5_judge_12 : decode cX5_judge 12 = .ok (.aload_n 0, 1) := by decide +kernel
theorem dX5_judge_13 : decode cX5_judge 13 = .ok (.getfield 15, 3) := by decide +kernel
theorem dX5_judge_16 : decode cX5_judge 16 = .ok (.iload_n 1, 1) := by decide +kernel
theorem dX5_judge_17 : decode cX5_judge 17 = .ok (.iconst 0, 1) := by decide +kernel
theorem dX5_judge_18 : decode cX5_judge 18 = .ok (.invokevirtual 163, 3) := by decide +kernel
theorem dX5_judge_21 : decode cX5_judge 21 = .ok (.ifCond .eq 12, 3) := by decide +kernel
theorem dX5_judge_24 : decode cX5_judge 24 = .ok (.aload_n 0, 1) := by decide +kernel
theorem dX5_judge_25 : decode cX5_judge 25 = .ok (.iconst 4, 1) := by decide +kernel
theorem dX5_judge_26 : decode cX5_judge 26 = .ok (.iconst 0, 1) := by decide +kernel
theorem dX5_judge_27 : decode cX5_judge 27 = .ok (.invokevirtual 166, 3) := by decide +kernel
theorem dX5_judge_30 : decode cX5_judge 30 = .ok (.goto 96, 3) := by decide +kernel
theorem dX5_judge_33 : decode cX5_judge 33 = .ok (.aload_n 0, 1) := by decide +kernel
theorem dX5_judge_34 : decode cX5_judge 34 = .ok (.getfield 62, 3) := by decide +kernel
theorem dX5_judge_37 : decode cX5_judge 37 = .ok (.iconst 1, 1) := by decide +kernel
theorem dX5_judge_38 : decode cX5_judge 38 = .ok (.if_icmp .le 15, 3) := by decide +kernel
theorem dX5_judge_41 : decode cX5_judge 41 = .ok (.aload_n 0, 1) := by decide +kernel
theorem dX5_judge_42 : decode cX5_judge 42 = .ok (.iconst 5, 1) := by decide +kernel
theorem dX5_judge_43 : decode cX5_judge 43 = .ok (.aload_n 0, 1) := by decide +kernel
theorem dX5_judge_44 : decode cX5_judge 44 = .ok (.getfield 145, 3) := by decide +kernel
theorem dX5_judge_47 : decode cX5_judge 47 = .ok (.invokevirtual 166, 3) := by decide +kernel
theorem dX5_judge_50 : decode cX5_judge 50 = .ok (.goto 76, 3) := by decide +kernel
theorem dX5_judge_53 : decode cX5_judge 53 = .ok (.aload_n 0, 1) := by decide +kernel
theorem dX5_judge_54 : decode cX5_judge 54 = .ok (.getfield 62, 3) := by decide +kernel
theorem dX5_judge_57 : decode cX5_judge 57 = .ok (.iconst 1, 1) := by decide +kernel
theorem dX5_judge_58 : decode cX5_judge 58 = .ok (.if_icmp .ne 32, 3) := by decide +kernel
theorem dX5_judge_61 : decode cX5_judge 61 = .ok (.aload_n 0, 1) := by decide +kernel
theorem dX5_judge_62 : decode cX5_judge 62 = .ok (.getfield 148, 3) := by decide +kernel
theorem dX5_judge_65 : decode cX5_judge 65 = .ok (.aload_n 0, 1) := by decide +kernel
theorem dX5_judge_66 : decode cX5_judge 66 = .ok (.getfield 15, 3) := by decide +kernel
theorem dX5_judge_69 : decode cX5_judge 69 = .ok (.iload_n 1, 1) := by decide +kernel
theorem dX5_judge_70 : decode cX5_judge 70 = .ok (.iconst 1, 1) := by decide +kernel
theorem dX5_judge_71 : decode cX5_judge 71 = .ok (.invokevirtual 163, 3) := by decide +kernel
theorem dX5_judge_74 : decode cX5_judge 74 = .ok (.if_icmp .eq 16, 3) := by decide +kernel
theorem dX5_judge_77 : decode cX5_judge 77 = .ok (.aload_n 0, 1) := by decide +kernel
theorem dX5_judge_78 : decode cX5_judge 78 = .ok (.bipush 6, 2) := by decide +kernel
theorem dX5_judge_80 : decode cX5_judge 80 = .ok (.aload_n 0, 1) := by decide +kernel
theorem dX5_judge_81 : decode cX5_judge 81 = .ok (.getfield 145, 3) := by decide +kernel
theorem dX5_judge_84 : decode cX5_judge 84 = .ok (.invokevirtual 166, 3) := by decide +kernel
theorem dX5_judge_87 : decode cX5_judge 87 = .ok (.goto 39, 3) := by decide +kernel
theorem dX5_judge_90 : decode cX5_judge 90 = .ok (.aload_n 0, 1) := by decide +kernel
theorem dX5_judge_91 : decode cX5_judge 91 = .ok (.getfield 65, 3) := by decide +kernel
theorem dX5_judge_94 : decode cX5_judge 94 = .ok (.ifCond .ne 13, 3) := by decide +kernel
theorem dX5_judge_97 : decode cX5_judge 97 = .ok (.aload_n 0, 1) := by decide +kernel
theorem dX5_judge_98 : decode cX5_judge 98 = .ok (.bipush 7, 2) := by decide +kernel
theorem dX5_judge_100 : decode cX5_judge 100 = .ok (.iconst 0, 1) := by decide +kernel
theorem dX5_judge_101 : decode cX5_judge 101 = .ok (.invokevirtual 166, 3) := by decide +kernel
theorem dX5_judge_104 : decode cX5_judge 104 = .ok (.goto 22, 3) := by decide +kernel
theorem dX5_judge_107 : decode cX5_judge 107 = .ok (.aload_n 0, 1) := by decide +kernel
theorem dX5_judge_108 : decode cX5_judge 108 = .ok (.getfield 15, 3) := by decide +kernel
theorem dX5_judge_111 : decode cX5_judge 111 = .ok (.getfield 46, 3) := by decide +kernel
theorem dX5_judge_114 : decode cX5_judge 114 = .ok (.bipush 16, 2) := by decide +kernel
theorem dX5_judge_116 : decode cX5_judge 116 = .ok (.if_icmp .lt 10, 3) := by decide +kernel
theorem dX5_judge_119 : decode cX5_judge 119 = .ok (.aload_n 0, 1) := by decide +kernel
theorem dX5_judge_120 : decode cX5_judge 120 = .ok (.bipush 8, 2) := by decide +kernel
theorem dX5_judge_122 : decode cX5_judge 122 = .ok (.iconst 0, 1) := by decide +kernel
theorem dX5_judge_123 : decode cX5_judge 123 = .ok (.invokevirtual 166, 3) := by decide +kernel
theorem dX5_judge_126 : decode cX5_judge 126 = .ok (.return_, 1) := by decide +kernel
theorem dX5_refuse_0 : decode cX5_refuse 0 = .ok (.aload_n 0, 1) := by decide +kernel
theorem dX5_refuse_1 : decode cX5_refuse 1 = .ok (.iload_n 1, 1) := by decide +kernel
theorem dX5_refuse_2 : decode cX5_refuse 2 = .ok (.putfield 40, 3) := by decide +kernel
theorem dX5_refuse_5 : decode cX5_refuse 5 = .ok (.aload_n 0, 1) := by decide +kernel
theorem dX5_refuse_6 : decode cX5_refuse 6 = .ok (.iload_n 2, 1) := by decide +kernel
theorem dX5_refuse_7 : decode cX5_refuse 7 = .ok (.putfield 53, 3) := by decide +kernel
theorem dX5_refuse_10 : decode cX5_refuse 10 = .ok (.return_, 1) := by decide +kernel

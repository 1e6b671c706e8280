theorem dX8_init_0 : decode cX8_init 0 = .ok (.aload_n 0, 1) := by decide +kernel
theorem dX8_init_1 : decode cX8_init 1 = .ok (.invokespecial 3, 3) := by decide +kernel
theorem dX8_init_4 : decode cX8_init 4 = .ok (.aload_n 0, 1) := by decide +kernel
theorem dX8_init_5 : decode cX8_init 5 = .ok (.new 9, 3) := by decide +kernel
theorem dX8_init_8 : decode cX8_init 8 = .ok (.dup, 1) := by decide +kernel
theorem dX8_init_9 : decode cX8_init 9 = .ok (.invokespecial 11, 3) := by decide +kernel
theorem dX8_init_12 : decode cX8_init 12 = .ok (.putfield 12, 3) := by decide +kernel
theorem dX8_init_15 : decode cX8_init 15 = .ok (.aload_n 0, 1) := by decide +kernel
theorem dX8_init_16 : decode cX8_init 16 = .ok (.new 16, 3) := by decide +kernel
theorem dX8_init_19 : decode cX8_init 19 = .ok (.dup, 1) := by decide +kernel
theorem dX8_init_20 : decode cX8_init 20 = .ok (.invokespecial 18, 3) := by decide +kernel
theorem dX8_init_23 : decode cX8_init 23 = .ok (.putfield 19, 3) := by decide +kernel
theorem dX8_init_26 : decode cX8_init 26 = .ok (.aload_n 0, 1) := by decide +kernel
theorem dX8_init_27 : decode cX8_init 27 = .ok (.new 23, 3) := by decide +kernel
theorem dX8_init_30 : decode cX8_init 30 = .ok (.dup, 1) := by decide +kernel
theorem dX8_init_31 : decode cX8_init 31 = .ok (.aload_n 0, 1) := by decide +kernel
theorem dX8_init_32 : decode cX8_init 32 = .ok (.getfield 12, 3) := by decide +kernel
theorem dX8_init_35 : decode cX8_init 35 = .ok (.aload_n 0, 1) := by decide +kernel
theorem dX8_init_36 : decode cX8_init 36 = .ok (.getfield 19, 3) := by decide +kernel
theorem dX8_init_39 : decode cX8_init 39 = .ok (.invokespecial 25, 3) := by decide +kernel
theorem dX8_init_42 : decode cX8_init 42 = .ok (.putfield 28, 3) := by decide +kernel
theorem dX8_init_45 : decode cX8_init 45 = .ok (.aload_n 0, 1) := by decide +kernel
theorem dX8_init_46 : decode cX8_init 46 = .ok (.new 32, 3) := by decide +kernel
theorem dX8_init_49 : decode cX8_init 49 = .ok (.dup, 1) := by decide +kernel
theorem dX8_init_50 : decode cX8_init 50 = .ok (.aload_n 0, 1) := by decide +kernel
theorem dX8_init_51 : decode cX8_init 51 = .ok (.getfield 12, 3) := by decide +kernel
theorem dX8_init_54 : decode cX8_init 54 = .ok (.invokespecial 34, 3) := by decide +kernel
theorem dX8_init_57 : decode cX8_init 57 = .ok (.putfield 37, 3) := by decide +kernel
theorem dX8_init_60 : decode cX8_init 60 = .ok (.aload_n 0, 1) := by decide +kernel
theorem dX8_init_61 : decode cX8_init 61 = .ok (.new 41, 3) := by decide +kernel
theorem dX8_init_64 : decode cX8_init 64 = .ok (.dup, 1) := by decide +kernel
theorem dX8_init_65 : decode cX8_init 65 = .ok (.aload_n 0, 1) := by decide +kernel
theorem dX8_init_66 : decode cX8_init 66 = .ok (.getfield 19, 3) := by decide +kernel
theorem dX8_init_69 : decode cX8_init 69 = .ok (.invokespecial 43, 3) := by decide +kernel
theorem dX8_init_72 : decode cX8_init 72 = .ok (.putfield 46, 3) := by decide +kernel
theorem dX8_init_75 : decode cX8_init 75 = .ok (.aload_n 0, 1) := by decide +kernel
theorem dX8_init_76 : decode cX8_init 76 = .ok (.new 50, 3) := by decide +kernel
theorem dX8_init_79 : decode cX8_init 79 = .ok (.dup, 1) := by decide +kernel
theorem dX8_init_80 : decode cX8_init 80 = .ok (.aload_n 0, 1) := by decide +kernel
theorem dX8_init_81 : decode cX8_init 81 = .ok (.getfield 19, 3) := by decide +kernel
theorem dX8_init_84 : decode cX8_init 84 = .ok (.aload_n 0, 1) := by decide +kernel
theorem dX8_init_85 : decode cX8_init 85 = .ok (.getfield 46, 3) := by decide +kernel
theorem dX8_init_88 : decode cX8_init 88 = .ok (.invokespecial 52, 3) := by decide +kernel
theorem dX8_init_91 : decode cX8_init 91 = .ok (.putfield 55, 3) := by decide +kernel
theorem dX8_init_94 : decode cX8_init 94 = .ok (.aload_n 0, 1) := by decide +kernel
theorem dX8_init_95 : decode cX8_init 95 = .ok (.new 59, 3) := by decide +kernel
theorem dX8_init_98 : decode cX8_init 98 = .ok (.dup, 1) := by decide +kernel
theorem dX8_init_99 : decode cX8_init 99 = .ok (.aload_n 0, 1) := by decide +kernel
theorem dX8_init_100 : decode cX8_init 100 = .ok (.getfield 19, 3) := by decide +kernel
theorem dX8_init_103 : decode cX8_init 103 = .ok (.aload_n 0, 1) := by decide +kernel
theorem dX8_init_104 : decode cX8_init 104 = .ok (.getfield 55, 3) := by decide +kernel
theorem dX8_init_107 : decode cX8_init 107 = .ok (.invokespecial 61, 3) := by decide +kernel
theorem dX8_init_110 : decode cX8_init 110 = .ok (.putfield 64, 3) := by decide +kernel
theorem dX8_init_113 : decode cX8_init 113 = .ok (.aload_n 0, 1) := by decide +kernel
theorem dX8_init_114 : decode cX8_init 114 = .ok (.iconst 0, 1) := by decide +kernel
theorem dX8_init_115 : decode cX8_init 115 = .ok (.putfield 68, 3) := by decide +kernel
theorem dX8_init_118 : decode cX8_init 118 = .ok (.aload_n 0, 1) := by decide +kernel
theorem dX8_init_119 : decode cX8_init 119 = .ok (.iconst (-1), 1) := by decide +kernel
theorem dX8_init_120 : decode cX8_init 120 = .ok (.putfield 72, 3) := by decide +kernel
theorem dX8_init_123 : decode cX8_init 123 = .ok (.aload_n 0, 1) := by decide +kernel
theorem dX8_init_124 : decode cX8_init 124 = .ok (.iconst (-1), 1) := by decide +kernel
theorem dX8_init_125 : decode cX8_init 125 = .ok (.putfield 75, 3) := by decide +kernel
theorem dX8_init_128 : decode cX8_init 128 = .ok (.return_, 1) := by decide +kernel
theorem dX8_feed_0 : decode cX8_feed 0 = .ok (.aload_n 0, 1) := by decide +kernel
theorem dX8_feed_1 : decode cX8_feed 1 = .ok (.getfield 12, 3) := by decide +kernel
theorem dX8_feed_4 : decode cX8_feed 4 = .ok (.getfield 78, 3) := by decide +kernel
theorem dX8_feed_7 : decode cX8_feed 7 = .ok (.bipush 20, 2) := by decide +kernel
theorem dX8_feed_9 : decode cX8_feed 9 = .ok (.iadd, 1) := by decide +kernel
theorem dX8_feed_10 : decode cX8_feed 10 = .ok (.sipush 1000, 3) := by decide +kernel
theorem dX8_feed_13 : decode cX8_feed 13 = .ok (.if_icmp .le 13, 3) := by decide +kernel
theorem dX8_feed_16 : decode cX8_feed 16 = .ok (.new 81, 3) := by decide +kernel
theorem dX8_feed_19 : decode cX8_feed 19 = .ok (.dup, 1) := by decide +kernel
theorem dX8_feed_20 : decode cX8_feed 20 = .ok (.ldc 83, 2) := by decide +kernel
theorem dX8_feed_22 : decode cX8_feed 22 = .ok (.invokespecial 85, 3) := by decide +kernel
theorem dX8_feed_25 : decode cX8_feed 25 = .ok (.athrow, 1) := by decide +kernel
theorem dX8_feed_26 : decode cX8_feed 26 = .ok (.aload_n 0, 1) := by decide +kernel
theorem dX8_feed_27 : decode cX8_feed 27 = .ok (.getfield 12, 3) := by decide +kernel
theorem dX8_feed_30 : decode cX8_feed 30 = .ok (.iload_n 1, 1) := by decide +kernel
theorem dX8_feed_31 : decode cX8_feed 31 = .ok (.invokevirtual 88, 3) := by decide +kernel
theorem dX8_feed_34 : decode cX8_feed 34 = .ok (.aload_n 0, 1) := by decide +kernel
theorem dX8_feed_35 : decode cX8_feed 35 = .ok (.getfield 12, 3) := by decide +kernel
theorem dX8_feed_38 : decode cX8_feed 38 = .ok (.iload_n 2, 1) := by decide +kernel
theorem dX8_feed_39 : decode cX8_feed 39 = .ok (.invokevirtual 88, 3) := by decide +kernel
theorem dX8_feed_42 : decode cX8_feed 42 = .ok (.aload_n 0, 1) := by decide +kernel
theorem dX8_feed_43 : decode cX8_feed 43 = .ok (.getfield 12, 3) := by decide +kernel
theorem dX8_feed_46 : decode cX8_feed 46 = .ok (.iload_n 3, 1) := by decide +kernel
theorem dX8_feed_47 : decode cX8_feed 47 = .ok (.invokevirtual 88, 3) := by decide +kernel
theorem dX8_feed_50 : decode cX8_feed 50 = .ok (.aload_n 0, 1) := by decide +kernel
theorem dX8_feed_51 : decode cX8_feed 51 = .ok (.getfield 12, 3) := by decide +kernel
theorem dX8_feed_54 : decode cX8_feed 54 = .ok (.iload 4, 2) := by decide +kernel
theorem dX8_feed_56 : decode cX8_feed 56 = .ok (.invokevirtual 88, 3) := by decide +kernel
theorem dX8_feed_59 : decode cX8_feed 59 = .ok (.aload_n 0, 1) := by decide +kernel
theorem dX8_feed_60 : decode cX8_feed 60 = .ok (.getfield 12, 3) := by decide +kernel
theorem dX8_feed_63 : decode cX8_feed 63 = .ok (.iload 5, 2) := by decide +kernel
theorem dX8_feed_65 : decode cX8_feed 65 = .ok (.invokevirtual 88, 3) := by decide +kernel
theorem dX8_feed_68 : decode cX8_feed 68 = .ok (.aload_n 0, 1) := by decide +kernel
theorem dX8_feed_69 : decode cX8_feed 69 = .ok (.getfield 12, 3) := by decide +kernel
theorem dX8_feed_72 : decode cX8_feed 72 = .ok (.getfield 78, 3) := by decide +kernel
theorem dX8_feed_75 : decode cX8_feed 75 = .ok (.ireturn, 1) := by decide +kernel
theorem dX8_end_0 : decode cX8_end 0 = .ok (.iload_n 1, 1) := by decide +kernel
theorem dX8_end_1 : decode cX8_end 1 = .ok (.ifCond .lt 14, 3) := by decide +kernel
theorem dX8_end_4 : decode cX8_end 4 = .ok (.iload_n 1, 1) := by decide +kernel
theorem dX8_end_5 : decode cX8_end 5 = .ok (.aload_n 0, 1) := by decide +kernel
theorem dX8_end_6 : decode cX8_end 6 = .ok (.getfield 12, 3) := by decide +kernel
theorem dX8_end_9 : decode cX8_end 9 = .ok (.getfield 78, 3) := by decide +kernel
theorem dX8_end_12 : decode cX8_end 12 = .ok (.if_icmp .le 13, 3) := by decide +kernel
theorem dX8_end_15 : decode cX8_end 15 = .ok (.new 92, 3) := by decide +kernel
theorem dX8_end_18 : decode cX8_end 18 = .ok (.dup, 1) := by decide +kernel
theorem dX8_end_19 : decode cX8_end 19 = .ok (.ldc 94, 2) := by decide +kernel
theorem dX8_end_21 : decode cX8_end 21 = .ok (.invokespecial 96, 3) := by decide +kernel
theorem dX8_end_24 : decode cX8_end 24 = .ok (.athrow, 1) := by decide +kernel
theorem dX8_end_25 : decode cX8_end 25 = .ok (.aload_n 0, 1) := by decide +kernel
theorem dX8_end_26 : decode cX8_end 26 = .ok (.getfield 12, 3) := by decide +kernel
theorem dX8_end_29 : decode cX8_end 29 = .ok (.iload_n 1, 1) := by decide +kernel
theorem dX8_end_30 : decode cX8_end 30 = .ok (.putfield 78, 3) := by decide +kernel
theorem dX8_end_33 : decode cX8_end 33 = .ok (.return_, 1) := by decide +kernel
theorem dX8_tree_0 : decode cX8_tree 0 = .ok (.aload_n 0, 1) := by decide +kernel
theorem dX8_tree_1 : decode cX8_tree 1 = .ok (.getfield 28, 3) := by decide +kernel
theorem dX8_tree_4 : decode cX8_tree 4 = .ok (.invokevirtual 97, 3) := by decide +kernel
theorem dX8_tree_7 : decode cX8_tree 7 = .ok (.aload_n 0, 1) := by decide +kernel
theorem dX8_tree_8 : decode cX8_tree 8 = .ok (.getfield 12, 3) := by decide +kernel
theorem dX8_tree_11 : decode cX8_tree 11 = .ok (.iconst 0, 1) := by decide +kernel
theorem dX8_tree_12 : decode cX8_tree 12 = .ok (.putfield 78, 3) := by decide +kernel
theorem dX8_tree_15 : decode cX8_tree 15 = .ok (.aload_n 0, 1) := by decide +kernel
theorem dX8_tree_16 : decode cX8_tree 16 = .ok (.aload_n 0, 1) := by decide +kernel
theorem dX8_tree_17 : decode cX8_tree 17 = .ok (.getfield 28, 3) := by decide +kernel
theorem dX8_tree_20 : decode cX8_tree 20 = .ok (.getfield 100, 3) := by decide +kernel
theorem dX8_tree_23 : decode cX8_tree 23 = .ok (.putfield 68, 3) := by decide +kernel
theorem dX8_tree_26 : decode cX8_tree 26 = .ok (.aload_n 0, 1) := by decide +kernel
theorem dX8_tree_27 : decode cX8_tree 27 = .ok (.getfield 68, 3) := by decide +kernel
theorem dX8_tree_30 : decode cX8_tree 30 = .ok (.ifCond .eq 13, 3) := by decide +kernel
theorem dX8_tree_33 : decode cX8_tree 33 = .ok (.iconst (-1), 1) := by decide +kernel
theorem dX8_tree_34 : decode cX8_tree 34 = .ok (.aload_n 0, 1) := by decide +kernel
theorem dX8_tree_35 : decode cX8_tree 35 = .ok (.getfield 28, 3) := by decide +kernel
theorem dX8_tree_38 : decode cX8_tree 38 = .ok (.getfield 103, 3) := by decide +kernel
theorem dX8_tree_41 : decode cX8_tree 41 = .ok (.isub, 1) := by decide +kernel
theorem dX8_tree_42 : decode cX8_tree 42 = .ok (.ireturn, 1) := by decide +kernel
theorem dX8_tree_43 : decode cX8_tree 43 = .ok (.aload_n 0, 1) := by decide +kernel
theorem dX8_tree_44 : decode cX8_tree 44 = .ok (.invokevirtual 106, 3) := by decide +kernel
theorem dX8_tree_47 : decode cX8_tree 47 = .ok (.aload_n 0, 1) := by decide +kernel
theorem dX8_tree_48 : decode cX8_tree 48 = .ok (.getfield 19, 3) := by decide +kernel
theorem dX8_tree_51 : decode cX8_tree 51 = .ok (.getfield 109, 3) := by decide +kernel
theorem dX8_tree_54 : decode cX8_tree 54 = .ok (.iconst 1, 1) := by decide +kernel
theorem dX8_tree_55 : decode cX8_tree 55 = .ok (.isub, 1) := by decide +kernel
theorem dX8_tree_56 : decode cX8_tree 56 = .ok (.ireturn, 1) := by decide +kernel
theorem dX8_sentence_0 : decode cX8_sentence 0 = .ok (.aload_n 0, 1) := by decide +kernel
theorem dX8_sentence_1 : decode cX8_sentence 1 = .ok (.aload_n 0, 1) := by decide +kernel
theorem dX8_sentence_2 : decode cX8_sentence 2 = .ok (.getfield 37, 3) := by decide +kernel
theorem dX8_sentence_5 : decode cX8_sentence 5 = .ok (.invokevirtual 112, 3) := by decide +kernel
theorem dX8_sentence_8 : decode cX8_sentence 8 = .ok (.putfield 68, 3) := by decide +kernel
theorem dX8_sentence_11 : decode cX8_sentence 11 = .ok (.aload_n 0, 1) := by decide +kernel
theorem dX8_sentence_12 : decode cX8_sentence 12 = .ok (.getfield 12, 3) := by decide +kernel
theorem dX8_sentence_15 : decode cX8_sentence 15 = .ok (.getfield 115, 3) := by decide +kernel
theorem dX8_sentence_18 : decode cX8_sentence 18 = .ok (.istore_n 1, 1) := by decide +kernel
theorem dX8_sentence_19 : decode cX8_sentence 19 = .ok (.aload_n 0, 1) := by decide +kernel
theorem dX8_sentence_20 : decode cX8_sentence 20 = .ok (.getfield 12, 3) := by decide +kernel
theorem dX8_sentence_23 : decode cX8_sentence 23 = .ok (.iconst 0, 1) := by decide +kernel
theorem dX8_sentence_24 : decode cX8_sentence 24 = .ok (.putfield 78, 3) := by decide +kernel
theorem dX8_sentence_27 : decode cX8_sentence 27 = .ok (.aload_n 0, 1) := by decide +kernel
theorem dX8_sentence_28 : decode cX8_sentence 28 = .ok (.getfield 68, 3) := by decide +kernel
theorem dX8_sentence_31 : decode cX8_sentence 31 = .ok (.ifCond .eq 7, 3) := by decide +kernel
theorem dX8_sentence_34 : decode cX8_sentence 34 = .ok (.iconst (-1), 1) := by decide +kernel
theorem dX8_sentence_35 : decode cX8_sentence 35 = .ok (.iload_n 1, 1) := by decide +kernel
theorem dX8_sentence_36 : decode cX8_sentence 36 = .ok (.isub, 1) := by decide +kernel
theorem dX8_sentence_37 : decode cX8_sentence 37 = .ok (.ireturn, 1) := by decide +kernel
theorem dX8_sentence_38 : decode cX8_sentence 38 = .ok (.aload_n 0, 1) := by decide +kernel
theorem dX8_sentence_39 : decode cX8_sentence 39 = .ok (.invokevirtual 106, 3) := by decide +kernel
theorem dX8_sentence_42 : decode cX8_sentence 42 = .ok (.aload_n 0, 1) := by decide +kernel
theorem dX8_sentence_43 : decode cX8_sentence 43 = .ok (.getfield 37, 3) := by decide +kernel
theorem dX8_sentence_46 : decode cX8_sentence 46 = .ok (.getfield 118, 3) := by decide +kernel
theorem dX8_sentence_49 : decode cX8_sentence 49 = .ok (.getfield 122, 3) := by decide +kernel
theorem dX8_sentence_52 : decode cX8_sentence 52 = .ok (.ireturn, 1) := by decide +kernel
theorem dX8_read_0 : decode cX8_read 0 = .ok (.aload_n 0, 1) := by decide +kernel
theorem dX8_read_1 : decode cX8_read 1 = .ok (.invokevirtual 106, 3) := by decide +kernel
theorem dX8_read_4 : decode cX8_read 4 = .ok (.aload_n 0, 1) := by decide +kernel
theorem dX8_read_5 : decode cX8_read 5 = .ok (.aload_n 0, 1) := by decide +kernel
theorem dX8_read_6 : decode cX8_read 6 = .ok (.invokevirtual 127, 3) := by decide +kernel
theorem dX8_read_9 : decode cX8_read 9 = .ok (.putfield 68, 3) := by decide +kernel
theorem dX8_read_12 : decode cX8_read 12 = .ok (.aload_n 0, 1) := by decide +kernel
theorem dX8_read_13 : decode cX8_read 13 = .ok (.getfield 12, 3) := by decide +kernel
theorem dX8_read_16 : decode cX8_read 16 = .ok (.getfield 115, 3) := by decide +kernel
theorem dX8_read_19 : decode cX8_read 19 = .ok (.istore_n 1, 1) := by decide +kernel
theorem dX8_read_20 : decode cX8_read 20 = .ok (.aload_n 0, 1) := by decide +kernel
theorem dX8_read_21 : decode cX8_read 21 = .ok (.getfield 12, 3) := by decide +kernel
theorem dX8_read_24 : decode cX8_read 24 = .ok (.iconst 0, 1) := by decide +kernel
theorem dX8_read_25 : decode cX8_read 25 = .ok (.putfield 78, 3) := by decide +kernel
theorem dX8_read_28 : decode cX8_read 28 = .ok (.aload_n 0, 1) := by decide +kernel
theorem dX8_read_29 : decode cX8_read 29 = .ok (.getfield 68, 3) := by decide +kernel
theorem dX8_read_32 : decode cX8_read 32 = .ok (.ifCond .eq 7, 3) := by decide +kernel
theorem dX8_read_35 : decode cX8_read 35 = .ok (.iconst (-1), 1) := by decide +kernel
theorem dX8_read_36 : decode cX8_read 36 = .ok (.iload_n 1, 1) := by decide +kernel
theorem dX8_read_37 : decode cX8_read 37 = .ok (.isub, 1) := by decide +kernel
theorem dX8_read_38 : decode cX8_read 38 = .ok (.ireturn, 1) := by decide +kernel
theorem dX8_read_39 : decode cX8_read 39 = .ok (.aload_n 0, 1) := by decide +kernel
theorem dX8_read_40 : decode cX8_read 40 = .ok (.getfield 72, 3) := by decide +kernel
theorem dX8_read_43 : decode cX8_read 43 = .ok (.iconst (-1), 1) := by decide +kernel
theorem dX8_read_44 : decode cX8_read 44 = .ok (.if_icmp .ne 11, 3) := by decide +kernel
theorem dX8_read_47 : decode cX8_read 47 = .ok (.aload_n 0, 1) := by decide +kernel
theorem dX8_read_48 : decode cX8_read 48 = .ok (.iconst 0, 1) := by decide +kernel
theorem dX8_read_49 : decode cX8_read 49 = .ok (.putfield 75, 3) := by decide +kernel
theorem dX8_read_52 : decode cX8_read 52 = .ok (.goto 40, 3) := by decide +kernel
theorem dX8_read_55 : decode cX8_read 55 = .ok (.aload_n 0, 1) := by decide +kernel
theorem dX8_read_56 : decode cX8_read 56 = .ok (.getfield 46, 3) := by decide +kernel
theorem dX8_read_59 : decode cX8_read 59 = .ok (.aload_n 0, 1) := by decide +kernel
theorem dX8_read_60 : decode cX8_read 60 = .ok (.getfield 37, 3) := by decide +kernel
theorem dX8_read_63 : decode cX8_read 63 = .ok (.getfield 118, 3) := by decide +kernel
theorem dX8_read_66 : decode cX8_read 66 = .ok (.invokevirtual 130, 3) := by decide +kernel
theorem dX8_read_69 : decode cX8_read 69 = .ok (.aload_n 0, 1) := by decide +kernel
theorem dX8_read_70 : decode cX8_read 70 = .ok (.aload_n 0, 1) := by decide +kernel
theorem dX8_read_71 : decode cX8_read 71 = .ok (.getfield 46, 3) := by decide +kernel
theorem dX8_read_74 : decode cX8_read 74 = .ok (.aload_n 0, 1) := by decide +kernel
theorem dX8_read_75 : decode cX8_read 75 = .ok (.getfield 72, 3) := by decide +kernel
theorem dX8_read_78 : decode cX8_read 78 = .ok (.iconst 0, 1) := by decide +kernel
theorem dX8_read_79 : decode cX8_read 79 = .ok (.aload_n 0, 1) := by decide +kernel
theorem dX8_read_80 : decode cX8_read 80 = .ok (.getfield 46, 3) := by decide +kernel
theorem dX8_read_83 : decode cX8_read 83 = .ok (.getfield 134, 3) := by decide +kernel
theorem dX8_read_86 : decode cX8_read 86 = .ok (.invokevirtual 135, 3) := by decide +kernel
theorem dX8_read_89 : decode cX8_read 89 = .ok (.putfield 75, 3) := by decide +kernel
theorem dX8_read_92 : decode cX8_read 92 = .ok (.aload_n 0, 1) := by decide +kernel
theorem dX8_read_93 : decode cX8_read 93 = .ok (.getfield 75, 3) := by decide +kernel
theorem dX8_read_96 : decode cX8_read 96 = .ok (.ireturn, 1) := by decide +kernel
theorem dX8_fault_0 : decode cX8_fault 0 = .ok (.aload_n 0, 1) := by decide +kernel
theorem dX8_fault_1 : decode cX8_fault 1 = .ok (.getfield 68, 3) := by decide +kernel
theorem dX8_fault_4 : decode cX8_fault 4 = .ok (.ireturn, 1) := by decide +kernel
theorem dX8_choose_0 : decode cX8_choose 0 = .ok (.aload_n 0, 1) := by decide +kernel
theorem dX8_choose_1 : decode cX8_choose 1 = .ok (.getfield 75, 3) := by decide +kernel
theorem dX8_choose_4 : decode cX8_choose 4 = .ok (.iconst (-1), 1) := by decide +kernel
theorem dX8_choose_5 : decode cX8_choose 5 = .ok (.if_icmp .ne 13, 3) := by decide +kernel
theorem dX8_choose_8 : decode cX8_choose 8 = .ok (.new 139, 3) := by decide +kernel
theorem dX8_choose_11 : decode cX8_choose 11 = .ok (.dup, 1) := by decide +kernel
theorem dX8_choose_12 : decode cX8_choose 12 = .ok (.ldc 141, 2) := by decide +kernel
theorem dX8_choose_14 : decode cX8_choose 14 = .ok (.invokespecial 143, 3) := by decide +kernel
theorem dX8_choose_17 : decode cX8_choose 17 = .ok (.athrow, 1) := by decide +kernel
theorem dX8_choose_18 : decode cX8_choose 18 = .ok (.iload_n 1, 1) := by decide +kernel
theorem dX8_choose_19 : decode cX8_choose 19 = .ok (.ifCond .lt 11, 3) := by decide +kernel
theorem dX8_choose_22 : decode cX8_choose 22 = .ok (.iload_n 1, 1) := by decide +kernel
theorem dX8_choose_23 : decode cX8_choose 23 = .ok (.aload_n 0, 1) := by decide +kernel
theorem dX8_choose_24 : decode cX8_choose 24 = .ok (.getfield 75, 3) := by decide +kernel
theorem dX8_choose_27 : decode cX8_choose 27 = .ok (.if_icmp .lt 13, 3) := by decide +kernel
theorem dX8_choose_30 : decode cX8_choose 30 = .ok (.new 144, 3) := by decide +kernel
theorem dX8_choose_33 : decode cX8_choose 33 = .ok (.dup, 1) := by decide +kernel
theorem dX8_choose_34 : decode cX8_choose 34 = .ok (.ldc 146, 2) := by decide +kernel
theorem dX8_choose_36 : decode cX8_choose 36 = .ok (.invokespecial 148, 3) := by decide +kernel
theorem dX8_choose_39 : decode cX8_choose 39 = .ok (.athrow, 1) := by decide +kernel
theorem dX8_choose_40 : decode cX8_choose 40 = .ok (.aload_n 0, 1) := by decide +kernel
theorem dX8_choose_41 : decode cX8_choose 41 = .ok (.getfield 55, 3) := by decide +kernel
theorem dX8_choose_44 : decode cX8_choose 44 = .ok (.aload_n 0, 1) := by decide +kernel
theorem dX8_choose_45 : decode cX8_choose 45 = .ok (.getfield 72, 3) := by decide +kernel
theorem dX8_choose_48 : decode cX8_choose 48 = .ok (.iload_n 1, 1) := by decide +kernel
theorem dX8_choose_49 : decode cX8_choose 49 = .ok (.invokevirtual 149, 3) := by decide +kernel
theorem dX8_choose_52 : decode cX8_choose 52 = .ok (.aload_n 0, 1) := by decide +kernel
theorem dX8_choose_53 : decode cX8_choose 53 = .ok (.getfield 64, 3) := by decide +kernel
theorem dX8_choose_56 : decode cX8_choose 56 = .ok (.invokevirtual 153, 3) := by decide +kernel
theorem dX8_choose_59 : decode cX8_choose 59 = .ok (.aload_n 0, 1) := by decide +kernel
theorem dX8_choose_60 : decode cX8_choose 60 = .ok (.getfield 55, 3) := by decide +kernel
theorem dX8_choose_63 : decode cX8_choose 63 = .ok (.getfield 156, 3) := by decide +kernel
theorem dX8_choose_66 : decode cX8_choose 66 = .ok (.ireturn, 1) := by decide +kernel
theorem dX8_use_0 : decode cX8_use 0 = .ok (.iload_n 1, 1) := by decide +kernel
theorem dX8_use_1 : decode cX8_use 1 = .ok (.ifCond .lt 14, 3) := by decide +kernel
theorem dX8_use_4 : decode cX8_use 4 = .ok (.iload_n 1, 1) := by decide +kernel
theorem dX8_use_5 : decode cX8_use 5 = .ok (.aload_n 0, 1) := by decide +kernel
theorem dX8_use_6 : decode cX8_use 6 = .ok (.getfield 55, 3) := by decide +kernel
theorem dX8_use_9 : decode cX8_use 9 = .ok (.getfield 156, 3) := by decide +kernel
theorem dX8_use_12 : decode cX8_use 12 = .ok (.if_icmp .lt 13, 3) := by decide +kernel
theorem dX8_use_15 : decode cX8_use 15 = .ok (.new 144, 3) := by decide +kernel
theorem dX8_use_18 : decode cX8_use 18 = .ok (.dup, 1) := by decide +kernel
theorem dX8_use_19 : decode cX8_use 19 = .ok (.ldc 159, 2) := by decide +kernel
theorem dX8_use_21 : decode cX8_use 21 = .ok (.invokespecial 148, 3) := by decide +kernel
theorem dX8_use_24 : decode cX8_use 24 = .ok (.athrow, 1) := by decide +kernel
theorem dX8_use_25 : decode cX8_use 25 = .ok (.iload_n 2, 1) := by decide +kernel
theorem dX8_use_26 : decode cX8_use 26 = .ok (.ifCond .lt 9, 3) := by decide +kernel
theorem dX8_use_29 : decode cX8_use 29 = .ok (.iload_n 2, 1) := by decide +kernel
theorem dX8_use_30 : decode cX8_use 30 = .ok (.bipush 7, 2) := by decide +kernel
theorem dX8_use_32 : decode cX8_use 32 = .ok (.if_icmp .lt 13, 3) := by decide +kernel
theorem dX8_use_35 : decode cX8_use 35 = .ok (.new 92, 3) := by decide +kernel
theorem dX8_use_38 : decode cX8_use 38 = .ok (.dup, 1) := by decide +kernel
theorem dX8_use_39 : decode cX8_use 39 = .ok (.ldc 161, 2) := by decide +kernel
theorem dX8_use_41 : decode cX8_use 41 = .ok (.invokespecial 96, 3) := by decide +kernel
theorem dX8_use_44 : decode cX8_use 44 = .ok (.athrow, 1) := by decide +kernel
theorem dX8_use_45 : decode cX8_use 45 = .ok (.aload_n 0, 1) := by decide +kernel
theorem dX8_use_46 : decode cX8_use 46 = .ok (.getfield 55, 3) := by decide +kernel
theorem dX8_use_49 : decode cX8_use 49 = .ok (.iload_n 1, 1) := by decide +kernel
theorem dX8_use_50 : decode cX8_use 50 = .ok (.iload_n 2, 1) := by decide +kernel
theorem dX8_use_51 : decode cX8_use 51 = .ok (.invokevirtual 163, 3) := by decide +kernel
theorem dX8_use_54 : decode cX8_use 54 = .ok (.ireturn, 1) := by decide +kernel
theorem dX8_whole_0 : decode cX8_whole 0 = .ok (.iload_n 1, 1) := by decide +kernel
theorem dX8_whole_1 : decode cX8_whole 1 = .ok (.ifCond .lt 14, 3) := by decide +kernel
theorem dX8_whole_4 : decode cX8_whole 4 = .ok (.iload_n 1, 1) := by decide +kernel
theorem dX8_whole_5 : decode cX8_whole 5 = .ok (.aload_n 0, 1) := by decide +kernel
theorem dX8_whole_6 : decode cX8_whole 6 = .ok (.getfield 64, 3) := by decide +kernel
theorem dX8_whole_9 : decode cX8_whole 9 = .ok (.getfield 167, 3) := by decide +kernel
theorem dX8_whole_12 : decode cX8_whole 12 = .ok (.if_icmp .lt 13, 3) := by decide +kernel
theorem dX8_whole_15 : decode cX8_whole 15 = .ok (.new 144, 3) := by decide +kernel
theorem dX8_whole_18 : decode cX8_whole 18 = .ok (.dup, 1) := by decide +kernel
theorem dX8_whole_19 : decode cX8_whole 19 = .ok (.ldc 168, 2) := by decide +kernel
theorem dX8_whole_21 : decode cX8_whole 21 = .ok (.invokespecial 148, 3) := by decide +kernel
theorem dX8_whole_24 : decode cX8_whole 24 = .ok (.athrow, 1) := by decide +kernel
theorem dX8_whole_25 : decode cX8_whole 25 = .ok (.iload_n 2, 1) := by decide +kernel
theorem dX8_whole_26 : decode cX8_whole 26 = .ok (.ifCond .lt 9, 3) := by decide +kernel
theorem dX8_whole_29 : decode cX8_whole 29 = .ok (.iload_n 2, 1) := by decide +kernel
theorem dX8_whole_30 : decode cX8_whole 30 = .ok (.bipush 6, 2) := by decide +kernel
theorem dX8_whole_32 : decode cX8_whole 32 = .ok (.if_icmp .lt 13, 3) := by decide +kernel
theorem dX8_whole_35 : decode cX8_whole 35 = .ok (.new 92, 3) := by decide +kernel
theorem dX8_whole_38 : decode cX8_whole 38 = .ok (.dup, 1) := by decide +kernel
theorem dX8_whole_39 : decode cX8_whole 39 = .ok (.ldc 170, 2) := by decide +kernel
theorem dX8_whole_41 : decode cX8_whole 41 = .ok (.invokespecial 96, 3) := by decide +kernel
theorem dX8_whole_44 : decode cX8_whole 44 = .ok (.athrow, 1) := by decide +kernel
theorem dX8_whole_45 : decode cX8_whole 45 = .ok (.aload_n 0, 1) := by decide +kernel
theorem dX8_whole_46 : decode cX8_whole 46 = .ok (.getfield 64, 3) := by decide +kernel
theorem dX8_whole_49 : decode cX8_whole 49 = .ok (.iload_n 1, 1) := by decide +kernel
theorem dX8_whole_50 : decode cX8_whole 50 = .ok (.iload_n 2, 1) := by decide +kernel
theorem dX8_whole_51 : decode cX8_whole 51 = .ok (.invokevirtual 172, 3) := by decide +kernel
theorem dX8_whole_54 : decode cX8_whole 54 = .ok (.ireturn, 1) := by decide +kernel
theorem dX8_node_0 : decode cX8_node 0 = .ok (.iload_n 1, 1) := by decide +kernel
theorem dX8_node_1 : decode cX8_node 1 = .ok (.ifCond .lt 31, 3) := by decide +kernel
theorem dX8_node_4 : decode cX8_node 4 = .ok (.iload_n 1, 1) := by decide +kernel
theorem dX8_node_5 : decode cX8_node 5 = .ok (.aload_n 0, 1) := by decide +kernel
theorem dX8_node_6 : decode cX8_node 6 = .ok (.getfield 19, 3) := by decide +kernel
theorem dX8_node_9 : decode cX8_node 9 = .ok (.getfield 109, 3) := by decide +kernel
theorem dX8_node_12 : decode cX8_node 12 = .ok (.if_icmp .ge 20, 3) := by decide +kernel
theorem dX8_node_15 : decode cX8_node 15 = .ok (.iload_n 2, 1) := by decide +kernel
theorem dX8_node_16 : decode cX8_node 16 = .ok (.ifCond .lt 16, 3) := by decide +kernel
theorem dX8_node_19 : decode cX8_node 19 = .ok (.iload_n 2, 1) := by decide +kernel
theorem dX8_node_20 : decode cX8_node 20 = .ok (.aload_n 0, 1) := by decide +kernel
theorem dX8_node_21 : decode cX8_node 21 = .ok (.getfield 19, 3) := by decide +kernel
theorem dX8_node_24 : decode cX8_node 24 = .ok (.getfield 175, 3) := by decide +kernel
theorem dX8_node_27 : decode cX8_node 27 = .ok (.iload_n 1, 1) := by decide +kernel
theorem dX8_node_28 : decode cX8_node 28 = .ok (.iaload, 1) := by decide +kernel
theorem dX8_node_29 : decode cX8_node 29 = .ok (.if_icmp .lt 13, 3) := by decide +kernel
theorem dX8_node_32 : decode cX8_node 32 = .ok (.new 144, 3) := by decide +kernel
theorem dX8_node_35 : decode cX8_node 35 = .ok (.dup, 1) := by decide +kernel
theorem dX8_node_36 : decode cX8_node 36 = .ok (.ldc 179, 2) := by decide +kernel
theorem dX8_node_38 : decode cX8_node 38 = .ok (.invokespecial 148, 3) := by decide +kernel
theorem dX8_node_41 : decode cX8_node 41 = .ok (.athrow, 1) := by decide +kernel
theorem dX8_node_42 : decode cX8_node 42 = .ok (.iload_n 3, 1) := by decide +kernel
theorem dX8_node_43 : decode cX8_node 43 = .ok (.ifCond .lt 8, 3) := by decide +kernel
theorem dX8_node_46 : decode cX8_node 46 = .ok (.iload_n 3, 1) := by decide +kernel
theorem dX8_node_47 : decode cX8_node 47 = .ok (.iconst 4, 1) := by decide +kernel
theorem dX8_node_48 : decode cX8_node 48 = .ok (.if_icmp .le 13, 3) := by decide +kernel
theorem dX8_node_51 : decode cX8_node 51 = .ok (.new 92, 3) := by decide +kernel
theorem dX8_node_54 : decode cX8_node 54 = .ok (.dup, 1) := by decide +kernel
theorem dX8_node_55 : decode cX8_node 55 = .ok (.ldc 181, 2) := by decide +kernel
theorem dX8_node_57 : decode cX8_node 57 = .ok (.invokespecial 96, 3) := by decide +kernel
theorem dX8_node_60 : decode cX8_node 60 = .ok (.athrow, 1) := by decide +kernel
theorem dX8_node_61 : decode cX8_node 61 = .ok (.aload_n 0, 1) := by decide +kernel
theorem dX8_node_62 : decode cX8_node 62 = .ok (.getfield 19, 3) := by decide +kernel
theorem dX8_node_65 : decode cX8_node 65 = .ok (.iload_n 1, 1) := by decide +kernel
theorem dX8_node_66 : decode cX8_node 66 = .ok (.iload_n 2, 1) := by decide +kernel
theorem dX8_node_67 : decode cX8_node 67 = .ok (.invokestatic 183, 3) := by decide +kernel
theorem dX8_node_70 : decode cX8_node 70 = .ok (.iload_n 3, 1) := by decide +kernel
theorem dX8_node_71 : decode cX8_node 71 = .ok (.invokevirtual 186, 3) := by decide +kernel
theorem dX8_node_74 : decode cX8_node 74 = .ok (.ireturn, 1) := by decide +kernel
theorem dX8_letter_0 : decode cX8_letter 0 = .ok (.iload_n 1, 1) := by decide +kernel
theorem dX8_letter_1 : decode cX8_letter 1 = .ok (.ifCond .eq 13, 3) := by decide +kernel
theorem dX8_letter_4 : decode cX8_letter 4 = .ok (.aload_n 0, 1) := by decide +kernel
theorem dX8_letter_5 : decode cX8_letter 5 = .ok (.getfield 19, 3) := by decide +kernel
theorem dX8_letter_8 : decode cX8_letter 8 = .ok (.getfield 187, 3) := by decide +kernel
theorem dX8_letter_11 : decode cX8_letter 11 = .ok (.goto 10, 3) := by decide +kernel
theorem dX8_letter_14 : decode cX8_letter 14 = .ok (.aload_n 0, 1) := by decide +kernel
theorem dX8_letter_15 : decode cX8_letter 15 = .ok (.getfield 19, 3) := by decide +kernel
theorem dX8_letter_18 : decode cX8_letter 18 = .ok (.getfield 188, 3) := by decide +kernel
theorem dX8_letter_21 : decode cX8_letter 21 = .ok (.astore 4, 2) := by decide +kernel
theorem dX8_letter_23 : decode cX8_letter 23 = .ok (.iload_n 2, 1) := by decide +kernel
theorem dX8_letter_24 : decode cX8_letter 24 = .ok (.ifCond .lt 27, 3) := by decide +kernel
theorem dX8_letter_27 : decode cX8_letter 27 = .ok (.iload_n 2, 1) := by decide +kernel
theorem dX8_letter_28 : decode cX8_letter 28 = .ok (.aload 4, 2) := by decide +kernel
theorem dX8_letter_30 : decode cX8_letter 30 = .ok (.getfield 122, 3) := by decide +kernel
theorem dX8_letter_33 : decode cX8_letter 33 = .ok (.if_icmp .ge 18, 3) := by decide +kernel
theorem dX8_letter_36 : decode cX8_letter 36 = .ok (.iload_n 3, 1) := by decide +kernel
theorem dX8_letter_37 : decode cX8_letter 37 = .ok (.ifCond .lt 14, 3) := by decide +kernel
theorem dX8_letter_40 : decode cX8_letter 40 = .ok (.iload_n 3, 1) := by decide +kernel
theorem dX8_letter_41 : decode cX8_letter 41 = .ok (.aload 4, 2) := by decide +kernel
theorem dX8_letter_43 : decode cX8_letter 43 = .ok (.getfield 191, 3) := by decide +kernel
theorem dX8_letter_46 : decode cX8_letter 46 = .ok (.iload_n 2, 1) := by decide +kernel
theorem dX8_letter_47 : decode cX8_letter 47 = .ok (.iaload, 1) := by decide +kernel
theorem dX8_letter_48 : decode cX8_letter 48 = .ok (.if_icmp .lt 13, 3) := by decide +kernel
theorem dX8_letter_51 : decode cX8_letter 51 = .ok (.new 144, 3) := by decide +kernel
theorem dX8_letter_54 : decode cX8_letter 54 = .ok (.dup, 1) := by decide +kernel
theorem dX8_letter_55 : decode cX8_letter 55 = .ok (.ldc 194, 2) := by decide +kernel
theorem dX8_letter_57 : decode cX8_letter 57 = .ok (.invokespecial 148, 3) := by decide +kernel
theorem dX8_letter_60 : decode cX8_letter 60 = .ok (.athrow, 1) := by decide +kernel
theorem dX8_letter_61 : decode cX8_letter 61 = .ok (.aload 4, 2) := by decide +kernel
theorem dX8_letter_63 : decode cX8_letter 63 = .ok (.getfield 196, 3) := by decide +kernel
theorem dX8_letter_66 : decode cX8_letter 66 = .ok (.aload 4, 2) := by decide +kernel
theorem dX8_letter_68 : decode cX8_letter 68 = .ok (.iload_n 2, 1) := by decide +kernel
theorem dX8_letter_69 : decode cX8_letter 69 = .ok (.invokevirtual 199, 3) := by decide +kernel
theorem dX8_letter_72 : decode cX8_letter 72 = .ok (.iload_n 3, 1) := by decide +kernel
theorem dX8_letter_73 : decode cX8_letter 73 = .ok (.iadd, 1) := by decide +kernel
theorem dX8_letter_74 : decode cX8_letter 74 = .ok (.iaload, 1) := by decide +kernel
theorem dX8_letter_75 : decode cX8_letter 75 = .ok (.ireturn, 1) := by decide +kernel
theorem dX8_clear_0 : decode cX8_clear 0 = .ok (.aload_n 0, 1) := by decide +kernel
theorem dX8_clear_1 : decode cX8_clear 1 = .ok (.getfield 19, 3) := by decide +kernel
theorem dX8_clear_4 : decode cX8_clear 4 = .ok (.getfield 109, 3) := by decide +kernel
theorem dX8_clear_7 : decode cX8_clear 7 = .ok (.istore_n 1, 1) := by decide +kernel
theorem dX8_clear_8 : decode cX8_clear 8 = .ok (.aload_n 0, 1) := by decide +kernel
theorem dX8_clear_9 : decode cX8_clear 9 = .ok (.getfield 19, 3) := by decide +kernel
theorem dX8_clear_12 : decode cX8_clear 12 = .ok (.iconst 0, 1) := by decide +kernel
theorem dX8_clear_13 : decode cX8_clear 13 = .ok (.putfield 109, 3) := by decide +kernel
theorem dX8_clear_16 : decode cX8_clear 16 = .ok (.aload_n 0, 1) := by decide +kernel
theorem dX8_clear_17 : decode cX8_clear 17 = .ok (.getfield 19, 3) := by decide +kernel
theorem dX8_clear_20 : decode cX8_clear 20 = .ok (.getfield 188, 3) := by decide +kernel
theorem dX8_clear_23 : decode cX8_clear 23 = .ok (.iconst 0, 1) := by decide +kernel
theorem dX8_clear_24 : decode cX8_clear 24 = .ok (.putfield 122, 3) := by decide +kernel
theorem dX8_clear_27 : decode cX8_clear 27 = .ok (.aload_n 0, 1) := by decide +kernel
theorem dX8_clear_28 : decode cX8_clear 28 = .ok (.getfield 19, 3) := by decide +kernel
theorem dX8_clear_31 : decode cX8_clear 31 = .ok (.getfield 187, 3) := by decide +kernel
theorem dX8_clear_34 : decode cX8_clear 34 = .ok (.iconst 0, 1) := by decide +kernel
theorem dX8_clear_35 : decode cX8_clear 35 = .ok (.putfield 122, 3) := by decide +kernel
theorem dX8_clear_38 : decode cX8_clear 38 = .ok (.aload_n 0, 1) := by decide +kernel
theorem dX8_clear_39 : decode cX8_clear 39 = .ok (.invokevirtual 106, 3) := by decide +kernel
theorem dX8_clear_42 : decode cX8_clear 42 = .ok (.iload_n 1, 1) := by decide +kernel
theorem dX8_clear_43 : decode cX8_clear 43 = .ok (.ireturn, 1) := by decide +kernel
theorem dX8_count_0 : decode cX8_count 0 = .ok (.iload_n 1, 1) := by decide +kernel
theorem dX8_count_1 : decode cX8_count 1 = .ok (.tableswitch 105 0 6 #[43, 51, 62, 73, 84, 89, 97], 43) := by decide +kernel
theorem dX8_count_44 : decode cX8_count 44 = .ok (.aload_n 0, 1) := by decide +kernel
theorem dX8_count_45 : decode cX8_count 45 = .ok (.getfield 19, 3) := by decide +kernel
theorem dX8_count_48 : decode cX8_count 48 = .ok (.getfield 109, 3) := by decide +kernel
theorem dX8_count_51 : decode cX8_count 51 = .ok (.ireturn, 1) := by decide +kernel
theorem dX8_count_52 : decode cX8_count 52 = .ok (.aload_n 0, 1) := by decide +kernel
theorem dX8_count_53 : decode cX8_count 53 = .ok (.getfield 19, 3) := by decide +kernel
theorem dX8_count_56 : decode cX8_count 56 = .ok (.getfield 188, 3) := by decide +kernel
theorem dX8_count_59 : decode cX8_count 59 = .ok (.getfield 122, 3) := by decide +kernel
theorem dX8_count_62 : decode cX8_count 62 = .ok (.ireturn, 1) := by decide +kernel
theorem dX8_count_63 : decode cX8_count 63 = .ok (.aload_n 0, 1) := by decide +kernel
theorem dX8_count_64 : decode cX8_count 64 = .ok (.getfield 19, 3) := by decide +kernel
theorem dX8_count_67 : decode cX8_count 67 = .ok (.getfield 187, 3) := by decide +kernel
theorem dX8_count_70 : decode cX8_count 70 = .ok (.getfield 122, 3) := by decide +kernel
theorem dX8_count_73 : decode cX8_count 73 = .ok (.ireturn, 1) := by decide +kernel
theorem dX8_count_74 : decode cX8_count 74 = .ok (.aload_n 0, 1) := by decide +kernel
theorem dX8_count_75 : decode cX8_count 75 = .ok (.getfield 37, 3) := by decide +kernel
theorem dX8_count_78 : decode cX8_count 78 = .ok (.getfield 118, 3) := by decide +kernel
theorem dX8_count_81 : decode cX8_count 81 = .ok (.getfield 122, 3) := by decide +kernel
theorem dX8_count_84 : decode cX8_count 84 = .ok (.ireturn, 1) := by decide +kernel
theorem dX8_count_85 : decode cX8_count 85 = .ok (.aload_n 0, 1) := by decide +kernel
theorem dX8_count_86 : decode cX8_count 86 = .ok (.getfield 75, 3) := by decide +kernel
theorem dX8_count_89 : decode cX8_count 89 = .ok (.ireturn, 1) := by decide +kernel
theorem dX8_count_90 : decode cX8_count 90 = .ok (.aload_n 0, 1) := by decide +kernel
theorem dX8_count_91 : decode cX8_count 91 = .ok (.getfield 55, 3) := by decide +kernel
theorem dX8_count_94 : decode cX8_count 94 = .ok (.getfield 156, 3) := by decide +kernel
theorem dX8_count_97 : decode cX8_count 97 = .ok (.ireturn, 1) := by decide +kernel
theorem dX8_count_98 : decode cX8_count 98 = .ok (.aload_n 0, 1) := by decide +kernel
theorem dX8_count_99 : decode cX8_count 99 = .ok (.getfield 64, 3) := by decide +kernel
theorem dX8_count_102 : decode cX8_count 102 = .ok (.getfield 167, 3) := by decide +kernel
theorem dX8_count_105 : decode cX8_count 105 = .ok (.ireturn, 1) := by decide +kernel
theorem dX8_count_106 : decode cX8_count 106 = .ok (.new 92, 3) := by decide +kernel
theorem dX8_count_109 : decode cX8_count 109 = .ok (.dup, 1) := by decide +kernel
theorem dX8_count_110 : decode cX8_count 110 = .ok (.ldc 203, 2) := by decide +kernel
theorem dX8_count_112 : decode cX8_count 112 = .ok (.invokespecial 96, 3) := by decide +kernel
theorem dX8_count_115 : decode cX8_count 115 = .ok (.athrow, 1) := by decide +kernel
theorem dX8_forgetReading_0 : decode cX8_forgetReading 0 = .ok (.aload_n 0, 1) := by decide +kernel
theorem dX8_forgetReading_1 : decode cX8_forgetReading 1 = .ok (.iconst (-1), 1) := by decide +kernel
theorem dX8_forgetReading_2 : decode cX8_forgetReading 2 = .ok (.putfield 75, 3) := by decide +kernel
theorem dX8_forgetReading_5 : decode cX8_forgetReading 5 = .ok (.aload_n 0, 1) := by decide +kernel
theorem dX8_forgetReading_6 : decode cX8_forgetReading 6 = .ok (.getfield 55, 3) := by decide +kernel
theorem dX8_forgetReading_9 : decode cX8_forgetReading 9 = .ok (.iconst 0, 1) := by decide +kernel
theorem dX8_forgetReading_10 : decode cX8_forgetReading 10 = .ok (.putfield 156, 3) := by decide +kernel
theorem dX8_forgetReading_13 : decode cX8_forgetReading 13 = .ok (.aload_n 0, 1) := by decide +kernel
theorem dX8_forgetReading_14 : decode cX8_forgetReading 14 = .ok (.getfield 64, 3) := by decide +kernel
theorem dX8_forgetReading_17 : decode cX8_forgetReading 17 = .ok (.iconst 0, 1) := by decide +kernel
theorem dX8_forgetReading_18 : decode cX8_forgetReading 18 = .ok (.putfield 167, 3) := by decide +kernel
theorem dX8_forgetReading_21 : decode cX8_forgetReading 21 = .ok (.return_, 1) := by decide +kernel
theorem dX8_parseLabel_0 : decode cX8_parseLabel 0 = .ok (.aload_n 0, 1) := by decide +kernel
theorem dX8_parseLabel_1 : decode cX8_parseLabel 1 = .ok (.getfield 12, 3) := by decide +kernel
theorem dX8_parseLabel_4 : decode cX8_parseLabel 4 = .ok (.invokevirtual 205, 3) := by decide +kernel
theorem dX8_parseLabel_7 : decode cX8_parseLabel 7 = .ok (.aload_n 0, 1) := by decide +kernel
theorem dX8_parseLabel_8 : decode cX8_parseLabel 8 = .ok (.getfield 12, 3) := by decide +kernel
theorem dX8_parseLabel_11 : decode cX8_parseLabel 11 = .ok (.invokevirtual 208, 3) := by decide +kernel
theorem dX8_parseLabel_14 : decode cX8_parseLabel 14 = .ok (.aload_n 0, 1) := by decide +kernel
theorem dX8_parseLabel_15 : decode cX8_parseLabel 15 = .ok (.getfield 12, 3) := by decide +kernel
theorem dX8_parseLabel_18 : decode cX8_parseLabel 18 = .ok (.getfield 211, 3) := by decide +kernel
theorem dX8_parseLabel_21 : decode cX8_parseLabel 21 = .ok (.iconst 2, 1) := by decide +kernel
theorem dX8_parseLabel_22 : decode cX8_parseLabel 22 = .ok (.if_icmp .eq 11, 3) := by decide +kernel
theorem dX8_parseLabel_25 : decode cX8_parseLabel 25 = .ok (.aload_n 0, 1) := by decide +kernel
theorem dX8_parseLabel_26 : decode cX8_parseLabel 26 = .ok (.getfield 12, 3) := by decide +kernel
theorem dX8_parseLabel_29 : decode cX8_parseLabel 29 = .ok (.invokevirtual 214, 3) := by decide +kernel
theorem dX8_parseLabel_32 : decode cX8_parseLabel 32 = .ok (.ireturn, 1) := by decide +kernel
theorem dX8_parseLabel_33 : decode cX8_parseLabel 33 = .ok (.aload_n 0, 1) := by decide +kernel
theorem dX8_parseLabel_34 : decode cX8_parseLabel 34 = .ok (.aload_n 0, 1) := by decide +kernel
theorem dX8_parseLabel_35 : decode cX8_parseLabel 35 = .ok (.getfield 19, 3) := by decide +kernel
theorem dX8_parseLabel_38 : decode cX8_parseLabel 38 = .ok (.getfield 188, 3) := by decide +kernel
theorem dX8_parseLabel_41 : decode cX8_parseLabel 41 = .ok (.aload_n 0, 1) := by decide +kernel
theorem dX8_parseLabel_42 : decode cX8_parseLabel 42 = .ok (.getfield 12, 3) := by decide +kernel
theorem dX8_parseLabel_45 : decode cX8_parseLabel 45 = .ok (.getfield 217, 3) := by decide +kernel
theorem dX8_parseLabel_48 : decode cX8_parseLabel 48 = .ok (.aload_n 0, 1) := by decide +kernel
theorem dX8_parseLabel_49 : decode cX8_parseLabel 49 = .ok (.getfield 12, 3) := by decide +kernel
theorem dX8_parseLabel_52 : decode cX8_parseLabel 52 = .ok (.getfield 115, 3) := by decide +kernel
theorem dX8_parseLabel_55 : decode cX8_parseLabel 55 = .ok (.aload_n 0, 1) := by decide +kernel
theorem dX8_parseLabel_56 : decode cX8_parseLabel 56 = .ok (.getfield 12, 3) := by decide +kernel
theorem dX8_parseLabel_59 : decode cX8_parseLabel 59 = .ok (.getfield 220, 3) := by decide +kernel
theorem dX8_parseLabel_62 : decode cX8_parseLabel 62 = .ok (.invokevirtual 223, 3) := by decide +kernel
theorem dX8_parseLabel_65 : decode cX8_parseLabel 65 = .ok (.putfield 72, 3) := by decide +kernel
theorem dX8_parseLabel_68 : decode cX8_parseLabel 68 = .ok (.aload_n 0, 1) := by decide +kernel
theorem dX8_parseLabel_69 : decode cX8_parseLabel 69 = .ok (.getfield 12, 3) := by decide +kernel
theorem dX8_parseLabel_72 : decode cX8_parseLabel 72 = .ok (.invokevirtual 208, 3) := by decide +kernel
theorem dX8_parseLabel_75 : decode cX8_parseLabel 75 = .ok (.aload_n 0, 1) := by decide +kernel
theorem dX8_parseLabel_76 : decode cX8_parseLabel 76 = .ok (.getfield 12, 3) := by decide +kernel
theorem dX8_parseLabel_79 : decode cX8_parseLabel 79 = .ok (.getfield 211, 3) := by decide +kernel
theorem dX8_parseLabel_82 : decode cX8_parseLabel 82 = .ok (.ifCond .ne 7, 3) := by decide +kernel
theorem dX8_parseLabel_85 : decode cX8_parseLabel 85 = .ok (.iconst 0, 1) := by decide +kernel
theorem dX8_parseLabel_86 : decode cX8_parseLabel 86 = .ok (.goto 10, 3) := by decide +kernel
theorem dX8_parseLabel_89 : decode cX8_parseLabel 89 = .ok (.aload_n 0, 1) := by decide +kernel
theorem dX8_parseLabel_90 : decode cX8_parseLabel 90 = .ok (.getfield 12, 3) := by decide +kernel
theorem dX8_parseLabel_93 : decode cX8_parseLabel 93 = .ok (.invokevirtual 214, 3) := by decide +kernel
theorem dX8_parseLabel_96 : decode cX8_parseLabel 96 = .ok (.ireturn, 1) := by decide +kernel

theorem dX7_init_0 : decode cX7_init 0 = .ok (.aload_n 0, 1) := by decide +kernel
theorem dX7_init_1 : decode cX7_init 1 = .ok (.invokespecial 3, 3) := by decide +kernel
theorem dX7_init_4 : decode cX7_init 4 = .ok (.aload_n 0, 1) := by decide +kernel
theorem dX7_init_5 : decode cX7_init 5 = .ok (.sipush 576, 3) := by decide +kernel
theorem dX7_init_8 : decode cX7_init 8 = .ok (.newarray .int, 2) := by decide +kernel
theorem dX7_init_10 : decode cX7_init 10 = .ok (.putfield 11, 3) := by decide +kernel
theorem dX7_init_13 : decode cX7_init 13 = .ok (.aload_n 0, 1) := by decide +kernel
theorem dX7_init_14 : decode cX7_init 14 = .ok (.sipush 288, 3) := by decide +kernel
theorem dX7_init_17 : decode cX7_init 17 = .ok (.newarray .int, 2) := by decide +kernel
theorem dX7_init_19 : decode cX7_init 19 = .ok (.putfield 15, 3) := by decide +kernel
theorem dX7_init_22 : decode cX7_init 22 = .ok (.aload_n 0, 1) := by decide +kernel
theorem dX7_init_23 : decode cX7_init 23 = .ok (.aload_n 1, 1) := by decide +kernel
theorem dX7_init_24 : decode cX7_init 24 = .ok (.putfield 18, 3) := by decide +kernel
theorem dX7_init_27 : decode cX7_init 27 = .ok (.aload_n 0, 1) := by decide +kernel
theorem dX7_init_28 : decode cX7_init 28 = .ok (.aload_n 2, 1) := by decide +kernel
theorem dX7_init_29 : decode cX7_init 29 = .ok (.putfield 22, 3) := by decide +kernel
theorem dX7_init_32 : decode cX7_init 32 = .ok (.return_, 1) := by decide +kernel
theorem dX7_cell_0 : decode cX7_cell 0 = .ok (.aload_n 0, 1) := by decide +kernel
theorem dX7_cell_1 : decode cX7_cell 1 = .ok (.getfield 11, 3) := by decide +kernel
theorem dX7_cell_4 : decode cX7_cell 4 = .ok (.iload_n 1, 1) := by decide +kernel
theorem dX7_cell_5 : decode cX7_cell 5 = .ok (.bipush 6, 2) := by decide +kernel
theorem dX7_cell_7 : decode cX7_cell 7 = .ok (.imul, 1) := by decide +kernel
theorem dX7_cell_8 : decode cX7_cell 8 = .ok (.iload_n 2, 1) := by decide +kernel
theorem dX7_cell_9 : decode cX7_cell 9 = .ok (.iadd, 1) := by decide +kernel
theorem dX7_cell_10 : decode cX7_cell 10 = .ok (.iaload, 1) := by decide +kernel
theorem dX7_cell_11 : decode cX7_cell 11 = .ok (.ireturn, 1) := by decide +kernel
theorem dX7_grow_0 : decode cX7_grow 0 = .ok (.aload_n 0, 1) := by decide +kernel
theorem dX7_grow_1 : decode cX7_grow 1 = .ok (.iconst 0, 1) := by decide +kernel
theorem dX7_grow_2 : decode cX7_grow 2 = .ok (.putfield 26, 3) := by decide +kernel
theorem dX7_grow_5 : decode cX7_grow 5 = .ok (.aload_n 0, 1) := by decide +kernel
theorem dX7_grow_6 : decode cX7_grow 6 = .ok (.iconst 0, 1) := by decide +kernel
theorem dX7_grow_7 : decode cX7_grow 7 = .ok (.putfield 30, 3) := by decide +kernel
theorem dX7_grow_10 : decode cX7_grow 10 = .ok (.aload_n 0, 1) := by decide +kernel
theorem dX7_grow_11 : decode cX7_grow 11 = .ok (.iconst 0, 1) := by decide +kernel
theorem dX7_grow_12 : decode cX7_grow 12 = .ok (.iconst 0, 1) := by decide +kernel
theorem dX7_grow_13 : decode cX7_grow 13 = .ok (.iconst (-1), 1) := by decide +kernel
theorem dX7_grow_14 : decode cX7_grow 14 = .ok (.invokevirtual 33, 3) := by decide +kernel
theorem dX7_grow_17 : decode cX7_grow 17 = .ok (.iconst 0, 1) := by decide +kernel
theorem dX7_grow_18 : decode cX7_grow 18 = .ok (.istore_n 1, 1) := by decide +kernel
theorem dX7_grow_19 : decode cX7_grow 19 = .ok (.iload_n 1, 1) := by decide +kernel
theorem dX7_grow_20 : decode cX7_grow 20 = .ok (.bipush 96, 2) := by decide +kernel
theorem dX7_grow_22 : decode cX7_grow 22 = .ok (.if_icmp .ge 67, 3) := by decide +kernel
theorem dX7_grow_25 : decode cX7_grow 25 = .ok (.aload_n 0, 1) := by decide +kernel
theorem dX7_grow_26 : decode cX7_grow 26 = .ok (.getfield 30, 3) := by decide +kernel
theorem dX7_grow_29 : decode cX7_grow 29 = .ok (.ifCond .le 60, 3) := by decide +kernel
theorem dX7_grow_32 : decode cX7_grow 32 = .ok (.aload_n 0, 1) := by decide +kernel
theorem dX7_grow_33 : decode cX7_grow 33 = .ok (.dup, 1) := by decide +kernel
theorem dX7_grow_34 : decode cX7_grow 34 = .ok (.getfield 30, 3) := by decide +kernel
theorem dX7_grow_37 : decode cX7_grow 37 = .ok (.iconst 1, 1) := by decide +kernel
theorem dX7_grow_38 : decode cX7_grow 38 = .ok (.isub, 1) := by decide +kernel
theorem dX7_grow_39 : decode cX7_grow 39 = .ok (.putfield 30, 3) := by decide +kernel
theorem dX7_grow_42 : decode cX7_grow 42 = .ok (.aload_n 0, 1) := by decide +kernel
theorem dX7_grow_43 : decode cX7_grow 43 = .ok (.aload_n 0, 1) := by decide +kernel
theorem dX7_grow_44 : decode cX7_grow 44 = .ok (.getfield 15, 3) := by decide +kernel
theorem dX7_grow_47 : decode cX7_grow 47 = .ok (.aload_n 0, 1) := by decide +kernel
theorem dX7_grow_48 : decode cX7_grow 48 = .ok (.getfield 30, 3) := by decide +kernel
theorem dX7_grow_51 : decode cX7_grow 51 = .ok (.iconst 3, 1) := by decide +kernel
theorem dX7_grow_52 : decode cX7_grow 52 = .ok (.imul, 1) := by decide +kernel
theorem dX7_grow_53 : decode cX7_grow 53 = .ok (.iaload, 1) := by decide +kernel
theorem dX7_grow_54 : decode cX7_grow 54 = .ok (.aload_n 0, 1) := by decide +kernel
theorem dX7_grow_55 : decode cX7_grow 55 = .ok (.getfield 15, 3) := by decide +kernel
theorem dX7_grow_58 : decode cX7_grow 58 = .ok (.aload_n 0, 1) := by decide +kernel
theorem dX7_grow_59 : decode cX7_grow 59 = .ok (.getfield 30, 3) := by decide +kernel
theorem dX7_grow_62 : decode cX7_grow 62 = .ok (.iconst 3, 1) := by decide +kernel
theorem dX7_grow_63 : decode cX7_grow 63 = .ok (.imul, 1) := by decide +kernel
theorem dX7_grow_64 : decode cX7_grow 64 = .ok (.iconst 1, 1) := by decide +kernel
theorem dX7_grow_65 : decode cX7_grow 65 = .ok (.iadd, 1) := by decide +kernel
theorem dX7_grow_66 : decode cX7_grow 66 = .ok (.iaload, 1) := by decide +kernel
theorem dX7_grow_67 : decode cX7_grow 67 = .ok (.aload_n 0, 1) := by decide +kernel
theorem dX7_grow_68 : decode cX7_grow 68 = .ok (.getfield 15, 3) := by decide +kernel
theorem dX7_grow_71 : decode cX7_grow 71 = .ok (.aload_n 0, 1) := by decide +kernel
theorem dX7_grow_72 : decode cX7_grow 72 = .ok (.getfield 30, 3) := by decide +kernel
theorem dX7_grow_75 : decode cX7_grow 75 = .ok (.iconst 3, 1) := by decide +kernel
theorem dX7_grow_76 : decode cX7_grow 76 = .ok (.imul, 1) := by decide +kernel
theorem dX7_grow_77 : decode cX7_grow 77 = .ok (.iconst 2, 1) := by decide +kernel
theorem dX7_grow_78 : decode cX7_grow 78 = .ok (.iadd, 1) := by decide +kernel
theorem dX7_grow_79 : decode cX7_grow 79 = .ok (.iaload, 1) := by decide +kernel
theorem dX7_grow_80 : decode cX7_grow 80 = .ok (.invokevirtual 37, 3) := by decide +kernel
theorem dX7_grow_83 : decode cX7_grow 83 = .ok (.iinc 1 1, 3) := by decide +kernel
theorem dX7_grow_86 : decode cX7_grow 86 = .ok (.goto (-67), 3) := by decide +kernel
theorem dX7_grow_89 : decode cX7_grow 89 = .ok (.return_, 1) := by decide +kernel
theorem dX7_push_0 : decode cX7_push 0 = .ok (.aload_n 0, 1) := by decide +kernel
theorem dX7_push_1 : decode cX7_push 1 = .ok (.getfield 30, 3) := by decide +kernel
theorem dX7_push_4 : decode cX7_push 4 = .ok (.bipush 96, 2) := by decide +kernel
theorem dX7_push_6 : decode cX7_push 6 = .ok (.if_icmp .ge 53, 3) := by decide +kernel
theorem dX7_push_9 : decode cX7_push 9 = .ok (.aload_n 0, 1) := by decide +kernel
theorem dX7_push_10 : decode cX7_push 10 = .ok (.getfield 15, 3) := by decide +kernel
theorem dX7_push_13 : decode cX7_push 13 = .ok (.aload_n 0, 1) := by decide +kernel
theorem dX7_push_14 : decode cX7_push 14 = .ok (.getfield 30, 3) := by decide +kernel
theorem dX7_push_17 : decode cX7_push 17 = .ok (.iconst 3, 1) := by decide +kernel
theorem dX7_push_18 : decode cX7_push 18 = .ok (.imul, 1) := by decide +kernel
theorem dX7_push_19 : decode cX7_push 19 = .ok (.iload_n 1, 1) := by decide +kernel
theorem dX7_push_20 : decode cX7_push 20 = .ok (.iastore, 1) := by decide +kernel
theorem dX7_push_21 : decode cX7_push 21 = .ok (.aload_n 0, 1) := by decide +kernel
theorem dX7_push_22 : decode cX7_push 22 = .ok (.getfield 15, 3) := by decide +kernel
theorem dX7_push_25 : decode cX7_push 25 = .ok (.aload_n 0, 1) := by decide +kernel
theorem dX7_push_26 : decode cX7_push 26 = .ok (.getfield 30, 3) := by decide +kernel
theorem dX7_push_29 : decode cX7_push 29 = .ok (.iconst 3, 1) := by decide +kernel
theorem dX7_push_30 : decode cX7_push 30 = .ok (.imul, 1) := by decide +kernel
theorem dX7_push_31 : decode cX7_push 31 = .ok (.iconst 1, 1) := by decide +kernel
theorem dX7_push_32 : decode cX7_push 32 = .ok (.iadd, 1) := by decide +kernel
theorem dX7_push_33 : decode cX7_push 33 = .ok (.iload_n 2, 1) := by decide +kernel
theorem dX7_push_34 : decode cX7_push 34 = .ok (.iastore, 1) := by decide +kernel
theorem dX7_push_35 : decode cX7_push 35 = .ok (.aload_n 0, 1) := by decide +kernel
theorem dX7_push_36 : decode cX7_push 36 = .ok (.getfield 15, 3) := by decide +kernel
theorem dX7_push_39 : decode cX7_push 39 = .ok (.aload_n 0, 1) := by decide +kernel
theorem dX7_push_40 : decode cX7_push 40 = .ok (.getfield 30, 3) := by decide +kernel
theorem dX7_push_43 : decode cX7_push 43 = .ok (.iconst 3, 1) := by decide +kernel
theorem dX7_push_44 : decode cX7_push 44 = .ok (.imul, 1) := by decide +kernel
theorem dX7_push_45 : decode cX7_push 45 = .ok (.iconst 2, 1) := by decide +kernel
theorem dX7_push_46 : decode cX7_push 46 = .ok (.iadd, 1) := by decide +kernel
theorem dX7_push_47 : decode cX7_push 47 = .ok (.iload_n 3, 1) := by decide +kernel
theorem dX7_push_48 : decode cX7_push 48 = .ok (.iastore, 1) := by decide +kernel
theorem dX7_push_49 : decode cX7_push 49 = .ok (.aload_n 0, 1) := by decide +kernel
theorem dX7_push_50 : decode cX7_push 50 = .ok (.dup, 1) := by decide +kernel
theorem dX7_push_51 : decode cX7_push 51 = .ok (.getfield 30, 3) := by decide +kernel
theorem dX7_push_54 : decode cX7_push 54 = .ok (.iconst 1, 1) := by decide +kernel
theorem dX7_push_55 : decode cX7_push 55 = .ok (.iadd, 1) := by decide +kernel
theorem dX7_push_56 : decode cX7_push 56 = .ok (.putfield 30, 3) := by decide +kernel
theorem dX7_push_59 : decode cX7_push 59 = .ok (.return_, 1) := by decide +kernel
theorem dX7_addInstead_0 : decode cX7_addInstead 0 = .ok (.aload_n 0, 1) := by decide +kernel
theorem dX7_addInstead_1 : decode cX7_addInstead 1 = .ok (.getfield 22, 3) := by decide +kernel
theorem dX7_addInstead_4 : decode cX7_addInstead 4 = .ok (.iload_n 1, 1) := by decide +kernel
theorem dX7_addInstead_5 : decode cX7_addInstead 5 = .ok (.iconst 0, 1) := by decide +kernel
theorem dX7_addInstead_6 : decode cX7_addInstead 6 = .ok (.invokevirtual 42, 3) := by decide +kernel
theorem dX7_addInstead_9 : decode cX7_addInstead 9 = .ok (.istore 4, 2) := by decide +kernel
theorem dX7_addInstead_11 : decode cX7_addInstead 11 = .ok (.aload_n 0, 1) := by decide +kernel
theorem dX7_addInstead_12 : decode cX7_addInstead 12 = .ok (.getfield 18, 3) := by decide +kernel
theorem dX7_addInstead_15 : decode cX7_addInstead 15 = .ok (.iload 4, 2) := by decide +kernel
theorem dX7_addInstead_17 : decode cX7_addInstead 17 = .ok (.iload_n 2, 1) := by decide +kernel
theorem dX7_addInstead_18 : decode cX7_addInstead 18 = .ok (.invokestatic 46, 3) := by decide +kernel
theorem dX7_addInstead_21 : decode cX7_addInstead 21 = .ok (.iconst 0, 1) := by decide +kernel
theorem dX7_addInstead_22 : decode cX7_addInstead 22 = .ok (.invokevirtual 51, 3) := by decide +kernel
theorem dX7_addInstead_25 : decode cX7_addInstead 25 = .ok (.iconst 2, 1) := by decide +kernel
theorem dX7_addInstead_26 : decode cX7_addInstead 26 = .ok (.if_icmp .ne 27, 3) := by decide +kernel
theorem dX7_addInstead_29 : decode cX7_addInstead 29 = .ok (.aload_n 0, 1) := by decide +kernel
theorem dX7_addInstead_30 : decode cX7_addInstead 30 = .ok (.aload_n 0, 1) := by decide +kernel
theorem dX7_addInstead_31 : decode cX7_addInstead 31 = .ok (.getfield 22, 3) := by decide +kernel
theorem dX7_addInstead_34 : decode cX7_addInstead 34 = .ok (.iload_n 1, 1) := by decide +kernel
theorem dX7_addInstead_35 : decode cX7_addInstead 35 = .ok (.iconst 1, 1) := by decide +kernel
theorem dX7_addInstead_36 : decode cX7_addInstead 36 = .ok (.invokevirtual 42, 3) := by decide +kernel
theorem dX7_addInstead_39 : decode cX7_addInstead 39 = .ok (.aload_n 0, 1) := by decide +kernel
theorem dX7_addInstead_40 : decode cX7_addInstead 40 = .ok (.getfield 22, 3) := by decide +kernel
theorem dX7_addInstead_43 : decode cX7_addInstead 43 = .ok (.iload_n 1, 1) := by decide +kernel
theorem dX7_addInstead_44 : decode cX7_addInstead 44 = .ok (.iconst 2, 1) := by decide +kernel
theorem dX7_addInstead_45 : decode cX7_addInstead 45 = .ok (.invokevirtual 42, 3) := by decide +kernel
theorem dX7_addInstead_48 : decode cX7_addInstead 48 = .ok (.iload_n 3, 1) := by decide +kernel
theorem dX7_addInstead_49 : decode cX7_addInstead 49 = .ok (.invokevirtual 54, 3) := by decide +kernel
theorem dX7_addInstead_52 : decode cX7_addInstead 52 = .ok (.return_, 1) := by decide +kernel
theorem dX7_addInstead_53 : decode cX7_addInstead 53 = .ok (.iload_n 1, 1) := by decide +kernel
theorem dX7_addInstead_54 : decode cX7_addInstead 54 = .ok (.istore 5, 2) := by decide +kernel
theorem dX7_addInstead_56 : decode cX7_addInstead 56 = .ok (.iload_n 2, 1) := by decide +kernel
theorem dX7_addInstead_57 : decode cX7_addInstead 57 = .ok (.istore 6, 2) := by decide +kernel
theorem dX7_addInstead_59 : decode cX7_addInstead 59 = .ok (.iconst 0, 1) := by decide +kernel
theorem dX7_addInstead_60 : decode cX7_addInstead 60 = .ok (.istore 7, 2) := by decide +kernel
theorem dX7_addInstead_62 : decode cX7_addInstead 62 = .ok (.iload 7, 2) := by decide +kernel
theorem dX7_addInstead_64 : decode cX7_addInstead 64 = .ok (.bipush 8, 2) := by decide +kernel
theorem dX7_addInstead_66 : decode cX7_addInstead 66 = .ok (.if_icmp .ge 39, 3) := by decide +kernel
theorem dX7_addInstead_69 : decode cX7_addInstead 69 = .ok (.aload_n 0, 1) := by decide +kernel
theorem dX7_addInstead_70 : decode cX7_addInstead 70 = .ok (.getfield 22, 3) := by decide +kernel
theorem dX7_addInstead_73 : decode cX7_addInstead 73 = .ok (.iload 5, 2) := by decide +kernel
theorem dX7_addInstead_75 : decode cX7_addInstead 75 = .ok (.iload 6, 2) := by decide +kernel
theorem dX7_addInstead_77 : decode cX7_addInstead 77 = .ok (.iconst 2, 1) := by decide +kernel
theorem dX7_addInstead_78 : decode cX7_addInstead 78 = .ok (.invokevirtual 57, 3) := by decide +kernel
theorem dX7_addInstead_81 : decode cX7_addInstead 81 = .ok (.istore 8, 2) := by decide +kernel
theorem dX7_addInstead_83 : decode cX7_addInstead 83 = .ok (.iload 8, 2) := by decide +kernel
theorem dX7_addInstead_85 : decode cX7_addInstead 85 = .ok (.iconst (-1), 1) := by decide +kernel
theorem dX7_addInstead_86 : decode cX7_addInstead 86 = .ok (.if_icmp .ne 6, 3) := by decide +kernel
theorem dX7_addInstead_89 : decode cX7_addInstead 89 = .ok (.goto 16, 3) := by decide +kernel
theorem dX7_addInstead_92 : decode cX7_addInstead 92 = .ok (.iload 8, 2) := by decide +kernel
theorem dX7_addInstead_94 : decode cX7_addInstead 94 = .ok (.istore 5, 2) := by decide +kernel
theorem dX7_addInstead_96 : decode cX7_addInstead 96 = .ok (.iconst 0, 1) := by decide +kernel
theorem dX7_addInstead_97 : decode cX7_addInstead 97 = .ok (.istore 6, 2) := by decide +kernel
theorem dX7_addInstead_99 : decode cX7_addInstead 99 = .ok (.iinc 7 1, 3) := by decide +kernel
theorem dX7_addInstead_102 : decode cX7_addInstead 102 = .ok (.goto (-40), 3) := by decide +kernel
theorem dX7_addInstead_105 : decode cX7_addInstead 105 = .ok (.aload_n 0, 1) := by decide +kernel
theorem dX7_addInstead_106 : decode cX7_addInstead 106 = .ok (.iload 5, 2) := by decide +kernel
theorem dX7_addInstead_108 : decode cX7_addInstead 108 = .ok (.iload 6, 2) := by decide +kernel
theorem dX7_addInstead_110 : decode cX7_addInstead 110 = .ok (.iload_n 3, 1) := by decide +kernel
theorem dX7_addInstead_111 : decode cX7_addInstead 111 = .ok (.invokevirtual 54, 3) := by decide +kernel
theorem dX7_addInstead_114 : decode cX7_addInstead 114 = .ok (.return_, 1) := by decide +kernel
theorem dX7_add_0 : decode cX7_add 0 = .ok (.aload_n 0, 1) := by decide +kernel
theorem dX7_add_1 : decode cX7_add 1 = .ok (.getfield 22, 3) := by decide +kernel
theorem dX7_add_4 : decode cX7_add 4 = .ok (.iload_n 1, 1) := by decide +kernel
theorem dX7_add_5 : decode cX7_add 5 = .ok (.iconst 0, 1) := by decide +kernel
theorem dX7_add_6 : decode cX7_add 6 = .ok (.invokevirtual 42, 3) := by decide +kernel
theorem dX7_add_9 : decode cX7_add 9 = .ok (.istore 4, 2) := by decide +kernel
theorem dX7_add_11 : decode cX7_add 11 = .ok (.aload_n 0, 1) := by decide +kernel
theorem dX7_add_12 : decode cX7_add 12 = .ok (.getfield 26, 3) := by decide +kernel
theorem dX7_add_15 : decode cX7_add 15 = .ok (.bipush 6, 2) := by decide +kernel
theorem dX7_add_17 : decode cX7_add 17 = .ok (.imul, 1) := by decide +kernel
theorem dX7_add_18 : decode cX7_add 18 = .ok (.istore 5, 2) := by decide +kernel
theorem dX7_add_20 : decode cX7_add 20 = .ok (.aload_n 0, 1) := by decide +kernel
theorem dX7_add_21 : decode cX7_add 21 = .ok (.getfield 11, 3) := by decide +kernel
theorem dX7_add_24 : decode cX7_add 24 = .ok (.iload 5, 2) := by decide +kernel
theorem dX7_add_26 : decode cX7_add 26 = .ok (.iconst 0, 1) := by decide +kernel
theorem dX7_add_27 : decode cX7_add 27 = .ok (.iadd, 1) := by decide +kernel
theorem dX7_add_28 : decode cX7_add 28 = .ok (.iload_n 1, 1) := by decide +kernel
theorem dX7_add_29 : decode cX7_add 29 = .ok (.iastore, 1) := by decide +kernel
theorem dX7_add_30 : decode cX7_add 30 = .ok (.aload_n 0, 1) := by decide +kernel
theorem dX7_add_31 : decode cX7_add 31 = .ok (.getfield 11, 3) := by decide +kernel
theorem dX7_add_34 : decode cX7_add 34 = .ok (.iload 5, 2) := by decide +kernel
theorem dX7_add_36 : decode cX7_add 36 = .ok (.iconst 1, 1) := by decide +kernel
theorem dX7_add_37 : decode cX7_add 37 = .ok (.iadd, 1) := by decide +kernel
theorem dX7_add_38 : decode cX7_add 38 = .ok (.iload_n 2, 1) := by decide +kernel
theorem dX7_add_39 : decode cX7_add 39 = .ok (.iastore, 1) := by decide +kernel
theorem dX7_add_40 : decode cX7_add 40 = .ok (.aload_n 0, 1) := by decide +kernel
theorem dX7_add_41 : decode cX7_add 41 = .ok (.getfield 11, 3) := by decide +kernel
theorem dX7_add_44 : decode cX7_add 44 = .ok (.iload 5, 2) := by decide +kernel
theorem dX7_add_46 : decode cX7_add 46 = .ok (.iconst 2, 1) := by decide +kernel
theorem dX7_add_47 : decode cX7_add 47 = .ok (.iadd, 1) := by decide +kernel
theorem dX7_add_48 : decode cX7_add 48 = .ok (.iload_n 3, 1) := by decide +kernel
theorem dX7_add_49 : decode cX7_add 49 = .ok (.iastore, 1) := by decide +kernel
theorem dX7_add_50 : decode cX7_add 50 = .ok (.aload_n 0, 1) := by decide +kernel
theorem dX7_add_51 : decode cX7_add 51 = .ok (.getfield 11, 3) := by decide +kernel
theorem dX7_add_54 : decode cX7_add 54 = .ok (.iload 5, 2) := by decide +kernel
theorem dX7_add_56 : decode cX7_add 56 = .ok (.iconst 3, 1) := by decide +kernel
theorem dX7_add_57 : decode cX7_add 57 = .ok (.iadd, 1) := by decide +kernel
theorem dX7_add_58 : decode cX7_add 58 = .ok (.aload_n 0, 1) := by decide +kernel
theorem dX7_add_59 : decode cX7_add 59 = .ok (.getfield 22, 3) := by decide +kernel
theorem dX7_add_62 : decode cX7_add 62 = .ok (.iload_n 1, 1) := by decide +kernel
theorem dX7_add_63 : decode cX7_add 63 = .ok (.iload_n 2, 1) := by decide +kernel
theorem dX7_add_64 : decode cX7_add 64 = .ok (.iconst 3, 1) := by decide +kernel
theorem dX7_add_65 : decode cX7_add 65 = .ok (.invokevirtual 57, 3) := by decide +kernel
theorem dX7_add_68 : decode cX7_add 68 = .ok (.iastore, 1) := by decide +kernel
theorem dX7_add_69 : decode cX7_add 69 = .ok (.aload_n 0, 1) := by decide +kernel
theorem dX7_add_70 : decode cX7_add 70 = .ok (.getfield 11, 3) := by decide +kernel
theorem dX7_add_73 : decode cX7_add 73 = .ok (.iload 5, 2) := by decide +kernel
theorem dX7_add_75 : decode cX7_add 75 = .ok (.iconst 4, 1) := by decide +kernel
theorem dX7_add_76 : decode cX7_add 76 = .ok (.iadd, 1) := by decide +kernel
theorem dX7_add_77 : decode cX7_add 77 = .ok (.aload_n 0, 1) := by decide +kernel
theorem dX7_add_78 : decode cX7_add 78 = .ok (.getfield 22, 3) := by decide +kernel
theorem dX7_add_81 : decode cX7_add 81 = .ok (.iload_n 1, 1) := by decide +kernel
theorem dX7_add_82 : decode cX7_add 82 = .ok (.iload_n 2, 1) := by decide +kernel
theorem dX7_add_83 : decode cX7_add 83 = .ok (.iconst 4, 1) := by decide +kernel
theorem dX7_add_84 : decode cX7_add 84 = .ok (.invokevirtual 57, 3) := by decide +kernel
theorem dX7_add_87 : decode cX7_add 87 = .ok (.iastore, 1) := by decide +kernel
theorem dX7_add_88 : decode cX7_add 88 = .ok (.aload_n 0, 1) := by decide +kernel
theorem dX7_add_89 : decode cX7_add 89 = .ok (.getfield 11, 3) := by decide +kernel
theorem dX7_add_92 : decode cX7_add 92 = .ok (.iload 5, 2) := by decide +kernel
theorem dX7_add_94 : decode cX7_add 94 = .ok (.iconst 5, 1) := by decide +kernel
theorem dX7_add_95 : decode cX7_add 95 = .ok (.iadd, 1) := by decide +kernel
theorem dX7_add_96 : decode cX7_add 96 = .ok (.aload_n 0, 1) := by decide +kernel
theorem dX7_add_97 : decode cX7_add 97 = .ok (.getfield 18, 3) := by decide +kernel
theorem dX7_add_100 : decode cX7_add 100 = .ok (.iload 4, 2) := by decide +kernel
theorem dX7_add_102 : decode cX7_add 102 = .ok (.iload_n 2, 1) := by decide +kernel
theorem dX7_add_103 : decode cX7_add 103 = .ok (.invokestatic 46, 3) := by decide +kernel
theorem dX7_add_106 : decode cX7_add 106 = .ok (.iconst 3, 1) := by decide +kernel
theorem dX7_add_107 : decode cX7_add 107 = .ok (.invokevirtual 51, 3) := by decide +kernel
theorem dX7_add_110 : decode cX7_add 110 = .ok (.iastore, 1) := by decide +kernel
theorem dX7_add_111 : decode cX7_add 111 = .ok (.aload_n 0, 1) := by decide +kernel
theorem dX7_add_112 : decode cX7_add 112 = .ok (.getfield 18, 3) := by decide +kernel
theorem dX7_add_115 : decode cX7_add 115 = .ok (.getfield 61, 3) := by decide +kernel
theorem dX7_add_118 : decode cX7_add 118 = .ok (.iload 4, 2) := by decide +kernel
theorem dX7_add_120 : decode cX7_add 120 = .ok (.iaload, 1) := by decide +kernel
theorem dX7_add_121 : decode cX7_add 121 = .ok (.iconst 1, 1) := by decide +kernel
theorem dX7_add_122 : decode cX7_add 122 = .ok (.isub, 1) := by decide +kernel
theorem dX7_add_123 : decode cX7_add 123 = .ok (.istore 6, 2) := by decide +kernel
theorem dX7_add_125 : decode cX7_add 125 = .ok (.iload 6, 2) := by decide +kernel
theorem dX7_add_127 : decode cX7_add 127 = .ok (.iload_n 2, 1) := by decide +kernel
theorem dX7_add_128 : decode cX7_add 128 = .ok (.if_icmp .le 39, 3) := by decide +kernel
theorem dX7_add_131 : decode cX7_add 131 = .ok (.aload_n 0, 1) := by decide +kernel
theorem dX7_add_132 : decode cX7_add 132 = .ok (.getfield 18, 3) := by decide +kernel
theorem dX7_add_135 : decode cX7_add 135 = .ok (.iload 4, 2) := by decide +kernel
theorem dX7_add_137 : decode cX7_add 137 = .ok (.iload 6, 2) := by decide +kernel
theorem dX7_add_139 : decode cX7_add 139 = .ok (.invokestatic 46, 3) := by decide +kernel
theorem dX7_add_142 : decode cX7_add 142 = .ok (.iconst 2, 1) := by decide +kernel
theorem dX7_add_143 : decode cX7_add 143 = .ok (.invokevirtual 51, 3) := by decide +kernel
theorem dX7_add_146 : decode cX7_add 146 = .ok (.iload_n 2, 1) := by decide +kernel
theorem dX7_add_147 : decode cX7_add 147 = .ok (.if_icmp .ne 14, 3) := by decide +kernel
theorem dX7_add_150 : decode cX7_add 150 = .ok (.aload_n 0, 1) := by decide +kernel
theorem dX7_add_151 : decode cX7_add 151 = .ok (.iload_n 1, 1) := by decide +kernel
theorem dX7_add_152 : decode cX7_add 152 = .ok (.iload 6, 2) := by decide +kernel
theorem dX7_add_154 : decode cX7_add 154 = .ok (.aload_n 0, 1) := by decide +kernel
theorem dX7_add_155 : decode cX7_add 155 = .ok (.getfield 26, 3) := by decide +kernel
theorem dX7_add_158 : decode cX7_add 158 = .ok (.invokevirtual 33, 3) := by decide +kernel
theorem dX7_add_161 : decode cX7_add 161 = .ok (.iinc 6 (-1), 3) := by decide +kernel
theorem dX7_add_164 : decode cX7_add 164 = .ok (.goto (-39), 3) := by decide +kernel
theorem dX7_add_167 : decode cX7_add 167 = .ok (.aload_n 0, 1) := by decide +kernel
theorem dX7_add_168 : decode cX7_add 168 = .ok (.dup, 1) := by decide +kernel
theorem dX7_add_169 : decode cX7_add 169 = .ok (.getfield 26, 3) := by decide +kernel
theorem dX7_add_172 : decode cX7_add 172 = .ok (.iconst 1, 1) := by decide +kernel
theorem dX7_add_173 : decode cX7_add 173 = .ok (.iadd, 1) := by decide +kernel
theorem dX7_add_174 : decode cX7_add 174 = .ok (.putfield 26, 3) := by decide +kernel
theorem dX7_add_177 : decode cX7_add 177 = .ok (.return_, 1) := by decide +kernel

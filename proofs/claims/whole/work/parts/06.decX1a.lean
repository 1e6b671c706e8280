theorem dX1_init_0 : decode cX1_init 0 = .ok (.aload_n 0, 1) := by decide +kernel
theorem dX1_init_1 : decode cX1_init 1 = .ok (.invokespecial 3, 3) := by decide +kernel
theorem dX1_init_4 : decode cX1_init 4 = .ok (.aload_n 0, 1) := by decide +kernel
theorem dX1_init_5 : decode cX1_init 5 = .ok (.new 9, 3) := by decide +kernel
theorem dX1_init_8 : decode cX1_init 8 = .ok (.dup, 1) := by decide +kernel
theorem dX1_init_9 : decode cX1_init 9 = .ok (.bipush 16, 2) := by decide +kernel
theorem dX1_init_11 : decode cX1_init 11 = .ok (.bipush 8, 2) := by decide +kernel
theorem dX1_init_13 : decode cX1_init 13 = .ok (.invokespecial 11, 3) := by decide +kernel
theorem dX1_init_16 : decode cX1_init 16 = .ok (.putfield 14, 3) := by decide +kernel
theorem dX1_init_19 : decode cX1_init 19 = .ok (.aload_n 0, 1) := by decide +kernel
theorem dX1_init_20 : decode cX1_init 20 = .ok (.new 9, 3) := by decide +kernel
theorem dX1_init_23 : decode cX1_init 23 = .ok (.dup, 1) := by decide +kernel
theorem dX1_init_24 : decode cX1_init 24 = .ok (.bipush 32, 2) := by decide +kernel
theorem dX1_init_26 : decode cX1_init 26 = .ok (.bipush 12, 2) := by decide +kernel
theorem dX1_init_28 : decode cX1_init 28 = .ok (.invokespecial 11, 3) := by decide +kernel
theorem dX1_init_31 : decode cX1_init 31 = .ok (.putfield 20, 3) := by decide +kernel
theorem dX1_init_34 : decode cX1_init 34 = .ok (.aload_n 0, 1) := by decide +kernel
theorem dX1_init_35 : decode cX1_init 35 = .ok (.bipush 17, 2) := by decide +kernel
theorem dX1_init_37 : decode cX1_init 37 = .ok (.newarray .int, 2) := by decide +kernel
theorem dX1_init_39 : decode cX1_init 39 = .ok (.putfield 23, 3) := by decide +kernel
theorem dX1_init_42 : decode cX1_init 42 = .ok (.aload_n 0, 1) := by decide +kernel
theorem dX1_init_43 : decode cX1_init 43 = .ok (.sipush 2448, 3) := by decide +kernel
theorem dX1_init_46 : decode cX1_init 46 = .ok (.newarray .int, 2) := by decide +kernel
theorem dX1_init_48 : decode cX1_init 48 = .ok (.putfield 27, 3) := by decide +kernel
theorem dX1_init_51 : decode cX1_init 51 = .ok (.return_, 1) := by decide +kernel
theorem dX1_row_0 : decode cX1_row 0 = .ok (.iload_n 0, 1) := by decide +kernel
theorem dX1_row_1 : decode cX1_row 1 = .ok (.bipush 12, 2) := by decide +kernel
theorem dX1_row_3 : decode cX1_row 3 = .ok (.imul, 1) := by decide +kernel
theorem dX1_row_4 : decode cX1_row 4 = .ok (.iload_n 1, 1) := by decide +kernel
theorem dX1_row_5 : decode cX1_row 5 = .ok (.iadd, 1) := by decide +kernel
theorem dX1_row_6 : decode cX1_row 6 = .ok (.ireturn, 1) := by decide +kernel
theorem dX1_cell_0 : decode cX1_cell 0 = .ok (.aload_n 0, 1) := by decide +kernel
theorem dX1_cell_1 : decode cX1_cell 1 = .ok (.getfield 27, 3) := by decide +kernel
theorem dX1_cell_4 : decode cX1_cell 4 = .ok (.iload_n 1, 1) := by decide +kernel
theorem dX1_cell_5 : decode cX1_cell 5 = .ok (.bipush 12, 2) := by decide +kernel
theorem dX1_cell_7 : decode cX1_cell 7 = .ok (.imul, 1) := by decide +kernel
theorem dX1_cell_8 : decode cX1_cell 8 = .ok (.iload_n 2, 1) := by decide +kernel
theorem dX1_cell_9 : decode cX1_cell 9 = .ok (.iadd, 1) := by decide +kernel
theorem dX1_cell_10 : decode cX1_cell 10 = .ok (.iaload, 1) := by decide +kernel
theorem dX1_cell_11 : decode cX1_cell 11 = .ok (.ireturn, 1) := by decide +kernel
theorem dX1_set_0 : decode cX1_set 0 = .ok (.aload_n 0, 1) := by decide +kernel
theorem dX1_set_1 : decode cX1_set 1 = .ok (.getfield 27, 3) := by decide +kernel
theorem dX1_set_4 : decode cX1_set 4 = .ok (.iload_n 1, 1) := by decide +kernel
theorem dX1_set_5 : decode cX1_set 5 = .ok (.bipush 12, 2) := by decide +kernel
theorem dX1_set_7 : decode cX1_set 7 = .ok (.imul, 1) := by decide +kernel
theorem dX1_set_8 : decode cX1_set 8 = .ok (.iload_n 2, 1) := by decide +kernel
theorem dX1_set_9 : decode cX1_set 9 = .ok (.iadd, 1) := by decide +kernel
theorem dX1_set_10 : decode cX1_set 10 = .ok (.iload_n 3, 1) := by decide +kernel
theorem dX1_set_11 : decode cX1_set 11 = .ok (.iastore, 1) := by decide +kernel
theorem dX1_set_12 : decode cX1_set 12 = .ok (.return_, 1) := by decide +kernel
theorem dX1_hasFoot_0 : decode cX1_hasFoot 0 = .ok (.aload_n 0, 1) := by decide +kernel
theorem dX1_hasFoot_1 : decode cX1_hasFoot 1 = .ok (.getfield 27, 3) := by decide +kernel
theorem dX1_hasFoot_4 : decode cX1_hasFoot 4 = .ok (.iload_n 1, 1) := by decide +kernel
theorem dX1_hasFoot_5 : decode cX1_hasFoot 5 = .ok (.bipush 12, 2) := by decide +kernel
theorem dX1_hasFoot_7 : decode cX1_hasFoot 7 = .ok (.imul, 1) := by decide +kernel
theorem dX1_hasFoot_8 : decode cX1_hasFoot 8 = .ok (.bipush 6, 2) := by decide +kernel
theorem dX1_hasFoot_10 : decode cX1_hasFoot 10 = .ok (.iadd, 1) := by decide +kernel
theorem dX1_hasFoot_11 : decode cX1_hasFoot 11 = .ok (.iaload, 1) := by decide +kernel
theorem dX1_hasFoot_12 : decode cX1_hasFoot 12 = .ok (.iconst 1, 1) := by decide +kernel
theorem dX1_hasFoot_13 : decode cX1_hasFoot 13 = .ok (.if_icmp .ne 7, 3) := by decide +kernel
theorem dX1_hasFoot_16 : decode cX1_hasFoot 16 = .ok (.iconst 1, 1) := by decide +kernel
theorem dX1_hasFoot_17 : decode cX1_hasFoot 17 = .ok (.goto 4, 3) := by decide +kernel
theorem dX1_hasFoot_20 : decode cX1_hasFoot 20 = .ok (.iconst 0, 1) := by decide +kernel
theorem dX1_hasFoot_21 : decode cX1_hasFoot 21 = .ok (.ireturn, 1) := by decide +kernel
theorem dX1_hasWord_0 : decode cX1_hasWord 0 = .ok (.aload_n 0, 1) := by decide +kernel
theorem dX1_hasWord_1 : decode cX1_hasWord 1 = .ok (.iload_n 1, 1) := by decide +kernel
theorem dX1_hasWord_2 : decode cX1_hasWord 2 = .ok (.bipush 8, 2) := by decide +kernel
theorem dX1_hasWord_4 : decode cX1_hasWord 4 = .ok (.iload_n 2, 1) := by decide +kernel
theorem dX1_hasWord_5 : decode cX1_hasWord 5 = .ok (.iadd, 1) := by decide +kernel
theorem dX1_hasWord_6 : decode cX1_hasWord 6 = .ok (.invokevirtual 30, 3) := by decide +kernel
theorem dX1_hasWord_9 : decode cX1_hasWord 9 = .ok (.ifCond .le 7, 3) := by decide +kernel
theorem dX1_hasWord_12 : decode cX1_hasWord 12 = .ok (.iconst 1, 1) := by decide +kernel
theorem dX1_hasWord_13 : decode cX1_hasWord 13 = .ok (.goto 4, 3) := by decide +kernel
theorem dX1_hasWord_16 : decode cX1_hasWord 16 = .ok (.iconst 0, 1) := by decide +kernel
theorem dX1_hasWord_17 : decode cX1_hasWord 17 = .ok (.ireturn, 1) := by decide +kernel
theorem dX1_isAuxiliary_0 : decode cX1_isAuxiliary 0 = .ok (.aload_n 0, 1) := by decide +kernel
theorem dX1_isAuxiliary_1 : decode cX1_isAuxiliary 1 = .ok (.iload_n 1, 1) := by decide +kernel
theorem dX1_isAuxiliary_2 : decode cX1_isAuxiliary 2 = .ok (.iconst 0, 1) := by decide +kernel
theorem dX1_isAuxiliary_3 : decode cX1_isAuxiliary 3 = .ok (.invokestatic 34, 3) := by decide +kernel
theorem dX1_isAuxiliary_6 : decode cX1_isAuxiliary 6 = .ok (.invokevirtual 37, 3) := by decide +kernel
theorem dX1_isAuxiliary_9 : decode cX1_isAuxiliary 9 = .ok (.ireturn, 1) := by decide +kernel
theorem dX1_rootLabel_0 : decode cX1_rootLabel 0 = .ok (.aload_n 0, 1) := by decide +kernel
theorem dX1_rootLabel_1 : decode cX1_rootLabel 1 = .ok (.iload_n 1, 1) := by decide +kernel
theorem dX1_rootLabel_2 : decode cX1_rootLabel 2 = .ok (.iconst 0, 1) := by decide +kernel
theorem dX1_rootLabel_3 : decode cX1_rootLabel 3 = .ok (.invokestatic 34, 3) := by decide +kernel
theorem dX1_rootLabel_6 : decode cX1_rootLabel 6 = .ok (.iconst 1, 1) := by decide +kernel
theorem dX1_rootLabel_7 : decode cX1_rootLabel 7 = .ok (.invokevirtual 30, 3) := by decide +kernel
theorem dX1_rootLabel_10 : decode cX1_rootLabel 10 = .ok (.ireturn, 1) := by decide +kernel
theorem dX1_addRow_0 : decode cX1_addRow 0 = .ok (.iload_n 1, 1) := by decide +kernel
theorem dX1_addRow_1 : decode cX1_addRow 1 = .ok (.aload_n 0, 1) := by decide +kernel
theorem dX1_addRow_2 : decode cX1_addRow 2 = .ok (.getfield 23, 3) := by decide +kernel
theorem dX1_addRow_5 : decode cX1_addRow 5 = .ok (.iload_n 1, 1) := by decide +kernel
theorem dX1_addRow_6 : decode cX1_addRow 6 = .ok (.iaload, 1) := by decide +kernel
theorem dX1_addRow_7 : decode cX1_addRow 7 = .ok (.invokestatic 34, 3) := by decide +kernel
theorem dX1_addRow_10 : decode cX1_addRow 10 = .ok (.istore 5, 2) := by decide +kernel
theorem dX1_addRow_12 : decode cX1_addRow 12 = .ok (.aload_n 0, 1) := by decide +kernel
theorem dX1_addRow_13 : decode cX1_addRow 13 = .ok (.getfield 23, 3) := by decide +kernel
theorem dX1_addRow_16 : decode cX1_addRow 16 = .ok (.iload_n 1, 1) := by decide +kernel
theorem dX1_addRow_17 : decode cX1_addRow 17 = .ok (.dup2, 1) := by decide +kernel
theorem dX1_addRow_18 : decode cX1_addRow 18 = .ok (.iaload, 1) := by decide +kernel
theorem dX1_addRow_19 : decode cX1_addRow 19 = .ok (.iconst 1, 1) := by decide +kernel
theorem dX1_addRow_20 : decode cX1_addRow 20 = .ok (.iadd, 1) := by decide +kernel
theorem dX1_addRow_21 : decode cX1_addRow 21 = .ok (.iastore, 1) := by decide +kernel
theorem dX1_addRow_22 : decode cX1_addRow 22 = .ok (.aload_n 0, 1) := by decide +kernel
theorem dX1_addRow_23 : decode cX1_addRow 23 = .ok (.iload 5, 2) := by decide +kernel
theorem dX1_addRow_25 : decode cX1_addRow 25 = .ok (.iconst 0, 1) := by decide +kernel
theorem dX1_addRow_26 : decode cX1_addRow 26 = .ok (.iload_n 2, 1) := by decide +kernel
theorem dX1_addRow_27 : decode cX1_addRow 27 = .ok (.invokevirtual 41, 3) := by decide +kernel
theorem dX1_addRow_30 : decode cX1_addRow 30 = .ok (.aload_n 0, 1) := by decide +kernel
theorem dX1_addRow_31 : decode cX1_addRow 31 = .ok (.iload 5, 2) := by decide +kernel
theorem dX1_addRow_33 : decode cX1_addRow 33 = .ok (.iconst 1, 1) := by decide +kernel
theorem dX1_addRow_34 : decode cX1_addRow 34 = .ok (.iload_n 3, 1) := by decide +kernel
theorem dX1_addRow_35 : decode cX1_addRow 35 = .ok (.invokevirtual 41, 3) := by decide +kernel
theorem dX1_addRow_38 : decode cX1_addRow 38 = .ok (.aload_n 0, 1) := by decide +kernel
theorem dX1_addRow_39 : decode cX1_addRow 39 = .ok (.iload 5, 2) := by decide +kernel
theorem dX1_addRow_41 : decode cX1_addRow 41 = .ok (.iconst 2, 1) := by decide +kernel
theorem dX1_addRow_42 : decode cX1_addRow 42 = .ok (.iload 4, 2) := by decide +kernel
theorem dX1_addRow_44 : decode cX1_addRow 44 = .ok (.invokevirtual 41, 3) := by decide +kernel
theorem dX1_addRow_47 : decode cX1_addRow 47 = .ok (.aload_n 0, 1) := by decide +kernel
theorem dX1_addRow_48 : decode cX1_addRow 48 = .ok (.iload 5, 2) := by decide +kernel
theorem dX1_addRow_50 : decode cX1_addRow 50 = .ok (.iconst 3, 1) := by decide +kernel
theorem dX1_addRow_51 : decode cX1_addRow 51 = .ok (.iconst 0, 1) := by decide +kernel
theorem dX1_addRow_52 : decode cX1_addRow 52 = .ok (.invokevirtual 41, 3) := by decide +kernel
theorem dX1_addRow_55 : decode cX1_addRow 55 = .ok (.aload_n 0, 1) := by decide +kernel
theorem dX1_addRow_56 : decode cX1_addRow 56 = .ok (.iload 5, 2) := by decide +kernel
theorem dX1_addRow_58 : decode cX1_addRow 58 = .ok (.iconst 4, 1) := by decide +kernel
theorem dX1_addRow_59 : decode cX1_addRow 59 = .ok (.iconst 0, 1) := by decide +kernel
theorem dX1_addRow_60 : decode cX1_addRow 60 = .ok (.invokevirtual 41, 3) := by decide +kernel
theorem dX1_addRow_63 : decode cX1_addRow 63 = .ok (.iload 4, 2) := by decide +kernel
theorem dX1_addRow_65 : decode cX1_addRow 65 = .ok (.iconst (-1), 1) := by decide +kernel
theorem dX1_addRow_66 : decode cX1_addRow 66 = .ok (.if_icmp .eq 27, 3) := by decide +kernel
theorem dX1_addRow_69 : decode cX1_addRow 69 = .ok (.iload_n 1, 1) := by decide +kernel
theorem dX1_addRow_70 : decode cX1_addRow 70 = .ok (.iload 4, 2) := by decide +kernel
theorem dX1_addRow_72 : decode cX1_addRow 72 = .ok (.invokestatic 34, 3) := by decide +kernel
theorem dX1_addRow_75 : decode cX1_addRow 75 = .ok (.istore 6, 2) := by decide +kernel
theorem dX1_addRow_77 : decode cX1_addRow 77 = .ok (.aload_n 0, 1) := by decide +kernel
theorem dX1_addRow_78 : decode cX1_addRow 78 = .ok (.iload 6, 2) := by decide +kernel
theorem dX1_addRow_80 : decode cX1_addRow 80 = .ok (.iconst 3, 1) := by decide +kernel
theorem dX1_addRow_81 : decode cX1_addRow 81 = .ok (.aload_n 0, 1) := by decide +kernel
theorem dX1_addRow_82 : decode cX1_addRow 82 = .ok (.iload 6, 2) := by decide +kernel
theorem dX1_addRow_84 : decode cX1_addRow 84 = .ok (.iconst 3, 1) := by decide +kernel
theorem dX1_addRow_85 : decode cX1_addRow 85 = .ok (.invokevirtual 30, 3) := by decide +kernel
theorem dX1_addRow_88 : decode cX1_addRow 88 = .ok (.iconst 1, 1) := by decide +kernel
theorem dX1_addRow_89 : decode cX1_addRow 89 = .ok (.iadd, 1) := by decide +kernel
theorem dX1_addRow_90 : decode cX1_addRow 90 = .ok (.invokevirtual 41, 3) := by decide +kernel
theorem dX1_addRow_93 : decode cX1_addRow 93 = .ok (.return_, 1) := by decide +kernel
theorem dX1_link_0 : decode cX1_link 0 = .ok (.aload_n 0, 1) := by decide +kernel
theorem dX1_link_1 : decode cX1_link 1 = .ok (.getfield 23, 3) := by decide +kernel
theorem dX1_link_4 : decode cX1_link 4 = .ok (.iload_n 1, 1) := by decide +kernel
theorem dX1_link_5 : decode cX1_link 5 = .ok (.iaload, 1) := by decide +kernel
theorem dX1_link_6 : decode cX1_link 6 = .ok (.iconst 1, 1) := by decide +kernel
theorem dX1_link_7 : decode cX1_link 7 = .ok (.isub, 1) := by decide +kernel
theorem dX1_link_8 : decode cX1_link 8 = .ok (.istore_n 2, 1) := by decide +kernel
theorem dX1_link_9 : decode cX1_link 9 = .ok (.iload_n 2, 1) := by decide +kernel
theorem dX1_link_10 : decode cX1_link 10 = .ok (.ifCond .lt 136, 3) := by decide +kernel
theorem dX1_link_13 : decode cX1_link 13 = .ok (.iload_n 1, 1) := by decide +kernel
theorem dX1_link_14 : decode cX1_link 14 = .ok (.iload_n 2, 1) := by decide +kernel
theorem dX1_link_15 : decode cX1_link 15 = .ok (.invokestatic 34, 3) := by decide +kernel
theorem dX1_link_18 : decode cX1_link 18 = .ok (.istore_n 3, 1) := by decide +kernel
theorem dX1_link_19 : decode cX1_link 19 = .ok (.aload_n 0, 1) := by decide +kernel
theorem dX1_link_20 : decode cX1_link 20 = .ok (.iload_n 3, 1) := by decide +kernel
theorem dX1_link_21 : decode cX1_link 21 = .ok (.iconst 0, 1) := by decide +kernel
theorem dX1_link_22 : decode cX1_link 22 = .ok (.invokevirtual 30, 3) := by decide +kernel
theorem dX1_link_25 : decode cX1_link 25 = .ok (.istore 4, 2) := by decide +kernel
theorem dX1_link_27 : decode cX1_link 27 = .ok (.aload_n 0, 1) := by decide +kernel
theorem dX1_link_28 : decode cX1_link 28 = .ok (.iload_n 1, 1) := by decide +kernel
theorem dX1_link_29 : decode cX1_link 29 = .ok (.iload_n 2, 1) := by decide +kernel
theorem dX1_link_30 : decode cX1_link 30 = .ok (.invokevirtual 45, 3) := by decide +kernel
theorem dX1_link_33 : decode cX1_link 33 = .ok (.istore 5, 2) := by decide +kernel
theorem dX1_link_35 : decode cX1_link 35 = .ok (.aload_n 0, 1) := by decide +kernel
theorem dX1_link_36 : decode cX1_link 36 = .ok (.iload_n 3, 1) := by decide +kernel
theorem dX1_link_37 : decode cX1_link 37 = .ok (.iconst 5, 1) := by decide +kernel
theorem dX1_link_38 : decode cX1_link 38 = .ok (.iload 5, 2) := by decide +kernel
theorem dX1_link_40 : decode cX1_link 40 = .ok (.invokevirtual 41, 3) := by decide +kernel
theorem dX1_link_43 : decode cX1_link 43 = .ok (.bipush 6, 2) := by decide +kernel
theorem dX1_link_45 : decode cX1_link 45 = .ok (.istore 6, 2) := by decide +kernel
theorem dX1_link_47 : decode cX1_link 47 = .ok (.iload 6, 2) := by decide +kernel
theorem dX1_link_49 : decode cX1_link 49 = .ok (.bipush 8, 2) := by decide +kernel
theorem dX1_link_51 : decode cX1_link 51 = .ok (.if_icmp .gt 89, 3) := by decide +kernel
theorem dX1_link_54 : decode cX1_link 54 = .ok (.iload 4, 2) := by decide +kernel
theorem dX1_link_56 : decode cX1_link 56 = .ok (.ifCond .ne 17, 3) := by decide +kernel
theorem dX1_link_59 : decode cX1_link 59 = .ok (.aload_n 0, 1) := by decide +kernel
theorem dX1_link_60 : decode cX1_link 60 = .ok (.iload_n 3, 1) := by decide +kernel
theorem dX1_link_61 : decode cX1_link 61 = .ok (.iconst 1, 1) := by decide +kernel
theorem dX1_link_62 : decode cX1_link 62 = .ok (.iadd, 1) := by decide +kernel
theorem dX1_link_63 : decode cX1_link 63 = .ok (.iload 6, 2) := by decide +kernel
theorem dX1_link_65 : decode cX1_link 65 = .ok (.iconst 3, 1) := by decide +kernel
theorem dX1_link_66 : decode cX1_link 66 = .ok (.iadd, 1) := by decide +kernel
theorem dX1_link_67 : decode cX1_link 67 = .ok (.invokevirtual 30, 3) := by decide +kernel
theorem dX1_link_70 : decode cX1_link 70 = .ok (.goto 17, 3) := by decide +kernel
theorem dX1_link_73 : decode cX1_link 73 = .ok (.getstatic 48, 3) := by decide +kernel
theorem dX1_link_76 : decode cX1_link 76 = .ok (.iload 4, 2) := by decide +kernel
theorem dX1_link_78 : decode cX1_link 78 = .ok (.iconst 3, 1) := by decide +kernel
theorem dX1_link_79 : decode cX1_link 79 = .ok (.imul, 1) := by decide +kernel
theorem dX1_link_80 : decode cX1_link 80 = .ok (.iload 6, 2) := by decide +kernel
theorem dX1_link_82 : decode cX1_link 82 = .ok (.iadd, 1) := by decide +kernel
theorem dX1_link_83 : decode cX1_link 83 = .ok (.bipush 6, 2) := by decide +kernel
theorem dX1_link_85 : decode cX1_link 85 = .ok (.isub, 1) := by decide +kernel
theorem dX1_link_86 : decode cX1_link 86 = .ok (.iaload, 1) := by decide +kernel
theorem dX1_link_87 : decode cX1_link 87 = .ok (.istore 7, 2) := by decide +kernel
theorem dX1_link_89 : decode cX1_link 89 = .ok (.iload 5, 2) := by decide +kernel
theorem dX1_link_91 : decode cX1_link 91 = .ok (.iconst (-1), 1) := by decide +kernel
theorem dX1_link_92 : decode cX1_link 92 = .ok (.if_icmp .ne 7, 3) := by decide +kernel
theorem dX1_link_95 : decode cX1_link 95 = .ok (.iconst 0, 1) := by decide +kernel
theorem dX1_link_96 : decode cX1_link 96 = .ok (.goto 13, 3) := by decide +kernel
theorem dX1_link_99 : decode cX1_link 99 = .ok (.aload_n 0, 1) := by decide +kernel
theorem dX1_link_100 : decode cX1_link 100 = .ok (.iload 5, 2) := by decide +kernel
theorem dX1_link_102 : decode cX1_link 102 = .ok (.iload 6, 2) := by decide +kernel
theorem dX1_link_104 : decode cX1_link 104 = .ok (.iconst 3, 1) := by decide +kernel
theorem dX1_link_105 : decode cX1_link 105 = .ok (.iadd, 1) := by decide +kernel
theorem dX1_link_106 : decode cX1_link 106 = .ok (.invokevirtual 30, 3) := by decide +kernel
theorem dX1_link_109 : decode cX1_link 109 = .ok (.istore 8, 2) := by decide +kernel
theorem dX1_link_111 : decode cX1_link 111 = .ok (.aload_n 0, 1) := by decide +kernel
theorem dX1_link_112 : decode cX1_link 112 = .ok (.iload_n 3, 1) := by decide +kernel
theorem dX1_link_113 : decode cX1_link 113 = .ok (.iload 6, 2) := by decide +kernel
theorem dX1_link_115 : decode cX1_link 115 = .ok (.iload 7, 2) := by decide +kernel
theorem dX1_link_117 : decode cX1_link 117 = .ok (.invokevirtual 41, 3) := by decide +kernel
theorem dX1_link_120 : decode cX1_link 120 = .ok (.aload_n 0, 1) := by decide +kernel
theorem dX1_link_121 : decode cX1_link 121 = .ok (.iload_n 3, 1) := by decide +kernel
theorem dX1_link_122 : decode cX1_link 122 = .ok (.iload 6, 2) := by decide +kernel
theorem dX1_link_124 : decode cX1_link 124 = .ok (.iconst 3, 1) := by decide +kernel
theorem dX1_link_125 : decode cX1_link 125 = .ok (.iadd, 1) := by decide +kernel
theorem dX1_link_126 : decode cX1_link 126 = .ok (.iload 7, 2) := by decide +kernel
theorem dX1_link_128 : decode cX1_link 128 = .ok (.iload 8, 2) := by decide +kernel
theorem dX1_link_130 : decode cX1_link 130 = .ok (.iadd, 1) := by decide +kernel
theorem dX1_link_131 : decode cX1_link 131 = .ok (.invokevirtual 41, 3) := by decide +kernel
theorem dX1_link_134 : decode cX1_link 134 = .ok (.iinc 6 1, 3) := by decide +kernel
theorem dX1_link_137 : decode cX1_link 137 = .ok (.goto (-90), 3) := by decide +kernel
theorem dX1_link_140 : decode cX1_link 140 = .ok (.iinc 2 (-1), 3) := by decide +kernel
theorem dX1_link_143 : decode cX1_link 143 = .ok (.goto (-134), 3) := by decide +kernel
theorem dX1_link_146 : decode cX1_link 146 = .ok (.return_, 1) := by decide +kernel
theorem dX1_nextPart_0 : decode cX1_nextPart 0 = .ok (.aload_n 0, 1) := by decide +kernel
theorem dX1_nextPart_1 : decode cX1_nextPart 1 = .ok (.iload_n 1, 1) := by decide +kernel
theorem dX1_nextPart_2 : decode cX1_nextPart 2 = .ok (.iload_n 2, 1) := by decide +kernel
theorem dX1_nextPart_3 : decode cX1_nextPart 3 = .ok (.invokestatic 34, 3) := by decide +kernel
theorem dX1_nextPart_6 : decode cX1_nextPart 6 = .ok (.iconst 2, 1) := by decide +kernel
theorem dX1_nextPart_7 : decode cX1_nextPart 7 = .ok (.invokevirtual 30, 3) := by decide +kernel
theorem dX1_nextPart_10 : decode cX1_nextPart 10 = .ok (.istore_n 3, 1) := by decide +kernel
theorem dX1_nextPart_11 : decode cX1_nextPart 11 = .ok (.iload_n 2, 1) := by decide +kernel
theorem dX1_nextPart_12 : decode cX1_nextPart 12 = .ok (.iconst 1, 1) := by decide +kernel
theorem dX1_nextPart_13 : decode cX1_nextPart 13 = .ok (.iadd, 1) := by decide +kernel
theorem dX1_nextPart_14 : decode cX1_nextPart 14 = .ok (.istore 4, 2) := by decide +kernel
theorem dX1_nextPart_16 : decode cX1_nextPart 16 = .ok (.iload 4, 2) := by decide +kernel
theorem dX1_nextPart_18 : decode cX1_nextPart 18 = .ok (.aload_n 0, 1) := by decide +kernel
theorem dX1_nextPart_19 : decode cX1_nextPart 19 = .ok (.getfield 23, 3) := by decide +kernel
theorem dX1_nextPart_22 : decode cX1_nextPart 22 = .ok (.iload_n 1, 1) := by decide +kernel
theorem dX1_nextPart_23 : decode cX1_nextPart 23 = .ok (.iaload, 1) := by decide +kernel
theorem dX1_nextPart_24 : decode cX1_nextPart 24 = .ok (.if_icmp .ge 31, 3) := by decide +kernel
theorem dX1_nextPart_27 : decode cX1_nextPart 27 = .ok (.aload_n 0, 1) := by decide +kernel
theorem dX1_nextPart_28 : decode cX1_nextPart 28 = .ok (.iload_n 1, 1) := by decide +kernel
theorem dX1_nextPart_29 : decode cX1_nextPart 29 = .ok (.iload 4, 2) := by decide +kernel
theorem dX1_nextPart_31 : decode cX1_nextPart 31 = .ok (.invokestatic 34, 3) := by decide +kernel
theorem dX1_nextPart_34 : decode cX1_nextPart 34 = .ok (.iconst 2, 1) := by decide +kernel
theorem dX1_nextPart_35 : decode cX1_nextPart 35 = .ok (.invokevirtual 30, 3) := by decide +kernel
theorem dX1_nextPart_38 : decode cX1_nextPart 38 = .ok (.iload_n 3, 1) := by decide +kernel
theorem dX1_nextPart_39 : decode cX1_nextPart 39 = .ok (.if_icmp .ne 10, 3) := by decide +kernel
theorem dX1_nextPart_42 : decode cX1_nextPart 42 = .ok (.iload_n 1, 1) := by decide +kernel
theorem dX1_nextPart_43 : decode cX1_nextPart 43 = .ok (.iload 4, 2) := by decide +kernel
theorem dX1_nextPart_45 : decode cX1_nextPart 45 = .ok (.invokestatic 34, 3) := by decide +kernel
theorem dX1_nextPart_48 : decode cX1_nextPart 48 = .ok (.ireturn, 1) := by decide +kernel
theorem dX1_nextPart_49 : decode cX1_nextPart 49 = .ok (.iinc 4 1, 3) := by decide +kernel
theorem dX1_nextPart_52 : decode cX1_nextPart 52 = .ok (.goto (-36), 3) := by decide +kernel
theorem dX1_nextPart_55 : decode cX1_nextPart 55 = .ok (.iconst (-1), 1) := by decide +kernel
theorem dX1_nextPart_56 : decode cX1_nextPart 56 = .ok (.ireturn, 1) := by decide +kernel

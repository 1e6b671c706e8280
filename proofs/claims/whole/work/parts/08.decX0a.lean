theorem dX0_init_0 : decode cX0_init 0 = .ok (.aload_n 0, 1) := by decide +kernel
theorem dX0_init_1 : decode cX0_init 1 = .ok (.invokespecial 3, 3) := by decide +kernel
theorem dX0_init_4 : decode cX0_init 4 = .ok (.aload_n 0, 1) := by decide +kernel
theorem dX0_init_5 : decode cX0_init 5 = .ok (.bipush 8, 2) := by decide +kernel
theorem dX0_init_7 : decode cX0_init 7 = .ok (.newarray .int, 2) := by decide +kernel
theorem dX0_init_9 : decode cX0_init 9 = .ok (.putfield 9, 3) := by decide +kernel
theorem dX0_init_12 : decode cX0_init 12 = .ok (.aload_n 0, 1) := by decide +kernel
theorem dX0_init_13 : decode cX0_init 13 = .ok (.ldc 15, 2) := by decide +kernel
theorem dX0_init_15 : decode cX0_init 15 = .ok (.newarray .int, 2) := by decide +kernel
theorem dX0_init_17 : decode cX0_init 17 = .ok (.putfield 16, 3) := by decide +kernel
theorem dX0_init_20 : decode cX0_init 20 = .ok (.aload_n 0, 1) := by decide +kernel
theorem dX0_init_21 : decode cX0_init 21 = .ok (.ldc 15, 2) := by decide +kernel
theorem dX0_init_23 : decode cX0_init 23 = .ok (.newarray .int, 2) := by decide +kernel
theorem dX0_init_25 : decode cX0_init 25 = .ok (.putfield 19, 3) := by decide +kernel
theorem dX0_init_28 : decode cX0_init 28 = .ok (.aload_n 0, 1) := by decide +kernel
theorem dX0_init_29 : decode cX0_init 29 = .ok (.sipush 720, 3) := by decide +kernel
theorem dX0_init_32 : decode cX0_init 32 = .ok (.newarray .int, 2) := by decide +kernel
theorem dX0_init_34 : decode cX0_init 34 = .ok (.putfield 22, 3) := by decide +kernel
theorem dX0_init_37 : decode cX0_init 37 = .ok (.aload_n 0, 1) := by decide +kernel
theorem dX0_init_38 : decode cX0_init 38 = .ok (.sipush 5280, 3) := by decide +kernel
theorem dX0_init_41 : decode cX0_init 41 = .ok (.newarray .int, 2) := by decide +kernel
theorem dX0_init_43 : decode cX0_init 43 = .ok (.putfield 25, 3) := by decide +kernel
theorem dX0_init_46 : decode cX0_init 46 = .ok (.aload_n 0, 1) := by decide +kernel
theorem dX0_init_47 : decode cX0_init 47 = .ok (.bipush 16, 2) := by decide +kernel
theorem dX0_init_49 : decode cX0_init 49 = .ok (.newarray .int, 2) := by decide +kernel
theorem dX0_init_51 : decode cX0_init 51 = .ok (.putfield 28, 3) := by decide +kernel
theorem dX0_init_54 : decode cX0_init 54 = .ok (.aload_n 0, 1) := by decide +kernel
theorem dX0_init_55 : decode cX0_init 55 = .ok (.aload_n 1, 1) := by decide +kernel
theorem dX0_init_56 : decode cX0_init 56 = .ok (.putfield 31, 3) := by decide +kernel
theorem dX0_init_59 : decode cX0_init 59 = .ok (.return_, 1) := by decide +kernel
theorem dX0_cut_0 : decode cX0_cut 0 = .ok (.lload_n 0, 1) := by decide +kernel
theorem dX0_cut_1 : decode cX0_cut 1 = .ok (.ldc2_w 35, 3) := by decide +kernel
theorem dX0_cut_4 : decode cX0_cut 4 = .ok (.lcmp, 1) := by decide +kernel
theorem dX0_cut_5 : decode cX0_cut 5 = .ok (.ifCond .le 8, 3) := by decide +kernel
theorem dX0_cut_8 : decode cX0_cut 8 = .ok (.ldc 37, 2) := by decide +kernel
theorem dX0_cut_10 : decode cX0_cut 10 = .ok (.goto 5, 3) := by decide +kernel
theorem dX0_cut_13 : decode cX0_cut 13 = .ok (.lload_n 0, 1) := by decide +kernel
theorem dX0_cut_14 : decode cX0_cut 14 = .ok (.l2i, 1) := by decide +kernel
theorem dX0_cut_15 : decode cX0_cut 15 = .ok (.ireturn, 1) := by decide +kernel
theorem dX0_initialWays_0 : decode cX0_initialWays 0 = .ok (.aload_n 0, 1) := by decide +kernel
theorem dX0_initialWays_1 : decode cX0_initialWays 1 = .ok (.getfield 22, 3) := by decide +kernel
theorem dX0_initialWays_4 : decode cX0_initialWays 4 = .ok (.iload_n 1, 1) := by decide +kernel
theorem dX0_initialWays_5 : decode cX0_initialWays 5 = .ok (.bipush 45, 2) := by decide +kernel
theorem dX0_initialWays_7 : decode cX0_initialWays 7 = .ok (.imul, 1) := by decide +kernel
theorem dX0_initialWays_8 : decode cX0_initialWays 8 = .ok (.iload_n 2, 1) := by decide +kernel
theorem dX0_initialWays_9 : decode cX0_initialWays 9 = .ok (.iload_n 3, 1) := by decide +kernel
theorem dX0_initialWays_10 : decode cX0_initialWays 10 = .ok (.iconst (-1), 1) := by decide +kernel
theorem dX0_initialWays_11 : decode cX0_initialWays 11 = .ok (.iconst (-1), 1) := by decide +kernel
theorem dX0_initialWays_12 : decode cX0_initialWays 12 = .ok (.invokestatic 38, 3) := by decide +kernel
theorem dX0_initialWays_15 : decode cX0_initialWays 15 = .ok (.iadd, 1) := by decide +kernel
theorem dX0_initialWays_16 : decode cX0_initialWays 16 = .ok (.iaload, 1) := by decide +kernel
theorem dX0_initialWays_17 : decode cX0_initialWays 17 = .ok (.ireturn, 1) := by decide +kernel
theorem dX0_nodeWays_0 : decode cX0_nodeWays 0 = .ok (.aload_n 0, 1) := by decide +kernel
theorem dX0_nodeWays_1 : decode cX0_nodeWays 1 = .ok (.getfield 16, 3) := by decide +kernel
theorem dX0_nodeWays_4 : decode cX0_nodeWays 4 = .ok (.iload_n 1, 1) := by decide +kernel
theorem dX0_nodeWays_5 : decode cX0_nodeWays 5 = .ok (.sipush 330, 3) := by decide +kernel
theorem dX0_nodeWays_8 : decode cX0_nodeWays 8 = .ok (.imul, 1) := by decide +kernel
theorem dX0_nodeWays_9 : decode cX0_nodeWays 9 = .ok (.iload_n 2, 1) := by decide +kernel
theorem dX0_nodeWays_10 : decode cX0_nodeWays 10 = .ok (.iload_n 3, 1) := by decide +kernel
theorem dX0_nodeWays_11 : decode cX0_nodeWays 11 = .ok (.iload 4, 2) := by decide +kernel
theorem dX0_nodeWays_13 : decode cX0_nodeWays 13 = .ok (.iload 5, 2) := by decide +kernel
theorem dX0_nodeWays_15 : decode cX0_nodeWays 15 = .ok (.invokestatic 38, 3) := by decide +kernel
theorem dX0_nodeWays_18 : decode cX0_nodeWays 18 = .ok (.iadd, 1) := by decide +kernel
theorem dX0_nodeWays_19 : decode cX0_nodeWays 19 = .ok (.iaload, 1) := by decide +kernel
theorem dX0_nodeWays_20 : decode cX0_nodeWays 20 = .ok (.ireturn, 1) := by decide +kernel
theorem dX0_partsWays_0 : decode cX0_partsWays 0 = .ok (.aload_n 0, 1) := by decide +kernel
theorem dX0_partsWays_1 : decode cX0_partsWays 1 = .ok (.getfield 19, 3) := by decide +kernel
theorem dX0_partsWays_4 : decode cX0_partsWays 4 = .ok (.iload_n 1, 1) := by decide +kernel
theorem dX0_partsWays_5 : decode cX0_partsWays 5 = .ok (.iconst 1, 1) := by decide +kernel
theorem dX0_partsWays_6 : decode cX0_partsWays 6 = .ok (.iadd, 1) := by decide +kernel
theorem dX0_partsWays_7 : decode cX0_partsWays 7 = .ok (.sipush 330, 3) := by decide +kernel
theorem dX0_partsWays_10 : decode cX0_partsWays 10 = .ok (.imul, 1) := by decide +kernel
theorem dX0_partsWays_11 : decode cX0_partsWays 11 = .ok (.iload_n 2, 1) := by decide +kernel
theorem dX0_partsWays_12 : decode cX0_partsWays 12 = .ok (.iload_n 3, 1) := by decide +kernel
theorem dX0_partsWays_13 : decode cX0_partsWays 13 = .ok (.iload 4, 2) := by decide +kernel
theorem dX0_partsWays_15 : decode cX0_partsWays 15 = .ok (.iload 5, 2) := by decide +kernel
theorem dX0_partsWays_17 : decode cX0_partsWays 17 = .ok (.invokestatic 38, 3) := by decide +kernel
theorem dX0_partsWays_20 : decode cX0_partsWays 20 = .ok (.iadd, 1) := by decide +kernel
theorem dX0_partsWays_21 : decode cX0_partsWays 21 = .ok (.iaload, 1) := by decide +kernel
theorem dX0_partsWays_22 : decode cX0_partsWays 22 = .ok (.ireturn, 1) := by decide +kernel
theorem dX0_headWays_0 : decode cX0_headWays 0 = .ok (.aload_n 0, 1) := by decide +kernel
theorem dX0_headWays_1 : decode cX0_headWays 1 = .ok (.getfield 31, 3) := by decide +kernel
theorem dX0_headWays_4 : decode cX0_headWays 4 = .ok (.iload_n 1, 1) := by decide +kernel
theorem dX0_headWays_5 : decode cX0_headWays 5 = .ok (.invokevirtual 42, 3) := by decide +kernel
theorem dX0_headWays_8 : decode cX0_headWays 8 = .ok (.istore 6, 2) := by decide +kernel
theorem dX0_headWays_10 : decode cX0_headWays 10 = .ok (.aload_n 0, 1) := by decide +kernel
theorem dX0_headWays_11 : decode cX0_headWays 11 = .ok (.getfield 16, 3) := by decide +kernel
theorem dX0_headWays_14 : decode cX0_headWays 14 = .ok (.iload_n 1, 1) := by decide +kernel
theorem dX0_headWays_15 : decode cX0_headWays 15 = .ok (.sipush 330, 3) := by decide +kernel
theorem dX0_headWays_18 : decode cX0_headWays 18 = .ok (.imul, 1) := by decide +kernel
theorem dX0_headWays_19 : decode cX0_headWays 19 = .ok (.iload_n 2, 1) := by decide +kernel
theorem dX0_headWays_20 : decode cX0_headWays 20 = .ok (.iload_n 3, 1) := by decide +kernel
theorem dX0_headWays_21 : decode cX0_headWays 21 = .ok (.iload 6, 2) := by decide +kernel
theorem dX0_headWays_23 : decode cX0_headWays 23 = .ok (.ifCond .eq 8, 3) := by decide +kernel
theorem dX0_headWays_26 : decode cX0_headWays 26 = .ok (.iload 4, 2) := by decide +kernel
theorem dX0_headWays_28 : decode cX0_headWays 28 = .ok (.goto 4, 3) := by decide +kernel
theorem dX0_headWays_31 : decode cX0_headWays 31 = .ok (.iconst (-1), 1) := by decide +kernel
theorem dX0_headWays_32 : decode cX0_headWays 32 = .ok (.iload 6, 2) := by decide +kernel
theorem dX0_headWays_34 : decode cX0_headWays 34 = .ok (.ifCond .eq 8, 3) := by decide +kernel
theorem dX0_headWays_37 : decode cX0_headWays 37 = .ok (.iload 5, 2) := by decide +kernel
theorem dX0_headWays_39 : decode cX0_headWays 39 = .ok (.goto 4, 3) := by decide +kernel
theorem dX0_headWays_42 : decode cX0_headWays 42 = .ok (.iconst (-1), 1) := by decide +kernel
theorem dX0_headWays_43 : decode cX0_headWays 43 = .ok (.invokestatic 38, 3) := by decide +kernel
theorem dX0_headWays_46 : decode cX0_headWays 46 = .ok (.iadd, 1) := by decide +kernel
theorem dX0_headWays_47 : decode cX0_headWays 47 = .ok (.iaload, 1) := by decide +kernel
theorem dX0_headWays_48 : decode cX0_headWays 48 = .ok (.ireturn, 1) := by decide +kernel
theorem dX0_tailWays_0 : decode cX0_tailWays 0 = .ok (.aload_n 0, 1) := by decide +kernel
theorem dX0_tailWays_1 : decode cX0_tailWays 1 = .ok (.getfield 31, 3) := by decide +kernel
theorem dX0_tailWays_4 : decode cX0_tailWays 4 = .ok (.iload_n 1, 1) := by decide +kernel
theorem dX0_tailWays_5 : decode cX0_tailWays 5 = .ok (.invokevirtual 42, 3) := by decide +kernel
theorem dX0_tailWays_8 : decode cX0_tailWays 8 = .ok (.ifCond .ne 7, 3) := by decide +kernel
theorem dX0_tailWays_11 : decode cX0_tailWays 11 = .ok (.iconst 1, 1) := by decide +kernel
theorem dX0_tailWays_12 : decode cX0_tailWays 12 = .ok (.goto 4, 3) := by decide +kernel
theorem dX0_tailWays_15 : decode cX0_tailWays 15 = .ok (.iconst 0, 1) := by decide +kernel
theorem dX0_tailWays_16 : decode cX0_tailWays 16 = .ok (.istore 6, 2) := by decide +kernel
theorem dX0_tailWays_18 : decode cX0_tailWays 18 = .ok (.aload_n 0, 1) := by decide +kernel
theorem dX0_tailWays_19 : decode cX0_tailWays 19 = .ok (.getfield 31, 3) := by decide +kernel
theorem dX0_tailWays_22 : decode cX0_tailWays 22 = .ok (.iload_n 1, 1) := by decide +kernel
theorem dX0_tailWays_23 : decode cX0_tailWays 23 = .ok (.iconst 5, 1) := by decide +kernel
theorem dX0_tailWays_24 : decode cX0_tailWays 24 = .ok (.invokevirtual 48, 3) := by decide +kernel
theorem dX0_tailWays_27 : decode cX0_tailWays 27 = .ok (.istore 7, 2) := by decide +kernel
theorem dX0_tailWays_29 : decode cX0_tailWays 29 = .ok (.aload_n 0, 1) := by decide +kernel
theorem dX0_tailWays_30 : decode cX0_tailWays 30 = .ok (.getfield 19, 3) := by decide +kernel
theorem dX0_tailWays_33 : decode cX0_tailWays 33 = .ok (.iload 7, 2) := by decide +kernel
theorem dX0_tailWays_35 : decode cX0_tailWays 35 = .ok (.sipush 330, 3) := by decide +kernel
theorem dX0_tailWays_38 : decode cX0_tailWays 38 = .ok (.imul, 1) := by decide +kernel
theorem dX0_tailWays_39 : decode cX0_tailWays 39 = .ok (.iload_n 2, 1) := by decide +kernel
theorem dX0_tailWays_40 : decode cX0_tailWays 40 = .ok (.iload_n 3, 1) := by decide +kernel
theorem dX0_tailWays_41 : decode cX0_tailWays 41 = .ok (.iload 6, 2) := by decide +kernel
theorem dX0_tailWays_43 : decode cX0_tailWays 43 = .ok (.ifCond .eq 8, 3) := by decide +kernel
theorem dX0_tailWays_46 : decode cX0_tailWays 46 = .ok (.iload 4, 2) := by decide +kernel
theorem dX0_tailWays_48 : decode cX0_tailWays 48 = .ok (.goto 4, 3) := by decide +kernel
theorem dX0_tailWays_51 : decode cX0_tailWays 51 = .ok (.iconst (-1), 1) := by decide +kernel
theorem dX0_tailWays_52 : decode cX0_tailWays 52 = .ok (.iload 6, 2) := by decide +kernel
theorem dX0_tailWays_54 : decode cX0_tailWays 54 = .ok (.ifCond .eq 8, 3) := by decide +kernel
theorem dX0_tailWays_57 : decode cX0_tailWays 57 = .ok (.iload 5, 2) := by decide +kernel
theorem dX0_tailWays_59 : decode cX0_tailWays 59 = .ok (.goto 4, 3) := by decide +kernel
theorem dX0_tailWays_62 : decode cX0_tailWays 62 = .ok (.iconst (-1), 1) := by decide +kernel
theorem dX0_tailWays_63 : decode cX0_tailWays 63 = .ok (.invokestatic 38, 3) := by decide +kernel
theorem dX0_tailWays_66 : decode cX0_tailWays 66 = .ok (.iadd, 1) := by decide +kernel
theorem dX0_tailWays_67 : decode cX0_tailWays 67 = .ok (.iaload, 1) := by decide +kernel
theorem dX0_tailWays_68 : decode cX0_tailWays 68 = .ok (.ireturn, 1) := by decide +kernel
theorem dX0_firstSplit_0 : decode cX0_firstSplit 0 = .ok (.aload_n 0, 1) := by decide +kernel
theorem dX0_firstSplit_1 : decode cX0_firstSplit 1 = .ok (.getfield 31, 3) := by decide +kernel
theorem dX0_firstSplit_4 : decode cX0_firstSplit 4 = .ok (.iload_n 1, 1) := by decide +kernel
theorem dX0_firstSplit_5 : decode cX0_firstSplit 5 = .ok (.invokevirtual 42, 3) := by decide +kernel
theorem dX0_firstSplit_8 : decode cX0_firstSplit 8 = .ok (.ifCond .eq 7, 3) := by decide +kernel
theorem dX0_firstSplit_11 : decode cX0_firstSplit 11 = .ok (.iload_n 3, 1) := by decide +kernel
theorem dX0_firstSplit_12 : decode cX0_firstSplit 12 = .ok (.goto 15, 3) := by decide +kernel
theorem dX0_firstSplit_15 : decode cX0_firstSplit 15 = .ok (.iload_n 2, 1) := by decide +kernel
theorem dX0_firstSplit_16 : decode cX0_firstSplit 16 = .ok (.aload_n 0, 1) := by decide +kernel
theorem dX0_firstSplit_17 : decode cX0_firstSplit 17 = .ok (.getfield 31, 3) := by decide +kernel
theorem dX0_firstSplit_20 : decode cX0_firstSplit 20 = .ok (.iload_n 1, 1) := by decide +kernel
theorem dX0_firstSplit_21 : decode cX0_firstSplit 21 = .ok (.bipush 7, 2) := by decide +kernel
theorem dX0_firstSplit_23 : decode cX0_firstSplit 23 = .ok (.invokevirtual 48, 3) := by decide +kernel
theorem dX0_firstSplit_26 : decode cX0_firstSplit 26 = .ok (.iadd, 1) := by decide +kernel
theorem dX0_firstSplit_27 : decode cX0_firstSplit 27 = .ok (.ireturn, 1) := by decide +kernel
theorem dX0_lastSplit_0 : decode cX0_lastSplit 0 = .ok (.aload_n 0, 1) := by decide +kernel
theorem dX0_lastSplit_1 : decode cX0_lastSplit 1 = .ok (.getfield 31, 3) := by decide +kernel
theorem dX0_lastSplit_4 : decode cX0_lastSplit 4 = .ok (.iload_n 1, 1) := by decide +kernel
theorem dX0_lastSplit_5 : decode cX0_lastSplit 5 = .ok (.iconst 5, 1) := by decide +kernel
theorem dX0_lastSplit_6 : decode cX0_lastSplit 6 = .ok (.invokevirtual 48, 3) := by decide +kernel
theorem dX0_lastSplit_9 : decode cX0_lastSplit 9 = .ok (.istore 4, 2) := by decide +kernel
theorem dX0_lastSplit_11 : decode cX0_lastSplit 11 = .ok (.aload_n 0, 1) := by decide +kernel
theorem dX0_lastSplit_12 : decode cX0_lastSplit 12 = .ok (.getfield 31, 3) := by decide +kernel
theorem dX0_lastSplit_15 : decode cX0_lastSplit 15 = .ok (.iload_n 1, 1) := by decide +kernel
theorem dX0_lastSplit_16 : decode cX0_lastSplit 16 = .ok (.invokevirtual 42, 3) := by decide +kernel
theorem dX0_lastSplit_19 : decode cX0_lastSplit 19 = .ok (.ifCond .ne 8, 3) := by decide +kernel
theorem dX0_lastSplit_22 : decode cX0_lastSplit 22 = .ok (.iload_n 3, 1) := by decide +kernel
theorem dX0_lastSplit_23 : decode cX0_lastSplit 23 = .ok (.iconst (-1), 1) := by decide +kernel
theorem dX0_lastSplit_24 : decode cX0_lastSplit 24 = .ok (.if_icmp .ne 19, 3) := by decide +kernel
theorem dX0_lastSplit_27 : decode cX0_lastSplit 27 = .ok (.iload_n 2, 1) := by decide +kernel
theorem dX0_lastSplit_28 : decode cX0_lastSplit 28 = .ok (.aload_n 0, 1) := by decide +kernel
theorem dX0_lastSplit_29 : decode cX0_lastSplit 29 = .ok (.getfield 31, 3) := by decide +kernel
theorem dX0_lastSplit_32 : decode cX0_lastSplit 32 = .ok (.iload 4, 2) := by decide +kernel
theorem dX0_lastSplit_34 : decode cX0_lastSplit 34 = .ok (.bipush 10, 2) := by decide +kernel
theorem dX0_lastSplit_36 : decode cX0_lastSplit 36 = .ok (.invokevirtual 48, 3) := by decide +kernel
theorem dX0_lastSplit_39 : decode cX0_lastSplit 39 = .ok (.isub, 1) := by decide +kernel
theorem dX0_lastSplit_40 : decode cX0_lastSplit 40 = .ok (.goto 4, 3) := by decide +kernel
theorem dX0_lastSplit_43 : decode cX0_lastSplit 43 = .ok (.iload_n 3, 1) := by decide +kernel
theorem dX0_lastSplit_44 : decode cX0_lastSplit 44 = .ok (.ireturn, 1) := by decide +kernel
theorem dX0_narrowest_0 : decode cX0_narrowest 0 = .ok (.aload_n 0, 1) := by decide +kernel
theorem dX0_narrowest_1 : decode cX0_narrowest 1 = .ok (.getfield 31, 3) := by decide +kernel
theorem dX0_narrowest_4 : decode cX0_narrowest 4 = .ok (.iload_n 1, 1) := by decide +kernel
theorem dX0_narrowest_5 : decode cX0_narrowest 5 = .ok (.bipush 7, 2) := by decide +kernel
theorem dX0_narrowest_7 : decode cX0_narrowest 7 = .ok (.invokevirtual 48, 3) := by decide +kernel
theorem dX0_narrowest_10 : decode cX0_narrowest 10 = .ok (.iload_n 3, 1) := by decide +kernel
theorem dX0_narrowest_11 : decode cX0_narrowest 11 = .ok (.iadd, 1) := by decide +kernel
theorem dX0_narrowest_12 : decode cX0_narrowest 12 = .ok (.iload_n 2, 1) := by decide +kernel
theorem dX0_narrowest_13 : decode cX0_narrowest 13 = .ok (.isub, 1) := by decide +kernel
theorem dX0_narrowest_14 : decode cX0_narrowest 14 = .ok (.ireturn, 1) := by decide +kernel
theorem dX0_lastBegin_0 : decode cX0_lastBegin 0 = .ok (.iload_n 2, 1) := by decide +kernel
theorem dX0_lastBegin_1 : decode cX0_lastBegin 1 = .ok (.iconst (-1), 1) := by decide +kernel
theorem dX0_lastBegin_2 : decode cX0_lastBegin 2 = .ok (.if_icmp .ne 9, 3) := by decide +kernel
theorem dX0_lastBegin_5 : decode cX0_lastBegin 5 = .ok (.iload_n 1, 1) := by decide +kernel
theorem dX0_lastBegin_6 : decode cX0_lastBegin 6 = .ok (.iload_n 3, 1) := by decide +kernel
theorem dX0_lastBegin_7 : decode cX0_lastBegin 7 = .ok (.isub, 1) := by decide +kernel
theorem dX0_lastBegin_8 : decode cX0_lastBegin 8 = .ok (.goto 4, 3) := by decide +kernel
theorem dX0_lastBegin_11 : decode cX0_lastBegin 11 = .ok (.iload_n 2, 1) := by decide +kernel
theorem dX0_lastBegin_12 : decode cX0_lastBegin 12 = .ok (.ireturn, 1) := by decide +kernel
theorem dX0_fill_0 : decode cX0_fill 0 = .ok (.aload_n 0, 1) := by decide +kernel
theorem dX0_fill_1 : decode cX0_fill 1 = .ok (.aload_n 1, 1) := by decide +kernel
theorem dX0_fill_2 : decode cX0_fill 2 = .ok (.invokevirtual 52, 3) := by decide +kernel
theorem dX0_fill_5 : decode cX0_fill 5 = .ok (.aload_n 0, 1) := by decide +kernel
theorem dX0_fill_6 : decode cX0_fill 6 = .ok (.getfield 22, 3) := by decide +kernel
theorem dX0_fill_9 : decode cX0_fill 9 = .ok (.iconst 0, 1) := by decide +kernel
theorem dX0_fill_10 : decode cX0_fill 10 = .ok (.invokestatic 56, 3) := by decide +kernel
theorem dX0_fill_13 : decode cX0_fill 13 = .ok (.aload_n 0, 1) := by decide +kernel
theorem dX0_fill_14 : decode cX0_fill 14 = .ok (.getfield 25, 3) := by decide +kernel
theorem dX0_fill_17 : decode cX0_fill 17 = .ok (.iconst 0, 1) := by decide +kernel
theorem dX0_fill_18 : decode cX0_fill 18 = .ok (.invokestatic 56, 3) := by decide +kernel
theorem dX0_fill_21 : decode cX0_fill 21 = .ok (.aload_n 0, 1) := by decide +kernel
theorem dX0_fill_22 : decode cX0_fill 22 = .ok (.getfield 28, 3) := by decide +kernel
theorem dX0_fill_25 : decode cX0_fill 25 = .ok (.iconst 0, 1) := by decide +kernel
theorem dX0_fill_26 : decode cX0_fill 26 = .ok (.invokestatic 56, 3) := by decide +kernel
theorem dX0_fill_29 : decode cX0_fill 29 = .ok (.iconst 0, 1) := by decide +kernel
theorem dX0_fill_30 : decode cX0_fill 30 = .ok (.istore_n 2, 1) := by decide +kernel
theorem dX0_fill_31 : decode cX0_fill 31 = .ok (.iload_n 2, 1) := by decide +kernel
theorem dX0_fill_32 : decode cX0_fill 32 = .ok (.aload_n 0, 1) := by decide +kernel
theorem dX0_fill_33 : decode cX0_fill 33 = .ok (.getfield 31, 3) := by decide +kernel
theorem dX0_fill_36 : decode cX0_fill 36 = .ok (.getfield 62, 3) := by decide +kernel
theorem dX0_fill_39 : decode cX0_fill 39 = .ok (.if_icmp .ge 37, 3) := by decide +kernel
theorem dX0_fill_42 : decode cX0_fill 42 = .ok (.aload_n 0, 1) := by decide +kernel
theorem dX0_fill_43 : decode cX0_fill 43 = .ok (.getfield 31, 3) := by decide +kernel
theorem dX0_fill_46 : decode cX0_fill 46 = .ok (.iload_n 2, 1) := by decide +kernel
theorem dX0_fill_47 : decode cX0_fill 47 = .ok (.invokevirtual 66, 3) := by decide +kernel
theorem dX0_fill_50 : decode cX0_fill 50 = .ok (.ifCond .eq 20, 3) := by decide +kernel
theorem dX0_fill_53 : decode cX0_fill 53 = .ok (.aload_n 0, 1) := by decide +kernel
theorem dX0_fill_54 : decode cX0_fill 54 = .ok (.getfield 28, 3) := by decide +kernel
theorem dX0_fill_57 : decode cX0_fill 57 = .ok (.aload_n 0, 1) := by decide +kernel
theorem dX0_fill_58 : decode cX0_fill 58 = .ok (.getfield 31, 3) := by decide +kernel
theorem dX0_fill_61 : decode cX0_fill 61 = .ok (.iload_n 2, 1) := by decide +kernel
theorem dX0_fill_62 : decode cX0_fill 62 = .ok (.invokevirtual 69, 3) := by decide +kernel
theorem dX0_fill_65 : decode cX0_fill 65 = .ok (.dup2, 1) := by decide +kernel
theorem dX0_fill_66 : decode cX0_fill 66 = .ok (.iaload, 1) := by decide +kernel
theorem dX0_fill_67 : decode cX0_fill 67 = .ok (.iconst 1, 1) := by decide +kernel
theorem dX0_fill_68 : decode cX0_fill 68 = .ok (.iadd, 1) := by decide +kernel
theorem dX0_fill_69 : decode cX0_fill 69 = .ok (.iastore, 1) := by decide +kernel
theorem dX0_fill_70 : decode cX0_fill 70 = .ok (.iinc 2 1, 3) := by decide +kernel
theorem dX0_fill_73 : decode cX0_fill 73 = .ok (.goto (-42), 3) := by decide +kernel
theorem dX0_fill_76 : decode cX0_fill 76 = .ok (.iconst 0, 1) := by decide +kernel
theorem dX0_fill_77 : decode cX0_fill 77 = .ok (.istore_n 2, 1) := by decide +kernel
theorem dX0_fill_78 : decode cX0_fill 78 = .ok (.iload_n 2, 1) := by decide +kernel
theorem dX0_fill_79 : decode cX0_fill 79 = .ok (.aload_n 0, 1) := by decide +kernel
theorem dX0_fill_80 : decode cX0_fill 80 = .ok (.getfield 73, 3) := by decide +kernel
theorem dX0_fill_83 : decode cX0_fill 83 = .ok (.if_icmp .gt 46, 3) := by decide +kernel
theorem dX0_fill_86 : decode cX0_fill 86 = .ok (.aload_n 0, 1) := by decide +kernel
theorem dX0_fill_87 : decode cX0_fill 87 = .ok (.iload_n 2, 1) := by decide +kernel
theorem dX0_fill_88 : decode cX0_fill 88 = .ok (.iconst 1, 1) := by decide +kernel
theorem dX0_fill_89 : decode cX0_fill 89 = .ok (.invokevirtual 76, 3) := by decide +kernel
theorem dX0_fill_92 : decode cX0_fill 92 = .ok (.iconst 0, 1) := by decide +kernel
theorem dX0_fill_93 : decode cX0_fill 93 = .ok (.istore_n 3, 1) := by decide +kernel
theorem dX0_fill_94 : decode cX0_fill 94 = .ok (.iload_n 3, 1) := by decide +kernel
theorem dX0_fill_95 : decode cX0_fill 95 = .ok (.aload_n 0, 1) := by decide +kernel
theorem dX0_fill_96 : decode cX0_fill 96 = .ok (.getfield 31, 3) := by decide +kernel
theorem dX0_fill_99 : decode cX0_fill 99 = .ok (.getfield 62, 3) := by decide +kernel
theorem dX0_fill_102 : decode cX0_fill 102 = .ok (.if_icmp .ge 15, 3) := by decide +kernel
theorem dX0_fill_105 : decode cX0_fill 105 = .ok (.aload_n 0, 1) := by decide +kernel
theorem dX0_fill_106 : decode cX0_fill 106 = .ok (.iload_n 3, 1) := by decide +kernel
theorem dX0_fill_107 : decode cX0_fill 107 = .ok (.iload_n 2, 1) := by decide +kernel
theorem dX0_fill_108 : decode cX0_fill 108 = .ok (.invokevirtual 80, 3) := by decide +kernel
theorem dX0_fill_111 : decode cX0_fill 111 = .ok (.iinc 3 1, 3) := by decide +kernel
theorem dX0_fill_114 : decode cX0_fill 114 = .ok (.goto (-20), 3) := by decide +kernel
theorem dX0_fill_117 : decode cX0_fill 117 = .ok (.aload_n 0, 1) := by decide +kernel
theorem dX0_fill_118 : decode cX0_fill 118 = .ok (.iload_n 2, 1) := by decide +kernel
theorem dX0_fill_119 : decode cX0_fill 119 = .ok (.iconst 0, 1) := by decide +kernel
theorem dX0_fill_120 : decode cX0_fill 120 = .ok (.invokevirtual 76, 3) := by decide +kernel
theorem dX0_fill_123 : decode cX0_fill 123 = .ok (.iinc 2 1, 3) := by decide +kernel
theorem dX0_fill_126 : decode cX0_fill 126 = .ok (.goto (-48), 3) := by decide +kernel
theorem dX0_fill_129 : decode cX0_fill 129 = .ok (.return_, 1) := by decide +kernel
theorem dX0_hear_0 : decode cX0_hear 0 = .ok (.aload_n 0, 1) := by decide +kernel
theorem dX0_hear_1 : decode cX0_hear 1 = .ok (.aload_n 1, 1) := by decide +kernel
theorem dX0_hear_2 : decode cX0_hear 2 = .ok (.getfield 84, 3) := by decide +kernel
theorem dX0_hear_5 : decode cX0_hear 5 = .ok (.putfield 73, 3) := by decide +kernel
theorem dX0_hear_8 : decode cX0_hear 8 = .ok (.iconst 0, 1) := by decide +kernel
theorem dX0_hear_9 : decode cX0_hear 9 = .ok (.istore_n 2, 1) := by decide +kernel
theorem dX0_hear_10 : decode cX0_hear 10 = .ok (.iload_n 2, 1) := by decide +kernel
theorem dX0_hear_11 : decode cX0_hear 11 = .ok (.aload_n 0, 1) := by decide +kernel
theorem dX0_hear_12 : decode cX0_hear 12 = .ok (.getfield 73, 3) := by decide +kernel
theorem dX0_hear_15 : decode cX0_hear 15 = .ok (.if_icmp .ge 44, 3) := by decide +kernel
theorem dX0_hear_18 : decode cX0_hear 18 = .ok (.aload_n 1, 1) := by decide +kernel
theorem dX0_hear_19 : decode cX0_hear 19 = .ok (.iload_n 2, 1) := by decide +kernel
theorem dX0_hear_20 : decode cX0_hear 20 = .ok (.invokevirtual 89, 3) := by decide +kernel
theorem dX0_hear_23 : decode cX0_hear 23 = .ok (.istore_n 3, 1) := by decide +kernel
theorem dX0_hear_24 : decode cX0_hear 24 = .ok (.aload_n 0, 1) := by decide +kernel
theorem dX0_hear_25 : decode cX0_hear 25 = .ok (.getfield 9, 3) := by decide +kernel
theorem dX0_hear_28 : decode cX0_hear 28 = .ok (.iload_n 2, 1) := by decide +kernel
theorem dX0_hear_29 : decode cX0_hear 29 = .ok (.aload_n 0, 1) := by decide +kernel
theorem dX0_hear_30 : decode cX0_hear 30 = .ok (.getfield 31, 3) := by decide +kernel
theorem dX0_hear_33 : decode cX0_hear 33 = .ok (.getfield 92, 3) := by decide +kernel
theorem dX0_hear_36 : decode cX0_hear 36 = .ok (.aload_n 1, 1) := by decide +kernel
theorem dX0_hear_37 : decode cX0_hear 37 = .ok (.getfield 96, 3) := by decide +kernel
theorem dX0_hear_40 : decode cX0_hear 40 = .ok (.iload_n 3, 1) := by decide +kernel
theorem dX0_hear_41 : decode cX0_hear 41 = .ok (.iload_n 3, 1) := by decide +kernel
theorem dX0_hear_42 : decode cX0_hear 42 = .ok (.aload_n 1, 1) := by decide +kernel
theorem dX0_hear_43 : decode cX0_hear 43 = .ok (.getfield 99, 3) := by decide +kernel
theorem dX0_hear_46 : decode cX0_hear 46 = .ok (.iload_n 2, 1) := by decide +kernel
theorem dX0_hear_47 : decode cX0_hear 47 = .ok (.iaload, 1) := by decide +kernel
theorem dX0_hear_48 : decode cX0_hear 48 = .ok (.iadd, 1) := by decide +kernel
theorem dX0_hear_49 : decode cX0_hear 49 = .ok (.invokevirtual 102, 3) := by decide +kernel
theorem dX0_hear_52 : decode cX0_hear 52 = .ok (.iastore, 1) := by decide +kernel
theorem dX0_hear_53 : decode cX0_hear 53 = .ok (.iinc 2 1, 3) := by decide +kernel
theorem dX0_hear_56 : decode cX0_hear 56 = .ok (.goto (-46), 3) := by decide +kernel
theorem dX0_hear_59 : decode cX0_hear 59 = .ok (.return_, 1) := by decide +kernel
theorem dX0_layAll_0 : decode cX0_layAll 0 = .ok (.iconst 0, 1) := by decide +kernel
theorem dX0_layAll_1 : decode cX0_layAll 1 = .ok (.istore_n 3, 1) := by decide +kernel
theorem dX0_layAll_2 : decode cX0_layAll 2 = .ok (.iload_n 3, 1) := by decide +kernel
theorem dX0_layAll_3 : decode cX0_layAll 3 = .ok (.aload_n 0, 1) := by decide +kernel
theorem dX0_layAll_4 : decode cX0_layAll 4 = .ok (.getfield 31, 3) := by decide +kernel
theorem dX0_layAll_7 : decode cX0_layAll 7 = .ok (.getfield 62, 3) := by decide +kernel
theorem dX0_layAll_10 : decode cX0_layAll 10 = .ok (.if_icmp .ge 85, 3) := by decide +kernel
theorem dX0_layAll_13 : decode cX0_layAll 13 = .ok (.aload_n 0, 1) := by decide +kernel
theorem dX0_layAll_14 : decode cX0_layAll 14 = .ok (.getfield 31, 3) := by decide +kernel
theorem dX0_layAll_17 : decode cX0_layAll 17 = .ok (.getfield 106, 3) := by decide +kernel
theorem dX0_layAll_20 : decode cX0_layAll 20 = .ok (.iload_n 3, 1) := by decide +kernel
theorem dX0_layAll_21 : decode cX0_layAll 21 = .ok (.iaload, 1) := by decide +kernel
theorem dX0_layAll_22 : decode cX0_layAll 22 = .ok (.iconst 1, 1) := by decide +kernel
theorem dX0_layAll_23 : decode cX0_layAll 23 = .ok (.isub, 1) := by decide +kernel
theorem dX0_layAll_24 : decode cX0_layAll 24 = .ok (.istore 4, 2) := by decide +kernel
theorem dX0_layAll_26 : decode cX0_layAll 26 = .ok (.iload 4, 2) := by decide +kernel
theorem dX0_layAll_28 : decode cX0_layAll 28 = .ok (.ifCond .lt 61, 3) := by decide +kernel
theorem dX0_layAll_31 : decode cX0_layAll 31 = .ok (.iload_n 3, 1) := by decide +kernel
theorem dX0_layAll_32 : decode cX0_layAll 32 = .ok (.iload 4, 2) := by decide +kernel
theorem dX0_layAll_34 : decode cX0_layAll 34 = .ok (.invokestatic 109, 3) := by decide +kernel
theorem dX0_layAll_37 : decode cX0_layAll 37 = .ok (.istore 5, 2) := by decide +kernel
theorem dX0_layAll_39 : decode cX0_layAll 39 = .ok (.aload_n 0, 1) := by decide +kernel
theorem dX0_layAll_40 : decode cX0_layAll 40 = .ok (.getfield 31, 3) := by decide +kernel
theorem dX0_layAll_43 : decode cX0_layAll 43 = .ok (.iload 5, 2) := by decide +kernel
theorem dX0_layAll_45 : decode cX0_layAll 45 = .ok (.iconst 0, 1) := by decide +kernel
theorem dX0_layAll_46 : decode cX0_layAll 46 = .ok (.invokevirtual 112, 3) := by decide +kernel
theorem dX0_layAll_49 : decode cX0_layAll 49 = .ok (.iload_n 2, 1) := by decide +kernel
theorem dX0_layAll_50 : decode cX0_layAll 50 = .ok (.if_icmp .ne 11, 3) := by decide +kernel
theorem dX0_layAll_53 : decode cX0_layAll 53 = .ok (.aload_n 0, 1) := by decide +kernel
theorem dX0_layAll_54 : decode cX0_layAll 54 = .ok (.iload 5, 2) := by decide +kernel
theorem dX0_layAll_56 : decode cX0_layAll 56 = .ok (.iload_n 1, 1) := by decide +kernel
theorem dX0_layAll_57 : decode cX0_layAll 57 = .ok (.iconst 0, 1) := by decide +kernel
theorem dX0_layAll_58 : decode cX0_layAll 58 = .ok (.invokevirtual 116, 3) := by decide +kernel
theorem dX0_layAll_61 : decode cX0_layAll 61 = .ok (.aload_n 0, 1) := by decide +kernel
theorem dX0_layAll_62 : decode cX0_layAll 62 = .ok (.getfield 31, 3) := by decide +kernel
theorem dX0_layAll_65 : decode cX0_layAll 65 = .ok (.iload 5, 2) := by decide +kernel
theorem dX0_layAll_67 : decode cX0_layAll 67 = .ok (.iconst 3, 1) := by decide +kernel
theorem dX0_layAll_68 : decode cX0_layAll 68 = .ok (.invokevirtual 112, 3) := by decide +kernel
theorem dX0_layAll_71 : decode cX0_layAll 71 = .ok (.iload_n 2, 1) := by decide +kernel
theorem dX0_layAll_72 : decode cX0_layAll 72 = .ok (.if_icmp .ne 11, 3) := by decide +kernel
theorem dX0_layAll_75 : decode cX0_layAll 75 = .ok (.aload_n 0, 1) := by decide +kernel
theorem dX0_layAll_76 : decode cX0_layAll 76 = .ok (.iload 5, 2) := by decide +kernel
theorem dX0_layAll_78 : decode cX0_layAll 78 = .ok (.iload_n 1, 1) := by decide +kernel
theorem dX0_layAll_79 : decode cX0_layAll 79 = .ok (.iconst 3, 1) := by decide +kernel
theorem dX0_layAll_80 : decode cX0_layAll 80 = .ok (.invokevirtual 116, 3) := by decide +kernel
theorem dX0_layAll_83 : decode cX0_layAll 83 = .ok (.iinc 4 (-1), 3) := by decide +kernel
theorem dX0_layAll_86 : decode cX0_layAll 86 = .ok (.goto (-60), 3) := by decide +kernel
theorem dX0_layAll_89 : decode cX0_layAll 89 = .ok (.iinc 3 1, 3) := by decide +kernel
theorem dX0_layAll_92 : decode cX0_layAll 92 = .ok (.goto (-90), 3) := by decide +kernel
theorem dX0_layAll_95 : decode cX0_layAll 95 = .ok (.return_, 1) := by decide +kernel
theorem dX0_lay_0 : decode cX0_lay 0 = .ok (.iload_n 3, 1) := by decide +kernel
theorem dX0_lay_1 : decode cX0_lay 1 = .ok (.ifCond .ne 10, 3) := by decide +kernel
theorem dX0_lay_4 : decode cX0_lay 4 = .ok (.aload_n 0, 1) := by decide +kernel
theorem dX0_lay_5 : decode cX0_lay 5 = .ok (.getfield 16, 3) := by decide +kernel
theorem dX0_lay_8 : decode cX0_lay 8 = .ok (.goto 7, 3) := by decide +kernel
theorem dX0_lay_11 : decode cX0_lay 11 = .ok (.aload_n 0, 1) := by decide +kernel
theorem dX0_lay_12 : decode cX0_lay 12 = .ok (.getfield 19, 3) := by decide +kernel
theorem dX0_lay_15 : decode cX0_lay 15 = .ok (.astore 4, 2) := by decide +kernel
theorem dX0_lay_17 : decode cX0_lay 17 = .ok (.iload_n 2, 1) := by decide +kernel
theorem dX0_lay_18 : decode cX0_lay 18 = .ok (.aload_n 0, 1) := by decide +kernel
theorem dX0_lay_19 : decode cX0_lay 19 = .ok (.getfield 31, 3) := by decide +kernel
theorem dX0_lay_22 : decode cX0_lay 22 = .ok (.iload_n 1, 1) := by decide +kernel
theorem dX0_lay_23 : decode cX0_lay 23 = .ok (.bipush 7, 2) := by decide +kernel
theorem dX0_lay_25 : decode cX0_lay 25 = .ok (.iload_n 3, 1) := by decide +kernel
theorem dX0_lay_26 : decode cX0_lay 26 = .ok (.iadd, 1) := by decide +kernel
theorem dX0_lay_27 : decode cX0_lay 27 = .ok (.invokevirtual 48, 3) := by decide +kernel
theorem dX0_lay_30 : decode cX0_lay 30 = .ok (.if_icmp .lt 7, 3) := by decide +kernel
theorem dX0_lay_33 : decode cX0_lay 33 = .ok (.iconst 1, 1) := by decide +kernel
theorem dX0_lay_34 : decode cX0_lay 34 = .ok (.goto 4, 3) := by decide +kernel
theorem dX0_lay_37 : decode cX0_lay 37 = .ok (.iconst 0, 1) := by decide +kernel
theorem dX0_lay_38 : decode cX0_lay 38 = .ok (.istore 5, 2) := by decide +kernel
theorem dX0_lay_40 : decode cX0_lay 40 = .ok (.aload_n 0, 1) := by decide +kernel
theorem dX0_lay_41 : decode cX0_lay 41 = .ok (.getfield 31, 3) := by decide +kernel
theorem dX0_lay_44 : decode cX0_lay 44 = .ok (.iload_n 1, 1) := by decide +kernel
theorem dX0_lay_45 : decode cX0_lay 45 = .ok (.bipush 6, 2) := by decide +kernel
theorem dX0_lay_47 : decode cX0_lay 47 = .ok (.iload_n 3, 1) := by decide +kernel
theorem dX0_lay_48 : decode cX0_lay 48 = .ok (.iadd, 1) := by decide +kernel
theorem dX0_lay_49 : decode cX0_lay 49 = .ok (.invokevirtual 48, 3) := by decide +kernel
theorem dX0_lay_52 : decode cX0_lay 52 = .ok (.istore 6, 2) := by decide +kernel
theorem dX0_lay_54 : decode cX0_lay 54 = .ok (.iconst 0, 1) := by decide +kernel
theorem dX0_lay_55 : decode cX0_lay 55 = .ok (.istore 7, 2) := by decide +kernel
theorem dX0_lay_57 : decode cX0_lay 57 = .ok (.iload 7, 2) := by decide +kernel
theorem dX0_lay_59 : decode cX0_lay 59 = .ok (.iload_n 2, 1) := by decide +kernel
theorem dX0_lay_60 : decode cX0_lay 60 = .ok (.iadd, 1) := by decide +kernel
theorem dX0_lay_61 : decode cX0_lay 61 = .ok (.aload_n 0, 1) := by decide +kernel
theorem dX0_lay_62 : decode cX0_lay 62 = .ok (.getfield 73, 3) := by decide +kernel
theorem dX0_lay_65 : decode cX0_lay 65 = .ok (.if_icmp .gt 178, 3) := by decide +kernel
theorem dX0_lay_68 : decode cX0_lay 68 = .ok (.iload 6, 2) := by decide +kernel
theorem dX0_lay_70 : decode cX0_lay 70 = .ok (.ifCond .ne 10, 3) := by decide +kernel
theorem dX0_lay_73 : decode cX0_lay 73 = .ok (.iload 7, 2) := by decide +kernel
theorem dX0_lay_75 : decode cX0_lay 75 = .ok (.iload_n 2, 1) := by decide +kernel
theorem dX0_lay_76 : decode cX0_lay 76 = .ok (.iadd, 1) := by decide +kernel
theorem dX0_lay_77 : decode cX0_lay 77 = .ok (.goto 7, 3) := by decide +kernel
theorem dX0_lay_80 : decode cX0_lay 80 = .ok (.aload_n 0, 1) := by decide +kernel
theorem dX0_lay_81 : decode cX0_lay 81 = .ok (.getfield 73, 3) := by decide +kernel
theorem dX0_lay_84 : decode cX0_lay 84 = .ok (.istore 8, 2) := by decide +kernel
theorem dX0_lay_86 : decode cX0_lay 86 = .ok (.iload 7, 2) := by decide +kernel
theorem dX0_lay_88 : decode cX0_lay 88 = .ok (.iload_n 2, 1) := by decide +kernel
theorem dX0_lay_89 : decode cX0_lay 89 = .ok (.iadd, 1) := by decide +kernel
theorem dX0_lay_90 : decode cX0_lay 90 = .ok (.iload 6, 2) := by decide +kernel
theorem dX0_lay_92 : decode cX0_lay 92 = .ok (.iadd, 1) := by decide +kernel
theorem dX0_lay_93 : decode cX0_lay 93 = .ok (.istore 9, 2) := by decide +kernel
theorem dX0_lay_95 : decode cX0_lay 95 = .ok (.iload 9, 2) := by decide +kernel
theorem dX0_lay_97 : decode cX0_lay 97 = .ok (.iload 8, 2) := by decide +kernel
theorem dX0_lay_99 : decode cX0_lay 99 = .ok (.if_icmp .gt 138, 3) := by decide +kernel
theorem dX0_lay_102 : decode cX0_lay 102 = .ok (.iload 6, 2) := by decide +kernel
theorem dX0_lay_104 : decode cX0_lay 104 = .ok (.ifCond .ne 8, 3) := by decide +kernel
theorem dX0_lay_107 : decode cX0_lay 107 = .ok (.iload 7, 2) := by decide +kernel
theorem dX0_lay_109 : decode cX0_lay 109 = .ok (.goto 7, 3) := by decide +kernel
theorem dX0_lay_112 : decode cX0_lay 112 = .ok (.iload 7, 2) := by decide +kernel
theorem dX0_lay_114 : decode cX0_lay 114 = .ok (.iload_n 2, 1) := by decide +kernel
theorem dX0_lay_115 : decode cX0_lay 115 = .ok (.iadd, 1) := by decide +kernel
theorem dX0_lay_116 : decode cX0_lay 116 = .ok (.istore 10, 2) := by decide +kernel
theorem dX0_lay_118 : decode cX0_lay 118 = .ok (.iload 7, 2) := by decide +kernel
theorem dX0_lay_120 : decode cX0_lay 120 = .ok (.istore 11, 2) := by decide +kernel
theorem dX0_lay_122 : decode cX0_lay 122 = .ok (.iload 11, 2) := by decide +kernel
theorem dX0_lay_124 : decode cX0_lay 124 = .ok (.iload 10, 2) := by decide +kernel
theorem dX0_lay_126 : decode cX0_lay 126 = .ok (.if_icmp .gt 105, 3) := by decide +kernel
theorem dX0_lay_129 : decode cX0_lay 129 = .ok (.iload 6, 2) := by decide +kernel
theorem dX0_lay_131 : decode cX0_lay 131 = .ok (.ifCond .ne 7, 3) := by decide +kernel
theorem dX0_lay_134 : decode cX0_lay 134 = .ok (.iconst (-1), 1) := by decide +kernel
theorem dX0_lay_135 : decode cX0_lay 135 = .ok (.goto 5, 3) := by decide +kernel
theorem dX0_lay_138 : decode cX0_lay 138 = .ok (.iload 11, 2) := by decide +kernel
theorem dX0_lay_140 : decode cX0_lay 140 = .ok (.istore 12, 2) := by decide +kernel
theorem dX0_lay_142 : decode cX0_lay 142 = .ok (.iload 6, 2) := by decide +kernel
theorem dX0_lay_144 : decode cX0_lay 144 = .ok (.ifCond .ne 7, 3) := by decide +kernel
theorem dX0_lay_147 : decode cX0_lay 147 = .ok (.iconst (-1), 1) := by decide +kernel
theorem dX0_lay_148 : decode cX0_lay 148 = .ok (.goto 13, 3) := by decide +kernel
theorem dX0_lay_151 : decode cX0_lay 151 = .ok (.iload 11, 2) := by decide +kernel
theorem dX0_lay_153 : decode cX0_lay 153 = .ok (.iload 9, 2) := by decide +kernel
theorem dX0_lay_155 : decode cX0_lay 155 = .ok (.iadd, 1) := by decide +kernel
theorem dX0_lay_156 : decode cX0_lay 156 = .ok (.iload 7, 2) := by decide +kernel
theorem dX0_lay_158 : decode cX0_lay 158 = .ok (.isub, 1) := by decide +kernel
theorem dX0_lay_159 : decode cX0_lay 159 = .ok (.iload_n 2, 1) := by decide +kernel
theorem dX0_lay_160 : decode cX0_lay 160 = .ok (.isub, 1) := by decide +kernel
theorem dX0_lay_161 : decode cX0_lay 161 = .ok (.istore 13, 2) := by decide +kernel
theorem dX0_lay_163 : decode cX0_lay 163 = .ok (.aload 4, 2) := by decide +kernel
theorem dX0_lay_165 : decode cX0_lay 165 = .ok (.iload_n 1, 1) := by decide +kernel
theorem dX0_lay_166 : decode cX0_lay 166 = .ok (.sipush 330, 3) := by decide +kernel
theorem dX0_lay_169 : decode cX0_lay 169 = .ok (.imul, 1) := by decide +kernel
theorem dX0_lay_170 : decode cX0_lay 170 = .ok (.iload 7, 2) := by decide +kernel
theorem dX0_lay_172 : decode cX0_lay 172 = .ok (.iload 9, 2) := by decide +kernel
theorem dX0_lay_174 : decode cX0_lay 174 = .ok (.iload 12, 2) := by decide +kernel
theorem dX0_lay_176 : decode cX0_lay 176 = .ok (.iload 13, 2) := by decide +kernel
theorem dX0_lay_178 : decode cX0_lay 178 = .ok (.invokestatic 38, 3) := by decide +kernel
theorem dX0_lay_181 : decode cX0_lay 181 = .ok (.iadd, 1) := by decide +kernel
theorem dX0_lay_182 : decode cX0_lay 182 = .ok (.iload 5, 2) := by decide +kernel
theorem dX0_lay_184 : decode cX0_lay 184 = .ok (.ifCond .ne 7, 3) := by decide +kernel
theorem dX0_lay_187 : decode cX0_lay 187 = .ok (.iconst 0, 1) := by decide +kernel
theorem dX0_lay_188 : decode cX0_lay 188 = .ok (.goto 36, 3) := by decide +kernel
theorem dX0_lay_191 : decode cX0_lay 191 = .ok (.iload_n 3, 1) := by decide +kernel
theorem dX0_lay_192 : decode cX0_lay 192 = .ok (.ifCond .ne 19, 3) := by decide +kernel
theorem dX0_lay_195 : decode cX0_lay 195 = .ok (.aload_n 0, 1) := by decide +kernel
theorem dX0_lay_196 : decode cX0_lay 196 = .ok (.iload_n 1, 1) := by decide +kernel
theorem dX0_lay_197 : decode cX0_lay 197 = .ok (.iload 7, 2) := by decide +kernel
theorem dX0_lay_199 : decode cX0_lay 199 = .ok (.iload 9, 2) := by decide +kernel
theorem dX0_lay_201 : decode cX0_lay 201 = .ok (.iload 12, 2) := by decide +kernel
theorem dX0_lay_203 : decode cX0_lay 203 = .ok (.iload 13, 2) := by decide +kernel
theorem dX0_lay_205 : decode cX0_lay 205 = .ok (.invokevirtual 120, 3) := by decide +kernel
theorem dX0_lay_208 : decode cX0_lay 208 = .ok (.goto 16, 3) := by decide +kernel
theorem dX0_lay_211 : decode cX0_lay 211 = .ok (.aload_n 0, 1) := by decide +kernel
theorem dX0_lay_212 : decode cX0_lay 212 = .ok (.iload_n 1, 1) := by decide +kernel
theorem dX0_lay_213 : decode cX0_lay 213 = .ok (.iload 7, 2) := by decide +kernel
theorem dX0_lay_215 : decode cX0_lay 215 = .ok (.iload 9, 2) := by decide +kernel
theorem dX0_lay_217 : decode cX0_lay 217 = .ok (.iload 12, 2) := by decide +kernel
theorem dX0_lay_219 : decode cX0_lay 219 = .ok (.iload 13, 2) := by decide +kernel
theorem dX0_lay_221 : decode cX0_lay 221 = .ok (.invokevirtual 124, 3) := by decide +kernel
theorem dX0_lay_224 : decode cX0_lay 224 = .ok (.iastore, 1) := by decide +kernel
theorem dX0_lay_225 : decode cX0_lay 225 = .ok (.iinc 11 1, 3) := by decide +kernel
theorem dX0_lay_228 : decode cX0_lay 228 = .ok (.goto (-106), 3) := by decide +kernel
theorem dX0_lay_231 : decode cX0_lay 231 = .ok (.iinc 9 1, 3) := by decide +kernel
theorem dX0_lay_234 : decode cX0_lay 234 = .ok (.goto (-139), 3) := by decide +kernel
theorem dX0_lay_237 : decode cX0_lay 237 = .ok (.iinc 7 1, 3) := by decide +kernel
theorem dX0_lay_240 : decode cX0_lay 240 = .ok (.goto (-183), 3) := by decide +kernel
theorem dX0_lay_243 : decode cX0_lay 243 = .ok (.return_, 1) := by decide +kernel
theorem dX0_reckonNode_0 : decode cX0_reckonNode 0 = .ok (.aload_n 0, 1) := by decide +kernel
theorem dX0_reckonNode_1 : decode cX0_reckonNode 1 = .ok (.getfield 31, 3) := by decide +kernel
theorem dX0_reckonNode_4 : decode cX0_reckonNode 4 = .ok (.iload_n 1, 1) := by decide +kernel
theorem dX0_reckonNode_5 : decode cX0_reckonNode 5 = .ok (.iconst 1, 1) := by decide +kernel
theorem dX0_reckonNode_6 : decode cX0_reckonNode 6 = .ok (.invokevirtual 48, 3) := by decide +kernel
theorem dX0_reckonNode_9 : decode cX0_reckonNode 9 = .ok (.istore 6, 2) := by decide +kernel
theorem dX0_reckonNode_11 : decode cX0_reckonNode 11 = .ok (.aload_n 0, 1) := by decide +kernel
theorem dX0_reckonNode_12 : decode cX0_reckonNode 12 = .ok (.getfield 31, 3) := by decide +kernel
theorem dX0_reckonNode_15 : decode cX0_reckonNode 15 = .ok (.iload_n 1, 1) := by decide +kernel
theorem dX0_reckonNode_16 : decode cX0_reckonNode 16 = .ok (.iconst 0, 1) := by decide +kernel
theorem dX0_reckonNode_17 : decode cX0_reckonNode 17 = .ok (.invokevirtual 48, 3) := by decide +kernel
theorem dX0_reckonNode_20 : decode cX0_reckonNode 20 = .ok (.tableswitch 79 1 3 #[70, 52, 28], 28) := by decide +kernel
theorem dX0_reckonNode_48 : decode cX0_reckonNode 48 = .ok (.iload_n 3, 1) := by decide +kernel
theorem dX0_reckonNode_49 : decode cX0_reckonNode 49 = .ok (.iload_n 2, 1) := by decide +kernel
theorem dX0_reckonNode_50 : decode cX0_reckonNode 50 = .ok (.iconst 1, 1) := by decide +kernel
theorem dX0_reckonNode_51 : decode cX0_reckonNode 51 = .ok (.iadd, 1) := by decide +kernel
theorem dX0_reckonNode_52 : decode cX0_reckonNode 52 = .ok (.if_icmp .ne 18, 3) := by decide +kernel
theorem dX0_reckonNode_55 : decode cX0_reckonNode 55 = .ok (.aload_n 0, 1) := by decide +kernel
theorem dX0_reckonNode_56 : decode cX0_reckonNode 56 = .ok (.getfield 9, 3) := by decide +kernel
theorem dX0_reckonNode_59 : decode cX0_reckonNode 59 = .ok (.iload_n 2, 1) := by decide +kernel
theorem dX0_reckonNode_60 : decode cX0_reckonNode 60 = .ok (.iaload, 1) := by decide +kernel
theorem dX0_reckonNode_61 : decode cX0_reckonNode 61 = .ok (.iload 6, 2) := by decide +kernel
theorem dX0_reckonNode_63 : decode cX0_reckonNode 63 = .ok (.if_icmp .ne 7, 3) := by decide +kernel
theorem dX0_reckonNode_66 : decode cX0_reckonNode 66 = .ok (.iconst 1, 1) := by decide +kernel
theorem dX0_reckonNode_67 : decode cX0_reckonNode 67 = .ok (.goto 4, 3) := by decide +kernel
theorem dX0_reckonNode_70 : decode cX0_reckonNode 70 = .ok (.iconst 0, 1) := by decide +kernel
theorem dX0_reckonNode_71 : decode cX0_reckonNode 71 = .ok (.ireturn, 1) := by decide +kernel
theorem dX0_reckonNode_72 : decode cX0_reckonNode 72 = .ok (.iload_n 2, 1) := by decide +kernel
theorem dX0_reckonNode_73 : decode cX0_reckonNode 73 = .ok (.iload 4, 2) := by decide +kernel
theorem dX0_reckonNode_75 : decode cX0_reckonNode 75 = .ok (.if_icmp .ne 13, 3) := by decide +kernel
theorem dX0_reckonNode_78 : decode cX0_reckonNode 78 = .ok (.iload_n 3, 1) := by decide +kernel
theorem dX0_reckonNode_79 : decode cX0_reckonNode 79 = .ok (.iload 5, 2) := by decide +kernel
theorem dX0_reckonNode_81 : decode cX0_reckonNode 81 = .ok (.if_icmp .ne 7, 3) := by decide +kernel
theorem dX0_reckonNode_84 : decode cX0_reckonNode 84 = .ok (.iconst 1, 1) := by decide +kernel
theorem dX0_reckonNode_85 : decode cX0_reckonNode 85 = .ok (.goto 4, 3) := by decide +kernel
theorem dX0_reckonNode_88 : decode cX0_reckonNode 88 = .ok (.iconst 0, 1) := by decide +kernel
theorem dX0_reckonNode_89 : decode cX0_reckonNode 89 = .ok (.ireturn, 1) := by decide +kernel
theorem dX0_reckonNode_90 : decode cX0_reckonNode 90 = .ok (.aload_n 0, 1) := by decide +kernel
theorem dX0_reckonNode_91 : decode cX0_reckonNode 91 = .ok (.iload 6, 2) := by decide +kernel
theorem dX0_reckonNode_93 : decode cX0_reckonNode 93 = .ok (.iload_n 2, 1) := by decide +kernel
theorem dX0_reckonNode_94 : decode cX0_reckonNode 94 = .ok (.iload_n 3, 1) := by decide +kernel
theorem dX0_reckonNode_95 : decode cX0_reckonNode 95 = .ok (.invokevirtual 127, 3) := by decide +kernel
theorem dX0_reckonNode_98 : decode cX0_reckonNode 98 = .ok (.ireturn, 1) := by decide +kernel
theorem dX0_reckonNode_99 : decode cX0_reckonNode 99 = .ok (.aload_n 0, 1) := by decide +kernel
theorem dX0_reckonNode_100 : decode cX0_reckonNode 100 = .ok (.iload_n 1, 1) := by decide +kernel
theorem dX0_reckonNode_101 : decode cX0_reckonNode 101 = .ok (.iload_n 2, 1) := by decide +kernel
theorem dX0_reckonNode_102 : decode cX0_reckonNode 102 = .ok (.iload_n 3, 1) := by decide +kernel
theorem dX0_reckonNode_103 : decode cX0_reckonNode 103 = .ok (.iload 4, 2) := by decide +kernel
theorem dX0_reckonNode_105 : decode cX0_reckonNode 105 = .ok (.iload 5, 2) := by decide +kernel
theorem dX0_reckonNode_107 : decode cX0_reckonNode 107 = .ok (.invokevirtual 131, 3) := by decide +kernel
theorem dX0_reckonNode_110 : decode cX0_reckonNode 110 = .ok (.ireturn, 1) := by decide +kernel
theorem dX0_reckonInner_0 : decode cX0_reckonInner 0 = .ok (.aload_n 0, 1) := by decide +kernel
theorem dX0_reckonInner_1 : decode cX0_reckonInner 1 = .ok (.getfield 31, 3) := by decide +kernel
theorem dX0_reckonInner_4 : decode cX0_reckonInner 4 = .ok (.iload_n 1, 1) := by decide +kernel
theorem dX0_reckonInner_5 : decode cX0_reckonInner 5 = .ok (.iconst 4, 1) := by decide +kernel
theorem dX0_reckonInner_6 : decode cX0_reckonInner 6 = .ok (.invokevirtual 48, 3) := by decide +kernel
theorem dX0_reckonInner_9 : decode cX0_reckonInner 9 = .ok (.istore 6, 2) := by decide +kernel
theorem dX0_reckonInner_11 : decode cX0_reckonInner 11 = .ok (.aload_n 0, 1) := by decide +kernel
theorem dX0_reckonInner_12 : decode cX0_reckonInner 12 = .ok (.getfield 31, 3) := by decide +kernel
theorem dX0_reckonInner_15 : decode cX0_reckonInner 15 = .ok (.iload_n 1, 1) := by decide +kernel
theorem dX0_reckonInner_16 : decode cX0_reckonInner 16 = .ok (.iconst 1, 1) := by decide +kernel
theorem dX0_reckonInner_17 : decode cX0_reckonInner 17 = .ok (.invokevirtual 48, 3) := by decide +kernel
theorem dX0_reckonInner_20 : decode cX0_reckonInner 20 = .ok (.istore 7, 2) := by decide +kernel
theorem dX0_reckonInner_22 : decode cX0_reckonInner 22 = .ok (.iload 6, 2) := by decide +kernel
theorem dX0_reckonInner_24 : decode cX0_reckonInner 24 = .ok (.iconst 1, 1) := by decide +kernel
theorem dX0_reckonInner_25 : decode cX0_reckonInner 25 = .ok (.if_icmp .ne 7, 3) := by decide +kernel
theorem dX0_reckonInner_28 : decode cX0_reckonInner 28 = .ok (.iconst 0, 1) := by decide +kernel
theorem dX0_reckonInner_29 : decode cX0_reckonInner 29 = .ok (.goto 14, 3) := by decide +kernel
theorem dX0_reckonInner_32 : decode cX0_reckonInner 32 = .ok (.aload_n 0, 1) := by decide +kernel
theorem dX0_reckonInner_33 : decode cX0_reckonInner 33 = .ok (.iload_n 1, 1) := by decide +kernel
theorem dX0_reckonInner_34 : decode cX0_reckonInner 34 = .ok (.iload_n 2, 1) := by decide +kernel
theorem dX0_reckonInner_35 : decode cX0_reckonInner 35 = .ok (.iload_n 3, 1) := by decide +kernel
theorem dX0_reckonInner_36 : decode cX0_reckonInner 36 = .ok (.iload 4, 2) := by decide +kernel
theorem dX0_reckonInner_38 : decode cX0_reckonInner 38 = .ok (.iload 5, 2) := by decide +kernel
theorem dX0_reckonInner_40 : decode cX0_reckonInner 40 = .ok (.invokevirtual 134, 3) := by decide +kernel
theorem dX0_reckonInner_43 : decode cX0_reckonInner 43 = .ok (.istore 8, 2) := by decide +kernel
theorem dX0_reckonInner_45 : decode cX0_reckonInner 45 = .ok (.iload 6, 2) := by decide +kernel
theorem dX0_reckonInner_47 : decode cX0_reckonInner 47 = .ok (.iconst 2, 1) := by decide +kernel
theorem dX0_reckonInner_48 : decode cX0_reckonInner 48 = .ok (.if_icmp .eq 13, 3) := by decide +kernel
theorem dX0_reckonInner_51 : decode cX0_reckonInner 51 = .ok (.aload_n 0, 1) := by decide +kernel
theorem dX0_reckonInner_52 : decode cX0_reckonInner 52 = .ok (.getfield 28, 3) := by decide +kernel
theorem dX0_reckonInner_55 : decode cX0_reckonInner 55 = .ok (.iload 7, 2) := by decide +kernel
theorem dX0_reckonInner_57 : decode cX0_reckonInner 57 = .ok (.iaload, 1) := by decide +kernel
theorem dX0_reckonInner_58 : decode cX0_reckonInner 58 = .ok (.ifCond .ne 6, 3) := by decide +kernel
theorem dX0_reckonInner_61 : decode cX0_reckonInner 61 = .ok (.iload 8, 2) := by decide +kernel
theorem dX0_reckonInner_63 : decode cX0_reckonInner 63 = .ok (.ireturn, 1) := by decide +kernel
theorem dX0_reckonInner_64 : decode cX0_reckonInner 64 = .ok (.aload_n 0, 1) := by decide +kernel
theorem dX0_reckonInner_65 : decode cX0_reckonInner 65 = .ok (.iload_n 1, 1) := by decide +kernel
theorem dX0_reckonInner_66 : decode cX0_reckonInner 66 = .ok (.iload 4, 2) := by decide +kernel
theorem dX0_reckonInner_68 : decode cX0_reckonInner 68 = .ok (.iload 5, 2) := by decide +kernel
theorem dX0_reckonInner_70 : decode cX0_reckonInner 70 = .ok (.invokevirtual 137, 3) := by decide +kernel
theorem dX0_reckonInner_73 : decode cX0_reckonInner 73 = .ok (.istore 9, 2) := by decide +kernel
theorem dX0_reckonInner_75 : decode cX0_reckonInner 75 = .ok (.aload_n 0, 1) := by decide +kernel
theorem dX0_reckonInner_76 : decode cX0_reckonInner 76 = .ok (.iload_n 3, 1) := by decide +kernel
theorem dX0_reckonInner_77 : decode cX0_reckonInner 77 = .ok (.iload 4, 2) := by decide +kernel
theorem dX0_reckonInner_79 : decode cX0_reckonInner 79 = .ok (.iload 9, 2) := by decide +kernel
theorem dX0_reckonInner_81 : decode cX0_reckonInner 81 = .ok (.invokevirtual 140, 3) := by decide +kernel
theorem dX0_reckonInner_84 : decode cX0_reckonInner 84 = .ok (.istore 10, 2) := by decide +kernel
theorem dX0_reckonInner_86 : decode cX0_reckonInner 86 = .ok (.iload_n 2, 1) := by decide +kernel
theorem dX0_reckonInner_87 : decode cX0_reckonInner 87 = .ok (.istore 11, 2) := by decide +kernel
theorem dX0_reckonInner_89 : decode cX0_reckonInner 89 = .ok (.iload 11, 2) := by decide +kernel
theorem dX0_reckonInner_91 : decode cX0_reckonInner 91 = .ok (.iload 10, 2) := by decide +kernel
theorem dX0_reckonInner_93 : decode cX0_reckonInner 93 = .ok (.if_icmp .gt 90, 3) := by decide +kernel
theorem dX0_reckonInner_96 : decode cX0_reckonInner 96 = .ok (.iload 11, 2) := by decide +kernel
theorem dX0_reckonInner_98 : decode cX0_reckonInner 98 = .ok (.iload 9, 2) := by decide +kernel
theorem dX0_reckonInner_100 : decode cX0_reckonInner 100 = .ok (.iadd, 1) := by decide +kernel
theorem dX0_reckonInner_101 : decode cX0_reckonInner 101 = .ok (.iload 5, 2) := by decide +kernel
theorem dX0_reckonInner_103 : decode cX0_reckonInner 103 = .ok (.invokestatic 143, 3) := by decide +kernel
theorem dX0_reckonInner_106 : decode cX0_reckonInner 106 = .ok (.istore 12, 2) := by decide +kernel
theorem dX0_reckonInner_108 : decode cX0_reckonInner 108 = .ok (.iload 12, 2) := by decide +kernel
theorem dX0_reckonInner_110 : decode cX0_reckonInner 110 = .ok (.iload_n 3, 1) := by decide +kernel
theorem dX0_reckonInner_111 : decode cX0_reckonInner 111 = .ok (.if_icmp .gt 66, 3) := by decide +kernel
theorem dX0_reckonInner_114 : decode cX0_reckonInner 114 = .ok (.aload_n 0, 1) := by decide +kernel
theorem dX0_reckonInner_115 : decode cX0_reckonInner 115 = .ok (.getfield 25, 3) := by decide +kernel
theorem dX0_reckonInner_118 : decode cX0_reckonInner 118 = .ok (.iload 7, 2) := by decide +kernel
theorem dX0_reckonInner_120 : decode cX0_reckonInner 120 = .ok (.sipush 330, 3) := by decide +kernel
theorem dX0_reckonInner_123 : decode cX0_reckonInner 123 = .ok (.imul, 1) := by decide +kernel
theorem dX0_reckonInner_124 : decode cX0_reckonInner 124 = .ok (.iload_n 2, 1) := by decide +kernel
theorem dX0_reckonInner_125 : decode cX0_reckonInner 125 = .ok (.iload_n 3, 1) := by decide +kernel
theorem dX0_reckonInner_126 : decode cX0_reckonInner 126 = .ok (.iload 11, 2) := by decide +kernel
theorem dX0_reckonInner_128 : decode cX0_reckonInner 128 = .ok (.iload 12, 2) := by decide +kernel
theorem dX0_reckonInner_130 : decode cX0_reckonInner 130 = .ok (.invokestatic 38, 3) := by decide +kernel
theorem dX0_reckonInner_133 : decode cX0_reckonInner 133 = .ok (.iadd, 1) := by decide +kernel
theorem dX0_reckonInner_134 : decode cX0_reckonInner 134 = .ok (.iaload, 1) := by decide +kernel
theorem dX0_reckonInner_135 : decode cX0_reckonInner 135 = .ok (.i2l, 1) := by decide +kernel
theorem dX0_reckonInner_136 : decode cX0_reckonInner 136 = .ok (.lstore 13, 2) := by decide +kernel
theorem dX0_reckonInner_138 : decode cX0_reckonInner 138 = .ok (.lload 13, 2) := by decide +kernel
theorem dX0_reckonInner_140 : decode cX0_reckonInner 140 = .ok (.lconst 0, 1) := by decide +kernel
theorem dX0_reckonInner_141 : decode cX0_reckonInner 141 = .ok (.lcmp, 1) := by decide +kernel
theorem dX0_reckonInner_142 : decode cX0_reckonInner 142 = .ok (.ifCond .eq 29, 3) := by decide +kernel
theorem dX0_reckonInner_145 : decode cX0_reckonInner 145 = .ok (.iload 8, 2) := by decide +kernel
theorem dX0_reckonInner_147 : decode cX0_reckonInner 147 = .ok (.i2l, 1) := by decide +kernel
theorem dX0_reckonInner_148 : decode cX0_reckonInner 148 = .ok (.lload 13, 2) := by decide +kernel
theorem dX0_reckonInner_150 : decode cX0_reckonInner 150 = .ok (.aload_n 0, 1) := by decide +kernel
theorem dX0_reckonInner_151 : decode cX0_reckonInner 151 = .ok (.iload_n 1, 1) := by decide +kernel
theorem dX0_reckonInner_152 : decode cX0_reckonInner 152 = .ok (.iload 11, 2) := by decide +kernel
theorem dX0_reckonInner_154 : decode cX0_reckonInner 154 = .ok (.iload 12, 2) := by decide +kernel
theorem dX0_reckonInner_156 : decode cX0_reckonInner 156 = .ok (.iload 4, 2) := by decide +kernel
theorem dX0_reckonInner_158 : decode cX0_reckonInner 158 = .ok (.iload 5, 2) := by decide +kernel
theorem dX0_reckonInner_160 : decode cX0_reckonInner 160 = .ok (.invokevirtual 134, 3) := by decide +kernel
theorem dX0_reckonInner_163 : decode cX0_reckonInner 163 = .ok (.i2l, 1) := by decide +kernel
theorem dX0_reckonInner_164 : decode cX0_reckonInner 164 = .ok (.lmul, 1) := by decide +kernel
theorem dX0_reckonInner_165 : decode cX0_reckonInner 165 = .ok (.ladd, 1) := by decide +kernel
theorem dX0_reckonInner_166 : decode cX0_reckonInner 166 = .ok (.invokestatic 148, 3) := by decide +kernel
theorem dX0_reckonInner_169 : decode cX0_reckonInner 169 = .ok (.istore 8, 2) := by decide +kernel
theorem dX0_reckonInner_171 : decode cX0_reckonInner 171 = .ok (.iinc 12 1, 3) := by decide +kernel
theorem dX0_reckonInner_174 : decode cX0_reckonInner 174 = .ok (.goto (-66), 3) := by decide +kernel
theorem dX0_reckonInner_177 : decode cX0_reckonInner 177 = .ok (.iinc 11 1, 3) := by decide +kernel
theorem dX0_reckonInner_180 : decode cX0_reckonInner 180 = .ok (.goto (-91), 3) := by decide +kernel
theorem dX0_reckonInner_183 : decode cX0_reckonInner 183 = .ok (.iload 8, 2) := by decide +kernel
theorem dX0_reckonInner_185 : decode cX0_reckonInner 185 = .ok (.ireturn, 1) := by decide +kernel
theorem dX0_reckonOnward_0 : decode cX0_reckonOnward 0 = .ok (.aload_n 0, 1) := by decide +kernel
theorem dX0_reckonOnward_1 : decode cX0_reckonOnward 1 = .ok (.getfield 31, 3) := by decide +kernel
theorem dX0_reckonOnward_4 : decode cX0_reckonOnward 4 = .ok (.iload_n 1, 1) := by decide +kernel
theorem dX0_reckonOnward_5 : decode cX0_reckonOnward 5 = .ok (.iconst 5, 1) := by decide +kernel
theorem dX0_reckonOnward_6 : decode cX0_reckonOnward 6 = .ok (.invokevirtual 48, 3) := by decide +kernel
theorem dX0_reckonOnward_9 : decode cX0_reckonOnward 9 = .ok (.iconst (-1), 1) := by decide +kernel
theorem dX0_reckonOnward_10 : decode cX0_reckonOnward 10 = .ok (.if_icmp .ne 15, 3) := by decide +kernel
theorem dX0_reckonOnward_13 : decode cX0_reckonOnward 13 = .ok (.aload_n 0, 1) := by decide +kernel
theorem dX0_reckonOnward_14 : decode cX0_reckonOnward 14 = .ok (.iload_n 1, 1) := by decide +kernel
theorem dX0_reckonOnward_15 : decode cX0_reckonOnward 15 = .ok (.iload_n 2, 1) := by decide +kernel
theorem dX0_reckonOnward_16 : decode cX0_reckonOnward 16 = .ok (.iload_n 3, 1) := by decide +kernel
theorem dX0_reckonOnward_17 : decode cX0_reckonOnward 17 = .ok (.iload 4, 2) := by decide +kernel
theorem dX0_reckonOnward_19 : decode cX0_reckonOnward 19 = .ok (.iload 5, 2) := by decide +kernel
theorem dX0_reckonOnward_21 : decode cX0_reckonOnward 21 = .ok (.invokevirtual 152, 3) := by decide +kernel
theorem dX0_reckonOnward_24 : decode cX0_reckonOnward 24 = .ok (.ireturn, 1) := by decide +kernel
theorem dX0_reckonOnward_25 : decode cX0_reckonOnward 25 = .ok (.iconst 0, 1) := by decide +kernel
theorem dX0_reckonOnward_26 : decode cX0_reckonOnward 26 = .ok (.istore 6, 2) := by decide +kernel
theorem dX0_reckonOnward_28 : decode cX0_reckonOnward 28 = .ok (.aload_n 0, 1) := by decide +kernel
theorem dX0_reckonOnward_29 : decode cX0_reckonOnward 29 = .ok (.iload_n 1, 1) := by decide +kernel
theorem dX0_reckonOnward_30 : decode cX0_reckonOnward 30 = .ok (.iload_n 3, 1) := by decide +kernel
theorem dX0_reckonOnward_31 : decode cX0_reckonOnward 31 = .ok (.iload 4, 2) := by decide +kernel
theorem dX0_reckonOnward_33 : decode cX0_reckonOnward 33 = .ok (.invokevirtual 155, 3) := by decide +kernel
theorem dX0_reckonOnward_36 : decode cX0_reckonOnward 36 = .ok (.istore 7, 2) := by decide +kernel
theorem dX0_reckonOnward_38 : decode cX0_reckonOnward 38 = .ok (.aload_n 0, 1) := by decide +kernel
theorem dX0_reckonOnward_39 : decode cX0_reckonOnward 39 = .ok (.iload_n 1, 1) := by decide +kernel
theorem dX0_reckonOnward_40 : decode cX0_reckonOnward 40 = .ok (.iload_n 2, 1) := by decide +kernel
theorem dX0_reckonOnward_41 : decode cX0_reckonOnward 41 = .ok (.iload 5, 2) := by decide +kernel
theorem dX0_reckonOnward_43 : decode cX0_reckonOnward 43 = .ok (.invokevirtual 158, 3) := by decide +kernel
theorem dX0_reckonOnward_46 : decode cX0_reckonOnward 46 = .ok (.istore 8, 2) := by decide +kernel
theorem dX0_reckonOnward_48 : decode cX0_reckonOnward 48 = .ok (.iload 8, 2) := by decide +kernel
theorem dX0_reckonOnward_50 : decode cX0_reckonOnward 50 = .ok (.iload 7, 2) := by decide +kernel
theorem dX0_reckonOnward_52 : decode cX0_reckonOnward 52 = .ok (.if_icmp .gt 56, 3) := by decide +kernel
theorem dX0_reckonOnward_55 : decode cX0_reckonOnward 55 = .ok (.aload_n 0, 1) := by decide +kernel
theorem dX0_reckonOnward_56 : decode cX0_reckonOnward 56 = .ok (.iload_n 1, 1) := by decide +kernel
theorem dX0_reckonOnward_57 : decode cX0_reckonOnward 57 = .ok (.iload_n 2, 1) := by decide +kernel
theorem dX0_reckonOnward_58 : decode cX0_reckonOnward 58 = .ok (.iload 8, 2) := by decide +kernel
theorem dX0_reckonOnward_60 : decode cX0_reckonOnward 60 = .ok (.iload 4, 2) := by decide +kernel
theorem dX0_reckonOnward_62 : decode cX0_reckonOnward 62 = .ok (.iload 5, 2) := by decide +kernel
theorem dX0_reckonOnward_64 : decode cX0_reckonOnward 64 = .ok (.invokevirtual 161, 3) := by decide +kernel
theorem dX0_reckonOnward_67 : decode cX0_reckonOnward 67 = .ok (.i2l, 1) := by decide +kernel
theorem dX0_reckonOnward_68 : decode cX0_reckonOnward 68 = .ok (.lstore 9, 2) := by decide +kernel
theorem dX0_reckonOnward_70 : decode cX0_reckonOnward 70 = .ok (.lload 9, 2) := by decide +kernel
theorem dX0_reckonOnward_72 : decode cX0_reckonOnward 72 = .ok (.lconst 0, 1) := by decide +kernel
theorem dX0_reckonOnward_73 : decode cX0_reckonOnward 73 = .ok (.lcmp, 1) := by decide +kernel
theorem dX0_reckonOnward_74 : decode cX0_reckonOnward 74 = .ok (.ifCond .eq 28, 3) := by decide +kernel
theorem dX0_reckonOnward_77 : decode cX0_reckonOnward 77 = .ok (.iload 6, 2) := by decide +kernel
theorem dX0_reckonOnward_79 : decode cX0_reckonOnward 79 = .ok (.i2l, 1) := by decide +kernel
theorem dX0_reckonOnward_80 : decode cX0_reckonOnward 80 = .ok (.lload 9, 2) := by decide +kernel
theorem dX0_reckonOnward_82 : decode cX0_reckonOnward 82 = .ok (.aload_n 0, 1) := by decide +kernel
theorem dX0_reckonOnward_83 : decode cX0_reckonOnward 83 = .ok (.iload_n 1, 1) := by decide +kernel
theorem dX0_reckonOnward_84 : decode cX0_reckonOnward 84 = .ok (.iload 8, 2) := by decide +kernel
theorem dX0_reckonOnward_86 : decode cX0_reckonOnward 86 = .ok (.iload_n 3, 1) := by decide +kernel
theorem dX0_reckonOnward_87 : decode cX0_reckonOnward 87 = .ok (.iload 4, 2) := by decide +kernel
theorem dX0_reckonOnward_89 : decode cX0_reckonOnward 89 = .ok (.iload 5, 2) := by decide +kernel
theorem dX0_reckonOnward_91 : decode cX0_reckonOnward 91 = .ok (.invokevirtual 164, 3) := by decide +kernel
theorem dX0_reckonOnward_94 : decode cX0_reckonOnward 94 = .ok (.i2l, 1) := by decide +kernel
theorem dX0_reckonOnward_95 : decode cX0_reckonOnward 95 = .ok (.lmul, 1) := by decide +kernel
theorem dX0_reckonOnward_96 : decode cX0_reckonOnward 96 = .ok (.ladd, 1) := by decide +kernel
theorem dX0_reckonOnward_97 : decode cX0_reckonOnward 97 = .ok (.invokestatic 148, 3) := by decide +kernel
theorem dX0_reckonOnward_100 : decode cX0_reckonOnward 100 = .ok (.istore 6, 2) := by decide +kernel
theorem dX0_reckonOnward_102 : decode cX0_reckonOnward 102 = .ok (.iinc 8 1, 3) := by decide +kernel
theorem dX0_reckonOnward_105 : decode cX0_reckonOnward 105 = .ok (.goto (-57), 3) := by decide +kernel
theorem dX0_reckonOnward_108 : decode cX0_reckonOnward 108 = .ok (.iload 6, 2) := by decide +kernel
theorem dX0_reckonOnward_110 : decode cX0_reckonOnward 110 = .ok (.ireturn, 1) := by decide +kernel
theorem dX0_addTree_0 : decode cX0_addTree 0 = .ok (.iload_n 1, 1) := by decide +kernel
theorem dX0_addTree_1 : decode cX0_addTree 1 = .ok (.iconst 0, 1) := by decide +kernel
theorem dX0_addTree_2 : decode cX0_addTree 2 = .ok (.invokestatic 109, 3) := by decide +kernel
theorem dX0_addTree_5 : decode cX0_addTree 5 = .ok (.istore_n 3, 1) := by decide +kernel
theorem dX0_addTree_6 : decode cX0_addTree 6 = .ok (.aload_n 0, 1) := by decide +kernel
theorem dX0_addTree_7 : decode cX0_addTree 7 = .ok (.getfield 31, 3) := by decide +kernel
theorem dX0_addTree_10 : decode cX0_addTree 10 = .ok (.iload_n 1, 1) := by decide +kernel
theorem dX0_addTree_11 : decode cX0_addTree 11 = .ok (.invokevirtual 69, 3) := by decide +kernel
theorem dX0_addTree_14 : decode cX0_addTree 14 = .ok (.istore 4, 2) := by decide +kernel
theorem dX0_addTree_16 : decode cX0_addTree 16 = .ok (.iconst 0, 1) := by decide +kernel
theorem dX0_addTree_17 : decode cX0_addTree 17 = .ok (.istore 5, 2) := by decide +kernel
theorem dX0_addTree_19 : decode cX0_addTree 19 = .ok (.iload 5, 2) := by decide +kernel
theorem dX0_addTree_21 : decode cX0_addTree 21 = .ok (.iload_n 2, 1) := by decide +kernel
theorem dX0_addTree_22 : decode cX0_addTree 22 = .ok (.iadd, 1) := by decide +kernel
theorem dX0_addTree_23 : decode cX0_addTree 23 = .ok (.aload_n 0, 1) := by decide +kernel
theorem dX0_addTree_24 : decode cX0_addTree 24 = .ok (.getfield 73, 3) := by decide +kernel
theorem dX0_addTree_27 : decode cX0_addTree 27 = .ok (.if_icmp .gt 89, 3) := by decide +kernel
theorem dX0_addTree_30 : decode cX0_addTree 30 = .ok (.aload_n 0, 1) := by decide +kernel
theorem dX0_addTree_31 : decode cX0_addTree 31 = .ok (.getfield 31, 3) := by decide +kernel
theorem dX0_addTree_34 : decode cX0_addTree 34 = .ok (.iload_n 1, 1) := by decide +kernel
theorem dX0_addTree_35 : decode cX0_addTree 35 = .ok (.invokevirtual 66, 3) := by decide +kernel
theorem dX0_addTree_38 : decode cX0_addTree 38 = .ok (.ifCond .eq 16, 3) := by decide +kernel
theorem dX0_addTree_41 : decode cX0_addTree 41 = .ok (.aload_n 0, 1) := by decide +kernel
theorem dX0_addTree_42 : decode cX0_addTree 42 = .ok (.iload_n 3, 1) := by decide +kernel
theorem dX0_addTree_43 : decode cX0_addTree 43 = .ok (.iload 4, 2) := by decide +kernel
theorem dX0_addTree_45 : decode cX0_addTree 45 = .ok (.iload 5, 2) := by decide +kernel
theorem dX0_addTree_47 : decode cX0_addTree 47 = .ok (.iload_n 2, 1) := by decide +kernel
theorem dX0_addTree_48 : decode cX0_addTree 48 = .ok (.invokevirtual 167, 3) := by decide +kernel
theorem dX0_addTree_51 : decode cX0_addTree 51 = .ok (.goto 59, 3) := by decide +kernel
theorem dX0_addTree_54 : decode cX0_addTree 54 = .ok (.iload 5, 2) := by decide +kernel
theorem dX0_addTree_56 : decode cX0_addTree 56 = .ok (.iload 5, 2) := by decide +kernel
theorem dX0_addTree_58 : decode cX0_addTree 58 = .ok (.iload_n 2, 1) := by decide +kernel
theorem dX0_addTree_59 : decode cX0_addTree 59 = .ok (.iadd, 1) := by decide +kernel
theorem dX0_addTree_60 : decode cX0_addTree 60 = .ok (.iconst (-1), 1) := by decide +kernel
theorem dX0_addTree_61 : decode cX0_addTree 61 = .ok (.iconst (-1), 1) := by decide +kernel
theorem dX0_addTree_62 : decode cX0_addTree 62 = .ok (.invokestatic 38, 3) := by decide +kernel
theorem dX0_addTree_65 : decode cX0_addTree 65 = .ok (.istore 6, 2) := by decide +kernel
theorem dX0_addTree_67 : decode cX0_addTree 67 = .ok (.iload 4, 2) := by decide +kernel
theorem dX0_addTree_69 : decode cX0_addTree 69 = .ok (.bipush 45, 2) := by decide +kernel
theorem dX0_addTree_71 : decode cX0_addTree 71 = .ok (.imul, 1) := by decide +kernel
theorem dX0_addTree_72 : decode cX0_addTree 72 = .ok (.iload 6, 2) := by decide +kernel
theorem dX0_addTree_74 : decode cX0_addTree 74 = .ok (.iadd, 1) := by decide +kernel
theorem dX0_addTree_75 : decode cX0_addTree 75 = .ok (.istore 7, 2) := by decide +kernel
theorem dX0_addTree_77 : decode cX0_addTree 77 = .ok (.aload_n 0, 1) := by decide +kernel
theorem dX0_addTree_78 : decode cX0_addTree 78 = .ok (.getfield 22, 3) := by decide +kernel
theorem dX0_addTree_81 : decode cX0_addTree 81 = .ok (.iload 7, 2) := by decide +kernel
theorem dX0_addTree_83 : decode cX0_addTree 83 = .ok (.aload_n 0, 1) := by decide +kernel
theorem dX0_addTree_84 : decode cX0_addTree 84 = .ok (.getfield 22, 3) := by decide +kernel
theorem dX0_addTree_87 : decode cX0_addTree 87 = .ok (.iload 7, 2) := by decide +kernel
theorem dX0_addTree_89 : decode cX0_addTree 89 = .ok (.iaload, 1) := by decide +kernel
theorem dX0_addTree_90 : decode cX0_addTree 90 = .ok (.i2l, 1) := by decide +kernel
theorem dX0_addTree_91 : decode cX0_addTree 91 = .ok (.aload_n 0, 1) := by decide +kernel
theorem dX0_addTree_92 : decode cX0_addTree 92 = .ok (.getfield 16, 3) := by decide +kernel
theorem dX0_addTree_95 : decode cX0_addTree 95 = .ok (.iload_n 3, 1) := by decide +kernel
theorem dX0_addTree_96 : decode cX0_addTree 96 = .ok (.sipush 330, 3) := by decide +kernel
theorem dX0_addTree_99 : decode cX0_addTree 99 = .ok (.imul, 1) := by decide +kernel
theorem dX0_addTree_100 : decode cX0_addTree 100 = .ok (.iload 6, 2) := by decide +kernel
theorem dX0_addTree_102 : decode cX0_addTree 102 = .ok (.iadd, 1) := by decide +kernel
theorem dX0_addTree_103 : decode cX0_addTree 103 = .ok (.iaload, 1) := by decide +kernel
theorem dX0_addTree_104 : decode cX0_addTree 104 = .ok (.i2l, 1) := by decide +kernel
theorem dX0_addTree_105 : decode cX0_addTree 105 = .ok (.ladd, 1) := by decide +kernel
theorem dX0_addTree_106 : decode cX0_addTree 106 = .ok (.invokestatic 148, 3) := by decide +kernel
theorem dX0_addTree_109 : decode cX0_addTree 109 = .ok (.iastore, 1) := by decide +kernel
theorem dX0_addTree_110 : decode cX0_addTree 110 = .ok (.iinc 5 1, 3) := by decide +kernel
theorem dX0_addTree_113 : decode cX0_addTree 113 = .ok (.goto (-94), 3) := by decide +kernel
theorem dX0_addTree_116 : decode cX0_addTree 116 = .ok (.return_, 1) := by decide +kernel
theorem dX0_addAuxiliary_0 : decode cX0_addAuxiliary 0 = .ok (.iload_n 3, 1) := by decide +kernel
theorem dX0_addAuxiliary_1 : decode cX0_addAuxiliary 1 = .ok (.iload 4, 2) := by decide +kernel
theorem dX0_addAuxiliary_3 : decode cX0_addAuxiliary 3 = .ok (.iadd, 1) := by decide +kernel
theorem dX0_addAuxiliary_4 : decode cX0_addAuxiliary 4 = .ok (.iconst 1, 1) := by decide +kernel
theorem dX0_addAuxiliary_5 : decode cX0_addAuxiliary 5 = .ok (.iadd, 1) := by decide +kernel
theorem dX0_addAuxiliary_6 : decode cX0_addAuxiliary 6 = .ok (.istore 5, 2) := by decide +kernel
theorem dX0_addAuxiliary_8 : decode cX0_addAuxiliary 8 = .ok (.iload 5, 2) := by decide +kernel
theorem dX0_addAuxiliary_10 : decode cX0_addAuxiliary 10 = .ok (.aload_n 0, 1) := by decide +kernel
theorem dX0_addAuxiliary_11 : decode cX0_addAuxiliary 11 = .ok (.getfield 73, 3) := by decide +kernel
theorem dX0_addAuxiliary_14 : decode cX0_addAuxiliary 14 = .ok (.if_icmp .gt 90, 3) := by decide +kernel
theorem dX0_addAuxiliary_17 : decode cX0_addAuxiliary 17 = .ok (.iload_n 3, 1) := by decide +kernel
theorem dX0_addAuxiliary_18 : decode cX0_addAuxiliary 18 = .ok (.istore 6, 2) := by decide +kernel
theorem dX0_addAuxiliary_20 : decode cX0_addAuxiliary 20 = .ok (.iload 6, 2) := by decide +kernel
theorem dX0_addAuxiliary_22 : decode cX0_addAuxiliary 22 = .ok (.iload_n 3, 1) := by decide +kernel
theorem dX0_addAuxiliary_23 : decode cX0_addAuxiliary 23 = .ok (.iload 4, 2) := by decide +kernel
theorem dX0_addAuxiliary_25 : decode cX0_addAuxiliary 25 = .ok (.iadd, 1) := by decide +kernel
theorem dX0_addAuxiliary_26 : decode cX0_addAuxiliary 26 = .ok (.if_icmp .gt 72, 3) := by decide +kernel
theorem dX0_addAuxiliary_29 : decode cX0_addAuxiliary 29 = .ok (.iload_n 3, 1) := by decide +kernel
theorem dX0_addAuxiliary_30 : decode cX0_addAuxiliary 30 = .ok (.iload 5, 2) := by decide +kernel
theorem dX0_addAuxiliary_32 : decode cX0_addAuxiliary 32 = .ok (.iload 6, 2) := by decide +kernel
theorem dX0_addAuxiliary_34 : decode cX0_addAuxiliary 34 = .ok (.iload 6, 2) := by decide +kernel
theorem dX0_addAuxiliary_36 : decode cX0_addAuxiliary 36 = .ok (.iload 5, 2) := by decide +kernel
theorem dX0_addAuxiliary_38 : decode cX0_addAuxiliary 38 = .ok (.iadd, 1) := by decide +kernel
theorem dX0_addAuxiliary_39 : decode cX0_addAuxiliary 39 = .ok (.iload_n 3, 1) := by decide +kernel
theorem dX0_addAuxiliary_40 : decode cX0_addAuxiliary 40 = .ok (.isub, 1) := by decide +kernel
theorem dX0_addAuxiliary_41 : decode cX0_addAuxiliary 41 = .ok (.iload 4, 2) := by decide +kernel
theorem dX0_addAuxiliary_43 : decode cX0_addAuxiliary 43 = .ok (.isub, 1) := by decide +kernel
theorem dX0_addAuxiliary_44 : decode cX0_addAuxiliary 44 = .ok (.invokestatic 38, 3) := by decide +kernel
theorem dX0_addAuxiliary_47 : decode cX0_addAuxiliary 47 = .ok (.istore 7, 2) := by decide +kernel
theorem dX0_addAuxiliary_49 : decode cX0_addAuxiliary 49 = .ok (.iload_n 2, 1) := by decide +kernel
theorem dX0_addAuxiliary_50 : decode cX0_addAuxiliary 50 = .ok (.sipush 330, 3) := by decide +kernel
theorem dX0_addAuxiliary_53 : decode cX0_addAuxiliary 53 = .ok (.imul, 1) := by decide +kernel
theorem dX0_addAuxiliary_54 : decode cX0_addAuxiliary 54 = .ok (.iload 7, 2) := by decide +kernel
theorem dX0_addAuxiliary_56 : decode cX0_addAuxiliary 56 = .ok (.iadd, 1) := by decide +kernel
theorem dX0_addAuxiliary_57 : decode cX0_addAuxiliary 57 = .ok (.istore 8, 2) := by decide +kernel
theorem dX0_addAuxiliary_59 : decode cX0_addAuxiliary 59 = .ok (.aload_n 0, 1) := by decide +kernel
theorem dX0_addAuxiliary_60 : decode cX0_addAuxiliary 60 = .ok (.getfield 25, 3) := by decide +kernel
theorem dX0_addAuxiliary_63 : decode cX0_addAuxiliary 63 = .ok (.iload 8, 2) := by decide +kernel
theorem dX0_addAuxiliary_65 : decode cX0_addAuxiliary 65 = .ok (.aload_n 0, 1) := by decide +kernel
theorem dX0_addAuxiliary_66 : decode cX0_addAuxiliary 66 = .ok (.getfield 25, 3) := by decide +kernel
theorem dX0_addAuxiliary_69 : decode cX0_addAuxiliary 69 = .ok (.iload 8, 2) := by decide +kernel
theorem dX0_addAuxiliary_71 : decode cX0_addAuxiliary 71 = .ok (.iaload, 1) := by decide +kernel
theorem dX0_addAuxiliary_72 : decode cX0_addAuxiliary 72 = .ok (.i2l, 1) := by decide +kernel
theorem dX0_addAuxiliary_73 : decode cX0_addAuxiliary 73 = .ok (.aload_n 0, 1) := by decide +kernel
theorem dX0_addAuxiliary_74 : decode cX0_addAuxiliary 74 = .ok (.getfield 16, 3) := by decide +kernel
theorem dX0_addAuxiliary_77 : decode cX0_addAuxiliary 77 = .ok (.iload_n 1, 1) := by decide +kernel
theorem dX0_addAuxiliary_78 : decode cX0_addAuxiliary 78 = .ok (.sipush 330, 3) := by decide +kernel
theorem dX0_addAuxiliary_81 : decode cX0_addAuxiliary 81 = .ok (.imul, 1) := by decide +kernel
theorem dX0_addAuxiliary_82 : decode cX0_addAuxiliary 82 = .ok (.iload 7, 2) := by decide +kernel
theorem dX0_addAuxiliary_84 : decode cX0_addAuxiliary 84 = .ok (.iadd, 1) := by decide +kernel
theorem dX0_addAuxiliary_85 : decode cX0_addAuxiliary 85 = .ok (.iaload, 1) := by decide +kernel
theorem dX0_addAuxiliary_86 : decode cX0_addAuxiliary 86 = .ok (.i2l, 1) := by decide +kernel
theorem dX0_addAuxiliary_87 : decode cX0_addAuxiliary 87 = .ok (.ladd, 1) := by decide +kernel
theorem dX0_addAuxiliary_88 : decode cX0_addAuxiliary 88 = .ok (.invokestatic 148, 3) := by decide +kernel
theorem dX0_addAuxiliary_91 : decode cX0_addAuxiliary 91 = .ok (.iastore, 1) := by decide +kernel
theorem dX0_addAuxiliary_92 : decode cX0_addAuxiliary 92 = .ok (.iinc 6 1, 3) := by decide +kernel
theorem dX0_addAuxiliary_95 : decode cX0_addAuxiliary 95 = .ok (.goto (-75), 3) := by decide +kernel
theorem dX0_addAuxiliary_98 : decode cX0_addAuxiliary 98 = .ok (.iinc 5 1, 3) := by decide +kernel
theorem dX0_addAuxiliary_101 : decode cX0_addAuxiliary 101 = .ok (.goto (-93), 3) := by decide +kernel
theorem dX0_addAuxiliary_104 : decode cX0_addAuxiliary 104 = .ok (.return_, 1) := by decide +kernel
theorem dX0_at_0 : decode cX0_at 0 = .ok (.iload_n 2, 1) := by decide +kernel
theorem dX0_at_1 : decode cX0_at 1 = .ok (.iconst (-1), 1) := by decide +kernel
theorem dX0_at_2 : decode cX0_at 2 = .ok (.if_icmp .ne 11, 3) := by decide +kernel
theorem dX0_at_5 : decode cX0_at 5 = .ok (.iload_n 0, 1) := by decide +kernel
theorem dX0_at_6 : decode cX0_at 6 = .ok (.getstatic 171, 3) := by decide +kernel
theorem dX0_at_9 : decode cX0_at 9 = .ok (.iload_n 1, 1) := by decide +kernel
theorem dX0_at_10 : decode cX0_at 10 = .ok (.iaload, 1) := by decide +kernel
theorem dX0_at_11 : decode cX0_at 11 = .ok (.iadd, 1) := by decide +kernel
theorem dX0_at_12 : decode cX0_at 12 = .ok (.ireturn, 1) := by decide +kernel
theorem dX0_at_13 : decode cX0_at 13 = .ok (.iload_n 0, 1) := by decide +kernel
theorem dX0_at_14 : decode cX0_at 14 = .ok (.getstatic 171, 3) := by decide +kernel
theorem dX0_at_17 : decode cX0_at 17 = .ok (.iload_n 2, 1) := by decide +kernel
theorem dX0_at_18 : decode cX0_at 18 = .ok (.iaload, 1) := by decide +kernel
theorem dX0_at_19 : decode cX0_at 19 = .ok (.iadd, 1) := by decide +kernel
theorem dX0_at_20 : decode cX0_at 20 = .ok (.getstatic 174, 3) := by decide +kernel
theorem dX0_at_23 : decode cX0_at 23 = .ok (.iload_n 3, 1) := by decide +kernel
theorem dX0_at_24 : decode cX0_at 24 = .ok (.iaload, 1) := by decide +kernel
theorem dX0_at_25 : decode cX0_at 25 = .ok (.iadd, 1) := by decide +kernel
theorem dX0_at_26 : decode cX0_at 26 = .ok (.getstatic 177, 3) := by decide +kernel
theorem dX0_at_29 : decode cX0_at 29 = .ok (.iload_n 1, 1) := by decide +kernel
theorem dX0_at_30 : decode cX0_at 30 = .ok (.iaload, 1) := by decide +kernel
theorem dX0_at_31 : decode cX0_at 31 = .ok (.iadd, 1) := by decide +kernel
theorem dX0_at_32 : decode cX0_at 32 = .ok (.ireturn, 1) := by decide +kernel

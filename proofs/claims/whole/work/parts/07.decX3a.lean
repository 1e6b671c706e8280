theorem dX3_init_0 : decode cX3_init 0 = .ok (.aload_n 0, 1) := by decide +kernel
theorem dX3_init_1 : decode cX3_init 1 = .ok (.invokespecial 3, 3) := by decide +kernel
theorem dX3_init_4 : decode cX3_init 4 = .ok (.aload_n 0, 1) := by decide +kernel
theorem dX3_init_5 : decode cX3_init 5 = .ok (.new 9, 3) := by decide +kernel
theorem dX3_init_8 : decode cX3_init 8 = .ok (.dup, 1) := by decide +kernel
theorem dX3_init_9 : decode cX3_init 9 = .ok (.bipush 8, 2) := by decide +kernel
theorem dX3_init_11 : decode cX3_init 11 = .ok (.bipush 12, 2) := by decide +kernel
theorem dX3_init_13 : decode cX3_init 13 = .ok (.invokespecial 11, 3) := by decide +kernel
theorem dX3_init_16 : decode cX3_init 16 = .ok (.putfield 14, 3) := by decide +kernel
theorem dX3_init_19 : decode cX3_init 19 = .ok (.aload_n 0, 1) := by decide +kernel
theorem dX3_init_20 : decode cX3_init 20 = .ok (.aload_n 1, 1) := by decide +kernel
theorem dX3_init_21 : decode cX3_init 21 = .ok (.putfield 20, 3) := by decide +kernel
theorem dX3_init_24 : decode cX3_init 24 = .ok (.return_, 1) := by decide +kernel
theorem dX3_parse_0 : decode cX3_parse 0 = .ok (.aload_n 0, 1) := by decide +kernel
theorem dX3_parse_1 : decode cX3_parse 1 = .ok (.invokevirtual 24, 3) := by decide +kernel
theorem dX3_parse_4 : decode cX3_parse 4 = .ok (.istore_n 1, 1) := by decide +kernel
theorem dX3_parse_5 : decode cX3_parse 5 = .ok (.iload_n 1, 1) := by decide +kernel
theorem dX3_parse_6 : decode cX3_parse 6 = .ok (.ifCond .ne 7, 3) := by decide +kernel
theorem dX3_parse_9 : decode cX3_parse 9 = .ok (.aload_n 0, 1) := by decide +kernel
theorem dX3_parse_10 : decode cX3_parse 10 = .ok (.invokevirtual 28, 3) := by decide +kernel
theorem dX3_parse_13 : decode cX3_parse 13 = .ok (.iload_n 1, 1) := by decide +kernel
theorem dX3_parse_14 : decode cX3_parse 14 = .ok (.ireturn, 1) := by decide +kernel
theorem dX3_findFault_0 : decode cX3_findFault 0 = .ok (.aload_n 0, 1) := by decide +kernel
theorem dX3_findFault_1 : decode cX3_findFault 1 = .ok (.getfield 20, 3) := by decide +kernel
theorem dX3_findFault_4 : decode cX3_findFault 4 = .ok (.invokevirtual 31, 3) := by decide +kernel
theorem dX3_findFault_7 : decode cX3_findFault 7 = .ok (.iconst 0, 1) := by decide +kernel
theorem dX3_findFault_8 : decode cX3_findFault 8 = .ok (.istore_n 1, 1) := by decide +kernel
theorem dX3_findFault_9 : decode cX3_findFault 9 = .ok (.iload_n 1, 1) := by decide +kernel
theorem dX3_findFault_10 : decode cX3_findFault 10 = .ok (.bipush 8, 2) := by decide +kernel
theorem dX3_findFault_12 : decode cX3_findFault 12 = .ok (.if_icmp .gt 47, 3) := by decide +kernel
theorem dX3_findFault_15 : decode cX3_findFault 15 = .ok (.aload_n 0, 1) := by decide +kernel
theorem dX3_findFault_16 : decode cX3_findFault 16 = .ok (.getfield 20, 3) := by decide +kernel
theorem dX3_findFault_19 : decode cX3_findFault 19 = .ok (.invokevirtual 36, 3) := by decide +kernel
theorem dX3_findFault_22 : decode cX3_findFault 22 = .ok (.aload_n 0, 1) := by decide +kernel
theorem dX3_findFault_23 : decode cX3_findFault 23 = .ok (.getfield 20, 3) := by decide +kernel
theorem dX3_findFault_26 : decode cX3_findFault 26 = .ok (.getfield 39, 3) := by decide +kernel
theorem dX3_findFault_29 : decode cX3_findFault 29 = .ok (.ifCond .ne 5, 3) := by decide +kernel
theorem dX3_findFault_32 : decode cX3_findFault 32 = .ok (.iconst 0, 1) := by decide +kernel
theorem dX3_findFault_33 : decode cX3_findFault 33 = .ok (.ireturn, 1) := by decide +kernel
theorem dX3_findFault_34 : decode cX3_findFault 34 = .ok (.aload_n 0, 1) := by decide +kernel
theorem dX3_findFault_35 : decode cX3_findFault 35 = .ok (.getfield 20, 3) := by decide +kernel
theorem dX3_findFault_38 : decode cX3_findFault 38 = .ok (.getfield 39, 3) := by decide +kernel
theorem dX3_findFault_41 : decode cX3_findFault 41 = .ok (.iconst 3, 1) := by decide +kernel
theorem dX3_findFault_42 : decode cX3_findFault 42 = .ok (.if_icmp .eq 11, 3) := by decide +kernel
theorem dX3_findFault_45 : decode cX3_findFault 45 = .ok (.aload_n 0, 1) := by decide +kernel
theorem dX3_findFault_46 : decode cX3_findFault 46 = .ok (.getfield 20, 3) := by decide +kernel
theorem dX3_findFault_49 : decode cX3_findFault 49 = .ok (.invokevirtual 43, 3) := by decide +kernel
theorem dX3_findFault_52 : decode cX3_findFault 52 = .ok (.ireturn, 1) := by decide +kernel
theorem dX3_findFault_53 : decode cX3_findFault 53 = .ok (.iinc 1 1, 3) := by decide +kernel
theorem dX3_findFault_56 : decode cX3_findFault 56 = .ok (.goto (-47), 3) := by decide +kernel
theorem dX3_findFault_59 : decode cX3_findFault 59 = .ok (.iconst 3, 1) := by decide +kernel
theorem dX3_findFault_60 : decode cX3_findFault 60 = .ok (.ireturn, 1) := by decide +kernel
theorem dX3_take_0 : decode cX3_take 0 = .ok (.aload_n 0, 1) := by decide +kernel
theorem dX3_take_1 : decode cX3_take 1 = .ok (.getfield 14, 3) := by decide +kernel
theorem dX3_take_4 : decode cX3_take 4 = .ok (.iconst 0, 1) := by decide +kernel
theorem dX3_take_5 : decode cX3_take 5 = .ok (.putfield 46, 3) := by decide +kernel
theorem dX3_take_8 : decode cX3_take 8 = .ok (.aload_n 0, 1) := by decide +kernel
theorem dX3_take_9 : decode cX3_take 9 = .ok (.getfield 20, 3) := by decide +kernel
theorem dX3_take_12 : decode cX3_take 12 = .ok (.invokevirtual 31, 3) := by decide +kernel
theorem dX3_take_15 : decode cX3_take 15 = .ok (.iconst 0, 1) := by decide +kernel
theorem dX3_take_16 : decode cX3_take 16 = .ok (.istore_n 1, 1) := by decide +kernel
theorem dX3_take_17 : decode cX3_take 17 = .ok (.iload_n 1, 1) := by decide +kernel
theorem dX3_take_18 : decode cX3_take 18 = .ok (.bipush 8, 2) := by decide +kernel
theorem dX3_take_20 : decode cX3_take 20 = .ok (.if_icmp .ge 55, 3) := by decide +kernel
theorem dX3_take_23 : decode cX3_take 23 = .ok (.aload_n 0, 1) := by decide +kernel
theorem dX3_take_24 : decode cX3_take 24 = .ok (.getfield 20, 3) := by decide +kernel
theorem dX3_take_27 : decode cX3_take 27 = .ok (.invokevirtual 36, 3) := by decide +kernel
theorem dX3_take_30 : decode cX3_take 30 = .ok (.aload_n 0, 1) := by decide +kernel
theorem dX3_take_31 : decode cX3_take 31 = .ok (.getfield 20, 3) := by decide +kernel
theorem dX3_take_34 : decode cX3_take 34 = .ok (.getfield 39, 3) := by decide +kernel
theorem dX3_take_37 : decode cX3_take 37 = .ok (.iconst 3, 1) := by decide +kernel
theorem dX3_take_38 : decode cX3_take 38 = .ok (.if_icmp .ne 31, 3) := by decide +kernel
theorem dX3_take_41 : decode cX3_take 41 = .ok (.aload_n 0, 1) := by decide +kernel
theorem dX3_take_42 : decode cX3_take 42 = .ok (.getfield 14, 3) := by decide +kernel
theorem dX3_take_45 : decode cX3_take 45 = .ok (.aload_n 0, 1) := by decide +kernel
theorem dX3_take_46 : decode cX3_take 46 = .ok (.getfield 20, 3) := by decide +kernel
theorem dX3_take_49 : decode cX3_take 49 = .ok (.getfield 49, 3) := by decide +kernel
theorem dX3_take_52 : decode cX3_take 52 = .ok (.aload_n 0, 1) := by decide +kernel
theorem dX3_take_53 : decode cX3_take 53 = .ok (.getfield 20, 3) := by decide +kernel
theorem dX3_take_56 : decode cX3_take 56 = .ok (.getfield 53, 3) := by decide +kernel
theorem dX3_take_59 : decode cX3_take 59 = .ok (.aload_n 0, 1) := by decide +kernel
theorem dX3_take_60 : decode cX3_take 60 = .ok (.getfield 20, 3) := by decide +kernel
theorem dX3_take_63 : decode cX3_take 63 = .ok (.getfield 56, 3) := by decide +kernel
theorem dX3_take_66 : decode cX3_take 66 = .ok (.invokevirtual 59, 3) := by decide +kernel
theorem dX3_take_69 : decode cX3_take 69 = .ok (.iinc 1 1, 3) := by decide +kernel
theorem dX3_take_72 : decode cX3_take 72 = .ok (.goto (-55), 3) := by decide +kernel
theorem dX3_take_75 : decode cX3_take 75 = .ok (.return_, 1) := by decide +kernel

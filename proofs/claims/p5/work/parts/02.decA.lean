theorem dX0_init_0 : decode cX0_init 0 = .ok (.aload_n 0, 1) := by decide +kernel
theorem dX0_init_1 : decode cX0_init 1 = .ok (.invokespecial 3, 3) := by decide +kernel
theorem dX0_init_4 : decode cX0_init 4 = .ok (.aload_n 0, 1) := by decide +kernel
theorem dX0_init_5 : decode cX0_init 5 = .ok (.bipush 40, 2) := by decide +kernel
theorem dX0_init_7 : decode cX0_init 7 = .ok (.newarray .int, 2) := by decide +kernel
theorem dX0_init_9 : decode cX0_init 9 = .ok (.putfield 9, 3) := by decide +kernel
theorem dX0_init_12 : decode cX0_init 12 = .ok (.aload_n 0, 1) := by decide +kernel
theorem dX0_init_13 : decode cX0_init 13 = .ok (.bipush 40, 2) := by decide +kernel
theorem dX0_init_15 : decode cX0_init 15 = .ok (.newarray .int, 2) := by decide +kernel
theorem dX0_init_17 : decode cX0_init 17 = .ok (.putfield 15, 3) := by decide +kernel
theorem dX0_init_20 : decode cX0_init 20 = .ok (.aload_n 0, 1) := by decide +kernel
theorem dX0_init_21 : decode cX0_init 21 = .ok (.bipush 40, 2) := by decide +kernel
theorem dX0_init_23 : decode cX0_init 23 = .ok (.newarray .int, 2) := by decide +kernel
theorem dX0_init_25 : decode cX0_init 25 = .ok (.putfield 18, 3) := by decide +kernel
theorem dX0_init_28 : decode cX0_init 28 = .ok (.aload_n 0, 1) := by decide +kernel
theorem dX0_init_29 : decode cX0_init 29 = .ok (.bipush 40, 2) := by decide +kernel
theorem dX0_init_31 : decode cX0_init 31 = .ok (.newarray .int, 2) := by decide +kernel
theorem dX0_init_33 : decode cX0_init 33 = .ok (.putfield 21, 3) := by decide +kernel
theorem dX0_init_36 : decode cX0_init 36 = .ok (.aload_n 0, 1) := by decide +kernel
theorem dX0_init_37 : decode cX0_init 37 = .ok (.bipush 40, 2) := by decide +kernel
theorem dX0_init_39 : decode cX0_init 39 = .ok (.newarray .int, 2) := by decide +kernel
theorem dX0_init_41 : decode cX0_init 41 = .ok (.putfield 24, 3) := by decide +kernel
theorem dX0_init_44 : decode cX0_init 44 = .ok (.aload_n 0, 1) := by decide +kernel
theorem dX0_init_45 : decode cX0_init 45 = .ok (.bipush 16, 2) := by decide +kernel
theorem dX0_init_47 : decode cX0_init 47 = .ok (.newarray .int, 2) := by decide +kernel
theorem dX0_init_49 : decode cX0_init 49 = .ok (.putfield 27, 3) := by decide +kernel
theorem dX0_init_52 : decode cX0_init 52 = .ok (.return_, 1) := by decide +kernel
theorem dX0_enter_0 : decode cX0_enter 0 = .ok (.aload_n 0, 1) := by decide +kernel
theorem dX0_enter_1 : decode cX0_enter 1 = .ok (.getfield 30, 3) := by decide +kernel
theorem dX0_enter_4 : decode cX0_enter 4 = .ok (.istore 6, 2) := by decide +kernel
theorem dX0_enter_6 : decode cX0_enter 6 = .ok (.iload 6, 2) := by decide +kernel
theorem dX0_enter_8 : decode cX0_enter 8 = .ok (.iconst 0, 1) := by decide +kernel
theorem dX0_enter_9 : decode cX0_enter 9 = .ok (.bipush 39, 2) := by decide +kernel
theorem dX0_enter_11 : decode cX0_enter 11 = .ok (.invokestatic 34, 3) := by decide +kernel
theorem dX0_enter_14 : decode cX0_enter 14 = .ok (.ifCond .ne 6, 3) := by decide +kernel
theorem dX0_enter_17 : decode cX0_enter 17 = .ok (.bipush (-4), 2) := by decide +kernel
theorem dX0_enter_19 : decode cX0_enter 19 = .ok (.ireturn, 1) := by decide +kernel
theorem dX0_enter_20 : decode cX0_enter 20 = .ok (.aload_n 0, 1) := by decide +kernel
theorem dX0_enter_21 : decode cX0_enter 21 = .ok (.getfield 9, 3) := by decide +kernel
theorem dX0_enter_24 : decode cX0_enter 24 = .ok (.iload 6, 2) := by decide +kernel
theorem dX0_enter_26 : decode cX0_enter 26 = .ok (.iload_n 1, 1) := by decide +kernel
theorem dX0_enter_27 : decode cX0_enter 27 = .ok (.iastore, 1) := by decide +kernel
theorem dX0_enter_28 : decode cX0_enter 28 = .ok (.aload_n 0, 1) := by decide +kernel
theorem dX0_enter_29 : decode cX0_enter 29 = .ok (.getfield 15, 3) := by decide +kernel
theorem dX0_enter_32 : decode cX0_enter 32 = .ok (.iload 6, 2) := by decide +kernel
theorem dX0_enter_34 : decode cX0_enter 34 = .ok (.iload_n 2, 1) := by decide +kernel
theorem dX0_enter_35 : decode cX0_enter 35 = .ok (.iastore, 1) := by decide +kernel
theorem dX0_enter_36 : decode cX0_enter 36 = .ok (.aload_n 0, 1) := by decide +kernel
theorem dX0_enter_37 : decode cX0_enter 37 = .ok (.getfield 18, 3) := by decide +kernel
theorem dX0_enter_40 : decode cX0_enter 40 = .ok (.iload 6, 2) := by decide +kernel
theorem dX0_enter_42 : decode cX0_enter 42 = .ok (.iload_n 3, 1) := by decide +kernel
theorem dX0_enter_43 : decode cX0_enter 43 = .ok (.iastore, 1) := by decide +kernel
theorem dX0_enter_44 : decode cX0_enter 44 = .ok (.aload_n 0, 1) := by decide +kernel
theorem dX0_enter_45 : decode cX0_enter 45 = .ok (.getfield 21, 3) := by decide +kernel
theorem dX0_enter_48 : decode cX0_enter 48 = .ok (.iload 6, 2) := by decide +kernel
theorem dX0_enter_50 : decode cX0_enter 50 = .ok (.iload 4, 2) := by decide +kernel
theorem dX0_enter_52 : decode cX0_enter 52 = .ok (.iastore, 1) := by decide +kernel
theorem dX0_enter_53 : decode cX0_enter 53 = .ok (.aload_n 0, 1) := by decide +kernel
theorem dX0_enter_54 : decode cX0_enter 54 = .ok (.getfield 24, 3) := by decide +kernel
theorem dX0_enter_57 : decode cX0_enter 57 = .ok (.iload 6, 2) := by decide +kernel
theorem dX0_enter_59 : decode cX0_enter 59 = .ok (.iload 5, 2) := by decide +kernel
theorem dX0_enter_61 : decode cX0_enter 61 = .ok (.iastore, 1) := by decide +kernel
theorem dX0_enter_62 : decode cX0_enter 62 = .ok (.aload_n 0, 1) := by decide +kernel
theorem dX0_enter_63 : decode cX0_enter 63 = .ok (.iload 6, 2) := by decide +kernel
theorem dX0_enter_65 : decode cX0_enter 65 = .ok (.iconst 1, 1) := by decide +kernel
theorem dX0_enter_66 : decode cX0_enter 66 = .ok (.iadd, 1) := by decide +kernel
theorem dX0_enter_67 : decode cX0_enter 67 = .ok (.putfield 30, 3) := by decide +kernel
theorem dX0_enter_70 : decode cX0_enter 70 = .ok (.iload 6, 2) := by decide +kernel
theorem dX0_enter_72 : decode cX0_enter 72 = .ok (.ireturn, 1) := by decide +kernel
theorem dX1_init_0 : decode cX1_init 0 = .ok (.aload_n 0, 1) := by decide +kernel
theorem dX1_init_1 : decode cX1_init 1 = .ok (.invokespecial 3, 3) := by decide +kernel
theorem dX1_init_4 : decode cX1_init 4 = .ok (.aload_n 0, 1) := by decide +kernel
theorem dX1_init_5 : decode cX1_init 5 = .ok (.bipush 16, 2) := by decide +kernel
theorem dX1_init_7 : decode cX1_init 7 = .ok (.newarray .int, 2) := by decide +kernel
theorem dX1_init_9 : decode cX1_init 9 = .ok (.putfield 9, 3) := by decide +kernel
theorem dX1_init_12 : decode cX1_init 12 = .ok (.aload_n 0, 1) := by decide +kernel
theorem dX1_init_13 : decode cX1_init 13 = .ok (.bipush 16, 2) := by decide +kernel
theorem dX1_init_15 : decode cX1_init 15 = .ok (.newarray .int, 2) := by decide +kernel
theorem dX1_init_17 : decode cX1_init 17 = .ok (.putfield 15, 3) := by decide +kernel
theorem dX1_init_20 : decode cX1_init 20 = .ok (.aload_n 0, 1) := by decide +kernel
theorem dX1_init_21 : decode cX1_init 21 = .ok (.bipush 16, 2) := by decide +kernel
theorem dX1_init_23 : decode cX1_init 23 = .ok (.newarray .int, 2) := by decide +kernel
theorem dX1_init_25 : decode cX1_init 25 = .ok (.putfield 18, 3) := by decide +kernel
theorem dX1_init_28 : decode cX1_init 28 = .ok (.return_, 1) := by decide +kernel
theorem dX1_gather_0 : decode cX1_gather 0 = .ok (.aload_n 0, 1) := by decide +kernel
theorem dX1_gather_1 : decode cX1_gather 1 = .ok (.iload_n 2, 1) := by decide +kernel
theorem dX1_gather_2 : decode cX1_gather 2 = .ok (.putfield 21, 3) := by decide +kernel
theorem dX1_gather_5 : decode cX1_gather 5 = .ok (.aload_n 0, 1) := by decide +kernel
theorem dX1_gather_6 : decode cX1_gather 6 = .ok (.iload_n 1, 1) := by decide +kernel
theorem dX1_gather_7 : decode cX1_gather 7 = .ok (.bipush 16, 2) := by decide +kernel
theorem dX1_gather_9 : decode cX1_gather 9 = .ok (.invokestatic 25, 3) := by decide +kernel
theorem dX1_gather_12 : decode cX1_gather 12 = .ok (.putfield 31, 3) := by decide +kernel
theorem dX1_gather_15 : decode cX1_gather 15 = .ok (.iconst 0, 1) := by decide +kernel
theorem dX1_gather_16 : decode cX1_gather 16 = .ok (.istore_n 3, 1) := by decide +kernel
theorem dX1_gather_17 : decode cX1_gather 17 = .ok (.iload_n 3, 1) := by decide +kernel
theorem dX1_gather_18 : decode cX1_gather 18 = .ok (.aload_n 0, 1) := by decide +kernel
theorem dX1_gather_19 : decode cX1_gather 19 = .ok (.getfield 31, 3) := by decide +kernel
theorem dX1_gather_22 : decode cX1_gather 22 = .ok (.if_icmp .ge 30, 3) := by decide +kernel
theorem dX1_gather_25 : decode cX1_gather 25 = .ok (.aload_n 0, 1) := by decide +kernel
theorem dX1_gather_26 : decode cX1_gather 26 = .ok (.getfield 9, 3) := by decide +kernel
theorem dX1_gather_29 : decode cX1_gather 29 = .ok (.iload_n 3, 1) := by decide +kernel
theorem dX1_gather_30 : decode cX1_gather 30 = .ok (.iload_n 3, 1) := by decide +kernel
theorem dX1_gather_31 : decode cX1_gather 31 = .ok (.iastore, 1) := by decide +kernel
theorem dX1_gather_32 : decode cX1_gather 32 = .ok (.aload_n 0, 1) := by decide +kernel
theorem dX1_gather_33 : decode cX1_gather 33 = .ok (.getfield 15, 3) := by decide +kernel
theorem dX1_gather_36 : decode cX1_gather 36 = .ok (.iload_n 3, 1) := by decide +kernel
theorem dX1_gather_37 : decode cX1_gather 37 = .ok (.iconst (-1), 1) := by decide +kernel
theorem dX1_gather_38 : decode cX1_gather 38 = .ok (.iastore, 1) := by decide +kernel
theorem dX1_gather_39 : decode cX1_gather 39 = .ok (.aload_n 0, 1) := by decide +kernel
theorem dX1_gather_40 : decode cX1_gather 40 = .ok (.getfield 18, 3) := by decide +kernel
theorem dX1_gather_43 : decode cX1_gather 43 = .ok (.iload_n 3, 1) := by decide +kernel
theorem dX1_gather_44 : decode cX1_gather 44 = .ok (.iconst 0, 1) := by decide +kernel
theorem dX1_gather_45 : decode cX1_gather 45 = .ok (.iastore, 1) := by decide +kernel
theorem dX1_gather_46 : decode cX1_gather 46 = .ok (.iinc 3 1, 3) := by decide +kernel
theorem dX1_gather_49 : decode cX1_gather 49 = .ok (.goto (-32), 3) := by decide +kernel
theorem dX1_gather_52 : decode cX1_gather 52 = .ok (.return_, 1) := by decide +kernel
theorem dX1_nextInTurn_0 : decode cX1_nextInTurn 0 = .ok (.aload_n 0, 1) := by decide +kernel
theorem dX1_nextInTurn_1 : decode cX1_nextInTurn 1 = .ok (.aload_n 0, 1) := by decide +kernel
theorem dX1_nextInTurn_2 : decode cX1_nextInTurn 2 = .ok (.getfield 21, 3) := by decide +kernel
theorem dX1_nextInTurn_5 : decode cX1_nextInTurn 5 = .ok (.ldc 34, 2) := by decide +kernel
theorem dX1_nextInTurn_7 : decode cX1_nextInTurn 7 = .ok (.imul, 1) := by decide +kernel
theorem dX1_nextInTurn_8 : decode cX1_nextInTurn 8 = .ok (.sipush 12345, 3) := by decide +kernel
theorem dX1_nextInTurn_11 : decode cX1_nextInTurn 11 = .ok (.iadd, 1) := by decide +kernel
theorem dX1_nextInTurn_12 : decode cX1_nextInTurn 12 = .ok (.putfield 21, 3) := by decide +kernel
theorem dX1_nextInTurn_15 : decode cX1_nextInTurn 15 = .ok (.aload_n 0, 1) := by decide +kernel
theorem dX1_nextInTurn_16 : decode cX1_nextInTurn 16 = .ok (.getfield 31, 3) := by decide +kernel
theorem dX1_nextInTurn_19 : decode cX1_nextInTurn 19 = .ok (.ifCond .le 23, 3) := by decide +kernel
theorem dX1_nextInTurn_22 : decode cX1_nextInTurn 22 = .ok (.aload_n 0, 1) := by decide +kernel
theorem dX1_nextInTurn_23 : decode cX1_nextInTurn 23 = .ok (.getfield 9, 3) := by decide +kernel
theorem dX1_nextInTurn_26 : decode cX1_nextInTurn 26 = .ok (.aload_n 0, 1) := by decide +kernel
theorem dX1_nextInTurn_27 : decode cX1_nextInTurn 27 = .ok (.getfield 21, 3) := by decide +kernel
theorem dX1_nextInTurn_30 : decode cX1_nextInTurn 30 = .ok (.bipush 16, 2) := by decide +kernel
theorem dX1_nextInTurn_32 : decode cX1_nextInTurn 32 = .ok (.iushr, 1) := by decide +kernel
theorem dX1_nextInTurn_33 : decode cX1_nextInTurn 33 = .ok (.aload_n 0, 1) := by decide +kernel
theorem dX1_nextInTurn_34 : decode cX1_nextInTurn 34 = .ok (.getfield 31, 3) := by decide +kernel
theorem dX1_nextInTurn_37 : decode cX1_nextInTurn 37 = .ok (.irem, 1) := by decide +kernel
theorem dX1_nextInTurn_38 : decode cX1_nextInTurn 38 = .ok (.iaload, 1) := by decide +kernel
theorem dX1_nextInTurn_39 : decode cX1_nextInTurn 39 = .ok (.goto 4, 3) := by decide +kernel
theorem dX1_nextInTurn_42 : decode cX1_nextInTurn 42 = .ok (.iconst (-1), 1) := by decide +kernel
theorem dX1_nextInTurn_43 : decode cX1_nextInTurn 43 = .ok (.ireturn, 1) := by decide +kernel
theorem dX1_beginsOnceMore_0 : decode cX1_beginsOnceMore 0 = .ok (.aload_n 0, 1) := by decide +kernel
theorem dX1_beginsOnceMore_1 : decode cX1_beginsOnceMore 1 = .ok (.getfield 18, 3) := by decide +kernel
theorem dX1_beginsOnceMore_4 : decode cX1_beginsOnceMore 4 = .ok (.iload_n 1, 1) := by decide +kernel
theorem dX1_beginsOnceMore_5 : decode cX1_beginsOnceMore 5 = .ok (.dup2, 1) := by decide +kernel
theorem dX1_beginsOnceMore_6 : decode cX1_beginsOnceMore 6 = .ok (.iaload, 1) := by decide +kernel
theorem dX1_beginsOnceMore_7 : decode cX1_beginsOnceMore 7 = .ok (.iconst 1, 1) := by decide +kernel
theorem dX1_beginsOnceMore_8 : decode cX1_beginsOnceMore 8 = .ok (.iadd, 1) := by decide +kernel
theorem dX1_beginsOnceMore_9 : decode cX1_beginsOnceMore 9 = .ok (.iastore, 1) := by decide +kernel
theorem dX1_beginsOnceMore_10 : decode cX1_beginsOnceMore 10 = .ok (.aload_n 0, 1) := by decide +kernel
theorem dX1_beginsOnceMore_11 : decode cX1_beginsOnceMore 11 = .ok (.getfield 18, 3) := by decide +kernel
theorem dX1_beginsOnceMore_14 : decode cX1_beginsOnceMore 14 = .ok (.iload_n 1, 1) := by decide +kernel
theorem dX1_beginsOnceMore_15 : decode cX1_beginsOnceMore 15 = .ok (.iaload, 1) := by decide +kernel
theorem dX1_beginsOnceMore_16 : decode cX1_beginsOnceMore 16 = .ok (.ireturn, 1) := by decide +kernel
theorem dX1_dismiss_0 : decode cX1_dismiss 0 = .ok (.iconst 0, 1) := by decide +kernel
theorem dX1_dismiss_1 : decode cX1_dismiss 1 = .ok (.istore_n 2, 1) := by decide +kernel
theorem dX1_dismiss_2 : decode cX1_dismiss 2 = .ok (.iconst 0, 1) := by decide +kernel
theorem dX1_dismiss_3 : decode cX1_dismiss 3 = .ok (.istore_n 3, 1) := by decide +kernel
theorem dX1_dismiss_4 : decode cX1_dismiss 4 = .ok (.iload_n 3, 1) := by decide +kernel
theorem dX1_dismiss_5 : decode cX1_dismiss 5 = .ok (.aload_n 0, 1) := by decide +kernel
theorem dX1_dismiss_6 : decode cX1_dismiss 6 = .ok (.getfield 31, 3) := by decide +kernel
theorem dX1_dismiss_9 : decode cX1_dismiss 9 = .ok (.if_icmp .ge 34, 3) := by decide +kernel
theorem dX1_dismiss_12 : decode cX1_dismiss 12 = .ok (.aload_n 0, 1) := by decide +kernel
theorem dX1_dismiss_13 : decode cX1_dismiss 13 = .ok (.getfield 9, 3) := by decide +kernel
theorem dX1_dismiss_16 : decode cX1_dismiss 16 = .ok (.iload_n 3, 1) := by decide +kernel
theorem dX1_dismiss_17 : decode cX1_dismiss 17 = .ok (.iaload, 1) := by decide +kernel
theorem dX1_dismiss_18 : decode cX1_dismiss 18 = .ok (.iload_n 1, 1) := by decide +kernel
theorem dX1_dismiss_19 : decode cX1_dismiss 19 = .ok (.if_icmp .eq 18, 3) := by decide +kernel
theorem dX1_dismiss_22 : decode cX1_dismiss 22 = .ok (.aload_n 0, 1) := by decide +kernel
theorem dX1_dismiss_23 : decode cX1_dismiss 23 = .ok (.getfield 9, 3) := by decide +kernel
theorem dX1_dismiss_26 : decode cX1_dismiss 26 = .ok (.iload_n 2, 1) := by decide +kernel
theorem dX1_dismiss_27 : decode cX1_dismiss 27 = .ok (.aload_n 0, 1) := by decide +kernel
theorem dX1_dismiss_28 : decode cX1_dismiss 28 = .ok (.getfield 9, 3) := by decide +kernel
theorem dX1_dismiss_31 : decode cX1_dismiss 31 = .ok (.iload_n 3, 1) := by decide +kernel
theorem dX1_dismiss_32 : decode cX1_dismiss 32 = .ok (.iaload, 1) := by decide +kernel
theorem dX1_dismiss_33 : decode cX1_dismiss 33 = .ok (.iastore, 1) := by decide +kernel
theorem dX1_dismiss_34 : decode cX1_dismiss 34 = .ok (.iinc 2 1, 3) := by decide +kernel
theorem dX1_dismiss_37 : decode cX1_dismiss 37 = .ok (.iinc 3 1, 3) := by decide +kernel
theorem dX1_dismiss_40 : decode cX1_dismiss 40 = .ok (.goto (-36), 3) := by decide +kernel
theorem dX1_dismiss_43 : decode cX1_dismiss 43 = .ok (.aload_n 0, 1) := by decide +kernel
theorem dX1_dismiss_44 : decode cX1_dismiss 44 = .ok (.iload_n 2, 1) := by decide +kernel
theorem dX1_dismiss_45 : decode cX1_dismiss 45 = .ok (.putfield 31, 3) := by decide +kernel
theorem dX1_dismiss_48 : decode cX1_dismiss 48 = .ok (.return_, 1) := by decide +kernel
theorem dX2_init_0 : decode cX2_init 0 = .ok (.aload_n 0, 1) := by decide +kernel
theorem dX2_init_1 : decode cX2_init 1 = .ok (.invokespecial 3, 3) := by decide +kernel
theorem dX2_init_4 : decode cX2_init 4 = .ok (.aload_n 0, 1) := by decide +kernel
theorem dX2_init_5 : decode cX2_init 5 = .ok (.new 9, 3) := by decide +kernel
theorem dX2_init_8 : decode cX2_init 8 = .ok (.dup, 1) := by decide +kernel
theorem dX2_init_9 : decode cX2_init 9 = .ok (.invokespecial 11, 3) := by decide +kernel
theorem dX2_init_12 : decode cX2_init 12 = .ok (.putfield 12, 3) := by decide +kernel
theorem dX2_init_15 : decode cX2_init 15 = .ok (.aload_n 0, 1) := by decide +kernel
theorem dX2_init_16 : decode cX2_init 16 = .ok (.aload_n 1, 1) := by decide +kernel
theorem dX2_init_17 : decode cX2_init 17 = .ok (.putfield 18, 3) := by decide +kernel
theorem dX2_init_20 : decode cX2_init 20 = .ok (.aload_n 0, 1) := by decide +kernel
theorem dX2_init_21 : decode cX2_init 21 = .ok (.new 22, 3) := by decide +kernel
theorem dX2_init_24 : decode cX2_init 24 = .ok (.dup, 1) := by decide +kernel
theorem dX2_init_25 : decode cX2_init 25 = .ok (.aload_n 1, 1) := by decide +kernel
theorem dX2_init_26 : decode cX2_init 26 = .ok (.invokespecial 24, 3) := by decide +kernel
theorem dX2_init_29 : decode cX2_init 29 = .ok (.putfield 27, 3) := by decide +kernel
theorem dX2_init_32 : decode cX2_init 32 = .ok (.return_, 1) := by decide +kernel
theorem dX2_goesThrough_0 : decode cX2_goesThrough 0 = .ok (.aload_n 0, 1) := by decide +kernel
theorem dX2_goesThrough_1 : decode cX2_goesThrough 1 = .ok (.iload_n 1, 1) := by decide +kernel
theorem dX2_goesThrough_2 : decode cX2_goesThrough 2 = .ok (.iload 4, 2) := by decide +kernel
theorem dX2_goesThrough_4 : decode cX2_goesThrough 4 = .ok (.invokevirtual 31, 3) := by decide +kernel
theorem dX2_goesThrough_7 : decode cX2_goesThrough 7 = .ok (.aload_n 0, 1) := by decide +kernel
theorem dX2_goesThrough_8 : decode cX2_goesThrough 8 = .ok (.getfield 12, 3) := by decide +kernel
theorem dX2_goesThrough_11 : decode cX2_goesThrough 11 = .ok (.iload_n 2, 1) := by decide +kernel
theorem dX2_goesThrough_12 : decode cX2_goesThrough 12 = .ok (.iload_n 3, 1) := by decide +kernel
theorem dX2_goesThrough_13 : decode cX2_goesThrough 13 = .ok (.invokevirtual 35, 3) := by decide +kernel
theorem dX2_goesThrough_16 : decode cX2_goesThrough 16 = .ok (.iconst 1, 1) := by decide +kernel
theorem dX2_goesThrough_17 : decode cX2_goesThrough 17 = .ok (.istore 5, 2) := by decide +kernel
theorem dX2_goesThrough_19 : decode cX2_goesThrough 19 = .ok (.iload 5, 2) := by decide +kernel
theorem dX2_goesThrough_21 : decode cX2_goesThrough 21 = .ok (.sipush 30000, 3) := by decide +kernel
theorem dX2_goesThrough_24 : decode cX2_goesThrough 24 = .ok (.if_icmp .gt 66, 3) := by decide +kernel
theorem dX2_goesThrough_27 : decode cX2_goesThrough 27 = .ok (.aload_n 0, 1) := by decide +kernel
theorem dX2_goesThrough_28 : decode cX2_goesThrough 28 = .ok (.getfield 38, 3) := by decide +kernel
theorem dX2_goesThrough_31 : decode cX2_goesThrough 31 = .ok (.aload_n 0, 1) := by decide +kernel
theorem dX2_goesThrough_32 : decode cX2_goesThrough 32 = .ok (.getfield 42, 3) := by decide +kernel
theorem dX2_goesThrough_35 : decode cX2_goesThrough 35 = .ok (.if_icmp .ge 55, 3) := by decide +kernel
theorem dX2_goesThrough_38 : decode cX2_goesThrough 38 = .ok (.aload_n 0, 1) := by decide +kernel
theorem dX2_goesThrough_39 : decode cX2_goesThrough 39 = .ok (.getfield 12, 3) := by decide +kernel
theorem dX2_goesThrough_42 : decode cX2_goesThrough 42 = .ok (.getfield 45, 3) := by decide +kernel
theorem dX2_goesThrough_45 : decode cX2_goesThrough 45 = .ok (.ifCond .le 45, 3) := by decide +kernel
theorem dX2_goesThrough_48 : decode cX2_goesThrough 48 = .ok (.aload_n 0, 1) := by decide +kernel
theorem dX2_goesThrough_49 : decode cX2_goesThrough 49 = .ok (.iload 5, 2) := by decide +kernel
theorem dX2_goesThrough_51 : decode cX2_goesThrough 51 = .ok (.putfield 48, 3) := by decide +kernel
theorem dX2_goesThrough_54 : decode cX2_goesThrough 54 = .ok (.aload_n 0, 1) := by decide +kernel
theorem dX2_goesThrough_55 : decode cX2_goesThrough 55 = .ok (.aload_n 0, 1) := by decide +kernel
theorem dX2_goesThrough_56 : decode cX2_goesThrough 56 = .ok (.getfield 12, 3) := by decide +kernel
theorem dX2_goesThrough_59 : decode cX2_goesThrough 59 = .ok (.invokevirtual 51, 3) := by decide +kernel
theorem dX2_goesThrough_62 : decode cX2_goesThrough 62 = .ok (.invokevirtual 55, 3) := by decide +kernel
theorem dX2_goesThrough_65 : decode cX2_goesThrough 65 = .ok (.aload_n 0, 1) := by decide +kernel
theorem dX2_goesThrough_66 : decode cX2_goesThrough 66 = .ok (.invokevirtual 59, 3) := by decide +kernel
theorem dX2_goesThrough_69 : decode cX2_goesThrough 69 = .ok (.aload_n 0, 1) := by decide +kernel
theorem dX2_goesThrough_70 : decode cX2_goesThrough 70 = .ok (.aload_n 0, 1) := by decide +kernel
theorem dX2_goesThrough_71 : decode cX2_goesThrough 71 = .ok (.getfield 62, 3) := by decide +kernel
theorem dX2_goesThrough_74 : decode cX2_goesThrough 74 = .ok (.aload_n 0, 1) := by decide +kernel
theorem dX2_goesThrough_75 : decode cX2_goesThrough 75 = .ok (.getfield 65, 3) := by decide +kernel
theorem dX2_goesThrough_78 : decode cX2_goesThrough 78 = .ok (.invokestatic 68, 3) := by decide +kernel
theorem dX2_goesThrough_81 : decode cX2_goesThrough 81 = .ok (.putfield 62, 3) := by decide +kernel
theorem dX2_goesThrough_84 : decode cX2_goesThrough 84 = .ok (.iinc 5 1, 3) := by decide +kernel
theorem dX2_goesThrough_87 : decode cX2_goesThrough 87 = .ok (.goto (-68), 3) := by decide +kernel
theorem dX2_goesThrough_90 : decode cX2_goesThrough 90 = .ok (.aload_n 0, 1) := by decide +kernel
theorem dX2_goesThrough_91 : decode cX2_goesThrough 91 = .ok (.getfield 38, 3) := by decide +kernel
theorem dX2_goesThrough_94 : decode cX2_goesThrough 94 = .ok (.aload_n 0, 1) := by decide +kernel
theorem dX2_goesThrough_95 : decode cX2_goesThrough 95 = .ok (.getfield 42, 3) := by decide +kernel
theorem dX2_goesThrough_98 : decode cX2_goesThrough 98 = .ok (.if_icmp .ne 7, 3) := by decide +kernel
theorem dX2_goesThrough_101 : decode cX2_goesThrough 101 = .ok (.iconst 1, 1) := by decide +kernel
theorem dX2_goesThrough_102 : decode cX2_goesThrough 102 = .ok (.goto 4, 3) := by decide +kernel
theorem dX2_goesThrough_105 : decode cX2_goesThrough 105 = .ok (.iconst 0, 1) := by decide +kernel
theorem dX2_goesThrough_106 : decode cX2_goesThrough 106 = .ok (.ireturn, 1) := by decide +kernel
theorem dX2_prepare_0 : decode cX2_prepare 0 = .ok (.aload_n 0, 1) := by decide +kernel
theorem dX2_prepare_1 : decode cX2_prepare 1 = .ok (.iload_n 1, 1) := by decide +kernel
theorem dX2_prepare_2 : decode cX2_prepare 2 = .ok (.putfield 42, 3) := by decide +kernel
theorem dX2_prepare_5 : decode cX2_prepare 5 = .ok (.aload_n 0, 1) := by decide +kernel
theorem dX2_prepare_6 : decode cX2_prepare 6 = .ok (.iload_n 2, 1) := by decide +kernel
theorem dX2_prepare_7 : decode cX2_prepare 7 = .ok (.putfield 74, 3) := by decide +kernel
theorem dX2_prepare_10 : decode cX2_prepare 10 = .ok (.aload_n 0, 1) := by decide +kernel
theorem dX2_prepare_11 : decode cX2_prepare 11 = .ok (.iconst 0, 1) := by decide +kernel
theorem dX2_prepare_12 : decode cX2_prepare 12 = .ok (.putfield 48, 3) := by decide +kernel
theorem dX2_prepare_15 : decode cX2_prepare 15 = .ok (.aload_n 0, 1) := by decide +kernel
theorem dX2_prepare_16 : decode cX2_prepare 16 = .ok (.iconst 0, 1) := by decide +kernel
theorem dX2_prepare_17 : decode cX2_prepare 17 = .ok (.putfield 38, 3) := by decide +kernel
theorem dX2_prepare_20 : decode cX2_prepare 20 = .ok (.aload_n 0, 1) := by decide +kernel
theorem dX2_prepare_21 : decode cX2_prepare 21 = .ok (.iconst 0, 1) := by decide +kernel
theorem dX2_prepare_22 : decode cX2_prepare 22 = .ok (.putfield 77, 3) := by decide +kernel
theorem dX2_prepare_25 : decode cX2_prepare 25 = .ok (.aload_n 0, 1) := by decide +kernel
theorem dX2_prepare_26 : decode cX2_prepare 26 = .ok (.iconst 0, 1) := by decide +kernel
theorem dX2_prepare_27 : decode cX2_prepare 27 = .ok (.putfield 80, 3) := by decide +kernel
theorem dX2_prepare_30 : decode cX2_prepare 30 = .ok (.aload_n 0, 1) := by decide +kernel
theorem dX2_prepare_31 : decode cX2_prepare 31 = .ok (.iconst 0, 1) := by decide +kernel
theorem dX2_prepare_32 : decode cX2_prepare 32 = .ok (.putfield 83, 3) := by decide +kernel
theorem dX2_prepare_35 : decode cX2_prepare 35 = .ok (.aload_n 0, 1) := by decide +kernel
theorem dX2_prepare_36 : decode cX2_prepare 36 = .ok (.iconst 0, 1) := by decide +kernel
theorem dX2_prepare_37 : decode cX2_prepare 37 = .ok (.putfield 65, 3) := by decide +kernel
theorem dX2_prepare_40 : decode cX2_prepare 40 = .ok (.aload_n 0, 1) := by decide +kernel
theorem dX2_prepare_41 : decode cX2_prepare 41 = .ok (.iconst 0, 1) := by decide +kernel
theorem dX2_prepare_42 : decode cX2_prepare 42 = .ok (.putfield 62, 3) := by decide +kernel
theorem dX2_prepare_45 : decode cX2_prepare 45 = .ok (.aload_n 0, 1) := by decide +kernel
theorem dX2_prepare_46 : decode cX2_prepare 46 = .ok (.iconst 0, 1) := by decide +kernel
theorem dX2_prepare_47 : decode cX2_prepare 47 = .ok (.putfield 86, 3) := by decide +kernel
theorem dX2_prepare_50 : decode cX2_prepare 50 = .ok (.aload_n 0, 1) := by decide +kernel
theorem dX2_prepare_51 : decode cX2_prepare 51 = .ok (.getfield 27, 3) := by decide +kernel
theorem dX2_prepare_54 : decode cX2_prepare 54 = .ok (.invokevirtual 89, 3) := by decide +kernel
theorem dX2_prepare_57 : decode cX2_prepare 57 = .ok (.return_, 1) := by decide +kernel
theorem dX2_takeTurn_0 : decode cX2_takeTurn 0 = .ok (.iload_n 1, 1) := by decide +kernel
theorem dX2_takeTurn_1 : decode cX2_takeTurn 1 = .ok (.iconst 0, 1) := by decide +kernel
theorem dX2_takeTurn_2 : decode cX2_takeTurn 2 = .ok (.bipush 15, 2) := by decide +kernel
theorem dX2_takeTurn_4 : decode cX2_takeTurn 4 = .ok (.invokestatic 92, 3) := by decide +kernel
theorem dX2_takeTurn_7 : decode cX2_takeTurn 7 = .ok (.ifCond .ne 4, 3) := by decide +kernel
theorem dX2_takeTurn_10 : decode cX2_takeTurn 10 = .ok (.return_, 1) := by decide +kernel
theorem dX2_takeTurn_11 : decode cX2_takeTurn 11 = .ok (.aload_n 0, 1) := by decide +kernel
theorem dX2_takeTurn_12 : decode cX2_takeTurn 12 = .ok (.getfield 12, 3) := by decide +kernel
theorem dX2_takeTurn_15 : decode cX2_takeTurn 15 = .ok (.getfield 96, 3) := by decide +kernel
theorem dX2_takeTurn_18 : decode cX2_takeTurn 18 = .ok (.iload_n 1, 1) := by decide +kernel
theorem dX2_takeTurn_19 : decode cX2_takeTurn 19 = .ok (.iaload, 1) := by decide +kernel
theorem dX2_takeTurn_20 : decode cX2_takeTurn 20 = .ok (.istore_n 2, 1) := by decide +kernel
theorem dX2_takeTurn_21 : decode cX2_takeTurn 21 = .ok (.iload_n 2, 1) := by decide +kernel
theorem dX2_takeTurn_22 : decode cX2_takeTurn 22 = .ok (.iconst (-1), 1) := by decide +kernel
theorem dX2_takeTurn_23 : decode cX2_takeTurn 23 = .ok (.if_icmp .ne 11, 3) := by decide +kernel
theorem dX2_takeTurn_26 : decode cX2_takeTurn 26 = .ok (.aload_n 0, 1) := by decide +kernel
theorem dX2_takeTurn_27 : decode cX2_takeTurn 27 = .ok (.iload_n 1, 1) := by decide +kernel
theorem dX2_takeTurn_28 : decode cX2_takeTurn 28 = .ok (.invokevirtual 100, 3) := by decide +kernel
theorem dX2_takeTurn_31 : decode cX2_takeTurn 31 = .ok (.goto 45, 3) := by decide +kernel
theorem dX2_takeTurn_34 : decode cX2_takeTurn 34 = .ok (.iload_n 2, 1) := by decide +kernel
theorem dX2_takeTurn_35 : decode cX2_takeTurn 35 = .ok (.iconst 0, 1) := by decide +kernel
theorem dX2_takeTurn_36 : decode cX2_takeTurn 36 = .ok (.bipush 39, 2) := by decide +kernel
theorem dX2_takeTurn_38 : decode cX2_takeTurn 38 = .ok (.invokestatic 92, 3) := by decide +kernel
theorem dX2_takeTurn_41 : decode cX2_takeTurn 41 = .ok (.ifCond .eq 35, 3) := by decide +kernel
theorem dX2_takeTurn_44 : decode cX2_takeTurn 44 = .ok (.aload_n 0, 1) := by decide +kernel
theorem dX2_takeTurn_45 : decode cX2_takeTurn 45 = .ok (.getfield 27, 3) := by decide +kernel
theorem dX2_takeTurn_48 : decode cX2_takeTurn 48 = .ok (.iload_n 2, 1) := by decide +kernel
theorem dX2_takeTurn_49 : decode cX2_takeTurn 49 = .ok (.iload_n 1, 1) := by decide +kernel
theorem dX2_takeTurn_50 : decode cX2_takeTurn 50 = .ok (.invokevirtual 103, 3) := by decide +kernel
theorem dX2_takeTurn_53 : decode cX2_takeTurn 53 = .ok (.ifCond .eq 23, 3) := by decide +kernel
theorem dX2_takeTurn_56 : decode cX2_takeTurn 56 = .ok (.aload_n 0, 1) := by decide +kernel
theorem dX2_takeTurn_57 : decode cX2_takeTurn 57 = .ok (.getfield 12, 3) := by decide +kernel
theorem dX2_takeTurn_60 : decode cX2_takeTurn 60 = .ok (.getfield 96, 3) := by decide +kernel
theorem dX2_takeTurn_63 : decode cX2_takeTurn 63 = .ok (.iload_n 1, 1) := by decide +kernel
theorem dX2_takeTurn_64 : decode cX2_takeTurn 64 = .ok (.iconst (-1), 1) := by decide +kernel
theorem dX2_takeTurn_65 : decode cX2_takeTurn 65 = .ok (.iastore, 1) := by decide +kernel
theorem dX2_takeTurn_66 : decode cX2_takeTurn 66 = .ok (.aload_n 0, 1) := by decide +kernel
theorem dX2_takeTurn_67 : decode cX2_takeTurn 67 = .ok (.dup, 1) := by decide +kernel
theorem dX2_takeTurn_68 : decode cX2_takeTurn 68 = .ok (.getfield 65, 3) := by decide +kernel
theorem dX2_takeTurn_71 : decode cX2_takeTurn 71 = .ok (.iconst 1, 1) := by decide +kernel
theorem dX2_takeTurn_72 : decode cX2_takeTurn 72 = .ok (.isub, 1) := by decide +kernel
theorem dX2_takeTurn_73 : decode cX2_takeTurn 73 = .ok (.putfield 65, 3) := by decide +kernel
theorem dX2_takeTurn_76 : decode cX2_takeTurn 76 = .ok (.return_, 1) := by decide +kernel
theorem dX2_takeCall_0 : decode cX2_takeCall 0 = .ok (.aload_n 0, 1) := by decide +kernel
theorem dX2_takeCall_1 : decode cX2_takeCall 1 = .ok (.getfield 27, 3) := by decide +kernel
theorem dX2_takeCall_4 : decode cX2_takeCall 4 = .ok (.aload_n 0, 1) := by decide +kernel
theorem dX2_takeCall_5 : decode cX2_takeCall 5 = .ok (.getfield 38, 3) := by decide +kernel
theorem dX2_takeCall_8 : decode cX2_takeCall 8 = .ok (.aload_n 0, 1) := by decide +kernel
theorem dX2_takeCall_9 : decode cX2_takeCall 9 = .ok (.getfield 42, 3) := by decide +kernel
theorem dX2_takeCall_12 : decode cX2_takeCall 12 = .ok (.aload_n 0, 1) := by decide +kernel
theorem dX2_takeCall_13 : decode cX2_takeCall 13 = .ok (.getfield 38, 3) := by decide +kernel
theorem dX2_takeCall_16 : decode cX2_takeCall 16 = .ok (.aload_n 0, 1) := by decide +kernel
theorem dX2_takeCall_17 : decode cX2_takeCall 17 = .ok (.getfield 74, 3) := by decide +kernel
theorem dX2_takeCall_20 : decode cX2_takeCall 20 = .ok (.iadd, 1) := by decide +kernel
theorem dX2_takeCall_21 : decode cX2_takeCall 21 = .ok (.invokestatic 107, 3) := by decide +kernel
theorem dX2_takeCall_24 : decode cX2_takeCall 24 = .ok (.invokevirtual 110, 3) := by decide +kernel
theorem dX2_takeCall_27 : decode cX2_takeCall 27 = .ok (.istore_n 2, 1) := by decide +kernel
theorem dX2_takeCall_28 : decode cX2_takeCall 28 = .ok (.iload_n 2, 1) := by decide +kernel
theorem dX2_takeCall_29 : decode cX2_takeCall 29 = .ok (.iconst (-1), 1) := by decide +kernel
theorem dX2_takeCall_30 : decode cX2_takeCall 30 = .ok (.if_icmp .ne 14, 3) := by decide +kernel
theorem dX2_takeCall_33 : decode cX2_takeCall 33 = .ok (.aload_n 0, 1) := by decide +kernel
theorem dX2_takeCall_34 : decode cX2_takeCall 34 = .ok (.dup, 1) := by decide +kernel
theorem dX2_takeCall_35 : decode cX2_takeCall 35 = .ok (.getfield 86, 3) := by decide +kernel
theorem dX2_takeCall_38 : decode cX2_takeCall 38 = .ok (.iconst 1, 1) := by decide +kernel
theorem dX2_takeCall_39 : decode cX2_takeCall 39 = .ok (.iadd, 1) := by decide +kernel
theorem dX2_takeCall_40 : decode cX2_takeCall 40 = .ok (.putfield 86, 3) := by decide +kernel
theorem dX2_takeCall_43 : decode cX2_takeCall 43 = .ok (.return_, 1) := by decide +kernel
theorem dX2_takeCall_44 : decode cX2_takeCall 44 = .ok (.aload_n 0, 1) := by decide +kernel
theorem dX2_takeCall_45 : decode cX2_takeCall 45 = .ok (.dup, 1) := by decide +kernel
theorem dX2_takeCall_46 : decode cX2_takeCall 46 = .ok (.getfield 77, 3) := by decide +kernel
theorem dX2_takeCall_49 : decode cX2_takeCall 49 = .ok (.iconst 1, 1) := by decide +kernel
theorem dX2_takeCall_50 : decode cX2_takeCall 50 = .ok (.iadd, 1) := by decide +kernel
theorem dX2_takeCall_51 : decode cX2_takeCall 51 = .ok (.putfield 77, 3) := by decide +kernel
theorem dX2_takeCall_54 : decode cX2_takeCall 54 = .ok (.aload_n 0, 1) := by decide +kernel
theorem dX2_takeCall_55 : decode cX2_takeCall 55 = .ok (.getfield 27, 3) := by decide +kernel
theorem dX2_takeCall_58 : decode cX2_takeCall 58 = .ok (.iload_n 2, 1) := by decide +kernel
theorem dX2_takeCall_59 : decode cX2_takeCall 59 = .ok (.aload_n 0, 1) := by decide +kernel
theorem dX2_takeCall_60 : decode cX2_takeCall 60 = .ok (.getfield 48, 3) := by decide +kernel
theorem dX2_takeCall_63 : decode cX2_takeCall 63 = .ok (.invokevirtual 113, 3) := by decide +kernel
theorem dX2_takeCall_66 : decode cX2_takeCall 66 = .ok (.aload_n 0, 1) := by decide +kernel
theorem dX2_takeCall_67 : decode cX2_takeCall 67 = .ok (.getfield 12, 3) := by decide +kernel
theorem dX2_takeCall_70 : decode cX2_takeCall 70 = .ok (.iload_n 1, 1) := by decide +kernel
theorem dX2_takeCall_71 : decode cX2_takeCall 71 = .ok (.invokevirtual 116, 3) := by decide +kernel
theorem dX2_takeCall_74 : decode cX2_takeCall 74 = .ok (.aload_n 0, 1) := by decide +kernel
theorem dX2_takeCall_75 : decode cX2_takeCall 75 = .ok (.getfield 18, 3) := by decide +kernel
theorem dX2_takeCall_78 : decode cX2_takeCall 78 = .ok (.getfield 120, 3) := by decide +kernel
theorem dX2_takeCall_81 : decode cX2_takeCall 81 = .ok (.iload_n 1, 1) := by decide +kernel
theorem dX2_takeCall_82 : decode cX2_takeCall 82 = .ok (.iaload, 1) := by decide +kernel
theorem dX2_takeCall_83 : decode cX2_takeCall 83 = .ok (.if_icmp .ne 22, 3) := by decide +kernel
theorem dX2_takeCall_86 : decode cX2_takeCall 86 = .ok (.aload_n 0, 1) := by decide +kernel
theorem dX2_takeCall_87 : decode cX2_takeCall 87 = .ok (.getfield 12, 3) := by decide +kernel
theorem dX2_takeCall_90 : decode cX2_takeCall 90 = .ok (.iload_n 1, 1) := by decide +kernel
theorem dX2_takeCall_91 : decode cX2_takeCall 91 = .ok (.invokevirtual 125, 3) := by decide +kernel
theorem dX2_takeCall_94 : decode cX2_takeCall 94 = .ok (.aload_n 0, 1) := by decide +kernel
theorem dX2_takeCall_95 : decode cX2_takeCall 95 = .ok (.dup, 1) := by decide +kernel
theorem dX2_takeCall_96 : decode cX2_takeCall 96 = .ok (.getfield 83, 3) := by decide +kernel
theorem dX2_takeCall_99 : decode cX2_takeCall 99 = .ok (.iconst 1, 1) := by decide +kernel
theorem dX2_takeCall_100 : decode cX2_takeCall 100 = .ok (.iadd, 1) := by decide +kernel
theorem dX2_takeCall_101 : decode cX2_takeCall 101 = .ok (.putfield 83, 3) := by decide +kernel
theorem dX2_takeCall_104 : decode cX2_takeCall 104 = .ok (.return_, 1) := by decide +kernel
theorem dX2_takeCall_105 : decode cX2_takeCall 105 = .ok (.aload_n 0, 1) := by decide +kernel
theorem dX2_takeCall_106 : decode cX2_takeCall 106 = .ok (.getfield 12, 3) := by decide +kernel
theorem dX2_takeCall_109 : decode cX2_takeCall 109 = .ok (.getfield 96, 3) := by decide +kernel
theorem dX2_takeCall_112 : decode cX2_takeCall 112 = .ok (.iload_n 1, 1) := by decide +kernel
theorem dX2_takeCall_113 : decode cX2_takeCall 113 = .ok (.iload_n 2, 1) := by decide +kernel
theorem dX2_takeCall_114 : decode cX2_takeCall 114 = .ok (.iastore, 1) := by decide +kernel
theorem dX2_takeCall_115 : decode cX2_takeCall 115 = .ok (.aload_n 0, 1) := by decide +kernel
theorem dX2_takeCall_116 : decode cX2_takeCall 116 = .ok (.getfield 27, 3) := by decide +kernel
theorem dX2_takeCall_119 : decode cX2_takeCall 119 = .ok (.iload_n 2, 1) := by decide +kernel
theorem dX2_takeCall_120 : decode cX2_takeCall 120 = .ok (.invokevirtual 128, 3) := by decide +kernel
theorem dX2_takeCall_123 : decode cX2_takeCall 123 = .ok (.aload_n 0, 1) := by decide +kernel
theorem dX2_takeCall_124 : decode cX2_takeCall 124 = .ok (.dup, 1) := by decide +kernel
theorem dX2_takeCall_125 : decode cX2_takeCall 125 = .ok (.getfield 65, 3) := by decide +kernel
theorem dX2_takeCall_128 : decode cX2_takeCall 128 = .ok (.iconst 1, 1) := by decide +kernel
theorem dX2_takeCall_129 : decode cX2_takeCall 129 = .ok (.iadd, 1) := by decide +kernel
theorem dX2_takeCall_130 : decode cX2_takeCall 130 = .ok (.putfield 65, 3) := by decide +kernel
theorem dX2_takeCall_133 : decode cX2_takeCall 133 = .ok (.return_, 1) := by decide +kernel
theorem dX2_keepWhatStands_0 : decode cX2_keepWhatStands 0 = .ok (.aload_n 0, 1) := by decide +kernel
theorem dX2_keepWhatStands_1 : decode cX2_keepWhatStands 1 = .ok (.getfield 38, 3) := by decide +kernel
theorem dX2_keepWhatStands_4 : decode cX2_keepWhatStands 4 = .ok (.aload_n 0, 1) := by decide +kernel
theorem dX2_keepWhatStands_5 : decode cX2_keepWhatStands 5 = .ok (.getfield 42, 3) := by decide +kernel
theorem dX2_keepWhatStands_8 : decode cX2_keepWhatStands 8 = .ok (.if_icmp .ge 59, 3) := by decide +kernel
theorem dX2_keepWhatStands_11 : decode cX2_keepWhatStands 11 = .ok (.aload_n 0, 1) := by decide +kernel
theorem dX2_keepWhatStands_12 : decode cX2_keepWhatStands 12 = .ok (.getfield 27, 3) := by decide +kernel
theorem dX2_keepWhatStands_15 : decode cX2_keepWhatStands 15 = .ok (.aload_n 0, 1) := by decide +kernel
theorem dX2_keepWhatStands_16 : decode cX2_keepWhatStands 16 = .ok (.getfield 38, 3) := by decide +kernel
theorem dX2_keepWhatStands_19 : decode cX2_keepWhatStands 19 = .ok (.invokevirtual 131, 3) := by decide +kernel
theorem dX2_keepWhatStands_22 : decode cX2_keepWhatStands 22 = .ok (.ifCond .eq 45, 3) := by decide +kernel
theorem dX2_keepWhatStands_25 : decode cX2_keepWhatStands 25 = .ok (.aload_n 0, 1) := by decide +kernel
theorem dX2_keepWhatStands_26 : decode cX2_keepWhatStands 26 = .ok (.getfield 27, 3) := by decide +kernel
theorem dX2_keepWhatStands_29 : decode cX2_keepWhatStands 29 = .ok (.aload_n 0, 1) := by decide +kernel
theorem dX2_keepWhatStands_30 : decode cX2_keepWhatStands 30 = .ok (.getfield 38, 3) := by decide +kernel
theorem dX2_keepWhatStands_33 : decode cX2_keepWhatStands 33 = .ok (.aload_n 0, 1) := by decide +kernel
theorem dX2_keepWhatStands_34 : decode cX2_keepWhatStands 34 = .ok (.getfield 48, 3) := by decide +kernel
theorem dX2_keepWhatStands_37 : decode cX2_keepWhatStands 37 = .ok (.invokevirtual 135, 3) := by decide +kernel
theorem dX2_keepWhatStands_40 : decode cX2_keepWhatStands 40 = .ok (.ifCond .ne 14, 3) := by decide +kernel
theorem dX2_keepWhatStands_43 : decode cX2_keepWhatStands 43 = .ok (.aload_n 0, 1) := by decide +kernel
theorem dX2_keepWhatStands_44 : decode cX2_keepWhatStands 44 = .ok (.dup, 1) := by decide +kernel
theorem dX2_keepWhatStands_45 : decode cX2_keepWhatStands 45 = .ok (.getfield 80, 3) := by decide +kernel
theorem dX2_keepWhatStands_48 : decode cX2_keepWhatStands 48 = .ok (.iconst 1, 1) := by decide +kernel
theorem dX2_keepWhatStands_49 : decode cX2_keepWhatStands 49 = .ok (.iadd, 1) := by decide +kernel
theorem dX2_keepWhatStands_50 : decode cX2_keepWhatStands 50 = .ok (.putfield 80, 3) := by decide +kernel
theorem dX2_keepWhatStands_53 : decode cX2_keepWhatStands 53 = .ok (.return_, 1) := by decide +kernel
theorem dX2_keepWhatStands_54 : decode cX2_keepWhatStands 54 = .ok (.aload_n 0, 1) := by decide +kernel
theorem dX2_keepWhatStands_55 : decode cX2_keepWhatStands 55 = .ok (.dup, 1) := by decide +kernel
theorem dX2_keepWhatStands_56 : decode cX2_keepWhatStands 56 = .ok (.getfield 38, 3) := by decide +kernel
theorem dX2_keepWhatStands_59 : decode cX2_keepWhatStands 59 = .ok (.iconst 1, 1) := by decide +kernel
theorem dX2_keepWhatStands_60 : decode cX2_keepWhatStands 60 = .ok (.iadd, 1) := by decide +kernel
theorem dX2_keepWhatStands_61 : decode cX2_keepWhatStands 61 = .ok (.putfield 38, 3) := by decide +kernel
theorem dX2_keepWhatStands_64 : decode cX2_keepWhatStands 64 = .ok (.goto (-64), 3) := by decide +kernel
theorem dX2_keepWhatStands_67 : decode cX2_keepWhatStands 67 = .ok (.return_, 1) := by decide +kernel
theorem dX2_leavesLike_0 : decode cX2_leavesLike 0 = .ok (.aload_n 0, 1) := by decide +kernel
theorem dX2_leavesLike_1 : decode cX2_leavesLike 1 = .ok (.getfield 42, 3) := by decide +kernel
theorem dX2_leavesLike_4 : decode cX2_leavesLike 4 = .ok (.aload_n 1, 1) := by decide +kernel
theorem dX2_leavesLike_5 : decode cX2_leavesLike 5 = .ok (.getfield 42, 3) := by decide +kernel
theorem dX2_leavesLike_8 : decode cX2_leavesLike 8 = .ok (.if_icmp .eq 5, 3) := by decide +kernel
theorem dX2_leavesLike_11 : decode cX2_leavesLike 11 = .ok (.iconst 0, 1) := by decide +kernel
theorem dX2_leavesLike_12 : decode cX2_leavesLike 12 = .ok (.ireturn, 1) := by decide +kernel
theorem dX2_leavesLike_13 : decode cX2_leavesLike 13 = .ok (.iconst 0, 1) := by decide +kernel
theorem dX2_leavesLike_14 : decode cX2_leavesLike 14 = .ok (.istore_n 2, 1) := by decide +kernel
theorem dX2_leavesLike_15 : decode cX2_leavesLike 15 = .ok (.iload_n 2, 1) := by decide +kernel
theorem dX2_leavesLike_16 : decode cX2_leavesLike 16 = .ok (.bipush 7, 2) := by decide +kernel
theorem dX2_leavesLike_18 : decode cX2_leavesLike 18 = .ok (.if_icmp .gt 39, 3) := by decide +kernel
theorem dX2_leavesLike_21 : decode cX2_leavesLike 21 = .ok (.aload_n 0, 1) := by decide +kernel
theorem dX2_leavesLike_22 : decode cX2_leavesLike 22 = .ok (.getfield 27, 3) := by decide +kernel
theorem dX2_leavesLike_25 : decode cX2_leavesLike 25 = .ok (.aload_n 0, 1) := by decide +kernel
theorem dX2_leavesLike_26 : decode cX2_leavesLike 26 = .ok (.getfield 42, 3) := by decide +kernel
theorem dX2_leavesLike_29 : decode cX2_leavesLike 29 = .ok (.iload_n 2, 1) := by decide +kernel
theorem dX2_leavesLike_30 : decode cX2_leavesLike 30 = .ok (.invokevirtual 138, 3) := by decide +kernel
theorem dX2_leavesLike_33 : decode cX2_leavesLike 33 = .ok (.aload_n 1, 1) := by decide +kernel
theorem dX2_leavesLike_34 : decode cX2_leavesLike 34 = .ok (.getfield 27, 3) := by decide +kernel
theorem dX2_leavesLike_37 : decode cX2_leavesLike 37 = .ok (.aload_n 0, 1) := by decide +kernel
theorem dX2_leavesLike_38 : decode cX2_leavesLike 38 = .ok (.getfield 42, 3) := by decide +kernel
theorem dX2_leavesLike_41 : decode cX2_leavesLike 41 = .ok (.iload_n 2, 1) := by decide +kernel
theorem dX2_leavesLike_42 : decode cX2_leavesLike 42 = .ok (.invokevirtual 138, 3) := by decide +kernel
theorem dX2_leavesLike_45 : decode cX2_leavesLike 45 = .ok (.lcmp, 1) := by decide +kernel
theorem dX2_leavesLike_46 : decode cX2_leavesLike 46 = .ok (.ifCond .eq 5, 3) := by decide +kernel
theorem dX2_leavesLike_49 : decode cX2_leavesLike 49 = .ok (.iconst 0, 1) := by decide +kernel
theorem dX2_leavesLike_50 : decode cX2_leavesLike 50 = .ok (.ireturn, 1) := by decide +kernel
theorem dX2_leavesLike_51 : decode cX2_leavesLike 51 = .ok (.iinc 2 1, 3) := by decide +kernel
theorem dX2_leavesLike_54 : decode cX2_leavesLike 54 = .ok (.goto (-39), 3) := by decide +kernel
theorem dX2_leavesLike_57 : decode cX2_leavesLike 57 = .ok (.iconst 0, 1) := by decide +kernel
theorem dX2_leavesLike_58 : decode cX2_leavesLike 58 = .ok (.istore_n 2, 1) := by decide +kernel
theorem dX2_leavesLike_59 : decode cX2_leavesLike 59 = .ok (.iload_n 2, 1) := by decide +kernel
theorem dX2_leavesLike_60 : decode cX2_leavesLike 60 = .ok (.aload_n 0, 1) := by decide +kernel
theorem dX2_leavesLike_61 : decode cX2_leavesLike 61 = .ok (.getfield 42, 3) := by decide +kernel
theorem dX2_leavesLike_64 : decode cX2_leavesLike 64 = .ok (.if_icmp .ge 38, 3) := by decide +kernel
theorem dX2_leavesLike_67 : decode cX2_leavesLike 67 = .ok (.iload_n 2, 1) := by decide +kernel
theorem dX2_leavesLike_68 : decode cX2_leavesLike 68 = .ok (.bipush 40, 2) := by decide +kernel
theorem dX2_leavesLike_70 : decode cX2_leavesLike 70 = .ok (.if_icmp .ge 32, 3) := by decide +kernel
theorem dX2_leavesLike_73 : decode cX2_leavesLike 73 = .ok (.aload_n 0, 1) := by decide +kernel
theorem dX2_leavesLike_74 : decode cX2_leavesLike 74 = .ok (.getfield 27, 3) := by decide +kernel
theorem dX2_leavesLike_77 : decode cX2_leavesLike 77 = .ok (.getfield 142, 3) := by decide +kernel
theorem dX2_leavesLike_80 : decode cX2_leavesLike 80 = .ok (.iload_n 2, 1) := by decide +kernel
theorem dX2_leavesLike_81 : decode cX2_leavesLike 81 = .ok (.iaload, 1) := by decide +kernel
theorem dX2_leavesLike_82 : decode cX2_leavesLike 82 = .ok (.aload_n 1, 1) := by decide +kernel
theorem dX2_leavesLike_83 : decode cX2_leavesLike 83 = .ok (.getfield 27, 3) := by decide +kernel
theorem dX2_leavesLike_86 : decode cX2_leavesLike 86 = .ok (.getfield 142, 3) := by decide +kernel
theorem dX2_leavesLike_89 : decode cX2_leavesLike 89 = .ok (.iload_n 2, 1) := by decide +kernel
theorem dX2_leavesLike_90 : decode cX2_leavesLike 90 = .ok (.iaload, 1) := by decide +kernel
theorem dX2_leavesLike_91 : decode cX2_leavesLike 91 = .ok (.if_icmp .eq 5, 3) := by decide +kernel
theorem dX2_leavesLike_94 : decode cX2_leavesLike 94 = .ok (.iconst 0, 1) := by decide +kernel
theorem dX2_leavesLike_95 : decode cX2_leavesLike 95 = .ok (.ireturn, 1) := by decide +kernel
theorem dX2_leavesLike_96 : decode cX2_leavesLike 96 = .ok (.iinc 2 1, 3) := by decide +kernel
theorem dX2_leavesLike_99 : decode cX2_leavesLike 99 = .ok (.goto (-40), 3) := by decide +kernel
theorem dX2_leavesLike_102 : decode cX2_leavesLike 102 = .ok (.iconst 1, 1) := by decide +kernel
theorem dX2_leavesLike_103 : decode cX2_leavesLike 103 = .ok (.ireturn, 1) := by decide +kernel
theorem dX2_total_0 : decode cX2_total 0 = .ok (.iload_n 1, 1) := by decide +kernel
theorem dX2_total_1 : decode cX2_total 1 = .ok (.tableswitch 78 0 6 #[43, 48, 53, 58, 63, 68, 73], 43) := by decide +kernel
theorem dX2_total_44 : decode cX2_total 44 = .ok (.aload_n 0, 1) := by decide +kernel
theorem dX2_total_45 : decode cX2_total 45 = .ok (.getfield 42, 3) := by decide +kernel
theorem dX2_total_48 : decode cX2_total 48 = .ok (.ireturn, 1) := by decide +kernel
theorem dX2_total_49 : decode cX2_total 49 = .ok (.aload_n 0, 1) := by decide +kernel
theorem dX2_total_50 : decode cX2_total 50 = .ok (.getfield 48, 3) := by decide +kernel
theorem dX2_total_53 : decode cX2_total 53 = .ok (.ireturn, 1) := by decide +kernel
theorem dX2_total_54 : decode cX2_total 54 = .ok (.aload_n 0, 1) := by decide +kernel
theorem dX2_total_55 : decode cX2_total 55 = .ok (.getfield 77, 3) := by decide +kernel
theorem dX2_total_58 : decode cX2_total 58 = .ok (.ireturn, 1) := by decide +kernel
theorem dX2_total_59 : decode cX2_total 59 = .ok (.aload_n 0, 1) := by decide +kernel
theorem dX2_total_60 : decode cX2_total 60 = .ok (.getfield 80, 3) := by decide +kernel
theorem dX2_total_63 : decode cX2_total 63 = .ok (.ireturn, 1) := by decide +kernel
theorem dX2_total_64 : decode cX2_total 64 = .ok (.aload_n 0, 1) := by decide +kernel
theorem dX2_total_65 : decode cX2_total 65 = .ok (.getfield 83, 3) := by decide +kernel
theorem dX2_total_68 : decode cX2_total 68 = .ok (.ireturn, 1) := by decide +kernel
theorem dX2_total_69 : decode cX2_total 69 = .ok (.aload_n 0, 1) := by decide +kernel
theorem dX2_total_70 : decode cX2_total 70 = .ok (.getfield 62, 3) := by decide +kernel
theorem dX2_total_73 : decode cX2_total 73 = .ok (.ireturn, 1) := by decide +kernel
theorem dX2_total_74 : decode cX2_total 74 = .ok (.aload_n 0, 1) := by decide +kernel
theorem dX2_total_75 : decode cX2_total 75 = .ok (.getfield 86, 3) := by decide +kernel
theorem dX2_total_78 : decode cX2_total 78 = .ok (.ireturn, 1) := by decide +kernel
theorem dX2_total_79 : decode cX2_total 79 = .ok (.aload_n 0, 1) := by decide +kernel
theorem dX2_total_80 : decode cX2_total 80 = .ok (.getfield 27, 3) := by decide +kernel
theorem dX2_total_83 : decode cX2_total 83 = .ok (.aload_n 0, 1) := by decide +kernel
theorem dX2_total_84 : decode cX2_total 84 = .ok (.getfield 42, 3) := by decide +kernel
theorem dX2_total_87 : decode cX2_total 87 = .ok (.invokevirtual 145, 3) := by decide +kernel
theorem dX2_total_90 : decode cX2_total 90 = .ok (.ireturn, 1) := by decide +kernel
theorem dX3_init_0 : decode cX3_init 0 = .ok (.aload_n 0, 1) := by decide +kernel
theorem dX3_init_1 : decode cX3_init 1 = .ok (.invokespecial 3, 3) := by decide +kernel
theorem dX3_init_4 : decode cX3_init 4 = .ok (.aload_n 0, 1) := by decide +kernel
theorem dX3_init_5 : decode cX3_init 5 = .ok (.bipush 40, 2) := by decide +kernel
theorem dX3_init_7 : decode cX3_init 7 = .ok (.newarray .int, 2) := by decide +kernel
theorem dX3_init_9 : decode cX3_init 9 = .ok (.putfield 9, 3) := by decide +kernel
theorem dX3_init_12 : decode cX3_init 12 = .ok (.aload_n 0, 1) := by decide +kernel
theorem dX3_init_13 : decode cX3_init 13 = .ok (.bipush 40, 2) := by decide +kernel
theorem dX3_init_15 : decode cX3_init 15 = .ok (.newarray .int, 2) := by decide +kernel
theorem dX3_init_17 : decode cX3_init 17 = .ok (.putfield 15, 3) := by decide +kernel
theorem dX3_init_20 : decode cX3_init 20 = .ok (.aload_n 0, 1) := by decide +kernel
theorem dX3_init_21 : decode cX3_init 21 = .ok (.bipush 40, 2) := by decide +kernel
theorem dX3_init_23 : decode cX3_init 23 = .ok (.newarray .long, 2) := by decide +kernel
theorem dX3_init_25 : decode cX3_init 25 = .ok (.putfield 18, 3) := by decide +kernel
theorem dX3_init_28 : decode cX3_init 28 = .ok (.aload_n 0, 1) := by decide +kernel
theorem dX3_init_29 : decode cX3_init 29 = .ok (.bipush 40, 2) := by decide +kernel
theorem dX3_init_31 : decode cX3_init 31 = .ok (.newarray .long, 2) := by decide +kernel
theorem dX3_init_33 : decode cX3_init 33 = .ok (.putfield 22, 3) := by decide +kernel
theorem dX3_init_36 : decode cX3_init 36 = .ok (.aload_n 0, 1) := by decide +kernel
theorem dX3_init_37 : decode cX3_init 37 = .ok (.bipush 40, 2) := by decide +kernel
theorem dX3_init_39 : decode cX3_init 39 = .ok (.newarray .boolean, 2) := by decide +kernel
theorem dX3_init_41 : decode cX3_init 41 = .ok (.putfield 25, 3) := by decide +kernel
theorem dX3_init_44 : decode cX3_init 44 = .ok (.aload_n 0, 1) := by decide +kernel
theorem dX3_init_45 : decode cX3_init 45 = .ok (.bipush 40, 2) := by decide +kernel
theorem dX3_init_47 : decode cX3_init 47 = .ok (.newarray .boolean, 2) := by decide +kernel
theorem dX3_init_49 : decode cX3_init 49 = .ok (.putfield 29, 3) := by decide +kernel
theorem dX3_init_52 : decode cX3_init 52 = .ok (.aload_n 0, 1) := by decide +kernel
theorem dX3_init_53 : decode cX3_init 53 = .ok (.bipush 40, 2) := by decide +kernel
theorem dX3_init_55 : decode cX3_init 55 = .ok (.newarray .long, 2) := by decide +kernel
theorem dX3_init_57 : decode cX3_init 57 = .ok (.putfield 32, 3) := by decide +kernel
theorem dX3_init_60 : decode cX3_init 60 = .ok (.aload_n 0, 1) := by decide +kernel
theorem dX3_init_61 : decode cX3_init 61 = .ok (.bipush 40, 2) := by decide +kernel
theorem dX3_init_63 : decode cX3_init 63 = .ok (.newarray .long, 2) := by decide +kernel
theorem dX3_init_65 : decode cX3_init 65 = .ok (.putfield 35, 3) := by decide +kernel
theorem dX3_init_68 : decode cX3_init 68 = .ok (.aload_n 0, 1) := by decide +kernel
theorem dX3_init_69 : decode cX3_init 69 = .ok (.bipush 40, 2) := by decide +kernel
theorem dX3_init_71 : decode cX3_init 71 = .ok (.newarray .int, 2) := by decide +kernel
theorem dX3_init_73 : decode cX3_init 73 = .ok (.putfield 38, 3) := by decide +kernel
theorem dX3_init_76 : decode cX3_init 76 = .ok (.aload_n 0, 1) := by decide +kernel
theorem dX3_init_77 : decode cX3_init 77 = .ok (.bipush 40, 2) := by decide +kernel
theorem dX3_init_79 : decode cX3_init 79 = .ok (.newarray .int, 2) := by decide +kernel
theorem dX3_init_81 : decode cX3_init 81 = .ok (.putfield 41, 3) := by decide +kernel
theorem dX3_init_84 : decode cX3_init 84 = .ok (.aload_n 0, 1) := by decide +kernel
theorem dX3_init_85 : decode cX3_init 85 = .ok (.bipush 40, 2) := by decide +kernel
theorem dX3_init_87 : decode cX3_init 87 = .ok (.newarray .int, 2) := by decide +kernel
theorem dX3_init_89 : decode cX3_init 89 = .ok (.putfield 44, 3) := by decide +kernel
theorem dX3_init_92 : decode cX3_init 92 = .ok (.aload_n 0, 1) := by decide +kernel
theorem dX3_init_93 : decode cX3_init 93 = .ok (.bipush 40, 2) := by decide +kernel
theorem dX3_init_95 : decode cX3_init 95 = .ok (.newarray .int, 2) := by decide +kernel
theorem dX3_init_97 : decode cX3_init 97 = .ok (.putfield 47, 3) := by decide +kernel
theorem dX3_init_100 : decode cX3_init 100 = .ok (.aload_n 0, 1) := by decide +kernel
theorem dX3_init_101 : decode cX3_init 101 = .ok (.bipush 40, 2) := by decide +kernel
theorem dX3_init_103 : decode cX3_init 103 = .ok (.newarray .int, 2) := by decide +kernel
theorem dX3_init_105 : decode cX3_init 105 = .ok (.putfield 50, 3) := by decide +kernel
theorem dX3_init_108 : decode cX3_init 108 = .ok (.aload_n 0, 1) := by decide +kernel
theorem dX3_init_109 : decode cX3_init 109 = .ok (.aload_n 1, 1) := by decide +kernel
theorem dX3_init_110 : decode cX3_init 110 = .ok (.putfield 53, 3) := by decide +kernel
theorem dX3_init_113 : decode cX3_init 113 = .ok (.return_, 1) := by decide +kernel
theorem dX3_openAll_0 : decode cX3_openAll 0 = .ok (.iconst 0, 1) := by decide +kernel
theorem dX3_openAll_1 : decode cX3_openAll 1 = .ok (.istore_n 1, 1) := by decide +kernel
theorem dX3_openAll_2 : decode cX3_openAll 2 = .ok (.iload_n 1, 1) := by decide +kernel
theorem dX3_openAll_3 : decode cX3_openAll 3 = .ok (.bipush 40, 2) := by decide +kernel
theorem dX3_openAll_5 : decode cX3_openAll 5 = .ok (.if_icmp .ge 51, 3) := by decide +kernel
theorem dX3_openAll_8 : decode cX3_openAll 8 = .ok (.aload_n 0, 1) := by decide +kernel
theorem dX3_openAll_9 : decode cX3_openAll 9 = .ok (.getfield 9, 3) := by decide +kernel
theorem dX3_openAll_12 : decode cX3_openAll 12 = .ok (.iload_n 1, 1) := by decide +kernel
theorem dX3_openAll_13 : decode cX3_openAll 13 = .ok (.iconst 0, 1) := by decide +kernel
theorem dX3_openAll_14 : decode cX3_openAll 14 = .ok (.iastore, 1) := by decide +kernel
theorem dX3_openAll_15 : decode cX3_openAll 15 = .ok (.aload_n 0, 1) := by decide +kernel
theorem dX3_openAll_16 : decode cX3_openAll 16 = .ok (.getfield 38, 3) := by decide +kernel
theorem dX3_openAll_19 : decode cX3_openAll 19 = .ok (.iload_n 1, 1) := by decide +kernel
theorem dX3_openAll_20 : decode cX3_openAll 20 = .ok (.iconst 0, 1) := by decide +kernel
theorem dX3_openAll_21 : decode cX3_openAll 21 = .ok (.iastore, 1) := by decide +kernel
theorem dX3_openAll_22 : decode cX3_openAll 22 = .ok (.aload_n 0, 1) := by decide +kernel
theorem dX3_openAll_23 : decode cX3_openAll 23 = .ok (.getfield 41, 3) := by decide +kernel
theorem dX3_openAll_26 : decode cX3_openAll 26 = .ok (.iload_n 1, 1) := by decide +kernel
theorem dX3_openAll_27 : decode cX3_openAll 27 = .ok (.iconst 0, 1) := by decide +kernel
theorem dX3_openAll_28 : decode cX3_openAll 28 = .ok (.iastore, 1) := by decide +kernel
theorem dX3_openAll_29 : decode cX3_openAll 29 = .ok (.aload_n 0, 1) := by decide +kernel
theorem dX3_openAll_30 : decode cX3_openAll 30 = .ok (.getfield 44, 3) := by decide +kernel
theorem dX3_openAll_33 : decode cX3_openAll 33 = .ok (.iload_n 1, 1) := by decide +kernel
theorem dX3_openAll_34 : decode cX3_openAll 34 = .ok (.iconst (-1), 1) := by decide +kernel
theorem dX3_openAll_35 : decode cX3_openAll 35 = .ok (.iastore, 1) := by decide +kernel
theorem dX3_openAll_36 : decode cX3_openAll 36 = .ok (.aload_n 0, 1) := by decide +kernel
theorem dX3_openAll_37 : decode cX3_openAll 37 = .ok (.getfield 47, 3) := by decide +kernel
theorem dX3_openAll_40 : decode cX3_openAll 40 = .ok (.iload_n 1, 1) := by decide +kernel
theorem dX3_openAll_41 : decode cX3_openAll 41 = .ok (.iconst (-1), 1) := by decide +kernel
theorem dX3_openAll_42 : decode cX3_openAll 42 = .ok (.iastore, 1) := by decide +kernel
theorem dX3_openAll_43 : decode cX3_openAll 43 = .ok (.aload_n 0, 1) := by decide +kernel
theorem dX3_openAll_44 : decode cX3_openAll 44 = .ok (.getfield 50, 3) := by decide +kernel
theorem dX3_openAll_47 : decode cX3_openAll 47 = .ok (.iload_n 1, 1) := by decide +kernel
theorem dX3_openAll_48 : decode cX3_openAll 48 = .ok (.iconst (-1), 1) := by decide +kernel
theorem dX3_openAll_49 : decode cX3_openAll 49 = .ok (.iastore, 1) := by decide +kernel
theorem dX3_openAll_50 : decode cX3_openAll 50 = .ok (.iinc 1 1, 3) := by decide +kernel
theorem dX3_openAll_53 : decode cX3_openAll 53 = .ok (.goto (-51), 3) := by decide +kernel
theorem dX3_openAll_56 : decode cX3_openAll 56 = .ok (.return_, 1) := by decide +kernel
theorem dX3_standing_0 : decode cX3_standing 0 = .ok (.iload_n 1, 1) := by decide +kernel
theorem dX3_standing_1 : decode cX3_standing 1 = .ok (.bipush 40, 2) := by decide +kernel
theorem dX3_standing_3 : decode cX3_standing 3 = .ok (.invokestatic 57, 3) := by decide +kernel
theorem dX3_standing_6 : decode cX3_standing 6 = .ok (.iconst 1, 1) := by decide +kernel
theorem dX3_standing_7 : decode cX3_standing 7 = .ok (.isub, 1) := by decide +kernel
theorem dX3_standing_8 : decode cX3_standing 8 = .ok (.istore_n 3, 1) := by decide +kernel
theorem dX3_standing_9 : decode cX3_standing 9 = .ok (.iload_n 3, 1) := by decide +kernel
theorem dX3_standing_10 : decode cX3_standing 10 = .ok (.ifCond .lt 75, 3) := by decide +kernel
theorem dX3_standing_13 : decode cX3_standing 13 = .ok (.aload_n 0, 1) := by decide +kernel
theorem dX3_standing_14 : decode cX3_standing 14 = .ok (.iload_n 3, 1) := by decide +kernel
theorem dX3_standing_15 : decode cX3_standing 15 = .ok (.invokevirtual 63, 3) := by decide +kernel
theorem dX3_standing_18 : decode cX3_standing 18 = .ok (.ifCond .eq 61, 3) := by decide +kernel
theorem dX3_standing_21 : decode cX3_standing 21 = .ok (.aload_n 0, 1) := by decide +kernel
theorem dX3_standing_22 : decode cX3_standing 22 = .ok (.getfield 25, 3) := by decide +kernel
theorem dX3_standing_25 : decode cX3_standing 25 = .ok (.iload_n 3, 1) := by decide +kernel
theorem dX3_standing_26 : decode cX3_standing 26 = .ok (.baload, 1) := by decide +kernel
theorem dX3_standing_27 : decode cX3_standing 27 = .ok (.ifCond .eq 23, 3) := by decide +kernel
theorem dX3_standing_30 : decode cX3_standing 30 = .ok (.aload_n 0, 1) := by decide +kernel
theorem dX3_standing_31 : decode cX3_standing 31 = .ok (.getfield 53, 3) := by decide +kernel
theorem dX3_standing_34 : decode cX3_standing 34 = .ok (.getfield 67, 3) := by decide +kernel
theorem dX3_standing_37 : decode cX3_standing 37 = .ok (.iload_n 3, 1) := by decide +kernel
theorem dX3_standing_38 : decode cX3_standing 38 = .ok (.iaload, 1) := by decide +kernel
theorem dX3_standing_39 : decode cX3_standing 39 = .ok (.iload_n 2, 1) := by decide +kernel
theorem dX3_standing_40 : decode cX3_standing 40 = .ok (.if_icmp .ne 10, 3) := by decide +kernel
theorem dX3_standing_43 : decode cX3_standing 43 = .ok (.aload_n 0, 1) := by decide +kernel
theorem dX3_standing_44 : decode cX3_standing 44 = .ok (.getfield 32, 3) := by decide +kernel
theorem dX3_standing_47 : decode cX3_standing 47 = .ok (.iload_n 3, 1) := by decide +kernel
theorem dX3_standing_48 : decode cX3_standing 48 = .ok (.laload, 1) := by decide +kernel
theorem dX3_standing_49 : decode cX3_standing 49 = .ok (.lreturn, 1) := by decide +kernel
theorem dX3_standing_50 : decode cX3_standing 50 = .ok (.aload_n 0, 1) := by decide +kernel
theorem dX3_standing_51 : decode cX3_standing 51 = .ok (.getfield 29, 3) := by decide +kernel
theorem dX3_standing_54 : decode cX3_standing 54 = .ok (.iload_n 3, 1) := by decide +kernel
theorem dX3_standing_55 : decode cX3_standing 55 = .ok (.baload, 1) := by decide +kernel
theorem dX3_standing_56 : decode cX3_standing 56 = .ok (.ifCond .eq 23, 3) := by decide +kernel
theorem dX3_standing_59 : decode cX3_standing 59 = .ok (.aload_n 0, 1) := by decide +kernel
theorem dX3_standing_60 : decode cX3_standing 60 = .ok (.getfield 53, 3) := by decide +kernel
theorem dX3_standing_63 : decode cX3_standing 63 = .ok (.getfield 72, 3) := by decide +kernel
theorem dX3_standing_66 : decode cX3_standing 66 = .ok (.iload_n 3, 1) := by decide +kernel
theorem dX3_standing_67 : decode cX3_standing 67 = .ok (.iaload, 1) := by decide +kernel
theorem dX3_standing_68 : decode cX3_standing 68 = .ok (.iload_n 2, 1) := by decide +kernel
theorem dX3_standing_69 : decode cX3_standing 69 = .ok (.if_icmp .ne 10, 3) := by decide +kernel
theorem dX3_standing_72 : decode cX3_standing 72 = .ok (.aload_n 0, 1) := by decide +kernel
theorem dX3_standing_73 : decode cX3_standing 73 = .ok (.getfield 35, 3) := by decide +kernel
theorem dX3_standing_76 : decode cX3_standing 76 = .ok (.iload_n 3, 1) := by decide +kernel
theorem dX3_standing_77 : decode cX3_standing 77 = .ok (.laload, 1) := by decide +kernel
theorem dX3_standing_78 : decode cX3_standing 78 = .ok (.lreturn, 1) := by decide +kernel
theorem dX3_standing_79 : decode cX3_standing 79 = .ok (.iinc 3 (-1), 3) := by decide +kernel
theorem dX3_standing_82 : decode cX3_standing 82 = .ok (.goto (-73), 3) := by decide +kernel
theorem dX3_standing_85 : decode cX3_standing 85 = .ok (.lconst 0, 1) := by decide +kernel
theorem dX3_standing_86 : decode cX3_standing 86 = .ok (.lreturn, 1) := by decide +kernel
theorem dX3_hasEnded_0 : decode cX3_hasEnded 0 = .ok (.aload_n 0, 1) := by decide +kernel
theorem dX3_hasEnded_1 : decode cX3_hasEnded 1 = .ok (.getfield 9, 3) := by decide +kernel
theorem dX3_hasEnded_4 : decode cX3_hasEnded 4 = .ok (.iload_n 1, 1) := by decide +kernel
theorem dX3_hasEnded_5 : decode cX3_hasEnded 5 = .ok (.iaload, 1) := by decide +kernel
theorem dX3_hasEnded_6 : decode cX3_hasEnded 6 = .ok (.iconst 2, 1) := by decide +kernel
theorem dX3_hasEnded_7 : decode cX3_hasEnded 7 = .ok (.if_icmp .eq 13, 3) := by decide +kernel
theorem dX3_hasEnded_10 : decode cX3_hasEnded 10 = .ok (.aload_n 0, 1) := by decide +kernel
theorem dX3_hasEnded_11 : decode cX3_hasEnded 11 = .ok (.getfield 9, 3) := by decide +kernel
theorem dX3_hasEnded_14 : decode cX3_hasEnded 14 = .ok (.iload_n 1, 1) := by decide +kernel
theorem dX3_hasEnded_15 : decode cX3_hasEnded 15 = .ok (.iaload, 1) := by decide +kernel
theorem dX3_hasEnded_16 : decode cX3_hasEnded 16 = .ok (.iconst 3, 1) := by decide +kernel
theorem dX3_hasEnded_17 : decode cX3_hasEnded 17 = .ok (.if_icmp .ne 7, 3) := by decide +kernel
theorem dX3_hasEnded_20 : decode cX3_hasEnded 20 = .ok (.iconst 1, 1) := by decide +kernel
theorem dX3_hasEnded_21 : decode cX3_hasEnded 21 = .ok (.goto 4, 3) := by decide +kernel
theorem dX3_hasEnded_24 : decode cX3_hasEnded 24 = .ok (.iconst 0, 1) := by decide +kernel
theorem dX3_hasEnded_25 : decode cX3_hasEnded 25 = .ok (.ireturn, 1) := by decide +kernel
theorem dX3_leastOpen_0 : decode cX3_leastOpen 0 = .ok (.iload_n 1, 1) := by decide +kernel
theorem dX3_leastOpen_1 : decode cX3_leastOpen 1 = .ok (.iconst 0, 1) := by decide +kernel
theorem dX3_leastOpen_2 : decode cX3_leastOpen 2 = .ok (.invokestatic 75, 3) := by decide +kernel
theorem dX3_leastOpen_5 : decode cX3_leastOpen 5 = .ok (.istore_n 3, 1) := by decide +kernel
theorem dX3_leastOpen_6 : decode cX3_leastOpen 6 = .ok (.iload_n 3, 1) := by decide +kernel
theorem dX3_leastOpen_7 : decode cX3_leastOpen 7 = .ok (.iload_n 2, 1) := by decide +kernel
theorem dX3_leastOpen_8 : decode cX3_leastOpen 8 = .ok (.if_icmp .ge 26, 3) := by decide +kernel
theorem dX3_leastOpen_11 : decode cX3_leastOpen 11 = .ok (.iload_n 3, 1) := by decide +kernel
theorem dX3_leastOpen_12 : decode cX3_leastOpen 12 = .ok (.bipush 40, 2) := by decide +kernel
theorem dX3_leastOpen_14 : decode cX3_leastOpen 14 = .ok (.if_icmp .ge 20, 3) := by decide +kernel
theorem dX3_leastOpen_17 : decode cX3_leastOpen 17 = .ok (.aload_n 0, 1) := by decide +kernel
theorem dX3_leastOpen_18 : decode cX3_leastOpen 18 = .ok (.getfield 9, 3) := by decide +kernel
theorem dX3_leastOpen_21 : decode cX3_leastOpen 21 = .ok (.iload_n 3, 1) := by decide +kernel
theorem dX3_leastOpen_22 : decode cX3_leastOpen 22 = .ok (.iaload, 1) := by decide +kernel
theorem dX3_leastOpen_23 : decode cX3_leastOpen 23 = .ok (.ifCond .ne 5, 3) := by decide +kernel
theorem dX3_leastOpen_26 : decode cX3_leastOpen 26 = .ok (.iload_n 3, 1) := by decide +kernel
theorem dX3_leastOpen_27 : decode cX3_leastOpen 27 = .ok (.ireturn, 1) := by decide +kernel
theorem dX3_leastOpen_28 : decode cX3_leastOpen 28 = .ok (.iinc 3 1, 3) := by decide +kernel
theorem dX3_leastOpen_31 : decode cX3_leastOpen 31 = .ok (.goto (-25), 3) := by decide +kernel
theorem dX3_leastOpen_34 : decode cX3_leastOpen 34 = .ok (.iconst (-1), 1) := by decide +kernel
theorem dX3_leastOpen_35 : decode cX3_leastOpen 35 = .ok (.ireturn, 1) := by decide +kernel
theorem dX3_noteBegun_0 : decode cX3_noteBegun 0 = .ok (.aload_n 0, 1) := by decide +kernel
theorem dX3_noteBegun_1 : decode cX3_noteBegun 1 = .ok (.getfield 41, 3) := by decide +kernel
theorem dX3_noteBegun_4 : decode cX3_noteBegun 4 = .ok (.iload_n 1, 1) := by decide +kernel
theorem dX3_noteBegun_5 : decode cX3_noteBegun 5 = .ok (.iaload, 1) := by decide +kernel
theorem dX3_noteBegun_6 : decode cX3_noteBegun 6 = .ok (.ifCond .ne 10, 3) := by decide +kernel
theorem dX3_noteBegun_9 : decode cX3_noteBegun 9 = .ok (.aload_n 0, 1) := by decide +kernel
theorem dX3_noteBegun_10 : decode cX3_noteBegun 10 = .ok (.getfield 44, 3) := by decide +kernel
theorem dX3_noteBegun_13 : decode cX3_noteBegun 13 = .ok (.iload_n 1, 1) := by decide +kernel
theorem dX3_noteBegun_14 : decode cX3_noteBegun 14 = .ok (.iload_n 2, 1) := by decide +kernel
theorem dX3_noteBegun_15 : decode cX3_noteBegun 15 = .ok (.iastore, 1) := by decide +kernel
theorem dX3_noteBegun_16 : decode cX3_noteBegun 16 = .ok (.aload_n 0, 1) := by decide +kernel
theorem dX3_noteBegun_17 : decode cX3_noteBegun 17 = .ok (.getfield 41, 3) := by decide +kernel
theorem dX3_noteBegun_20 : decode cX3_noteBegun 20 = .ok (.iload_n 1, 1) := by decide +kernel
theorem dX3_noteBegun_21 : decode cX3_noteBegun 21 = .ok (.dup2, 1) := by decide +kernel
theorem dX3_noteBegun_22 : decode cX3_noteBegun 22 = .ok (.iaload, 1) := by decide +kernel
theorem dX3_noteBegun_23 : decode cX3_noteBegun 23 = .ok (.iconst 1, 1) := by decide +kernel
theorem dX3_noteBegun_24 : decode cX3_noteBegun 24 = .ok (.iadd, 1) := by decide +kernel
theorem dX3_noteBegun_25 : decode cX3_noteBegun 25 = .ok (.iastore, 1) := by decide +kernel
theorem dX3_noteBegun_26 : decode cX3_noteBegun 26 = .ok (.return_, 1) := by decide +kernel
theorem dX3_setUnderWay_0 : decode cX3_setUnderWay 0 = .ok (.aload_n 0, 1) := by decide +kernel
theorem dX3_setUnderWay_1 : decode cX3_setUnderWay 1 = .ok (.getfield 9, 3) := by decide +kernel
theorem dX3_setUnderWay_4 : decode cX3_setUnderWay 4 = .ok (.iload_n 1, 1) := by decide +kernel
theorem dX3_setUnderWay_5 : decode cX3_setUnderWay 5 = .ok (.iconst 1, 1) := by decide +kernel
theorem dX3_setUnderWay_6 : decode cX3_setUnderWay 6 = .ok (.iastore, 1) := by decide +kernel
theorem dX3_setUnderWay_7 : decode cX3_setUnderWay 7 = .ok (.aload_n 0, 1) := by decide +kernel
theorem dX3_setUnderWay_8 : decode cX3_setUnderWay 8 = .ok (.getfield 15, 3) := by decide +kernel
theorem dX3_setUnderWay_11 : decode cX3_setUnderWay 11 = .ok (.iload_n 1, 1) := by decide +kernel
theorem dX3_setUnderWay_12 : decode cX3_setUnderWay 12 = .ok (.aload_n 0, 1) := by decide +kernel
theorem dX3_setUnderWay_13 : decode cX3_setUnderWay 13 = .ok (.getfield 53, 3) := by decide +kernel
theorem dX3_setUnderWay_16 : decode cX3_setUnderWay 16 = .ok (.getfield 78, 3) := by decide +kernel
theorem dX3_setUnderWay_19 : decode cX3_setUnderWay 19 = .ok (.iload_n 1, 1) := by decide +kernel
theorem dX3_setUnderWay_20 : decode cX3_setUnderWay 20 = .ok (.iaload, 1) := by decide +kernel
theorem dX3_setUnderWay_21 : decode cX3_setUnderWay 21 = .ok (.iastore, 1) := by decide +kernel
theorem dX3_setUnderWay_22 : decode cX3_setUnderWay 22 = .ok (.aload_n 0, 1) := by decide +kernel
theorem dX3_setUnderWay_23 : decode cX3_setUnderWay 23 = .ok (.getfield 18, 3) := by decide +kernel
theorem dX3_setUnderWay_26 : decode cX3_setUnderWay 26 = .ok (.iload_n 1, 1) := by decide +kernel
theorem dX3_setUnderWay_27 : decode cX3_setUnderWay 27 = .ok (.aload_n 0, 1) := by decide +kernel
theorem dX3_setUnderWay_28 : decode cX3_setUnderWay 28 = .ok (.iload_n 1, 1) := by decide +kernel
theorem dX3_setUnderWay_29 : decode cX3_setUnderWay 29 = .ok (.aload_n 0, 1) := by decide +kernel
theorem dX3_setUnderWay_30 : decode cX3_setUnderWay 30 = .ok (.getfield 53, 3) := by decide +kernel
theorem dX3_setUnderWay_33 : decode cX3_setUnderWay 33 = .ok (.getfield 67, 3) := by decide +kernel
theorem dX3_setUnderWay_36 : decode cX3_setUnderWay 36 = .ok (.iload_n 1, 1) := by decide +kernel
theorem dX3_setUnderWay_37 : decode cX3_setUnderWay 37 = .ok (.iaload, 1) := by decide +kernel
theorem dX3_setUnderWay_38 : decode cX3_setUnderWay 38 = .ok (.invokevirtual 81, 3) := by decide +kernel
theorem dX3_setUnderWay_41 : decode cX3_setUnderWay 41 = .ok (.lastore, 1) := by decide +kernel
theorem dX3_setUnderWay_42 : decode cX3_setUnderWay 42 = .ok (.aload_n 0, 1) := by decide +kernel
theorem dX3_setUnderWay_43 : decode cX3_setUnderWay 43 = .ok (.getfield 22, 3) := by decide +kernel
theorem dX3_setUnderWay_46 : decode cX3_setUnderWay 46 = .ok (.iload_n 1, 1) := by decide +kernel
theorem dX3_setUnderWay_47 : decode cX3_setUnderWay 47 = .ok (.aload_n 0, 1) := by decide +kernel
theorem dX3_setUnderWay_48 : decode cX3_setUnderWay 48 = .ok (.iload_n 1, 1) := by decide +kernel
theorem dX3_setUnderWay_49 : decode cX3_setUnderWay 49 = .ok (.aload_n 0, 1) := by decide +kernel
theorem dX3_setUnderWay_50 : decode cX3_setUnderWay 50 = .ok (.getfield 53, 3) := by decide +kernel
theorem dX3_setUnderWay_53 : decode cX3_setUnderWay 53 = .ok (.getfield 72, 3) := by decide +kernel
theorem dX3_setUnderWay_56 : decode cX3_setUnderWay 56 = .ok (.iload_n 1, 1) := by decide +kernel
theorem dX3_setUnderWay_57 : decode cX3_setUnderWay 57 = .ok (.iaload, 1) := by decide +kernel
theorem dX3_setUnderWay_58 : decode cX3_setUnderWay 58 = .ok (.invokevirtual 81, 3) := by decide +kernel
theorem dX3_setUnderWay_61 : decode cX3_setUnderWay 61 = .ok (.lastore, 1) := by decide +kernel
theorem dX3_setUnderWay_62 : decode cX3_setUnderWay 62 = .ok (.return_, 1) := by decide +kernel
theorem dX3_doesLastStep_0 : decode cX3_doesLastStep 0 = .ok (.aload_n 0, 1) := by decide +kernel
theorem dX3_doesLastStep_1 : decode cX3_doesLastStep 1 = .ok (.getfield 15, 3) := by decide +kernel
theorem dX3_doesLastStep_4 : decode cX3_doesLastStep 4 = .ok (.iload_n 1, 1) := by decide +kernel
theorem dX3_doesLastStep_5 : decode cX3_doesLastStep 5 = .ok (.dup2, 1) := by decide +kernel
theorem dX3_doesLastStep_6 : decode cX3_doesLastStep 6 = .ok (.iaload, 1) := by decide +kernel
theorem dX3_doesLastStep_7 : decode cX3_doesLastStep 7 = .ok (.iconst 1, 1) := by decide +kernel
theorem dX3_doesLastStep_8 : decode cX3_doesLastStep 8 = .ok (.isub, 1) := by decide +kernel
theorem dX3_doesLastStep_9 : decode cX3_doesLastStep 9 = .ok (.iastore, 1) := by decide +kernel
theorem dX3_doesLastStep_10 : decode cX3_doesLastStep 10 = .ok (.aload_n 0, 1) := by decide +kernel
theorem dX3_doesLastStep_11 : decode cX3_doesLastStep 11 = .ok (.getfield 15, 3) := by decide +kernel
theorem dX3_doesLastStep_14 : decode cX3_doesLastStep 14 = .ok (.iload_n 1, 1) := by decide +kernel
theorem dX3_doesLastStep_15 : decode cX3_doesLastStep 15 = .ok (.iaload, 1) := by decide +kernel
theorem dX3_doesLastStep_16 : decode cX3_doesLastStep 16 = .ok (.ifCond .le 5, 3) := by decide +kernel
theorem dX3_doesLastStep_19 : decode cX3_doesLastStep 19 = .ok (.iconst 0, 1) := by decide +kernel
theorem dX3_doesLastStep_20 : decode cX3_doesLastStep 20 = .ok (.ireturn, 1) := by decide +kernel
theorem dX3_doesLastStep_21 : decode cX3_doesLastStep 21 = .ok (.aload_n 0, 1) := by decide +kernel
theorem dX3_doesLastStep_22 : decode cX3_doesLastStep 22 = .ok (.iload_n 1, 1) := by decide +kernel
theorem dX3_doesLastStep_23 : decode cX3_doesLastStep 23 = .ok (.invokevirtual 85, 3) := by decide +kernel
theorem dX3_doesLastStep_26 : decode cX3_doesLastStep 26 = .ok (.aload_n 0, 1) := by decide +kernel
theorem dX3_doesLastStep_27 : decode cX3_doesLastStep 27 = .ok (.getfield 9, 3) := by decide +kernel
theorem dX3_doesLastStep_30 : decode cX3_doesLastStep 30 = .ok (.iload_n 1, 1) := by decide +kernel
theorem dX3_doesLastStep_31 : decode cX3_doesLastStep 31 = .ok (.iconst 2, 1) := by decide +kernel
theorem dX3_doesLastStep_32 : decode cX3_doesLastStep 32 = .ok (.iastore, 1) := by decide +kernel
theorem dX3_doesLastStep_33 : decode cX3_doesLastStep 33 = .ok (.aload_n 0, 1) := by decide +kernel
theorem dX3_doesLastStep_34 : decode cX3_doesLastStep 34 = .ok (.getfield 50, 3) := by decide +kernel
theorem dX3_doesLastStep_37 : decode cX3_doesLastStep 37 = .ok (.iload_n 1, 1) := by decide +kernel
theorem dX3_doesLastStep_38 : decode cX3_doesLastStep 38 = .ok (.iload_n 2, 1) := by decide +kernel
theorem dX3_doesLastStep_39 : decode cX3_doesLastStep 39 = .ok (.iastore, 1) := by decide +kernel
theorem dX3_doesLastStep_40 : decode cX3_doesLastStep 40 = .ok (.iconst 1, 1) := by decide +kernel
theorem dX3_doesLastStep_41 : decode cX3_doesLastStep 41 = .ok (.ireturn, 1) := by decide +kernel
theorem dX3_waitsToBeKept_0 : decode cX3_waitsToBeKept 0 = .ok (.iload_n 1, 1) := by decide +kernel
theorem dX3_waitsToBeKept_1 : decode cX3_waitsToBeKept 1 = .ok (.iconst 0, 1) := by decide +kernel
theorem dX3_waitsToBeKept_2 : decode cX3_waitsToBeKept 2 = .ok (.bipush 39, 2) := by decide +kernel
theorem dX3_waitsToBeKept_4 : decode cX3_waitsToBeKept 4 = .ok (.invokestatic 89, 3) := by decide +kernel
theorem dX3_waitsToBeKept_7 : decode cX3_waitsToBeKept 7 = .ok (.ifCond .eq 17, 3) := by decide +kernel
theorem dX3_waitsToBeKept_10 : decode cX3_waitsToBeKept 10 = .ok (.aload_n 0, 1) := by decide +kernel
theorem dX3_waitsToBeKept_11 : decode cX3_waitsToBeKept 11 = .ok (.getfield 9, 3) := by decide +kernel
theorem dX3_waitsToBeKept_14 : decode cX3_waitsToBeKept 14 = .ok (.iload_n 1, 1) := by decide +kernel
theorem dX3_waitsToBeKept_15 : decode cX3_waitsToBeKept 15 = .ok (.iaload, 1) := by decide +kernel
theorem dX3_waitsToBeKept_16 : decode cX3_waitsToBeKept 16 = .ok (.iconst 2, 1) := by decide +kernel
theorem dX3_waitsToBeKept_17 : decode cX3_waitsToBeKept 17 = .ok (.if_icmp .ne 7, 3) := by decide +kernel
theorem dX3_waitsToBeKept_20 : decode cX3_waitsToBeKept 20 = .ok (.iconst 1, 1) := by decide +kernel
theorem dX3_waitsToBeKept_21 : decode cX3_waitsToBeKept 21 = .ok (.goto 4, 3) := by decide +kernel
theorem dX3_waitsToBeKept_24 : decode cX3_waitsToBeKept 24 = .ok (.iconst 0, 1) := by decide +kernel
theorem dX3_waitsToBeKept_25 : decode cX3_waitsToBeKept 25 = .ok (.ireturn, 1) := by decide +kernel
theorem dX3_settle_0 : decode cX3_settle 0 = .ok (.aload_n 0, 1) := by decide +kernel
theorem dX3_settle_1 : decode cX3_settle 1 = .ok (.getfield 18, 3) := by decide +kernel
theorem dX3_settle_4 : decode cX3_settle 4 = .ok (.iload_n 1, 1) := by decide +kernel
theorem dX3_settle_5 : decode cX3_settle 5 = .ok (.laload, 1) := by decide +kernel
theorem dX3_settle_6 : decode cX3_settle 6 = .ok (.aload_n 0, 1) := by decide +kernel
theorem dX3_settle_7 : decode cX3_settle 7 = .ok (.iload_n 1, 1) := by decide +kernel
theorem dX3_settle_8 : decode cX3_settle 8 = .ok (.aload_n 0, 1) := by decide +kernel
theorem dX3_settle_9 : decode cX3_settle 9 = .ok (.getfield 53, 3) := by decide +kernel
theorem dX3_settle_12 : decode cX3_settle 12 = .ok (.getfield 67, 3) := by decide +kernel
theorem dX3_settle_15 : decode cX3_settle 15 = .ok (.iload_n 1, 1) := by decide +kernel
theorem dX3_settle_16 : decode cX3_settle 16 = .ok (.iaload, 1) := by decide +kernel
theorem dX3_settle_17 : decode cX3_settle 17 = .ok (.invokevirtual 81, 3) := by decide +kernel
theorem dX3_settle_20 : decode cX3_settle 20 = .ok (.lcmp, 1) := by decide +kernel
theorem dX3_settle_21 : decode cX3_settle 21 = .ok (.ifCond .ne 31, 3) := by decide +kernel
theorem dX3_settle_24 : decode cX3_settle 24 = .ok (.aload_n 0, 1) := by decide +kernel
theorem dX3_settle_25 : decode cX3_settle 25 = .ok (.getfield 22, 3) := by decide +kernel
theorem dX3_settle_28 : decode cX3_settle 28 = .ok (.iload_n 1, 1) := by decide +kernel
theorem dX3_settle_29 : decode cX3_settle 29 = .ok (.laload, 1) := by decide +kernel
theorem dX3_settle_30 : decode cX3_settle 30 = .ok (.aload_n 0, 1) := by decide +kernel
theorem dX3_settle_31 : decode cX3_settle 31 = .ok (.iload_n 1, 1) := by decide +kernel
theorem dX3_settle_32 : decode cX3_settle 32 = .ok (.aload_n 0, 1) := by decide +kernel
theorem dX3_settle_33 : decode cX3_settle 33 = .ok (.getfield 53, 3) := by decide +kernel
theorem dX3_settle_36 : decode cX3_settle 36 = .ok (.getfield 72, 3) := by decide +kernel
theorem dX3_settle_39 : decode cX3_settle 39 = .ok (.iload_n 1, 1) := by decide +kernel
theorem dX3_settle_40 : decode cX3_settle 40 = .ok (.iaload, 1) := by decide +kernel
theorem dX3_settle_41 : decode cX3_settle 41 = .ok (.invokevirtual 81, 3) := by decide +kernel
theorem dX3_settle_44 : decode cX3_settle 44 = .ok (.lcmp, 1) := by decide +kernel
theorem dX3_settle_45 : decode cX3_settle 45 = .ok (.ifCond .ne 7, 3) := by decide +kernel
theorem dX3_settle_48 : decode cX3_settle 48 = .ok (.iconst 1, 1) := by decide +kernel
theorem dX3_settle_49 : decode cX3_settle 49 = .ok (.goto 4, 3) := by decide +kernel
theorem dX3_settle_52 : decode cX3_settle 52 = .ok (.iconst 0, 1) := by decide +kernel
theorem dX3_settle_53 : decode cX3_settle 53 = .ok (.istore_n 3, 1) := by decide +kernel
theorem dX3_settle_54 : decode cX3_settle 54 = .ok (.aload_n 0, 1) := by decide +kernel
theorem dX3_settle_55 : decode cX3_settle 55 = .ok (.getfield 9, 3) := by decide +kernel
theorem dX3_settle_58 : decode cX3_settle 58 = .ok (.iload_n 1, 1) := by decide +kernel
theorem dX3_settle_59 : decode cX3_settle 59 = .ok (.iload_n 3, 1) := by decide +kernel
theorem dX3_settle_60 : decode cX3_settle 60 = .ok (.ifCond .eq 7, 3) := by decide +kernel
theorem dX3_settle_63 : decode cX3_settle 63 = .ok (.iconst 3, 1) := by decide +kernel
theorem dX3_settle_64 : decode cX3_settle 64 = .ok (.goto 4, 3) := by decide +kernel
theorem dX3_settle_67 : decode cX3_settle 67 = .ok (.iconst 0, 1) := by decide +kernel
theorem dX3_settle_68 : decode cX3_settle 68 = .ok (.iastore, 1) := by decide +kernel
theorem dX3_settle_69 : decode cX3_settle 69 = .ok (.iload_n 3, 1) := by decide +kernel
theorem dX3_settle_70 : decode cX3_settle 70 = .ok (.ifCond .eq 10, 3) := by decide +kernel
theorem dX3_settle_73 : decode cX3_settle 73 = .ok (.aload_n 0, 1) := by decide +kernel
theorem dX3_settle_74 : decode cX3_settle 74 = .ok (.getfield 47, 3) := by decide +kernel
theorem dX3_settle_77 : decode cX3_settle 77 = .ok (.iload_n 1, 1) := by decide +kernel
theorem dX3_settle_78 : decode cX3_settle 78 = .ok (.iload_n 2, 1) := by decide +kernel
theorem dX3_settle_79 : decode cX3_settle 79 = .ok (.iastore, 1) := by decide +kernel
theorem dX3_settle_80 : decode cX3_settle 80 = .ok (.iload_n 3, 1) := by decide +kernel
theorem dX3_settle_81 : decode cX3_settle 81 = .ok (.ireturn, 1) := by decide +kernel
theorem dX3_work_0 : decode cX3_work 0 = .ok (.aload_n 0, 1) := by decide +kernel
theorem dX3_work_1 : decode cX3_work 1 = .ok (.getfield 18, 3) := by decide +kernel
theorem dX3_work_4 : decode cX3_work 4 = .ok (.iload_n 1, 1) := by decide +kernel
theorem dX3_work_5 : decode cX3_work 5 = .ok (.laload, 1) := by decide +kernel
theorem dX3_work_6 : decode cX3_work 6 = .ok (.lstore_n 2, 1) := by decide +kernel
theorem dX3_work_7 : decode cX3_work 7 = .ok (.aload_n 0, 1) := by decide +kernel
theorem dX3_work_8 : decode cX3_work 8 = .ok (.getfield 22, 3) := by decide +kernel
theorem dX3_work_11 : decode cX3_work 11 = .ok (.iload_n 1, 1) := by decide +kernel
theorem dX3_work_12 : decode cX3_work 12 = .ok (.laload, 1) := by decide +kernel
theorem dX3_work_13 : decode cX3_work 13 = .ok (.lstore 4, 2) := by decide +kernel
theorem dX3_work_15 : decode cX3_work 15 = .ok (.aload_n 0, 1) := by decide +kernel
theorem dX3_work_16 : decode cX3_work 16 = .ok (.getfield 53, 3) := by decide +kernel
theorem dX3_work_19 : decode cX3_work 19 = .ok (.getfield 93, 3) := by decide +kernel
theorem dX3_work_22 : decode cX3_work 22 = .ok (.iload_n 1, 1) := by decide +kernel
theorem dX3_work_23 : decode cX3_work 23 = .ok (.iaload, 1) := by decide +kernel
theorem dX3_work_24 : decode cX3_work 24 = .ok (.i2l, 1) := by decide +kernel
theorem dX3_work_25 : decode cX3_work 25 = .ok (.lstore 6, 2) := by decide +kernel
theorem dX3_work_27 : decode cX3_work 27 = .ok (.aload_n 0, 1) := by decide +kernel
theorem dX3_work_28 : decode cX3_work 28 = .ok (.getfield 38, 3) := by decide +kernel
theorem dX3_work_31 : decode cX3_work 31 = .ok (.iload_n 1, 1) := by decide +kernel
theorem dX3_work_32 : decode cX3_work 32 = .ok (.iconst 1, 1) := by decide +kernel
theorem dX3_work_33 : decode cX3_work 33 = .ok (.iastore, 1) := by decide +kernel
theorem dX3_work_34 : decode cX3_work 34 = .ok (.aload_n 0, 1) := by decide +kernel
theorem dX3_work_35 : decode cX3_work 35 = .ok (.getfield 25, 3) := by decide +kernel
theorem dX3_work_38 : decode cX3_work 38 = .ok (.iload_n 1, 1) := by decide +kernel
theorem dX3_work_39 : decode cX3_work 39 = .ok (.iconst 0, 1) := by decide +kernel
theorem dX3_work_40 : decode cX3_work 40 = .ok (.bastore, 1) := by decide +kernel
theorem dX3_work_41 : decode cX3_work 41 = .ok (.aload_n 0, 1) := by decide +kernel
theorem dX3_work_42 : decode cX3_work 42 = .ok (.getfield 29, 3) := by decide +kernel
theorem dX3_work_45 : decode cX3_work 45 = .ok (.iload_n 1, 1) := by decide +kernel
theorem dX3_work_46 : decode cX3_work 46 = .ok (.iconst 0, 1) := by decide +kernel
theorem dX3_work_47 : decode cX3_work 47 = .ok (.bastore, 1) := by decide +kernel
theorem dX3_work_48 : decode cX3_work 48 = .ok (.aload_n 0, 1) := by decide +kernel
theorem dX3_work_49 : decode cX3_work 49 = .ok (.getfield 53, 3) := by decide +kernel
theorem dX3_work_52 : decode cX3_work 52 = .ok (.getfield 96, 3) := by decide +kernel
theorem dX3_work_55 : decode cX3_work 55 = .ok (.iload_n 1, 1) := by decide +kernel
theorem dX3_work_56 : decode cX3_work 56 = .ok (.iaload, 1) := by decide +kernel
theorem dX3_work_57 : decode cX3_work 57 = .ok (.tableswitch 109 0 4 #[35, 45, 60, 73, 93], 35) := by decide +kernel
theorem dX3_work_92 : decode cX3_work 92 = .ok (.aload_n 0, 1) := by decide +kernel
theorem dX3_work_93 : decode cX3_work 93 = .ok (.iload_n 1, 1) := by decide +kernel
theorem dX3_work_94 : decode cX3_work 94 = .ok (.lload 6, 2) := by decide +kernel
theorem dX3_work_96 : decode cX3_work 96 = .ok (.invokevirtual 99, 3) := by decide +kernel
theorem dX3_work_99 : decode cX3_work 99 = .ok (.goto 86, 3) := by decide +kernel
theorem dX3_work_102 : decode cX3_work 102 = .ok (.aload_n 0, 1) := by decide +kernel
theorem dX3_work_103 : decode cX3_work 103 = .ok (.iload_n 1, 1) := by decide +kernel
theorem dX3_work_104 : decode cX3_work 104 = .ok (.lload 4, 2) := by decide +kernel
theorem dX3_work_106 : decode cX3_work 106 = .ok (.lload_n 2, 1) := by decide +kernel
theorem dX3_work_107 : decode cX3_work 107 = .ok (.ladd, 1) := by decide +kernel
theorem dX3_work_108 : decode cX3_work 108 = .ok (.lload 6, 2) := by decide +kernel
theorem dX3_work_110 : decode cX3_work 110 = .ok (.ladd, 1) := by decide +kernel
theorem dX3_work_111 : decode cX3_work 111 = .ok (.invokevirtual 99, 3) := by decide +kernel
theorem dX3_work_114 : decode cX3_work 114 = .ok (.goto 71, 3) := by decide +kernel
theorem dX3_work_117 : decode cX3_work 117 = .ok (.aload_n 0, 1) := by decide +kernel
theorem dX3_work_118 : decode cX3_work 118 = .ok (.iload_n 1, 1) := by decide +kernel
theorem dX3_work_119 : decode cX3_work 119 = .ok (.lload_n 2, 1) := by decide +kernel
theorem dX3_work_120 : decode cX3_work 120 = .ok (.lload 4, 2) := by decide +kernel
theorem dX3_work_122 : decode cX3_work 122 = .ok (.lload 6, 2) := by decide +kernel
theorem dX3_work_124 : decode cX3_work 124 = .ok (.invokevirtual 103, 3) := by decide +kernel
theorem dX3_work_127 : decode cX3_work 127 = .ok (.goto 58, 3) := by decide +kernel
theorem dX3_work_130 : decode cX3_work 130 = .ok (.aload_n 0, 1) := by decide +kernel
theorem dX3_work_131 : decode cX3_work 131 = .ok (.iload_n 1, 1) := by decide +kernel
theorem dX3_work_132 : decode cX3_work 132 = .ok (.lload_n 2, 1) := by decide +kernel
theorem dX3_work_133 : decode cX3_work 133 = .ok (.lload 6, 2) := by decide +kernel
theorem dX3_work_135 : decode cX3_work 135 = .ok (.lcmp, 1) := by decide +kernel
theorem dX3_work_136 : decode cX3_work 136 = .ok (.ifCond .lt 7, 3) := by decide +kernel
theorem dX3_work_139 : decode cX3_work 139 = .ok (.iconst 1, 1) := by decide +kernel
theorem dX3_work_140 : decode cX3_work 140 = .ok (.goto 4, 3) := by decide +kernel
theorem dX3_work_143 : decode cX3_work 143 = .ok (.iconst 0, 1) := by decide +kernel
theorem dX3_work_144 : decode cX3_work 144 = .ok (.invokevirtual 107, 3) := by decide +kernel
theorem dX3_work_147 : decode cX3_work 147 = .ok (.goto 38, 3) := by decide +kernel
theorem dX3_work_150 : decode cX3_work 150 = .ok (.aload_n 0, 1) := by decide +kernel
theorem dX3_work_151 : decode cX3_work 151 = .ok (.iload_n 1, 1) := by decide +kernel
theorem dX3_work_152 : decode cX3_work 152 = .ok (.lload 4, 2) := by decide +kernel
theorem dX3_work_154 : decode cX3_work 154 = .ok (.invokevirtual 111, 3) := by decide +kernel
theorem dX3_work_157 : decode cX3_work 157 = .ok (.aload_n 0, 1) := by decide +kernel
theorem dX3_work_158 : decode cX3_work 158 = .ok (.iload_n 1, 1) := by decide +kernel
theorem dX3_work_159 : decode cX3_work 159 = .ok (.lload_n 2, 1) := by decide +kernel
theorem dX3_work_160 : decode cX3_work 160 = .ok (.invokevirtual 99, 3) := by decide +kernel
theorem dX3_work_163 : decode cX3_work 163 = .ok (.goto 22, 3) := by decide +kernel
theorem dX3_work_166 : decode cX3_work 166 = .ok (.aload_n 0, 1) := by decide +kernel
theorem dX3_work_167 : decode cX3_work 167 = .ok (.iload_n 1, 1) := by decide +kernel
theorem dX3_work_168 : decode cX3_work 168 = .ok (.lload_n 2, 1) := by decide +kernel
theorem dX3_work_169 : decode cX3_work 169 = .ok (.lload 4, 2) := by decide +kernel
theorem dX3_work_171 : decode cX3_work 171 = .ok (.lcmp, 1) := by decide +kernel
theorem dX3_work_172 : decode cX3_work 172 = .ok (.ifCond .ne 7, 3) := by decide +kernel
theorem dX3_work_175 : decode cX3_work 175 = .ok (.iconst 1, 1) := by decide +kernel
theorem dX3_work_176 : decode cX3_work 176 = .ok (.goto 4, 3) := by decide +kernel
theorem dX3_work_179 : decode cX3_work 179 = .ok (.iconst 0, 1) := by decide +kernel
theorem dX3_work_180 : decode cX3_work 180 = .ok (.lload 6, 2) := by decide +kernel
theorem dX3_work_182 : decode cX3_work 182 = .ok (.invokevirtual 114, 3) := by decide +kernel
theorem dX3_work_185 : decode cX3_work 185 = .ok (.return_, 1) := by decide +kernel
theorem dX3_pay_0 : decode cX3_pay 0 = .ok (.aload_n 0, 1) := by decide +kernel
theorem dX3_pay_1 : decode cX3_pay 1 = .ok (.iload_n 1, 1) := by decide +kernel
theorem dX3_pay_2 : decode cX3_pay 2 = .ok (.lload_n 2, 1) := by decide +kernel
theorem dX3_pay_3 : decode cX3_pay 3 = .ok (.lload 6, 2) := by decide +kernel
theorem dX3_pay_5 : decode cX3_pay 5 = .ok (.lcmp, 1) := by decide +kernel
theorem dX3_pay_6 : decode cX3_pay 6 = .ok (.ifCond .lt 14, 3) := by decide +kernel
theorem dX3_pay_9 : decode cX3_pay 9 = .ok (.lload 6, 2) := by decide +kernel
theorem dX3_pay_11 : decode cX3_pay 11 = .ok (.lconst 0, 1) := by decide +kernel
theorem dX3_pay_12 : decode cX3_pay 12 = .ok (.lcmp, 1) := by decide +kernel
theorem dX3_pay_13 : decode cX3_pay 13 = .ok (.ifCond .lt 7, 3) := by decide +kernel
theorem dX3_pay_16 : decode cX3_pay 16 = .ok (.iconst 1, 1) := by decide +kernel
theorem dX3_pay_17 : decode cX3_pay 17 = .ok (.goto 4, 3) := by decide +kernel
theorem dX3_pay_20 : decode cX3_pay 20 = .ok (.iconst 0, 1) := by decide +kernel
theorem dX3_pay_21 : decode cX3_pay 21 = .ok (.invokevirtual 107, 3) := by decide +kernel
theorem dX3_pay_24 : decode cX3_pay 24 = .ok (.aload_n 0, 1) := by decide +kernel
theorem dX3_pay_25 : decode cX3_pay 25 = .ok (.getfield 38, 3) := by decide +kernel
theorem dX3_pay_28 : decode cX3_pay 28 = .ok (.iload_n 1, 1) := by decide +kernel
theorem dX3_pay_29 : decode cX3_pay 29 = .ok (.iaload, 1) := by decide +kernel
theorem dX3_pay_30 : decode cX3_pay 30 = .ok (.iconst 1, 1) := by decide +kernel
theorem dX3_pay_31 : decode cX3_pay 31 = .ok (.if_icmp .ne 43, 3) := by decide +kernel
theorem dX3_pay_34 : decode cX3_pay 34 = .ok (.aload_n 0, 1) := by decide +kernel
theorem dX3_pay_35 : decode cX3_pay 35 = .ok (.getfield 53, 3) := by decide +kernel
theorem dX3_pay_38 : decode cX3_pay 38 = .ok (.getfield 67, 3) := by decide +kernel
theorem dX3_pay_41 : decode cX3_pay 41 = .ok (.iload_n 1, 1) := by decide +kernel
theorem dX3_pay_42 : decode cX3_pay 42 = .ok (.iaload, 1) := by decide +kernel
theorem dX3_pay_43 : decode cX3_pay 43 = .ok (.aload_n 0, 1) := by decide +kernel
theorem dX3_pay_44 : decode cX3_pay 44 = .ok (.getfield 53, 3) := by decide +kernel
theorem dX3_pay_47 : decode cX3_pay 47 = .ok (.getfield 72, 3) := by decide +kernel
theorem dX3_pay_50 : decode cX3_pay 50 = .ok (.iload_n 1, 1) := by decide +kernel
theorem dX3_pay_51 : decode cX3_pay 51 = .ok (.iaload, 1) := by decide +kernel
theorem dX3_pay_52 : decode cX3_pay 52 = .ok (.if_icmp .eq 22, 3) := by decide +kernel
theorem dX3_pay_55 : decode cX3_pay 55 = .ok (.aload_n 0, 1) := by decide +kernel
theorem dX3_pay_56 : decode cX3_pay 56 = .ok (.iload_n 1, 1) := by decide +kernel
theorem dX3_pay_57 : decode cX3_pay 57 = .ok (.lload_n 2, 1) := by decide +kernel
theorem dX3_pay_58 : decode cX3_pay 58 = .ok (.lload 6, 2) := by decide +kernel
theorem dX3_pay_60 : decode cX3_pay 60 = .ok (.lsub, 1) := by decide +kernel
theorem dX3_pay_61 : decode cX3_pay 61 = .ok (.invokevirtual 111, 3) := by decide +kernel
theorem dX3_pay_64 : decode cX3_pay 64 = .ok (.aload_n 0, 1) := by decide +kernel
theorem dX3_pay_65 : decode cX3_pay 65 = .ok (.iload_n 1, 1) := by decide +kernel
theorem dX3_pay_66 : decode cX3_pay 66 = .ok (.lload 4, 2) := by decide +kernel
theorem dX3_pay_68 : decode cX3_pay 68 = .ok (.lload 6, 2) := by decide +kernel
theorem dX3_pay_70 : decode cX3_pay 70 = .ok (.ladd, 1) := by decide +kernel
theorem dX3_pay_71 : decode cX3_pay 71 = .ok (.invokevirtual 99, 3) := by decide +kernel
theorem dX3_pay_74 : decode cX3_pay 74 = .ok (.return_, 1) := by decide +kernel
theorem dX3_meet_0 : decode cX3_meet 0 = .ok (.aload_n 0, 1) := by decide +kernel
theorem dX3_meet_1 : decode cX3_meet 1 = .ok (.iload_n 1, 1) := by decide +kernel
theorem dX3_meet_2 : decode cX3_meet 2 = .ok (.iload_n 2, 1) := by decide +kernel
theorem dX3_meet_3 : decode cX3_meet 3 = .ok (.invokevirtual 107, 3) := by decide +kernel
theorem dX3_meet_6 : decode cX3_meet 6 = .ok (.iload_n 2, 1) := by decide +kernel
theorem dX3_meet_7 : decode cX3_meet 7 = .ok (.ifCond .eq 9, 3) := by decide +kernel
theorem dX3_meet_10 : decode cX3_meet 10 = .ok (.aload_n 0, 1) := by decide +kernel
theorem dX3_meet_11 : decode cX3_meet 11 = .ok (.iload_n 1, 1) := by decide +kernel
theorem dX3_meet_12 : decode cX3_meet 12 = .ok (.lload_n 3, 1) := by decide +kernel
theorem dX3_meet_13 : decode cX3_meet 13 = .ok (.invokevirtual 99, 3) := by decide +kernel
theorem dX3_meet_16 : decode cX3_meet 16 = .ok (.return_, 1) := by decide +kernel
theorem dX3_failUnless_0 : decode cX3_failUnless 0 = .ok (.iload_n 2, 1) := by decide +kernel
theorem dX3_failUnless_1 : decode cX3_failUnless 1 = .ok (.ifCond .ne 10, 3) := by decide +kernel
theorem dX3_failUnless_4 : decode cX3_failUnless 4 = .ok (.aload_n 0, 1) := by decide +kernel
theorem dX3_failUnless_5 : decode cX3_failUnless 5 = .ok (.getfield 38, 3) := by decide +kernel
theorem dX3_failUnless_8 : decode cX3_failUnless 8 = .ok (.iload_n 1, 1) := by decide +kernel
theorem dX3_failUnless_9 : decode cX3_failUnless 9 = .ok (.iconst 2, 1) := by decide +kernel
theorem dX3_failUnless_10 : decode cX3_failUnless 10 = .ok (.iastore, 1) := by decide +kernel
theorem dX3_failUnless_11 : decode cX3_failUnless 11 = .ok (.return_, 1) := by decide +kernel
theorem dX3_giveA_0 : decode cX3_giveA 0 = .ok (.aload_n 0, 1) := by decide +kernel
theorem dX3_giveA_1 : decode cX3_giveA 1 = .ok (.getfield 25, 3) := by decide +kernel
theorem dX3_giveA_4 : decode cX3_giveA 4 = .ok (.iload_n 1, 1) := by decide +kernel
theorem dX3_giveA_5 : decode cX3_giveA 5 = .ok (.iconst 1, 1) := by decide +kernel
theorem dX3_giveA_6 : decode cX3_giveA 6 = .ok (.bastore, 1) := by decide +kernel
theorem dX3_giveA_7 : decode cX3_giveA 7 = .ok (.aload_n 0, 1) := by decide +kernel
theorem dX3_giveA_8 : decode cX3_giveA 8 = .ok (.getfield 32, 3) := by decide +kernel
theorem dX3_giveA_11 : decode cX3_giveA 11 = .ok (.iload_n 1, 1) := by decide +kernel
theorem dX3_giveA_12 : decode cX3_giveA 12 = .ok (.lload_n 2, 1) := by decide +kernel
theorem dX3_giveA_13 : decode cX3_giveA 13 = .ok (.lastore, 1) := by decide +kernel
theorem dX3_giveA_14 : decode cX3_giveA 14 = .ok (.return_, 1) := by decide +kernel
theorem dX3_giveB_0 : decode cX3_giveB 0 = .ok (.aload_n 0, 1) := by decide +kernel
theorem dX3_giveB_1 : decode cX3_giveB 1 = .ok (.getfield 29, 3) := by decide +kernel
theorem dX3_giveB_4 : decode cX3_giveB 4 = .ok (.iload_n 1, 1) := by decide +kernel
theorem dX3_giveB_5 : decode cX3_giveB 5 = .ok (.iconst 1, 1) := by decide +kernel
theorem dX3_giveB_6 : decode cX3_giveB 6 = .ok (.bastore, 1) := by decide +kernel
theorem dX3_giveB_7 : decode cX3_giveB 7 = .ok (.aload_n 0, 1) := by decide +kernel
theorem dX3_giveB_8 : decode cX3_giveB 8 = .ok (.getfield 35, 3) := by decide +kernel
theorem dX3_giveB_11 : decode cX3_giveB 11 = .ok (.iload_n 1, 1) := by decide +kernel
theorem dX3_giveB_12 : decode cX3_giveB 12 = .ok (.lload_n 2, 1) := by decide +kernel
theorem dX3_giveB_13 : decode cX3_giveB 13 = .ok (.lastore, 1) := by decide +kernel
theorem dX3_giveB_14 : decode cX3_giveB 14 = .ok (.return_, 1) := by decide +kernel
theorem dX3_figure_0 : decode cX3_figure 0 = .ok (.iload_n 2, 1) := by decide +kernel
theorem dX3_figure_1 : decode cX3_figure 1 = .ok (.tableswitch 48 0 2 #[27, 34, 41], 27) := by decide +kernel
theorem dX3_figure_28 : decode cX3_figure 28 = .ok (.aload_n 0, 1) := by decide +kernel
theorem dX3_figure_29 : decode cX3_figure 29 = .ok (.getfield 41, 3) := by decide +kernel
theorem dX3_figure_32 : decode cX3_figure 32 = .ok (.iload_n 1, 1) := by decide +kernel
theorem dX3_figure_33 : decode cX3_figure 33 = .ok (.iaload, 1) := by decide +kernel
theorem dX3_figure_34 : decode cX3_figure 34 = .ok (.ireturn, 1) := by decide +kernel
theorem dX3_figure_35 : decode cX3_figure 35 = .ok (.aload_n 0, 1) := by decide +kernel
theorem dX3_figure_36 : decode cX3_figure 36 = .ok (.getfield 44, 3) := by decide +kernel
theorem dX3_figure_39 : decode cX3_figure 39 = .ok (.iload_n 1, 1) := by decide +kernel
theorem dX3_figure_40 : decode cX3_figure 40 = .ok (.iaload, 1) := by decide +kernel
theorem dX3_figure_41 : decode cX3_figure 41 = .ok (.ireturn, 1) := by decide +kernel
theorem dX3_figure_42 : decode cX3_figure 42 = .ok (.aload_n 0, 1) := by decide +kernel
theorem dX3_figure_43 : decode cX3_figure 43 = .ok (.getfield 47, 3) := by decide +kernel
theorem dX3_figure_46 : decode cX3_figure 46 = .ok (.iload_n 1, 1) := by decide +kernel
theorem dX3_figure_47 : decode cX3_figure 47 = .ok (.iaload, 1) := by decide +kernel
theorem dX3_figure_48 : decode cX3_figure 48 = .ok (.ireturn, 1) := by decide +kernel
theorem dX3_figure_49 : decode cX3_figure 49 = .ok (.aload_n 0, 1) := by decide +kernel
theorem dX3_figure_50 : decode cX3_figure 50 = .ok (.getfield 50, 3) := by decide +kernel
theorem dX3_figure_53 : decode cX3_figure 53 = .ok (.iload_n 1, 1) := by decide +kernel
theorem dX3_figure_54 : decode cX3_figure 54 = .ok (.iaload, 1) := by decide +kernel
theorem dX3_figure_55 : decode cX3_figure 55 = .ok (.ireturn, 1) := by decide +kernel
theorem dX3_failures_0 : decode cX3_failures 0 = .ok (.iconst 0, 1) := by decide +kernel
theorem dX3_failures_1 : decode cX3_failures 1 = .ok (.istore_n 2, 1) := by decide +kernel
theorem dX3_failures_2 : decode cX3_failures 2 = .ok (.iconst 0, 1) := by decide +kernel
theorem dX3_failures_3 : decode cX3_failures 3 = .ok (.istore_n 3, 1) := by decide +kernel
theorem dX3_failures_4 : decode cX3_failures 4 = .ok (.iload_n 3, 1) := by decide +kernel
theorem dX3_failures_5 : decode cX3_failures 5 = .ok (.iload_n 1, 1) := by decide +kernel
theorem dX3_failures_6 : decode cX3_failures 6 = .ok (.if_icmp .ge 28, 3) := by decide +kernel
theorem dX3_failures_9 : decode cX3_failures 9 = .ok (.iload_n 3, 1) := by decide +kernel
theorem dX3_failures_10 : decode cX3_failures 10 = .ok (.bipush 40, 2) := by decide +kernel
theorem dX3_failures_12 : decode cX3_failures 12 = .ok (.if_icmp .ge 22, 3) := by decide +kernel
theorem dX3_failures_15 : decode cX3_failures 15 = .ok (.aload_n 0, 1) := by decide +kernel
theorem dX3_failures_16 : decode cX3_failures 16 = .ok (.getfield 38, 3) := by decide +kernel
theorem dX3_failures_19 : decode cX3_failures 19 = .ok (.iload_n 3, 1) := by decide +kernel
theorem dX3_failures_20 : decode cX3_failures 20 = .ok (.iaload, 1) := by decide +kernel
theorem dX3_failures_21 : decode cX3_failures 21 = .ok (.iconst 2, 1) := by decide +kernel
theorem dX3_failures_22 : decode cX3_failures 22 = .ok (.if_icmp .ne 6, 3) := by decide +kernel
theorem dX3_failures_25 : decode cX3_failures 25 = .ok (.iinc 2 1, 3) := by decide +kernel
theorem dX3_failures_28 : decode cX3_failures 28 = .ok (.iinc 3 1, 3) := by decide +kernel
theorem dX3_failures_31 : decode cX3_failures 31 = .ok (.goto (-27), 3) := by decide +kernel
theorem dX3_failures_34 : decode cX3_failures 34 = .ok (.iload_n 2, 1) := by decide +kernel
theorem dX3_failures_35 : decode cX3_failures 35 = .ok (.ireturn, 1) := by decide +kernel

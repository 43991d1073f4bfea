theorem dX4_init_0 : decode cX4_init 0 = .ok (.aload_n 0, 1) := by decide +kernel
theorem dX4_init_1 : decode cX4_init 1 = .ok (.invokespecial 1, 3) := by decide +kernel
theorem dX4_init_4 : decode cX4_init 4 = .ok (.new 7, 3) := by decide +kernel
theorem dX4_init_7 : decode cX4_init 7 = .ok (.dup, 1) := by decide +kernel
theorem dX4_init_8 : decode cX4_init 8 = .ok (.invokespecial 9, 3) := by decide +kernel
theorem dX4_init_11 : decode cX4_init 11 = .ok (.astore_n 1, 1) := by decide +kernel
theorem dX4_init_12 : decode cX4_init 12 = .ok (.aload_n 0, 1) := by decide +kernel
theorem dX4_init_13 : decode cX4_init 13 = .ok (.aload_n 1, 1) := by decide +kernel
theorem dX4_init_14 : decode cX4_init 14 = .ok (.putfield 10, 3) := by decide +kernel
theorem dX4_init_17 : decode cX4_init 17 = .ok (.aload_n 0, 1) := by decide +kernel
theorem dX4_init_18 : decode cX4_init 18 = .ok (.new 16, 3) := by decide +kernel
theorem dX4_init_21 : decode cX4_init 21 = .ok (.dup, 1) := by decide +kernel
theorem dX4_init_22 : decode cX4_init 22 = .ok (.aload_n 1, 1) := by decide +kernel
theorem dX4_init_23 : decode cX4_init 23 = .ok (.invokespecial 18, 3) := by decide +kernel
theorem dX4_init_26 : decode cX4_init 26 = .ok (.putfield 21, 3) := by decide +kernel
theorem dX4_init_29 : decode cX4_init 29 = .ok (.aload_n 0, 1) := by decide +kernel
theorem dX4_init_30 : decode cX4_init 30 = .ok (.new 16, 3) := by decide +kernel
theorem dX4_init_33 : decode cX4_init 33 = .ok (.dup, 1) := by decide +kernel
theorem dX4_init_34 : decode cX4_init 34 = .ok (.aload_n 1, 1) := by decide +kernel
theorem dX4_init_35 : decode cX4_init 35 = .ok (.invokespecial 18, 3) := by decide +kernel
theorem dX4_init_38 : decode cX4_init 38 = .ok (.putfield 25, 3) := by decide +kernel
theorem dX4_init_41 : decode cX4_init 41 = .ok (.aload_n 0, 1) := by decide +kernel
theorem dX4_init_42 : decode cX4_init 42 = .ok (.new 16, 3) := by decide +kernel
theorem dX4_init_45 : decode cX4_init 45 = .ok (.dup, 1) := by decide +kernel
theorem dX4_init_46 : decode cX4_init 46 = .ok (.aload_n 1, 1) := by decide +kernel
theorem dX4_init_47 : decode cX4_init 47 = .ok (.invokespecial 18, 3) := by decide +kernel
theorem dX4_init_50 : decode cX4_init 50 = .ok (.putfield 28, 3) := by decide +kernel
theorem dX4_init_53 : decode cX4_init 53 = .ok (.return_, 1) := by decide +kernel
theorem dX4_call_0 : decode cX4_call 0 = .ok (.iload_n 1, 1) := by decide +kernel
theorem dX4_call_1 : decode cX4_call 1 = .ok (.iconst 0, 1) := by decide +kernel
theorem dX4_call_2 : decode cX4_call 2 = .ok (.iconst 5, 1) := by decide +kernel
theorem dX4_call_3 : decode cX4_call 3 = .ok (.invokestatic 31, 3) := by decide +kernel
theorem dX4_call_6 : decode cX4_call 6 = .ok (.ifCond .eq 23, 3) := by decide +kernel
theorem dX4_call_9 : decode cX4_call 9 = .ok (.iload_n 2, 1) := by decide +kernel
theorem dX4_call_10 : decode cX4_call 10 = .ok (.iconst 0, 1) := by decide +kernel
theorem dX4_call_11 : decode cX4_call 11 = .ok (.bipush 7, 2) := by decide +kernel
theorem dX4_call_13 : decode cX4_call 13 = .ok (.invokestatic 31, 3) := by decide +kernel
theorem dX4_call_16 : decode cX4_call 16 = .ok (.ifCond .eq 13, 3) := by decide +kernel
theorem dX4_call_19 : decode cX4_call 19 = .ok (.iload_n 3, 1) := by decide +kernel
theorem dX4_call_20 : decode cX4_call 20 = .ok (.iconst 0, 1) := by decide +kernel
theorem dX4_call_21 : decode cX4_call 21 = .ok (.bipush 7, 2) := by decide +kernel
theorem dX4_call_23 : decode cX4_call 23 = .ok (.invokestatic 31, 3) := by decide +kernel
theorem dX4_call_26 : decode cX4_call 26 = .ok (.ifCond .ne 6, 3) := by decide +kernel
theorem dX4_call_29 : decode cX4_call 29 = .ok (.bipush (-2), 2) := by decide +kernel
theorem dX4_call_31 : decode cX4_call 31 = .ok (.ireturn, 1) := by decide +kernel
theorem dX4_call_32 : decode cX4_call 32 = .ok (.iload 4, 2) := by decide +kernel
theorem dX4_call_34 : decode cX4_call 34 = .ok (.ldc 35, 2) := by decide +kernel
theorem dX4_call_36 : decode cX4_call 36 = .ok (.ldc 36, 2) := by decide +kernel
theorem dX4_call_38 : decode cX4_call 38 = .ok (.invokestatic 31, 3) := by decide +kernel
theorem dX4_call_41 : decode cX4_call 41 = .ok (.ifCond .eq 14, 3) := by decide +kernel
theorem dX4_call_44 : decode cX4_call 44 = .ok (.iload 5, 2) := by decide +kernel
theorem dX4_call_46 : decode cX4_call 46 = .ok (.iconst 1, 1) := by decide +kernel
theorem dX4_call_47 : decode cX4_call 47 = .ok (.bipush 9, 2) := by decide +kernel
theorem dX4_call_49 : decode cX4_call 49 = .ok (.invokestatic 31, 3) := by decide +kernel
theorem dX4_call_52 : decode cX4_call 52 = .ok (.ifCond .ne 6, 3) := by decide +kernel
theorem dX4_call_55 : decode cX4_call 55 = .ok (.bipush (-2), 2) := by decide +kernel
theorem dX4_call_57 : decode cX4_call 57 = .ok (.ireturn, 1) := by decide +kernel
theorem dX4_call_58 : decode cX4_call 58 = .ok (.aload_n 0, 1) := by decide +kernel
theorem dX4_call_59 : decode cX4_call 59 = .ok (.getfield 10, 3) := by decide +kernel
theorem dX4_call_62 : decode cX4_call 62 = .ok (.iload_n 1, 1) := by decide +kernel
theorem dX4_call_63 : decode cX4_call 63 = .ok (.iload_n 2, 1) := by decide +kernel
theorem dX4_call_64 : decode cX4_call 64 = .ok (.iload_n 3, 1) := by decide +kernel
theorem dX4_call_65 : decode cX4_call 65 = .ok (.iload 4, 2) := by decide +kernel
theorem dX4_call_67 : decode cX4_call 67 = .ok (.iload 5, 2) := by decide +kernel
theorem dX4_call_69 : decode cX4_call 69 = .ok (.invokevirtual 37, 3) := by decide +kernel
theorem dX4_call_72 : decode cX4_call 72 = .ok (.ireturn, 1) := by decide +kernel
theorem dX4_clear_0 : decode cX4_clear 0 = .ok (.aload_n 0, 1) := by decide +kernel
theorem dX4_clear_1 : decode cX4_clear 1 = .ok (.getfield 10, 3) := by decide +kernel
theorem dX4_clear_4 : decode cX4_clear 4 = .ok (.getfield 41, 3) := by decide +kernel
theorem dX4_clear_7 : decode cX4_clear 7 = .ok (.istore_n 1, 1) := by decide +kernel
theorem dX4_clear_8 : decode cX4_clear 8 = .ok (.aload_n 0, 1) := by decide +kernel
theorem dX4_clear_9 : decode cX4_clear 9 = .ok (.getfield 10, 3) := by decide +kernel
theorem dX4_clear_12 : decode cX4_clear 12 = .ok (.iconst 0, 1) := by decide +kernel
theorem dX4_clear_13 : decode cX4_clear 13 = .ok (.putfield 41, 3) := by decide +kernel
theorem dX4_clear_16 : decode cX4_clear 16 = .ok (.aload_n 0, 1) := by decide +kernel
theorem dX4_clear_17 : decode cX4_clear 17 = .ok (.iconst 0, 1) := by decide +kernel
theorem dX4_clear_18 : decode cX4_clear 18 = .ok (.putfield 45, 3) := by decide +kernel
theorem dX4_clear_21 : decode cX4_clear 21 = .ok (.aload_n 0, 1) := by decide +kernel
theorem dX4_clear_22 : decode cX4_clear 22 = .ok (.iconst 0, 1) := by decide +kernel
theorem dX4_clear_23 : decode cX4_clear 23 = .ok (.putfield 49, 3) := by decide +kernel
theorem dX4_clear_26 : decode cX4_clear 26 = .ok (.aload_n 0, 1) := by decide +kernel
theorem dX4_clear_27 : decode cX4_clear 27 = .ok (.iconst 0, 1) := by decide +kernel
theorem dX4_clear_28 : decode cX4_clear 28 = .ok (.putfield 52, 3) := by decide +kernel
theorem dX4_clear_31 : decode cX4_clear 31 = .ok (.iload_n 1, 1) := by decide +kernel
theorem dX4_clear_32 : decode cX4_clear 32 = .ok (.ireturn, 1) := by decide +kernel
theorem dX4_gone_0 : decode cX4_gone 0 = .ok (.iload_n 1, 1) := by decide +kernel
theorem dX4_gone_1 : decode cX4_gone 1 = .ok (.iconst 0, 1) := by decide +kernel
theorem dX4_gone_2 : decode cX4_gone 2 = .ok (.bipush 15, 2) := by decide +kernel
theorem dX4_gone_4 : decode cX4_gone 4 = .ok (.invokestatic 31, 3) := by decide +kernel
theorem dX4_gone_7 : decode cX4_gone 7 = .ok (.ifCond .eq 13, 3) := by decide +kernel
theorem dX4_gone_10 : decode cX4_gone 10 = .ok (.iload_n 2, 1) := by decide +kernel
theorem dX4_gone_11 : decode cX4_gone 11 = .ok (.iconst 0, 1) := by decide +kernel
theorem dX4_gone_12 : decode cX4_gone 12 = .ok (.bipush 99, 2) := by decide +kernel
theorem dX4_gone_14 : decode cX4_gone 14 = .ok (.invokestatic 31, 3) := by decide +kernel
theorem dX4_gone_17 : decode cX4_gone 17 = .ok (.ifCond .ne 6, 3) := by decide +kernel
theorem dX4_gone_20 : decode cX4_gone 20 = .ok (.bipush (-2), 2) := by decide +kernel
theorem dX4_gone_22 : decode cX4_gone 22 = .ok (.ireturn, 1) := by decide +kernel
theorem dX4_gone_23 : decode cX4_gone 23 = .ok (.aload_n 0, 1) := by decide +kernel
theorem dX4_gone_24 : decode cX4_gone 24 = .ok (.getfield 10, 3) := by decide +kernel
theorem dX4_gone_27 : decode cX4_gone 27 = .ok (.getfield 55, 3) := by decide +kernel
theorem dX4_gone_30 : decode cX4_gone 30 = .ok (.iload_n 1, 1) := by decide +kernel
theorem dX4_gone_31 : decode cX4_gone 31 = .ok (.iaload, 1) := by decide +kernel
theorem dX4_gone_32 : decode cX4_gone 32 = .ok (.istore_n 3, 1) := by decide +kernel
theorem dX4_gone_33 : decode cX4_gone 33 = .ok (.aload_n 0, 1) := by decide +kernel
theorem dX4_gone_34 : decode cX4_gone 34 = .ok (.getfield 10, 3) := by decide +kernel
theorem dX4_gone_37 : decode cX4_gone 37 = .ok (.getfield 55, 3) := by decide +kernel
theorem dX4_gone_40 : decode cX4_gone 40 = .ok (.iload_n 1, 1) := by decide +kernel
theorem dX4_gone_41 : decode cX4_gone 41 = .ok (.iload_n 2, 1) := by decide +kernel
theorem dX4_gone_42 : decode cX4_gone 42 = .ok (.iastore, 1) := by decide +kernel
theorem dX4_gone_43 : decode cX4_gone 43 = .ok (.iload_n 3, 1) := by decide +kernel
theorem dX4_gone_44 : decode cX4_gone 44 = .ok (.ireturn, 1) := by decide +kernel
theorem dX4_run_0 : decode cX4_run 0 = .ok (.iload_n 1, 1) := by decide +kernel
theorem dX4_run_1 : decode cX4_run 1 = .ok (.iconst 0, 1) := by decide +kernel
theorem dX4_run_2 : decode cX4_run 2 = .ok (.aload_n 0, 1) := by decide +kernel
theorem dX4_run_3 : decode cX4_run 3 = .ok (.getfield 10, 3) := by decide +kernel
theorem dX4_run_6 : decode cX4_run 6 = .ok (.getfield 41, 3) := by decide +kernel
theorem dX4_run_9 : decode cX4_run 9 = .ok (.invokestatic 31, 3) := by decide +kernel
theorem dX4_run_12 : decode cX4_run 12 = .ok (.ifCond .eq 21, 3) := by decide +kernel
theorem dX4_run_15 : decode cX4_run 15 = .ok (.iload_n 2, 1) := by decide +kernel
theorem dX4_run_16 : decode cX4_run 16 = .ok (.invokestatic 59, 3) := by decide +kernel
theorem dX4_run_19 : decode cX4_run 19 = .ok (.ifCond .eq 14, 3) := by decide +kernel
theorem dX4_run_22 : decode cX4_run 22 = .ok (.iload 4, 2) := by decide +kernel
theorem dX4_run_24 : decode cX4_run 24 = .ok (.iconst 1, 1) := by decide +kernel
theorem dX4_run_25 : decode cX4_run 25 = .ok (.bipush 40, 2) := by decide +kernel
theorem dX4_run_27 : decode cX4_run 27 = .ok (.invokestatic 31, 3) := by decide +kernel
theorem dX4_run_30 : decode cX4_run 30 = .ok (.ifCond .ne 6, 3) := by decide +kernel
theorem dX4_run_33 : decode cX4_run 33 = .ok (.bipush (-2), 2) := by decide +kernel
theorem dX4_run_35 : decode cX4_run 35 = .ok (.ireturn, 1) := by decide +kernel
theorem dX4_run_36 : decode cX4_run 36 = .ok (.aload_n 0, 1) := by decide +kernel
theorem dX4_run_37 : decode cX4_run 37 = .ok (.getfield 25, 3) := by decide +kernel
theorem dX4_run_40 : decode cX4_run 40 = .ok (.iload_n 1, 1) := by decide +kernel
theorem dX4_run_41 : decode cX4_run 41 = .ok (.iload_n 2, 1) := by decide +kernel
theorem dX4_run_42 : decode cX4_run 42 = .ok (.iload_n 3, 1) := by decide +kernel
theorem dX4_run_43 : decode cX4_run 43 = .ok (.iload 4, 2) := by decide +kernel
theorem dX4_run_45 : decode cX4_run 45 = .ok (.invokevirtual 63, 3) := by decide +kernel
theorem dX4_run_48 : decode cX4_run 48 = .ok (.ifCond .ne 16, 3) := by decide +kernel
theorem dX4_run_51 : decode cX4_run 51 = .ok (.aload_n 0, 1) := by decide +kernel
theorem dX4_run_52 : decode cX4_run 52 = .ok (.dup, 1) := by decide +kernel
theorem dX4_run_53 : decode cX4_run 53 = .ok (.getfield 52, 3) := by decide +kernel
theorem dX4_run_56 : decode cX4_run 56 = .ok (.iconst 1, 1) := by decide +kernel
theorem dX4_run_57 : decode cX4_run 57 = .ok (.iadd, 1) := by decide +kernel
theorem dX4_run_58 : decode cX4_run 58 = .ok (.putfield 52, 3) := by decide +kernel
theorem dX4_run_61 : decode cX4_run 61 = .ok (.bipush (-5), 2) := by decide +kernel
theorem dX4_run_63 : decode cX4_run 63 = .ok (.ireturn, 1) := by decide +kernel
theorem dX4_run_64 : decode cX4_run 64 = .ok (.aload_n 0, 1) := by decide +kernel
theorem dX4_run_65 : decode cX4_run 65 = .ok (.getfield 25, 3) := by decide +kernel
theorem dX4_run_68 : decode cX4_run 68 = .ok (.astore 5, 2) := by decide +kernel
theorem dX4_run_70 : decode cX4_run 70 = .ok (.aload_n 0, 1) := by decide +kernel
theorem dX4_run_71 : decode cX4_run 71 = .ok (.aload_n 0, 1) := by decide +kernel
theorem dX4_run_72 : decode cX4_run 72 = .ok (.getfield 21, 3) := by decide +kernel
theorem dX4_run_75 : decode cX4_run 75 = .ok (.putfield 25, 3) := by decide +kernel
theorem dX4_run_78 : decode cX4_run 78 = .ok (.aload_n 0, 1) := by decide +kernel
theorem dX4_run_79 : decode cX4_run 79 = .ok (.aload 5, 2) := by decide +kernel
theorem dX4_run_81 : decode cX4_run 81 = .ok (.putfield 21, 3) := by decide +kernel
theorem dX4_run_84 : decode cX4_run 84 = .ok (.aload_n 0, 1) := by decide +kernel
theorem dX4_run_85 : decode cX4_run 85 = .ok (.iconst 1, 1) := by decide +kernel
theorem dX4_run_86 : decode cX4_run 86 = .ok (.putfield 45, 3) := by decide +kernel
theorem dX4_run_89 : decode cX4_run 89 = .ok (.aload_n 0, 1) := by decide +kernel
theorem dX4_run_90 : decode cX4_run 90 = .ok (.dup, 1) := by decide +kernel
theorem dX4_run_91 : decode cX4_run 91 = .ok (.getfield 49, 3) := by decide +kernel
theorem dX4_run_94 : decode cX4_run 94 = .ok (.iconst 1, 1) := by decide +kernel
theorem dX4_run_95 : decode cX4_run 95 = .ok (.iadd, 1) := by decide +kernel
theorem dX4_run_96 : decode cX4_run 96 = .ok (.putfield 49, 3) := by decide +kernel
theorem dX4_run_99 : decode cX4_run 99 = .ok (.aload 5, 2) := by decide +kernel
theorem dX4_run_101 : decode cX4_run 101 = .ok (.getfield 67, 3) := by decide +kernel
theorem dX4_run_104 : decode cX4_run 104 = .ok (.ireturn, 1) := by decide +kernel
theorem dX4_amount_0 : decode cX4_amount 0 = .ok (.aload_n 0, 1) := by decide +kernel
theorem dX4_amount_1 : decode cX4_amount 1 = .ok (.getfield 45, 3) := by decide +kernel
theorem dX4_amount_4 : decode cX4_amount 4 = .ok (.ifCond .eq 13, 3) := by decide +kernel
theorem dX4_amount_7 : decode cX4_amount 7 = .ok (.iload_n 1, 1) := by decide +kernel
theorem dX4_amount_8 : decode cX4_amount 8 = .ok (.iconst 0, 1) := by decide +kernel
theorem dX4_amount_9 : decode cX4_amount 9 = .ok (.bipush 7, 2) := by decide +kernel
theorem dX4_amount_11 : decode cX4_amount 11 = .ok (.invokestatic 31, 3) := by decide +kernel
theorem dX4_amount_14 : decode cX4_amount 14 = .ok (.ifCond .ne 5, 3) := by decide +kernel
theorem dX4_amount_17 : decode cX4_amount 17 = .ok (.lconst 0, 1) := by decide +kernel
theorem dX4_amount_18 : decode cX4_amount 18 = .ok (.lreturn, 1) := by decide +kernel
theorem dX4_amount_19 : decode cX4_amount 19 = .ok (.aload_n 0, 1) := by decide +kernel
theorem dX4_amount_20 : decode cX4_amount 20 = .ok (.getfield 21, 3) := by decide +kernel
theorem dX4_amount_23 : decode cX4_amount 23 = .ok (.getfield 70, 3) := by decide +kernel
theorem dX4_amount_26 : decode cX4_amount 26 = .ok (.aload_n 0, 1) := by decide +kernel
theorem dX4_amount_27 : decode cX4_amount 27 = .ok (.getfield 21, 3) := by decide +kernel
theorem dX4_amount_30 : decode cX4_amount 30 = .ok (.getfield 74, 3) := by decide +kernel
theorem dX4_amount_33 : decode cX4_amount 33 = .ok (.iload_n 1, 1) := by decide +kernel
theorem dX4_amount_34 : decode cX4_amount 34 = .ok (.invokevirtual 77, 3) := by decide +kernel
theorem dX4_amount_37 : decode cX4_amount 37 = .ok (.lreturn, 1) := by decide +kernel
theorem dX4_behind_0 : decode cX4_behind 0 = .ok (.aload_n 0, 1) := by decide +kernel
theorem dX4_behind_1 : decode cX4_behind 1 = .ok (.getfield 45, 3) := by decide +kernel
theorem dX4_behind_4 : decode cX4_behind 4 = .ok (.ifCond .eq 13, 3) := by decide +kernel
theorem dX4_behind_7 : decode cX4_behind 7 = .ok (.aload_n 0, 1) := by decide +kernel
theorem dX4_behind_8 : decode cX4_behind 8 = .ok (.getfield 21, 3) := by decide +kernel
theorem dX4_behind_11 : decode cX4_behind 11 = .ok (.getfield 74, 3) := by decide +kernel
theorem dX4_behind_14 : decode cX4_behind 14 = .ok (.goto 5, 3) := by decide +kernel
theorem dX4_behind_17 : decode cX4_behind 17 = .ok (.bipush 40, 2) := by decide +kernel
theorem dX4_behind_19 : decode cX4_behind 19 = .ok (.istore_n 3, 1) := by decide +kernel
theorem dX4_behind_20 : decode cX4_behind 20 = .ok (.iload_n 1, 1) := by decide +kernel
theorem dX4_behind_21 : decode cX4_behind 21 = .ok (.iconst 0, 1) := by decide +kernel
theorem dX4_behind_22 : decode cX4_behind 22 = .ok (.iload_n 3, 1) := by decide +kernel
theorem dX4_behind_23 : decode cX4_behind 23 = .ok (.invokestatic 31, 3) := by decide +kernel
theorem dX4_behind_26 : decode cX4_behind 26 = .ok (.ifCond .eq 13, 3) := by decide +kernel
theorem dX4_behind_29 : decode cX4_behind 29 = .ok (.iload_n 2, 1) := by decide +kernel
theorem dX4_behind_30 : decode cX4_behind 30 = .ok (.iconst 0, 1) := by decide +kernel
theorem dX4_behind_31 : decode cX4_behind 31 = .ok (.bipush 7, 2) := by decide +kernel
theorem dX4_behind_33 : decode cX4_behind 33 = .ok (.invokestatic 31, 3) := by decide +kernel
theorem dX4_behind_36 : decode cX4_behind 36 = .ok (.ifCond .ne 7, 3) := by decide +kernel
theorem dX4_behind_39 : decode cX4_behind 39 = .ok (.ldc2_w 83, 3) := by decide +kernel
theorem dX4_behind_42 : decode cX4_behind 42 = .ok (.lreturn, 1) := by decide +kernel
theorem dX4_behind_43 : decode cX4_behind 43 = .ok (.aload_n 0, 1) := by decide +kernel
theorem dX4_behind_44 : decode cX4_behind 44 = .ok (.getfield 45, 3) := by decide +kernel
theorem dX4_behind_47 : decode cX4_behind 47 = .ok (.ifCond .ne 7, 3) := by decide +kernel
theorem dX4_behind_50 : decode cX4_behind 50 = .ok (.ldc2_w 85, 3) := by decide +kernel
theorem dX4_behind_53 : decode cX4_behind 53 = .ok (.lreturn, 1) := by decide +kernel
theorem dX4_behind_54 : decode cX4_behind 54 = .ok (.aload_n 0, 1) := by decide +kernel
theorem dX4_behind_55 : decode cX4_behind 55 = .ok (.getfield 21, 3) := by decide +kernel
theorem dX4_behind_58 : decode cX4_behind 58 = .ok (.getfield 70, 3) := by decide +kernel
theorem dX4_behind_61 : decode cX4_behind 61 = .ok (.iload_n 1, 1) := by decide +kernel
theorem dX4_behind_62 : decode cX4_behind 62 = .ok (.iload_n 2, 1) := by decide +kernel
theorem dX4_behind_63 : decode cX4_behind 63 = .ok (.invokevirtual 77, 3) := by decide +kernel
theorem dX4_behind_66 : decode cX4_behind 66 = .ok (.lreturn, 1) := by decide +kernel
theorem dX4_outcome_0 : decode cX4_outcome 0 = .ok (.aload_n 0, 1) := by decide +kernel
theorem dX4_outcome_1 : decode cX4_outcome 1 = .ok (.iload_n 1, 1) := by decide +kernel
theorem dX4_outcome_2 : decode cX4_outcome 2 = .ok (.invokevirtual 87, 3) := by decide +kernel
theorem dX4_outcome_5 : decode cX4_outcome 5 = .ok (.ifCond .ne 6, 3) := by decide +kernel
theorem dX4_outcome_8 : decode cX4_outcome 8 = .ok (.bipush (-2), 2) := by decide +kernel
theorem dX4_outcome_10 : decode cX4_outcome 10 = .ok (.ireturn, 1) := by decide +kernel
theorem dX4_outcome_11 : decode cX4_outcome 11 = .ok (.aload_n 0, 1) := by decide +kernel
theorem dX4_outcome_12 : decode cX4_outcome 12 = .ok (.iload_n 1, 1) := by decide +kernel
theorem dX4_outcome_13 : decode cX4_outcome 13 = .ok (.invokevirtual 90, 3) := by decide +kernel
theorem dX4_outcome_16 : decode cX4_outcome 16 = .ok (.ifCond .eq 18, 3) := by decide +kernel
theorem dX4_outcome_19 : decode cX4_outcome 19 = .ok (.aload_n 0, 1) := by decide +kernel
theorem dX4_outcome_20 : decode cX4_outcome 20 = .ok (.getfield 21, 3) := by decide +kernel
theorem dX4_outcome_23 : decode cX4_outcome 23 = .ok (.getfield 70, 3) := by decide +kernel
theorem dX4_outcome_26 : decode cX4_outcome 26 = .ok (.getfield 93, 3) := by decide +kernel
theorem dX4_outcome_29 : decode cX4_outcome 29 = .ok (.iload_n 1, 1) := by decide +kernel
theorem dX4_outcome_30 : decode cX4_outcome 30 = .ok (.iaload, 1) := by decide +kernel
theorem dX4_outcome_31 : decode cX4_outcome 31 = .ok (.goto 4, 3) := by decide +kernel
theorem dX4_outcome_34 : decode cX4_outcome 34 = .ok (.iconst 0, 1) := by decide +kernel
theorem dX4_outcome_35 : decode cX4_outcome 35 = .ok (.ireturn, 1) := by decide +kernel
theorem dX4_of_0 : decode cX4_of 0 = .ok (.aload_n 0, 1) := by decide +kernel
theorem dX4_of_1 : decode cX4_of 1 = .ok (.iload_n 1, 1) := by decide +kernel
theorem dX4_of_2 : decode cX4_of 2 = .ok (.invokevirtual 87, 3) := by decide +kernel
theorem dX4_of_5 : decode cX4_of 5 = .ok (.ifCond .eq 12, 3) := by decide +kernel
theorem dX4_of_8 : decode cX4_of 8 = .ok (.iload_n 2, 1) := by decide +kernel
theorem dX4_of_9 : decode cX4_of 9 = .ok (.iconst 0, 1) := by decide +kernel
theorem dX4_of_10 : decode cX4_of 10 = .ok (.iconst 3, 1) := by decide +kernel
theorem dX4_of_11 : decode cX4_of 11 = .ok (.invokestatic 31, 3) := by decide +kernel
theorem dX4_of_14 : decode cX4_of 14 = .ok (.ifCond .ne 6, 3) := by decide +kernel
theorem dX4_of_17 : decode cX4_of 17 = .ok (.bipush (-2), 2) := by decide +kernel
theorem dX4_of_19 : decode cX4_of 19 = .ok (.ireturn, 1) := by decide +kernel
theorem dX4_of_20 : decode cX4_of 20 = .ok (.aload_n 0, 1) := by decide +kernel
theorem dX4_of_21 : decode cX4_of 21 = .ok (.iload_n 1, 1) := by decide +kernel
theorem dX4_of_22 : decode cX4_of 22 = .ok (.invokevirtual 90, 3) := by decide +kernel
theorem dX4_of_25 : decode cX4_of 25 = .ok (.ifCond .eq 18, 3) := by decide +kernel
theorem dX4_of_28 : decode cX4_of 28 = .ok (.aload_n 0, 1) := by decide +kernel
theorem dX4_of_29 : decode cX4_of 29 = .ok (.getfield 21, 3) := by decide +kernel
theorem dX4_of_32 : decode cX4_of 32 = .ok (.getfield 70, 3) := by decide +kernel
theorem dX4_of_35 : decode cX4_of 35 = .ok (.iload_n 1, 1) := by decide +kernel
theorem dX4_of_36 : decode cX4_of 36 = .ok (.iload_n 2, 1) := by decide +kernel
theorem dX4_of_37 : decode cX4_of 37 = .ok (.invokevirtual 96, 3) := by decide +kernel
theorem dX4_of_40 : decode cX4_of 40 = .ok (.goto 4, 3) := by decide +kernel
theorem dX4_of_43 : decode cX4_of 43 = .ok (.iconst (-1), 1) := by decide +kernel
theorem dX4_of_44 : decode cX4_of 44 = .ok (.ireturn, 1) := by decide +kernel
theorem dX4_told_0 : decode cX4_told 0 = .ok (.iload_n 1, 1) := by decide +kernel
theorem dX4_told_1 : decode cX4_told 1 = .ok (.iconst 0, 1) := by decide +kernel
theorem dX4_told_2 : decode cX4_told 2 = .ok (.bipush 7, 2) := by decide +kernel
theorem dX4_told_4 : decode cX4_told 4 = .ok (.invokestatic 31, 3) := by decide +kernel
theorem dX4_told_7 : decode cX4_told 7 = .ok (.ifCond .ne 6, 3) := by decide +kernel
theorem dX4_told_10 : decode cX4_told 10 = .ok (.bipush (-2), 2) := by decide +kernel
theorem dX4_told_12 : decode cX4_told 12 = .ok (.ireturn, 1) := by decide +kernel
theorem dX4_told_13 : decode cX4_told 13 = .ok (.aload_n 0, 1) := by decide +kernel
theorem dX4_told_14 : decode cX4_told 14 = .ok (.getfield 45, 3) := by decide +kernel
theorem dX4_told_17 : decode cX4_told 17 = .ok (.ifCond .eq 14, 3) := by decide +kernel
theorem dX4_told_20 : decode cX4_told 20 = .ok (.aload_n 0, 1) := by decide +kernel
theorem dX4_told_21 : decode cX4_told 21 = .ok (.getfield 21, 3) := by decide +kernel
theorem dX4_told_24 : decode cX4_told 24 = .ok (.iload_n 1, 1) := by decide +kernel
theorem dX4_told_25 : decode cX4_told 25 = .ok (.invokevirtual 100, 3) := by decide +kernel
theorem dX4_told_28 : decode cX4_told 28 = .ok (.goto 5, 3) := by decide +kernel
theorem dX4_told_31 : decode cX4_told 31 = .ok (.bipush (-3), 2) := by decide +kernel
theorem dX4_told_33 : decode cX4_told 33 = .ok (.ireturn, 1) := by decide +kernel
theorem dX4_same_0 : decode cX4_same 0 = .ok (.iload_n 1, 1) := by decide +kernel
theorem dX4_same_1 : decode cX4_same 1 = .ok (.invokestatic 59, 3) := by decide +kernel
theorem dX4_same_4 : decode cX4_same 4 = .ok (.ifCond .eq 10, 3) := by decide +kernel
theorem dX4_same_7 : decode cX4_same 7 = .ok (.iload_n 3, 1) := by decide +kernel
theorem dX4_same_8 : decode cX4_same 8 = .ok (.invokestatic 59, 3) := by decide +kernel
theorem dX4_same_11 : decode cX4_same 11 = .ok (.ifCond .ne 5, 3) := by decide +kernel
theorem dX4_same_14 : decode cX4_same 14 = .ok (.iconst 0, 1) := by decide +kernel
theorem dX4_same_15 : decode cX4_same 15 = .ok (.ireturn, 1) := by decide +kernel
theorem dX4_same_16 : decode cX4_same 16 = .ok (.aload_n 0, 1) := by decide +kernel
theorem dX4_same_17 : decode cX4_same 17 = .ok (.getfield 25, 3) := by decide +kernel
theorem dX4_same_20 : decode cX4_same 20 = .ok (.aload_n 0, 1) := by decide +kernel
theorem dX4_same_21 : decode cX4_same 21 = .ok (.getfield 10, 3) := by decide +kernel
theorem dX4_same_24 : decode cX4_same 24 = .ok (.getfield 41, 3) := by decide +kernel
theorem dX4_same_27 : decode cX4_same 27 = .ok (.iload_n 1, 1) := by decide +kernel
theorem dX4_same_28 : decode cX4_same 28 = .ok (.iload_n 2, 1) := by decide +kernel
theorem dX4_same_29 : decode cX4_same 29 = .ok (.bipush 40, 2) := by decide +kernel
theorem dX4_same_31 : decode cX4_same 31 = .ok (.invokevirtual 63, 3) := by decide +kernel
theorem dX4_same_34 : decode cX4_same 34 = .ok (.ifCond .eq 43, 3) := by decide +kernel
theorem dX4_same_37 : decode cX4_same 37 = .ok (.aload_n 0, 1) := by decide +kernel
theorem dX4_same_38 : decode cX4_same 38 = .ok (.getfield 28, 3) := by decide +kernel
theorem dX4_same_41 : decode cX4_same 41 = .ok (.aload_n 0, 1) := by decide +kernel
theorem dX4_same_42 : decode cX4_same 42 = .ok (.getfield 10, 3) := by decide +kernel
theorem dX4_same_45 : decode cX4_same 45 = .ok (.getfield 41, 3) := by decide +kernel
theorem dX4_same_48 : decode cX4_same 48 = .ok (.iload_n 3, 1) := by decide +kernel
theorem dX4_same_49 : decode cX4_same 49 = .ok (.iload 4, 2) := by decide +kernel
theorem dX4_same_51 : decode cX4_same 51 = .ok (.bipush 40, 2) := by decide +kernel
theorem dX4_same_53 : decode cX4_same 53 = .ok (.invokevirtual 63, 3) := by decide +kernel
theorem dX4_same_56 : decode cX4_same 56 = .ok (.ifCond .eq 21, 3) := by decide +kernel
theorem dX4_same_59 : decode cX4_same 59 = .ok (.aload_n 0, 1) := by decide +kernel
theorem dX4_same_60 : decode cX4_same 60 = .ok (.getfield 25, 3) := by decide +kernel
theorem dX4_same_63 : decode cX4_same 63 = .ok (.aload_n 0, 1) := by decide +kernel
theorem dX4_same_64 : decode cX4_same 64 = .ok (.getfield 28, 3) := by decide +kernel
theorem dX4_same_67 : decode cX4_same 67 = .ok (.invokevirtual 104, 3) := by decide +kernel
theorem dX4_same_70 : decode cX4_same 70 = .ok (.ifCond .eq 7, 3) := by decide +kernel
theorem dX4_same_73 : decode cX4_same 73 = .ok (.iconst 1, 1) := by decide +kernel
theorem dX4_same_74 : decode cX4_same 74 = .ok (.goto 4, 3) := by decide +kernel
theorem dX4_same_77 : decode cX4_same 77 = .ok (.iconst 0, 1) := by decide +kernel
theorem dX4_same_78 : decode cX4_same 78 = .ok (.ireturn, 1) := by decide +kernel
theorem dX4_count_0 : decode cX4_count 0 = .ok (.iload_n 1, 1) := by decide +kernel
theorem dX4_count_1 : decode cX4_count 1 = .ok (.tableswitch 45 0 2 #[27, 35, 40], 27) := by decide +kernel
theorem dX4_count_28 : decode cX4_count 28 = .ok (.aload_n 0, 1) := by decide +kernel
theorem dX4_count_29 : decode cX4_count 29 = .ok (.getfield 10, 3) := by decide +kernel
theorem dX4_count_32 : decode cX4_count 32 = .ok (.getfield 41, 3) := by decide +kernel
theorem dX4_count_35 : decode cX4_count 35 = .ok (.ireturn, 1) := by decide +kernel
theorem dX4_count_36 : decode cX4_count 36 = .ok (.aload_n 0, 1) := by decide +kernel
theorem dX4_count_37 : decode cX4_count 37 = .ok (.getfield 49, 3) := by decide +kernel
theorem dX4_count_40 : decode cX4_count 40 = .ok (.ireturn, 1) := by decide +kernel
theorem dX4_count_41 : decode cX4_count 41 = .ok (.aload_n 0, 1) := by decide +kernel
theorem dX4_count_42 : decode cX4_count 42 = .ok (.getfield 52, 3) := by decide +kernel
theorem dX4_count_45 : decode cX4_count 45 = .ok (.ireturn, 1) := by decide +kernel
theorem dX4_count_46 : decode cX4_count 46 = .ok (.bipush (-2), 2) := by decide +kernel
theorem dX4_count_48 : decode cX4_count 48 = .ok (.ireturn, 1) := by decide +kernel
theorem dX4_isCall_0 : decode cX4_isCall 0 = .ok (.iload_n 1, 1) := by decide +kernel
theorem dX4_isCall_1 : decode cX4_isCall 1 = .ok (.iconst 0, 1) := by decide +kernel
theorem dX4_isCall_2 : decode cX4_isCall 2 = .ok (.aload_n 0, 1) := by decide +kernel
theorem dX4_isCall_3 : decode cX4_isCall 3 = .ok (.getfield 10, 3) := by decide +kernel
theorem dX4_isCall_6 : decode cX4_isCall 6 = .ok (.getfield 41, 3) := by decide +kernel
theorem dX4_isCall_9 : decode cX4_isCall 9 = .ok (.iconst 1, 1) := by decide +kernel
theorem dX4_isCall_10 : decode cX4_isCall 10 = .ok (.isub, 1) := by decide +kernel
theorem dX4_isCall_11 : decode cX4_isCall 11 = .ok (.invokestatic 31, 3) := by decide +kernel
theorem dX4_isCall_14 : decode cX4_isCall 14 = .ok (.ireturn, 1) := by decide +kernel
theorem dX4_wasInLatest_0 : decode cX4_wasInLatest 0 = .ok (.aload_n 0, 1) := by decide +kernel
theorem dX4_wasInLatest_1 : decode cX4_wasInLatest 1 = .ok (.getfield 45, 3) := by decide +kernel
theorem dX4_wasInLatest_4 : decode cX4_wasInLatest 4 = .ok (.ifCond .eq 24, 3) := by decide +kernel
theorem dX4_wasInLatest_7 : decode cX4_wasInLatest 7 = .ok (.iload_n 1, 1) := by decide +kernel
theorem dX4_wasInLatest_8 : decode cX4_wasInLatest 8 = .ok (.iconst 0, 1) := by decide +kernel
theorem dX4_wasInLatest_9 : decode cX4_wasInLatest 9 = .ok (.aload_n 0, 1) := by decide +kernel
theorem dX4_wasInLatest_10 : decode cX4_wasInLatest 10 = .ok (.getfield 21, 3) := by decide +kernel
theorem dX4_wasInLatest_13 : decode cX4_wasInLatest 13 = .ok (.getfield 74, 3) := by decide +kernel
theorem dX4_wasInLatest_16 : decode cX4_wasInLatest 16 = .ok (.iconst 1, 1) := by decide +kernel
theorem dX4_wasInLatest_17 : decode cX4_wasInLatest 17 = .ok (.isub, 1) := by decide +kernel
theorem dX4_wasInLatest_18 : decode cX4_wasInLatest 18 = .ok (.invokestatic 31, 3) := by decide +kernel
theorem dX4_wasInLatest_21 : decode cX4_wasInLatest 21 = .ok (.ifCond .eq 7, 3) := by decide +kernel
theorem dX4_wasInLatest_24 : decode cX4_wasInLatest 24 = .ok (.iconst 1, 1) := by decide +kernel
theorem dX4_wasInLatest_25 : decode cX4_wasInLatest 25 = .ok (.goto 4, 3) := by decide +kernel
theorem dX4_wasInLatest_28 : decode cX4_wasInLatest 28 = .ok (.iconst 0, 1) := by decide +kernel
theorem dX4_wasInLatest_29 : decode cX4_wasInLatest 29 = .ok (.ireturn, 1) := by decide +kernel
theorem dX4_isCrew_0 : decode cX4_isCrew 0 = .ok (.iload_n 0, 1) := by decide +kernel
theorem dX4_isCrew_1 : decode cX4_isCrew 1 = .ok (.iconst 1, 1) := by decide +kernel
theorem dX4_isCrew_2 : decode cX4_isCrew 2 = .ok (.bipush 16, 2) := by decide +kernel
theorem dX4_isCrew_4 : decode cX4_isCrew 4 = .ok (.invokestatic 31, 3) := by decide +kernel
theorem dX4_isCrew_7 : decode cX4_isCrew 7 = .ok (.ireturn, 1) := by decide +kernel
theorem dX4_within_0 : decode cX4_within 0 = .ok (.iload_n 0, 1) := by decide +kernel
theorem dX4_within_1 : decode cX4_within 1 = .ok (.iload_n 1, 1) := by decide +kernel
theorem dX4_within_2 : decode cX4_within 2 = .ok (.if_icmp .lt 12, 3) := by decide +kernel
theorem dX4_within_5 : decode cX4_within 5 = .ok (.iload_n 0, 1) := by decide +kernel
theorem dX4_within_6 : decode cX4_within 6 = .ok (.iload_n 2, 1) := by decide +kernel
theorem dX4_within_7 : decode cX4_within 7 = .ok (.if_icmp .gt 7, 3) := by decide +kernel
theorem dX4_within_10 : decode cX4_within 10 = .ok (.iconst 1, 1) := by decide +kernel
theorem dX4_within_11 : decode cX4_within 11 = .ok (.goto 4, 3) := by decide +kernel
theorem dX4_within_14 : decode cX4_within 14 = .ok (.iconst 0, 1) := by decide +kernel
theorem dX4_within_15 : decode cX4_within 15 = .ok (.ireturn, 1) := by decide +kernel

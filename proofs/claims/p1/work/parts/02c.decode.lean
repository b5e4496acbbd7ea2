theorem dX0_init_0 : decode cX0_init 0 = .ok (.aload_n 0, 1) := by decide +kernel
theorem dX0_init_1 : decode cX0_init 1 = .ok (.invokespecial 3, 3) := by decide +kernel
theorem dX0_init_4 : decode cX0_init 4 = .ok (.aload_n 0, 1) := by decide +kernel
theorem dX0_init_5 : decode cX0_init 5 = .ok (.aload_n 1, 1) := by decide +kernel
theorem dX0_init_6 : decode cX0_init 6 = .ok (.putfield 9, 3) := by decide +kernel
theorem dX0_init_9 : decode cX0_init 9 = .ok (.aload_n 0, 1) := by decide +kernel
theorem dX0_init_10 : decode cX0_init 10 = .ok (.bipush 10, 2) := by decide +kernel
theorem dX0_init_12 : decode cX0_init 12 = .ok (.anewarray 15, 3) := by decide +kernel
theorem dX0_init_15 : decode cX0_init 15 = .ok (.putfield 17, 3) := by decide +kernel
theorem dX0_init_18 : decode cX0_init 18 = .ok (.aload_n 0, 1) := by decide +kernel
theorem dX0_init_19 : decode cX0_init 19 = .ok (.bipush 10, 2) := by decide +kernel
theorem dX0_init_21 : decode cX0_init 21 = .ok (.newarray .int, 2) := by decide +kernel
theorem dX0_init_23 : decode cX0_init 23 = .ok (.putfield 21, 3) := by decide +kernel
theorem dX0_init_26 : decode cX0_init 26 = .ok (.aload_n 0, 1) := by decide +kernel
theorem dX0_init_27 : decode cX0_init 27 = .ok (.new 25, 3) := by decide +kernel
theorem dX0_init_30 : decode cX0_init 30 = .ok (.dup, 1) := by decide +kernel
theorem dX0_init_31 : decode cX0_init 31 = .ok (.bipush 20, 2) := by decide +kernel
theorem dX0_init_33 : decode cX0_init 33 = .ok (.iconst 4, 1) := by decide +kernel
theorem dX0_init_34 : decode cX0_init 34 = .ok (.invokespecial 27, 3) := by decide +kernel
theorem dX0_init_37 : decode cX0_init 37 = .ok (.putfield 30, 3) := by decide +kernel
theorem dX0_init_40 : decode cX0_init 40 = .ok (.iconst 0, 1) := by decide +kernel
theorem dX0_init_41 : decode cX0_init 41 = .ok (.istore_n 2, 1) := by decide +kernel
theorem dX0_init_42 : decode cX0_init 42 = .ok (.iload_n 2, 1) := by decide +kernel
theorem dX0_init_43 : decode cX0_init 43 = .ok (.bipush 10, 2) := by decide +kernel
theorem dX0_init_45 : decode cX0_init 45 = .ok (.if_icmp .ge 22, 3) := by decide +kernel
theorem dX0_init_48 : decode cX0_init 48 = .ok (.aload_n 0, 1) := by decide +kernel
theorem dX0_init_49 : decode cX0_init 49 = .ok (.getfield 17, 3) := by decide +kernel
theorem dX0_init_52 : decode cX0_init 52 = .ok (.iload_n 2, 1) := by decide +kernel
theorem dX0_init_53 : decode cX0_init 53 = .ok (.new 15, 3) := by decide +kernel
theorem dX0_init_56 : decode cX0_init 56 = .ok (.dup, 1) := by decide +kernel
theorem dX0_init_57 : decode cX0_init 57 = .ok (.invokespecial 34, 3) := by decide +kernel
theorem dX0_init_60 : decode cX0_init 60 = .ok (.aastore, 1) := by decide +kernel
theorem dX0_init_61 : decode cX0_init 61 = .ok (.iinc 2 1, 3) := by decide +kernel
theorem dX0_init_64 : decode cX0_init 64 = .ok (.goto (-22), 3) := by decide +kernel
theorem dX0_init_67 : decode cX0_init 67 = .ok (.return_, 1) := by decide +kernel
theorem dX1_init_0 : decode cX1_init 0 = .ok (.aload_n 0, 1) := by decide +kernel
theorem dX1_init_1 : decode cX1_init 1 = .ok (.invokespecial 3, 3) := by decide +kernel
theorem dX1_init_4 : decode cX1_init 4 = .ok (.aload_n 0, 1) := by decide +kernel
theorem dX1_init_5 : decode cX1_init 5 = .ok (.new 9, 3) := by decide +kernel
theorem dX1_init_8 : decode cX1_init 8 = .ok (.dup, 1) := by decide +kernel
theorem dX1_init_9 : decode cX1_init 9 = .ok (.iconst 4, 1) := by decide +kernel
theorem dX1_init_10 : decode cX1_init 10 = .ok (.iconst 2, 1) := by decide +kernel
theorem dX1_init_11 : decode cX1_init 11 = .ok (.invokespecial 11, 3) := by decide +kernel
theorem dX1_init_14 : decode cX1_init 14 = .ok (.putfield 14, 3) := by decide +kernel
theorem dX1_init_17 : decode cX1_init 17 = .ok (.aload_n 0, 1) := by decide +kernel
theorem dX1_init_18 : decode cX1_init 18 = .ok (.new 9, 3) := by decide +kernel
theorem dX1_init_21 : decode cX1_init 21 = .ok (.dup, 1) := by decide +kernel
theorem dX1_init_22 : decode cX1_init 22 = .ok (.bipush 12, 2) := by decide +kernel
theorem dX1_init_24 : decode cX1_init 24 = .ok (.iconst 3, 1) := by decide +kernel
theorem dX1_init_25 : decode cX1_init 25 = .ok (.invokespecial 11, 3) := by decide +kernel
theorem dX1_init_28 : decode cX1_init 28 = .ok (.putfield 20, 3) := by decide +kernel
theorem dX1_init_31 : decode cX1_init 31 = .ok (.aload_n 0, 1) := by decide +kernel
theorem dX1_init_32 : decode cX1_init 32 = .ok (.new 9, 3) := by decide +kernel
theorem dX1_init_35 : decode cX1_init 35 = .ok (.dup, 1) := by decide +kernel
theorem dX1_init_36 : decode cX1_init 36 = .ok (.iconst 5, 1) := by decide +kernel
theorem dX1_init_37 : decode cX1_init 37 = .ok (.iconst 3, 1) := by decide +kernel
theorem dX1_init_38 : decode cX1_init 38 = .ok (.invokespecial 11, 3) := by decide +kernel
theorem dX1_init_41 : decode cX1_init 41 = .ok (.putfield 23, 3) := by decide +kernel
theorem dX1_init_44 : decode cX1_init 44 = .ok (.aload_n 0, 1) := by decide +kernel
theorem dX1_init_45 : decode cX1_init 45 = .ok (.new 9, 3) := by decide +kernel
theorem dX1_init_48 : decode cX1_init 48 = .ok (.dup, 1) := by decide +kernel
theorem dX1_init_49 : decode cX1_init 49 = .ok (.iconst 4, 1) := by decide +kernel
theorem dX1_init_50 : decode cX1_init 50 = .ok (.iconst 2, 1) := by decide +kernel
theorem dX1_init_51 : decode cX1_init 51 = .ok (.invokespecial 11, 3) := by decide +kernel
theorem dX1_init_54 : decode cX1_init 54 = .ok (.putfield 26, 3) := by decide +kernel
theorem dX1_init_57 : decode cX1_init 57 = .ok (.aload_n 0, 1) := by decide +kernel
theorem dX1_init_58 : decode cX1_init 58 = .ok (.new 9, 3) := by decide +kernel
theorem dX1_init_61 : decode cX1_init 61 = .ok (.dup, 1) := by decide +kernel
theorem dX1_init_62 : decode cX1_init 62 = .ok (.iconst 2, 1) := by decide +kernel
theorem dX1_init_63 : decode cX1_init 63 = .ok (.iconst 3, 1) := by decide +kernel
theorem dX1_init_64 : decode cX1_init 64 = .ok (.invokespecial 11, 3) := by decide +kernel
theorem dX1_init_67 : decode cX1_init 67 = .ok (.putfield 29, 3) := by decide +kernel
theorem dX1_init_70 : decode cX1_init 70 = .ok (.aload_n 0, 1) := by decide +kernel
theorem dX1_init_71 : decode cX1_init 71 = .ok (.new 32, 3) := by decide +kernel
theorem dX1_init_74 : decode cX1_init 74 = .ok (.dup, 1) := by decide +kernel
theorem dX1_init_75 : decode cX1_init 75 = .ok (.invokespecial 34, 3) := by decide +kernel
theorem dX1_init_78 : decode cX1_init 78 = .ok (.putfield 35, 3) := by decide +kernel
theorem dX1_init_81 : decode cX1_init 81 = .ok (.return_, 1) := by decide +kernel
theorem dX1_forget_0 : decode cX1_forget 0 = .ok (.aload_n 0, 1) := by decide +kernel
theorem dX1_forget_1 : decode cX1_forget 1 = .ok (.getfield 14, 3) := by decide +kernel
theorem dX1_forget_4 : decode cX1_forget 4 = .ok (.iconst 0, 1) := by decide +kernel
theorem dX1_forget_5 : decode cX1_forget 5 = .ok (.putfield 39, 3) := by decide +kernel
theorem dX1_forget_8 : decode cX1_forget 8 = .ok (.aload_n 0, 1) := by decide +kernel
theorem dX1_forget_9 : decode cX1_forget 9 = .ok (.getfield 20, 3) := by decide +kernel
theorem dX1_forget_12 : decode cX1_forget 12 = .ok (.iconst 0, 1) := by decide +kernel
theorem dX1_forget_13 : decode cX1_forget 13 = .ok (.putfield 39, 3) := by decide +kernel
theorem dX1_forget_16 : decode cX1_forget 16 = .ok (.aload_n 0, 1) := by decide +kernel
theorem dX1_forget_17 : decode cX1_forget 17 = .ok (.getfield 23, 3) := by decide +kernel
theorem dX1_forget_20 : decode cX1_forget 20 = .ok (.iconst 0, 1) := by decide +kernel
theorem dX1_forget_21 : decode cX1_forget 21 = .ok (.putfield 39, 3) := by decide +kernel
theorem dX1_forget_24 : decode cX1_forget 24 = .ok (.aload_n 0, 1) := by decide +kernel
theorem dX1_forget_25 : decode cX1_forget 25 = .ok (.getfield 26, 3) := by decide +kernel
theorem dX1_forget_28 : decode cX1_forget 28 = .ok (.iconst 0, 1) := by decide +kernel
theorem dX1_forget_29 : decode cX1_forget 29 = .ok (.putfield 39, 3) := by decide +kernel
theorem dX1_forget_32 : decode cX1_forget 32 = .ok (.aload_n 0, 1) := by decide +kernel
theorem dX1_forget_33 : decode cX1_forget 33 = .ok (.iconst 0, 1) := by decide +kernel
theorem dX1_forget_34 : decode cX1_forget 34 = .ok (.putfield 43, 3) := by decide +kernel
theorem dX1_forget_37 : decode cX1_forget 37 = .ok (.aload_n 0, 1) := by decide +kernel
theorem dX1_forget_38 : decode cX1_forget 38 = .ok (.iconst 0, 1) := by decide +kernel
theorem dX1_forget_39 : decode cX1_forget 39 = .ok (.putfield 47, 3) := by decide +kernel
theorem dX1_forget_42 : decode cX1_forget 42 = .ok (.return_, 1) := by decide +kernel
theorem dX2_init_0 : decode cX2_init 0 = .ok (.aload_n 0, 1) := by decide +kernel
theorem dX2_init_1 : decode cX2_init 1 = .ok (.invokespecial 3, 3) := by decide +kernel
theorem dX2_init_4 : decode cX2_init 4 = .ok (.aload_n 0, 1) := by decide +kernel
theorem dX2_init_5 : decode cX2_init 5 = .ok (.aload_n 1, 1) := by decide +kernel
theorem dX2_init_6 : decode cX2_init 6 = .ok (.putfield 9, 3) := by decide +kernel
theorem dX2_init_9 : decode cX2_init 9 = .ok (.aload_n 0, 1) := by decide +kernel
theorem dX2_init_10 : decode cX2_init 10 = .ok (.aload_n 2, 1) := by decide +kernel
theorem dX2_init_11 : decode cX2_init 11 = .ok (.putfield 15, 3) := by decide +kernel
theorem dX2_init_14 : decode cX2_init 14 = .ok (.aload_n 0, 1) := by decide +kernel
theorem dX2_init_15 : decode cX2_init 15 = .ok (.bipush 6, 2) := by decide +kernel
theorem dX2_init_17 : decode cX2_init 17 = .ok (.anewarray 19, 3) := by decide +kernel
theorem dX2_init_20 : decode cX2_init 20 = .ok (.putfield 21, 3) := by decide +kernel
theorem dX2_init_23 : decode cX2_init 23 = .ok (.aload_n 0, 1) := by decide +kernel
theorem dX2_init_24 : decode cX2_init 24 = .ok (.bipush 6, 2) := by decide +kernel
theorem dX2_init_26 : decode cX2_init 26 = .ok (.anewarray 25, 3) := by decide +kernel
theorem dX2_init_29 : decode cX2_init 29 = .ok (.putfield 27, 3) := by decide +kernel
theorem dX2_init_32 : decode cX2_init 32 = .ok (.aload_n 0, 1) := by decide +kernel
theorem dX2_init_33 : decode cX2_init 33 = .ok (.iconst 4, 1) := by decide +kernel
theorem dX2_init_34 : decode cX2_init 34 = .ok (.newarray .int, 2) := by decide +kernel
theorem dX2_init_36 : decode cX2_init 36 = .ok (.putfield 31, 3) := by decide +kernel
theorem dX2_init_39 : decode cX2_init 39 = .ok (.iconst 0, 1) := by decide +kernel
theorem dX2_init_40 : decode cX2_init 40 = .ok (.istore_n 3, 1) := by decide +kernel
theorem dX2_init_41 : decode cX2_init 41 = .ok (.iload_n 3, 1) := by decide +kernel
theorem dX2_init_42 : decode cX2_init 42 = .ok (.bipush 6, 2) := by decide +kernel
theorem dX2_init_44 : decode cX2_init 44 = .ok (.if_icmp .ge 35, 3) := by decide +kernel
theorem dX2_init_47 : decode cX2_init 47 = .ok (.aload_n 0, 1) := by decide +kernel
theorem dX2_init_48 : decode cX2_init 48 = .ok (.getfield 21, 3) := by decide +kernel
theorem dX2_init_51 : decode cX2_init 51 = .ok (.iload_n 3, 1) := by decide +kernel
theorem dX2_init_52 : decode cX2_init 52 = .ok (.new 19, 3) := by decide +kernel
theorem dX2_init_55 : decode cX2_init 55 = .ok (.dup, 1) := by decide +kernel
theorem dX2_init_56 : decode cX2_init 56 = .ok (.invokespecial 35, 3) := by decide +kernel
theorem dX2_init_59 : decode cX2_init 59 = .ok (.aastore, 1) := by decide +kernel
theorem dX2_init_60 : decode cX2_init 60 = .ok (.aload_n 0, 1) := by decide +kernel
theorem dX2_init_61 : decode cX2_init 61 = .ok (.getfield 27, 3) := by decide +kernel
theorem dX2_init_64 : decode cX2_init 64 = .ok (.iload_n 3, 1) := by decide +kernel
theorem dX2_init_65 : decode cX2_init 65 = .ok (.new 25, 3) := by decide +kernel
theorem dX2_init_68 : decode cX2_init 68 = .ok (.dup, 1) := by decide +kernel
theorem dX2_init_69 : decode cX2_init 69 = .ok (.invokespecial 36, 3) := by decide +kernel
theorem dX2_init_72 : decode cX2_init 72 = .ok (.aastore, 1) := by decide +kernel
theorem dX2_init_73 : decode cX2_init 73 = .ok (.iinc 3 1, 3) := by decide +kernel
theorem dX2_init_76 : decode cX2_init 76 = .ok (.goto (-35), 3) := by decide +kernel
theorem dX2_init_79 : decode cX2_init 79 = .ok (.return_, 1) := by decide +kernel
theorem dX2_has_0 : decode cX2_has 0 = .ok (.iload_n 1, 1) := by decide +kernel
theorem dX2_has_1 : decode cX2_has 1 = .ok (.aload_n 0, 1) := by decide +kernel
theorem dX2_has_2 : decode cX2_has 2 = .ok (.getfield 37, 3) := by decide +kernel
theorem dX2_has_5 : decode cX2_has 5 = .ok (.invokestatic 41, 3) := by decide +kernel
theorem dX2_has_8 : decode cX2_has 8 = .ok (.ifCond .eq 13, 3) := by decide +kernel
theorem dX2_has_11 : decode cX2_has 11 = .ok (.iload_n 1, 1) := by decide +kernel
theorem dX2_has_12 : decode cX2_has 12 = .ok (.bipush 6, 2) := by decide +kernel
theorem dX2_has_14 : decode cX2_has 14 = .ok (.if_icmp .ge 7, 3) := by decide +kernel
theorem dX2_has_17 : decode cX2_has 17 = .ok (.iconst 1, 1) := by decide +kernel
theorem dX2_has_18 : decode cX2_has 18 = .ok (.goto 4, 3) := by decide +kernel
theorem dX2_has_21 : decode cX2_has 21 = .ok (.iconst 0, 1) := by decide +kernel
theorem dX2_has_22 : decode cX2_has 22 = .ok (.ireturn, 1) := by decide +kernel
theorem dX2_optionCount_0 : decode cX2_optionCount 0 = .ok (.iconst 0, 1) := by decide +kernel
theorem dX2_optionCount_1 : decode cX2_optionCount 1 = .ok (.istore_n 1, 1) := by decide +kernel
theorem dX2_optionCount_2 : decode cX2_optionCount 2 = .ok (.iconst 0, 1) := by decide +kernel
theorem dX2_optionCount_3 : decode cX2_optionCount 3 = .ok (.istore_n 2, 1) := by decide +kernel
theorem dX2_optionCount_4 : decode cX2_optionCount 4 = .ok (.iload_n 2, 1) := by decide +kernel
theorem dX2_optionCount_5 : decode cX2_optionCount 5 = .ok (.aload_n 0, 1) := by decide +kernel
theorem dX2_optionCount_6 : decode cX2_optionCount 6 = .ok (.getfield 37, 3) := by decide +kernel
theorem dX2_optionCount_9 : decode cX2_optionCount 9 = .ok (.if_icmp .ge 30, 3) := by decide +kernel
theorem dX2_optionCount_12 : decode cX2_optionCount 12 = .ok (.iload_n 2, 1) := by decide +kernel
theorem dX2_optionCount_13 : decode cX2_optionCount 13 = .ok (.bipush 6, 2) := by decide +kernel
theorem dX2_optionCount_15 : decode cX2_optionCount 15 = .ok (.if_icmp .ge 24, 3) := by decide +kernel
theorem dX2_optionCount_18 : decode cX2_optionCount 18 = .ok (.iload_n 1, 1) := by decide +kernel
theorem dX2_optionCount_19 : decode cX2_optionCount 19 = .ok (.aload_n 0, 1) := by decide +kernel
theorem dX2_optionCount_20 : decode cX2_optionCount 20 = .ok (.getfield 21, 3) := by decide +kernel
theorem dX2_optionCount_23 : decode cX2_optionCount 23 = .ok (.iload_n 2, 1) := by decide +kernel
theorem dX2_optionCount_24 : decode cX2_optionCount 24 = .ok (.aaload, 1) := by decide +kernel
theorem dX2_optionCount_25 : decode cX2_optionCount 25 = .ok (.getfield 45, 3) := by decide +kernel
theorem dX2_optionCount_28 : decode cX2_optionCount 28 = .ok (.getfield 49, 3) := by decide +kernel
theorem dX2_optionCount_31 : decode cX2_optionCount 31 = .ok (.iadd, 1) := by decide +kernel
theorem dX2_optionCount_32 : decode cX2_optionCount 32 = .ok (.istore_n 1, 1) := by decide +kernel
theorem dX2_optionCount_33 : decode cX2_optionCount 33 = .ok (.iinc 2 1, 3) := by decide +kernel
theorem dX2_optionCount_36 : decode cX2_optionCount 36 = .ok (.goto (-32), 3) := by decide +kernel
theorem dX2_optionCount_39 : decode cX2_optionCount 39 = .ok (.iload_n 1, 1) := by decide +kernel
theorem dX2_optionCount_40 : decode cX2_optionCount 40 = .ok (.ireturn, 1) := by decide +kernel
theorem dX2_reckon_0 : decode cX2_reckon 0 = .ok (.aload_n 0, 1) := by decide +kernel
theorem dX2_reckon_1 : decode cX2_reckon 1 = .ok (.getfield 54, 3) := by decide +kernel
theorem dX2_reckon_4 : decode cX2_reckon 4 = .ok (.ifCond .ne 12, 3) := by decide +kernel
theorem dX2_reckon_7 : decode cX2_reckon 7 = .ok (.aload_n 0, 1) := by decide +kernel
theorem dX2_reckon_8 : decode cX2_reckon 8 = .ok (.invokevirtual 58, 3) := by decide +kernel
theorem dX2_reckon_11 : decode cX2_reckon 11 = .ok (.aload_n 0, 1) := by decide +kernel
theorem dX2_reckon_12 : decode cX2_reckon 12 = .ok (.iconst 1, 1) := by decide +kernel
theorem dX2_reckon_13 : decode cX2_reckon 13 = .ok (.putfield 54, 3) := by decide +kernel
theorem dX2_reckon_16 : decode cX2_reckon 16 = .ok (.return_, 1) := by decide +kernel
theorem dX2_run_0 : decode cX2_run 0 = .ok (.aload_n 0, 1) := by decide +kernel
theorem dX2_run_1 : decode cX2_run 1 = .ok (.iconst 0, 1) := by decide +kernel
theorem dX2_run_2 : decode cX2_run 2 = .ok (.putfield 54, 3) := by decide +kernel
theorem dX2_run_5 : decode cX2_run 5 = .ok (.aload_n 0, 1) := by decide +kernel
theorem dX2_run_6 : decode cX2_run 6 = .ok (.iconst 0, 1) := by decide +kernel
theorem dX2_run_7 : decode cX2_run 7 = .ok (.putfield 61, 3) := by decide +kernel
theorem dX2_run_10 : decode cX2_run 10 = .ok (.aload_n 0, 1) := by decide +kernel
theorem dX2_run_11 : decode cX2_run 11 = .ok (.getfield 31, 3) := by decide +kernel
theorem dX2_run_14 : decode cX2_run 14 = .ok (.iconst 0, 1) := by decide +kernel
theorem dX2_run_15 : decode cX2_run 15 = .ok (.invokestatic 64, 3) := by decide +kernel
theorem dX2_run_18 : decode cX2_run 18 = .ok (.iconst 0, 1) := by decide +kernel
theorem dX2_run_19 : decode cX2_run 19 = .ok (.istore_n 1, 1) := by decide +kernel
theorem dX2_run_20 : decode cX2_run 20 = .ok (.iload_n 1, 1) := by decide +kernel
theorem dX2_run_21 : decode cX2_run 21 = .ok (.aload_n 0, 1) := by decide +kernel
theorem dX2_run_22 : decode cX2_run 22 = .ok (.getfield 37, 3) := by decide +kernel
theorem dX2_run_25 : decode cX2_run 25 = .ok (.if_icmp .ge 42, 3) := by decide +kernel
theorem dX2_run_28 : decode cX2_run 28 = .ok (.iload_n 1, 1) := by decide +kernel
theorem dX2_run_29 : decode cX2_run 29 = .ok (.bipush 6, 2) := by decide +kernel
theorem dX2_run_31 : decode cX2_run 31 = .ok (.if_icmp .ge 36, 3) := by decide +kernel
theorem dX2_run_34 : decode cX2_run 34 = .ok (.aload_n 0, 1) := by decide +kernel
theorem dX2_run_35 : decode cX2_run 35 = .ok (.getfield 27, 3) := by decide +kernel
theorem dX2_run_38 : decode cX2_run 38 = .ok (.iload_n 1, 1) := by decide +kernel
theorem dX2_run_39 : decode cX2_run 39 = .ok (.aaload, 1) := by decide +kernel
theorem dX2_run_40 : decode cX2_run 40 = .ok (.aload_n 0, 1) := by decide +kernel
theorem dX2_run_41 : decode cX2_run 41 = .ok (.getfield 21, 3) := by decide +kernel
theorem dX2_run_44 : decode cX2_run 44 = .ok (.iload_n 1, 1) := by decide +kernel
theorem dX2_run_45 : decode cX2_run 45 = .ok (.aaload, 1) := by decide +kernel
theorem dX2_run_46 : decode cX2_run 46 = .ok (.aload_n 0, 1) := by decide +kernel
theorem dX2_run_47 : decode cX2_run 47 = .ok (.getfield 9, 3) := by decide +kernel
theorem dX2_run_50 : decode cX2_run 50 = .ok (.getfield 70, 3) := by decide +kernel
theorem dX2_run_53 : decode cX2_run 53 = .ok (.bipush 6, 2) := by decide +kernel
theorem dX2_run_55 : decode cX2_run 55 = .ok (.iaload, 1) := by decide +kernel
theorem dX2_run_56 : decode cX2_run 56 = .ok (.iload_n 1, 1) := by decide +kernel
theorem dX2_run_57 : decode cX2_run 57 = .ok (.imul, 1) := by decide +kernel
theorem dX2_run_58 : decode cX2_run 58 = .ok (.invokevirtual 75, 3) := by decide +kernel
theorem dX2_run_61 : decode cX2_run 61 = .ok (.iinc 1 1, 3) := by decide +kernel
theorem dX2_run_64 : decode cX2_run 64 = .ok (.goto (-44), 3) := by decide +kernel
theorem dX2_run_67 : decode cX2_run 67 = .ok (.iconst 0, 1) := by decide +kernel
theorem dX2_run_68 : decode cX2_run 68 = .ok (.istore_n 1, 1) := by decide +kernel
theorem dX2_run_69 : decode cX2_run 69 = .ok (.iload_n 1, 1) := by decide +kernel
theorem dX2_run_70 : decode cX2_run 70 = .ok (.sipush 361, 3) := by decide +kernel
theorem dX2_run_73 : decode cX2_run 73 = .ok (.if_icmp .ge 40, 3) := by decide +kernel
theorem dX2_run_76 : decode cX2_run 76 = .ok (.aload_n 0, 1) := by decide +kernel
theorem dX2_run_77 : decode cX2_run 77 = .ok (.invokevirtual 79, 3) := by decide +kernel
theorem dX2_run_80 : decode cX2_run 80 = .ok (.istore_n 2, 1) := by decide +kernel
theorem dX2_run_81 : decode cX2_run 81 = .ok (.aload_n 0, 1) := by decide +kernel
theorem dX2_run_82 : decode cX2_run 82 = .ok (.iload_n 2, 1) := by decide +kernel
theorem dX2_run_83 : decode cX2_run 83 = .ok (.invokevirtual 83, 3) := by decide +kernel
theorem dX2_run_86 : decode cX2_run 86 = .ok (.ifCond .ne 4, 3) := by decide +kernel
theorem dX2_run_89 : decode cX2_run 89 = .ok (.return_, 1) := by decide +kernel
theorem dX2_run_90 : decode cX2_run 90 = .ok (.aload_n 0, 1) := by decide +kernel
theorem dX2_run_91 : decode cX2_run 91 = .ok (.iload_n 2, 1) := by decide +kernel
theorem dX2_run_92 : decode cX2_run 92 = .ok (.aload_n 0, 1) := by decide +kernel
theorem dX2_run_93 : decode cX2_run 93 = .ok (.getfield 21, 3) := by decide +kernel
theorem dX2_run_96 : decode cX2_run 96 = .ok (.iload_n 2, 1) := by decide +kernel
theorem dX2_run_97 : decode cX2_run 97 = .ok (.aaload, 1) := by decide +kernel
theorem dX2_run_98 : decode cX2_run 98 = .ok (.aload_n 0, 1) := by decide +kernel
theorem dX2_run_99 : decode cX2_run 99 = .ok (.getfield 27, 3) := by decide +kernel
theorem dX2_run_102 : decode cX2_run 102 = .ok (.iload_n 2, 1) := by decide +kernel
theorem dX2_run_103 : decode cX2_run 103 = .ok (.aaload, 1) := by decide +kernel
theorem dX2_run_104 : decode cX2_run 104 = .ok (.invokevirtual 87, 3) := by decide +kernel
theorem dX2_run_107 : decode cX2_run 107 = .ok (.iinc 1 1, 3) := by decide +kernel
theorem dX2_run_110 : decode cX2_run 110 = .ok (.goto (-41), 3) := by decide +kernel
theorem dX2_run_113 : decode cX2_run 113 = .ok (.return_, 1) := by decide +kernel
theorem dX2_nextToGo_0 : decode cX2_nextToGo 0 = .ok (.iconst (-1), 1) := by decide +kernel
theorem dX2_nextToGo_1 : decode cX2_nextToGo 1 = .ok (.istore_n 1, 1) := by decide +kernel
theorem dX2_nextToGo_2 : decode cX2_nextToGo 2 = .ok (.iconst 0, 1) := by decide +kernel
theorem dX2_nextToGo_3 : decode cX2_nextToGo 3 = .ok (.istore_n 2, 1) := by decide +kernel
theorem dX2_nextToGo_4 : decode cX2_nextToGo 4 = .ok (.iload_n 2, 1) := by decide +kernel
theorem dX2_nextToGo_5 : decode cX2_nextToGo 5 = .ok (.aload_n 0, 1) := by decide +kernel
theorem dX2_nextToGo_6 : decode cX2_nextToGo 6 = .ok (.getfield 37, 3) := by decide +kernel
theorem dX2_nextToGo_9 : decode cX2_nextToGo 9 = .ok (.if_icmp .ge 52, 3) := by decide +kernel
theorem dX2_nextToGo_12 : decode cX2_nextToGo 12 = .ok (.iload_n 2, 1) := by decide +kernel
theorem dX2_nextToGo_13 : decode cX2_nextToGo 13 = .ok (.bipush 6, 2) := by decide +kernel
theorem dX2_nextToGo_15 : decode cX2_nextToGo 15 = .ok (.if_icmp .ge 46, 3) := by decide +kernel
theorem dX2_nextToGo_18 : decode cX2_nextToGo 18 = .ok (.aload_n 0, 1) := by decide +kernel
theorem dX2_nextToGo_19 : decode cX2_nextToGo 19 = .ok (.getfield 27, 3) := by decide +kernel
theorem dX2_nextToGo_22 : decode cX2_nextToGo 22 = .ok (.iload_n 2, 1) := by decide +kernel
theorem dX2_nextToGo_23 : decode cX2_nextToGo 23 = .ok (.aaload, 1) := by decide +kernel
theorem dX2_nextToGo_24 : decode cX2_nextToGo 24 = .ok (.getfield 91, 3) := by decide +kernel
theorem dX2_nextToGo_27 : decode cX2_nextToGo 27 = .ok (.ifCond .ne 28, 3) := by decide +kernel
theorem dX2_nextToGo_30 : decode cX2_nextToGo 30 = .ok (.iload_n 1, 1) := by decide +kernel
theorem dX2_nextToGo_31 : decode cX2_nextToGo 31 = .ok (.iconst (-1), 1) := by decide +kernel
theorem dX2_nextToGo_32 : decode cX2_nextToGo 32 = .ok (.if_icmp .eq 21, 3) := by decide +kernel
theorem dX2_nextToGo_35 : decode cX2_nextToGo 35 = .ok (.aload_n 0, 1) := by decide +kernel
theorem dX2_nextToGo_36 : decode cX2_nextToGo 36 = .ok (.getfield 27, 3) := by decide +kernel
theorem dX2_nextToGo_39 : decode cX2_nextToGo 39 = .ok (.iload_n 2, 1) := by decide +kernel
theorem dX2_nextToGo_40 : decode cX2_nextToGo 40 = .ok (.aaload, 1) := by decide +kernel
theorem dX2_nextToGo_41 : decode cX2_nextToGo 41 = .ok (.aload_n 0, 1) := by decide +kernel
theorem dX2_nextToGo_42 : decode cX2_nextToGo 42 = .ok (.getfield 27, 3) := by decide +kernel
theorem dX2_nextToGo_45 : decode cX2_nextToGo 45 = .ok (.iload_n 1, 1) := by decide +kernel
theorem dX2_nextToGo_46 : decode cX2_nextToGo 46 = .ok (.aaload, 1) := by decide +kernel
theorem dX2_nextToGo_47 : decode cX2_nextToGo 47 = .ok (.invokestatic 94, 3) := by decide +kernel
theorem dX2_nextToGo_50 : decode cX2_nextToGo 50 = .ok (.ifCond .eq 5, 3) := by decide +kernel
theorem dX2_nextToGo_53 : decode cX2_nextToGo 53 = .ok (.iload_n 2, 1) := by decide +kernel
theorem dX2_nextToGo_54 : decode cX2_nextToGo 54 = .ok (.istore_n 1, 1) := by decide +kernel
theorem dX2_nextToGo_55 : decode cX2_nextToGo 55 = .ok (.iinc 2 1, 3) := by decide +kernel
theorem dX2_nextToGo_58 : decode cX2_nextToGo 58 = .ok (.goto (-54), 3) := by decide +kernel
theorem dX2_nextToGo_61 : decode cX2_nextToGo 61 = .ok (.iload_n 1, 1) := by decide +kernel
theorem dX2_nextToGo_62 : decode cX2_nextToGo 62 = .ok (.ireturn, 1) := by decide +kernel
theorem dX2_inOrder_0 : decode cX2_inOrder 0 = .ok (.iconst 0, 1) := by decide +kernel
theorem dX2_inOrder_1 : decode cX2_inOrder 1 = .ok (.istore_n 3, 1) := by decide +kernel
theorem dX2_inOrder_2 : decode cX2_inOrder 2 = .ok (.iload_n 3, 1) := by decide +kernel
theorem dX2_inOrder_3 : decode cX2_inOrder 3 = .ok (.aload_n 0, 1) := by decide +kernel
theorem dX2_inOrder_4 : decode cX2_inOrder 4 = .ok (.getfield 37, 3) := by decide +kernel
theorem dX2_inOrder_7 : decode cX2_inOrder 7 = .ok (.if_icmp .ge 47, 3) := by decide +kernel
theorem dX2_inOrder_10 : decode cX2_inOrder 10 = .ok (.iload_n 3, 1) := by decide +kernel
theorem dX2_inOrder_11 : decode cX2_inOrder 11 = .ok (.bipush 6, 2) := by decide +kernel
theorem dX2_inOrder_13 : decode cX2_inOrder 13 = .ok (.if_icmp .ge 41, 3) := by decide +kernel
theorem dX2_inOrder_16 : decode cX2_inOrder 16 = .ok (.aload_n 0, 1) := by decide +kernel
theorem dX2_inOrder_17 : decode cX2_inOrder 17 = .ok (.getfield 27, 3) := by decide +kernel
theorem dX2_inOrder_20 : decode cX2_inOrder 20 = .ok (.iload_n 3, 1) := by decide +kernel
theorem dX2_inOrder_21 : decode cX2_inOrder 21 = .ok (.aaload, 1) := by decide +kernel
theorem dX2_inOrder_22 : decode cX2_inOrder 22 = .ok (.iload_n 1, 1) := by decide +kernel
theorem dX2_inOrder_23 : decode cX2_inOrder 23 = .ok (.invokevirtual 268, 3) := by decide +kernel
theorem dX2_inOrder_26 : decode cX2_inOrder 26 = .ok (.istore 4, 2) := by decide +kernel
theorem dX2_inOrder_28 : decode cX2_inOrder 28 = .ok (.iload 4, 2) := by decide +kernel
theorem dX2_inOrder_30 : decode cX2_inOrder 30 = .ok (.iconst (-1), 1) := by decide +kernel
theorem dX2_inOrder_31 : decode cX2_inOrder 31 = .ok (.if_icmp .eq 17, 3) := by decide +kernel
theorem dX2_inOrder_34 : decode cX2_inOrder 34 = .ok (.aload_n 0, 1) := by decide +kernel
theorem dX2_inOrder_35 : decode cX2_inOrder 35 = .ok (.iload_n 1, 1) := by decide +kernel
theorem dX2_inOrder_36 : decode cX2_inOrder 36 = .ok (.iload_n 3, 1) := by decide +kernel
theorem dX2_inOrder_37 : decode cX2_inOrder 37 = .ok (.iload 4, 2) := by decide +kernel
theorem dX2_inOrder_39 : decode cX2_inOrder 39 = .ok (.invokevirtual 308, 3) := by decide +kernel
theorem dX2_inOrder_42 : decode cX2_inOrder 42 = .ok (.iload_n 2, 1) := by decide +kernel
theorem dX2_inOrder_43 : decode cX2_inOrder 43 = .ok (.if_icmp .ne 5, 3) := by decide +kernel
theorem dX2_inOrder_46 : decode cX2_inOrder 46 = .ok (.iload_n 3, 1) := by decide +kernel
theorem dX2_inOrder_47 : decode cX2_inOrder 47 = .ok (.ireturn, 1) := by decide +kernel
theorem dX2_inOrder_48 : decode cX2_inOrder 48 = .ok (.iinc 3 1, 3) := by decide +kernel
theorem dX2_inOrder_51 : decode cX2_inOrder 51 = .ok (.goto (-49), 3) := by decide +kernel
theorem dX2_inOrder_54 : decode cX2_inOrder 54 = .ok (.iconst (-1), 1) := by decide +kernel
theorem dX2_inOrder_55 : decode cX2_inOrder 55 = .ok (.ireturn, 1) := by decide +kernel
theorem dX3_init_0 : decode cX3_init 0 = .ok (.aload_n 0, 1) := by decide +kernel
theorem dX3_init_1 : decode cX3_init 1 = .ok (.invokespecial 3, 3) := by decide +kernel
theorem dX3_init_4 : decode cX3_init 4 = .ok (.aload_n 0, 1) := by decide +kernel
theorem dX3_init_5 : decode cX3_init 5 = .ok (.bipush 60, 2) := by decide +kernel
theorem dX3_init_7 : decode cX3_init 7 = .ok (.newarray .int, 2) := by decide +kernel
theorem dX3_init_9 : decode cX3_init 9 = .ok (.putfield 9, 3) := by decide +kernel
theorem dX3_init_12 : decode cX3_init 12 = .ok (.aload_n 0, 1) := by decide +kernel
theorem dX3_init_13 : decode cX3_init 13 = .ok (.bipush 60, 2) := by decide +kernel
theorem dX3_init_15 : decode cX3_init 15 = .ok (.newarray .boolean, 2) := by decide +kernel
theorem dX3_init_17 : decode cX3_init 17 = .ok (.putfield 15, 3) := by decide +kernel
theorem dX3_init_20 : decode cX3_init 20 = .ok (.return_, 1) := by decide +kernel
theorem dX3_firstWrong_0 : decode cX3_firstWrong 0 = .ok (.aload_n 0, 1) := by decide +kernel
theorem dX3_firstWrong_1 : decode cX3_firstWrong 1 = .ok (.iload 4, 2) := by decide +kernel
theorem dX3_firstWrong_3 : decode cX3_firstWrong 3 = .ok (.putfield 19, 3) := by decide +kernel
theorem dX3_firstWrong_6 : decode cX3_firstWrong 6 = .ok (.aload_n 0, 1) := by decide +kernel
theorem dX3_firstWrong_7 : decode cX3_firstWrong 7 = .ok (.aload_n 3, 1) := by decide +kernel
theorem dX3_firstWrong_8 : decode cX3_firstWrong 8 = .ok (.putfield 23, 3) := by decide +kernel
theorem dX3_firstWrong_11 : decode cX3_firstWrong 11 = .ok (.aload_n 0, 1) := by decide +kernel
theorem dX3_firstWrong_12 : decode cX3_firstWrong 12 = .ok (.getfield 23, 3) := by decide +kernel
theorem dX3_firstWrong_15 : decode cX3_firstWrong 15 = .ok (.invokevirtual 27, 3) := by decide +kernel
theorem dX3_firstWrong_18 : decode cX3_firstWrong 18 = .ok (.aload_n 0, 1) := by decide +kernel
theorem dX3_firstWrong_19 : decode cX3_firstWrong 19 = .ok (.invokevirtual 32, 3) := by decide +kernel
theorem dX3_firstWrong_22 : decode cX3_firstWrong 22 = .ok (.iconst 0, 1) := by decide +kernel
theorem dX3_firstWrong_23 : decode cX3_firstWrong 23 = .ok (.istore 5, 2) := by decide +kernel
theorem dX3_firstWrong_25 : decode cX3_firstWrong 25 = .ok (.iload 5, 2) := by decide +kernel
theorem dX3_firstWrong_27 : decode cX3_firstWrong 27 = .ok (.iload_n 2, 1) := by decide +kernel
theorem dX3_firstWrong_28 : decode cX3_firstWrong 28 = .ok (.if_icmp .ge 37, 3) := by decide +kernel
theorem dX3_firstWrong_31 : decode cX3_firstWrong 31 = .ok (.iload 5, 2) := by decide +kernel
theorem dX3_firstWrong_33 : decode cX3_firstWrong 33 = .ok (.bipush 60, 2) := by decide +kernel
theorem dX3_firstWrong_35 : decode cX3_firstWrong 35 = .ok (.if_icmp .ge 30, 3) := by decide +kernel
theorem dX3_firstWrong_38 : decode cX3_firstWrong 38 = .ok (.iload 5, 2) := by decide +kernel
theorem dX3_firstWrong_40 : decode cX3_firstWrong 40 = .ok (.aload_n 1, 1) := by decide +kernel
theorem dX3_firstWrong_41 : decode cX3_firstWrong 41 = .ok (.arraylength, 1) := by decide +kernel
theorem dX3_firstWrong_42 : decode cX3_firstWrong 42 = .ok (.if_icmp .ge 23, 3) := by decide +kernel
theorem dX3_firstWrong_45 : decode cX3_firstWrong 45 = .ok (.aload_n 0, 1) := by decide +kernel
theorem dX3_firstWrong_46 : decode cX3_firstWrong 46 = .ok (.aload_n 1, 1) := by decide +kernel
theorem dX3_firstWrong_47 : decode cX3_firstWrong 47 = .ok (.iload 5, 2) := by decide +kernel
theorem dX3_firstWrong_49 : decode cX3_firstWrong 49 = .ok (.iaload, 1) := by decide +kernel
theorem dX3_firstWrong_50 : decode cX3_firstWrong 50 = .ok (.invokevirtual 35, 3) := by decide +kernel
theorem dX3_firstWrong_53 : decode cX3_firstWrong 53 = .ok (.ifCond .ne 6, 3) := by decide +kernel
theorem dX3_firstWrong_56 : decode cX3_firstWrong 56 = .ok (.iload 5, 2) := by decide +kernel
theorem dX3_firstWrong_58 : decode cX3_firstWrong 58 = .ok (.ireturn, 1) := by decide +kernel
theorem dX3_firstWrong_59 : decode cX3_firstWrong 59 = .ok (.iinc 5 1, 3) := by decide +kernel
theorem dX3_firstWrong_62 : decode cX3_firstWrong 62 = .ok (.goto (-37), 3) := by decide +kernel
theorem dX3_firstWrong_65 : decode cX3_firstWrong 65 = .ok (.iload_n 2, 1) := by decide +kernel
theorem dX3_firstWrong_66 : decode cX3_firstWrong 66 = .ok (.bipush 60, 2) := by decide +kernel
theorem dX3_firstWrong_68 : decode cX3_firstWrong 68 = .ok (.if_icmp .le 6, 3) := by decide +kernel
theorem dX3_firstWrong_71 : decode cX3_firstWrong 71 = .ok (.bipush 60, 2) := by decide +kernel
theorem dX3_firstWrong_73 : decode cX3_firstWrong 73 = .ok (.ireturn, 1) := by decide +kernel
theorem dX3_firstWrong_74 : decode cX3_firstWrong 74 = .ok (.aload_n 0, 1) := by decide +kernel
theorem dX3_firstWrong_75 : decode cX3_firstWrong 75 = .ok (.getfield 19, 3) := by decide +kernel
theorem dX3_firstWrong_78 : decode cX3_firstWrong 78 = .ok (.ifCond .eq 20, 3) := by decide +kernel
theorem dX3_firstWrong_81 : decode cX3_firstWrong 81 = .ok (.aload_n 0, 1) := by decide +kernel
theorem dX3_firstWrong_82 : decode cX3_firstWrong 82 = .ok (.getfield 39, 3) := by decide +kernel
theorem dX3_firstWrong_85 : decode cX3_firstWrong 85 = .ok (.bipush 7, 2) := by decide +kernel
theorem dX3_firstWrong_87 : decode cX3_firstWrong 87 = .ok (.if_icmp .ne 7, 3) := by decide +kernel
theorem dX3_firstWrong_90 : decode cX3_firstWrong 90 = .ok (.iconst 1, 1) := by decide +kernel
theorem dX3_firstWrong_91 : decode cX3_firstWrong 91 = .ok (.goto 35, 3) := by decide +kernel
theorem dX3_firstWrong_94 : decode cX3_firstWrong 94 = .ok (.iconst 0, 1) := by decide +kernel
theorem dX3_firstWrong_95 : decode cX3_firstWrong 95 = .ok (.goto 31, 3) := by decide +kernel
theorem dX3_firstWrong_98 : decode cX3_firstWrong 98 = .ok (.aload_n 0, 1) := by decide +kernel
theorem dX3_firstWrong_99 : decode cX3_firstWrong 99 = .ok (.getfield 39, 3) := by decide +kernel
theorem dX3_firstWrong_102 : decode cX3_firstWrong 102 = .ok (.iconst 5, 1) := by decide +kernel
theorem dX3_firstWrong_103 : decode cX3_firstWrong 103 = .ok (.if_icmp .eq 18, 3) := by decide +kernel
theorem dX3_firstWrong_106 : decode cX3_firstWrong 106 = .ok (.aload_n 0, 1) := by decide +kernel
theorem dX3_firstWrong_107 : decode cX3_firstWrong 107 = .ok (.getfield 39, 3) := by decide +kernel
theorem dX3_firstWrong_110 : decode cX3_firstWrong 110 = .ok (.iconst 4, 1) := by decide +kernel
theorem dX3_firstWrong_111 : decode cX3_firstWrong 111 = .ok (.if_icmp .ne 14, 3) := by decide +kernel
theorem dX3_firstWrong_114 : decode cX3_firstWrong 114 = .ok (.aload_n 0, 1) := by decide +kernel
theorem dX3_firstWrong_115 : decode cX3_firstWrong 115 = .ok (.getfield 43, 3) := by decide +kernel
theorem dX3_firstWrong_118 : decode cX3_firstWrong 118 = .ok (.ifCond .le 7, 3) := by decide +kernel
theorem dX3_firstWrong_121 : decode cX3_firstWrong 121 = .ok (.iconst 1, 1) := by decide +kernel
theorem dX3_firstWrong_122 : decode cX3_firstWrong 122 = .ok (.goto 4, 3) := by decide +kernel
theorem dX3_firstWrong_125 : decode cX3_firstWrong 125 = .ok (.iconst 0, 1) := by decide +kernel
theorem dX3_firstWrong_126 : decode cX3_firstWrong 126 = .ok (.istore 5, 2) := by decide +kernel
theorem dX3_firstWrong_128 : decode cX3_firstWrong 128 = .ok (.iload 5, 2) := by decide +kernel
theorem dX3_firstWrong_130 : decode cX3_firstWrong 130 = .ok (.ifCond .eq 7, 3) := by decide +kernel
theorem dX3_firstWrong_133 : decode cX3_firstWrong 133 = .ok (.iconst (-1), 1) := by decide +kernel
theorem dX3_firstWrong_134 : decode cX3_firstWrong 134 = .ok (.goto 4, 3) := by decide +kernel
theorem dX3_firstWrong_137 : decode cX3_firstWrong 137 = .ok (.iload_n 2, 1) := by decide +kernel
theorem dX3_firstWrong_138 : decode cX3_firstWrong 138 = .ok (.ireturn, 1) := by decide +kernel
theorem dX3_beginLine_0 : decode cX3_beginLine 0 = .ok (.aload_n 0, 1) := by decide +kernel
theorem dX3_beginLine_1 : decode cX3_beginLine 1 = .ok (.iconst 0, 1) := by decide +kernel
theorem dX3_beginLine_2 : decode cX3_beginLine 2 = .ok (.putfield 39, 3) := by decide +kernel
theorem dX3_beginLine_5 : decode cX3_beginLine 5 = .ok (.aload_n 0, 1) := by decide +kernel
theorem dX3_beginLine_6 : decode cX3_beginLine 6 = .ok (.iconst 0, 1) := by decide +kernel
theorem dX3_beginLine_7 : decode cX3_beginLine 7 = .ok (.putfield 46, 3) := by decide +kernel
theorem dX3_beginLine_10 : decode cX3_beginLine 10 = .ok (.aload_n 0, 1) := by decide +kernel
theorem dX3_beginLine_11 : decode cX3_beginLine 11 = .ok (.iconst 0, 1) := by decide +kernel
theorem dX3_beginLine_12 : decode cX3_beginLine 12 = .ok (.putfield 49, 3) := by decide +kernel
theorem dX3_beginLine_15 : decode cX3_beginLine 15 = .ok (.aload_n 0, 1) := by decide +kernel
theorem dX3_beginLine_16 : decode cX3_beginLine 16 = .ok (.iconst 0, 1) := by decide +kernel
theorem dX3_beginLine_17 : decode cX3_beginLine 17 = .ok (.putfield 43, 3) := by decide +kernel
theorem dX3_beginLine_20 : decode cX3_beginLine 20 = .ok (.aload_n 0, 1) := by decide +kernel
theorem dX3_beginLine_21 : decode cX3_beginLine 21 = .ok (.iconst 0, 1) := by decide +kernel
theorem dX3_beginLine_22 : decode cX3_beginLine 22 = .ok (.putfield 52, 3) := by decide +kernel
theorem dX3_beginLine_25 : decode cX3_beginLine 25 = .ok (.return_, 1) := by decide +kernel
theorem dX4_init_0 : decode cX4_init 0 = .ok (.aload_n 0, 1) := by decide +kernel
theorem dX4_init_1 : decode cX4_init 1 = .ok (.invokespecial 3, 3) := by decide +kernel
theorem dX4_init_4 : decode cX4_init 4 = .ok (.aload_n 0, 1) := by decide +kernel
theorem dX4_init_5 : decode cX4_init 5 = .ok (.bipush 26, 2) := by decide +kernel
theorem dX4_init_7 : decode cX4_init 7 = .ok (.newarray .int, 2) := by decide +kernel
theorem dX4_init_9 : decode cX4_init 9 = .ok (.putfield 11, 3) := by decide +kernel
theorem dX4_init_12 : decode cX4_init 12 = .ok (.aload_n 0, 1) := by decide +kernel
theorem dX4_init_13 : decode cX4_init 13 = .ok (.bipush 60, 2) := by decide +kernel
theorem dX4_init_15 : decode cX4_init 15 = .ok (.newarray .int, 2) := by decide +kernel
theorem dX4_init_17 : decode cX4_init 17 = .ok (.putfield 15, 3) := by decide +kernel
theorem dX4_init_20 : decode cX4_init 20 = .ok (.return_, 1) := by decide +kernel
theorem dX5_init_0 : decode cX5_init 0 = .ok (.aload_n 0, 1) := by decide +kernel
theorem dX5_init_1 : decode cX5_init 1 = .ok (.invokespecial 3, 3) := by decide +kernel
theorem dX5_init_4 : decode cX5_init 4 = .ok (.aload_n 0, 1) := by decide +kernel
theorem dX5_init_5 : decode cX5_init 5 = .ok (.aload_n 1, 1) := by decide +kernel
theorem dX5_init_6 : decode cX5_init 6 = .ok (.putfield 9, 3) := by decide +kernel
theorem dX5_init_9 : decode cX5_init 9 = .ok (.aload_n 0, 1) := by decide +kernel
theorem dX5_init_10 : decode cX5_init 10 = .ok (.aload_n 2, 1) := by decide +kernel
theorem dX5_init_11 : decode cX5_init 11 = .ok (.putfield 15, 3) := by decide +kernel
theorem dX5_init_14 : decode cX5_init 14 = .ok (.aload_n 0, 1) := by decide +kernel
theorem dX5_init_15 : decode cX5_init 15 = .ok (.bipush 6, 2) := by decide +kernel
theorem dX5_init_17 : decode cX5_init 17 = .ok (.newarray .boolean, 2) := by decide +kernel
theorem dX5_init_19 : decode cX5_init 19 = .ok (.putfield 19, 3) := by decide +kernel
theorem dX5_init_22 : decode cX5_init 22 = .ok (.aload_n 0, 1) := by decide +kernel
theorem dX5_init_23 : decode cX5_init 23 = .ok (.bipush 6, 2) := by decide +kernel
theorem dX5_init_25 : decode cX5_init 25 = .ok (.newarray .int, 2) := by decide +kernel
theorem dX5_init_27 : decode cX5_init 27 = .ok (.putfield 23, 3) := by decide +kernel
theorem dX5_init_30 : decode cX5_init 30 = .ok (.aload_n 0, 1) := by decide +kernel
theorem dX5_init_31 : decode cX5_init 31 = .ok (.bipush 6, 2) := by decide +kernel
theorem dX5_init_33 : decode cX5_init 33 = .ok (.newarray .int, 2) := by decide +kernel
theorem dX5_init_35 : decode cX5_init 35 = .ok (.putfield 27, 3) := by decide +kernel
theorem dX5_init_38 : decode cX5_init 38 = .ok (.return_, 1) := by decide +kernel
theorem dX5_reckonFor_0 : decode cX5_reckonFor 0 = .ok (.iconst 0, 1) := by decide +kernel
theorem dX5_reckonFor_1 : decode cX5_reckonFor 1 = .ok (.istore_n 2, 1) := by decide +kernel
theorem dX5_reckonFor_2 : decode cX5_reckonFor 2 = .ok (.iload_n 2, 1) := by decide +kernel
theorem dX5_reckonFor_3 : decode cX5_reckonFor 3 = .ok (.aload_n 0, 1) := by decide +kernel
theorem dX5_reckonFor_4 : decode cX5_reckonFor 4 = .ok (.getfield 9, 3) := by decide +kernel
theorem dX5_reckonFor_7 : decode cX5_reckonFor 7 = .ok (.getfield 30, 3) := by decide +kernel
theorem dX5_reckonFor_10 : decode cX5_reckonFor 10 = .ok (.if_icmp .ge 127, 3) := by decide +kernel
theorem dX5_reckonFor_13 : decode cX5_reckonFor 13 = .ok (.iload_n 2, 1) := by decide +kernel
theorem dX5_reckonFor_14 : decode cX5_reckonFor 14 = .ok (.bipush 6, 2) := by decide +kernel
theorem dX5_reckonFor_16 : decode cX5_reckonFor 16 = .ok (.if_icmp .ge 121, 3) := by decide +kernel
theorem dX5_reckonFor_19 : decode cX5_reckonFor 19 = .ok (.aload_n 0, 1) := by decide +kernel
theorem dX5_reckonFor_20 : decode cX5_reckonFor 20 = .ok (.getfield 9, 3) := by decide +kernel
theorem dX5_reckonFor_23 : decode cX5_reckonFor 23 = .ok (.getfield 36, 3) := by decide +kernel
theorem dX5_reckonFor_26 : decode cX5_reckonFor 26 = .ok (.iload_n 2, 1) := by decide +kernel
theorem dX5_reckonFor_27 : decode cX5_reckonFor 27 = .ok (.aaload, 1) := by decide +kernel
theorem dX5_reckonFor_28 : decode cX5_reckonFor 28 = .ok (.astore_n 3, 1) := by decide +kernel
theorem dX5_reckonFor_29 : decode cX5_reckonFor 29 = .ok (.aload_n 0, 1) := by decide +kernel
theorem dX5_reckonFor_30 : decode cX5_reckonFor 30 = .ok (.getfield 23, 3) := by decide +kernel
theorem dX5_reckonFor_33 : decode cX5_reckonFor 33 = .ok (.iload_n 2, 1) := by decide +kernel
theorem dX5_reckonFor_34 : decode cX5_reckonFor 34 = .ok (.aload_n 0, 1) := by decide +kernel
theorem dX5_reckonFor_35 : decode cX5_reckonFor 35 = .ok (.getfield 9, 3) := by decide +kernel
theorem dX5_reckonFor_38 : decode cX5_reckonFor 38 = .ok (.iload_n 2, 1) := by decide +kernel
theorem dX5_reckonFor_39 : decode cX5_reckonFor 39 = .ok (.invokevirtual 40, 3) := by decide +kernel
theorem dX5_reckonFor_42 : decode cX5_reckonFor 42 = .ok (.iastore, 1) := by decide +kernel
theorem dX5_reckonFor_43 : decode cX5_reckonFor 43 = .ok (.aload_n 0, 1) := by decide +kernel
theorem dX5_reckonFor_44 : decode cX5_reckonFor 44 = .ok (.getfield 15, 3) := by decide +kernel
theorem dX5_reckonFor_47 : decode cX5_reckonFor 47 = .ok (.aload_n 0, 1) := by decide +kernel
theorem dX5_reckonFor_48 : decode cX5_reckonFor 48 = .ok (.getfield 9, 3) := by decide +kernel
theorem dX5_reckonFor_51 : decode cX5_reckonFor 51 = .ok (.getfield 44, 3) := by decide +kernel
theorem dX5_reckonFor_54 : decode cX5_reckonFor 54 = .ok (.iload_n 2, 1) := by decide +kernel
theorem dX5_reckonFor_55 : decode cX5_reckonFor 55 = .ok (.aaload, 1) := by decide +kernel
theorem dX5_reckonFor_56 : decode cX5_reckonFor 56 = .ok (.aload_n 3, 1) := by decide +kernel
theorem dX5_reckonFor_57 : decode cX5_reckonFor 57 = .ok (.aload_n 0, 1) := by decide +kernel
theorem dX5_reckonFor_58 : decode cX5_reckonFor 58 = .ok (.getfield 23, 3) := by decide +kernel
theorem dX5_reckonFor_61 : decode cX5_reckonFor 61 = .ok (.iload_n 2, 1) := by decide +kernel
theorem dX5_reckonFor_62 : decode cX5_reckonFor 62 = .ok (.iaload, 1) := by decide +kernel
theorem dX5_reckonFor_63 : decode cX5_reckonFor 63 = .ok (.aload_n 0, 1) := by decide +kernel
theorem dX5_reckonFor_64 : decode cX5_reckonFor 64 = .ok (.getfield 15, 3) := by decide +kernel
theorem dX5_reckonFor_67 : decode cX5_reckonFor 67 = .ok (.iload_n 2, 1) := by decide +kernel
theorem dX5_reckonFor_68 : decode cX5_reckonFor 68 = .ok (.iload_n 1, 1) := by decide +kernel
theorem dX5_reckonFor_69 : decode cX5_reckonFor 69 = .ok (.invokevirtual 48, 3) := by decide +kernel
theorem dX5_reckonFor_72 : decode cX5_reckonFor 72 = .ok (.iload_n 1, 1) := by decide +kernel
theorem dX5_reckonFor_73 : decode cX5_reckonFor 73 = .ok (.invokevirtual 54, 3) := by decide +kernel
theorem dX5_reckonFor_76 : decode cX5_reckonFor 76 = .ok (.istore 4, 2) := by decide +kernel
theorem dX5_reckonFor_78 : decode cX5_reckonFor 78 = .ok (.aload_n 0, 1) := by decide +kernel
theorem dX5_reckonFor_79 : decode cX5_reckonFor 79 = .ok (.getfield 19, 3) := by decide +kernel
theorem dX5_reckonFor_82 : decode cX5_reckonFor 82 = .ok (.iload_n 2, 1) := by decide +kernel
theorem dX5_reckonFor_83 : decode cX5_reckonFor 83 = .ok (.aload_n 3, 1) := by decide +kernel
theorem dX5_reckonFor_84 : decode cX5_reckonFor 84 = .ok (.getfield 58, 3) := by decide +kernel
theorem dX5_reckonFor_87 : decode cX5_reckonFor 87 = .ok (.iconst 2, 1) := by decide +kernel
theorem dX5_reckonFor_88 : decode cX5_reckonFor 88 = .ok (.if_icmp .eq 14, 3) := by decide +kernel
theorem dX5_reckonFor_91 : decode cX5_reckonFor 91 = .ok (.iload 4, 2) := by decide +kernel
theorem dX5_reckonFor_93 : decode cX5_reckonFor 93 = .ok (.bipush (-2), 2) := by decide +kernel
theorem dX5_reckonFor_95 : decode cX5_reckonFor 95 = .ok (.if_icmp .eq 7, 3) := by decide +kernel
theorem dX5_reckonFor_98 : decode cX5_reckonFor 98 = .ok (.iconst 1, 1) := by decide +kernel
theorem dX5_reckonFor_99 : decode cX5_reckonFor 99 = .ok (.goto 4, 3) := by decide +kernel
theorem dX5_reckonFor_102 : decode cX5_reckonFor 102 = .ok (.iconst 0, 1) := by decide +kernel
theorem dX5_reckonFor_103 : decode cX5_reckonFor 103 = .ok (.bastore, 1) := by decide +kernel
theorem dX5_reckonFor_104 : decode cX5_reckonFor 104 = .ok (.aload_n 0, 1) := by decide +kernel
theorem dX5_reckonFor_105 : decode cX5_reckonFor 105 = .ok (.getfield 27, 3) := by decide +kernel
theorem dX5_reckonFor_108 : decode cX5_reckonFor 108 = .ok (.iload_n 2, 1) := by decide +kernel
theorem dX5_reckonFor_109 : decode cX5_reckonFor 109 = .ok (.aload_n 3, 1) := by decide +kernel
theorem dX5_reckonFor_110 : decode cX5_reckonFor 110 = .ok (.getfield 63, 3) := by decide +kernel
theorem dX5_reckonFor_113 : decode cX5_reckonFor 113 = .ok (.sipush 1000, 3) := by decide +kernel
theorem dX5_reckonFor_116 : decode cX5_reckonFor 116 = .ok (.iload 4, 2) := by decide +kernel
theorem dX5_reckonFor_118 : decode cX5_reckonFor 118 = .ok (.imul, 1) := by decide +kernel
theorem dX5_reckonFor_119 : decode cX5_reckonFor 119 = .ok (.iadd, 1) := by decide +kernel
theorem dX5_reckonFor_120 : decode cX5_reckonFor 120 = .ok (.aload_n 0, 1) := by decide +kernel
theorem dX5_reckonFor_121 : decode cX5_reckonFor 121 = .ok (.getfield 15, 3) := by decide +kernel
theorem dX5_reckonFor_124 : decode cX5_reckonFor 124 = .ok (.iload_n 2, 1) := by decide +kernel
theorem dX5_reckonFor_125 : decode cX5_reckonFor 125 = .ok (.iload_n 1, 1) := by decide +kernel
theorem dX5_reckonFor_126 : decode cX5_reckonFor 126 = .ok (.invokevirtual 66, 3) := by decide +kernel
theorem dX5_reckonFor_129 : decode cX5_reckonFor 129 = .ok (.iadd, 1) := by decide +kernel
theorem dX5_reckonFor_130 : decode cX5_reckonFor 130 = .ok (.iastore, 1) := by decide +kernel
theorem dX5_reckonFor_131 : decode cX5_reckonFor 131 = .ok (.iinc 2 1, 3) := by decide +kernel
theorem dX5_reckonFor_134 : decode cX5_reckonFor 134 = .ok (.goto (-132), 3) := by decide +kernel
theorem dX5_reckonFor_137 : decode cX5_reckonFor 137 = .ok (.return_, 1) := by decide +kernel
theorem dX6_init_0 : decode cX6_init 0 = .ok (.aload_n 0, 1) := by decide +kernel
theorem dX6_init_1 : decode cX6_init 1 = .ok (.invokespecial 3, 3) := by decide +kernel
theorem dX6_init_4 : decode cX6_init 4 = .ok (.aload_n 0, 1) := by decide +kernel
theorem dX6_init_5 : decode cX6_init 5 = .ok (.iconst 4, 1) := by decide +kernel
theorem dX6_init_6 : decode cX6_init 6 = .ok (.newarray .int, 2) := by decide +kernel
theorem dX6_init_8 : decode cX6_init 8 = .ok (.putfield 9, 3) := by decide +kernel
theorem dX6_init_11 : decode cX6_init 11 = .ok (.aload_n 0, 1) := by decide +kernel
theorem dX6_init_12 : decode cX6_init 12 = .ok (.bipush 60, 2) := by decide +kernel
theorem dX6_init_14 : decode cX6_init 14 = .ok (.newarray .int, 2) := by decide +kernel
theorem dX6_init_16 : decode cX6_init 16 = .ok (.putfield 15, 3) := by decide +kernel
theorem dX6_init_19 : decode cX6_init 19 = .ok (.aload_n 0, 1) := by decide +kernel
theorem dX6_init_20 : decode cX6_init 20 = .ok (.bipush 12, 2) := by decide +kernel
theorem dX6_init_22 : decode cX6_init 22 = .ok (.newarray .int, 2) := by decide +kernel
theorem dX6_init_24 : decode cX6_init 24 = .ok (.putfield 18, 3) := by decide +kernel
theorem dX6_init_27 : decode cX6_init 27 = .ok (.aload_n 0, 1) := by decide +kernel
theorem dX6_init_28 : decode cX6_init 28 = .ok (.iconst 5, 1) := by decide +kernel
theorem dX6_init_29 : decode cX6_init 29 = .ok (.newarray .int, 2) := by decide +kernel
theorem dX6_init_31 : decode cX6_init 31 = .ok (.putfield 21, 3) := by decide +kernel
theorem dX6_init_34 : decode cX6_init 34 = .ok (.aload_n 0, 1) := by decide +kernel
theorem dX6_init_35 : decode cX6_init 35 = .ok (.iconst 5, 1) := by decide +kernel
theorem dX6_init_36 : decode cX6_init 36 = .ok (.newarray .int, 2) := by decide +kernel
theorem dX6_init_38 : decode cX6_init 38 = .ok (.putfield 24, 3) := by decide +kernel
theorem dX6_init_41 : decode cX6_init 41 = .ok (.return_, 1) := by decide +kernel
theorem dX7_init_0 : decode cX7_init 0 = .ok (.aload_n 0, 1) := by decide +kernel
theorem dX7_init_1 : decode cX7_init 1 = .ok (.invokespecial 3, 3) := by decide +kernel
theorem dX7_init_4 : decode cX7_init 4 = .ok (.aload_n 0, 1) := by decide +kernel
theorem dX7_init_5 : decode cX7_init 5 = .ok (.iload_n 1, 1) := by decide +kernel
theorem dX7_init_6 : decode cX7_init 6 = .ok (.putfield 9, 3) := by decide +kernel
theorem dX7_init_9 : decode cX7_init 9 = .ok (.aload_n 0, 1) := by decide +kernel
theorem dX7_init_10 : decode cX7_init 10 = .ok (.iload_n 2, 1) := by decide +kernel
theorem dX7_init_11 : decode cX7_init 11 = .ok (.putfield 15, 3) := by decide +kernel
theorem dX7_init_14 : decode cX7_init 14 = .ok (.aload_n 0, 1) := by decide +kernel
theorem dX7_init_15 : decode cX7_init 15 = .ok (.iconst 0, 1) := by decide +kernel
theorem dX7_init_16 : decode cX7_init 16 = .ok (.iload_n 1, 1) := by decide +kernel
theorem dX7_init_17 : decode cX7_init 17 = .ok (.iload_n 2, 1) := by decide +kernel
theorem dX7_init_18 : decode cX7_init 18 = .ok (.imul, 1) := by decide +kernel
theorem dX7_init_19 : decode cX7_init 19 = .ok (.invokestatic 18, 3) := by decide +kernel
theorem dX7_init_22 : decode cX7_init 22 = .ok (.newarray .int, 2) := by decide +kernel
theorem dX7_init_24 : decode cX7_init 24 = .ok (.putfield 24, 3) := by decide +kernel
theorem dX7_init_27 : decode cX7_init 27 = .ok (.return_, 1) := by decide +kernel
theorem dX7_isFull_0 : decode cX7_isFull 0 = .ok (.aload_n 0, 1) := by decide +kernel
theorem dX7_isFull_1 : decode cX7_isFull 1 = .ok (.getfield 28, 3) := by decide +kernel
theorem dX7_isFull_4 : decode cX7_isFull 4 = .ok (.aload_n 0, 1) := by decide +kernel
theorem dX7_isFull_5 : decode cX7_isFull 5 = .ok (.getfield 9, 3) := by decide +kernel
theorem dX7_isFull_8 : decode cX7_isFull 8 = .ok (.if_icmp .lt 7, 3) := by decide +kernel
theorem dX7_isFull_11 : decode cX7_isFull 11 = .ok (.iconst 1, 1) := by decide +kernel
theorem dX7_isFull_12 : decode cX7_isFull 12 = .ok (.goto 4, 3) := by decide +kernel
theorem dX7_isFull_15 : decode cX7_isFull 15 = .ok (.iconst 0, 1) := by decide +kernel
theorem dX7_isFull_16 : decode cX7_isFull 16 = .ok (.ireturn, 1) := by decide +kernel
theorem dX7_put_0 : decode cX7_put 0 = .ok (.iload_n 1, 1) := by decide +kernel
theorem dX7_put_1 : decode cX7_put 1 = .ok (.ifCond .lt 37, 3) := by decide +kernel
theorem dX7_put_4 : decode cX7_put 4 = .ok (.iload_n 1, 1) := by decide +kernel
theorem dX7_put_5 : decode cX7_put 5 = .ok (.aload_n 0, 1) := by decide +kernel
theorem dX7_put_6 : decode cX7_put 6 = .ok (.getfield 28, 3) := by decide +kernel
theorem dX7_put_9 : decode cX7_put 9 = .ok (.if_icmp .ge 29, 3) := by decide +kernel
theorem dX7_put_12 : decode cX7_put 12 = .ok (.iload_n 2, 1) := by decide +kernel
theorem dX7_put_13 : decode cX7_put 13 = .ok (.ifCond .lt 25, 3) := by decide +kernel
theorem dX7_put_16 : decode cX7_put 16 = .ok (.iload_n 2, 1) := by decide +kernel
theorem dX7_put_17 : decode cX7_put 17 = .ok (.aload_n 0, 1) := by decide +kernel
theorem dX7_put_18 : decode cX7_put 18 = .ok (.getfield 15, 3) := by decide +kernel
theorem dX7_put_21 : decode cX7_put 21 = .ok (.if_icmp .ge 17, 3) := by decide +kernel
theorem dX7_put_24 : decode cX7_put 24 = .ok (.aload_n 0, 1) := by decide +kernel
theorem dX7_put_25 : decode cX7_put 25 = .ok (.getfield 24, 3) := by decide +kernel
theorem dX7_put_28 : decode cX7_put 28 = .ok (.iload_n 1, 1) := by decide +kernel
theorem dX7_put_29 : decode cX7_put 29 = .ok (.aload_n 0, 1) := by decide +kernel
theorem dX7_put_30 : decode cX7_put 30 = .ok (.getfield 15, 3) := by decide +kernel
theorem dX7_put_33 : decode cX7_put 33 = .ok (.imul, 1) := by decide +kernel
theorem dX7_put_34 : decode cX7_put 34 = .ok (.iload_n 2, 1) := by decide +kernel
theorem dX7_put_35 : decode cX7_put 35 = .ok (.iadd, 1) := by decide +kernel
theorem dX7_put_36 : decode cX7_put 36 = .ok (.iload_n 3, 1) := by decide +kernel
theorem dX7_put_37 : decode cX7_put 37 = .ok (.iastore, 1) := by decide +kernel
theorem dX7_put_38 : decode cX7_put 38 = .ok (.return_, 1) := by decide +kernel
theorem dX7_push_0 : decode cX7_push 0 = .ok (.aload_n 0, 1) := by decide +kernel
theorem dX7_push_1 : decode cX7_push 1 = .ok (.invokevirtual 31, 3) := by decide +kernel
theorem dX7_push_4 : decode cX7_push 4 = .ok (.ifCond .eq 5, 3) := by decide +kernel
theorem dX7_push_7 : decode cX7_push 7 = .ok (.iconst (-1), 1) := by decide +kernel
theorem dX7_push_8 : decode cX7_push 8 = .ok (.ireturn, 1) := by decide +kernel
theorem dX7_push_9 : decode cX7_push 9 = .ok (.aload_n 0, 1) := by decide +kernel
theorem dX7_push_10 : decode cX7_push 10 = .ok (.dup, 1) := by decide +kernel
theorem dX7_push_11 : decode cX7_push 11 = .ok (.getfield 28, 3) := by decide +kernel
theorem dX7_push_14 : decode cX7_push 14 = .ok (.iconst 1, 1) := by decide +kernel
theorem dX7_push_15 : decode cX7_push 15 = .ok (.iadd, 1) := by decide +kernel
theorem dX7_push_16 : decode cX7_push 16 = .ok (.putfield 28, 3) := by decide +kernel
theorem dX7_push_19 : decode cX7_push 19 = .ok (.aload_n 0, 1) := by decide +kernel
theorem dX7_push_20 : decode cX7_push 20 = .ok (.aload_n 0, 1) := by decide +kernel
theorem dX7_push_21 : decode cX7_push 21 = .ok (.getfield 28, 3) := by decide +kernel
theorem dX7_push_24 : decode cX7_push 24 = .ok (.iconst 1, 1) := by decide +kernel
theorem dX7_push_25 : decode cX7_push 25 = .ok (.isub, 1) := by decide +kernel
theorem dX7_push_26 : decode cX7_push 26 = .ok (.iconst 0, 1) := by decide +kernel
theorem dX7_push_27 : decode cX7_push 27 = .ok (.iload_n 1, 1) := by decide +kernel
theorem dX7_push_28 : decode cX7_push 28 = .ok (.invokevirtual 35, 3) := by decide +kernel
theorem dX7_push_31 : decode cX7_push 31 = .ok (.aload_n 0, 1) := by decide +kernel
theorem dX7_push_32 : decode cX7_push 32 = .ok (.aload_n 0, 1) := by decide +kernel
theorem dX7_push_33 : decode cX7_push 33 = .ok (.getfield 28, 3) := by decide +kernel
theorem dX7_push_36 : decode cX7_push 36 = .ok (.iconst 1, 1) := by decide +kernel
theorem dX7_push_37 : decode cX7_push 37 = .ok (.isub, 1) := by decide +kernel
theorem dX7_push_38 : decode cX7_push 38 = .ok (.iconst 1, 1) := by decide +kernel
theorem dX7_push_39 : decode cX7_push 39 = .ok (.iload_n 2, 1) := by decide +kernel
theorem dX7_push_40 : decode cX7_push 40 = .ok (.invokevirtual 35, 3) := by decide +kernel
theorem dX7_push_43 : decode cX7_push 43 = .ok (.aload_n 0, 1) := by decide +kernel
theorem dX7_push_44 : decode cX7_push 44 = .ok (.aload_n 0, 1) := by decide +kernel
theorem dX7_push_45 : decode cX7_push 45 = .ok (.getfield 28, 3) := by decide +kernel
theorem dX7_push_48 : decode cX7_push 48 = .ok (.iconst 1, 1) := by decide +kernel
theorem dX7_push_49 : decode cX7_push 49 = .ok (.isub, 1) := by decide +kernel
theorem dX7_push_50 : decode cX7_push 50 = .ok (.iconst 2, 1) := by decide +kernel
theorem dX7_push_51 : decode cX7_push 51 = .ok (.iload_n 3, 1) := by decide +kernel
theorem dX7_push_52 : decode cX7_push 52 = .ok (.invokevirtual 35, 3) := by decide +kernel
theorem dX7_push_55 : decode cX7_push 55 = .ok (.aload_n 0, 1) := by decide +kernel
theorem dX7_push_56 : decode cX7_push 56 = .ok (.aload_n 0, 1) := by decide +kernel
theorem dX7_push_57 : decode cX7_push 57 = .ok (.getfield 28, 3) := by decide +kernel
theorem dX7_push_60 : decode cX7_push 60 = .ok (.iconst 1, 1) := by decide +kernel
theorem dX7_push_61 : decode cX7_push 61 = .ok (.isub, 1) := by decide +kernel
theorem dX7_push_62 : decode cX7_push 62 = .ok (.iconst 3, 1) := by decide +kernel
theorem dX7_push_63 : decode cX7_push 63 = .ok (.iload 4, 2) := by decide +kernel
theorem dX7_push_65 : decode cX7_push 65 = .ok (.invokevirtual 35, 3) := by decide +kernel
theorem dX7_push_68 : decode cX7_push 68 = .ok (.aload_n 0, 1) := by decide +kernel
theorem dX7_push_69 : decode cX7_push 69 = .ok (.getfield 28, 3) := by decide +kernel
theorem dX7_push_72 : decode cX7_push 72 = .ok (.ireturn, 1) := by decide +kernel
theorem dX8_init_0 : decode cX8_init 0 = .ok (.aload_n 0, 1) := by decide +kernel
theorem dX8_init_1 : decode cX8_init 1 = .ok (.invokespecial 3, 3) := by decide +kernel
theorem dX8_init_4 : decode cX8_init 4 = .ok (.aload_n 0, 1) := by decide +kernel
theorem dX8_init_5 : decode cX8_init 5 = .ok (.bipush 60, 2) := by decide +kernel
theorem dX8_init_7 : decode cX8_init 7 = .ok (.newarray .int, 2) := by decide +kernel
theorem dX8_init_9 : decode cX8_init 9 = .ok (.putfield 9, 3) := by decide +kernel
theorem dX8_init_12 : decode cX8_init 12 = .ok (.aload_n 0, 1) := by decide +kernel
theorem dX8_init_13 : decode cX8_init 13 = .ok (.bipush 21, 2) := by decide +kernel
theorem dX8_init_15 : decode cX8_init 15 = .ok (.newarray .int, 2) := by decide +kernel
theorem dX8_init_17 : decode cX8_init 17 = .ok (.putfield 15, 3) := by decide +kernel
theorem dX8_init_20 : decode cX8_init 20 = .ok (.aload_n 0, 1) := by decide +kernel
theorem dX8_init_21 : decode cX8_init 21 = .ok (.bipush 21, 2) := by decide +kernel
theorem dX8_init_23 : decode cX8_init 23 = .ok (.newarray .int, 2) := by decide +kernel
theorem dX8_init_25 : decode cX8_init 25 = .ok (.putfield 18, 3) := by decide +kernel
theorem dX8_init_28 : decode cX8_init 28 = .ok (.aload_n 0, 1) := by decide +kernel
theorem dX8_init_29 : decode cX8_init 29 = .ok (.bipush 21, 2) := by decide +kernel
theorem dX8_init_31 : decode cX8_init 31 = .ok (.newarray .int, 2) := by decide +kernel
theorem dX8_init_33 : decode cX8_init 33 = .ok (.putfield 21, 3) := by decide +kernel
theorem dX8_init_36 : decode cX8_init 36 = .ok (.aload_n 0, 1) := by decide +kernel
theorem dX8_init_37 : decode cX8_init 37 = .ok (.bipush 21, 2) := by decide +kernel
theorem dX8_init_39 : decode cX8_init 39 = .ok (.newarray .int, 2) := by decide +kernel
theorem dX8_init_41 : decode cX8_init 41 = .ok (.putfield 24, 3) := by decide +kernel
theorem dX8_init_44 : decode cX8_init 44 = .ok (.return_, 1) := by decide +kernel
theorem dX8_empty_0 : decode cX8_empty 0 = .ok (.aload_n 0, 1) := by decide +kernel
theorem dX8_empty_1 : decode cX8_empty 1 = .ok (.iconst 0, 1) := by decide +kernel
theorem dX8_empty_2 : decode cX8_empty 2 = .ok (.putfield 27, 3) := by decide +kernel
theorem dX8_empty_5 : decode cX8_empty 5 = .ok (.aload_n 0, 1) := by decide +kernel
theorem dX8_empty_6 : decode cX8_empty 6 = .ok (.iconst 0, 1) := by decide +kernel
theorem dX8_empty_7 : decode cX8_empty 7 = .ok (.putfield 31, 3) := by decide +kernel
theorem dX8_empty_10 : decode cX8_empty 10 = .ok (.aload_n 0, 1) := by decide +kernel
theorem dX8_empty_11 : decode cX8_empty 11 = .ok (.iconst 0, 1) := by decide +kernel
theorem dX8_empty_12 : decode cX8_empty 12 = .ok (.putfield 34, 3) := by decide +kernel
theorem dX8_empty_15 : decode cX8_empty 15 = .ok (.return_, 1) := by decide +kernel
theorem dX9_init_0 : decode cX9_init 0 = .ok (.aload_n 0, 1) := by decide +kernel
theorem dX9_init_1 : decode cX9_init 1 = .ok (.invokespecial 3, 3) := by decide +kernel
theorem dX9_init_4 : decode cX9_init 4 = .ok (.aload_n 0, 1) := by decide +kernel
theorem dX9_init_5 : decode cX9_init 5 = .ok (.iconst 5, 1) := by decide +kernel
theorem dX9_init_6 : decode cX9_init 6 = .ok (.newarray .int, 2) := by decide +kernel
theorem dX9_init_8 : decode cX9_init 8 = .ok (.putfield 9, 3) := by decide +kernel
theorem dX9_init_11 : decode cX9_init 11 = .ok (.aload_n 0, 1) := by decide +kernel
theorem dX9_init_12 : decode cX9_init 12 = .ok (.iconst 5, 1) := by decide +kernel
theorem dX9_init_13 : decode cX9_init 13 = .ok (.newarray .int, 2) := by decide +kernel
theorem dX9_init_15 : decode cX9_init 15 = .ok (.putfield 15, 3) := by decide +kernel
theorem dX9_init_18 : decode cX9_init 18 = .ok (.aload_n 0, 1) := by decide +kernel
theorem dX9_init_19 : decode cX9_init 19 = .ok (.iconst 5, 1) := by decide +kernel
theorem dX9_init_20 : decode cX9_init 20 = .ok (.newarray .boolean, 2) := by decide +kernel
theorem dX9_init_22 : decode cX9_init 22 = .ok (.putfield 18, 3) := by decide +kernel
theorem dX9_init_25 : decode cX9_init 25 = .ok (.aload_n 0, 1) := by decide +kernel
theorem dX9_init_26 : decode cX9_init 26 = .ok (.bipush 24, 2) := by decide +kernel
theorem dX9_init_28 : decode cX9_init 28 = .ok (.newarray .int, 2) := by decide +kernel
theorem dX9_init_30 : decode cX9_init 30 = .ok (.putfield 22, 3) := by decide +kernel
theorem dX9_init_33 : decode cX9_init 33 = .ok (.aload_n 0, 1) := by decide +kernel
theorem dX9_init_34 : decode cX9_init 34 = .ok (.bipush 8, 2) := by decide +kernel
theorem dX9_init_36 : decode cX9_init 36 = .ok (.newarray .int, 2) := by decide +kernel
theorem dX9_init_38 : decode cX9_init 38 = .ok (.putfield 25, 3) := by decide +kernel
theorem dX9_init_41 : decode cX9_init 41 = .ok (.aload_n 0, 1) := by decide +kernel
theorem dX9_init_42 : decode cX9_init 42 = .ok (.new 28, 3) := by decide +kernel
theorem dX9_init_45 : decode cX9_init 45 = .ok (.dup, 1) := by decide +kernel
theorem dX9_init_46 : decode cX9_init 46 = .ok (.bipush 30, 2) := by decide +kernel
theorem dX9_init_48 : decode cX9_init 48 = .ok (.iconst 3, 1) := by decide +kernel
theorem dX9_init_49 : decode cX9_init 49 = .ok (.invokespecial 30, 3) := by decide +kernel
theorem dX9_init_52 : decode cX9_init 52 = .ok (.putfield 33, 3) := by decide +kernel
theorem dX9_init_55 : decode cX9_init 55 = .ok (.aload_n 0, 1) := by decide +kernel
theorem dX9_init_56 : decode cX9_init 56 = .ok (.new 28, 3) := by decide +kernel
theorem dX9_init_59 : decode cX9_init 59 = .ok (.dup, 1) := by decide +kernel
theorem dX9_init_60 : decode cX9_init 60 = .ok (.bipush 20, 2) := by decide +kernel
theorem dX9_init_62 : decode cX9_init 62 = .ok (.iconst 4, 1) := by decide +kernel
theorem dX9_init_63 : decode cX9_init 63 = .ok (.invokespecial 30, 3) := by decide +kernel
theorem dX9_init_66 : decode cX9_init 66 = .ok (.putfield 37, 3) := by decide +kernel
theorem dX9_init_69 : decode cX9_init 69 = .ok (.iconst 0, 1) := by decide +kernel
theorem dX9_init_70 : decode cX9_init 70 = .ok (.istore_n 1, 1) := by decide +kernel
theorem dX9_init_71 : decode cX9_init 71 = .ok (.iload_n 1, 1) := by decide +kernel
theorem dX9_init_72 : decode cX9_init 72 = .ok (.iconst 4, 1) := by decide +kernel
theorem dX9_init_73 : decode cX9_init 73 = .ok (.if_icmp .ge 39, 3) := by decide +kernel
theorem dX9_init_76 : decode cX9_init 76 = .ok (.iconst 0, 1) := by decide +kernel
theorem dX9_init_77 : decode cX9_init 77 = .ok (.istore_n 2, 1) := by decide +kernel
theorem dX9_init_78 : decode cX9_init 78 = .ok (.iload_n 2, 1) := by decide +kernel
theorem dX9_init_79 : decode cX9_init 79 = .ok (.bipush 6, 2) := by decide +kernel
theorem dX9_init_81 : decode cX9_init 81 = .ok (.if_icmp .ge 25, 3) := by decide +kernel
theorem dX9_init_84 : decode cX9_init 84 = .ok (.aload_n 0, 1) := by decide +kernel
theorem dX9_init_85 : decode cX9_init 85 = .ok (.getfield 22, 3) := by decide +kernel
theorem dX9_init_88 : decode cX9_init 88 = .ok (.iload_n 1, 1) := by decide +kernel
theorem dX9_init_89 : decode cX9_init 89 = .ok (.bipush 6, 2) := by decide +kernel
theorem dX9_init_91 : decode cX9_init 91 = .ok (.imul, 1) := by decide +kernel
theorem dX9_init_92 : decode cX9_init 92 = .ok (.iload_n 2, 1) := by decide +kernel
theorem dX9_init_93 : decode cX9_init 93 = .ok (.iadd, 1) := by decide +kernel
theorem dX9_init_94 : decode cX9_init 94 = .ok (.getstatic 40, 3) := by decide +kernel
theorem dX9_init_97 : decode cX9_init 97 = .ok (.iload_n 2, 1) := by decide +kernel
theorem dX9_init_98 : decode cX9_init 98 = .ok (.iaload, 1) := by decide +kernel
theorem dX9_init_99 : decode cX9_init 99 = .ok (.iastore, 1) := by decide +kernel
theorem dX9_init_100 : decode cX9_init 100 = .ok (.iinc 2 1, 3) := by decide +kernel
theorem dX9_init_103 : decode cX9_init 103 = .ok (.goto (-25), 3) := by decide +kernel
theorem dX9_init_106 : decode cX9_init 106 = .ok (.iinc 1 1, 3) := by decide +kernel
theorem dX9_init_109 : decode cX9_init 109 = .ok (.goto (-38), 3) := by decide +kernel
theorem dX9_init_112 : decode cX9_init 112 = .ok (.iconst 0, 1) := by decide +kernel
theorem dX9_init_113 : decode cX9_init 113 = .ok (.istore_n 1, 1) := by decide +kernel
theorem dX9_init_114 : decode cX9_init 114 = .ok (.iload_n 1, 1) := by decide +kernel
theorem dX9_init_115 : decode cX9_init 115 = .ok (.bipush 8, 2) := by decide +kernel
theorem dX9_init_117 : decode cX9_init 117 = .ok (.if_icmp .ge 20, 3) := by decide +kernel
theorem dX9_init_120 : decode cX9_init 120 = .ok (.aload_n 0, 1) := by decide +kernel
theorem dX9_init_121 : decode cX9_init 121 = .ok (.getfield 25, 3) := by decide +kernel
theorem dX9_init_124 : decode cX9_init 124 = .ok (.iload_n 1, 1) := by decide +kernel
theorem dX9_init_125 : decode cX9_init 125 = .ok (.getstatic 43, 3) := by decide +kernel
theorem dX9_init_128 : decode cX9_init 128 = .ok (.iload_n 1, 1) := by decide +kernel
theorem dX9_init_129 : decode cX9_init 129 = .ok (.iaload, 1) := by decide +kernel
theorem dX9_init_130 : decode cX9_init 130 = .ok (.iastore, 1) := by decide +kernel
theorem dX9_init_131 : decode cX9_init 131 = .ok (.iinc 1 1, 3) := by decide +kernel
theorem dX9_init_134 : decode cX9_init 134 = .ok (.goto (-20), 3) := by decide +kernel
theorem dX9_init_137 : decode cX9_init 137 = .ok (.aload_n 0, 1) := by decide +kernel
theorem dX9_init_138 : decode cX9_init 138 = .ok (.iconst 2, 1) := by decide +kernel
theorem dX9_init_139 : decode cX9_init 139 = .ok (.iconst 1, 1) := by decide +kernel
theorem dX9_init_140 : decode cX9_init 140 = .ok (.invokevirtual 46, 3) := by decide +kernel
theorem dX9_init_143 : decode cX9_init 143 = .ok (.return_, 1) := by decide +kernel
theorem dX9_layAnew_0 : decode cX9_layAnew 0 = .ok (.aload_n 0, 1) := by decide +kernel
theorem dX9_layAnew_1 : decode cX9_layAnew 1 = .ok (.iload_n 1, 1) := by decide +kernel
theorem dX9_layAnew_2 : decode cX9_layAnew 2 = .ok (.putfield 49, 3) := by decide +kernel
theorem dX9_layAnew_5 : decode cX9_layAnew 5 = .ok (.aload_n 0, 1) := by decide +kernel
theorem dX9_layAnew_6 : decode cX9_layAnew 6 = .ok (.iload_n 2, 1) := by decide +kernel
theorem dX9_layAnew_7 : decode cX9_layAnew 7 = .ok (.putfield 53, 3) := by decide +kernel
theorem dX9_layAnew_10 : decode cX9_layAnew 10 = .ok (.iconst 0, 1) := by decide +kernel
theorem dX9_layAnew_11 : decode cX9_layAnew 11 = .ok (.istore_n 3, 1) := by decide +kernel
theorem dX9_layAnew_12 : decode cX9_layAnew 12 = .ok (.iload_n 3, 1) := by decide +kernel
theorem dX9_layAnew_13 : decode cX9_layAnew 13 = .ok (.iconst 5, 1) := by decide +kernel
theorem dX9_layAnew_14 : decode cX9_layAnew 14 = .ok (.if_icmp .ge 34, 3) := by decide +kernel
theorem dX9_layAnew_17 : decode cX9_layAnew 17 = .ok (.aload_n 0, 1) := by decide +kernel
theorem dX9_layAnew_18 : decode cX9_layAnew 18 = .ok (.getfield 9, 3) := by decide +kernel
theorem dX9_layAnew_21 : decode cX9_layAnew 21 = .ok (.iload_n 3, 1) := by decide +kernel
theorem dX9_layAnew_22 : decode cX9_layAnew 22 = .ok (.sipush 20000, 3) := by decide +kernel
theorem dX9_layAnew_25 : decode cX9_layAnew 25 = .ok (.iastore, 1) := by decide +kernel
theorem dX9_layAnew_26 : decode cX9_layAnew 26 = .ok (.aload_n 0, 1) := by decide +kernel
theorem dX9_layAnew_27 : decode cX9_layAnew 27 = .ok (.getfield 15, 3) := by decide +kernel
theorem dX9_layAnew_30 : decode cX9_layAnew 30 = .ok (.iload_n 3, 1) := by decide +kernel
theorem dX9_layAnew_31 : decode cX9_layAnew 31 = .ok (.sipush 300, 3) := by decide +kernel
theorem dX9_layAnew_34 : decode cX9_layAnew 34 = .ok (.iastore, 1) := by decide +kernel
theorem dX9_layAnew_35 : decode cX9_layAnew 35 = .ok (.aload_n 0, 1) := by decide +kernel
theorem dX9_layAnew_36 : decode cX9_layAnew 36 = .ok (.getfield 18, 3) := by decide +kernel
theorem dX9_layAnew_39 : decode cX9_layAnew 39 = .ok (.iload_n 3, 1) := by decide +kernel
theorem dX9_layAnew_40 : decode cX9_layAnew 40 = .ok (.iconst 0, 1) := by decide +kernel
theorem dX9_layAnew_41 : decode cX9_layAnew 41 = .ok (.bastore, 1) := by decide +kernel
theorem dX9_layAnew_42 : decode cX9_layAnew 42 = .ok (.iinc 3 1, 3) := by decide +kernel
theorem dX9_layAnew_45 : decode cX9_layAnew 45 = .ok (.goto (-33), 3) := by decide +kernel
theorem dX9_layAnew_48 : decode cX9_layAnew 48 = .ok (.aload_n 0, 1) := by decide +kernel
theorem dX9_layAnew_49 : decode cX9_layAnew 49 = .ok (.getfield 33, 3) := by decide +kernel
theorem dX9_layAnew_52 : decode cX9_layAnew 52 = .ok (.iconst 0, 1) := by decide +kernel
theorem dX9_layAnew_53 : decode cX9_layAnew 53 = .ok (.putfield 56, 3) := by decide +kernel
theorem dX9_layAnew_56 : decode cX9_layAnew 56 = .ok (.aload_n 0, 1) := by decide +kernel
theorem dX9_layAnew_57 : decode cX9_layAnew 57 = .ok (.getfield 37, 3) := by decide +kernel
theorem dX9_layAnew_60 : decode cX9_layAnew 60 = .ok (.iconst 0, 1) := by decide +kernel
theorem dX9_layAnew_61 : decode cX9_layAnew 61 = .ok (.putfield 56, 3) := by decide +kernel
theorem dX9_layAnew_64 : decode cX9_layAnew 64 = .ok (.return_, 1) := by decide +kernel
theorem dX9_hasSector_0 : decode cX9_hasSector 0 = .ok (.iload_n 1, 1) := by decide +kernel
theorem dX9_hasSector_1 : decode cX9_hasSector 1 = .ok (.aload_n 0, 1) := by decide +kernel
theorem dX9_hasSector_2 : decode cX9_hasSector 2 = .ok (.getfield 49, 3) := by decide +kernel
theorem dX9_hasSector_5 : decode cX9_hasSector 5 = .ok (.invokestatic 59, 3) := by decide +kernel
theorem dX9_hasSector_8 : decode cX9_hasSector 8 = .ok (.ireturn, 1) := by decide +kernel
theorem dX9_lineOf_0 : decode cX9_lineOf 0 = .ok (.iload_n 1, 1) := by decide +kernel
theorem dX9_lineOf_1 : decode cX9_lineOf 1 = .ok (.aload_n 0, 1) := by decide +kernel
theorem dX9_lineOf_2 : decode cX9_lineOf 2 = .ok (.getfield 49, 3) := by decide +kernel
theorem dX9_lineOf_5 : decode cX9_lineOf 5 = .ok (.imul, 1) := by decide +kernel
theorem dX9_lineOf_6 : decode cX9_lineOf 6 = .ok (.iload_n 2, 1) := by decide +kernel
theorem dX9_lineOf_7 : decode cX9_lineOf 7 = .ok (.iadd, 1) := by decide +kernel
theorem dX9_lineOf_8 : decode cX9_lineOf 8 = .ok (.ireturn, 1) := by decide +kernel
theorem dX9_tyreNumber_0 : decode cX9_tyreNumber 0 = .ok (.iload_n 1, 1) := by decide +kernel
theorem dX9_tyreNumber_1 : decode cX9_tyreNumber 1 = .ok (.iconst 4, 1) := by decide +kernel
theorem dX9_tyreNumber_2 : decode cX9_tyreNumber 2 = .ok (.invokestatic 59, 3) := by decide +kernel
theorem dX9_tyreNumber_5 : decode cX9_tyreNumber 5 = .ok (.ifCond .eq 12, 3) := by decide +kernel
theorem dX9_tyreNumber_8 : decode cX9_tyreNumber 8 = .ok (.iload_n 2, 1) := by decide +kernel
theorem dX9_tyreNumber_9 : decode cX9_tyreNumber 9 = .ok (.bipush 6, 2) := by decide +kernel
theorem dX9_tyreNumber_11 : decode cX9_tyreNumber 11 = .ok (.invokestatic 59, 3) := by decide +kernel
theorem dX9_tyreNumber_14 : decode cX9_tyreNumber 14 = .ok (.ifCond .ne 5, 3) := by decide +kernel
theorem dX9_tyreNumber_17 : decode cX9_tyreNumber 17 = .ok (.iconst 0, 1) := by decide +kernel
theorem dX9_tyreNumber_18 : decode cX9_tyreNumber 18 = .ok (.ireturn, 1) := by decide +kernel
theorem dX9_tyreNumber_19 : decode cX9_tyreNumber 19 = .ok (.aload_n 0, 1) := by decide +kernel
theorem dX9_tyreNumber_20 : decode cX9_tyreNumber 20 = .ok (.getfield 22, 3) := by decide +kernel
theorem dX9_tyreNumber_23 : decode cX9_tyreNumber 23 = .ok (.iload_n 1, 1) := by decide +kernel
theorem dX9_tyreNumber_24 : decode cX9_tyreNumber 24 = .ok (.bipush 6, 2) := by decide +kernel
theorem dX9_tyreNumber_26 : decode cX9_tyreNumber 26 = .ok (.imul, 1) := by decide +kernel
theorem dX9_tyreNumber_27 : decode cX9_tyreNumber 27 = .ok (.iload_n 2, 1) := by decide +kernel
theorem dX9_tyreNumber_28 : decode cX9_tyreNumber 28 = .ok (.iadd, 1) := by decide +kernel
theorem dX9_tyreNumber_29 : decode cX9_tyreNumber 29 = .ok (.iaload, 1) := by decide +kernel
theorem dX9_tyreNumber_30 : decode cX9_tyreNumber 30 = .ok (.ireturn, 1) := by decide +kernel
theorem dX10_init_0 : decode cX10_init 0 = .ok (.aload_n 0, 1) := by decide +kernel
theorem dX10_init_1 : decode cX10_init 1 = .ok (.invokespecial 3, 3) := by decide +kernel
theorem dX10_init_4 : decode cX10_init 4 = .ok (.aload_n 0, 1) := by decide +kernel
theorem dX10_init_5 : decode cX10_init 5 = .ok (.aload_n 1, 1) := by decide +kernel
theorem dX10_init_6 : decode cX10_init 6 = .ok (.putfield 9, 3) := by decide +kernel
theorem dX10_init_9 : decode cX10_init 9 = .ok (.aload_n 0, 1) := by decide +kernel
theorem dX10_init_10 : decode cX10_init 10 = .ok (.aload_n 2, 1) := by decide +kernel
theorem dX10_init_11 : decode cX10_init 11 = .ok (.putfield 15, 3) := by decide +kernel
theorem dX10_init_14 : decode cX10_init 14 = .ok (.aload_n 0, 1) := by decide +kernel
theorem dX10_init_15 : decode cX10_init 15 = .ok (.iconst 2, 1) := by decide +kernel
theorem dX10_init_16 : decode cX10_init 16 = .ok (.newarray .int, 2) := by decide +kernel
theorem dX10_init_18 : decode cX10_init 18 = .ok (.putfield 19, 3) := by decide +kernel
theorem dX10_init_21 : decode cX10_init 21 = .ok (.aload_n 0, 1) := by decide +kernel
theorem dX10_init_22 : decode cX10_init 22 = .ok (.iconst 2, 1) := by decide +kernel
theorem dX10_init_23 : decode cX10_init 23 = .ok (.newarray .int, 2) := by decide +kernel
theorem dX10_init_25 : decode cX10_init 25 = .ok (.putfield 23, 3) := by decide +kernel
theorem dX10_init_28 : decode cX10_init 28 = .ok (.aload_n 0, 1) := by decide +kernel
theorem dX10_init_29 : decode cX10_init 29 = .ok (.iconst 4, 1) := by decide +kernel
theorem dX10_init_30 : decode cX10_init 30 = .ok (.newarray .int, 2) := by decide +kernel
theorem dX10_init_32 : decode cX10_init 32 = .ok (.putfield 26, 3) := by decide +kernel
theorem dX10_init_35 : decode cX10_init 35 = .ok (.aload_n 0, 1) := by decide +kernel
theorem dX10_init_36 : decode cX10_init 36 = .ok (.bipush 16, 2) := by decide +kernel
theorem dX10_init_38 : decode cX10_init 38 = .ok (.newarray .int, 2) := by decide +kernel
theorem dX10_init_40 : decode cX10_init 40 = .ok (.putfield 29, 3) := by decide +kernel
theorem dX10_init_43 : decode cX10_init 43 = .ok (.aload_n 0, 1) := by decide +kernel
theorem dX10_init_44 : decode cX10_init 44 = .ok (.bipush 16, 2) := by decide +kernel
theorem dX10_init_46 : decode cX10_init 46 = .ok (.newarray .int, 2) := by decide +kernel
theorem dX10_init_48 : decode cX10_init 48 = .ok (.putfield 32, 3) := by decide +kernel
theorem dX10_init_51 : decode cX10_init 51 = .ok (.aload_n 0, 1) := by decide +kernel
theorem dX10_init_52 : decode cX10_init 52 = .ok (.bipush 16, 2) := by decide +kernel
theorem dX10_init_54 : decode cX10_init 54 = .ok (.newarray .int, 2) := by decide +kernel
theorem dX10_init_56 : decode cX10_init 56 = .ok (.putfield 35, 3) := by decide +kernel
theorem dX10_init_59 : decode cX10_init 59 = .ok (.aload_n 0, 1) := by decide +kernel
theorem dX10_init_60 : decode cX10_init 60 = .ok (.bipush 16, 2) := by decide +kernel
theorem dX10_init_62 : decode cX10_init 62 = .ok (.newarray .int, 2) := by decide +kernel
theorem dX10_init_64 : decode cX10_init 64 = .ok (.putfield 38, 3) := by decide +kernel
theorem dX10_init_67 : decode cX10_init 67 = .ok (.return_, 1) := by decide +kernel
theorem dX11_init_0 : decode cX11_init 0 = .ok (.aload_n 0, 1) := by decide +kernel
theorem dX11_init_1 : decode cX11_init 1 = .ok (.invokespecial 3, 3) := by decide +kernel
theorem dX11_init_4 : decode cX11_init 4 = .ok (.new 9, 3) := by decide +kernel
theorem dX11_init_7 : decode cX11_init 7 = .ok (.dup, 1) := by decide +kernel
theorem dX11_init_8 : decode cX11_init 8 = .ok (.invokespecial 11, 3) := by decide +kernel
theorem dX11_init_11 : decode cX11_init 11 = .ok (.astore_n 1, 1) := by decide +kernel
theorem dX11_init_12 : decode cX11_init 12 = .ok (.aload_n 0, 1) := by decide +kernel
theorem dX11_init_13 : decode cX11_init 13 = .ok (.new 12, 3) := by decide +kernel
theorem dX11_init_16 : decode cX11_init 16 = .ok (.dup, 1) := by decide +kernel
theorem dX11_init_17 : decode cX11_init 17 = .ok (.invokespecial 14, 3) := by decide +kernel
theorem dX11_init_20 : decode cX11_init 20 = .ok (.putfield 15, 3) := by decide +kernel
theorem dX11_init_23 : decode cX11_init 23 = .ok (.aload_n 0, 1) := by decide +kernel
theorem dX11_init_24 : decode cX11_init 24 = .ok (.new 19, 3) := by decide +kernel
theorem dX11_init_27 : decode cX11_init 27 = .ok (.dup, 1) := by decide +kernel
theorem dX11_init_28 : decode cX11_init 28 = .ok (.aload_n 0, 1) := by decide +kernel
theorem dX11_init_29 : decode cX11_init 29 = .ok (.getfield 15, 3) := by decide +kernel
theorem dX11_init_32 : decode cX11_init 32 = .ok (.aload_n 1, 1) := by decide +kernel
theorem dX11_init_33 : decode cX11_init 33 = .ok (.invokespecial 21, 3) := by decide +kernel
theorem dX11_init_36 : decode cX11_init 36 = .ok (.putfield 24, 3) := by decide +kernel
theorem dX11_init_39 : decode cX11_init 39 = .ok (.aload_n 0, 1) := by decide +kernel
theorem dX11_init_40 : decode cX11_init 40 = .ok (.new 28, 3) := by decide +kernel
theorem dX11_init_43 : decode cX11_init 43 = .ok (.dup, 1) := by decide +kernel
theorem dX11_init_44 : decode cX11_init 44 = .ok (.aload_n 1, 1) := by decide +kernel
theorem dX11_init_45 : decode cX11_init 45 = .ok (.invokespecial 30, 3) := by decide +kernel
theorem dX11_init_48 : decode cX11_init 48 = .ok (.putfield 33, 3) := by decide +kernel
theorem dX11_init_51 : decode cX11_init 51 = .ok (.aload_n 0, 1) := by decide +kernel
theorem dX11_init_52 : decode cX11_init 52 = .ok (.new 37, 3) := by decide +kernel
theorem dX11_init_55 : decode cX11_init 55 = .ok (.dup, 1) := by decide +kernel
theorem dX11_init_56 : decode cX11_init 56 = .ok (.aload_n 0, 1) := by decide +kernel
theorem dX11_init_57 : decode cX11_init 57 = .ok (.getfield 24, 3) := by decide +kernel
theorem dX11_init_60 : decode cX11_init 60 = .ok (.aload_n 0, 1) := by decide +kernel
theorem dX11_init_61 : decode cX11_init 61 = .ok (.getfield 33, 3) := by decide +kernel
theorem dX11_init_64 : decode cX11_init 64 = .ok (.invokespecial 39, 3) := by decide +kernel
theorem dX11_init_67 : decode cX11_init 67 = .ok (.putfield 42, 3) := by decide +kernel
theorem dX11_init_70 : decode cX11_init 70 = .ok (.aload_n 0, 1) := by decide +kernel
theorem dX11_init_71 : decode cX11_init 71 = .ok (.new 46, 3) := by decide +kernel
theorem dX11_init_74 : decode cX11_init 74 = .ok (.dup, 1) := by decide +kernel
theorem dX11_init_75 : decode cX11_init 75 = .ok (.aload_n 0, 1) := by decide +kernel
theorem dX11_init_76 : decode cX11_init 76 = .ok (.getfield 24, 3) := by decide +kernel
theorem dX11_init_79 : decode cX11_init 79 = .ok (.aload_n 0, 1) := by decide +kernel
theorem dX11_init_80 : decode cX11_init 80 = .ok (.getfield 42, 3) := by decide +kernel
theorem dX11_init_83 : decode cX11_init 83 = .ok (.invokespecial 48, 3) := by decide +kernel
theorem dX11_init_86 : decode cX11_init 86 = .ok (.putfield 51, 3) := by decide +kernel
theorem dX11_init_89 : decode cX11_init 89 = .ok (.aload_n 0, 1) := by decide +kernel
theorem dX11_init_90 : decode cX11_init 90 = .ok (.new 55, 3) := by decide +kernel
theorem dX11_init_93 : decode cX11_init 93 = .ok (.dup, 1) := by decide +kernel
theorem dX11_init_94 : decode cX11_init 94 = .ok (.invokespecial 57, 3) := by decide +kernel
theorem dX11_init_97 : decode cX11_init 97 = .ok (.putfield 58, 3) := by decide +kernel
theorem dX11_init_100 : decode cX11_init 100 = .ok (.aload_n 0, 1) := by decide +kernel
theorem dX11_init_101 : decode cX11_init 101 = .ok (.bipush 100, 2) := by decide +kernel
theorem dX11_init_103 : decode cX11_init 103 = .ok (.newarray .int, 2) := by decide +kernel
theorem dX11_init_105 : decode cX11_init 105 = .ok (.putfield 62, 3) := by decide +kernel
theorem dX11_init_108 : decode cX11_init 108 = .ok (.aload_n 0, 1) := by decide +kernel
theorem dX11_init_109 : decode cX11_init 109 = .ok (.bipush 6, 2) := by decide +kernel
theorem dX11_init_111 : decode cX11_init 111 = .ok (.newarray .int, 2) := by decide +kernel
theorem dX11_init_113 : decode cX11_init 113 = .ok (.putfield 66, 3) := by decide +kernel
theorem dX11_init_116 : decode cX11_init 116 = .ok (.aload_n 0, 1) := by decide +kernel
theorem dX11_init_117 : decode cX11_init 117 = .ok (.new 69, 3) := by decide +kernel
theorem dX11_init_120 : decode cX11_init 120 = .ok (.dup, 1) := by decide +kernel
theorem dX11_init_121 : decode cX11_init 121 = .ok (.invokespecial 71, 3) := by decide +kernel
theorem dX11_init_124 : decode cX11_init 124 = .ok (.putfield 72, 3) := by decide +kernel
theorem dX11_init_127 : decode cX11_init 127 = .ok (.return_, 1) := by decide +kernel
theorem dX11_track_0 : decode cX11_track 0 = .ok (.iload_n 1, 1) := by decide +kernel
theorem dX11_track_1 : decode cX11_track 1 = .ok (.iconst 2, 1) := by decide +kernel
theorem dX11_track_2 : decode cX11_track 2 = .ok (.if_icmp .lt 19, 3) := by decide +kernel
theorem dX11_track_5 : decode cX11_track 5 = .ok (.iload_n 1, 1) := by decide +kernel
theorem dX11_track_6 : decode cX11_track 6 = .ok (.iconst 5, 1) := by decide +kernel
theorem dX11_track_7 : decode cX11_track 7 = .ok (.if_icmp .gt 14, 3) := by decide +kernel
theorem dX11_track_10 : decode cX11_track 10 = .ok (.iload_n 2, 1) := by decide +kernel
theorem dX11_track_11 : decode cX11_track 11 = .ok (.iconst 1, 1) := by decide +kernel
theorem dX11_track_12 : decode cX11_track 12 = .ok (.if_icmp .lt 9, 3) := by decide +kernel
theorem dX11_track_15 : decode cX11_track 15 = .ok (.iload_n 2, 1) := by decide +kernel
theorem dX11_track_16 : decode cX11_track 16 = .ok (.bipush 12, 2) := by decide +kernel
theorem dX11_track_18 : decode cX11_track 18 = .ok (.if_icmp .le 5, 3) := by decide +kernel
theorem dX11_track_21 : decode cX11_track 21 = .ok (.iconst 0, 1) := by decide +kernel
theorem dX11_track_22 : decode cX11_track 22 = .ok (.ireturn, 1) := by decide +kernel
theorem dX11_track_23 : decode cX11_track 23 = .ok (.aload_n 0, 1) := by decide +kernel
theorem dX11_track_24 : decode cX11_track 24 = .ok (.getfield 15, 3) := by decide +kernel
theorem dX11_track_27 : decode cX11_track 27 = .ok (.iload_n 1, 1) := by decide +kernel
theorem dX11_track_28 : decode cX11_track 28 = .ok (.iload_n 2, 1) := by decide +kernel
theorem dX11_track_29 : decode cX11_track 29 = .ok (.invokevirtual 76, 3) := by decide +kernel
theorem dX11_track_32 : decode cX11_track 32 = .ok (.aload_n 0, 1) := by decide +kernel
theorem dX11_track_33 : decode cX11_track 33 = .ok (.getfield 24, 3) := by decide +kernel
theorem dX11_track_36 : decode cX11_track 36 = .ok (.iconst 0, 1) := by decide +kernel
theorem dX11_track_37 : decode cX11_track 37 = .ok (.putfield 80, 3) := by decide +kernel
theorem dX11_track_40 : decode cX11_track 40 = .ok (.aload_n 0, 1) := by decide +kernel
theorem dX11_track_41 : decode cX11_track 41 = .ok (.getfield 24, 3) := by decide +kernel
theorem dX11_track_44 : decode cX11_track 44 = .ok (.iconst 0, 1) := by decide +kernel
theorem dX11_track_45 : decode cX11_track 45 = .ok (.putfield 84, 3) := by decide +kernel
theorem dX11_track_48 : decode cX11_track 48 = .ok (.aload_n 0, 1) := by decide +kernel
theorem dX11_track_49 : decode cX11_track 49 = .ok (.getfield 33, 3) := by decide +kernel
theorem dX11_track_52 : decode cX11_track 52 = .ok (.iconst 0, 1) := by decide +kernel
theorem dX11_track_53 : decode cX11_track 53 = .ok (.putfield 88, 3) := by decide +kernel
theorem dX11_track_56 : decode cX11_track 56 = .ok (.aload_n 0, 1) := by decide +kernel
theorem dX11_track_57 : decode cX11_track 57 = .ok (.getfield 33, 3) := by decide +kernel
theorem dX11_track_60 : decode cX11_track 60 = .ok (.getfield 91, 3) := by decide +kernel
theorem dX11_track_63 : decode cX11_track 63 = .ok (.iconst 0, 1) := by decide +kernel
theorem dX11_track_64 : decode cX11_track 64 = .ok (.putfield 95, 3) := by decide +kernel
theorem dX11_track_67 : decode cX11_track 67 = .ok (.iconst 1, 1) := by decide +kernel
theorem dX11_track_68 : decode cX11_track 68 = .ok (.ireturn, 1) := by decide +kernel
theorem dX11_sector_0 : decode cX11_sector 0 = .ok (.aload_n 0, 1) := by decide +kernel
theorem dX11_sector_1 : decode cX11_sector 1 = .ok (.getfield 15, 3) := by decide +kernel
theorem dX11_sector_4 : decode cX11_sector 4 = .ok (.iload_n 1, 1) := by decide +kernel
theorem dX11_sector_5 : decode cX11_sector 5 = .ok (.invokevirtual 100, 3) := by decide +kernel
theorem dX11_sector_8 : decode cX11_sector 8 = .ok (.ifCond .eq 26, 3) := by decide +kernel
theorem dX11_sector_11 : decode cX11_sector 11 = .ok (.iload_n 2, 1) := by decide +kernel
theorem dX11_sector_12 : decode cX11_sector 12 = .ok (.sipush 5000, 3) := by decide +kernel
theorem dX11_sector_15 : decode cX11_sector 15 = .ok (.ldc 104, 2) := by decide +kernel
theorem dX11_sector_17 : decode cX11_sector 17 = .ok (.invokestatic 105, 3) := by decide +kernel
theorem dX11_sector_20 : decode cX11_sector 20 = .ok (.ifCond .eq 14, 3) := by decide +kernel
theorem dX11_sector_23 : decode cX11_sector 23 = .ok (.iload_n 3, 1) := by decide +kernel
theorem dX11_sector_24 : decode cX11_sector 24 = .ok (.iconst (-1), 1) := by decide +kernel
theorem dX11_sector_25 : decode cX11_sector 25 = .ok (.sipush 5000, 3) := by decide +kernel
theorem dX11_sector_28 : decode cX11_sector 28 = .ok (.invokestatic 105, 3) := by decide +kernel
theorem dX11_sector_31 : decode cX11_sector 31 = .ok (.ifCond .ne 5, 3) := by decide +kernel
theorem dX11_sector_34 : decode cX11_sector 34 = .ok (.iconst 0, 1) := by decide +kernel
theorem dX11_sector_35 : decode cX11_sector 35 = .ok (.ireturn, 1) := by decide +kernel
theorem dX11_sector_36 : decode cX11_sector 36 = .ok (.aload_n 0, 1) := by decide +kernel
theorem dX11_sector_37 : decode cX11_sector 37 = .ok (.getfield 15, 3) := by decide +kernel
theorem dX11_sector_40 : decode cX11_sector 40 = .ok (.getfield 109, 3) := by decide +kernel
theorem dX11_sector_43 : decode cX11_sector 43 = .ok (.iload_n 1, 1) := by decide +kernel
theorem dX11_sector_44 : decode cX11_sector 44 = .ok (.iload_n 2, 1) := by decide +kernel
theorem dX11_sector_45 : decode cX11_sector 45 = .ok (.iastore, 1) := by decide +kernel
theorem dX11_sector_46 : decode cX11_sector 46 = .ok (.aload_n 0, 1) := by decide +kernel
theorem dX11_sector_47 : decode cX11_sector 47 = .ok (.getfield 15, 3) := by decide +kernel
theorem dX11_sector_50 : decode cX11_sector 50 = .ok (.getfield 112, 3) := by decide +kernel
theorem dX11_sector_53 : decode cX11_sector 53 = .ok (.iload_n 1, 1) := by decide +kernel
theorem dX11_sector_54 : decode cX11_sector 54 = .ok (.iload_n 3, 1) := by decide +kernel
theorem dX11_sector_55 : decode cX11_sector 55 = .ok (.iastore, 1) := by decide +kernel
theorem dX11_sector_56 : decode cX11_sector 56 = .ok (.aload_n 0, 1) := by decide +kernel
theorem dX11_sector_57 : decode cX11_sector 57 = .ok (.getfield 24, 3) := by decide +kernel
theorem dX11_sector_60 : decode cX11_sector 60 = .ok (.iconst 0, 1) := by decide +kernel
theorem dX11_sector_61 : decode cX11_sector 61 = .ok (.putfield 84, 3) := by decide +kernel
theorem dX11_sector_64 : decode cX11_sector 64 = .ok (.iconst 1, 1) := by decide +kernel
theorem dX11_sector_65 : decode cX11_sector 65 = .ok (.ireturn, 1) := by decide +kernel
theorem dX11_tyres_0 : decode cX11_tyres 0 = .ok (.iload_n 1, 1) := by decide +kernel
theorem dX11_tyres_1 : decode cX11_tyres 1 = .ok (.iconst 4, 1) := by decide +kernel
theorem dX11_tyres_2 : decode cX11_tyres 2 = .ok (.invokestatic 115, 3) := by decide +kernel
theorem dX11_tyres_5 : decode cX11_tyres 5 = .ok (.ifCond .eq 25, 3) := by decide +kernel
theorem dX11_tyres_8 : decode cX11_tyres 8 = .ok (.iload_n 2, 1) := by decide +kernel
theorem dX11_tyres_9 : decode cX11_tyres 9 = .ok (.bipush 6, 2) := by decide +kernel
theorem dX11_tyres_11 : decode cX11_tyres 11 = .ok (.invokestatic 115, 3) := by decide +kernel
theorem dX11_tyres_14 : decode cX11_tyres 14 = .ok (.ifCond .eq 16, 3) := by decide +kernel
theorem dX11_tyres_17 : decode cX11_tyres 17 = .ok (.iload_n 3, 1) := by decide +kernel
theorem dX11_tyres_18 : decode cX11_tyres 18 = .ok (.iconst 0, 1) := by decide +kernel
theorem dX11_tyres_19 : decode cX11_tyres 19 = .ok (.getstatic 119, 3) := by decide +kernel
theorem dX11_tyres_22 : decode cX11_tyres 22 = .ok (.iload_n 2, 1) := by decide +kernel
theorem dX11_tyres_23 : decode cX11_tyres 23 = .ok (.iaload, 1) := by decide +kernel
theorem dX11_tyres_24 : decode cX11_tyres 24 = .ok (.invokestatic 105, 3) := by decide +kernel
theorem dX11_tyres_27 : decode cX11_tyres 27 = .ok (.ifCond .ne 5, 3) := by decide +kernel
theorem dX11_tyres_30 : decode cX11_tyres 30 = .ok (.iconst (-1), 1) := by decide +kernel
theorem dX11_tyres_31 : decode cX11_tyres 31 = .ok (.ireturn, 1) := by decide +kernel
theorem dX11_tyres_32 : decode cX11_tyres 32 = .ok (.aload_n 0, 1) := by decide +kernel
theorem dX11_tyres_33 : decode cX11_tyres 33 = .ok (.getfield 15, 3) := by decide +kernel
theorem dX11_tyres_36 : decode cX11_tyres 36 = .ok (.iload_n 1, 1) := by decide +kernel
theorem dX11_tyres_37 : decode cX11_tyres 37 = .ok (.iload_n 2, 1) := by decide +kernel
theorem dX11_tyres_38 : decode cX11_tyres 38 = .ok (.invokevirtual 122, 3) := by decide +kernel
theorem dX11_tyres_41 : decode cX11_tyres 41 = .ok (.istore 4, 2) := by decide +kernel
theorem dX11_tyres_43 : decode cX11_tyres 43 = .ok (.aload_n 0, 1) := by decide +kernel
theorem dX11_tyres_44 : decode cX11_tyres 44 = .ok (.getfield 15, 3) := by decide +kernel
theorem dX11_tyres_47 : decode cX11_tyres 47 = .ok (.getfield 126, 3) := by decide +kernel
theorem dX11_tyres_50 : decode cX11_tyres 50 = .ok (.iload_n 1, 1) := by decide +kernel
theorem dX11_tyres_51 : decode cX11_tyres 51 = .ok (.bipush 6, 2) := by decide +kernel
theorem dX11_tyres_53 : decode cX11_tyres 53 = .ok (.imul, 1) := by decide +kernel
theorem dX11_tyres_54 : decode cX11_tyres 54 = .ok (.iload_n 2, 1) := by decide +kernel
theorem dX11_tyres_55 : decode cX11_tyres 55 = .ok (.iadd, 1) := by decide +kernel
theorem dX11_tyres_56 : decode cX11_tyres 56 = .ok (.iload_n 3, 1) := by decide +kernel
theorem dX11_tyres_57 : decode cX11_tyres 57 = .ok (.iastore, 1) := by decide +kernel
theorem dX11_tyres_58 : decode cX11_tyres 58 = .ok (.aload_n 0, 1) := by decide +kernel
theorem dX11_tyres_59 : decode cX11_tyres 59 = .ok (.getfield 24, 3) := by decide +kernel
theorem dX11_tyres_62 : decode cX11_tyres 62 = .ok (.iconst 0, 1) := by decide +kernel
theorem dX11_tyres_63 : decode cX11_tyres 63 = .ok (.putfield 84, 3) := by decide +kernel
theorem dX11_tyres_66 : decode cX11_tyres 66 = .ok (.iload 4, 2) := by decide +kernel
theorem dX11_tyres_68 : decode cX11_tyres 68 = .ok (.ireturn, 1) := by decide +kernel
theorem dX11_set_0 : decode cX11_set 0 = .ok (.iload_n 1, 1) := by decide +kernel
theorem dX11_set_1 : decode cX11_set 1 = .ok (.bipush 8, 2) := by decide +kernel
theorem dX11_set_3 : decode cX11_set 3 = .ok (.invokestatic 115, 3) := by decide +kernel
theorem dX11_set_6 : decode cX11_set 6 = .ok (.ifCond .eq 20, 3) := by decide +kernel
theorem dX11_set_9 : decode cX11_set 9 = .ok (.iload_n 2, 1) := by decide +kernel
theorem dX11_set_10 : decode cX11_set 10 = .ok (.getstatic 129, 3) := by decide +kernel
theorem dX11_set_13 : decode cX11_set 13 = .ok (.iload_n 1, 1) := by decide +kernel
theorem dX11_set_14 : decode cX11_set 14 = .ok (.iaload, 1) := by decide +kernel
theorem dX11_set_15 : decode cX11_set 15 = .ok (.getstatic 132, 3) := by decide +kernel
theorem dX11_set_18 : decode cX11_set 18 = .ok (.iload_n 1, 1) := by decide +kernel
theorem dX11_set_19 : decode cX11_set 19 = .ok (.iaload, 1) := by decide +kernel
theorem dX11_set_20 : decode cX11_set 20 = .ok (.invokestatic 105, 3) := by decide +kernel
theorem dX11_set_23 : decode cX11_set 23 = .ok (.ifCond .ne 5, 3) := by decide +kernel
theorem dX11_set_26 : decode cX11_set 26 = .ok (.iconst (-1), 1) := by decide +kernel
theorem dX11_set_27 : decode cX11_set 27 = .ok (.ireturn, 1) := by decide +kernel
theorem dX11_set_28 : decode cX11_set 28 = .ok (.aload_n 0, 1) := by decide +kernel
theorem dX11_set_29 : decode cX11_set 29 = .ok (.getfield 15, 3) := by decide +kernel
theorem dX11_set_32 : decode cX11_set 32 = .ok (.getfield 135, 3) := by decide +kernel
theorem dX11_set_35 : decode cX11_set 35 = .ok (.iload_n 1, 1) := by decide +kernel
theorem dX11_set_36 : decode cX11_set 36 = .ok (.iaload, 1) := by decide +kernel
theorem dX11_set_37 : decode cX11_set 37 = .ok (.istore_n 3, 1) := by decide +kernel
theorem dX11_set_38 : decode cX11_set 38 = .ok (.aload_n 0, 1) := by decide +kernel
theorem dX11_set_39 : decode cX11_set 39 = .ok (.getfield 15, 3) := by decide +kernel
theorem dX11_set_42 : decode cX11_set 42 = .ok (.getfield 135, 3) := by decide +kernel
theorem dX11_set_45 : decode cX11_set 45 = .ok (.iload_n 1, 1) := by decide +kernel
theorem dX11_set_46 : decode cX11_set 46 = .ok (.iload_n 2, 1) := by decide +kernel
theorem dX11_set_47 : decode cX11_set 47 = .ok (.iastore, 1) := by decide +kernel
theorem dX11_set_48 : decode cX11_set 48 = .ok (.aload_n 0, 1) := by decide +kernel
theorem dX11_set_49 : decode cX11_set 49 = .ok (.getfield 24, 3) := by decide +kernel
theorem dX11_set_52 : decode cX11_set 52 = .ok (.iconst 0, 1) := by decide +kernel
theorem dX11_set_53 : decode cX11_set 53 = .ok (.putfield 84, 3) := by decide +kernel
theorem dX11_set_56 : decode cX11_set 56 = .ok (.iload_n 3, 1) := by decide +kernel
theorem dX11_set_57 : decode cX11_set 57 = .ok (.ireturn, 1) := by decide +kernel
theorem dX11_rain_0 : decode cX11_rain 0 = .ok (.aload_n 0, 1) := by decide +kernel
theorem dX11_rain_1 : decode cX11_rain 1 = .ok (.getfield 15, 3) := by decide +kernel
theorem dX11_rain_4 : decode cX11_rain 4 = .ok (.iload_n 1, 1) := by decide +kernel
theorem dX11_rain_5 : decode cX11_rain 5 = .ok (.invokevirtual 100, 3) := by decide +kernel
theorem dX11_rain_8 : decode cX11_rain 8 = .ok (.ifCond .eq 17, 3) := by decide +kernel
theorem dX11_rain_11 : decode cX11_rain 11 = .ok (.iload_n 2, 1) := by decide +kernel
theorem dX11_rain_12 : decode cX11_rain 12 = .ok (.ifCond .lt 13, 3) := by decide +kernel
theorem dX11_rain_15 : decode cX11_rain 15 = .ok (.iload_n 3, 1) := by decide +kernel
theorem dX11_rain_16 : decode cX11_rain 16 = .ok (.iconst 0, 1) := by decide +kernel
theorem dX11_rain_17 : decode cX11_rain 17 = .ok (.bipush 100, 2) := by decide +kernel
theorem dX11_rain_19 : decode cX11_rain 19 = .ok (.invokestatic 105, 3) := by decide +kernel
theorem dX11_rain_22 : decode cX11_rain 22 = .ok (.ifCond .ne 5, 3) := by decide +kernel
theorem dX11_rain_25 : decode cX11_rain 25 = .ok (.iconst (-1), 1) := by decide +kernel
theorem dX11_rain_26 : decode cX11_rain 26 = .ok (.ireturn, 1) := by decide +kernel
theorem dX11_rain_27 : decode cX11_rain 27 = .ok (.aload_n 0, 1) := by decide +kernel
theorem dX11_rain_28 : decode cX11_rain 28 = .ok (.getfield 24, 3) := by decide +kernel
theorem dX11_rain_31 : decode cX11_rain 31 = .ok (.iconst 0, 1) := by decide +kernel
theorem dX11_rain_32 : decode cX11_rain 32 = .ok (.putfield 84, 3) := by decide +kernel
theorem dX11_rain_35 : decode cX11_rain 35 = .ok (.aload_n 0, 1) := by decide +kernel
theorem dX11_rain_36 : decode cX11_rain 36 = .ok (.getfield 15, 3) := by decide +kernel
theorem dX11_rain_39 : decode cX11_rain 39 = .ok (.getfield 138, 3) := by decide +kernel
theorem dX11_rain_42 : decode cX11_rain 42 = .ok (.iload_n 1, 1) := by decide +kernel
theorem dX11_rain_43 : decode cX11_rain 43 = .ok (.iload_n 2, 1) := by decide +kernel
theorem dX11_rain_44 : decode cX11_rain 44 = .ok (.iload_n 3, 1) := by decide +kernel
theorem dX11_rain_45 : decode cX11_rain 45 = .ok (.iconst 0, 1) := by decide +kernel
theorem dX11_rain_46 : decode cX11_rain 46 = .ok (.invokevirtual 141, 3) := by decide +kernel
theorem dX11_rain_49 : decode cX11_rain 49 = .ok (.ireturn, 1) := by decide +kernel
theorem dX11_flag_0 : decode cX11_flag 0 = .ok (.iload_n 1, 1) := by decide +kernel
theorem dX11_flag_1 : decode cX11_flag 1 = .ok (.iconst (-1), 1) := by decide +kernel
theorem dX11_flag_2 : decode cX11_flag 2 = .ok (.if_icmp .eq 16, 3) := by decide +kernel
theorem dX11_flag_5 : decode cX11_flag 5 = .ok (.aload_n 0, 1) := by decide +kernel
theorem dX11_flag_6 : decode cX11_flag 6 = .ok (.getfield 15, 3) := by decide +kernel
theorem dX11_flag_9 : decode cX11_flag 9 = .ok (.iload_n 1, 1) := by decide +kernel
theorem dX11_flag_10 : decode cX11_flag 10 = .ok (.invokevirtual 100, 3) := by decide +kernel
theorem dX11_flag_13 : decode cX11_flag 13 = .ok (.ifCond .ne 5, 3) := by decide +kernel
theorem dX11_flag_16 : decode cX11_flag 16 = .ok (.iconst (-1), 1) := by decide +kernel
theorem dX11_flag_17 : decode cX11_flag 17 = .ok (.ireturn, 1) := by decide +kernel
theorem dX11_flag_18 : decode cX11_flag 18 = .ok (.iload_n 2, 1) := by decide +kernel
theorem dX11_flag_19 : decode cX11_flag 19 = .ok (.ifCond .lt 18, 3) := by decide +kernel
theorem dX11_flag_22 : decode cX11_flag 22 = .ok (.iload_n 3, 1) := by decide +kernel
theorem dX11_flag_23 : decode cX11_flag 23 = .ok (.iload_n 2, 1) := by decide +kernel
theorem dX11_flag_24 : decode cX11_flag 24 = .ok (.if_icmp .lt 13, 3) := by decide +kernel
theorem dX11_flag_27 : decode cX11_flag 27 = .ok (.iload 4, 2) := by decide +kernel
theorem dX11_flag_29 : decode cX11_flag 29 = .ok (.iconst 0, 1) := by decide +kernel
theorem dX11_flag_30 : decode cX11_flag 30 = .ok (.iconst 1, 1) := by decide +kernel
theorem dX11_flag_31 : decode cX11_flag 31 = .ok (.invokestatic 105, 3) := by decide +kernel
theorem dX11_flag_34 : decode cX11_flag 34 = .ok (.ifCond .ne 5, 3) := by decide +kernel
theorem dX11_flag_37 : decode cX11_flag 37 = .ok (.iconst (-1), 1) := by decide +kernel
theorem dX11_flag_38 : decode cX11_flag 38 = .ok (.ireturn, 1) := by decide +kernel
theorem dX11_flag_39 : decode cX11_flag 39 = .ok (.aload_n 0, 1) := by decide +kernel
theorem dX11_flag_40 : decode cX11_flag 40 = .ok (.getfield 24, 3) := by decide +kernel
theorem dX11_flag_43 : decode cX11_flag 43 = .ok (.iconst 0, 1) := by decide +kernel
theorem dX11_flag_44 : decode cX11_flag 44 = .ok (.putfield 84, 3) := by decide +kernel
theorem dX11_flag_47 : decode cX11_flag 47 = .ok (.aload_n 0, 1) := by decide +kernel
theorem dX11_flag_48 : decode cX11_flag 48 = .ok (.getfield 15, 3) := by decide +kernel
theorem dX11_flag_51 : decode cX11_flag 51 = .ok (.getfield 145, 3) := by decide +kernel
theorem dX11_flag_54 : decode cX11_flag 54 = .ok (.iload_n 1, 1) := by decide +kernel
theorem dX11_flag_55 : decode cX11_flag 55 = .ok (.iload_n 2, 1) := by decide +kernel
theorem dX11_flag_56 : decode cX11_flag 56 = .ok (.iload_n 3, 1) := by decide +kernel
theorem dX11_flag_57 : decode cX11_flag 57 = .ok (.iload 4, 2) := by decide +kernel
theorem dX11_flag_59 : decode cX11_flag 59 = .ok (.invokevirtual 141, 3) := by decide +kernel
theorem dX11_flag_62 : decode cX11_flag 62 = .ok (.ireturn, 1) := by decide +kernel
theorem dX11_car_0 : decode cX11_car 0 = .ok (.iload_n 1, 1) := by decide +kernel
theorem dX11_car_1 : decode cX11_car 1 = .ok (.sipush (-2000), 3) := by decide +kernel
theorem dX11_car_4 : decode cX11_car 4 = .ok (.sipush 2000, 3) := by decide +kernel
theorem dX11_car_7 : decode cX11_car 7 = .ok (.invokestatic 105, 3) := by decide +kernel
theorem dX11_car_10 : decode cX11_car 10 = .ok (.ifCond .eq 24, 3) := by decide +kernel
theorem dX11_car_13 : decode cX11_car 13 = .ok (.iload_n 2, 1) := by decide +kernel
theorem dX11_car_14 : decode cX11_car 14 = .ok (.iconst 1, 1) := by decide +kernel
theorem dX11_car_15 : decode cX11_car 15 = .ok (.sipush 200, 3) := by decide +kernel
theorem dX11_car_18 : decode cX11_car 18 = .ok (.invokestatic 105, 3) := by decide +kernel
theorem dX11_car_21 : decode cX11_car 21 = .ok (.ifCond .eq 13, 3) := by decide +kernel
theorem dX11_car_24 : decode cX11_car 24 = .ok (.iload_n 3, 1) := by decide +kernel
theorem dX11_car_25 : decode cX11_car 25 = .ok (.iconst 1, 1) := by decide +kernel
theorem dX11_car_26 : decode cX11_car 26 = .ok (.bipush 9, 2) := by decide +kernel
theorem dX11_car_28 : decode cX11_car 28 = .ok (.invokestatic 105, 3) := by decide +kernel
theorem dX11_car_31 : decode cX11_car 31 = .ok (.ifCond .ne 5, 3) := by decide +kernel
theorem dX11_car_34 : decode cX11_car 34 = .ok (.iconst (-1), 1) := by decide +kernel
theorem dX11_car_35 : decode cX11_car 35 = .ok (.ireturn, 1) := by decide +kernel
theorem dX11_car_36 : decode cX11_car 36 = .ok (.iload 4, 2) := by decide +kernel
theorem dX11_car_38 : decode cX11_car 38 = .ok (.iconst 4, 1) := by decide +kernel
theorem dX11_car_39 : decode cX11_car 39 = .ok (.invokestatic 115, 3) := by decide +kernel
theorem dX11_car_42 : decode cX11_car 42 = .ok (.ifCond .eq 22, 3) := by decide +kernel
theorem dX11_car_45 : decode cX11_car 45 = .ok (.iload 5, 2) := by decide +kernel
theorem dX11_car_47 : decode cX11_car 47 = .ok (.iconst 2, 1) := by decide +kernel
theorem dX11_car_48 : decode cX11_car 48 = .ok (.invokestatic 115, 3) := by decide +kernel
theorem dX11_car_51 : decode cX11_car 51 = .ok (.ifCond .eq 13, 3) := by decide +kernel
theorem dX11_car_54 : decode cX11_car 54 = .ok (.iload 6, 2) := by decide +kernel
theorem dX11_car_56 : decode cX11_car 56 = .ok (.iconst 0, 1) := by decide +kernel
theorem dX11_car_57 : decode cX11_car 57 = .ok (.iload_n 2, 1) := by decide +kernel
theorem dX11_car_58 : decode cX11_car 58 = .ok (.invokestatic 105, 3) := by decide +kernel
theorem dX11_car_61 : decode cX11_car 61 = .ok (.ifCond .ne 5, 3) := by decide +kernel
theorem dX11_car_64 : decode cX11_car 64 = .ok (.iconst (-1), 1) := by decide +kernel
theorem dX11_car_65 : decode cX11_car 65 = .ok (.ireturn, 1) := by decide +kernel
theorem dX11_car_66 : decode cX11_car 66 = .ok (.aload_n 0, 1) := by decide +kernel
theorem dX11_car_67 : decode cX11_car 67 = .ok (.getfield 24, 3) := by decide +kernel
theorem dX11_car_70 : decode cX11_car 70 = .ok (.getfield 80, 3) := by decide +kernel
theorem dX11_car_73 : decode cX11_car 73 = .ok (.bipush 6, 2) := by decide +kernel
theorem dX11_car_75 : decode cX11_car 75 = .ok (.invokestatic 115, 3) := by decide +kernel
theorem dX11_car_78 : decode cX11_car 78 = .ok (.ifCond .ne 5, 3) := by decide +kernel
theorem dX11_car_81 : decode cX11_car 81 = .ok (.iconst (-1), 1) := by decide +kernel
theorem dX11_car_82 : decode cX11_car 82 = .ok (.ireturn, 1) := by decide +kernel
theorem dX11_car_83 : decode cX11_car 83 = .ok (.aload_n 0, 1) := by decide +kernel
theorem dX11_car_84 : decode cX11_car 84 = .ok (.getfield 24, 3) := by decide +kernel
theorem dX11_car_87 : decode cX11_car 87 = .ok (.getfield 148, 3) := by decide +kernel
theorem dX11_car_90 : decode cX11_car 90 = .ok (.aload_n 0, 1) := by decide +kernel
theorem dX11_car_91 : decode cX11_car 91 = .ok (.getfield 24, 3) := by decide +kernel
theorem dX11_car_94 : decode cX11_car 94 = .ok (.getfield 80, 3) := by decide +kernel
theorem dX11_car_97 : decode cX11_car 97 = .ok (.aaload, 1) := by decide +kernel
theorem dX11_car_98 : decode cX11_car 98 = .ok (.astore 7, 2) := by decide +kernel
theorem dX11_car_100 : decode cX11_car 100 = .ok (.aload 7, 2) := by decide +kernel
theorem dX11_car_102 : decode cX11_car 102 = .ok (.invokevirtual 152, 3) := by decide +kernel
theorem dX11_car_105 : decode cX11_car 105 = .ok (.aload 7, 2) := by decide +kernel
theorem dX11_car_107 : decode cX11_car 107 = .ok (.iload_n 1, 1) := by decide +kernel
theorem dX11_car_108 : decode cX11_car 108 = .ok (.putfield 157, 3) := by decide +kernel
theorem dX11_car_111 : decode cX11_car 111 = .ok (.aload 7, 2) := by decide +kernel
theorem dX11_car_113 : decode cX11_car 113 = .ok (.iload_n 2, 1) := by decide +kernel
theorem dX11_car_114 : decode cX11_car 114 = .ok (.putfield 160, 3) := by decide +kernel
theorem dX11_car_117 : decode cX11_car 117 = .ok (.aload 7, 2) := by decide +kernel
theorem dX11_car_119 : decode cX11_car 119 = .ok (.iload_n 3, 1) := by decide +kernel
theorem dX11_car_120 : decode cX11_car 120 = .ok (.putfield 163, 3) := by decide +kernel
theorem dX11_car_123 : decode cX11_car 123 = .ok (.aload 7, 2) := by decide +kernel
theorem dX11_car_125 : decode cX11_car 125 = .ok (.iload 4, 2) := by decide +kernel
theorem dX11_car_127 : decode cX11_car 127 = .ok (.putfield 166, 3) := by decide +kernel
theorem dX11_car_130 : decode cX11_car 130 = .ok (.aload 7, 2) := by decide +kernel
theorem dX11_car_132 : decode cX11_car 132 = .ok (.iload 5, 2) := by decide +kernel
theorem dX11_car_134 : decode cX11_car 134 = .ok (.putfield 169, 3) := by decide +kernel
theorem dX11_car_137 : decode cX11_car 137 = .ok (.aload 7, 2) := by decide +kernel
theorem dX11_car_139 : decode cX11_car 139 = .ok (.iload 6, 2) := by decide +kernel
theorem dX11_car_141 : decode cX11_car 141 = .ok (.putfield 172, 3) := by decide +kernel
theorem dX11_car_144 : decode cX11_car 144 = .ok (.aload_n 0, 1) := by decide +kernel
theorem dX11_car_145 : decode cX11_car 145 = .ok (.getfield 24, 3) := by decide +kernel
theorem dX11_car_148 : decode cX11_car 148 = .ok (.dup, 1) := by decide +kernel
theorem dX11_car_149 : decode cX11_car 149 = .ok (.getfield 80, 3) := by decide +kernel
theorem dX11_car_152 : decode cX11_car 152 = .ok (.iconst 1, 1) := by decide +kernel
theorem dX11_car_153 : decode cX11_car 153 = .ok (.iadd, 1) := by decide +kernel
theorem dX11_car_154 : decode cX11_car 154 = .ok (.putfield 80, 3) := by decide +kernel
theorem dX11_car_157 : decode cX11_car 157 = .ok (.aload_n 0, 1) := by decide +kernel
theorem dX11_car_158 : decode cX11_car 158 = .ok (.getfield 24, 3) := by decide +kernel
theorem dX11_car_161 : decode cX11_car 161 = .ok (.iconst 0, 1) := by decide +kernel
theorem dX11_car_162 : decode cX11_car 162 = .ok (.putfield 84, 3) := by decide +kernel
theorem dX11_car_165 : decode cX11_car 165 = .ok (.aload_n 0, 1) := by decide +kernel
theorem dX11_car_166 : decode cX11_car 166 = .ok (.getfield 24, 3) := by decide +kernel
theorem dX11_car_169 : decode cX11_car 169 = .ok (.getfield 80, 3) := by decide +kernel
theorem dX11_car_172 : decode cX11_car 172 = .ok (.iconst 1, 1) := by decide +kernel
theorem dX11_car_173 : decode cX11_car 173 = .ok (.isub, 1) := by decide +kernel
theorem dX11_car_174 : decode cX11_car 174 = .ok (.ireturn, 1) := by decide +kernel
theorem dX11_tyre_0 : decode cX11_tyre 0 = .ok (.aload_n 0, 1) := by decide +kernel
theorem dX11_tyre_1 : decode cX11_tyre 1 = .ok (.getfield 24, 3) := by decide +kernel
theorem dX11_tyre_4 : decode cX11_tyre 4 = .ok (.iload_n 1, 1) := by decide +kernel
theorem dX11_tyre_5 : decode cX11_tyre 5 = .ok (.invokevirtual 175, 3) := by decide +kernel
theorem dX11_tyre_8 : decode cX11_tyre 8 = .ok (.ifCond .eq 21, 3) := by decide +kernel
theorem dX11_tyre_11 : decode cX11_tyre 11 = .ok (.iload_n 2, 1) := by decide +kernel
theorem dX11_tyre_12 : decode cX11_tyre 12 = .ok (.iconst 4, 1) := by decide +kernel
theorem dX11_tyre_13 : decode cX11_tyre 13 = .ok (.invokestatic 115, 3) := by decide +kernel
theorem dX11_tyre_16 : decode cX11_tyre 16 = .ok (.ifCond .eq 13, 3) := by decide +kernel
theorem dX11_tyre_19 : decode cX11_tyre 19 = .ok (.iload_n 3, 1) := by decide +kernel
theorem dX11_tyre_20 : decode cX11_tyre 20 = .ok (.iconst 0, 1) := by decide +kernel
theorem dX11_tyre_21 : decode cX11_tyre 21 = .ok (.bipush 100, 2) := by decide +kernel
theorem dX11_tyre_23 : decode cX11_tyre 23 = .ok (.invokestatic 105, 3) := by decide +kernel
theorem dX11_tyre_26 : decode cX11_tyre 26 = .ok (.ifCond .ne 5, 3) := by decide +kernel
theorem dX11_tyre_29 : decode cX11_tyre 29 = .ok (.iconst (-1), 1) := by decide +kernel
theorem dX11_tyre_30 : decode cX11_tyre 30 = .ok (.ireturn, 1) := by decide +kernel
theorem dX11_tyre_31 : decode cX11_tyre 31 = .ok (.aload_n 0, 1) := by decide +kernel
theorem dX11_tyre_32 : decode cX11_tyre 32 = .ok (.getfield 24, 3) := by decide +kernel
theorem dX11_tyre_35 : decode cX11_tyre 35 = .ok (.getfield 148, 3) := by decide +kernel
theorem dX11_tyre_38 : decode cX11_tyre 38 = .ok (.iload_n 1, 1) := by decide +kernel
theorem dX11_tyre_39 : decode cX11_tyre 39 = .ok (.aaload, 1) := by decide +kernel
theorem dX11_tyre_40 : decode cX11_tyre 40 = .ok (.getfield 178, 3) := by decide +kernel
theorem dX11_tyre_43 : decode cX11_tyre 43 = .ok (.astore 4, 2) := by decide +kernel
theorem dX11_tyre_45 : decode cX11_tyre 45 = .ok (.aload 4, 2) := by decide +kernel
theorem dX11_tyre_47 : decode cX11_tyre 47 = .ok (.invokevirtual 181, 3) := by decide +kernel
theorem dX11_tyre_50 : decode cX11_tyre 50 = .ok (.ifCond .eq 5, 3) := by decide +kernel
theorem dX11_tyre_53 : decode cX11_tyre 53 = .ok (.iconst (-1), 1) := by decide +kernel
theorem dX11_tyre_54 : decode cX11_tyre 54 = .ok (.ireturn, 1) := by decide +kernel
theorem dX11_tyre_55 : decode cX11_tyre 55 = .ok (.aload_n 0, 1) := by decide +kernel
theorem dX11_tyre_56 : decode cX11_tyre 56 = .ok (.getfield 24, 3) := by decide +kernel
theorem dX11_tyre_59 : decode cX11_tyre 59 = .ok (.iconst 0, 1) := by decide +kernel
theorem dX11_tyre_60 : decode cX11_tyre 60 = .ok (.putfield 84, 3) := by decide +kernel
theorem dX11_tyre_63 : decode cX11_tyre 63 = .ok (.aload 4, 2) := by decide +kernel
theorem dX11_tyre_65 : decode cX11_tyre 65 = .ok (.iload_n 2, 1) := by decide +kernel
theorem dX11_tyre_66 : decode cX11_tyre 66 = .ok (.iload_n 3, 1) := by decide +kernel
theorem dX11_tyre_67 : decode cX11_tyre 67 = .ok (.iconst 0, 1) := by decide +kernel
theorem dX11_tyre_68 : decode cX11_tyre 68 = .ok (.iconst 0, 1) := by decide +kernel
theorem dX11_tyre_69 : decode cX11_tyre 69 = .ok (.invokevirtual 141, 3) := by decide +kernel
theorem dX11_tyre_72 : decode cX11_tyre 72 = .ok (.iconst 1, 1) := by decide +kernel
theorem dX11_tyre_73 : decode cX11_tyre 73 = .ok (.isub, 1) := by decide +kernel
theorem dX11_tyre_74 : decode cX11_tyre 74 = .ok (.ireturn, 1) := by decide +kernel
theorem dX11_order_0 : decode cX11_order 0 = .ok (.aload_n 0, 1) := by decide +kernel
theorem dX11_order_1 : decode cX11_order 1 = .ok (.getfield 24, 3) := by decide +kernel
theorem dX11_order_4 : decode cX11_order 4 = .ok (.iload_n 1, 1) := by decide +kernel
theorem dX11_order_5 : decode cX11_order 5 = .ok (.invokevirtual 175, 3) := by decide +kernel
theorem dX11_order_8 : decode cX11_order 8 = .ok (.ifCond .eq 26, 3) := by decide +kernel
theorem dX11_order_11 : decode cX11_order 11 = .ok (.iload_n 2, 1) := by decide +kernel
theorem dX11_order_12 : decode cX11_order 12 = .ok (.aload_n 0, 1) := by decide +kernel
theorem dX11_order_13 : decode cX11_order 13 = .ok (.getfield 15, 3) := by decide +kernel
theorem dX11_order_16 : decode cX11_order 16 = .ok (.getfield 185, 3) := by decide +kernel
theorem dX11_order_19 : decode cX11_order 19 = .ok (.invokestatic 115, 3) := by decide +kernel
theorem dX11_order_22 : decode cX11_order 22 = .ok (.ifCond .eq 12, 3) := by decide +kernel
theorem dX11_order_25 : decode cX11_order 25 = .ok (.iload_n 3, 1) := by decide +kernel
theorem dX11_order_26 : decode cX11_order 26 = .ok (.iconst 0, 1) := by decide +kernel
theorem dX11_order_27 : decode cX11_order 27 = .ok (.iconst 1, 1) := by decide +kernel
theorem dX11_order_28 : decode cX11_order 28 = .ok (.invokestatic 105, 3) := by decide +kernel
theorem dX11_order_31 : decode cX11_order 31 = .ok (.ifCond .ne 5, 3) := by decide +kernel
theorem dX11_order_34 : decode cX11_order 34 = .ok (.iconst (-1), 1) := by decide +kernel
theorem dX11_order_35 : decode cX11_order 35 = .ok (.ireturn, 1) := by decide +kernel
theorem dX11_order_36 : decode cX11_order 36 = .ok (.iload 4, 2) := by decide +kernel
theorem dX11_order_38 : decode cX11_order 38 = .ok (.iload_n 3, 1) := by decide +kernel
theorem dX11_order_39 : decode cX11_order 39 = .ok (.ifCond .ne 7, 3) := by decide +kernel
theorem dX11_order_42 : decode cX11_order 42 = .ok (.iconst (-1), 1) := by decide +kernel
theorem dX11_order_43 : decode cX11_order 43 = .ok (.goto 4, 3) := by decide +kernel
theorem dX11_order_46 : decode cX11_order 46 = .ok (.iconst 0, 1) := by decide +kernel
theorem dX11_order_47 : decode cX11_order 47 = .ok (.iconst 1, 1) := by decide +kernel
theorem dX11_order_48 : decode cX11_order 48 = .ok (.invokestatic 105, 3) := by decide +kernel
theorem dX11_order_51 : decode cX11_order 51 = .ok (.ifCond .ne 5, 3) := by decide +kernel
theorem dX11_order_54 : decode cX11_order 54 = .ok (.iconst (-1), 1) := by decide +kernel
theorem dX11_order_55 : decode cX11_order 55 = .ok (.ireturn, 1) := by decide +kernel
theorem dX11_order_56 : decode cX11_order 56 = .ok (.aload_n 0, 1) := by decide +kernel
theorem dX11_order_57 : decode cX11_order 57 = .ok (.getfield 24, 3) := by decide +kernel
theorem dX11_order_60 : decode cX11_order 60 = .ok (.iconst 0, 1) := by decide +kernel
theorem dX11_order_61 : decode cX11_order 61 = .ok (.putfield 84, 3) := by decide +kernel
theorem dX11_order_64 : decode cX11_order 64 = .ok (.aload_n 0, 1) := by decide +kernel
theorem dX11_order_65 : decode cX11_order 65 = .ok (.getfield 24, 3) := by decide +kernel
theorem dX11_order_68 : decode cX11_order 68 = .ok (.getfield 148, 3) := by decide +kernel
theorem dX11_order_71 : decode cX11_order 71 = .ok (.iload_n 1, 1) := by decide +kernel
theorem dX11_order_72 : decode cX11_order 72 = .ok (.aaload, 1) := by decide +kernel
theorem dX11_order_73 : decode cX11_order 73 = .ok (.getfield 188, 3) := by decide +kernel
theorem dX11_order_76 : decode cX11_order 76 = .ok (.iload_n 2, 1) := by decide +kernel
theorem dX11_order_77 : decode cX11_order 77 = .ok (.iload_n 3, 1) := by decide +kernel
theorem dX11_order_78 : decode cX11_order 78 = .ok (.iload 4, 2) := by decide +kernel
theorem dX11_order_80 : decode cX11_order 80 = .ok (.iconst 0, 1) := by decide +kernel
theorem dX11_order_81 : decode cX11_order 81 = .ok (.invokevirtual 141, 3) := by decide +kernel
theorem dX11_order_84 : decode cX11_order 84 = .ok (.ireturn, 1) := by decide +kernel
theorem dX11_stop_0 : decode cX11_stop 0 = .ok (.aload_n 0, 1) := by decide +kernel
theorem dX11_stop_1 : decode cX11_stop 1 = .ok (.getfield 24, 3) := by decide +kernel
theorem dX11_stop_4 : decode cX11_stop 4 = .ok (.iload_n 1, 1) := by decide +kernel
theorem dX11_stop_5 : decode cX11_stop 5 = .ok (.invokevirtual 175, 3) := by decide +kernel
theorem dX11_stop_8 : decode cX11_stop 8 = .ok (.ifCond .eq 20, 3) := by decide +kernel
theorem dX11_stop_11 : decode cX11_stop 11 = .ok (.iload_n 2, 1) := by decide +kernel
theorem dX11_stop_12 : decode cX11_stop 12 = .ok (.iconst 0, 1) := by decide +kernel
theorem dX11_stop_13 : decode cX11_stop 13 = .ok (.aload_n 0, 1) := by decide +kernel
theorem dX11_stop_14 : decode cX11_stop 14 = .ok (.getfield 15, 3) := by decide +kernel
theorem dX11_stop_17 : decode cX11_stop 17 = .ok (.getfield 185, 3) := by decide +kernel
theorem dX11_stop_20 : decode cX11_stop 20 = .ok (.iconst 2, 1) := by decide +kernel
theorem dX11_stop_21 : decode cX11_stop 21 = .ok (.isub, 1) := by decide +kernel
theorem dX11_stop_22 : decode cX11_stop 22 = .ok (.invokestatic 105, 3) := by decide +kernel
theorem dX11_stop_25 : decode cX11_stop 25 = .ok (.ifCond .ne 5, 3) := by decide +kernel
theorem dX11_stop_28 : decode cX11_stop 28 = .ok (.iconst (-1), 1) := by decide +kernel
theorem dX11_stop_29 : decode cX11_stop 29 = .ok (.ireturn, 1) := by decide +kernel
theorem dX11_stop_30 : decode cX11_stop 30 = .ok (.iload_n 3, 1) := by decide +kernel
theorem dX11_stop_31 : decode cX11_stop 31 = .ok (.iconst (-1), 1) := by decide +kernel
theorem dX11_stop_32 : decode cX11_stop 32 = .ok (.iconst 3, 1) := by decide +kernel
theorem dX11_stop_33 : decode cX11_stop 33 = .ok (.invokestatic 105, 3) := by decide +kernel
theorem dX11_stop_36 : decode cX11_stop 36 = .ok (.ifCond .eq 15, 3) := by decide +kernel
theorem dX11_stop_39 : decode cX11_stop 39 = .ok (.iload 4, 2) := by decide +kernel
theorem dX11_stop_41 : decode cX11_stop 41 = .ok (.iconst 0, 1) := by decide +kernel
theorem dX11_stop_42 : decode cX11_stop 42 = .ok (.sipush 200, 3) := by decide +kernel
theorem dX11_stop_45 : decode cX11_stop 45 = .ok (.invokestatic 105, 3) := by decide +kernel
theorem dX11_stop_48 : decode cX11_stop 48 = .ok (.ifCond .ne 5, 3) := by decide +kernel
theorem dX11_stop_51 : decode cX11_stop 51 = .ok (.iconst (-1), 1) := by decide +kernel
theorem dX11_stop_52 : decode cX11_stop 52 = .ok (.ireturn, 1) := by decide +kernel
theorem dX11_stop_53 : decode cX11_stop 53 = .ok (.aload_n 0, 1) := by decide +kernel
theorem dX11_stop_54 : decode cX11_stop 54 = .ok (.getfield 24, 3) := by decide +kernel
theorem dX11_stop_57 : decode cX11_stop 57 = .ok (.iconst 0, 1) := by decide +kernel
theorem dX11_stop_58 : decode cX11_stop 58 = .ok (.putfield 84, 3) := by decide +kernel
theorem dX11_stop_61 : decode cX11_stop 61 = .ok (.aload_n 0, 1) := by decide +kernel
theorem dX11_stop_62 : decode cX11_stop 62 = .ok (.getfield 24, 3) := by decide +kernel
theorem dX11_stop_65 : decode cX11_stop 65 = .ok (.getfield 148, 3) := by decide +kernel
theorem dX11_stop_68 : decode cX11_stop 68 = .ok (.iload_n 1, 1) := by decide +kernel
theorem dX11_stop_69 : decode cX11_stop 69 = .ok (.aaload, 1) := by decide +kernel
theorem dX11_stop_70 : decode cX11_stop 70 = .ok (.getfield 191, 3) := by decide +kernel
theorem dX11_stop_73 : decode cX11_stop 73 = .ok (.iload_n 2, 1) := by decide +kernel
theorem dX11_stop_74 : decode cX11_stop 74 = .ok (.iload_n 3, 1) := by decide +kernel
theorem dX11_stop_75 : decode cX11_stop 75 = .ok (.iload 4, 2) := by decide +kernel
theorem dX11_stop_77 : decode cX11_stop 77 = .ok (.iconst 0, 1) := by decide +kernel
theorem dX11_stop_78 : decode cX11_stop 78 = .ok (.invokevirtual 141, 3) := by decide +kernel
theorem dX11_stop_81 : decode cX11_stop 81 = .ok (.ireturn, 1) := by decide +kernel
theorem dX11_drop_0 : decode cX11_drop 0 = .ok (.aload_n 0, 1) := by decide +kernel
theorem dX11_drop_1 : decode cX11_drop 1 = .ok (.getfield 24, 3) := by decide +kernel
theorem dX11_drop_4 : decode cX11_drop 4 = .ok (.iload_n 1, 1) := by decide +kernel
theorem dX11_drop_5 : decode cX11_drop 5 = .ok (.invokevirtual 175, 3) := by decide +kernel
theorem dX11_drop_8 : decode cX11_drop 8 = .ok (.ifCond .eq 25, 3) := by decide +kernel
theorem dX11_drop_11 : decode cX11_drop 11 = .ok (.iload_n 2, 1) := by decide +kernel
theorem dX11_drop_12 : decode cX11_drop 12 = .ok (.aload_n 0, 1) := by decide +kernel
theorem dX11_drop_13 : decode cX11_drop 13 = .ok (.getfield 24, 3) := by decide +kernel
theorem dX11_drop_16 : decode cX11_drop 16 = .ok (.getfield 148, 3) := by decide +kernel
theorem dX11_drop_19 : decode cX11_drop 19 = .ok (.iload_n 1, 1) := by decide +kernel
theorem dX11_drop_20 : decode cX11_drop 20 = .ok (.aaload, 1) := by decide +kernel
theorem dX11_drop_21 : decode cX11_drop 21 = .ok (.getfield 191, 3) := by decide +kernel
theorem dX11_drop_24 : decode cX11_drop 24 = .ok (.getfield 95, 3) := by decide +kernel
theorem dX11_drop_27 : decode cX11_drop 27 = .ok (.invokestatic 115, 3) := by decide +kernel
theorem dX11_drop_30 : decode cX11_drop 30 = .ok (.ifCond .ne 5, 3) := by decide +kernel
theorem dX11_drop_33 : decode cX11_drop 33 = .ok (.iconst (-1), 1) := by decide +kernel
theorem dX11_drop_34 : decode cX11_drop 34 = .ok (.ireturn, 1) := by decide +kernel
theorem dX11_drop_35 : decode cX11_drop 35 = .ok (.aload_n 0, 1) := by decide +kernel
theorem dX11_drop_36 : decode cX11_drop 36 = .ok (.getfield 24, 3) := by decide +kernel
theorem dX11_drop_39 : decode cX11_drop 39 = .ok (.iconst 0, 1) := by decide +kernel
theorem dX11_drop_40 : decode cX11_drop 40 = .ok (.putfield 84, 3) := by decide +kernel
theorem dX11_drop_43 : decode cX11_drop 43 = .ok (.aload_n 0, 1) := by decide +kernel
theorem dX11_drop_44 : decode cX11_drop 44 = .ok (.getfield 24, 3) := by decide +kernel
theorem dX11_drop_47 : decode cX11_drop 47 = .ok (.getfield 148, 3) := by decide +kernel
theorem dX11_drop_50 : decode cX11_drop 50 = .ok (.iload_n 1, 1) := by decide +kernel
theorem dX11_drop_51 : decode cX11_drop 51 = .ok (.aaload, 1) := by decide +kernel
theorem dX11_drop_52 : decode cX11_drop 52 = .ok (.getfield 191, 3) := by decide +kernel
theorem dX11_drop_55 : decode cX11_drop 55 = .ok (.iload_n 2, 1) := by decide +kernel
theorem dX11_drop_56 : decode cX11_drop 56 = .ok (.invokevirtual 194, 3) := by decide +kernel
theorem dX11_drop_59 : decode cX11_drop 59 = .ok (.ireturn, 1) := by decide +kernel
theorem dX11_plan_0 : decode cX11_plan 0 = .ok (.aload_n 0, 1) := by decide +kernel
theorem dX11_plan_1 : decode cX11_plan 1 = .ok (.invokevirtual 198, 3) := by decide +kernel
theorem dX11_plan_4 : decode cX11_plan 4 = .ok (.istore_n 2, 1) := by decide +kernel
theorem dX11_plan_5 : decode cX11_plan 5 = .ok (.aload_n 0, 1) := by decide +kernel
theorem dX11_plan_6 : decode cX11_plan 6 = .ok (.getfield 24, 3) := by decide +kernel
theorem dX11_plan_9 : decode cX11_plan 9 = .ok (.iload_n 1, 1) := by decide +kernel
theorem dX11_plan_10 : decode cX11_plan 10 = .ok (.invokevirtual 175, 3) := by decide +kernel
theorem dX11_plan_13 : decode cX11_plan 13 = .ok (.ifCond .ne 6, 3) := by decide +kernel
theorem dX11_plan_16 : decode cX11_plan 16 = .ok (.bipush (-100), 2) := by decide +kernel
theorem dX11_plan_18 : decode cX11_plan 18 = .ok (.ireturn, 1) := by decide +kernel
theorem dX11_plan_19 : decode cX11_plan 19 = .ok (.aload_n 0, 1) := by decide +kernel
theorem dX11_plan_20 : decode cX11_plan 20 = .ok (.getfield 58, 3) := by decide +kernel
theorem dX11_plan_23 : decode cX11_plan 23 = .ok (.aload_n 0, 1) := by decide +kernel
theorem dX11_plan_24 : decode cX11_plan 24 = .ok (.getfield 62, 3) := by decide +kernel
theorem dX11_plan_27 : decode cX11_plan 27 = .ok (.iload_n 2, 1) := by decide +kernel
theorem dX11_plan_28 : decode cX11_plan 28 = .ok (.aload_n 0, 1) := by decide +kernel
theorem dX11_plan_29 : decode cX11_plan 29 = .ok (.getfield 72, 3) := by decide +kernel
theorem dX11_plan_32 : decode cX11_plan 32 = .ok (.iconst 1, 1) := by decide +kernel
theorem dX11_plan_33 : decode cX11_plan 33 = .ok (.invokevirtual 202, 3) := by decide +kernel
theorem dX11_plan_36 : decode cX11_plan 36 = .ok (.istore_n 3, 1) := by decide +kernel
theorem dX11_plan_37 : decode cX11_plan 37 = .ok (.iload_n 3, 1) := by decide +kernel
theorem dX11_plan_38 : decode cX11_plan 38 = .ok (.iconst (-1), 1) := by decide +kernel
theorem dX11_plan_39 : decode cX11_plan 39 = .ok (.if_icmp .eq 7, 3) := by decide +kernel
theorem dX11_plan_42 : decode cX11_plan 42 = .ok (.iconst (-1), 1) := by decide +kernel
theorem dX11_plan_43 : decode cX11_plan 43 = .ok (.iload_n 3, 1) := by decide +kernel
theorem dX11_plan_44 : decode cX11_plan 44 = .ok (.isub, 1) := by decide +kernel
theorem dX11_plan_45 : decode cX11_plan 45 = .ok (.ireturn, 1) := by decide +kernel
theorem dX11_plan_46 : decode cX11_plan 46 = .ok (.aload_n 0, 1) := by decide +kernel
theorem dX11_plan_47 : decode cX11_plan 47 = .ok (.getfield 24, 3) := by decide +kernel
theorem dX11_plan_50 : decode cX11_plan 50 = .ok (.getfield 148, 3) := by decide +kernel
theorem dX11_plan_53 : decode cX11_plan 53 = .ok (.iload_n 1, 1) := by decide +kernel
theorem dX11_plan_54 : decode cX11_plan 54 = .ok (.aaload, 1) := by decide +kernel
theorem dX11_plan_55 : decode cX11_plan 55 = .ok (.getfield 206, 3) := by decide +kernel
theorem dX11_plan_58 : decode cX11_plan 58 = .ok (.astore 4, 2) := by decide +kernel
theorem dX11_plan_60 : decode cX11_plan 60 = .ok (.aload_n 0, 1) := by decide +kernel
theorem dX11_plan_61 : decode cX11_plan 61 = .ok (.getfield 24, 3) := by decide +kernel
theorem dX11_plan_64 : decode cX11_plan 64 = .ok (.getfield 148, 3) := by decide +kernel
theorem dX11_plan_67 : decode cX11_plan 67 = .ok (.iload_n 1, 1) := by decide +kernel
theorem dX11_plan_68 : decode cX11_plan 68 = .ok (.aaload, 1) := by decide +kernel
theorem dX11_plan_69 : decode cX11_plan 69 = .ok (.aload_n 0, 1) := by decide +kernel
theorem dX11_plan_70 : decode cX11_plan 70 = .ok (.getfield 72, 3) := by decide +kernel
theorem dX11_plan_73 : decode cX11_plan 73 = .ok (.putfield 206, 3) := by decide +kernel
theorem dX11_plan_76 : decode cX11_plan 76 = .ok (.aload_n 0, 1) := by decide +kernel
theorem dX11_plan_77 : decode cX11_plan 77 = .ok (.getfield 24, 3) := by decide +kernel
theorem dX11_plan_80 : decode cX11_plan 80 = .ok (.getfield 148, 3) := by decide +kernel
theorem dX11_plan_83 : decode cX11_plan 83 = .ok (.iload_n 1, 1) := by decide +kernel
theorem dX11_plan_84 : decode cX11_plan 84 = .ok (.aaload, 1) := by decide +kernel
theorem dX11_plan_85 : decode cX11_plan 85 = .ok (.iconst 1, 1) := by decide +kernel
theorem dX11_plan_86 : decode cX11_plan 86 = .ok (.putfield 209, 3) := by decide +kernel
theorem dX11_plan_89 : decode cX11_plan 89 = .ok (.aload_n 0, 1) := by decide +kernel
theorem dX11_plan_90 : decode cX11_plan 90 = .ok (.aload 4, 2) := by decide +kernel
theorem dX11_plan_92 : decode cX11_plan 92 = .ok (.putfield 72, 3) := by decide +kernel
theorem dX11_plan_95 : decode cX11_plan 95 = .ok (.aload_n 0, 1) := by decide +kernel
theorem dX11_plan_96 : decode cX11_plan 96 = .ok (.getfield 24, 3) := by decide +kernel
theorem dX11_plan_99 : decode cX11_plan 99 = .ok (.iconst 0, 1) := by decide +kernel
theorem dX11_plan_100 : decode cX11_plan 100 = .ok (.putfield 84, 3) := by decide +kernel
theorem dX11_plan_103 : decode cX11_plan 103 = .ok (.iconst 1, 1) := by decide +kernel
theorem dX11_plan_104 : decode cX11_plan 104 = .ok (.ireturn, 1) := by decide +kernel
theorem dX11_unplan_0 : decode cX11_unplan 0 = .ok (.aload_n 0, 1) := by decide +kernel
theorem dX11_unplan_1 : decode cX11_unplan 1 = .ok (.getfield 24, 3) := by decide +kernel
theorem dX11_unplan_4 : decode cX11_unplan 4 = .ok (.iload_n 1, 1) := by decide +kernel
theorem dX11_unplan_5 : decode cX11_unplan 5 = .ok (.invokevirtual 175, 3) := by decide +kernel
theorem dX11_unplan_8 : decode cX11_unplan 8 = .ok (.ifCond .eq 18, 3) := by decide +kernel
theorem dX11_unplan_11 : decode cX11_unplan 11 = .ok (.aload_n 0, 1) := by decide +kernel
theorem dX11_unplan_12 : decode cX11_unplan 12 = .ok (.getfield 24, 3) := by decide +kernel
theorem dX11_unplan_15 : decode cX11_unplan 15 = .ok (.getfield 148, 3) := by decide +kernel
theorem dX11_unplan_18 : decode cX11_unplan 18 = .ok (.iload_n 1, 1) := by decide +kernel
theorem dX11_unplan_19 : decode cX11_unplan 19 = .ok (.aaload, 1) := by decide +kernel
theorem dX11_unplan_20 : decode cX11_unplan 20 = .ok (.getfield 209, 3) := by decide +kernel
theorem dX11_unplan_23 : decode cX11_unplan 23 = .ok (.ifCond .ne 5, 3) := by decide +kernel
theorem dX11_unplan_26 : decode cX11_unplan 26 = .ok (.iconst 0, 1) := by decide +kernel
theorem dX11_unplan_27 : decode cX11_unplan 27 = .ok (.ireturn, 1) := by decide +kernel
theorem dX11_unplan_28 : decode cX11_unplan 28 = .ok (.aload_n 0, 1) := by decide +kernel
theorem dX11_unplan_29 : decode cX11_unplan 29 = .ok (.getfield 24, 3) := by decide +kernel
theorem dX11_unplan_32 : decode cX11_unplan 32 = .ok (.getfield 148, 3) := by decide +kernel
theorem dX11_unplan_35 : decode cX11_unplan 35 = .ok (.iload_n 1, 1) := by decide +kernel
theorem dX11_unplan_36 : decode cX11_unplan 36 = .ok (.aaload, 1) := by decide +kernel
theorem dX11_unplan_37 : decode cX11_unplan 37 = .ok (.iconst 0, 1) := by decide +kernel
theorem dX11_unplan_38 : decode cX11_unplan 38 = .ok (.putfield 209, 3) := by decide +kernel
theorem dX11_unplan_41 : decode cX11_unplan 41 = .ok (.aload_n 0, 1) := by decide +kernel
theorem dX11_unplan_42 : decode cX11_unplan 42 = .ok (.getfield 24, 3) := by decide +kernel
theorem dX11_unplan_45 : decode cX11_unplan 45 = .ok (.iconst 0, 1) := by decide +kernel
theorem dX11_unplan_46 : decode cX11_unplan 46 = .ok (.putfield 84, 3) := by decide +kernel
theorem dX11_unplan_49 : decode cX11_unplan 49 = .ok (.iconst 1, 1) := by decide +kernel
theorem dX11_unplan_50 : decode cX11_unplan 50 = .ok (.ireturn, 1) := by decide +kernel
theorem dX11_count_0 : decode cX11_count 0 = .ok (.iload_n 1, 1) := by decide +kernel
theorem dX11_count_1 : decode cX11_count 1 = .ok (.tableswitch 138 0 9 #[55, 63, 71, 79, 90, 101, 109, 120, 125, 130], 55) := by decide +kernel
theorem dX11_count_56 : decode cX11_count 56 = .ok (.aload_n 0, 1) := by decide +kernel
theorem dX11_count_57 : decode cX11_count 57 = .ok (.getfield 15, 3) := by decide +kernel
theorem dX11_count_60 : decode cX11_count 60 = .ok (.getfield 212, 3) := by decide +kernel
theorem dX11_count_63 : decode cX11_count 63 = .ok (.ireturn, 1) := by decide +kernel
theorem dX11_count_64 : decode cX11_count 64 = .ok (.aload_n 0, 1) := by decide +kernel
theorem dX11_count_65 : decode cX11_count 65 = .ok (.getfield 15, 3) := by decide +kernel
theorem dX11_count_68 : decode cX11_count 68 = .ok (.getfield 185, 3) := by decide +kernel
theorem dX11_count_71 : decode cX11_count 71 = .ok (.ireturn, 1) := by decide +kernel
theorem dX11_count_72 : decode cX11_count 72 = .ok (.aload_n 0, 1) := by decide +kernel
theorem dX11_count_73 : decode cX11_count 73 = .ok (.getfield 24, 3) := by decide +kernel
theorem dX11_count_76 : decode cX11_count 76 = .ok (.getfield 80, 3) := by decide +kernel
theorem dX11_count_79 : decode cX11_count 79 = .ok (.ireturn, 1) := by decide +kernel
theorem dX11_count_80 : decode cX11_count 80 = .ok (.aload_n 0, 1) := by decide +kernel
theorem dX11_count_81 : decode cX11_count 81 = .ok (.getfield 15, 3) := by decide +kernel
theorem dX11_count_84 : decode cX11_count 84 = .ok (.getfield 138, 3) := by decide +kernel
theorem dX11_count_87 : decode cX11_count 87 = .ok (.getfield 95, 3) := by decide +kernel
theorem dX11_count_90 : decode cX11_count 90 = .ok (.ireturn, 1) := by decide +kernel
theorem dX11_count_91 : decode cX11_count 91 = .ok (.aload_n 0, 1) := by decide +kernel
theorem dX11_count_92 : decode cX11_count 92 = .ok (.getfield 15, 3) := by decide +kernel
theorem dX11_count_95 : decode cX11_count 95 = .ok (.getfield 145, 3) := by decide +kernel
theorem dX11_count_98 : decode cX11_count 98 = .ok (.getfield 95, 3) := by decide +kernel
theorem dX11_count_101 : decode cX11_count 101 = .ok (.ireturn, 1) := by decide +kernel
theorem dX11_count_102 : decode cX11_count 102 = .ok (.aload_n 0, 1) := by decide +kernel
theorem dX11_count_103 : decode cX11_count 103 = .ok (.getfield 33, 3) := by decide +kernel
theorem dX11_count_106 : decode cX11_count 106 = .ok (.getfield 88, 3) := by decide +kernel
theorem dX11_count_109 : decode cX11_count 109 = .ok (.ireturn, 1) := by decide +kernel
theorem dX11_count_110 : decode cX11_count 110 = .ok (.aload_n 0, 1) := by decide +kernel
theorem dX11_count_111 : decode cX11_count 111 = .ok (.getfield 33, 3) := by decide +kernel
theorem dX11_count_114 : decode cX11_count 114 = .ok (.getfield 91, 3) := by decide +kernel
theorem dX11_count_117 : decode cX11_count 117 = .ok (.getfield 95, 3) := by decide +kernel
theorem dX11_count_120 : decode cX11_count 120 = .ok (.ireturn, 1) := by decide +kernel
theorem dX11_count_121 : decode cX11_count 121 = .ok (.aload_n 0, 1) := by decide +kernel
theorem dX11_count_122 : decode cX11_count 122 = .ok (.getfield 215, 3) := by decide +kernel
theorem dX11_count_125 : decode cX11_count 125 = .ok (.ireturn, 1) := by decide +kernel
theorem dX11_count_126 : decode cX11_count 126 = .ok (.aload_n 0, 1) := by decide +kernel
theorem dX11_count_127 : decode cX11_count 127 = .ok (.getfield 218, 3) := by decide +kernel
theorem dX11_count_130 : decode cX11_count 130 = .ok (.ireturn, 1) := by decide +kernel
theorem dX11_count_131 : decode cX11_count 131 = .ok (.aload_n 0, 1) := by decide +kernel
theorem dX11_count_132 : decode cX11_count 132 = .ok (.getfield 24, 3) := by decide +kernel
theorem dX11_count_135 : decode cX11_count 135 = .ok (.invokevirtual 221, 3) := by decide +kernel
theorem dX11_count_138 : decode cX11_count 138 = .ok (.ireturn, 1) := by decide +kernel
theorem dX11_count_139 : decode cX11_count 139 = .ok (.iconst (-1), 1) := by decide +kernel
theorem dX11_count_140 : decode cX11_count 140 = .ok (.ireturn, 1) := by decide +kernel
theorem dX11_of_0 : decode cX11_of 0 = .ok (.aload_n 0, 1) := by decide +kernel
theorem dX11_of_1 : decode cX11_of 1 = .ok (.getfield 24, 3) := by decide +kernel
theorem dX11_of_4 : decode cX11_of 4 = .ok (.iload_n 1, 1) := by decide +kernel
theorem dX11_of_5 : decode cX11_of 5 = .ok (.invokevirtual 175, 3) := by decide +kernel
theorem dX11_of_8 : decode cX11_of 8 = .ok (.ifCond .eq 13, 3) := by decide +kernel
theorem dX11_of_11 : decode cX11_of 11 = .ok (.iload_n 2, 1) := by decide +kernel
theorem dX11_of_12 : decode cX11_of 12 = .ok (.iconst 0, 1) := by decide +kernel
theorem dX11_of_13 : decode cX11_of 13 = .ok (.bipush 10, 2) := by decide +kernel
theorem dX11_of_15 : decode cX11_of 15 = .ok (.invokestatic 105, 3) := by decide +kernel
theorem dX11_of_18 : decode cX11_of 18 = .ok (.ifCond .ne 11, 3) := by decide +kernel
theorem dX11_of_21 : decode cX11_of 21 = .ok (.new 224, 3) := by decide +kernel
theorem dX11_of_24 : decode cX11_of 24 = .ok (.dup, 1) := by decide +kernel
theorem dX11_of_25 : decode cX11_of 25 = .ok (.invokespecial 226, 3) := by decide +kernel
theorem dX11_of_28 : decode cX11_of 28 = .ok (.athrow, 1) := by decide +kernel
theorem dX11_of_29 : decode cX11_of 29 = .ok (.aload_n 0, 1) := by decide +kernel
theorem dX11_of_30 : decode cX11_of 30 = .ok (.getfield 24, 3) := by decide +kernel
theorem dX11_of_33 : decode cX11_of 33 = .ok (.invokevirtual 227, 3) := by decide +kernel
theorem dX11_of_36 : decode cX11_of 36 = .ok (.aload_n 0, 1) := by decide +kernel
theorem dX11_of_37 : decode cX11_of 37 = .ok (.getfield 24, 3) := by decide +kernel
theorem dX11_of_40 : decode cX11_of 40 = .ok (.getfield 230, 3) := by decide +kernel
theorem dX11_of_43 : decode cX11_of 43 = .ok (.iload_n 1, 1) := by decide +kernel
theorem dX11_of_44 : decode cX11_of 44 = .ok (.aaload, 1) := by decide +kernel
theorem dX11_of_45 : decode cX11_of 45 = .ok (.iload_n 2, 1) := by decide +kernel
theorem dX11_of_46 : decode cX11_of 46 = .ok (.invokevirtual 234, 3) := by decide +kernel
theorem dX11_of_49 : decode cX11_of 49 = .ok (.ireturn, 1) := by decide +kernel
theorem dX11_at_0 : decode cX11_at 0 = .ok (.aload_n 0, 1) := by decide +kernel
theorem dX11_at_1 : decode cX11_at 1 = .ok (.getfield 24, 3) := by decide +kernel
theorem dX11_at_4 : decode cX11_at 4 = .ok (.iload_n 1, 1) := by decide +kernel
theorem dX11_at_5 : decode cX11_at 5 = .ok (.invokevirtual 175, 3) := by decide +kernel
theorem dX11_at_8 : decode cX11_at 8 = .ok (.ifCond .eq 15, 3) := by decide +kernel
theorem dX11_at_11 : decode cX11_at 11 = .ok (.aload_n 0, 1) := by decide +kernel
theorem dX11_at_12 : decode cX11_at 12 = .ok (.getfield 15, 3) := by decide +kernel
theorem dX11_at_15 : decode cX11_at 15 = .ok (.iload_n 2, 1) := by decide +kernel
theorem dX11_at_16 : decode cX11_at 16 = .ok (.iload_n 3, 1) := by decide +kernel
theorem dX11_at_17 : decode cX11_at 17 = .ok (.invokevirtual 239, 3) := by decide +kernel
theorem dX11_at_20 : decode cX11_at 20 = .ok (.ifCond .ne 5, 3) := by decide +kernel
theorem dX11_at_23 : decode cX11_at 23 = .ok (.iconst (-1), 1) := by decide +kernel
theorem dX11_at_24 : decode cX11_at 24 = .ok (.ireturn, 1) := by decide +kernel
theorem dX11_at_25 : decode cX11_at 25 = .ok (.aload_n 0, 1) := by decide +kernel
theorem dX11_at_26 : decode cX11_at 26 = .ok (.getfield 24, 3) := by decide +kernel
theorem dX11_at_29 : decode cX11_at 29 = .ok (.invokevirtual 227, 3) := by decide +kernel
theorem dX11_at_32 : decode cX11_at 32 = .ok (.aload_n 0, 1) := by decide +kernel
theorem dX11_at_33 : decode cX11_at 33 = .ok (.getfield 24, 3) := by decide +kernel
theorem dX11_at_36 : decode cX11_at 36 = .ok (.getfield 230, 3) := by decide +kernel
theorem dX11_at_39 : decode cX11_at 39 = .ok (.iload_n 1, 1) := by decide +kernel
theorem dX11_at_40 : decode cX11_at 40 = .ok (.aaload, 1) := by decide +kernel
theorem dX11_at_41 : decode cX11_at 41 = .ok (.aload_n 0, 1) := by decide +kernel
theorem dX11_at_42 : decode cX11_at 42 = .ok (.getfield 15, 3) := by decide +kernel
theorem dX11_at_45 : decode cX11_at 45 = .ok (.iload_n 2, 1) := by decide +kernel
theorem dX11_at_46 : decode cX11_at 46 = .ok (.iload_n 3, 1) := by decide +kernel
theorem dX11_at_47 : decode cX11_at 47 = .ok (.invokevirtual 242, 3) := by decide +kernel
theorem dX11_at_50 : decode cX11_at 50 = .ok (.invokevirtual 245, 3) := by decide +kernel
theorem dX11_at_53 : decode cX11_at 53 = .ok (.ireturn, 1) := by decide +kernel
theorem dX11_led_0 : decode cX11_led 0 = .ok (.iload_n 1, 1) := by decide +kernel
theorem dX11_led_1 : decode cX11_led 1 = .ok (.aload_n 0, 1) := by decide +kernel
theorem dX11_led_2 : decode cX11_led 2 = .ok (.getfield 15, 3) := by decide +kernel
theorem dX11_led_5 : decode cX11_led 5 = .ok (.getfield 185, 3) := by decide +kernel
theorem dX11_led_8 : decode cX11_led 8 = .ok (.invokestatic 115, 3) := by decide +kernel
theorem dX11_led_11 : decode cX11_led 11 = .ok (.ifCond .eq 17, 3) := by decide +kernel
theorem dX11_led_14 : decode cX11_led 14 = .ok (.iload_n 2, 1) := by decide +kernel
theorem dX11_led_15 : decode cX11_led 15 = .ok (.aload_n 0, 1) := by decide +kernel
theorem dX11_led_16 : decode cX11_led 16 = .ok (.getfield 24, 3) := by decide +kernel
theorem dX11_led_19 : decode cX11_led 19 = .ok (.getfield 80, 3) := by decide +kernel
theorem dX11_led_22 : decode cX11_led 22 = .ok (.invokestatic 115, 3) := by decide +kernel
theorem dX11_led_25 : decode cX11_led 25 = .ok (.ifCond .ne 5, 3) := by decide +kernel
theorem dX11_led_28 : decode cX11_led 28 = .ok (.iconst (-1), 1) := by decide +kernel
theorem dX11_led_29 : decode cX11_led 29 = .ok (.ireturn, 1) := by decide +kernel
theorem dX11_led_30 : decode cX11_led 30 = .ok (.aload_n 0, 1) := by decide +kernel
theorem dX11_led_31 : decode cX11_led 31 = .ok (.getfield 24, 3) := by decide +kernel
theorem dX11_led_34 : decode cX11_led 34 = .ok (.invokevirtual 227, 3) := by decide +kernel
theorem dX11_led_37 : decode cX11_led 37 = .ok (.aload_n 0, 1) := by decide +kernel
theorem dX11_led_38 : decode cX11_led 38 = .ok (.getfield 24, 3) := by decide +kernel
theorem dX11_led_41 : decode cX11_led 41 = .ok (.aload_n 0, 1) := by decide +kernel
theorem dX11_led_42 : decode cX11_led 42 = .ok (.getfield 15, 3) := by decide +kernel
theorem dX11_led_45 : decode cX11_led 45 = .ok (.iload_n 1, 1) := by decide +kernel
theorem dX11_led_46 : decode cX11_led 46 = .ok (.aload_n 0, 1) := by decide +kernel
theorem dX11_led_47 : decode cX11_led 47 = .ok (.getfield 15, 3) := by decide +kernel
theorem dX11_led_50 : decode cX11_led 50 = .ok (.getfield 212, 3) := by decide +kernel
theorem dX11_led_53 : decode cX11_led 53 = .ok (.iconst 1, 1) := by decide +kernel
theorem dX11_led_54 : decode cX11_led 54 = .ok (.isub, 1) := by decide +kernel
theorem dX11_led_55 : decode cX11_led 55 = .ok (.invokevirtual 242, 3) := by decide +kernel
theorem dX11_led_58 : decode cX11_led 58 = .ok (.iload_n 2, 1) := by decide +kernel
theorem dX11_led_59 : decode cX11_led 59 = .ok (.invokevirtual 248, 3) := by decide +kernel
theorem dX11_led_62 : decode cX11_led 62 = .ok (.ireturn, 1) := by decide +kernel
theorem dX11_waited_0 : decode cX11_waited 0 = .ok (.aload_n 0, 1) := by decide +kernel
theorem dX11_waited_1 : decode cX11_waited 1 = .ok (.getfield 24, 3) := by decide +kernel
theorem dX11_waited_4 : decode cX11_waited 4 = .ok (.iload_n 1, 1) := by decide +kernel
theorem dX11_waited_5 : decode cX11_waited 5 = .ok (.invokevirtual 175, 3) := by decide +kernel
theorem dX11_waited_8 : decode cX11_waited 8 = .ok (.ifCond .ne 5, 3) := by decide +kernel
theorem dX11_waited_11 : decode cX11_waited 11 = .ok (.iconst (-1), 1) := by decide +kernel
theorem dX11_waited_12 : decode cX11_waited 12 = .ok (.ireturn, 1) := by decide +kernel
theorem dX11_waited_13 : decode cX11_waited 13 = .ok (.aload_n 0, 1) := by decide +kernel
theorem dX11_waited_14 : decode cX11_waited 14 = .ok (.getfield 24, 3) := by decide +kernel
theorem dX11_waited_17 : decode cX11_waited 17 = .ok (.invokevirtual 227, 3) := by decide +kernel
theorem dX11_waited_20 : decode cX11_waited 20 = .ok (.aload_n 0, 1) := by decide +kernel
theorem dX11_waited_21 : decode cX11_waited 21 = .ok (.getfield 24, 3) := by decide +kernel
theorem dX11_waited_24 : decode cX11_waited 24 = .ok (.getfield 230, 3) := by decide +kernel
theorem dX11_waited_27 : decode cX11_waited 27 = .ok (.iload_n 1, 1) := by decide +kernel
theorem dX11_waited_28 : decode cX11_waited 28 = .ok (.aaload, 1) := by decide +kernel
theorem dX11_waited_29 : decode cX11_waited 29 = .ok (.getfield 251, 3) := by decide +kernel
theorem dX11_waited_32 : decode cX11_waited 32 = .ok (.ireturn, 1) := by decide +kernel
theorem dX11_leads_0 : decode cX11_leads 0 = .ok (.aload_n 0, 1) := by decide +kernel
theorem dX11_leads_1 : decode cX11_leads 1 = .ok (.getfield 24, 3) := by decide +kernel
theorem dX11_leads_4 : decode cX11_leads 4 = .ok (.invokevirtual 227, 3) := by decide +kernel
theorem dX11_leads_7 : decode cX11_leads 7 = .ok (.iconst 0, 1) := by decide +kernel
theorem dX11_leads_8 : decode cX11_leads 8 = .ok (.istore_n 1, 1) := by decide +kernel
theorem dX11_leads_9 : decode cX11_leads 9 = .ok (.aload_n 0, 1) := by decide +kernel
theorem dX11_leads_10 : decode cX11_leads 10 = .ok (.getfield 24, 3) := by decide +kernel
theorem dX11_leads_13 : decode cX11_leads 13 = .ok (.aload_n 0, 1) := by decide +kernel
theorem dX11_leads_14 : decode cX11_leads 14 = .ok (.getfield 15, 3) := by decide +kernel
theorem dX11_leads_17 : decode cX11_leads 17 = .ok (.iconst 0, 1) := by decide +kernel
theorem dX11_leads_18 : decode cX11_leads 18 = .ok (.aload_n 0, 1) := by decide +kernel
theorem dX11_leads_19 : decode cX11_leads 19 = .ok (.getfield 15, 3) := by decide +kernel
theorem dX11_leads_22 : decode cX11_leads 22 = .ok (.getfield 212, 3) := by decide +kernel
theorem dX11_leads_25 : decode cX11_leads 25 = .ok (.iconst 1, 1) := by decide +kernel
theorem dX11_leads_26 : decode cX11_leads 26 = .ok (.isub, 1) := by decide +kernel
theorem dX11_leads_27 : decode cX11_leads 27 = .ok (.invokevirtual 242, 3) := by decide +kernel
theorem dX11_leads_30 : decode cX11_leads 30 = .ok (.iconst 0, 1) := by decide +kernel
theorem dX11_leads_31 : decode cX11_leads 31 = .ok (.invokevirtual 248, 3) := by decide +kernel
theorem dX11_leads_34 : decode cX11_leads 34 = .ok (.istore_n 2, 1) := by decide +kernel
theorem dX11_leads_35 : decode cX11_leads 35 = .ok (.iconst 1, 1) := by decide +kernel
theorem dX11_leads_36 : decode cX11_leads 36 = .ok (.istore_n 3, 1) := by decide +kernel
theorem dX11_leads_37 : decode cX11_leads 37 = .ok (.iload_n 3, 1) := by decide +kernel
theorem dX11_leads_38 : decode cX11_leads 38 = .ok (.aload_n 0, 1) := by decide +kernel
theorem dX11_leads_39 : decode cX11_leads 39 = .ok (.getfield 15, 3) := by decide +kernel
theorem dX11_leads_42 : decode cX11_leads 42 = .ok (.getfield 185, 3) := by decide +kernel
theorem dX11_leads_45 : decode cX11_leads 45 = .ok (.if_icmp .ge 56, 3) := by decide +kernel
theorem dX11_leads_48 : decode cX11_leads 48 = .ok (.aload_n 0, 1) := by decide +kernel
theorem dX11_leads_49 : decode cX11_leads 49 = .ok (.getfield 24, 3) := by decide +kernel
theorem dX11_leads_52 : decode cX11_leads 52 = .ok (.aload_n 0, 1) := by decide +kernel
theorem dX11_leads_53 : decode cX11_leads 53 = .ok (.getfield 15, 3) := by decide +kernel
theorem dX11_leads_56 : decode cX11_leads 56 = .ok (.iload_n 3, 1) := by decide +kernel
theorem dX11_leads_57 : decode cX11_leads 57 = .ok (.aload_n 0, 1) := by decide +kernel
theorem dX11_leads_58 : decode cX11_leads 58 = .ok (.getfield 15, 3) := by decide +kernel
theorem dX11_leads_61 : decode cX11_leads 61 = .ok (.getfield 212, 3) := by decide +kernel
theorem dX11_leads_64 : decode cX11_leads 64 = .ok (.iconst 1, 1) := by decide +kernel
theorem dX11_leads_65 : decode cX11_leads 65 = .ok (.isub, 1) := by decide +kernel
theorem dX11_leads_66 : decode cX11_leads 66 = .ok (.invokevirtual 242, 3) := by decide +kernel
theorem dX11_leads_69 : decode cX11_leads 69 = .ok (.iconst 0, 1) := by decide +kernel
theorem dX11_leads_70 : decode cX11_leads 70 = .ok (.invokevirtual 248, 3) := by decide +kernel
theorem dX11_leads_73 : decode cX11_leads 73 = .ok (.istore 4, 2) := by decide +kernel
theorem dX11_leads_75 : decode cX11_leads 75 = .ok (.iload 4, 2) := by decide +kernel
theorem dX11_leads_77 : decode cX11_leads 77 = .ok (.iconst (-1), 1) := by decide +kernel
theorem dX11_leads_78 : decode cX11_leads 78 = .ok (.if_icmp .ne 5, 3) := by decide +kernel
theorem dX11_leads_81 : decode cX11_leads 81 = .ok (.iload_n 1, 1) := by decide +kernel
theorem dX11_leads_82 : decode cX11_leads 82 = .ok (.ireturn, 1) := by decide +kernel
theorem dX11_leads_83 : decode cX11_leads 83 = .ok (.iload 4, 2) := by decide +kernel
theorem dX11_leads_85 : decode cX11_leads 85 = .ok (.iload_n 2, 1) := by decide +kernel
theorem dX11_leads_86 : decode cX11_leads 86 = .ok (.if_icmp .eq 6, 3) := by decide +kernel
theorem dX11_leads_89 : decode cX11_leads 89 = .ok (.iinc 1 1, 3) := by decide +kernel
theorem dX11_leads_92 : decode cX11_leads 92 = .ok (.iload 4, 2) := by decide +kernel
theorem dX11_leads_94 : decode cX11_leads 94 = .ok (.istore_n 2, 1) := by decide +kernel
theorem dX11_leads_95 : decode cX11_leads 95 = .ok (.iinc 3 1, 3) := by decide +kernel
theorem dX11_leads_98 : decode cX11_leads 98 = .ok (.goto (-61), 3) := by decide +kernel
theorem dX11_leads_101 : decode cX11_leads 101 = .ok (.iload_n 1, 1) := by decide +kernel
theorem dX11_leads_102 : decode cX11_leads 102 = .ok (.ireturn, 1) := by decide +kernel
theorem dX11_sign_0 : decode cX11_sign 0 = .ok (.aload_n 0, 1) := by decide +kernel
theorem dX11_sign_1 : decode cX11_sign 1 = .ok (.getfield 218, 3) := by decide +kernel
theorem dX11_sign_4 : decode cX11_sign 4 = .ok (.iconst 4, 1) := by decide +kernel
theorem dX11_sign_5 : decode cX11_sign 5 = .ok (.iadd, 1) := by decide +kernel
theorem dX11_sign_6 : decode cX11_sign 6 = .ok (.bipush 100, 2) := by decide +kernel
theorem dX11_sign_8 : decode cX11_sign 8 = .ok (.if_icmp .le 5, 3) := by decide +kernel
theorem dX11_sign_11 : decode cX11_sign 11 = .ok (.iconst (-1), 1) := by decide +kernel
theorem dX11_sign_12 : decode cX11_sign 12 = .ok (.ireturn, 1) := by decide +kernel
theorem dX11_sign_13 : decode cX11_sign 13 = .ok (.bipush 24, 2) := by decide +kernel
theorem dX11_sign_15 : decode cX11_sign 15 = .ok (.istore_n 2, 1) := by decide +kernel
theorem dX11_sign_16 : decode cX11_sign 16 = .ok (.iload_n 2, 1) := by decide +kernel
theorem dX11_sign_17 : decode cX11_sign 17 = .ok (.ifCond .lt 35, 3) := by decide +kernel
theorem dX11_sign_20 : decode cX11_sign 20 = .ok (.aload_n 0, 1) := by decide +kernel
theorem dX11_sign_21 : decode cX11_sign 21 = .ok (.getfield 62, 3) := by decide +kernel
theorem dX11_sign_24 : decode cX11_sign 24 = .ok (.aload_n 0, 1) := by decide +kernel
theorem dX11_sign_25 : decode cX11_sign 25 = .ok (.getfield 218, 3) := by decide +kernel
theorem dX11_sign_28 : decode cX11_sign 28 = .ok (.iload_n 1, 1) := by decide +kernel
theorem dX11_sign_29 : decode cX11_sign 29 = .ok (.iload_n 2, 1) := by decide +kernel
theorem dX11_sign_30 : decode cX11_sign 30 = .ok (.iushr, 1) := by decide +kernel
theorem dX11_sign_31 : decode cX11_sign 31 = .ok (.sipush 255, 3) := by decide +kernel
theorem dX11_sign_34 : decode cX11_sign 34 = .ok (.iand, 1) := by decide +kernel
theorem dX11_sign_35 : decode cX11_sign 35 = .ok (.iastore, 1) := by decide +kernel
theorem dX11_sign_36 : decode cX11_sign 36 = .ok (.aload_n 0, 1) := by decide +kernel
theorem dX11_sign_37 : decode cX11_sign 37 = .ok (.dup, 1) := by decide +kernel
theorem dX11_sign_38 : decode cX11_sign 38 = .ok (.getfield 218, 3) := by decide +kernel
theorem dX11_sign_41 : decode cX11_sign 41 = .ok (.iconst 1, 1) := by decide +kernel
theorem dX11_sign_42 : decode cX11_sign 42 = .ok (.iadd, 1) := by decide +kernel
theorem dX11_sign_43 : decode cX11_sign 43 = .ok (.putfield 218, 3) := by decide +kernel
theorem dX11_sign_46 : decode cX11_sign 46 = .ok (.iinc 2 (-8), 3) := by decide +kernel
theorem dX11_sign_49 : decode cX11_sign 49 = .ok (.goto (-33), 3) := by decide +kernel
theorem dX11_sign_52 : decode cX11_sign 52 = .ok (.aload_n 0, 1) := by decide +kernel
theorem dX11_sign_53 : decode cX11_sign 53 = .ok (.getfield 218, 3) := by decide +kernel
theorem dX11_sign_56 : decode cX11_sign 56 = .ok (.ireturn, 1) := by decide +kernel
theorem dX11_end_0 : decode cX11_end 0 = .ok (.iload_n 1, 1) := by decide +kernel
theorem dX11_end_1 : decode cX11_end 1 = .ok (.ifCond .lt 11, 3) := by decide +kernel
theorem dX11_end_4 : decode cX11_end 4 = .ok (.iload_n 1, 1) := by decide +kernel
theorem dX11_end_5 : decode cX11_end 5 = .ok (.aload_n 0, 1) := by decide +kernel
theorem dX11_end_6 : decode cX11_end 6 = .ok (.getfield 218, 3) := by decide +kernel
theorem dX11_end_9 : decode cX11_end 9 = .ok (.if_icmp .le 5, 3) := by decide +kernel
theorem dX11_end_12 : decode cX11_end 12 = .ok (.iconst 0, 1) := by decide +kernel
theorem dX11_end_13 : decode cX11_end 13 = .ok (.ireturn, 1) := by decide +kernel
theorem dX11_end_14 : decode cX11_end 14 = .ok (.aload_n 0, 1) := by decide +kernel
theorem dX11_end_15 : decode cX11_end 15 = .ok (.iload_n 1, 1) := by decide +kernel
theorem dX11_end_16 : decode cX11_end 16 = .ok (.putfield 218, 3) := by decide +kernel
theorem dX11_end_19 : decode cX11_end 19 = .ok (.iconst 1, 1) := by decide +kernel
theorem dX11_end_20 : decode cX11_end 20 = .ok (.ireturn, 1) := by decide +kernel
theorem dX11_rule_0 : decode cX11_rule 0 = .ok (.aload_n 0, 1) := by decide +kernel
theorem dX11_rule_1 : decode cX11_rule 1 = .ok (.invokevirtual 198, 3) := by decide +kernel
theorem dX11_rule_4 : decode cX11_rule 4 = .ok (.istore_n 2, 1) := by decide +kernel
theorem dX11_rule_5 : decode cX11_rule 5 = .ok (.iload_n 1, 1) := by decide +kernel
theorem dX11_rule_6 : decode cX11_rule 6 = .ok (.invokestatic 254, 3) := by decide +kernel
theorem dX11_rule_9 : decode cX11_rule 9 = .ok (.ifCond .eq 18, 3) := by decide +kernel
theorem dX11_rule_12 : decode cX11_rule 12 = .ok (.aload_n 0, 1) := by decide +kernel
theorem dX11_rule_13 : decode cX11_rule 13 = .ok (.getfield 33, 3) := by decide +kernel
theorem dX11_rule_16 : decode cX11_rule 16 = .ok (.getfield 88, 3) := by decide +kernel
theorem dX11_rule_19 : decode cX11_rule 19 = .ok (.bipush 10, 2) := by decide +kernel
theorem dX11_rule_21 : decode cX11_rule 21 = .ok (.invokestatic 115, 3) := by decide +kernel
theorem dX11_rule_24 : decode cX11_rule 24 = .ok (.ifCond .ne 6, 3) := by decide +kernel
theorem dX11_rule_27 : decode cX11_rule 27 = .ok (.bipush (-100), 2) := by decide +kernel
theorem dX11_rule_29 : decode cX11_rule 29 = .ok (.ireturn, 1) := by decide +kernel
theorem dX11_rule_30 : decode cX11_rule 30 = .ok (.aload_n 0, 1) := by decide +kernel
theorem dX11_rule_31 : decode cX11_rule 31 = .ok (.getfield 58, 3) := by decide +kernel
theorem dX11_rule_34 : decode cX11_rule 34 = .ok (.aload_n 0, 1) := by decide +kernel
theorem dX11_rule_35 : decode cX11_rule 35 = .ok (.getfield 62, 3) := by decide +kernel
theorem dX11_rule_38 : decode cX11_rule 38 = .ok (.iload_n 2, 1) := by decide +kernel
theorem dX11_rule_39 : decode cX11_rule 39 = .ok (.aload_n 0, 1) := by decide +kernel
theorem dX11_rule_40 : decode cX11_rule 40 = .ok (.getfield 72, 3) := by decide +kernel
theorem dX11_rule_43 : decode cX11_rule 43 = .ok (.iconst 0, 1) := by decide +kernel
theorem dX11_rule_44 : decode cX11_rule 44 = .ok (.invokevirtual 202, 3) := by decide +kernel
theorem dX11_rule_47 : decode cX11_rule 47 = .ok (.istore_n 3, 1) := by decide +kernel
theorem dX11_rule_48 : decode cX11_rule 48 = .ok (.iload_n 3, 1) := by decide +kernel
theorem dX11_rule_49 : decode cX11_rule 49 = .ok (.iconst (-1), 1) := by decide +kernel
theorem dX11_rule_50 : decode cX11_rule 50 = .ok (.if_icmp .eq 7, 3) := by decide +kernel
theorem dX11_rule_53 : decode cX11_rule 53 = .ok (.iconst (-1), 1) := by decide +kernel
theorem dX11_rule_54 : decode cX11_rule 54 = .ok (.iload_n 3, 1) := by decide +kernel
theorem dX11_rule_55 : decode cX11_rule 55 = .ok (.isub, 1) := by decide +kernel
theorem dX11_rule_56 : decode cX11_rule 56 = .ok (.ireturn, 1) := by decide +kernel
theorem dX11_rule_57 : decode cX11_rule 57 = .ok (.aload_n 0, 1) := by decide +kernel
theorem dX11_rule_58 : decode cX11_rule 58 = .ok (.aload_n 0, 1) := by decide +kernel
theorem dX11_rule_59 : decode cX11_rule 59 = .ok (.getfield 33, 3) := by decide +kernel
theorem dX11_rule_62 : decode cX11_rule 62 = .ok (.aload_n 0, 1) := by decide +kernel
theorem dX11_rule_63 : decode cX11_rule 63 = .ok (.getfield 72, 3) := by decide +kernel
theorem dX11_rule_66 : decode cX11_rule 66 = .ok (.iload_n 1, 1) := by decide +kernel
theorem dX11_rule_67 : decode cX11_rule 67 = .ok (.invokevirtual 257, 3) := by decide +kernel
theorem dX11_rule_70 : decode cX11_rule 70 = .ok (.putfield 72, 3) := by decide +kernel
theorem dX11_rule_73 : decode cX11_rule 73 = .ok (.aload_n 0, 1) := by decide +kernel
theorem dX11_rule_74 : decode cX11_rule 74 = .ok (.getfield 33, 3) := by decide +kernel
theorem dX11_rule_77 : decode cX11_rule 77 = .ok (.getfield 88, 3) := by decide +kernel
theorem dX11_rule_80 : decode cX11_rule 80 = .ok (.ireturn, 1) := by decide +kernel
theorem dX11_finding_0 : decode cX11_finding 0 = .ok (.iload_n 1, 1) := by decide +kernel
theorem dX11_finding_1 : decode cX11_finding 1 = .ok (.invokestatic 254, 3) := by decide +kernel
theorem dX11_finding_4 : decode cX11_finding 4 = .ok (.ifCond .eq 23, 3) := by decide +kernel
theorem dX11_finding_7 : decode cX11_finding 7 = .ok (.aload_n 0, 1) := by decide +kernel
theorem dX11_finding_8 : decode cX11_finding 8 = .ok (.getfield 24, 3) := by decide +kernel
theorem dX11_finding_11 : decode cX11_finding 11 = .ok (.iload_n 2, 1) := by decide +kernel
theorem dX11_finding_12 : decode cX11_finding 12 = .ok (.invokevirtual 175, 3) := by decide +kernel
theorem dX11_finding_15 : decode cX11_finding 15 = .ok (.ifCond .eq 12, 3) := by decide +kernel
theorem dX11_finding_18 : decode cX11_finding 18 = .ok (.iload_n 3, 1) := by decide +kernel
theorem dX11_finding_19 : decode cX11_finding 19 = .ok (.iconst 0, 1) := by decide +kernel
theorem dX11_finding_20 : decode cX11_finding 20 = .ok (.iconst 1, 1) := by decide +kernel
theorem dX11_finding_21 : decode cX11_finding 21 = .ok (.invokestatic 105, 3) := by decide +kernel
theorem dX11_finding_24 : decode cX11_finding 24 = .ok (.ifCond .ne 5, 3) := by decide +kernel
theorem dX11_finding_27 : decode cX11_finding 27 = .ok (.iconst (-1), 1) := by decide +kernel
theorem dX11_finding_28 : decode cX11_finding 28 = .ok (.ireturn, 1) := by decide +kernel
theorem dX11_finding_29 : decode cX11_finding 29 = .ok (.iload_n 3, 1) := by decide +kernel
theorem dX11_finding_30 : decode cX11_finding 30 = .ok (.ifCond .ne 15, 3) := by decide +kernel
theorem dX11_finding_33 : decode cX11_finding 33 = .ok (.iload 4, 2) := by decide +kernel
theorem dX11_finding_35 : decode cX11_finding 35 = .ok (.iconst 0, 1) := by decide +kernel
theorem dX11_finding_36 : decode cX11_finding 36 = .ok (.sipush 999, 3) := by decide +kernel
theorem dX11_finding_39 : decode cX11_finding 39 = .ok (.invokestatic 105, 3) := by decide +kernel
theorem dX11_finding_42 : decode cX11_finding 42 = .ok (.goto 13, 3) := by decide +kernel
theorem dX11_finding_45 : decode cX11_finding 45 = .ok (.iload 4, 2) := by decide +kernel
theorem dX11_finding_47 : decode cX11_finding 47 = .ok (.ldc_w 261, 3) := by decide +kernel
theorem dX11_finding_50 : decode cX11_finding 50 = .ok (.ldc 104, 2) := by decide +kernel
theorem dX11_finding_52 : decode cX11_finding 52 = .ok (.invokestatic 105, 3) := by decide +kernel
theorem dX11_finding_55 : decode cX11_finding 55 = .ok (.istore 5, 2) := by decide +kernel
theorem dX11_finding_57 : decode cX11_finding 57 = .ok (.iload 5, 2) := by decide +kernel
theorem dX11_finding_59 : decode cX11_finding 59 = .ok (.ifCond .ne 5, 3) := by decide +kernel
theorem dX11_finding_62 : decode cX11_finding 62 = .ok (.iconst (-1), 1) := by decide +kernel
theorem dX11_finding_63 : decode cX11_finding 63 = .ok (.ireturn, 1) := by decide +kernel
theorem dX11_finding_64 : decode cX11_finding 64 = .ok (.aload_n 0, 1) := by decide +kernel
theorem dX11_finding_65 : decode cX11_finding 65 = .ok (.getfield 33, 3) := by decide +kernel
theorem dX11_finding_68 : decode cX11_finding 68 = .ok (.getfield 91, 3) := by decide +kernel
theorem dX11_finding_71 : decode cX11_finding 71 = .ok (.iload_n 1, 1) := by decide +kernel
theorem dX11_finding_72 : decode cX11_finding 72 = .ok (.iload_n 2, 1) := by decide +kernel
theorem dX11_finding_73 : decode cX11_finding 73 = .ok (.iload_n 3, 1) := by decide +kernel
theorem dX11_finding_74 : decode cX11_finding 74 = .ok (.iload 4, 2) := by decide +kernel
theorem dX11_finding_76 : decode cX11_finding 76 = .ok (.invokevirtual 141, 3) := by decide +kernel
theorem dX11_finding_79 : decode cX11_finding 79 = .ok (.ireturn, 1) := by decide +kernel
theorem dX11_seconds_0 : decode cX11_seconds 0 = .ok (.aload_n 0, 1) := by decide +kernel
theorem dX11_seconds_1 : decode cX11_seconds 1 = .ok (.getfield 24, 3) := by decide +kernel
theorem dX11_seconds_4 : decode cX11_seconds 4 = .ok (.iload_n 1, 1) := by decide +kernel
theorem dX11_seconds_5 : decode cX11_seconds 5 = .ok (.invokevirtual 175, 3) := by decide +kernel
theorem dX11_seconds_8 : decode cX11_seconds 8 = .ok (.ifCond .eq 10, 3) := by decide +kernel
theorem dX11_seconds_11 : decode cX11_seconds 11 = .ok (.iload_n 2, 1) := by decide +kernel
theorem dX11_seconds_12 : decode cX11_seconds 12 = .ok (.invokestatic 254, 3) := by decide +kernel
theorem dX11_seconds_15 : decode cX11_seconds 15 = .ok (.ifCond .ne 5, 3) := by decide +kernel
theorem dX11_seconds_18 : decode cX11_seconds 18 = .ok (.iconst (-1), 1) := by decide +kernel
theorem dX11_seconds_19 : decode cX11_seconds 19 = .ok (.ireturn, 1) := by decide +kernel
theorem dX11_seconds_20 : decode cX11_seconds 20 = .ok (.aload_n 0, 1) := by decide +kernel
theorem dX11_seconds_21 : decode cX11_seconds 21 = .ok (.getfield 24, 3) := by decide +kernel
theorem dX11_seconds_24 : decode cX11_seconds 24 = .ok (.invokevirtual 227, 3) := by decide +kernel
theorem dX11_seconds_27 : decode cX11_seconds 27 = .ok (.aload_n 0, 1) := by decide +kernel
theorem dX11_seconds_28 : decode cX11_seconds 28 = .ok (.getfield 33, 3) := by decide +kernel
theorem dX11_seconds_31 : decode cX11_seconds 31 = .ok (.aload_n 0, 1) := by decide +kernel
theorem dX11_seconds_32 : decode cX11_seconds 32 = .ok (.getfield 24, 3) := by decide +kernel
theorem dX11_seconds_35 : decode cX11_seconds 35 = .ok (.getfield 148, 3) := by decide +kernel
theorem dX11_seconds_38 : decode cX11_seconds 38 = .ok (.iload_n 1, 1) := by decide +kernel
theorem dX11_seconds_39 : decode cX11_seconds 39 = .ok (.aaload, 1) := by decide +kernel
theorem dX11_seconds_40 : decode cX11_seconds 40 = .ok (.aload_n 0, 1) := by decide +kernel
theorem dX11_seconds_41 : decode cX11_seconds 41 = .ok (.getfield 24, 3) := by decide +kernel
theorem dX11_seconds_44 : decode cX11_seconds 44 = .ok (.getfield 230, 3) := by decide +kernel
theorem dX11_seconds_47 : decode cX11_seconds 47 = .ok (.iload_n 1, 1) := by decide +kernel
theorem dX11_seconds_48 : decode cX11_seconds 48 = .ok (.aaload, 1) := by decide +kernel
theorem dX11_seconds_49 : decode cX11_seconds 49 = .ok (.aload_n 0, 1) := by decide +kernel
theorem dX11_seconds_50 : decode cX11_seconds 50 = .ok (.getfield 24, 3) := by decide +kernel
theorem dX11_seconds_53 : decode cX11_seconds 53 = .ok (.iload_n 1, 1) := by decide +kernel
theorem dX11_seconds_54 : decode cX11_seconds 54 = .ok (.invokevirtual 262, 3) := by decide +kernel
theorem dX11_seconds_57 : decode cX11_seconds 57 = .ok (.aload_n 0, 1) := by decide +kernel
theorem dX11_seconds_58 : decode cX11_seconds 58 = .ok (.getfield 33, 3) := by decide +kernel
theorem dX11_seconds_61 : decode cX11_seconds 61 = .ok (.iload_n 1, 1) := by decide +kernel
theorem dX11_seconds_62 : decode cX11_seconds 62 = .ok (.iload_n 2, 1) := by decide +kernel
theorem dX11_seconds_63 : decode cX11_seconds 63 = .ok (.invokevirtual 265, 3) := by decide +kernel
theorem dX11_seconds_66 : decode cX11_seconds 66 = .ok (.iload_n 2, 1) := by decide +kernel
theorem dX11_seconds_67 : decode cX11_seconds 67 = .ok (.invokevirtual 268, 3) := by decide +kernel
theorem dX11_seconds_70 : decode cX11_seconds 70 = .ok (.ireturn, 1) := by decide +kernel
theorem dX11_place_0 : decode cX11_place 0 = .ok (.aload_n 0, 1) := by decide +kernel
theorem dX11_place_1 : decode cX11_place 1 = .ok (.getfield 24, 3) := by decide +kernel
theorem dX11_place_4 : decode cX11_place 4 = .ok (.iload_n 1, 1) := by decide +kernel
theorem dX11_place_5 : decode cX11_place 5 = .ok (.invokevirtual 175, 3) := by decide +kernel
theorem dX11_place_8 : decode cX11_place 8 = .ok (.ifCond .eq 10, 3) := by decide +kernel
theorem dX11_place_11 : decode cX11_place 11 = .ok (.iload_n 2, 1) := by decide +kernel
theorem dX11_place_12 : decode cX11_place 12 = .ok (.invokestatic 254, 3) := by decide +kernel
theorem dX11_place_15 : decode cX11_place 15 = .ok (.ifCond .ne 5, 3) := by decide +kernel
theorem dX11_place_18 : decode cX11_place 18 = .ok (.iconst (-1), 1) := by decide +kernel
theorem dX11_place_19 : decode cX11_place 19 = .ok (.ireturn, 1) := by decide +kernel
theorem dX11_place_20 : decode cX11_place 20 = .ok (.aload_n 0, 1) := by decide +kernel
theorem dX11_place_21 : decode cX11_place 21 = .ok (.getfield 24, 3) := by decide +kernel
theorem dX11_place_24 : decode cX11_place 24 = .ok (.invokevirtual 227, 3) := by decide +kernel
theorem dX11_place_27 : decode cX11_place 27 = .ok (.aload_n 0, 1) := by decide +kernel
theorem dX11_place_28 : decode cX11_place 28 = .ok (.getfield 42, 3) := by decide +kernel
theorem dX11_place_31 : decode cX11_place 31 = .ok (.iload_n 2, 1) := by decide +kernel
theorem dX11_place_32 : decode cX11_place 32 = .ok (.invokevirtual 272, 3) := by decide +kernel
theorem dX11_place_35 : decode cX11_place 35 = .ok (.aload_n 0, 1) := by decide +kernel
theorem dX11_place_36 : decode cX11_place 36 = .ok (.getfield 42, 3) := by decide +kernel
theorem dX11_place_39 : decode cX11_place 39 = .ok (.iload_n 1, 1) := by decide +kernel
theorem dX11_place_40 : decode cX11_place 40 = .ok (.iconst (-1), 1) := by decide +kernel
theorem dX11_place_41 : decode cX11_place 41 = .ok (.invokevirtual 276, 3) := by decide +kernel
theorem dX11_place_44 : decode cX11_place 44 = .ok (.ireturn, 1) := by decide +kernel
theorem dX11_sum_0 : decode cX11_sum 0 = .ok (.aload_n 0, 1) := by decide +kernel
theorem dX11_sum_1 : decode cX11_sum 1 = .ok (.getfield 24, 3) := by decide +kernel
theorem dX11_sum_4 : decode cX11_sum 4 = .ok (.iload_n 1, 1) := by decide +kernel
theorem dX11_sum_5 : decode cX11_sum 5 = .ok (.invokevirtual 175, 3) := by decide +kernel
theorem dX11_sum_8 : decode cX11_sum 8 = .ok (.ifCond .eq 10, 3) := by decide +kernel
theorem dX11_sum_11 : decode cX11_sum 11 = .ok (.iload_n 2, 1) := by decide +kernel
theorem dX11_sum_12 : decode cX11_sum 12 = .ok (.invokestatic 254, 3) := by decide +kernel
theorem dX11_sum_15 : decode cX11_sum 15 = .ok (.ifCond .ne 11, 3) := by decide +kernel
theorem dX11_sum_18 : decode cX11_sum 18 = .ok (.new 224, 3) := by decide +kernel
theorem dX11_sum_21 : decode cX11_sum 21 = .ok (.dup, 1) := by decide +kernel
theorem dX11_sum_22 : decode cX11_sum 22 = .ok (.invokespecial 226, 3) := by decide +kernel
theorem dX11_sum_25 : decode cX11_sum 25 = .ok (.athrow, 1) := by decide +kernel
theorem dX11_sum_26 : decode cX11_sum 26 = .ok (.aload_n 0, 1) := by decide +kernel
theorem dX11_sum_27 : decode cX11_sum 27 = .ok (.getfield 24, 3) := by decide +kernel
theorem dX11_sum_30 : decode cX11_sum 30 = .ok (.invokevirtual 227, 3) := by decide +kernel
theorem dX11_sum_33 : decode cX11_sum 33 = .ok (.aload_n 0, 1) := by decide +kernel
theorem dX11_sum_34 : decode cX11_sum 34 = .ok (.getfield 42, 3) := by decide +kernel
theorem dX11_sum_37 : decode cX11_sum 37 = .ok (.iload_n 2, 1) := by decide +kernel
theorem dX11_sum_38 : decode cX11_sum 38 = .ok (.invokevirtual 272, 3) := by decide +kernel
theorem dX11_sum_41 : decode cX11_sum 41 = .ok (.aload_n 0, 1) := by decide +kernel
theorem dX11_sum_42 : decode cX11_sum 42 = .ok (.getfield 42, 3) := by decide +kernel
theorem dX11_sum_45 : decode cX11_sum 45 = .ok (.getfield 279, 3) := by decide +kernel
theorem dX11_sum_48 : decode cX11_sum 48 = .ok (.iload_n 1, 1) := by decide +kernel
theorem dX11_sum_49 : decode cX11_sum 49 = .ok (.baload, 1) := by decide +kernel
theorem dX11_sum_50 : decode cX11_sum 50 = .ok (.ifCond .ne 11, 3) := by decide +kernel
theorem dX11_sum_53 : decode cX11_sum 53 = .ok (.new 224, 3) := by decide +kernel
theorem dX11_sum_56 : decode cX11_sum 56 = .ok (.dup, 1) := by decide +kernel
theorem dX11_sum_57 : decode cX11_sum 57 = .ok (.invokespecial 226, 3) := by decide +kernel
theorem dX11_sum_60 : decode cX11_sum 60 = .ok (.athrow, 1) := by decide +kernel
theorem dX11_sum_61 : decode cX11_sum 61 = .ok (.aload_n 0, 1) := by decide +kernel
theorem dX11_sum_62 : decode cX11_sum 62 = .ok (.getfield 42, 3) := by decide +kernel
theorem dX11_sum_65 : decode cX11_sum 65 = .ok (.getfield 283, 3) := by decide +kernel
theorem dX11_sum_68 : decode cX11_sum 68 = .ok (.iload_n 1, 1) := by decide +kernel
theorem dX11_sum_69 : decode cX11_sum 69 = .ok (.iaload, 1) := by decide +kernel
theorem dX11_sum_70 : decode cX11_sum 70 = .ok (.ireturn, 1) := by decide +kernel
theorem dX11_within_0 : decode cX11_within 0 = .ok (.aload_n 0, 1) := by decide +kernel
theorem dX11_within_1 : decode cX11_within 1 = .ok (.getfield 24, 3) := by decide +kernel
theorem dX11_within_4 : decode cX11_within 4 = .ok (.iload_n 1, 1) := by decide +kernel
theorem dX11_within_5 : decode cX11_within 5 = .ok (.invokevirtual 175, 3) := by decide +kernel
theorem dX11_within_8 : decode cX11_within 8 = .ok (.ifCond .eq 10, 3) := by decide +kernel
theorem dX11_within_11 : decode cX11_within 11 = .ok (.iload_n 2, 1) := by decide +kernel
theorem dX11_within_12 : decode cX11_within 12 = .ok (.invokestatic 254, 3) := by decide +kernel
theorem dX11_within_15 : decode cX11_within 15 = .ok (.ifCond .ne 5, 3) := by decide +kernel
theorem dX11_within_18 : decode cX11_within 18 = .ok (.iconst (-1), 1) := by decide +kernel
theorem dX11_within_19 : decode cX11_within 19 = .ok (.ireturn, 1) := by decide +kernel
theorem dX11_within_20 : decode cX11_within 20 = .ok (.aload_n 0, 1) := by decide +kernel
theorem dX11_within_21 : decode cX11_within 21 = .ok (.getfield 24, 3) := by decide +kernel
theorem dX11_within_24 : decode cX11_within 24 = .ok (.invokevirtual 227, 3) := by decide +kernel
theorem dX11_within_27 : decode cX11_within 27 = .ok (.aload_n 0, 1) := by decide +kernel
theorem dX11_within_28 : decode cX11_within 28 = .ok (.getfield 42, 3) := by decide +kernel
theorem dX11_within_31 : decode cX11_within 31 = .ok (.iload_n 2, 1) := by decide +kernel
theorem dX11_within_32 : decode cX11_within 32 = .ok (.invokevirtual 272, 3) := by decide +kernel
theorem dX11_within_35 : decode cX11_within 35 = .ok (.aload_n 0, 1) := by decide +kernel
theorem dX11_within_36 : decode cX11_within 36 = .ok (.getfield 42, 3) := by decide +kernel
theorem dX11_within_39 : decode cX11_within 39 = .ok (.iload_n 1, 1) := by decide +kernel
theorem dX11_within_40 : decode cX11_within 40 = .ok (.aload_n 0, 1) := by decide +kernel
theorem dX11_within_41 : decode cX11_within 41 = .ok (.getfield 24, 3) := by decide +kernel
theorem dX11_within_44 : decode cX11_within 44 = .ok (.getfield 148, 3) := by decide +kernel
theorem dX11_within_47 : decode cX11_within 47 = .ok (.iload_n 1, 1) := by decide +kernel
theorem dX11_within_48 : decode cX11_within 48 = .ok (.aaload, 1) := by decide +kernel
theorem dX11_within_49 : decode cX11_within 49 = .ok (.getfield 169, 3) := by decide +kernel
theorem dX11_within_52 : decode cX11_within 52 = .ok (.invokevirtual 276, 3) := by decide +kernel
theorem dX11_within_55 : decode cX11_within 55 = .ok (.ireturn, 1) := by decide +kernel
theorem dX11_result_0 : decode cX11_result 0 = .ok (.iload_n 1, 1) := by decide +kernel
theorem dX11_result_1 : decode cX11_result 1 = .ok (.invokestatic 254, 3) := by decide +kernel
theorem dX11_result_4 : decode cX11_result 4 = .ok (.ifCond .ne 5, 3) := by decide +kernel
theorem dX11_result_7 : decode cX11_result 7 = .ok (.iconst (-1), 1) := by decide +kernel
theorem dX11_result_8 : decode cX11_result 8 = .ok (.ireturn, 1) := by decide +kernel
theorem dX11_result_9 : decode cX11_result 9 = .ok (.aload_n 0, 1) := by decide +kernel
theorem dX11_result_10 : decode cX11_result 10 = .ok (.getfield 24, 3) := by decide +kernel
theorem dX11_result_13 : decode cX11_result 13 = .ok (.invokevirtual 227, 3) := by decide +kernel
theorem dX11_result_16 : decode cX11_result 16 = .ok (.aload_n 0, 1) := by decide +kernel
theorem dX11_result_17 : decode cX11_result 17 = .ok (.getfield 42, 3) := by decide +kernel
theorem dX11_result_20 : decode cX11_result 20 = .ok (.iload_n 1, 1) := by decide +kernel
theorem dX11_result_21 : decode cX11_result 21 = .ok (.invokevirtual 272, 3) := by decide +kernel
theorem dX11_result_24 : decode cX11_result 24 = .ok (.iconst 0, 1) := by decide +kernel
theorem dX11_result_25 : decode cX11_result 25 = .ok (.istore_n 2, 1) := by decide +kernel
theorem dX11_result_26 : decode cX11_result 26 = .ok (.iconst 0, 1) := by decide +kernel
theorem dX11_result_27 : decode cX11_result 27 = .ok (.istore_n 3, 1) := by decide +kernel
theorem dX11_result_28 : decode cX11_result 28 = .ok (.iload_n 3, 1) := by decide +kernel
theorem dX11_result_29 : decode cX11_result 29 = .ok (.aload_n 0, 1) := by decide +kernel
theorem dX11_result_30 : decode cX11_result 30 = .ok (.getfield 24, 3) := by decide +kernel
theorem dX11_result_33 : decode cX11_result 33 = .ok (.getfield 80, 3) := by decide +kernel
theorem dX11_result_36 : decode cX11_result 36 = .ok (.if_icmp .ge 47, 3) := by decide +kernel
theorem dX11_result_39 : decode cX11_result 39 = .ok (.iload_n 3, 1) := by decide +kernel
theorem dX11_result_40 : decode cX11_result 40 = .ok (.bipush 6, 2) := by decide +kernel
theorem dX11_result_42 : decode cX11_result 42 = .ok (.if_icmp .ge 41, 3) := by decide +kernel
theorem dX11_result_45 : decode cX11_result 45 = .ok (.aload_n 0, 1) := by decide +kernel
theorem dX11_result_46 : decode cX11_result 46 = .ok (.getfield 42, 3) := by decide +kernel
theorem dX11_result_49 : decode cX11_result 49 = .ok (.iload_n 3, 1) := by decide +kernel
theorem dX11_result_50 : decode cX11_result 50 = .ok (.iconst (-1), 1) := by decide +kernel
theorem dX11_result_51 : decode cX11_result 51 = .ok (.invokevirtual 276, 3) := by decide +kernel
theorem dX11_result_54 : decode cX11_result 54 = .ok (.istore 4, 2) := by decide +kernel
theorem dX11_result_56 : decode cX11_result 56 = .ok (.iload 4, 2) := by decide +kernel
theorem dX11_result_58 : decode cX11_result 58 = .ok (.bipush 6, 2) := by decide +kernel
theorem dX11_result_60 : decode cX11_result 60 = .ok (.invokestatic 115, 3) := by decide +kernel
theorem dX11_result_63 : decode cX11_result 63 = .ok (.ifCond .eq 14, 3) := by decide +kernel
theorem dX11_result_66 : decode cX11_result 66 = .ok (.aload_n 0, 1) := by decide +kernel
theorem dX11_result_67 : decode cX11_result 67 = .ok (.getfield 66, 3) := by decide +kernel
theorem dX11_result_70 : decode cX11_result 70 = .ok (.iload 4, 2) := by decide +kernel
theorem dX11_result_72 : decode cX11_result 72 = .ok (.iload_n 3, 1) := by decide +kernel
theorem dX11_result_73 : decode cX11_result 73 = .ok (.iastore, 1) := by decide +kernel
theorem dX11_result_74 : decode cX11_result 74 = .ok (.iinc 2 1, 3) := by decide +kernel
theorem dX11_result_77 : decode cX11_result 77 = .ok (.iinc 3 1, 3) := by decide +kernel
theorem dX11_result_80 : decode cX11_result 80 = .ok (.goto (-52), 3) := by decide +kernel
theorem dX11_result_83 : decode cX11_result 83 = .ok (.aload_n 0, 1) := by decide +kernel
theorem dX11_result_84 : decode cX11_result 84 = .ok (.iload_n 2, 1) := by decide +kernel
theorem dX11_result_85 : decode cX11_result 85 = .ok (.putfield 215, 3) := by decide +kernel
theorem dX11_result_88 : decode cX11_result 88 = .ok (.iload_n 2, 1) := by decide +kernel
theorem dX11_result_89 : decode cX11_result 89 = .ok (.ireturn, 1) := by decide +kernel
theorem dX11_move_0 : decode cX11_move 0 = .ok (.aload_n 0, 1) := by decide +kernel
theorem dX11_move_1 : decode cX11_move 1 = .ok (.getfield 24, 3) := by decide +kernel
theorem dX11_move_4 : decode cX11_move 4 = .ok (.iload_n 1, 1) := by decide +kernel
theorem dX11_move_5 : decode cX11_move 5 = .ok (.invokevirtual 175, 3) := by decide +kernel
theorem dX11_move_8 : decode cX11_move 8 = .ok (.ifCond .eq 25, 3) := by decide +kernel
theorem dX11_move_11 : decode cX11_move 11 = .ok (.iload_n 2, 1) := by decide +kernel
theorem dX11_move_12 : decode cX11_move 12 = .ok (.aload_n 0, 1) := by decide +kernel
theorem dX11_move_13 : decode cX11_move 13 = .ok (.getfield 24, 3) := by decide +kernel
theorem dX11_move_16 : decode cX11_move 16 = .ok (.getfield 148, 3) := by decide +kernel
theorem dX11_move_19 : decode cX11_move 19 = .ok (.iload_n 1, 1) := by decide +kernel
theorem dX11_move_20 : decode cX11_move 20 = .ok (.aaload, 1) := by decide +kernel
theorem dX11_move_21 : decode cX11_move 21 = .ok (.getfield 191, 3) := by decide +kernel
theorem dX11_move_24 : decode cX11_move 24 = .ok (.getfield 95, 3) := by decide +kernel
theorem dX11_move_27 : decode cX11_move 27 = .ok (.invokestatic 115, 3) := by decide +kernel
theorem dX11_move_30 : decode cX11_move 30 = .ok (.ifCond .ne 5, 3) := by decide +kernel
theorem dX11_move_33 : decode cX11_move 33 = .ok (.iconst (-1), 1) := by decide +kernel
theorem dX11_move_34 : decode cX11_move 34 = .ok (.ireturn, 1) := by decide +kernel
theorem dX11_move_35 : decode cX11_move 35 = .ok (.iload_n 3, 1) := by decide +kernel
theorem dX11_move_36 : decode cX11_move 36 = .ok (.iconst 0, 1) := by decide +kernel
theorem dX11_move_37 : decode cX11_move 37 = .ok (.aload_n 0, 1) := by decide +kernel
theorem dX11_move_38 : decode cX11_move 38 = .ok (.getfield 15, 3) := by decide +kernel
theorem dX11_move_41 : decode cX11_move 41 = .ok (.getfield 185, 3) := by decide +kernel
theorem dX11_move_44 : decode cX11_move 44 = .ok (.iconst 2, 1) := by decide +kernel
theorem dX11_move_45 : decode cX11_move 45 = .ok (.isub, 1) := by decide +kernel
theorem dX11_move_46 : decode cX11_move 46 = .ok (.invokestatic 105, 3) := by decide +kernel
theorem dX11_move_49 : decode cX11_move 49 = .ok (.ifCond .eq 11, 3) := by decide +kernel
theorem dX11_move_52 : decode cX11_move 52 = .ok (.iload 4, 2) := by decide +kernel
theorem dX11_move_54 : decode cX11_move 54 = .ok (.invokestatic 254, 3) := by decide +kernel
theorem dX11_move_57 : decode cX11_move 57 = .ok (.ifCond .ne 5, 3) := by decide +kernel
theorem dX11_move_60 : decode cX11_move 60 = .ok (.iconst (-1), 1) := by decide +kernel
theorem dX11_move_61 : decode cX11_move 61 = .ok (.ireturn, 1) := by decide +kernel
theorem dX11_move_62 : decode cX11_move 62 = .ok (.aload_n 0, 1) := by decide +kernel
theorem dX11_move_63 : decode cX11_move 63 = .ok (.getfield 24, 3) := by decide +kernel
theorem dX11_move_66 : decode cX11_move 66 = .ok (.getfield 148, 3) := by decide +kernel
theorem dX11_move_69 : decode cX11_move 69 = .ok (.iload_n 1, 1) := by decide +kernel
theorem dX11_move_70 : decode cX11_move 70 = .ok (.aaload, 1) := by decide +kernel
theorem dX11_move_71 : decode cX11_move 71 = .ok (.getfield 191, 3) := by decide +kernel
theorem dX11_move_74 : decode cX11_move 74 = .ok (.astore 5, 2) := by decide +kernel
theorem dX11_move_76 : decode cX11_move 76 = .ok (.aload 5, 2) := by decide +kernel
theorem dX11_move_78 : decode cX11_move 78 = .ok (.iload_n 2, 1) := by decide +kernel
theorem dX11_move_79 : decode cX11_move 79 = .ok (.iconst 0, 1) := by decide +kernel
theorem dX11_move_80 : decode cX11_move 80 = .ok (.invokevirtual 286, 3) := by decide +kernel
theorem dX11_move_83 : decode cX11_move 83 = .ok (.istore 6, 2) := by decide +kernel
theorem dX11_move_85 : decode cX11_move 85 = .ok (.aload 5, 2) := by decide +kernel
theorem dX11_move_87 : decode cX11_move 87 = .ok (.iload_n 2, 1) := by decide +kernel
theorem dX11_move_88 : decode cX11_move 88 = .ok (.iconst 0, 1) := by decide +kernel
theorem dX11_move_89 : decode cX11_move 89 = .ok (.iload_n 3, 1) := by decide +kernel
theorem dX11_move_90 : decode cX11_move 90 = .ok (.invokevirtual 289, 3) := by decide +kernel
theorem dX11_move_93 : decode cX11_move 93 = .ok (.aload_n 0, 1) := by decide +kernel
theorem dX11_move_94 : decode cX11_move 94 = .ok (.getfield 24, 3) := by decide +kernel
theorem dX11_move_97 : decode cX11_move 97 = .ok (.invokevirtual 293, 3) := by decide +kernel
theorem dX11_move_100 : decode cX11_move 100 = .ok (.aload_n 0, 1) := by decide +kernel
theorem dX11_move_101 : decode cX11_move 101 = .ok (.getfield 42, 3) := by decide +kernel
theorem dX11_move_104 : decode cX11_move 104 = .ok (.iload 4, 2) := by decide +kernel
theorem dX11_move_106 : decode cX11_move 106 = .ok (.invokevirtual 272, 3) := by decide +kernel
theorem dX11_move_109 : decode cX11_move 109 = .ok (.aload 5, 2) := by decide +kernel
theorem dX11_move_111 : decode cX11_move 111 = .ok (.iload_n 2, 1) := by decide +kernel
theorem dX11_move_112 : decode cX11_move 112 = .ok (.iconst 0, 1) := by decide +kernel
theorem dX11_move_113 : decode cX11_move 113 = .ok (.iload 6, 2) := by decide +kernel
theorem dX11_move_115 : decode cX11_move 115 = .ok (.invokevirtual 289, 3) := by decide +kernel
theorem dX11_move_118 : decode cX11_move 118 = .ok (.aload_n 0, 1) := by decide +kernel
theorem dX11_move_119 : decode cX11_move 119 = .ok (.getfield 42, 3) := by decide +kernel
theorem dX11_move_122 : decode cX11_move 122 = .ok (.iload_n 1, 1) := by decide +kernel
theorem dX11_move_123 : decode cX11_move 123 = .ok (.iconst (-1), 1) := by decide +kernel
theorem dX11_move_124 : decode cX11_move 124 = .ok (.invokevirtual 276, 3) := by decide +kernel
theorem dX11_move_127 : decode cX11_move 127 = .ok (.istore 7, 2) := by decide +kernel
theorem dX11_move_129 : decode cX11_move 129 = .ok (.iload 7, 2) := by decide +kernel
theorem dX11_move_131 : decode cX11_move 131 = .ok (.iconst (-1), 1) := by decide +kernel
theorem dX11_move_132 : decode cX11_move 132 = .ok (.if_icmp .ne 8, 3) := by decide +kernel
theorem dX11_move_135 : decode cX11_move 135 = .ok (.bipush (-2), 2) := by decide +kernel
theorem dX11_move_137 : decode cX11_move 137 = .ok (.goto 5, 3) := by decide +kernel
theorem dX11_move_140 : decode cX11_move 140 = .ok (.iload 7, 2) := by decide +kernel
theorem dX11_move_142 : decode cX11_move 142 = .ok (.ireturn, 1) := by decide +kernel
theorem dX11_best_0 : decode cX11_best 0 = .ok (.aload_n 0, 1) := by decide +kernel
theorem dX11_best_1 : decode cX11_best 1 = .ok (.getfield 24, 3) := by decide +kernel
theorem dX11_best_4 : decode cX11_best 4 = .ok (.iload_n 1, 1) := by decide +kernel
theorem dX11_best_5 : decode cX11_best 5 = .ok (.invokevirtual 175, 3) := by decide +kernel
theorem dX11_best_8 : decode cX11_best 8 = .ok (.ifCond .eq 19, 3) := by decide +kernel
theorem dX11_best_11 : decode cX11_best 11 = .ok (.iload_n 2, 1) := by decide +kernel
theorem dX11_best_12 : decode cX11_best 12 = .ok (.iconst 0, 1) := by decide +kernel
theorem dX11_best_13 : decode cX11_best 13 = .ok (.iconst 2, 1) := by decide +kernel
theorem dX11_best_14 : decode cX11_best 14 = .ok (.invokestatic 105, 3) := by decide +kernel
theorem dX11_best_17 : decode cX11_best 17 = .ok (.ifCond .eq 10, 3) := by decide +kernel
theorem dX11_best_20 : decode cX11_best 20 = .ok (.iload_n 3, 1) := by decide +kernel
theorem dX11_best_21 : decode cX11_best 21 = .ok (.invokestatic 254, 3) := by decide +kernel
theorem dX11_best_24 : decode cX11_best 24 = .ok (.ifCond .ne 5, 3) := by decide +kernel
theorem dX11_best_27 : decode cX11_best 27 = .ok (.iconst (-1), 1) := by decide +kernel
theorem dX11_best_28 : decode cX11_best 28 = .ok (.ireturn, 1) := by decide +kernel
theorem dX11_best_29 : decode cX11_best 29 = .ok (.aload_n 0, 1) := by decide +kernel
theorem dX11_best_30 : decode cX11_best 30 = .ok (.getfield 51, 3) := by decide +kernel
theorem dX11_best_33 : decode cX11_best 33 = .ok (.iload_n 1, 1) := by decide +kernel
theorem dX11_best_34 : decode cX11_best 34 = .ok (.iload_n 2, 1) := by decide +kernel
theorem dX11_best_35 : decode cX11_best 35 = .ok (.iload_n 3, 1) := by decide +kernel
theorem dX11_best_36 : decode cX11_best 36 = .ok (.invokevirtual 296, 3) := by decide +kernel
theorem dX11_best_39 : decode cX11_best 39 = .ok (.ifCond .ne 5, 3) := by decide +kernel
theorem dX11_best_42 : decode cX11_best 42 = .ok (.iconst (-1), 1) := by decide +kernel
theorem dX11_best_43 : decode cX11_best 43 = .ok (.ireturn, 1) := by decide +kernel
theorem dX11_best_44 : decode cX11_best 44 = .ok (.iconst 0, 1) := by decide +kernel
theorem dX11_best_45 : decode cX11_best 45 = .ok (.istore 4, 2) := by decide +kernel
theorem dX11_best_47 : decode cX11_best 47 = .ok (.iload 4, 2) := by decide +kernel
theorem dX11_best_49 : decode cX11_best 49 = .ok (.iconst 2, 1) := by decide +kernel
theorem dX11_best_50 : decode cX11_best 50 = .ok (.iload_n 2, 1) := by decide +kernel
theorem dX11_best_51 : decode cX11_best 51 = .ok (.imul, 1) := by decide +kernel
theorem dX11_best_52 : decode cX11_best 52 = .ok (.if_icmp .ge 33, 3) := by decide +kernel
theorem dX11_best_55 : decode cX11_best 55 = .ok (.iload 4, 2) := by decide +kernel
theorem dX11_best_57 : decode cX11_best 57 = .ok (.bipush 6, 2) := by decide +kernel
theorem dX11_best_59 : decode cX11_best 59 = .ok (.if_icmp .ge 26, 3) := by decide +kernel
theorem dX11_best_62 : decode cX11_best 62 = .ok (.aload_n 0, 1) := by decide +kernel
theorem dX11_best_63 : decode cX11_best 63 = .ok (.getfield 66, 3) := by decide +kernel
theorem dX11_best_66 : decode cX11_best 66 = .ok (.iload 4, 2) := by decide +kernel
theorem dX11_best_68 : decode cX11_best 68 = .ok (.aload_n 0, 1) := by decide +kernel
theorem dX11_best_69 : decode cX11_best 69 = .ok (.getfield 51, 3) := by decide +kernel
theorem dX11_best_72 : decode cX11_best 72 = .ok (.getfield 299, 3) := by decide +kernel
theorem dX11_best_75 : decode cX11_best 75 = .ok (.iload 4, 2) := by decide +kernel
theorem dX11_best_77 : decode cX11_best 77 = .ok (.iaload, 1) := by decide +kernel
theorem dX11_best_78 : decode cX11_best 78 = .ok (.iastore, 1) := by decide +kernel
theorem dX11_best_79 : decode cX11_best 79 = .ok (.iinc 4 1, 3) := by decide +kernel
theorem dX11_best_82 : decode cX11_best 82 = .ok (.goto (-35), 3) := by decide +kernel
theorem dX11_best_85 : decode cX11_best 85 = .ok (.aload_n 0, 1) := by decide +kernel
theorem dX11_best_86 : decode cX11_best 86 = .ok (.iconst 2, 1) := by decide +kernel
theorem dX11_best_87 : decode cX11_best 87 = .ok (.iload_n 2, 1) := by decide +kernel
theorem dX11_best_88 : decode cX11_best 88 = .ok (.imul, 1) := by decide +kernel
theorem dX11_best_89 : decode cX11_best 89 = .ok (.putfield 215, 3) := by decide +kernel
theorem dX11_best_92 : decode cX11_best 92 = .ok (.aload_n 0, 1) := by decide +kernel
theorem dX11_best_93 : decode cX11_best 93 = .ok (.getfield 51, 3) := by decide +kernel
theorem dX11_best_96 : decode cX11_best 96 = .ok (.getfield 302, 3) := by decide +kernel
theorem dX11_best_99 : decode cX11_best 99 = .ok (.bipush 99, 2) := by decide +kernel
theorem dX11_best_101 : decode cX11_best 101 = .ok (.if_icmp .ne 8, 3) := by decide +kernel
theorem dX11_best_104 : decode cX11_best 104 = .ok (.bipush (-2), 2) := by decide +kernel
theorem dX11_best_106 : decode cX11_best 106 = .ok (.goto 10, 3) := by decide +kernel
theorem dX11_best_109 : decode cX11_best 109 = .ok (.aload_n 0, 1) := by decide +kernel
theorem dX11_best_110 : decode cX11_best 110 = .ok (.getfield 51, 3) := by decide +kernel
theorem dX11_best_113 : decode cX11_best 113 = .ok (.getfield 302, 3) := by decide +kernel
theorem dX11_best_116 : decode cX11_best 116 = .ok (.ireturn, 1) := by decide +kernel
theorem dX11_gain_0 : decode cX11_gain 0 = .ok (.aload_n 0, 1) := by decide +kernel
theorem dX11_gain_1 : decode cX11_gain 1 = .ok (.getfield 24, 3) := by decide +kernel
theorem dX11_gain_4 : decode cX11_gain 4 = .ok (.iload_n 1, 1) := by decide +kernel
theorem dX11_gain_5 : decode cX11_gain 5 = .ok (.invokevirtual 175, 3) := by decide +kernel
theorem dX11_gain_8 : decode cX11_gain 8 = .ok (.ifCond .eq 19, 3) := by decide +kernel
theorem dX11_gain_11 : decode cX11_gain 11 = .ok (.iload_n 2, 1) := by decide +kernel
theorem dX11_gain_12 : decode cX11_gain 12 = .ok (.iconst 0, 1) := by decide +kernel
theorem dX11_gain_13 : decode cX11_gain 13 = .ok (.iconst 2, 1) := by decide +kernel
theorem dX11_gain_14 : decode cX11_gain 14 = .ok (.invokestatic 105, 3) := by decide +kernel
theorem dX11_gain_17 : decode cX11_gain 17 = .ok (.ifCond .eq 10, 3) := by decide +kernel
theorem dX11_gain_20 : decode cX11_gain 20 = .ok (.iload_n 3, 1) := by decide +kernel
theorem dX11_gain_21 : decode cX11_gain 21 = .ok (.invokestatic 254, 3) := by decide +kernel
theorem dX11_gain_24 : decode cX11_gain 24 = .ok (.ifCond .ne 5, 3) := by decide +kernel
theorem dX11_gain_27 : decode cX11_gain 27 = .ok (.iconst (-1), 1) := by decide +kernel
theorem dX11_gain_28 : decode cX11_gain 28 = .ok (.ireturn, 1) := by decide +kernel
theorem dX11_gain_29 : decode cX11_gain 29 = .ok (.aload_n 0, 1) := by decide +kernel
theorem dX11_gain_30 : decode cX11_gain 30 = .ok (.getfield 24, 3) := by decide +kernel
theorem dX11_gain_33 : decode cX11_gain 33 = .ok (.invokevirtual 227, 3) := by decide +kernel
theorem dX11_gain_36 : decode cX11_gain 36 = .ok (.aload_n 0, 1) := by decide +kernel
theorem dX11_gain_37 : decode cX11_gain 37 = .ok (.getfield 42, 3) := by decide +kernel
theorem dX11_gain_40 : decode cX11_gain 40 = .ok (.iload_n 3, 1) := by decide +kernel
theorem dX11_gain_41 : decode cX11_gain 41 = .ok (.invokevirtual 272, 3) := by decide +kernel
theorem dX11_gain_44 : decode cX11_gain 44 = .ok (.aload_n 0, 1) := by decide +kernel
theorem dX11_gain_45 : decode cX11_gain 45 = .ok (.getfield 42, 3) := by decide +kernel
theorem dX11_gain_48 : decode cX11_gain 48 = .ok (.iload_n 1, 1) := by decide +kernel
theorem dX11_gain_49 : decode cX11_gain 49 = .ok (.iconst (-1), 1) := by decide +kernel
theorem dX11_gain_50 : decode cX11_gain 50 = .ok (.invokevirtual 276, 3) := by decide +kernel
theorem dX11_gain_53 : decode cX11_gain 53 = .ok (.istore 4, 2) := by decide +kernel
theorem dX11_gain_55 : decode cX11_gain 55 = .ok (.aload_n 0, 1) := by decide +kernel
theorem dX11_gain_56 : decode cX11_gain 56 = .ok (.getfield 51, 3) := by decide +kernel
theorem dX11_gain_59 : decode cX11_gain 59 = .ok (.iload_n 1, 1) := by decide +kernel
theorem dX11_gain_60 : decode cX11_gain 60 = .ok (.iload_n 2, 1) := by decide +kernel
theorem dX11_gain_61 : decode cX11_gain 61 = .ok (.iload_n 3, 1) := by decide +kernel
theorem dX11_gain_62 : decode cX11_gain 62 = .ok (.invokevirtual 296, 3) := by decide +kernel
theorem dX11_gain_65 : decode cX11_gain 65 = .ok (.ifCond .ne 5, 3) := by decide +kernel
theorem dX11_gain_68 : decode cX11_gain 68 = .ok (.iconst (-1), 1) := by decide +kernel
theorem dX11_gain_69 : decode cX11_gain 69 = .ok (.ireturn, 1) := by decide +kernel
theorem dX11_gain_70 : decode cX11_gain 70 = .ok (.iload 4, 2) := by decide +kernel
theorem dX11_gain_72 : decode cX11_gain 72 = .ok (.iconst (-1), 1) := by decide +kernel
theorem dX11_gain_73 : decode cX11_gain 73 = .ok (.if_icmp .ne 13, 3) := by decide +kernel
theorem dX11_gain_76 : decode cX11_gain 76 = .ok (.aload_n 0, 1) := by decide +kernel
theorem dX11_gain_77 : decode cX11_gain 77 = .ok (.getfield 24, 3) := by decide +kernel
theorem dX11_gain_80 : decode cX11_gain 80 = .ok (.getfield 80, 3) := by decide +kernel
theorem dX11_gain_83 : decode cX11_gain 83 = .ok (.goto 5, 3) := by decide +kernel
theorem dX11_gain_86 : decode cX11_gain 86 = .ok (.iload 4, 2) := by decide +kernel
theorem dX11_gain_88 : decode cX11_gain 88 = .ok (.istore 5, 2) := by decide +kernel
theorem dX11_gain_90 : decode cX11_gain 90 = .ok (.aload_n 0, 1) := by decide +kernel
theorem dX11_gain_91 : decode cX11_gain 91 = .ok (.getfield 51, 3) := by decide +kernel
theorem dX11_gain_94 : decode cX11_gain 94 = .ok (.getfield 302, 3) := by decide +kernel
theorem dX11_gain_97 : decode cX11_gain 97 = .ok (.aload_n 0, 1) := by decide +kernel
theorem dX11_gain_98 : decode cX11_gain 98 = .ok (.getfield 24, 3) := by decide +kernel
theorem dX11_gain_101 : decode cX11_gain 101 = .ok (.getfield 80, 3) := by decide +kernel
theorem dX11_gain_104 : decode cX11_gain 104 = .ok (.invokestatic 305, 3) := by decide +kernel
theorem dX11_gain_107 : decode cX11_gain 107 = .ok (.istore 6, 2) := by decide +kernel
theorem dX11_gain_109 : decode cX11_gain 109 = .ok (.iconst 0, 1) := by decide +kernel
theorem dX11_gain_110 : decode cX11_gain 110 = .ok (.iload 5, 2) := by decide +kernel
theorem dX11_gain_112 : decode cX11_gain 112 = .ok (.iload 6, 2) := by decide +kernel
theorem dX11_gain_114 : decode cX11_gain 114 = .ok (.isub, 1) := by decide +kernel
theorem dX11_gain_115 : decode cX11_gain 115 = .ok (.invokestatic 310, 3) := by decide +kernel
theorem dX11_gain_118 : decode cX11_gain 118 = .ok (.ireturn, 1) := by decide +kernel
theorem dX11_option_0 : decode cX11_option 0 = .ok (.aload_n 0, 1) := by decide +kernel
theorem dX11_option_1 : decode cX11_option 1 = .ok (.getfield 24, 3) := by decide +kernel
theorem dX11_option_4 : decode cX11_option 4 = .ok (.iload_n 1, 1) := by decide +kernel
theorem dX11_option_5 : decode cX11_option 5 = .ok (.invokevirtual 175, 3) := by decide +kernel
theorem dX11_option_8 : decode cX11_option 8 = .ok (.ifCond .eq 29, 3) := by decide +kernel
theorem dX11_option_11 : decode cX11_option 11 = .ok (.iload_n 2, 1) := by decide +kernel
theorem dX11_option_12 : decode cX11_option 12 = .ok (.iconst (-1), 1) := by decide +kernel
theorem dX11_option_13 : decode cX11_option 13 = .ok (.aload_n 0, 1) := by decide +kernel
theorem dX11_option_14 : decode cX11_option 14 = .ok (.getfield 15, 3) := by decide +kernel
theorem dX11_option_17 : decode cX11_option 17 = .ok (.getfield 185, 3) := by decide +kernel
theorem dX11_option_20 : decode cX11_option 20 = .ok (.iconst 2, 1) := by decide +kernel
theorem dX11_option_21 : decode cX11_option 21 = .ok (.isub, 1) := by decide +kernel
theorem dX11_option_22 : decode cX11_option 22 = .ok (.invokestatic 105, 3) := by decide +kernel
theorem dX11_option_25 : decode cX11_option 25 = .ok (.ifCond .eq 12, 3) := by decide +kernel
theorem dX11_option_28 : decode cX11_option 28 = .ok (.iload_n 3, 1) := by decide +kernel
theorem dX11_option_29 : decode cX11_option 29 = .ok (.iconst (-1), 1) := by decide +kernel
theorem dX11_option_30 : decode cX11_option 30 = .ok (.iconst 3, 1) := by decide +kernel
theorem dX11_option_31 : decode cX11_option 31 = .ok (.invokestatic 105, 3) := by decide +kernel
theorem dX11_option_34 : decode cX11_option 34 = .ok (.ifCond .ne 5, 3) := by decide +kernel
theorem dX11_option_37 : decode cX11_option 37 = .ok (.iconst (-1), 1) := by decide +kernel
theorem dX11_option_38 : decode cX11_option 38 = .ok (.ireturn, 1) := by decide +kernel
theorem dX11_option_39 : decode cX11_option 39 = .ok (.aload_n 0, 1) := by decide +kernel
theorem dX11_option_40 : decode cX11_option 40 = .ok (.getfield 24, 3) := by decide +kernel
theorem dX11_option_43 : decode cX11_option 43 = .ok (.getfield 148, 3) := by decide +kernel
theorem dX11_option_46 : decode cX11_option 46 = .ok (.iload_n 1, 1) := by decide +kernel
theorem dX11_option_47 : decode cX11_option 47 = .ok (.aaload, 1) := by decide +kernel
theorem dX11_option_48 : decode cX11_option 48 = .ok (.getfield 313, 3) := by decide +kernel
theorem dX11_option_51 : decode cX11_option 51 = .ok (.iload_n 2, 1) := by decide +kernel
theorem dX11_option_52 : decode cX11_option 52 = .ok (.iload_n 3, 1) := by decide +kernel
theorem dX11_option_53 : decode cX11_option 53 = .ok (.iconst 0, 1) := by decide +kernel
theorem dX11_option_54 : decode cX11_option 54 = .ok (.iconst 0, 1) := by decide +kernel
theorem dX11_option_55 : decode cX11_option 55 = .ok (.invokevirtual 141, 3) := by decide +kernel
theorem dX11_option_58 : decode cX11_option 58 = .ok (.ireturn, 1) := by decide +kernel
theorem dX11_clear_0 : decode cX11_clear 0 = .ok (.aload_n 0, 1) := by decide +kernel
theorem dX11_clear_1 : decode cX11_clear 1 = .ok (.getfield 24, 3) := by decide +kernel
theorem dX11_clear_4 : decode cX11_clear 4 = .ok (.invokevirtual 221, 3) := by decide +kernel
theorem dX11_clear_7 : decode cX11_clear 7 = .ok (.istore_n 1, 1) := by decide +kernel
theorem dX11_clear_8 : decode cX11_clear 8 = .ok (.iconst 0, 1) := by decide +kernel
theorem dX11_clear_9 : decode cX11_clear 9 = .ok (.istore_n 2, 1) := by decide +kernel
theorem dX11_clear_10 : decode cX11_clear 10 = .ok (.iload_n 2, 1) := by decide +kernel
theorem dX11_clear_11 : decode cX11_clear 11 = .ok (.aload_n 0, 1) := by decide +kernel
theorem dX11_clear_12 : decode cX11_clear 12 = .ok (.getfield 24, 3) := by decide +kernel
theorem dX11_clear_15 : decode cX11_clear 15 = .ok (.getfield 80, 3) := by decide +kernel
theorem dX11_clear_18 : decode cX11_clear 18 = .ok (.if_icmp .ge 31, 3) := by decide +kernel
theorem dX11_clear_21 : decode cX11_clear 21 = .ok (.iload_n 2, 1) := by decide +kernel
theorem dX11_clear_22 : decode cX11_clear 22 = .ok (.bipush 6, 2) := by decide +kernel
theorem dX11_clear_24 : decode cX11_clear 24 = .ok (.if_icmp .ge 25, 3) := by decide +kernel
theorem dX11_clear_27 : decode cX11_clear 27 = .ok (.aload_n 0, 1) := by decide +kernel
theorem dX11_clear_28 : decode cX11_clear 28 = .ok (.getfield 24, 3) := by decide +kernel
theorem dX11_clear_31 : decode cX11_clear 31 = .ok (.getfield 148, 3) := by decide +kernel
theorem dX11_clear_34 : decode cX11_clear 34 = .ok (.iload_n 2, 1) := by decide +kernel
theorem dX11_clear_35 : decode cX11_clear 35 = .ok (.aaload, 1) := by decide +kernel
theorem dX11_clear_36 : decode cX11_clear 36 = .ok (.getfield 313, 3) := by decide +kernel
theorem dX11_clear_39 : decode cX11_clear 39 = .ok (.iconst 0, 1) := by decide +kernel
theorem dX11_clear_40 : decode cX11_clear 40 = .ok (.putfield 95, 3) := by decide +kernel
theorem dX11_clear_43 : decode cX11_clear 43 = .ok (.iinc 2 1, 3) := by decide +kernel
theorem dX11_clear_46 : decode cX11_clear 46 = .ok (.goto (-36), 3) := by decide +kernel
theorem dX11_clear_49 : decode cX11_clear 49 = .ok (.iload_n 1, 1) := by decide +kernel
theorem dX11_clear_50 : decode cX11_clear 50 = .ok (.ireturn, 1) := by decide +kernel
theorem dX11_settle_0 : decode cX11_settle 0 = .ok (.aload_n 0, 1) := by decide +kernel
theorem dX11_settle_1 : decode cX11_settle 1 = .ok (.getfield 24, 3) := by decide +kernel
theorem dX11_settle_4 : decode cX11_settle 4 = .ok (.iload_n 1, 1) := by decide +kernel
theorem dX11_settle_5 : decode cX11_settle 5 = .ok (.invokevirtual 175, 3) := by decide +kernel
theorem dX11_settle_8 : decode cX11_settle 8 = .ok (.ifCond .eq 26, 3) := by decide +kernel
theorem dX11_settle_11 : decode cX11_settle 11 = .ok (.aload_n 0, 1) := by decide +kernel
theorem dX11_settle_12 : decode cX11_settle 12 = .ok (.getfield 24, 3) := by decide +kernel
theorem dX11_settle_15 : decode cX11_settle 15 = .ok (.iload_n 2, 1) := by decide +kernel
theorem dX11_settle_16 : decode cX11_settle 16 = .ok (.invokevirtual 175, 3) := by decide +kernel
theorem dX11_settle_19 : decode cX11_settle 19 = .ok (.ifCond .eq 15, 3) := by decide +kernel
theorem dX11_settle_22 : decode cX11_settle 22 = .ok (.iload_n 1, 1) := by decide +kernel
theorem dX11_settle_23 : decode cX11_settle 23 = .ok (.iload_n 2, 1) := by decide +kernel
theorem dX11_settle_24 : decode cX11_settle 24 = .ok (.if_icmp .eq 10, 3) := by decide +kernel
theorem dX11_settle_27 : decode cX11_settle 27 = .ok (.iload_n 3, 1) := by decide +kernel
theorem dX11_settle_28 : decode cX11_settle 28 = .ok (.invokestatic 254, 3) := by decide +kernel
theorem dX11_settle_31 : decode cX11_settle 31 = .ok (.ifCond .ne 5, 3) := by decide +kernel
theorem dX11_settle_34 : decode cX11_settle 34 = .ok (.iconst (-1), 1) := by decide +kernel
theorem dX11_settle_35 : decode cX11_settle 35 = .ok (.ireturn, 1) := by decide +kernel
theorem dX11_settle_36 : decode cX11_settle 36 = .ok (.aload_n 0, 1) := by decide +kernel
theorem dX11_settle_37 : decode cX11_settle 37 = .ok (.getfield 24, 3) := by decide +kernel
theorem dX11_settle_40 : decode cX11_settle 40 = .ok (.getfield 148, 3) := by decide +kernel
theorem dX11_settle_43 : decode cX11_settle 43 = .ok (.iload_n 1, 1) := by decide +kernel
theorem dX11_settle_44 : decode cX11_settle 44 = .ok (.aaload, 1) := by decide +kernel
theorem dX11_settle_45 : decode cX11_settle 45 = .ok (.getfield 313, 3) := by decide +kernel
theorem dX11_settle_48 : decode cX11_settle 48 = .ok (.getfield 95, 3) := by decide +kernel
theorem dX11_settle_51 : decode cX11_settle 51 = .ok (.ifCond .eq 21, 3) := by decide +kernel
theorem dX11_settle_54 : decode cX11_settle 54 = .ok (.aload_n 0, 1) := by decide +kernel
theorem dX11_settle_55 : decode cX11_settle 55 = .ok (.getfield 24, 3) := by decide +kernel
theorem dX11_settle_58 : decode cX11_settle 58 = .ok (.getfield 148, 3) := by decide +kernel
theorem dX11_settle_61 : decode cX11_settle 61 = .ok (.iload_n 2, 1) := by decide +kernel
theorem dX11_settle_62 : decode cX11_settle 62 = .ok (.aaload, 1) := by decide +kernel
theorem dX11_settle_63 : decode cX11_settle 63 = .ok (.getfield 313, 3) := by decide +kernel
theorem dX11_settle_66 : decode cX11_settle 66 = .ok (.getfield 95, 3) := by decide +kernel
theorem dX11_settle_69 : decode cX11_settle 69 = .ok (.ifCond .ne 5, 3) := by decide +kernel
theorem dX11_settle_72 : decode cX11_settle 72 = .ok (.iconst (-1), 1) := by decide +kernel
theorem dX11_settle_73 : decode cX11_settle 73 = .ok (.ireturn, 1) := by decide +kernel
theorem dX11_settle_74 : decode cX11_settle 74 = .ok (.aload_n 0, 1) := by decide +kernel
theorem dX11_settle_75 : decode cX11_settle 75 = .ok (.getfield 51, 3) := by decide +kernel
theorem dX11_settle_78 : decode cX11_settle 78 = .ok (.iload_n 1, 1) := by decide +kernel
theorem dX11_settle_79 : decode cX11_settle 79 = .ok (.iload_n 2, 1) := by decide +kernel
theorem dX11_settle_80 : decode cX11_settle 80 = .ok (.iload_n 3, 1) := by decide +kernel
theorem dX11_settle_81 : decode cX11_settle 81 = .ok (.invokevirtual 316, 3) := by decide +kernel
theorem dX11_settle_84 : decode cX11_settle 84 = .ok (.ireturn, 1) := by decide +kernel
theorem dX11_lost_0 : decode cX11_lost 0 = .ok (.aload_n 0, 1) := by decide +kernel
theorem dX11_lost_1 : decode cX11_lost 1 = .ok (.getfield 15, 3) := by decide +kernel
theorem dX11_lost_4 : decode cX11_lost 4 = .ok (.iload_n 1, 1) := by decide +kernel
theorem dX11_lost_5 : decode cX11_lost 5 = .ok (.invokevirtual 100, 3) := by decide +kernel
theorem dX11_lost_8 : decode cX11_lost 8 = .ok (.ifCond .eq 16, 3) := by decide +kernel
theorem dX11_lost_11 : decode cX11_lost 11 = .ok (.iload_n 1, 1) := by decide +kernel
theorem dX11_lost_12 : decode cX11_lost 12 = .ok (.aload_n 0, 1) := by decide +kernel
theorem dX11_lost_13 : decode cX11_lost 13 = .ok (.getfield 15, 3) := by decide +kernel
theorem dX11_lost_16 : decode cX11_lost 16 = .ok (.getfield 212, 3) := by decide +kernel
theorem dX11_lost_19 : decode cX11_lost 19 = .ok (.iconst 1, 1) := by decide +kernel
theorem dX11_lost_20 : decode cX11_lost 20 = .ok (.isub, 1) := by decide +kernel
theorem dX11_lost_21 : decode cX11_lost 21 = .ok (.if_icmp .ne 5, 3) := by decide +kernel
theorem dX11_lost_24 : decode cX11_lost 24 = .ok (.iconst 0, 1) := by decide +kernel
theorem dX11_lost_25 : decode cX11_lost 25 = .ok (.ireturn, 1) := by decide +kernel
theorem dX11_lost_26 : decode cX11_lost 26 = .ok (.aload_n 0, 1) := by decide +kernel
theorem dX11_lost_27 : decode cX11_lost 27 = .ok (.getfield 15, 3) := by decide +kernel
theorem dX11_lost_30 : decode cX11_lost 30 = .ok (.getfield 320, 3) := by decide +kernel
theorem dX11_lost_33 : decode cX11_lost 33 = .ok (.iload_n 1, 1) := by decide +kernel
theorem dX11_lost_34 : decode cX11_lost 34 = .ok (.iload_n 2, 1) := by decide +kernel
theorem dX11_lost_35 : decode cX11_lost 35 = .ok (.bastore, 1) := by decide +kernel
theorem dX11_lost_36 : decode cX11_lost 36 = .ok (.iconst 1, 1) := by decide +kernel
theorem dX11_lost_37 : decode cX11_lost 37 = .ok (.ireturn, 1) := by decide +kernel
theorem dX11_known_0 : decode cX11_known 0 = .ok (.aload_n 0, 1) := by decide +kernel
theorem dX11_known_1 : decode cX11_known 1 = .ok (.getfield 24, 3) := by decide +kernel
theorem dX11_known_4 : decode cX11_known 4 = .ok (.iload_n 1, 1) := by decide +kernel
theorem dX11_known_5 : decode cX11_known 5 = .ok (.invokevirtual 175, 3) := by decide +kernel
theorem dX11_known_8 : decode cX11_known 8 = .ok (.ifCond .eq 25, 3) := by decide +kernel
theorem dX11_known_11 : decode cX11_known 11 = .ok (.aload_n 0, 1) := by decide +kernel
theorem dX11_known_12 : decode cX11_known 12 = .ok (.getfield 15, 3) := by decide +kernel
theorem dX11_known_15 : decode cX11_known 15 = .ok (.iload_n 2, 1) := by decide +kernel
theorem dX11_known_16 : decode cX11_known 16 = .ok (.iload_n 3, 1) := by decide +kernel
theorem dX11_known_17 : decode cX11_known 17 = .ok (.invokevirtual 239, 3) := by decide +kernel
theorem dX11_known_20 : decode cX11_known 20 = .ok (.ifCond .eq 13, 3) := by decide +kernel
theorem dX11_known_23 : decode cX11_known 23 = .ok (.iload 4, 2) := by decide +kernel
theorem dX11_known_25 : decode cX11_known 25 = .ok (.iconst 0, 1) := by decide +kernel
theorem dX11_known_26 : decode cX11_known 26 = .ok (.iconst 1, 1) := by decide +kernel
theorem dX11_known_27 : decode cX11_known 27 = .ok (.invokestatic 105, 3) := by decide +kernel
theorem dX11_known_30 : decode cX11_known 30 = .ok (.ifCond .ne 5, 3) := by decide +kernel
theorem dX11_known_33 : decode cX11_known 33 = .ok (.iconst (-1), 1) := by decide +kernel
theorem dX11_known_34 : decode cX11_known 34 = .ok (.ireturn, 1) := by decide +kernel
theorem dX11_known_35 : decode cX11_known 35 = .ok (.aload_n 0, 1) := by decide +kernel
theorem dX11_known_36 : decode cX11_known 36 = .ok (.getfield 24, 3) := by decide +kernel
theorem dX11_known_39 : decode cX11_known 39 = .ok (.invokevirtual 227, 3) := by decide +kernel
theorem dX11_known_42 : decode cX11_known 42 = .ok (.aload_n 0, 1) := by decide +kernel
theorem dX11_known_43 : decode cX11_known 43 = .ok (.getfield 24, 3) := by decide +kernel
theorem dX11_known_46 : decode cX11_known 46 = .ok (.iload_n 1, 1) := by decide +kernel
theorem dX11_known_47 : decode cX11_known 47 = .ok (.aload_n 0, 1) := by decide +kernel
theorem dX11_known_48 : decode cX11_known 48 = .ok (.getfield 15, 3) := by decide +kernel
theorem dX11_known_51 : decode cX11_known 51 = .ok (.iload_n 2, 1) := by decide +kernel
theorem dX11_known_52 : decode cX11_known 52 = .ok (.iload_n 3, 1) := by decide +kernel
theorem dX11_known_53 : decode cX11_known 53 = .ok (.invokevirtual 242, 3) := by decide +kernel
theorem dX11_known_56 : decode cX11_known 56 = .ok (.iload 4, 2) := by decide +kernel
theorem dX11_known_58 : decode cX11_known 58 = .ok (.ifCond .ne 7, 3) := by decide +kernel
theorem dX11_known_61 : decode cX11_known 61 = .ok (.iconst 1, 1) := by decide +kernel
theorem dX11_known_62 : decode cX11_known 62 = .ok (.goto 4, 3) := by decide +kernel
theorem dX11_known_65 : decode cX11_known 65 = .ok (.iconst 0, 1) := by decide +kernel
theorem dX11_known_66 : decode cX11_known 66 = .ok (.invokevirtual 323, 3) := by decide +kernel
theorem dX11_known_69 : decode cX11_known 69 = .ok (.ireturn, 1) := by decide +kernel
theorem dX11_ahead_0 : decode cX11_ahead 0 = .ok (.aload_n 0, 1) := by decide +kernel
theorem dX11_ahead_1 : decode cX11_ahead 1 = .ok (.getfield 24, 3) := by decide +kernel
theorem dX11_ahead_4 : decode cX11_ahead 4 = .ok (.iload_n 1, 1) := by decide +kernel
theorem dX11_ahead_5 : decode cX11_ahead 5 = .ok (.invokevirtual 175, 3) := by decide +kernel
theorem dX11_ahead_8 : decode cX11_ahead 8 = .ok (.ifCond .eq 32, 3) := by decide +kernel
theorem dX11_ahead_11 : decode cX11_ahead 11 = .ok (.aload_n 0, 1) := by decide +kernel
theorem dX11_ahead_12 : decode cX11_ahead 12 = .ok (.getfield 24, 3) := by decide +kernel
theorem dX11_ahead_15 : decode cX11_ahead 15 = .ok (.iload_n 2, 1) := by decide +kernel
theorem dX11_ahead_16 : decode cX11_ahead 16 = .ok (.invokevirtual 175, 3) := by decide +kernel
theorem dX11_ahead_19 : decode cX11_ahead 19 = .ok (.ifCond .eq 21, 3) := by decide +kernel
theorem dX11_ahead_22 : decode cX11_ahead 22 = .ok (.iload_n 1, 1) := by decide +kernel
theorem dX11_ahead_23 : decode cX11_ahead 23 = .ok (.iload_n 2, 1) := by decide +kernel
theorem dX11_ahead_24 : decode cX11_ahead 24 = .ok (.if_icmp .eq 16, 3) := by decide +kernel
theorem dX11_ahead_27 : decode cX11_ahead 27 = .ok (.aload_n 0, 1) := by decide +kernel
theorem dX11_ahead_28 : decode cX11_ahead 28 = .ok (.getfield 15, 3) := by decide +kernel
theorem dX11_ahead_31 : decode cX11_ahead 31 = .ok (.iload_n 3, 1) := by decide +kernel
theorem dX11_ahead_32 : decode cX11_ahead 32 = .ok (.iload 4, 2) := by decide +kernel
theorem dX11_ahead_34 : decode cX11_ahead 34 = .ok (.invokevirtual 239, 3) := by decide +kernel
theorem dX11_ahead_37 : decode cX11_ahead 37 = .ok (.ifCond .ne 5, 3) := by decide +kernel
theorem dX11_ahead_40 : decode cX11_ahead 40 = .ok (.iconst (-1), 1) := by decide +kernel
theorem dX11_ahead_41 : decode cX11_ahead 41 = .ok (.ireturn, 1) := by decide +kernel
theorem dX11_ahead_42 : decode cX11_ahead 42 = .ok (.aload_n 0, 1) := by decide +kernel
theorem dX11_ahead_43 : decode cX11_ahead 43 = .ok (.getfield 24, 3) := by decide +kernel
theorem dX11_ahead_46 : decode cX11_ahead 46 = .ok (.invokevirtual 227, 3) := by decide +kernel
theorem dX11_ahead_49 : decode cX11_ahead 49 = .ok (.aload_n 0, 1) := by decide +kernel
theorem dX11_ahead_50 : decode cX11_ahead 50 = .ok (.getfield 15, 3) := by decide +kernel
theorem dX11_ahead_53 : decode cX11_ahead 53 = .ok (.iload_n 3, 1) := by decide +kernel
theorem dX11_ahead_54 : decode cX11_ahead 54 = .ok (.iload 4, 2) := by decide +kernel
theorem dX11_ahead_56 : decode cX11_ahead 56 = .ok (.invokevirtual 242, 3) := by decide +kernel
theorem dX11_ahead_59 : decode cX11_ahead 59 = .ok (.istore 5, 2) := by decide +kernel
theorem dX11_ahead_61 : decode cX11_ahead 61 = .ok (.aload_n 0, 1) := by decide +kernel
theorem dX11_ahead_62 : decode cX11_ahead 62 = .ok (.getfield 24, 3) := by decide +kernel
theorem dX11_ahead_65 : decode cX11_ahead 65 = .ok (.iload_n 1, 1) := by decide +kernel
theorem dX11_ahead_66 : decode cX11_ahead 66 = .ok (.iload 5, 2) := by decide +kernel
theorem dX11_ahead_68 : decode cX11_ahead 68 = .ok (.iconst 0, 1) := by decide +kernel
theorem dX11_ahead_69 : decode cX11_ahead 69 = .ok (.invokevirtual 323, 3) := by decide +kernel
theorem dX11_ahead_72 : decode cX11_ahead 72 = .ok (.istore 6, 2) := by decide +kernel
theorem dX11_ahead_74 : decode cX11_ahead 74 = .ok (.aload_n 0, 1) := by decide +kernel
theorem dX11_ahead_75 : decode cX11_ahead 75 = .ok (.getfield 24, 3) := by decide +kernel
theorem dX11_ahead_78 : decode cX11_ahead 78 = .ok (.iload_n 2, 1) := by decide +kernel
theorem dX11_ahead_79 : decode cX11_ahead 79 = .ok (.iload 5, 2) := by decide +kernel
theorem dX11_ahead_81 : decode cX11_ahead 81 = .ok (.iconst 1, 1) := by decide +kernel
theorem dX11_ahead_82 : decode cX11_ahead 82 = .ok (.invokevirtual 323, 3) := by decide +kernel
theorem dX11_ahead_85 : decode cX11_ahead 85 = .ok (.istore 7, 2) := by decide +kernel
theorem dX11_ahead_87 : decode cX11_ahead 87 = .ok (.iload 6, 2) := by decide +kernel
theorem dX11_ahead_89 : decode cX11_ahead 89 = .ok (.iconst (-1), 1) := by decide +kernel
theorem dX11_ahead_90 : decode cX11_ahead 90 = .ok (.if_icmp .eq 9, 3) := by decide +kernel
theorem dX11_ahead_93 : decode cX11_ahead 93 = .ok (.iload 7, 2) := by decide +kernel
theorem dX11_ahead_95 : decode cX11_ahead 95 = .ok (.iconst (-1), 1) := by decide +kernel
theorem dX11_ahead_96 : decode cX11_ahead 96 = .ok (.if_icmp .ne 5, 3) := by decide +kernel
theorem dX11_ahead_99 : decode cX11_ahead 99 = .ok (.iconst (-1), 1) := by decide +kernel
theorem dX11_ahead_100 : decode cX11_ahead 100 = .ok (.ireturn, 1) := by decide +kernel
theorem dX11_ahead_101 : decode cX11_ahead 101 = .ok (.iload 6, 2) := by decide +kernel
theorem dX11_ahead_103 : decode cX11_ahead 103 = .ok (.iload 7, 2) := by decide +kernel
theorem dX11_ahead_105 : decode cX11_ahead 105 = .ok (.if_icmp .ge 7, 3) := by decide +kernel
theorem dX11_ahead_108 : decode cX11_ahead 108 = .ok (.iconst 1, 1) := by decide +kernel
theorem dX11_ahead_109 : decode cX11_ahead 109 = .ok (.goto 4, 3) := by decide +kernel
theorem dX11_ahead_112 : decode cX11_ahead 112 = .ok (.iconst 0, 1) := by decide +kernel
theorem dX11_ahead_113 : decode cX11_ahead 113 = .ok (.ireturn, 1) := by decide +kernel
theorem dX11_wall_0 : decode cX11_wall 0 = .ok (.aload_n 0, 1) := by decide +kernel
theorem dX11_wall_1 : decode cX11_wall 1 = .ok (.getfield 24, 3) := by decide +kernel
theorem dX11_wall_4 : decode cX11_wall 4 = .ok (.iload_n 1, 1) := by decide +kernel
theorem dX11_wall_5 : decode cX11_wall 5 = .ok (.invokevirtual 175, 3) := by decide +kernel
theorem dX11_wall_8 : decode cX11_wall 8 = .ok (.ifCond .eq 7, 3) := by decide +kernel
theorem dX11_wall_11 : decode cX11_wall 11 = .ok (.iload_n 2, 1) := by decide +kernel
theorem dX11_wall_12 : decode cX11_wall 12 = .ok (.ifCond .ge 5, 3) := by decide +kernel
theorem dX11_wall_15 : decode cX11_wall 15 = .ok (.iconst (-1), 1) := by decide +kernel
theorem dX11_wall_16 : decode cX11_wall 16 = .ok (.ireturn, 1) := by decide +kernel
theorem dX11_wall_17 : decode cX11_wall 17 = .ok (.aload_n 0, 1) := by decide +kernel
theorem dX11_wall_18 : decode cX11_wall 18 = .ok (.getfield 24, 3) := by decide +kernel
theorem dX11_wall_21 : decode cX11_wall 21 = .ok (.invokevirtual 227, 3) := by decide +kernel
theorem dX11_wall_24 : decode cX11_wall 24 = .ok (.aload_n 0, 1) := by decide +kernel
theorem dX11_wall_25 : decode cX11_wall 25 = .ok (.getfield 24, 3) := by decide +kernel
theorem dX11_wall_28 : decode cX11_wall 28 = .ok (.iload_n 1, 1) := by decide +kernel
theorem dX11_wall_29 : decode cX11_wall 29 = .ok (.iload_n 2, 1) := by decide +kernel
theorem dX11_wall_30 : decode cX11_wall 30 = .ok (.invokevirtual 327, 3) := by decide +kernel
theorem dX11_wall_33 : decode cX11_wall 33 = .ok (.istore_n 3, 1) := by decide +kernel
theorem dX11_wall_34 : decode cX11_wall 34 = .ok (.aload_n 0, 1) := by decide +kernel
theorem dX11_wall_35 : decode cX11_wall 35 = .ok (.getfield 24, 3) := by decide +kernel
theorem dX11_wall_38 : decode cX11_wall 38 = .ok (.getfield 230, 3) := by decide +kernel
theorem dX11_wall_41 : decode cX11_wall 41 = .ok (.iload_n 1, 1) := by decide +kernel
theorem dX11_wall_42 : decode cX11_wall 42 = .ok (.aaload, 1) := by decide +kernel
theorem dX11_wall_43 : decode cX11_wall 43 = .ok (.iload_n 3, 1) := by decide +kernel
theorem dX11_wall_44 : decode cX11_wall 44 = .ok (.iconst 1, 1) := by decide +kernel
theorem dX11_wall_45 : decode cX11_wall 45 = .ok (.isub, 1) := by decide +kernel
theorem dX11_wall_46 : decode cX11_wall 46 = .ok (.invokevirtual 330, 3) := by decide +kernel
theorem dX11_wall_49 : decode cX11_wall 49 = .ok (.istore 4, 2) := by decide +kernel
theorem dX11_wall_51 : decode cX11_wall 51 = .ok (.iconst 0, 1) := by decide +kernel
theorem dX11_wall_52 : decode cX11_wall 52 = .ok (.istore 5, 2) := by decide +kernel
theorem dX11_wall_54 : decode cX11_wall 54 = .ok (.iconst 0, 1) := by decide +kernel
theorem dX11_wall_55 : decode cX11_wall 55 = .ok (.istore 6, 2) := by decide +kernel
theorem dX11_wall_57 : decode cX11_wall 57 = .ok (.iload 6, 2) := by decide +kernel
theorem dX11_wall_59 : decode cX11_wall 59 = .ok (.aload_n 0, 1) := by decide +kernel
theorem dX11_wall_60 : decode cX11_wall 60 = .ok (.getfield 24, 3) := by decide +kernel
theorem dX11_wall_63 : decode cX11_wall 63 = .ok (.getfield 80, 3) := by decide +kernel
theorem dX11_wall_66 : decode cX11_wall 66 = .ok (.if_icmp .ge 94, 3) := by decide +kernel
theorem dX11_wall_69 : decode cX11_wall 69 = .ok (.iload 6, 2) := by decide +kernel
theorem dX11_wall_71 : decode cX11_wall 71 = .ok (.bipush 6, 2) := by decide +kernel
theorem dX11_wall_73 : decode cX11_wall 73 = .ok (.if_icmp .ge 87, 3) := by decide +kernel
theorem dX11_wall_76 : decode cX11_wall 76 = .ok (.aload_n 0, 1) := by decide +kernel
theorem dX11_wall_77 : decode cX11_wall 77 = .ok (.getfield 24, 3) := by decide +kernel
theorem dX11_wall_80 : decode cX11_wall 80 = .ok (.iload 6, 2) := by decide +kernel
theorem dX11_wall_82 : decode cX11_wall 82 = .ok (.iload_n 2, 1) := by decide +kernel
theorem dX11_wall_83 : decode cX11_wall 83 = .ok (.invokevirtual 327, 3) := by decide +kernel
theorem dX11_wall_86 : decode cX11_wall 86 = .ok (.istore 7, 2) := by decide +kernel
theorem dX11_wall_88 : decode cX11_wall 88 = .ok (.aload_n 0, 1) := by decide +kernel
theorem dX11_wall_89 : decode cX11_wall 89 = .ok (.getfield 24, 3) := by decide +kernel
theorem dX11_wall_92 : decode cX11_wall 92 = .ok (.getfield 230, 3) := by decide +kernel
theorem dX11_wall_95 : decode cX11_wall 95 = .ok (.iload 6, 2) := by decide +kernel
theorem dX11_wall_97 : decode cX11_wall 97 = .ok (.aaload, 1) := by decide +kernel
theorem dX11_wall_98 : decode cX11_wall 98 = .ok (.iload 7, 2) := by decide +kernel
theorem dX11_wall_100 : decode cX11_wall 100 = .ok (.iconst 1, 1) := by decide +kernel
theorem dX11_wall_101 : decode cX11_wall 101 = .ok (.isub, 1) := by decide +kernel
theorem dX11_wall_102 : decode cX11_wall 102 = .ok (.invokevirtual 330, 3) := by decide +kernel
theorem dX11_wall_105 : decode cX11_wall 105 = .ok (.istore 8, 2) := by decide +kernel
theorem dX11_wall_107 : decode cX11_wall 107 = .ok (.iload 8, 2) := by decide +kernel
theorem dX11_wall_109 : decode cX11_wall 109 = .ok (.iload 4, 2) := by decide +kernel
theorem dX11_wall_111 : decode cX11_wall 111 = .ok (.if_icmp .lt 16, 3) := by decide +kernel
theorem dX11_wall_114 : decode cX11_wall 114 = .ok (.iload 8, 2) := by decide +kernel
theorem dX11_wall_116 : decode cX11_wall 116 = .ok (.iload 4, 2) := by decide +kernel
theorem dX11_wall_118 : decode cX11_wall 118 = .ok (.if_icmp .ne 13, 3) := by decide +kernel
theorem dX11_wall_121 : decode cX11_wall 121 = .ok (.iload 6, 2) := by decide +kernel
theorem dX11_wall_123 : decode cX11_wall 123 = .ok (.iload_n 1, 1) := by decide +kernel
theorem dX11_wall_124 : decode cX11_wall 124 = .ok (.if_icmp .ge 7, 3) := by decide +kernel
theorem dX11_wall_127 : decode cX11_wall 127 = .ok (.iconst 1, 1) := by decide +kernel
theorem dX11_wall_128 : decode cX11_wall 128 = .ok (.goto 4, 3) := by decide +kernel
theorem dX11_wall_131 : decode cX11_wall 131 = .ok (.iconst 0, 1) := by decide +kernel
theorem dX11_wall_132 : decode cX11_wall 132 = .ok (.istore 9, 2) := by decide +kernel
theorem dX11_wall_134 : decode cX11_wall 134 = .ok (.iload 7, 2) := by decide +kernel
theorem dX11_wall_136 : decode cX11_wall 136 = .ok (.iload_n 3, 1) := by decide +kernel
theorem dX11_wall_137 : decode cX11_wall 137 = .ok (.if_icmp .gt 14, 3) := by decide +kernel
theorem dX11_wall_140 : decode cX11_wall 140 = .ok (.iload 7, 2) := by decide +kernel
theorem dX11_wall_142 : decode cX11_wall 142 = .ok (.iload_n 3, 1) := by decide +kernel
theorem dX11_wall_143 : decode cX11_wall 143 = .ok (.if_icmp .ne 11, 3) := by decide +kernel
theorem dX11_wall_146 : decode cX11_wall 146 = .ok (.iload 9, 2) := by decide +kernel
theorem dX11_wall_148 : decode cX11_wall 148 = .ok (.ifCond .eq 6, 3) := by decide +kernel
theorem dX11_wall_151 : decode cX11_wall 151 = .ok (.iinc 5 1, 3) := by decide +kernel
theorem dX11_wall_154 : decode cX11_wall 154 = .ok (.iinc 6 1, 3) := by decide +kernel
theorem dX11_wall_157 : decode cX11_wall 157 = .ok (.goto (-100), 3) := by decide +kernel
theorem dX11_wall_160 : decode cX11_wall 160 = .ok (.iload 5, 2) := by decide +kernel
theorem dX11_wall_162 : decode cX11_wall 162 = .ok (.ireturn, 1) := by decide +kernel
theorem dX11_why_0 : decode cX11_why 0 = .ok (.aload_n 0, 1) := by decide +kernel
theorem dX11_why_1 : decode cX11_why 1 = .ok (.getfield 24, 3) := by decide +kernel
theorem dX11_why_4 : decode cX11_why 4 = .ok (.iload_n 1, 1) := by decide +kernel
theorem dX11_why_5 : decode cX11_why 5 = .ok (.invokevirtual 175, 3) := by decide +kernel
theorem dX11_why_8 : decode cX11_why 8 = .ok (.ifCond .eq 17, 3) := by decide +kernel
theorem dX11_why_11 : decode cX11_why 11 = .ok (.iload_n 2, 1) := by decide +kernel
theorem dX11_why_12 : decode cX11_why 12 = .ok (.aload_n 0, 1) := by decide +kernel
theorem dX11_why_13 : decode cX11_why 13 = .ok (.getfield 15, 3) := by decide +kernel
theorem dX11_why_16 : decode cX11_why 16 = .ok (.getfield 185, 3) := by decide +kernel
theorem dX11_why_19 : decode cX11_why 19 = .ok (.invokestatic 115, 3) := by decide +kernel
theorem dX11_why_22 : decode cX11_why 22 = .ok (.ifCond .ne 5, 3) := by decide +kernel
theorem dX11_why_25 : decode cX11_why 25 = .ok (.iconst (-1), 1) := by decide +kernel
theorem dX11_why_26 : decode cX11_why 26 = .ok (.ireturn, 1) := by decide +kernel
theorem dX11_why_27 : decode cX11_why 27 = .ok (.aload_n 0, 1) := by decide +kernel
theorem dX11_why_28 : decode cX11_why 28 = .ok (.getfield 24, 3) := by decide +kernel
theorem dX11_why_31 : decode cX11_why 31 = .ok (.invokevirtual 227, 3) := by decide +kernel
theorem dX11_why_34 : decode cX11_why 34 = .ok (.aload_n 0, 1) := by decide +kernel
theorem dX11_why_35 : decode cX11_why 35 = .ok (.getfield 24, 3) := by decide +kernel
theorem dX11_why_38 : decode cX11_why 38 = .ok (.getfield 230, 3) := by decide +kernel
theorem dX11_why_41 : decode cX11_why 41 = .ok (.iload_n 1, 1) := by decide +kernel
theorem dX11_why_42 : decode cX11_why 42 = .ok (.aaload, 1) := by decide +kernel
theorem dX11_why_43 : decode cX11_why 43 = .ok (.getfield 333, 3) := by decide +kernel
theorem dX11_why_46 : decode cX11_why 46 = .ok (.iload_n 2, 1) := by decide +kernel
theorem dX11_why_47 : decode cX11_why 47 = .ok (.iaload, 1) := by decide +kernel
theorem dX11_why_48 : decode cX11_why 48 = .ok (.ireturn, 1) := by decide +kernel
theorem dX11_row_0 : decode cX11_row 0 = .ok (.iload_n 1, 1) := by decide +kernel
theorem dX11_row_1 : decode cX11_row 1 = .ok (.aload_n 0, 1) := by decide +kernel
theorem dX11_row_2 : decode cX11_row 2 = .ok (.getfield 215, 3) := by decide +kernel
theorem dX11_row_5 : decode cX11_row 5 = .ok (.invokestatic 115, 3) := by decide +kernel
theorem dX11_row_8 : decode cX11_row 8 = .ok (.ifCond .eq 9, 3) := by decide +kernel
theorem dX11_row_11 : decode cX11_row 11 = .ok (.iload_n 1, 1) := by decide +kernel
theorem dX11_row_12 : decode cX11_row 12 = .ok (.bipush 6, 2) := by decide +kernel
theorem dX11_row_14 : decode cX11_row 14 = .ok (.if_icmp .lt 11, 3) := by decide +kernel
theorem dX11_row_17 : decode cX11_row 17 = .ok (.new 224, 3) := by decide +kernel
theorem dX11_row_20 : decode cX11_row 20 = .ok (.dup, 1) := by decide +kernel
theorem dX11_row_21 : decode cX11_row 21 = .ok (.invokespecial 226, 3) := by decide +kernel
theorem dX11_row_24 : decode cX11_row 24 = .ok (.athrow, 1) := by decide +kernel
theorem dX11_row_25 : decode cX11_row 25 = .ok (.aload_n 0, 1) := by decide +kernel
theorem dX11_row_26 : decode cX11_row 26 = .ok (.getfield 66, 3) := by decide +kernel
theorem dX11_row_29 : decode cX11_row 29 = .ok (.iload_n 1, 1) := by decide +kernel
theorem dX11_row_30 : decode cX11_row 30 = .ok (.iaload, 1) := by decide +kernel
theorem dX11_row_31 : decode cX11_row 31 = .ok (.ireturn, 1) := by decide +kernel
theorem dX11_takeTape_0 : decode cX11_takeTape 0 = .ok (.aload_n 0, 1) := by decide +kernel
theorem dX11_takeTape_1 : decode cX11_takeTape 1 = .ok (.getfield 218, 3) := by decide +kernel
theorem dX11_takeTape_4 : decode cX11_takeTape 4 = .ok (.istore_n 1, 1) := by decide +kernel
theorem dX11_takeTape_5 : decode cX11_takeTape 5 = .ok (.aload_n 0, 1) := by decide +kernel
theorem dX11_takeTape_6 : decode cX11_takeTape 6 = .ok (.iconst 0, 1) := by decide +kernel
theorem dX11_takeTape_7 : decode cX11_takeTape 7 = .ok (.putfield 218, 3) := by decide +kernel
theorem dX11_takeTape_10 : decode cX11_takeTape 10 = .ok (.iload_n 1, 1) := by decide +kernel
theorem dX11_takeTape_11 : decode cX11_takeTape 11 = .ok (.ireturn, 1) := by decide +kernel
theorem dX11_isWithin_0 : decode cX11_isWithin 0 = .ok (.iload_n 0, 1) := by decide +kernel
theorem dX11_isWithin_1 : decode cX11_isWithin 1 = .ok (.iload_n 1, 1) := by decide +kernel
theorem dX11_isWithin_2 : decode cX11_isWithin 2 = .ok (.if_icmp .lt 12, 3) := by decide +kernel
theorem dX11_isWithin_5 : decode cX11_isWithin 5 = .ok (.iload_n 0, 1) := by decide +kernel
theorem dX11_isWithin_6 : decode cX11_isWithin 6 = .ok (.iload_n 2, 1) := by decide +kernel
theorem dX11_isWithin_7 : decode cX11_isWithin 7 = .ok (.if_icmp .gt 7, 3) := by decide +kernel
theorem dX11_isWithin_10 : decode cX11_isWithin 10 = .ok (.iconst 1, 1) := by decide +kernel
theorem dX11_isWithin_11 : decode cX11_isWithin 11 = .ok (.goto 4, 3) := by decide +kernel
theorem dX11_isWithin_14 : decode cX11_isWithin 14 = .ok (.iconst 0, 1) := by decide +kernel
theorem dX11_isWithin_15 : decode cX11_isWithin 15 = .ok (.ireturn, 1) := by decide +kernel
theorem dX11_isIndex_0 : decode cX11_isIndex 0 = .ok (.iload_n 0, 1) := by decide +kernel
theorem dX11_isIndex_1 : decode cX11_isIndex 1 = .ok (.ifCond .lt 12, 3) := by decide +kernel
theorem dX11_isIndex_4 : decode cX11_isIndex 4 = .ok (.iload_n 0, 1) := by decide +kernel
theorem dX11_isIndex_5 : decode cX11_isIndex 5 = .ok (.iload_n 1, 1) := by decide +kernel
theorem dX11_isIndex_6 : decode cX11_isIndex 6 = .ok (.if_icmp .ge 7, 3) := by decide +kernel
theorem dX11_isIndex_9 : decode cX11_isIndex 9 = .ok (.iconst 1, 1) := by decide +kernel
theorem dX11_isIndex_10 : decode cX11_isIndex 10 = .ok (.goto 4, 3) := by decide +kernel
theorem dX11_isIndex_13 : decode cX11_isIndex 13 = .ok (.iconst 0, 1) := by decide +kernel
theorem dX11_isIndex_14 : decode cX11_isIndex 14 = .ok (.ireturn, 1) := by decide +kernel
theorem dX11_isDay_0 : decode cX11_isDay 0 = .ok (.iload_n 0, 1) := by decide +kernel
theorem dX11_isDay_1 : decode cX11_isDay 1 = .ok (.iconst 0, 1) := by decide +kernel
theorem dX11_isDay_2 : decode cX11_isDay 2 = .ok (.bipush 99, 2) := by decide +kernel
theorem dX11_isDay_4 : decode cX11_isDay 4 = .ok (.invokestatic 105, 3) := by decide +kernel
theorem dX11_isDay_7 : decode cX11_isDay 7 = .ok (.ireturn, 1) := by decide +kernel
theorem dJ7_fill_53178_0 : decode cJ7_fill_53178 0 = .ok (.iconst 0, 1) := by decide +kernel
theorem dJ7_fill_53178_1 : decode cJ7_fill_53178 1 = .ok (.istore_n 2, 1) := by decide +kernel
theorem dJ7_fill_53178_2 : decode cJ7_fill_53178 2 = .ok (.aload_n 0, 1) := by decide +kernel
theorem dJ7_fill_53178_3 : decode cJ7_fill_53178 3 = .ok (.arraylength, 1) := by decide +kernel
theorem dJ7_fill_53178_4 : decode cJ7_fill_53178 4 = .ok (.istore_n 3, 1) := by decide +kernel
theorem dJ7_fill_53178_5 : decode cJ7_fill_53178 5 = .ok (.iload_n 2, 1) := by decide +kernel
theorem dJ7_fill_53178_6 : decode cJ7_fill_53178 6 = .ok (.iload_n 3, 1) := by decide +kernel
theorem dJ7_fill_53178_7 : decode cJ7_fill_53178 7 = .ok (.if_icmp .ge 13, 3) := by decide +kernel
theorem dJ7_fill_53178_10 : decode cJ7_fill_53178 10 = .ok (.aload_n 0, 1) := by decide +kernel
theorem dJ7_fill_53178_11 : decode cJ7_fill_53178 11 = .ok (.iload_n 2, 1) := by decide +kernel
theorem dJ7_fill_53178_12 : decode cJ7_fill_53178 12 = .ok (.iload_n 1, 1) := by decide +kernel
theorem dJ7_fill_53178_13 : decode cJ7_fill_53178 13 = .ok (.iastore, 1) := by decide +kernel
theorem dJ7_fill_53178_14 : decode cJ7_fill_53178 14 = .ok (.iinc 2 1, 3) := by decide +kernel
theorem dJ7_fill_53178_17 : decode cJ7_fill_53178 17 = .ok (.goto (-12), 3) := by decide +kernel
theorem dJ7_fill_53178_20 : decode cJ7_fill_53178 20 = .ok (.return_, 1) := by decide +kernel
theorem dL_of_0 : decode cL_of 0 = .ok (.aload_n 3, 1) := by decide +kernel
theorem dL_of_1 : decode cL_of 1 = .ok (.iconst 0, 1) := by decide +kernel
theorem dL_of_2 : decode cL_of 2 = .ok (.aload_n 0, 1) := by decide +kernel
theorem dL_of_3 : decode cL_of 3 = .ok (.iload_n 1, 1) := by decide +kernel
theorem dL_of_4 : decode cL_of 4 = .ok (.iload_n 2, 1) := by decide +kernel
theorem dL_of_5 : decode cL_of 5 = .ok (.invokevirtual 7, 3) := by decide +kernel
theorem dL_of_8 : decode cL_of 8 = .ok (.i2l, 1) := by decide +kernel
theorem dL_of_9 : decode cL_of 9 = .ok (.lastore, 1) := by decide +kernel
theorem dL_of_10 : decode cL_of 10 = .ok (.goto 7, 3) := by decide +kernel
theorem dL_of_13 : decode cL_of 13 = .ok (.astore 4, 2) := by decide +kernel
theorem dL_of_15 : decode cL_of 15 = .ok (.iconst 1, 1) := by decide +kernel
theorem dL_of_16 : decode cL_of 16 = .ok (.ireturn, 1) := by decide +kernel
theorem dL_of_17 : decode cL_of 17 = .ok (.iconst 0, 1) := by decide +kernel
theorem dL_of_18 : decode cL_of 18 = .ok (.ireturn, 1) := by decide +kernel
theorem dL_sum_0 : decode cL_sum 0 = .ok (.aload_n 3, 1) := by decide +kernel
theorem dL_sum_1 : decode cL_sum 1 = .ok (.iconst 0, 1) := by decide +kernel
theorem dL_sum_2 : decode cL_sum 2 = .ok (.aload_n 0, 1) := by decide +kernel
theorem dL_sum_3 : decode cL_sum 3 = .ok (.iload_n 1, 1) := by decide +kernel
theorem dL_sum_4 : decode cL_sum 4 = .ok (.iload_n 2, 1) := by decide +kernel
theorem dL_sum_5 : decode cL_sum 5 = .ok (.invokevirtual 15, 3) := by decide +kernel
theorem dL_sum_8 : decode cL_sum 8 = .ok (.i2l, 1) := by decide +kernel
theorem dL_sum_9 : decode cL_sum 9 = .ok (.lastore, 1) := by decide +kernel
theorem dL_sum_10 : decode cL_sum 10 = .ok (.goto 7, 3) := by decide +kernel
theorem dL_sum_13 : decode cL_sum 13 = .ok (.astore 4, 2) := by decide +kernel
theorem dL_sum_15 : decode cL_sum 15 = .ok (.iconst 1, 1) := by decide +kernel
theorem dL_sum_16 : decode cL_sum 16 = .ok (.ireturn, 1) := by decide +kernel
theorem dL_sum_17 : decode cL_sum 17 = .ok (.iconst 0, 1) := by decide +kernel
theorem dL_sum_18 : decode cL_sum 18 = .ok (.ireturn, 1) := by decide +kernel
theorem dL_row_0 : decode cL_row 0 = .ok (.aload_n 2, 1) := by decide +kernel
theorem dL_row_1 : decode cL_row 1 = .ok (.iconst 0, 1) := by decide +kernel
theorem dL_row_2 : decode cL_row 2 = .ok (.aload_n 0, 1) := by decide +kernel
theorem dL_row_3 : decode cL_row 3 = .ok (.iload_n 1, 1) := by decide +kernel
theorem dL_row_4 : decode cL_row 4 = .ok (.invokevirtual 18, 3) := by decide +kernel
theorem dL_row_7 : decode cL_row 7 = .ok (.i2l, 1) := by decide +kernel
theorem dL_row_8 : decode cL_row 8 = .ok (.lastore, 1) := by decide +kernel
theorem dL_row_9 : decode cL_row 9 = .ok (.goto 6, 3) := by decide +kernel
theorem dL_row_12 : decode cL_row 12 = .ok (.astore_n 3, 1) := by decide +kernel
theorem dL_row_13 : decode cL_row 13 = .ok (.iconst 1, 1) := by decide +kernel
theorem dL_row_14 : decode cL_row 14 = .ok (.ireturn, 1) := by decide +kernel
theorem dL_row_15 : decode cL_row 15 = .ok (.iconst 0, 1) := by decide +kernel
theorem dL_row_16 : decode cL_row 16 = .ok (.ireturn, 1) := by decide +kernel

theorem dX0_init_0 : decode cX0_init 0 = .ok (.aload_n 0, 1) := by decide +kernel
theorem dX0_init_1 : decode cX0_init 1 = .ok (.invokespecial 3, 3) := by decide +kernel
theorem dX0_init_4 : decode cX0_init 4 = .ok (.aload_n 0, 1) := by decide +kernel
theorem dX0_init_5 : decode cX0_init 5 = .ok (.aload_n 1, 1) := by decide +kernel
theorem dX0_init_6 : decode cX0_init 6 = .ok (.putfield 9, 3) := by decide +kernel
theorem dX0_init_9 : decode cX0_init 9 = .ok (.aload_n 0, 1) := by decide +kernel
theorem dX0_init_10 : decode cX0_init 10 = .ok (.bipush 10, 2) := by decide +kernel
theorem dX0_init_12 : decode cX0_init 12 = .ok (.anewarray 15, 3) := by decide +kernel
theorem dX0_init_15 : decode cX0_init 15 = .ok (.putfield 17, 3) := by decide +kernel
theorem dX0_init_18 : decode cX0_init 18 = .ok (.aload_n 0, 1) := by decide +kernel
theorem dX0_init_19 : decode cX0_init 19 = .ok (.bipush 10, 2) := by decide +kernel
theorem dX0_init_21 : decode cX0_init 21 = .ok (.newarray .int, 2) := by decide +kernel
theorem dX0_init_23 : decode cX0_init 23 = .ok (.putfield 21, 3) := by decide +kernel
theorem dX0_init_26 : decode cX0_init 26 = .ok (.aload_n 0, 1) := by decide +kernel
theorem dX0_init_27 : decode cX0_init 27 = .ok (.new 25, 3) := by decide +kernel
theorem dX0_init_30 : decode cX0_init 30 = .ok (.dup, 1) := by decide +kernel
theorem dX0_init_31 : decode cX0_init 31 = .ok (.bipush 20, 2) := by decide +kernel
theorem dX0_init_33 : decode cX0_init 33 = .ok (.iconst 4, 1) := by decide +kernel
theorem dX0_init_34 : decode cX0_init 34 = .ok (.invokespecial 27, 3) := by decide +kernel
theorem dX0_init_37 : decode cX0_init 37 = .ok (.putfield 30, 3) := by decide +kernel
theorem dX0_init_40 : decode cX0_init 40 = .ok (.iconst 0, 1) := by decide +kernel
theorem dX0_init_41 : decode cX0_init 41 = .ok (.istore_n 2, 1) := by decide +kernel
theorem dX0_init_42 : decode cX0_init 42 = .ok (.iload_n 2, 1) := by decide +kernel
theorem dX0_init_43 : decode cX0_init 43 = .ok (.bipush 10, 2) := by decide +kernel
theorem dX0_init_45 : decode cX0_init 45 = .ok (.if_icmp .ge 22, 3) := by decide +kernel
theorem dX0_init_48 : decode cX0_init 48 = .ok (.aload_n 0, 1) := by decide +kernel
theorem dX0_init_49 : decode cX0_init 49 = .ok (.getfield 17, 3) := by decide +kernel
theorem dX0_init_52 : decode cX0_init 52 = .ok (.iload_n 2, 1) := by decide +kernel
theorem dX0_init_53 : decode cX0_init 53 = .ok (.new 15, 3) := by decide +kernel
theorem dX0_init_56 : decode cX0_init 56 = .ok (.dup, 1) := by decide +kernel
theorem dX0_init_57 : decode cX0_init 57 = .ok (.invokespecial 34, 3) := by decide +kernel
theorem dX0_init_60 : decode cX0_init 60 = .ok (.aastore, 1) := by decide +kernel
theorem dX0_init_61 : decode cX0_init 61 = .ok (.iinc 2 1, 3) := by decide +kernel
theorem dX0_init_64 : decode cX0_init 64 = .ok (.goto (-22), 3) := by decide +kernel
theorem dX0_init_67 : decode cX0_init 67 = .ok (.return_, 1) := by decide +kernel
theorem dX1_init_0 : decode cX1_init 0 = .ok (.aload_n 0, 1) := by decide +kernel
theorem dX1_init_1 : decode cX1_init 1 = .ok (.invokespecial 3, 3) := by decide +kernel
theorem dX1_init_4 : decode cX1_init 4 = .ok (.aload_n 0, 1) := by decide +kernel
theorem dX1_init_5 : decode cX1_init 5 = .ok (.new 9, 3) := by decide +kernel
theorem dX1_init_8 : decode cX1_init 8 = .ok (.dup, 1) := by decide +kernel
theorem dX1_init_9 : decode cX1_init 9 = .ok (.iconst 4, 1) := by decide +kernel
theorem dX1_init_10 : decode cX1_init 10 = .ok (.iconst 2, 1) := by decide +kernel
theorem dX1_init_11 : decode cX1_init 11 = .ok (.invokespecial 11, 3) := by decide +kernel
theorem dX1_init_14 : decode cX1_init 14 = .ok (.putfield 14, 3) := by decide +kernel
theorem dX1_init_17 : decode cX1_init 17 = .ok (.aload_n 0, 1) := by decide +kernel
theorem dX1_init_18 : decode cX1_init 18 = .ok (.new 9, 3) := by decide +kernel
theorem dX1_init_21 : decode cX1_init 21 = .ok (.dup, 1) := by decide +kernel
theorem dX1_init_22 : decode cX1_init 22 = .ok (.bipush 12, 2) := by decide +kernel
theorem dX1_init_24 : decode cX1_init 24 = .ok (.iconst 3, 1) := by decide +kernel
theorem dX1_init_25 : decode cX1_init 25 = .ok (.invokespecial 11, 3) := by decide +kernel
theorem dX1_init_28 : decode cX1_init 28 = .ok (.putfield 20, 3) := by decide +kernel
theorem dX1_init_31 : decode cX1_init 31 = .ok (.aload_n 0, 1) := by decide +kernel
theorem dX1_init_32 : decode cX1_init 32 = .ok (.new 9, 3) := by decide +kernel
theorem dX1_init_35 : decode cX1_init 35 = .ok (.dup, 1) := by decide +kernel
theorem dX1_init_36 : decode cX1_init 36 = .ok (.iconst 5, 1) := by decide +kernel
theorem dX1_init_37 : decode cX1_init 37 = .ok (.iconst 3, 1) := by decide +kernel
theorem dX1_init_38 : decode cX1_init 38 = .ok (.invokespecial 11, 3) := by decide +kernel
theorem dX1_init_41 : decode cX1_init 41 = .ok (.putfield 23, 3) := by decide +kernel
theorem dX1_init_44 : decode cX1_init 44 = .ok (.aload_n 0, 1) := by decide +kernel
theorem dX1_init_45 : decode cX1_init 45 = .ok (.new 9, 3) := by decide +kernel
theorem dX1_init_48 : decode cX1_init 48 = .ok (.dup, 1) := by decide +kernel
theorem dX1_init_49 : decode cX1_init 49 = .ok (.iconst 4, 1) := by decide +kernel
theorem dX1_init_50 : decode cX1_init 50 = .ok (.iconst 2, 1) := by decide +kernel
theorem dX1_init_51 : decode cX1_init 51 = .ok (.invokespecial 11, 3) := by decide +kernel
theorem dX1_init_54 : decode cX1_init 54 = .ok (.putfield 26, 3) := by decide +kernel
theorem dX1_init_57 : decode cX1_init 57 = .ok (.aload_n 0, 1) := by decide +kernel
theorem dX1_init_58 : decode cX1_init 58 = .ok (.new 9, 3) := by decide +kernel
theorem dX1_init_61 : decode cX1_init 61 = .ok (.dup, 1) := by decide +kernel
theorem dX1_init_62 : decode cX1_init 62 = .ok (.iconst 2, 1) := by decide +kernel
theorem dX1_init_63 : decode cX1_init 63 = .ok (.iconst 3, 1) := by decide +kernel
theorem dX1_init_64 : decode cX1_init 64 = .ok (.invokespecial 11, 3) := by decide +kernel
theorem dX1_init_67 : decode cX1_init 67 = .ok (.putfield 29, 3) := by decide +kernel
theorem dX1_init_70 : decode cX1_init 70 = .ok (.aload_n 0, 1) := by decide +kernel
theorem dX1_init_71 : decode cX1_init 71 = .ok (.new 32, 3) := by decide +kernel
theorem dX1_init_74 : decode cX1_init 74 = .ok (.dup, 1) := by decide +kernel
theorem dX1_init_75 : decode cX1_init 75 = .ok (.invokespecial 34, 3) := by decide +kernel
theorem dX1_init_78 : decode cX1_init 78 = .ok (.putfield 35, 3) := by decide +kernel
theorem dX1_init_81 : decode cX1_init 81 = .ok (.return_, 1) := by decide +kernel
theorem dX1_forget_0 : decode cX1_forget 0 = .ok (.aload_n 0, 1) := by decide +kernel
theorem dX1_forget_1 : decode cX1_forget 1 = .ok (.getfield 14, 3) := by decide +kernel
theorem dX1_forget_4 : decode cX1_forget 4 = .ok (.iconst 0, 1) := by decide +kernel
theorem dX1_forget_5 : decode cX1_forget 5 = .ok (.putfield 39, 3) := by decide +kernel
theorem dX1_forget_8 : decode cX1_forget 8 = .ok (.aload_n 0, 1) := by decide +kernel
theorem dX1_forget_9 : decode cX1_forget 9 = .ok (.getfield 20, 3) := by decide +kernel
theorem dX1_forget_12 : decode cX1_forget 12 = .ok (.iconst 0, 1) := by decide +kernel
theorem dX1_forget_13 : decode cX1_forget 13 = .ok (.putfield 39, 3) := by decide +kernel
theorem dX1_forget_16 : decode cX1_forget 16 = .ok (.aload_n 0, 1) := by decide +kernel
theorem dX1_forget_17 : decode cX1_forget 17 = .ok (.getfield 23, 3) := by decide +kernel
theorem dX1_forget_20 : decode cX1_forget 20 = .ok (.iconst 0, 1) := by decide +kernel
theorem dX1_forget_21 : decode cX1_forget 21 = .ok (.putfield 39, 3) := by decide +kernel
theorem dX1_forget_24 : decode cX1_forget 24 = .ok (.aload_n 0, 1) := by decide +kernel
theorem dX1_forget_25 : decode cX1_forget 25 = .ok (.getfield 26, 3) := by decide +kernel
theorem dX1_forget_28 : decode cX1_forget 28 = .ok (.iconst 0, 1) := by decide +kernel
theorem dX1_forget_29 : decode cX1_forget 29 = .ok (.putfield 39, 3) := by decide +kernel
theorem dX1_forget_32 : decode cX1_forget 32 = .ok (.aload_n 0, 1) := by decide +kernel
theorem dX1_forget_33 : decode cX1_forget 33 = .ok (.iconst 0, 1) := by decide +kernel
theorem dX1_forget_34 : decode cX1_forget 34 = .ok (.putfield 43, 3) := by decide +kernel
theorem dX1_forget_37 : decode cX1_forget 37 = .ok (.aload_n 0, 1) := by decide +kernel
theorem dX1_forget_38 : decode cX1_forget 38 = .ok (.iconst 0, 1) := by decide +kernel
theorem dX1_forget_39 : decode cX1_forget 39 = .ok (.putfield 47, 3) := by decide +kernel
theorem dX1_forget_42 : decode cX1_forget 42 = .ok (.return_, 1) := by decide +kernel
theorem dX2_init_0 : decode cX2_init 0 = .ok (.aload_n 0, 1) := by decide +kernel
theorem dX2_init_1 : decode cX2_init 1 = .ok (.invokespecial 3, 3) := by decide +kernel
theorem dX2_init_4 : decode cX2_init 4 = .ok (.aload_n 0, 1) := by decide +kernel
theorem dX2_init_5 : decode cX2_init 5 = .ok (.aload_n 1, 1) := by decide +kernel
theorem dX2_init_6 : decode cX2_init 6 = .ok (.putfield 9, 3) := by decide +kernel
theorem dX2_init_9 : decode cX2_init 9 = .ok (.aload_n 0, 1) := by decide +kernel
theorem dX2_init_10 : decode cX2_init 10 = .ok (.aload_n 2, 1) := by decide +kernel
theorem dX2_init_11 : decode cX2_init 11 = .ok (.putfield 15, 3) := by decide +kernel
theorem dX2_init_14 : decode cX2_init 14 = .ok (.aload_n 0, 1) := by decide +kernel
theorem dX2_init_15 : decode cX2_init 15 = .ok (.bipush 6, 2) := by decide +kernel
theorem dX2_init_17 : decode cX2_init 17 = .ok (.anewarray 19, 3) := by decide +kernel
theorem dX2_init_20 : decode cX2_init 20 = .ok (.putfield 21, 3) := by decide +kernel
theorem dX2_init_23 : decode cX2_init 23 = .ok (.aload_n 0, 1) := by decide +kernel
theorem dX2_init_24 : decode cX2_init 24 = .ok (.bipush 6, 2) := by decide +kernel
theorem dX2_init_26 : decode cX2_init 26 = .ok (.anewarray 25, 3) := by decide +kernel
theorem dX2_init_29 : decode cX2_init 29 = .ok (.putfield 27, 3) := by decide +kernel
theorem dX2_init_32 : decode cX2_init 32 = .ok (.aload_n 0, 1) := by decide +kernel
theorem dX2_init_33 : decode cX2_init 33 = .ok (.iconst 4, 1) := by decide +kernel
theorem dX2_init_34 : decode cX2_init 34 = .ok (.newarray .int, 2) := by decide +kernel
theorem dX2_init_36 : decode cX2_init 36 = .ok (.putfield 31, 3) := by decide +kernel
theorem dX2_init_39 : decode cX2_init 39 = .ok (.iconst 0, 1) := by decide +kernel
theorem dX2_init_40 : decode cX2_init 40 = .ok (.istore_n 3, 1) := by decide +kernel
theorem dX2_init_41 : decode cX2_init 41 = .ok (.iload_n 3, 1) := by decide +kernel
theorem dX2_init_42 : decode cX2_init 42 = .ok (.bipush 6, 2) := by decide +kernel
theorem dX2_init_44 : decode cX2_init 44 = .ok (.if_icmp .ge 35, 3) := by decide +kernel
theorem dX2_init_47 : decode cX2_init 47 = .ok (.aload_n 0, 1) := by decide +kernel
theorem dX2_init_48 : decode cX2_init 48 = .ok (.getfield 21, 3) := by decide +kernel
theorem dX2_init_51 : decode cX2_init 51 = .ok (.iload_n 3, 1) := by decide +kernel
theorem dX2_init_52 : decode cX2_init 52 = .ok (.new 19, 3) := by decide +kernel
theorem dX2_init_55 : decode cX2_init 55 = .ok (.dup, 1) := by decide +kernel
theorem dX2_init_56 : decode cX2_init 56 = .ok (.invokespecial 35, 3) := by decide +kernel
theorem dX2_init_59 : decode cX2_init 59 = .ok (.aastore, 1) := by decide +kernel
theorem dX2_init_60 : decode cX2_init 60 = .ok (.aload_n 0, 1) := by decide +kernel
theorem dX2_init_61 : decode cX2_init 61 = .ok (.getfield 27, 3) := by decide +kernel
theorem dX2_init_64 : decode cX2_init 64 = .ok (.iload_n 3, 1) := by decide +kernel
theorem dX2_init_65 : decode cX2_init 65 = .ok (.new 25, 3) := by decide +kernel
theorem dX2_init_68 : decode cX2_init 68 = .ok (.dup, 1) := by decide +kernel
theorem dX2_init_69 : decode cX2_init 69 = .ok (.invokespecial 36, 3) := by decide +kernel
theorem dX2_init_72 : decode cX2_init 72 = .ok (.aastore, 1) := by decide +kernel
theorem dX2_init_73 : decode cX2_init 73 = .ok (.iinc 3 1, 3) := by decide +kernel
theorem dX2_init_76 : decode cX2_init 76 = .ok (.goto (-35), 3) := by decide +kernel
theorem dX2_init_79 : decode cX2_init 79 = .ok (.return_, 1) := by decide +kernel
theorem dX2_has_0 : decode cX2_has 0 = .ok (.iload_n 1, 1) := by decide +kernel
theorem dX2_has_1 : decode cX2_has 1 = .ok (.aload_n 0, 1) := by decide +kernel
theorem dX2_has_2 : decode cX2_has 2 = .ok (.getfield 37, 3) := by decide +kernel
theorem dX2_has_5 : decode cX2_has 5 = .ok (.invokestatic 41, 3) := by decide +kernel
theorem dX2_has_8 : decode cX2_has 8 = .ok (.ifCond .eq 13, 3) := by decide +kernel
theorem dX2_has_11 : decode cX2_has 11 = .ok (.iload_n 1, 1) := by decide +kernel
theorem dX2_has_12 : decode cX2_has 12 = .ok (.bipush 6, 2) := by decide +kernel
theorem dX2_has_14 : decode cX2_has 14 = .ok (.if_icmp .ge 7, 3) := by decide +kernel
theorem dX2_has_17 : decode cX2_has 17 = .ok (.iconst 1, 1) := by decide +kernel
theorem dX2_has_18 : decode cX2_has 18 = .ok (.goto 4, 3) := by decide +kernel
theorem dX2_has_21 : decode cX2_has 21 = .ok (.iconst 0, 1) := by decide +kernel
theorem dX2_has_22 : decode cX2_has 22 = .ok (.ireturn, 1) := by decide +kernel
theorem dX2_optionCount_0 : decode cX2_optionCount 0 = .ok (.iconst 0, 1) := by decide +kernel
theorem dX2_optionCount_1 : decode cX2_optionCount 1 = .ok (.istore_n 1, 1) := by decide +kernel
theorem dX2_optionCount_2 : decode cX2_optionCount 2 = .ok (.iconst 0, 1) := by decide +kernel
theorem dX2_optionCount_3 : decode cX2_optionCount 3 = .ok (.istore_n 2, 1) := by decide +kernel
theorem dX2_optionCount_4 : decode cX2_optionCount 4 = .ok (.iload_n 2, 1) := by decide +kernel
theorem dX2_optionCount_5 : decode cX2_optionCount 5 = .ok (.aload_n 0, 1) := by decide +kernel
theorem dX2_optionCount_6 : decode cX2_optionCount 6 = .ok (.getfield 37, 3) := by decide +kernel
theorem dX2_optionCount_9 : decode cX2_optionCount 9 = .ok (.if_icmp .ge 30, 3) := by decide +kernel
theorem dX2_optionCount_12 : decode cX2_optionCount 12 = .ok (.iload_n 2, 1) := by decide +kernel
theorem dX2_optionCount_13 : decode cX2_optionCount 13 = .ok (.bipush 6, 2) := by decide +kernel
theorem dX2_optionCount_15 : decode cX2_optionCount 15 = .ok (.if_icmp .ge 24, 3) := by decide +kernel
theorem dX2_optionCount_18 : decode cX2_optionCount 18 = .ok (.iload_n 1, 1) := by decide +kernel
theorem dX2_optionCount_19 : decode cX2_optionCount 19 = .ok (.aload_n 0, 1) := by decide +kernel
theorem dX2_optionCount_20 : decode cX2_optionCount 20 = .ok (.getfield 21, 3) := by decide +kernel
theorem dX2_optionCount_23 : decode cX2_optionCount 23 = .ok (.iload_n 2, 1) := by decide +kernel
theorem dX2_optionCount_24 : decode cX2_optionCount 24 = .ok (.aaload, 1) := by decide +kernel
theorem dX2_optionCount_25 : decode cX2_optionCount 25 = .ok (.getfield 45, 3) := by decide +kernel
theorem dX2_optionCount_28 : decode cX2_optionCount 28 = .ok (.getfield 49, 3) := by decide +kernel
theorem dX2_optionCount_31 : decode cX2_optionCount 31 = .ok (.iadd, 1) := by decide +kernel
theorem dX2_optionCount_32 : decode cX2_optionCount 32 = .ok (.istore_n 1, 1) := by decide +kernel
theorem dX2_optionCount_33 : decode cX2_optionCount 33 = .ok (.iinc 2 1, 3) := by decide +kernel
theorem dX2_optionCount_36 : decode cX2_optionCount 36 = .ok (.goto (-32), 3) := by decide +kernel
theorem dX2_optionCount_39 : decode cX2_optionCount 39 = .ok (.iload_n 1, 1) := by decide +kernel
theorem dX2_optionCount_40 : decode cX2_optionCount 40 = .ok (.ireturn, 1) := by decide +kernel
theorem dX2_reckon_0 : decode cX2_reckon 0 = .ok (.aload_n 0, 1) := by decide +kernel
theorem dX2_reckon_1 : decode cX2_reckon 1 = .ok (.getfield 54, 3) := by decide +kernel
theorem dX2_reckon_4 : decode cX2_reckon 4 = .ok (.ifCond .ne 12, 3) := by decide +kernel
theorem dX2_reckon_7 : decode cX2_reckon 7 = .ok (.aload_n 0, 1) := by decide +kernel
theorem dX2_reckon_8 : decode cX2_reckon 8 = .ok (.invokevirtual 58, 3) := by decide +kernel
theorem dX2_reckon_11 : decode cX2_reckon 11 = .ok (.aload_n 0, 1) := by decide +kernel
theorem dX2_reckon_12 : decode cX2_reckon 12 = .ok (.iconst 1, 1) := by decide +kernel
theorem dX2_reckon_13 : decode cX2_reckon 13 = .ok (.putfield 54, 3) := by decide +kernel
theorem dX2_reckon_16 : decode cX2_reckon 16 = .ok (.return_, 1) := by decide +kernel
theorem dX2_run_0 : decode cX2_run 0 = .ok (.aload_n 0, 1) := by decide +kernel
theorem dX2_run_1 : decode cX2_run 1 = .ok (.iconst 0, 1) := by decide +kernel
theorem dX2_run_2 : decode cX2_run 2 = .ok (.putfield 54, 3) := by decide +kernel
theorem dX2_run_5 : decode cX2_run 5 = .ok (.aload_n 0, 1) := by decide +kernel
theorem dX2_run_6 : decode cX2_run 6 = .ok (.iconst 0, 1) := by decide +kernel
theorem dX2_run_7 : decode cX2_run 7 = .ok (.putfield 61, 3) := by decide +kernel
theorem dX2_run_10 : decode cX2_run 10 = .ok (.aload_n 0, 1) := by decide +kernel
theorem dX2_run_11 : decode cX2_run 11 = .ok (.getfield 31, 3) := by decide +kernel
theorem dX2_run_14 : decode cX2_run 14 = .ok (.iconst 0, 1) := by decide +kernel
theorem dX2_run_15 : decode cX2_run 15 = .ok (.invokestatic 64, 3) := by decide +kernel
theorem dX2_run_18 : decode cX2_run 18 = .ok (.iconst 0, 1) := by decide +kernel
theorem dX2_run_19 : decode cX2_run 19 = .ok (.istore_n 1, 1) := by decide +kernel
theorem dX2_run_20 : decode cX2_run 20 = .ok (.iload_n 1, 1) := by decide +kernel
theorem dX2_run_21 : decode cX2_run 21 = .ok (.aload_n 0, 1) := by decide +kernel
theorem dX2_run_22 : decode cX2_run 22 = .ok (.getfield 37, 3) := by decide +kernel
theorem dX2_run_25 : decode cX2_run 25 = .ok (.if_icmp .ge 42, 3) := by decide +kernel
theorem dX2_run_28 : decode cX2_run 28 = .ok (.iload_n 1, 1) := by decide +kernel
theorem dX2_run_29 : decode cX2_run 29 = .ok (.bipush 6, 2) := by decide +kernel
theorem dX2_run_31 : decode cX2_run 31 = .ok (.if_icmp .ge 36, 3) := by decide +kernel
theorem dX2_run_34 : decode cX2_run 34 = .ok (.aload_n 0, 1) := by decide +kernel
theorem dX2_run_35 : decode cX2_run 35 = .ok (.getfield 27, 3) := by decide +kernel
theorem dX2_run_38 : decode cX2_run 38 = .ok (.iload_n 1, 1) := by decide +kernel
theorem dX2_run_39 : decode cX2_run 39 = .ok (.aaload, 1) := by decide +kernel
theorem dX2_run_40 : decode cX2_run 40 = .ok (.aload_n 0, 1) := by decide +kernel
theorem dX2_run_41 : decode cX2_run 41 = .ok (.getfield 21, 3) := by decide +kernel
theorem dX2_run_44 : decode cX2_run 44 = .ok (.iload_n 1, 1) := by decide +kernel
theorem dX2_run_45 : decode cX2_run 45 = .ok (.aaload, 1) := by decide +kernel
theorem dX2_run_46 : decode cX2_run 46 = .ok (.aload_n 0, 1) := by decide +kernel
theorem dX2_run_47 : decode cX2_run 47 = .ok (.getfield 9, 3) := by decide +kernel
theorem dX2_run_50 : decode cX2_run 50 = .ok (.getfield 70, 3) := by decide +kernel
theorem dX2_run_53 : decode cX2_run 53 = .ok (.bipush 6, 2) := by decide +kernel
theorem dX2_run_55 : decode cX2_run 55 = .ok (.iaload, 1) := by decide +kernel
theorem dX2_run_56 : decode cX2_run 56 = .ok (.iload_n 1, 1) := by decide +kernel
theorem dX2_run_57 : decode cX2_run 57 = .ok (.imul, 1) := by decide +kernel
theorem dX2_run_58 : decode cX2_run 58 = .ok (.invokevirtual 75, 3) := by decide +kernel
theorem dX2_run_61 : decode cX2_run 61 = .ok (.iinc 1 1, 3) := by decide +kernel
theorem dX2_run_64 : decode cX2_run 64 = .ok (.goto (-44), 3) := by decide +kernel
theorem dX2_run_67 : decode cX2_run 67 = .ok (.iconst 0, 1) := by decide +kernel
theorem dX2_run_68 : decode cX2_run 68 = .ok (.istore_n 1, 1) := by decide +kernel
theorem dX2_run_69 : decode cX2_run 69 = .ok (.iload_n 1, 1) := by decide +kernel
theorem dX2_run_70 : decode cX2_run 70 = .ok (.sipush 361, 3) := by decide +kernel
theorem dX2_run_73 : decode cX2_run 73 = .ok (.if_icmp .ge 40, 3) := by decide +kernel
theorem dX2_run_76 : decode cX2_run 76 = .ok (.aload_n 0, 1) := by decide +kernel
theorem dX2_run_77 : decode cX2_run 77 = .ok (.invokevirtual 79, 3) := by decide +kernel
theorem dX2_run_80 : decode cX2_run 80 = .ok (.istore_n 2, 1) := by decide +kernel
theorem dX2_run_81 : decode cX2_run 81 = .ok (.aload_n 0, 1) := by decide +kernel
theorem dX2_run_82 : decode cX2_run 82 = .ok (.iload_n 2, 1) := by decide +kernel
theorem dX2_run_83 : decode cX2_run 83 = .ok (.invokevirtual 83, 3) := by decide +kernel
theorem dX2_run_86 : decode cX2_run 86 = .ok (.ifCond .ne 4, 3) := by decide +kernel
theorem dX2_run_89 : decode cX2_run 89 = .ok (.return_, 1) := by decide +kernel
theorem dX2_run_90 : decode cX2_run 90 = .ok (.aload_n 0, 1) := by decide +kernel
theorem dX2_run_91 : decode cX2_run 91 = .ok (.iload_n 2, 1) := by decide +kernel
theorem dX2_run_92 : decode cX2_run 92 = .ok (.aload_n 0, 1) := by decide +kernel
theorem dX2_run_93 : decode cX2_run 93 = .ok (.getfield 21, 3) := by decide +kernel
theorem dX2_run_96 : decode cX2_run 96 = .ok (.iload_n 2, 1) := by decide +kernel
theorem dX2_run_97 : decode cX2_run 97 = .ok (.aaload, 1) := by decide +kernel
theorem dX2_run_98 : decode cX2_run 98 = .ok (.aload_n 0, 1) := by decide +kernel
theorem dX2_run_99 : decode cX2_run 99 = .ok (.getfield 27, 3) := by decide +kernel
theorem dX2_run_102 : decode cX2_run 102 = .ok (.iload_n 2, 1) := by decide +kernel
theorem dX2_run_103 : decode cX2_run 103 = .ok (.aaload, 1) := by decide +kernel
theorem dX2_run_104 : decode cX2_run 104 = .ok (.invokevirtual 87, 3) := by decide +kernel
theorem dX2_run_107 : decode cX2_run 107 = .ok (.iinc 1 1, 3) := by decide +kernel
theorem dX2_run_110 : decode cX2_run 110 = .ok (.goto (-41), 3) := by decide +kernel
theorem dX2_run_113 : decode cX2_run 113 = .ok (.return_, 1) := by decide +kernel
theorem dX2_nextToGo_0 : decode cX2_nextToGo 0 = .ok (.iconst (-1), 1) := by decide +kernel
theorem dX2_nextToGo_1 : decode cX2_nextToGo 1 = .ok (.istore_n 1, 1) := by decide +kernel
theorem dX2_nextToGo_2 : decode cX2_nextToGo 2 = .ok (.iconst 0, 1) := by decide +kernel
theorem dX2_nextToGo_3 : decode cX2_nextToGo 3 = .ok (.istore_n 2, 1) := by decide +kernel
theorem dX2_nextToGo_4 : decode cX2_nextToGo 4 = .ok (.iload_n 2, 1) := by decide +kernel
theorem dX2_nextToGo_5 : decode cX2_nextToGo 5 = .ok (.aload_n 0, 1) := by decide +kernel
theorem dX2_nextToGo_6 : decode cX2_nextToGo 6 = .ok (.getfield 37, 3) := by decide +kernel
theorem dX2_nextToGo_9 : decode cX2_nextToGo 9 = .ok (.if_icmp .ge 52, 3) := by decide +kernel
theorem dX2_nextToGo_12 : decode cX2_nextToGo 12 = .ok (.iload_n 2, 1) := by decide +kernel
theorem dX2_nextToGo_13 : decode cX2_nextToGo 13 = .ok (.bipush 6, 2) := by decide +kernel
theorem dX2_nextToGo_15 : decode cX2_nextToGo 15 = .ok (.if_icmp .ge 46, 3) := by decide +kernel
theorem dX2_nextToGo_18 : decode cX2_nextToGo 18 = .ok (.aload_n 0, 1) := by decide +kernel
theorem dX2_nextToGo_19 : decode cX2_nextToGo 19 = .ok (.getfield 27, 3) := by decide +kernel
theorem dX2_nextToGo_22 : decode cX2_nextToGo 22 = .ok (.iload_n 2, 1) := by decide +kernel
theorem dX2_nextToGo_23 : decode cX2_nextToGo 23 = .ok (.aaload, 1) := by decide +kernel
theorem dX2_nextToGo_24 : decode cX2_nextToGo 24 = .ok (.getfield 91, 3) := by decide +kernel
theorem dX2_nextToGo_27 : decode cX2_nextToGo 27 = .ok (.ifCond .ne 28, 3) := by decide +kernel
theorem dX2_nextToGo_30 : decode cX2_nextToGo 30 = .ok (.iload_n 1, 1) := by decide +kernel
theorem dX2_nextToGo_31 : decode cX2_nextToGo 31 = .ok (.iconst (-1), 1) := by decide +kernel
theorem dX2_nextToGo_32 : decode cX2_nextToGo 32 = .ok (.if_icmp .eq 21, 3) := by decide +kernel
theorem dX2_nextToGo_35 : decode cX2_nextToGo 35 = .ok (.aload_n 0, 1) := by decide +kernel
theorem dX2_nextToGo_36 : decode cX2_nextToGo 36 = .ok (.getfield 27, 3) := by decide +kernel
theorem dX2_nextToGo_39 : decode cX2_nextToGo 39 = .ok (.iload_n 2, 1) := by decide +kernel
theorem dX2_nextToGo_40 : decode cX2_nextToGo 40 = .ok (.aaload, 1) := by decide +kernel
theorem dX2_nextToGo_41 : decode cX2_nextToGo 41 = .ok (.aload_n 0, 1) := by decide +kernel
theorem dX2_nextToGo_42 : decode cX2_nextToGo 42 = .ok (.getfield 27, 3) := by decide +kernel
theorem dX2_nextToGo_45 : decode cX2_nextToGo 45 = .ok (.iload_n 1, 1) := by decide +kernel
theorem dX2_nextToGo_46 : decode cX2_nextToGo 46 = .ok (.aaload, 1) := by decide +kernel
theorem dX2_nextToGo_47 : decode cX2_nextToGo 47 = .ok (.invokestatic 94, 3) := by decide +kernel
theorem dX2_nextToGo_50 : decode cX2_nextToGo 50 = .ok (.ifCond .eq 5, 3) := by decide +kernel
theorem dX2_nextToGo_53 : decode cX2_nextToGo 53 = .ok (.iload_n 2, 1) := by decide +kernel
theorem dX2_nextToGo_54 : decode cX2_nextToGo 54 = .ok (.istore_n 1, 1) := by decide +kernel
theorem dX2_nextToGo_55 : decode cX2_nextToGo 55 = .ok (.iinc 2 1, 3) := by decide +kernel
theorem dX2_nextToGo_58 : decode cX2_nextToGo 58 = .ok (.goto (-54), 3) := by decide +kernel
theorem dX2_nextToGo_61 : decode cX2_nextToGo 61 = .ok (.iload_n 1, 1) := by decide +kernel
theorem dX2_nextToGo_62 : decode cX2_nextToGo 62 = .ok (.ireturn, 1) := by decide +kernel
theorem dX2_inOrder_0 : decode cX2_inOrder 0 = .ok (.iconst 0, 1) := by decide +kernel
theorem dX2_inOrder_1 : decode cX2_inOrder 1 = .ok (.istore_n 3, 1) := by decide +kernel
theorem dX2_inOrder_2 : decode cX2_inOrder 2 = .ok (.iload_n 3, 1) := by decide +kernel
theorem dX2_inOrder_3 : decode cX2_inOrder 3 = .ok (.aload_n 0, 1) := by decide +kernel
theorem dX2_inOrder_4 : decode cX2_inOrder 4 = .ok (.getfield 37, 3) := by decide +kernel
theorem dX2_inOrder_7 : decode cX2_inOrder 7 = .ok (.if_icmp .ge 47, 3) := by decide +kernel
theorem dX2_inOrder_10 : decode cX2_inOrder 10 = .ok (.iload_n 3, 1) := by decide +kernel
theorem dX2_inOrder_11 : decode cX2_inOrder 11 = .ok (.bipush 6, 2) := by decide +kernel
theorem dX2_inOrder_13 : decode cX2_inOrder 13 = .ok (.if_icmp .ge 41, 3) := by decide +kernel
theorem dX2_inOrder_16 : decode cX2_inOrder 16 = .ok (.aload_n 0, 1) := by decide +kernel
theorem dX2_inOrder_17 : decode cX2_inOrder 17 = .ok (.getfield 27, 3) := by decide +kernel
theorem dX2_inOrder_20 : decode cX2_inOrder 20 = .ok (.iload_n 3, 1) := by decide +kernel
theorem dX2_inOrder_21 : decode cX2_inOrder 21 = .ok (.aaload, 1) := by decide +kernel
theorem dX2_inOrder_22 : decode cX2_inOrder 22 = .ok (.iload_n 1, 1) := by decide +kernel
theorem dX2_inOrder_23 : decode cX2_inOrder 23 = .ok (.invokevirtual 268, 3) := by decide +kernel
theorem dX2_inOrder_26 : decode cX2_inOrder 26 = .ok (.istore 4, 2) := by decide +kernel
theorem dX2_inOrder_28 : decode cX2_inOrder 28 = .ok (.iload 4, 2) := by decide +kernel
theorem dX2_inOrder_30 : decode cX2_inOrder 30 = .ok (.iconst (-1), 1) := by decide +kernel
theorem dX2_inOrder_31 : decode cX2_inOrder 31 = .ok (.if_icmp .eq 17, 3) := by decide +kernel
theorem dX2_inOrder_34 : decode cX2_inOrder 34 = .ok (.aload_n 0, 1) := by decide +kernel
theorem dX2_inOrder_35 : decode cX2_inOrder 35 = .ok (.iload_n 1, 1) := by decide +kernel
theorem dX2_inOrder_36 : decode cX2_inOrder 36 = .ok (.iload_n 3, 1) := by decide +kernel
theorem dX2_inOrder_37 : decode cX2_inOrder 37 = .ok (.iload 4, 2) := by decide +kernel
theorem dX2_inOrder_39 : decode cX2_inOrder 39 = .ok (.invokevirtual 308, 3) := by decide +kernel
theorem dX2_inOrder_42 : decode cX2_inOrder 42 = .ok (.iload_n 2, 1) := by decide +kernel
theorem dX2_inOrder_43 : decode cX2_inOrder 43 = .ok (.if_icmp .ne 5, 3) := by decide +kernel
theorem dX2_inOrder_46 : decode cX2_inOrder 46 = .ok (.iload_n 3, 1) := by decide +kernel
theorem dX2_inOrder_47 : decode cX2_inOrder 47 = .ok (.ireturn, 1) := by decide +kernel
theorem dX2_inOrder_48 : decode cX2_inOrder 48 = .ok (.iinc 3 1, 3) := by decide +kernel
theorem dX2_inOrder_51 : decode cX2_inOrder 51 = .ok (.goto (-49), 3) := by decide +kernel
theorem dX2_inOrder_54 : decode cX2_inOrder 54 = .ok (.iconst (-1), 1) := by decide +kernel
theorem dX2_inOrder_55 : decode cX2_inOrder 55 = .ok (.ireturn, 1) := by decide +kernel
theorem dX3_init_0 : decode cX3_init 0 = .ok (.aload_n 0, 1) := by decide +kernel
theorem dX3_init_1 : decode cX3_init 1 = .ok (.invokespecial 3, 3) := by decide +kernel
theorem dX3_init_4 : decode cX3_init 4 = .ok (.aload_n 0, 1) := by decide +kernel
theorem dX3_init_5 : decode cX3_init 5 = .ok (.bipush 60, 2) := by decide +kernel
theorem dX3_init_7 : decode cX3_init 7 = .ok (.newarray .int, 2) := by decide +kernel
theorem dX3_init_9 : decode cX3_init 9 = .ok (.putfield 9, 3) := by decide +kernel
theorem dX3_init_12 : decode cX3_init 12 = .ok (.aload_n 0, 1) := by decide +kernel
theorem dX3_init_13 : decode cX3_init 13 = .ok (.bipush 60, 2) := by decide +kernel
theorem dX3_init_15 : decode cX3_init 15 = .ok (.newarray .boolean, 2) := by decide +kernel
theorem dX3_init_17 : decode cX3_init 17 = .ok (.putfield 15, 3) := by decide +kernel
theorem dX3_init_20 : decode cX3_init 20 = .ok (.return_, 1) := by decide +kernel
theorem dX3_firstWrong_0 : decode cX3_firstWrong 0 = .ok (.aload_n 0, 1) := by decide +kernel
theorem dX3_firstWrong_1 : decode cX3_firstWrong 1 = .ok (.iload 4, 2) := by decide +kernel
theorem dX3_firstWrong_3 : decode cX3_firstWrong 3 = .ok (.putfield 19, 3) := by decide +kernel
theorem dX3_firstWrong_6 : decode cX3_firstWrong 6 = .ok (.aload_n 0, 1) := by decide +kernel
theorem dX3_firstWrong_7 : decode cX3_firstWrong 7 = .ok (.aload_n 3, 1) := by decide +kernel
theorem dX3_firstWrong_8 : decode cX3_firstWrong 8 = .ok (.putfield 23, 3) := by decide +kernel
theorem dX3_firstWrong_11 : decode cX3_firstWrong 11 = .ok (.aload_n 0, 1) := by decide +kernel
theorem dX3_firstWrong_12 : decode cX3_firstWrong 12 = .ok (.getfield 23, 3) := by decide +kernel
theorem dX3_firstWrong_15 : decode cX3_firstWrong 15 = .ok (.invokevirtual 27, 3) := by decide +kernel
theorem dX3_firstWrong_18 : decode cX3_firstWrong 18 = .ok (.aload_n 0, 1) := by decide +kernel
theorem dX3_firstWrong_19 : decode cX3_firstWrong 19 = .ok (.invokevirtual 32, 3) := by decide +kernel
theorem dX3_firstWrong_22 : decode cX3_firstWrong 22 = .ok (.iconst 0, 1) := by decide +kernel
theorem dX3_firstWrong_23 : decode cX3_firstWrong 23 = .ok (.istore 5, 2) := by decide +kernel
theorem dX3_firstWrong_25 : decode cX3_firstWrong 25 = .ok (.iload 5, 2) := by decide +kernel
theorem dX3_firstWrong_27 : decode cX3_firstWrong 27 = .ok (.iload_n 2, 1) := by decide +kernel
theorem dX3_firstWrong_28 : decode cX3_firstWrong 28 = .ok (.if_icmp .ge 37, 3) := by decide +kernel
theorem dX3_firstWrong_31 : decode cX3_firstWrong 31 = .ok (.iload 5, 2) := by decide +kernel
theorem dX3_firstWrong_33 : decode cX3_firstWrong 33 = .ok (.bipush 60, 2) := by decide +kernel
theorem dX3_firstWrong_35 : decode cX3_firstWrong 35 = .ok (.if_icmp .ge 30, 3) := by decide +kernel
theorem dX3_firstWrong_38 : decode cX3_firstWrong 38 = .ok (.iload 5, 2) := by decide +kernel
theorem dX3_firstWrong_40 : decode cX3_firstWrong 40 = .ok (.aload_n 1, 1) := by decide +kernel
theorem dX3_firstWrong_41 : decode cX3_firstWrong 41 = .ok (.arraylength, 1) := by decide +kernel
theorem dX3_firstWrong_42 : decode cX3_firstWrong 42 = .ok (.if_icmp .ge 23, 3) := by decide +kernel
theorem dX3_firstWrong_45 : decode cX3_firstWrong 45 = .ok (.aload_n 0, 1) := by decide +kernel
theorem dX3_firstWrong_46 : decode cX3_firstWrong 46 = .ok (.aload_n 1, 1) := by decide +kernel
theorem dX3_firstWrong_47 : decode cX3_firstWrong 47 = .ok (.iload 5, 2) := by decide +kernel
theorem dX3_firstWrong_49 : decode cX3_firstWrong 49 = .ok (.iaload, 1) := by decide +kernel
theorem dX3_firstWrong_50 : decode cX3_firstWrong 50 = .ok (.invokevirtual 35, 3) := by decide +kernel
theorem dX3_firstWrong_53 : decode cX3_firstWrong 53 = .ok (.ifCond .ne 6, 3) := by decide +kernel
theorem dX3_firstWrong_56 : decode cX3_firstWrong 56 = .ok (.iload 5, 2) := by decide +kernel
theorem dX3_firstWrong_58 : decode cX3_firstWrong 58 = .ok (.ireturn, 1) := by decide +kernel
theorem dX3_firstWrong_59 : decode cX3_firstWrong 59 = .ok (.iinc 5 1, 3) := by decide +kernel
theorem dX3_firstWrong_62 : decode cX3_firstWrong 62 = .ok (.goto (-37), 3) := by decide +kernel
theorem dX3_firstWrong_65 : decode cX3_firstWrong 65 = .ok (.iload_n 2, 1) := by decide +kernel
theorem dX3_firstWrong_66 : decode cX3_firstWrong 66 = .ok (.bipush 60, 2) := by decide +kernel
theorem dX3_firstWrong_68 : decode cX3_firstWrong 68 = .ok (.if_icmp .le 6, 3) := by decide +kernel
theorem dX3_firstWrong_71 : decode cX3_firstWrong 71 = .ok (.bipush 60, 2) := by decide +kernel
theorem dX3_firstWrong_73 : decode cX3_firstWrong 73 = .ok (.ireturn, 1) := by decide +kernel
theorem dX3_firstWrong_74 : decode cX3_firstWrong 74 = .ok (.aload_n 0, 1) := by decide +kernel
theorem dX3_firstWrong_75 : decode cX3_firstWrong 75 = .ok (.getfield 19, 3) := by decide +kernel
theorem dX3_firstWrong_78 : decode cX3_firstWrong 78 = .ok (.ifCond .eq 20, 3) := by decide +kernel
theorem dX3_firstWrong_81 : decode cX3_firstWrong 81 = .ok (.aload_n 0, 1) := by decide +kernel
theorem dX3_firstWrong_82 : decode cX3_firstWrong 82 = .ok (.getfield 39, 3) := by decide +kernel
theorem dX3_firstWrong_85 : decode cX3_firstWrong 85 = .ok (.bipush 7, 2) := by decide +kernel
theorem dX3_firstWrong_87 : decode cX3_firstWrong 87 = .ok (.if_icmp .ne 7, 3) := by decide +kernel
theorem dX3_firstWrong_90 : decode cX3_firstWrong 90 = .ok (.iconst 1, 1) := by decide +kernel
theorem dX3_firstWrong_91 : decode cX3_firstWrong 91 = .ok (.goto 35, 3) := by decide +kernel
theorem dX3_firstWrong_94 : decode cX3_firstWrong 94 = .ok (.iconst 0, 1) := by decide +kernel
theorem dX3_firstWrong_95 : decode cX3_firstWrong 95 = .ok (.goto 31, 3) := by decide +kernel
theorem dX3_firstWrong_98 : decode cX3_firstWrong 98 = .ok (.aload_n 0, 1) := by decide +kernel
theorem dX3_firstWrong_99 : decode cX3_firstWrong 99 = .ok (.getfield 39, 3) := by decide +kernel
theorem dX3_firstWrong_102 : decode cX3_firstWrong 102 = .ok (.iconst 5, 1) := by decide +kernel
theorem dX3_firstWrong_103 : decode cX3_firstWrong 103 = .ok (.if_icmp .eq 18, 3) := by decide +kernel
theorem dX3_firstWrong_106 : decode cX3_firstWrong 106 = .ok (.aload_n 0, 1) := by decide +kernel
theorem dX3_firstWrong_107 : decode cX3_firstWrong 107 = .ok (.getfield 39, 3) := by decide +kernel
theorem dX3_firstWrong_110 : decode cX3_firstWrong 110 = .ok (.iconst 4, 1) := by decide +kernel
theorem dX3_firstWrong_111 : decode cX3_firstWrong 111 = .ok (.if_icmp .ne 14, 3) := by decide +kernel
theorem dX3_firstWrong_114 : decode cX3_firstWrong 114 = .ok (.aload_n 0, 1) := by decide +kernel
theorem dX3_firstWrong_115 : decode cX3_firstWrong 115 = .ok (.getfield 43, 3) := by decide +kernel
theorem dX3_firstWrong_118 : decode cX3_firstWrong 118 = .ok (.ifCond .le 7, 3) := by decide +kernel
theorem dX3_firstWrong_121 : decode cX3_firstWrong 121 = .ok (.iconst 1, 1) := by decide +kernel
theorem dX3_firstWrong_122 : decode cX3_firstWrong 122 = .ok (.goto 4, 3) := by decide +kernel
theorem dX3_firstWrong_125 : decode cX3_firstWrong 125 = .ok (.iconst 0, 1) := by decide +kernel
theorem dX3_firstWrong_126 : decode cX3_firstWrong 126 = .ok (.istore 5, 2) := by decide +kernel
theorem dX3_firstWrong_128 : decode cX3_firstWrong 128 = .ok (.iload 5, 2) := by decide +kernel
theorem dX3_firstWrong_130 : decode cX3_firstWrong 130 = .ok (.ifCond .eq 7, 3) := by decide +kernel
theorem dX3_firstWrong_133 : decode cX3_firstWrong 133 = .ok (.iconst (-1), 1) := by decide +kernel
theorem dX3_firstWrong_134 : decode cX3_firstWrong 134 = .ok (.goto 4, 3) := by decide +kernel
theorem dX3_firstWrong_137 : decode cX3_firstWrong 137 = .ok (.iload_n 2, 1) := by decide +kernel
theorem dX3_firstWrong_138 : decode cX3_firstWrong 138 = .ok (.ireturn, 1) := by decide +kernel
theorem dX3_beginLine_0 : decode cX3_beginLine 0 = .ok (.aload_n 0, 1) := by decide +kernel
theorem dX3_beginLine_1 : decode cX3_beginLine 1 = .ok (.iconst 0, 1) := by decide +kernel
theorem dX3_beginLine_2 : decode cX3_beginLine 2 = .ok (.putfield 39, 3) := by decide +kernel
theorem dX3_beginLine_5 : decode cX3_beginLine 5 = .ok (.aload_n 0, 1) := by decide +kernel
theorem dX3_beginLine_6 : decode cX3_beginLine 6 = .ok (.iconst 0, 1) := by decide +kernel
theorem dX3_beginLine_7 : decode cX3_beginLine 7 = .ok (.putfield 46, 3) := by decide +kernel
theorem dX3_beginLine_10 : decode cX3_beginLine 10 = .ok (.aload_n 0, 1) := by decide +kernel
theorem dX3_beginLine_11 : decode cX3_beginLine 11 = .ok (.iconst 0, 1) := by decide +kernel
theorem dX3_beginLine_12 : decode cX3_beginLine 12 = .ok (.putfield 49, 3) := by decide +kernel
theorem dX3_beginLine_15 : decode cX3_beginLine 15 = .ok (.aload_n 0, 1) := by decide +kernel
theorem dX3_beginLine_16 : decode cX3_beginLine 16 = .ok (.iconst 0, 1) := by decide +kernel
theorem dX3_beginLine_17 : decode cX3_beginLine 17 = .ok (.putfield 43, 3) := by decide +kernel
theorem dX3_beginLine_20 : decode cX3_beginLine 20 = .ok (.aload_n 0, 1) := by decide +kernel
theorem dX3_beginLine_21 : decode cX3_beginLine 21 = .ok (.iconst 0, 1) := by decide +kernel
theorem dX3_beginLine_22 : decode cX3_beginLine 22 = .ok (.putfield 52, 3) := by decide +kernel
theorem dX3_beginLine_25 : decode cX3_beginLine 25 = .ok (.return_, 1) := by decide +kernel
theorem dX4_init_0 : decode cX4_init 0 = .ok (.aload_n 0, 1) := by decide +kernel
theorem dX4_init_1 : decode cX4_init 1 = .ok (.invokespecial 3, 3) := by decide +kernel
theorem dX4_init_4 : decode cX4_init 4 = .ok (.aload_n 0, 1) := by decide +kernel
theorem dX4_init_5 : decode cX4_init 5 = .ok (.bipush 26, 2) := by decide +kernel
theorem dX4_init_7 : decode cX4_init 7 = .ok (.newarray .int, 2) := by decide +kernel
theorem dX4_init_9 : decode cX4_init 9 = .ok (.putfield 11, 3) := by decide +kernel
theorem dX4_init_12 : decode cX4_init 12 = .ok (.aload_n 0, 1) := by decide +kernel
theorem dX4_init_13 : decode cX4_init 13 = .ok (.bipush 60, 2) := by decide +kernel
theorem dX4_init_15 : decode cX4_init 15 = .ok (.newarray .int, 2) := by decide +kernel
theorem dX4_init_17 : decode cX4_init 17 = .ok (.putfield 15, 3) := by decide +kernel
theorem dX4_init_20 : decode cX4_init 20 = .ok (.return_, 1) := by decide +kernel
theorem dX5_init_0 : decode cX5_init 0 = .ok (.aload_n 0, 1) := by decide +kernel
theorem dX5_init_1 : decode cX5_init 1 = .ok (.invokespecial 3, 3) := by decide +kernel
theorem dX5_init_4 : decode cX5_init 4 = .ok (.aload_n 0, 1) := by decide +kernel
theorem dX5_init_5 : decode cX5_init 5 = .ok (.aload_n 1, 1) := by decide +kernel
theorem dX5_init_6 : decode cX5_init 6 = .ok (.putfield 9, 3) := by decide +kernel
theorem dX5_init_9 : decode cX5_init 9 = .ok (.aload_n 0, 1) := by decide +kernel
theorem dX5_init_10 : decode cX5_init 10 = .ok (.aload_n 2, 1) := by decide +kernel
theorem dX5_init_11 : decode cX5_init 11 = .ok (.putfield 15, 3) := by decide +kernel
theorem dX5_init_14 : decode cX5_init 14 = .ok (.aload_n 0, 1) := by decide +kernel
theorem dX5_init_15 : decode cX5_init 15 = .ok (.bipush 6, 2) := by decide +kernel
theorem dX5_init_17 : decode cX5_init 17 = .ok (.newarray .boolean, 2) := by decide +kernel
theorem dX5_init_19 : decode cX5_init 19 = .ok (.putfield 19, 3) := by decide +kernel
theorem dX5_init_22 : decode cX5_init 22 = .ok (.aload_n 0, 1) := by decide +kernel
theorem dX5_init_23 : decode cX5_init 23 = .ok (.bipush 6, 2) := by decide +kernel
theorem dX5_init_25 : decode cX5_init 25 = .ok (.newarray .int, 2) := by decide +kernel
theorem dX5_init_27 : decode cX5_init 27 = .ok (.putfield 23, 3) := by decide +kernel
theorem dX5_init_30 : decode cX5_init 30 = .ok (.aload_n 0, 1) := by decide +kernel
theorem dX5_init_31 : decode cX5_init 31 = .ok (.bipush 6, 2) := by decide +kernel
theorem dX5_init_33 : decode cX5_init 33 = .ok (.newarray .int, 2) := by decide +kernel
theorem dX5_init_35 : decode cX5_init 35 = .ok (.putfield 27, 3) := by decide +kernel
theorem dX5_init_38 : decode cX5_init 38 = .ok (.return_, 1) := by decide +kernel
theorem dX5_reckonFor_0 : decode cX5_reckonFor 0 = .ok (.iconst 0, 1) := by decide +kernel
theorem dX5_reckonFor_1 : decode cX5_reckonFor 1 = .ok (.istore_n 2, 1) := by decide +kernel
theorem dX5_reckonFor_2 : decode cX5_reckonFor 2 = .ok (.iload_n 2, 1) := by decide +kernel
theorem dX5_reckonFor_3 : decode cX5_reckonFor 3 = .ok (.aload_n 0, 1) := by decide +kernel
theorem dX5_reckonFor_4 : decode cX5_reckonFor 4 = .ok (.getfield 9, 3) := by decide +kernel
theorem dX5_reckonFor_7 : decode cX5_reckonFor 7 = .ok (.getfield 30, 3) := by decide +kernel
theorem dX5_reckonFor_10 : decode cX5_reckonFor 10 = .ok (.if_icmp .ge 127, 3) := by decide +kernel
theorem dX5_reckonFor_13 : decode cX5_reckonFor 13 = .ok (.iload_n 2, 1) := by decide +kernel
theorem dX5_reckonFor_14 : decode cX5_reckonFor 14 = .ok (.bipush 6, 2) := by decide +kernel
theorem dX5_reckonFor_16 : decode cX5_reckonFor 16 = .ok (.if_icmp .ge 121, 3) := by decide +kernel
theorem dX5_reckonFor_19 : decode cX5_reckonFor 19 = .ok (.aload_n 0, 1) := by decide +kernel
theorem dX5_reckonFor_20 : decode cX5_reckonFor 20 = .ok (.getfield 9, 3) := by decide +kernel
theorem dX5_reckonFor_23 : decode cX5_reckonFor 23 = .ok (.getfield 36, 3) := by decide +kernel
theorem dX5_reckonFor_26 : decode cX5_reckonFor 26 = .ok (.iload_n 2, 1) := by decide +kernel
theorem dX5_reckonFor_27 : decode cX5_reckonFor 27 = .ok (.aaload, 1) := by decide +kernel
theorem dX5_reckonFor_28 : decode cX5_reckonFor 28 = .ok (.astore_n 3, 1) := by decide +kernel
theorem dX5_reckonFor_29 : decode cX5_reckonFor 29 = .ok (.aload_n 0, 1) := by decide +kernel
theorem dX5_reckonFor_30 : decode cX5_reckonFor 30 = .ok (.getfield 23, 3) := by decide +kernel
theorem dX5_reckonFor_33 : decode cX5_reckonFor 33 = .ok (.iload_n 2, 1) := by decide +kernel
theorem dX5_reckonFor_34 : decode cX5_reckonFor 34 = .ok (.aload_n 0, 1) := by decide +kernel
theorem dX5_reckonFor_35 : decode cX5_reckonFor 35 = .ok (.getfield 9, 3) := by decide +kernel
theorem dX5_reckonFor_38 : decode cX5_reckonFor 38 = .ok (.iload_n 2, 1) := by decide +kernel
theorem dX5_reckonFor_39 : decode cX5_reckonFor 39 = .ok (.invokevirtual 40, 3) := by decide +kernel
theorem dX5_reckonFor_42 : decode cX5_reckonFor 42 = .ok (.iastore, 1) := by decide +kernel
theorem dX5_reckonFor_43 : decode cX5_reckonFor 43 = .ok (.aload_n 0, 1) := by decide +kernel
theorem dX5_reckonFor_44 : decode cX5_reckonFor 44 = .ok (.getfield 15, 3) := by decide +kernel
theorem dX5_reckonFor_47 : decode cX5_reckonFor 47 = .ok (.aload_n 0, 1) := by decide +kernel
theorem dX5_reckonFor_48 : decode cX5_reckonFor 48 = .ok (.getfield 9, 3) := by decide +kernel
theorem dX5_reckonFor_51 : decode cX5_reckonFor 51 = .ok (.getfield 44, 3) := by decide +kernel
theorem dX5_reckonFor_54 : decode cX5_reckonFor 54 = .ok (.iload_n 2, 1) := by decide +kernel
theorem dX5_reckonFor_55 : decode cX5_reckonFor 55 = .ok (.aaload, 1) := by decide +kernel
theorem dX5_reckonFor_56 : decode cX5_reckonFor 56 = .ok (.aload_n 3, 1) := by decide +kernel
theorem dX5_reckonFor_57 : decode cX5_reckonFor 57 = .ok (.aload_n 0, 1) := by decide +kernel
theorem dX5_reckonFor_58 : decode cX5_reckonFor 58 = .ok (.getfield 23, 3) := by decide +kernel
theorem dX5_reckonFor_61 : decode cX5_reckonFor 61 = .ok (.iload_n 2, 1) := by decide +kernel
theorem dX5_reckonFor_62 : decode cX5_reckonFor 62 = .ok (.iaload, 1) := by decide +kernel
theorem dX5_reckonFor_63 : decode cX5_reckonFor 63 = .ok (.aload_n 0, 1) := by decide +kernel
theorem dX5_reckonFor_64 : decode cX5_reckonFor 64 = .ok (.getfield 15, 3) := by decide +kernel
theorem dX5_reckonFor_67 : decode cX5_reckonFor 67 = .ok (.iload_n 2, 1) := by decide +kernel
theorem dX5_reckonFor_68 : decode cX5_reckonFor 68 = .ok (.iload_n 1, 1) := by decide +kernel
theorem dX5_reckonFor_69 : decode cX5_reckonFor 69 = .ok (.invokevirtual 48, 3) := by decide +kernel
theorem dX5_reckonFor_72 : decode cX5_reckonFor 72 = .ok (.iload_n 1, 1) := by decide +kernel
theorem dX5_reckonFor_73 : decode cX5_reckonFor 73 = .ok (.invokevirtual 54, 3) := by decide +kernel
theorem dX5_reckonFor_76 : decode cX5_reckonFor 76 = .ok (.istore 4, 2) := by decide +kernel
theorem dX5_reckonFor_78 : decode cX5_reckonFor 78 = .ok (.aload_n 0, 1) := by decide +kernel
theorem dX5_reckonFor_79 : decode cX5_reckonFor 79 = .ok (.getfield 19, 3) := by decide +kernel
theorem dX5_reckonFor_82 : decode cX5_reckonFor 82 = .ok (.iload_n 2, 1) := by decide +kernel
theorem dX5_reckonFor_83 : decode cX5_reckonFor 83 = .ok (.aload_n 3, 1) := by decide +kernel
theorem dX5_reckonFor_84 : decode cX5_reckonFor 84 = .ok (.getfield 58, 3) := by decide +kernel
theorem dX5_reckonFor_87 : decode cX5_reckonFor 87 = .ok (.iconst 2, 1) := by decide +kernel
theorem dX5_reckonFor_88 : decode cX5_reckonFor 88 = .ok (.if_icmp .eq 14, 3) := by decide +kernel
theorem dX5_reckonFor_91 : decode cX5_reckonFor 91 = .ok (.iload 4, 2) := by decide +kernel
theorem dX5_reckonFor_93 : decode cX5_reckonFor 93 = .ok (.bipush (-2), 2) := by decide +kernel
theorem dX5_reckonFor_95 : decode cX5_reckonFor 95 = .ok (.if_icmp .eq 7, 3) := by decide +kernel
theorem dX5_reckonFor_98 : decode cX5_reckonFor 98 = .ok (.iconst 1, 1) := by decide +kernel
theorem dX5_reckonFor_99 : decode cX5_reckonFor 99 = .ok (.goto 4, 3) := by decide +kernel
theorem dX5_reckonFor_102 : decode cX5_reckonFor 102 = .ok (.iconst 0, 1) := by decide +kernel
theorem dX5_reckonFor_103 : decode cX5_reckonFor 103 = .ok (.bastore, 1) := by decide +kernel
theorem dX5_reckonFor_104 : decode cX5_reckonFor 104 = .ok (.aload_n 0, 1) := by decide +kernel
theorem dX5_reckonFor_105 : decode cX5_reckonFor 105 = .ok (.getfield 27, 3) := by decide +kernel
theorem dX5_reckonFor_108 : decode cX5_reckonFor 108 = .ok (.iload_n 2, 1) := by decide +kernel
theorem dX5_reckonFor_109 : decode cX5_reckonFor 109 = .ok (.aload_n 3, 1) := by decide +kernel
theorem dX5_reckonFor_110 : decode cX5_reckonFor 110 = .ok (.getfield 63, 3) := by decide +kernel
theorem dX5_reckonFor_113 : decode cX5_reckonFor 113 = .ok (.sipush 1000, 3) := by decide +kernel
theorem dX5_reckonFor_116 : decode cX5_reckonFor 116 = .ok (.iload 4, 2) := by decide +kernel
theorem dX5_reckonFor_118 : decode cX5_reckonFor 118 = .ok (.imul, 1) := by decide +kernel
theorem dX5_reckonFor_119 : decode cX5_reckonFor 119 = .ok (.iadd, 1) := by decide +kernel
theorem dX5_reckonFor_120 : decode cX5_reckonFor 120 = .ok (.aload_n 0, 1) := by decide +kernel
theorem dX5_reckonFor_121 : decode cX5_reckonFor 121 = .ok (.getfield 15, 3) := by decide +kernel
theorem dX5_reckonFor_124 : decode cX5_reckonFor 124 = .ok (.iload_n 2, 1) := by decide +kernel
theorem dX5_reckonFor_125 : decode cX5_reckonFor 125 = .ok (.iload_n 1, 1) := by decide +kernel
theorem dX5_reckonFor_126 : decode cX5_reckonFor 126 = .ok (.invokevirtual 66, 3) := by decide +kernel
theorem dX5_reckonFor_129 : decode cX5_reckonFor 129 = .ok (.iadd, 1) := by decide +kernel
theorem dX5_reckonFor_130 : decode cX5_reckonFor 130 = .ok (.iastore, 1) := by decide +kernel
theorem dX5_reckonFor_131 : decode cX5_reckonFor 131 = .ok (.iinc 2 1, 3) := by decide +kernel
theorem dX5_reckonFor_134 : decode cX5_reckonFor 134 = .ok (.goto (-132), 3) := by decide +kernel
theorem dX5_reckonFor_137 : decode cX5_reckonFor 137 = .ok (.return_, 1) := by decide +kernel
theorem dX6_init_0 : decode cX6_init 0 = .ok (.aload_n 0, 1) := by decide +kernel
theorem dX6_init_1 : decode cX6_init 1 = .ok (.invokespecial 3, 3) := by decide +kernel
theorem dX6_init_4 : decode cX6_init 4 = .ok (.aload_n 0, 1) := by decide +kernel
theorem dX6_init_5 : decode cX6_init 5 = .ok (.iconst 4, 1) := by decide +kernel
theorem dX6_init_6 : decode cX6_init 6 = .ok (.newarray .int, 2) := by decide +kernel
theorem dX6_init_8 : decode cX6_init 8 = .ok (.putfield 9, 3) := by decide +kernel
theorem dX6_init_11 : decode cX6_init 11 = .ok (.aload_n 0, 1) := by decide +kernel
theorem dX6_init_12 : decode cX6_init 12 = .ok (.bipush 60, 2) := by decide +kernel
theorem dX6_init_14 : decode cX6_init 14 = .ok (.newarray .int, 2) := by decide +kernel
theorem dX6_init_16 : decode cX6_init 16 = .ok (.putfield 15, 3) := by decide +kernel
theorem dX6_init_19 : decode cX6_init 19 = .ok (.aload_n 0, 1) := by decide +kernel
theorem dX6_init_20 : decode cX6_init 20 = .ok (.bipush 12, 2) := by decide +kernel
theorem dX6_init_22 : decode cX6_init 22 = .ok (.newarray .int, 2) := by decide +kernel
theorem dX6_init_24 : decode cX6_init 24 = .ok (.putfield 18, 3) := by decide +kernel
theorem dX6_init_27 : decode cX6_init 27 = .ok (.aload_n 0, 1) := by decide +kernel
theorem dX6_init_28 : decode cX6_init 28 = .ok (.iconst 5, 1) := by decide +kernel
theorem dX6_init_29 : decode cX6_init 29 = .ok (.newarray .int, 2) := by decide +kernel
theorem dX6_init_31 : decode cX6_init 31 = .ok (.putfield 21, 3) := by decide +kernel
theorem dX6_init_34 : decode cX6_init 34 = .ok (.aload_n 0, 1) := by decide +kernel
theorem dX6_init_35 : decode cX6_init 35 = .ok (.iconst 5, 1) := by decide +kernel
theorem dX6_init_36 : decode cX6_init 36 = .ok (.newarray .int, 2) := by decide +kernel
theorem dX6_init_38 : decode cX6_init 38 = .ok (.putfield 24, 3) := by decide +kernel
theorem dX6_init_41 : decode cX6_init 41 = .ok (.return_, 1) := by decide +kernel
theorem dX7_init_0 : decode cX7_init 0 = .ok (.aload_n 0, 1) := by decide +kernel
theorem dX7_init_1 : decode cX7_init 1 = .ok (.invokespecial 3, 3) := by decide +kernel
theorem dX7_init_4 : decode cX7_init 4 = .ok (.aload_n 0, 1) := by decide +kernel
theorem dX7_init_5 : decode cX7_init 5 = .ok (.iload_n 1, 1) := by decide +kernel
theorem dX7_init_6 : decode cX7_init 6 = .ok (.putfield 9, 3) := by decide +kernel
theorem dX7_init_9 : decode cX7_init 9 = .ok (.aload_n 0, 1) := by decide +kernel
theorem dX7_init_10 : decode cX7_init 10 = .ok (.iload_n 2, 1) := by decide +kernel
theorem dX7_init_11 : decode cX7_init 11 = .ok (.putfield 15, 3) := by decide +kernel
theorem dX7_init_14 : decode cX7_init 14 = .ok (.aload_n 0, 1) := by decide +kernel
theorem dX7_init_15 : decode cX7_init 15 = .ok (.iconst 0, 1) := by decide +kernel
theorem dX7_init_16 : decode cX7_init 16 = .ok (.iload_n 1, 1) := by decide +kernel
theorem dX7_init_17 : decode cX7_init 17 = .ok (.iload_n 2, 1) := by decide +kernel
theorem dX7_init_18 : decode cX7_init 18 = .ok (.imul, 1) := by decide +kernel
theorem dX7_init_19 : decode cX7_init 19 = .ok (.invokestatic 18, 3) := by decide +kernel
theorem dX7_init_22 : decode cX7_init 22 = .ok (.newarray .int, 2) := by decide +kernel
theorem dX7_init_24 : decode cX7_init 24 = .ok (.putfield 24, 3) := by decide +kernel
theorem dX7_init_27 : decode cX7_init 27 = .ok (.return_, 1) := by decide +kernel
theorem dX7_isFull_0 : decode cX7_isFull 0 = .ok (.aload_n 0, 1) := by decide +kernel
theorem dX7_isFull_1 : decode cX7_isFull 1 = .ok (.getfield 28, 3) := by decide +kernel
theorem dX7_isFull_4 : decode cX7_isFull 4 = .ok (.aload_n 0, 1) := by decide +kernel
theorem dX7_isFull_5 : decode cX7_isFull 5 = .ok (.getfield 9, 3) := by decide +kernel
theorem dX7_isFull_8 : decode cX7_isFull 8 = .ok (.if_icmp .lt 7, 3) := by decide +kernel
theorem dX7_isFull_11 : decode cX7_isFull 11 = .ok (.iconst 1, 1) := by decide +kernel
theorem dX7_isFull_12 : decode cX7_isFull 12 = .ok (.goto 4, 3) := by decide +kernel
theorem dX7_isFull_15 : decode cX7_isFull 15 = .ok (.iconst 0, 1) := by decide +kernel
theorem dX7_isFull_16 : decode cX7_isFull 16 = .ok (.ireturn, 1) := by decide +kernel
theorem dX7_put_0 : decode cX7_put 0 = .ok (.iload_n 1, 1) := by decide +kernel
theorem dX7_put_1 : decode cX7_put 1 = .ok (.ifCond .lt 37, 3) := by decide +kernel
theorem dX7_put_4 : decode cX7_put 4 = .ok (.iload_n 1, 1) := by decide +kernel
theorem dX7_put_5 : decode cX7_put 5 = .ok (.aload_n 0, 1) := by decide +kernel
theorem dX7_put_6 : decode cX7_put 6 = .ok (.getfield 28, 3) := by decide +kernel
theorem dX7_put_9 : decode cX7_put 9 = .ok (.if_icmp .ge 29, 3) := by decide +kernel
theorem dX7_put_12 : decode cX7_put 12 = .ok (.iload_n 2, 1) := by decide +kernel
theorem dX7_put_13 : decode cX7_put 13 = .ok (.ifCond .lt 25, 3) := by decide +kernel
theorem dX7_put_16 : decode cX7_put 16 = .ok (.iload_n 2, 1) := by decide +kernel
theorem dX7_put_17 : decode cX7_put 17 = .ok (.aload_n 0, 1) := by decide +kernel
theorem dX7_put_18 : decode cX7_put 18 = .ok (.getfield 15, 3) := by decide +kernel
theorem dX7_put_21 : decode cX7_put 21 = .ok (.if_icmp .ge 17, 3) := by decide +kernel
theorem dX7_put_24 : decode cX7_put 24 = .ok (.aload_n 0, 1) := by decide +kernel
theorem dX7_put_25 : decode cX7_put 25 = .ok (.getfield 24, 3) := by decide +kernel
theorem dX7_put_28 : decode cX7_put 28 = .ok (.iload_n 1, 1) := by decide +kernel
theorem dX7_put_29 : decode cX7_put 29 = .ok (.aload_n 0, 1) := by decide +kernel
theorem dX7_put_30 : decode cX7_put 30 = .ok (.getfield 15, 3) := by decide +kernel
theorem dX7_put_33 : decode cX7_put 33 = .ok (.imul, 1) := by decide +kernel
theorem dX7_put_34 : decode cX7_put 34 = .ok (.iload_n 2, 1) := by decide +kernel
theorem dX7_put_35 : decode cX7_put 35 = .ok (.iadd, 1) := by decide +kernel
theorem dX7_put_36 : decode cX7_put 36 = .ok (.iload_n 3, 1) := by decide +kernel
theorem dX7_put_37 : decode cX7_put 37 = .ok (.iastore, 1) := by decide +kernel
theorem dX7_put_38 : decode cX7_put 38 = .ok (.return_, 1) := by decide +kernel
theorem dX7_push_0 : decode cX7_push 0 = .ok (.aload_n 0, 1) := by decide +kernel
theorem dX7_push_1 : decode cX7_push 1 = .ok (.invokevirtual 31, 3) := by decide +kernel
theorem dX7_push_4 : decode cX7_push 4 = .ok (.ifCond .eq 5, 3) := by decide +kernel
theorem dX7_push_7 : decode cX7_push 7 = .ok (.iconst (-1), 1) := by decide +kernel
theorem dX7_push_8 : decode cX7_push 8 = .ok (.ireturn, 1) := by decide +kernel
theorem dX7_push_9 : decode cX7_push 9 = .ok (.aload_n 0, 1) := by decide +kernel
theorem dX7_push_10 : decode cX7_push 10 = .ok (.dup, 1) := by decide +kernel
theorem dX7_push_11 : decode cX7_push 11 = .ok (.getfield 28, 3) := by decide +kernel
theorem dX7_push_14 : decode cX7_push 14 = .ok (.iconst 1, 1) := by decide +kernel
theorem dX7_push_15 : decode cX7_push 15 = .ok (.iadd, 1) := by decide +kernel
theorem dX7_push_16 : decode cX7_push 16 = .ok (.putfield 28, 3) := by decide +kernel
theorem dX7_push_19 : decode cX7_push 19 = .ok (.aload_n 0, 1) := by decide +kernel
theorem dX7_push_20 : decode cX7_push 20 = .ok (.aload_n 0, 1) := by decide +kernel
theorem dX7_push_21 : decode cX7_push 21 = .ok (.getfield 28, 3) := by decide +kernel
theorem dX7_push_24 : decode cX7_push 24 = .ok (.iconst 1, 1) := by decide +kernel
theorem dX7_push_25 : decode cX7_push 25 = .ok (.isub, 1) := by decide +kernel
theorem dX7_push_26 : decode cX7_push 26 = .ok (.iconst 0, 1) := by decide +kernel
theorem dX7_push_27 : decode cX7_push 27 = .ok (.iload_n 1, 1) := by decide +kernel
theorem dX7_push_28 : decode cX7_push 28 = .ok (.invokevirtual 35, 3) := by decide +kernel
theorem dX7_push_31 : decode cX7_push 31 = .ok (.aload_n 0, 1) := by decide +kernel
theorem dX7_push_32 : decode cX7_push 32 = .ok (.aload_n 0, 1) := by decide +kernel
theorem dX7_push_33 : decode cX7_push 33 = .ok (.getfield 28, 3) := by decide +kernel
theorem dX7_push_36 : decode cX7_push 36 = .ok (.iconst 1, 1) := by decide +kernel
theorem dX7_push_37 : decode cX7_push 37 = .ok (.isub, 1) := by decide +kernel
theorem dX7_push_38 : decode cX7_push 38 = .ok (.iconst 1, 1) := by decide +kernel
theorem dX7_push_39 : decode cX7_push 39 = .ok (.iload_n 2, 1) := by decide +kernel
theorem dX7_push_40 : decode cX7_push 40 = .ok (.invokevirtual 35, 3) := by decide +kernel
theorem dX7_push_43 : decode cX7_push 43 = .ok (.aload_n 0, 1) := by decide +kernel
theorem dX7_push_44 : decode cX7_push 44 = .ok (.aload_n 0, 1) := by decide +kernel
theorem dX7_push_45 : decode cX7_push 45 = .ok (.getfield 28, 3) := by decide +kernel
theorem dX7_push_48 : decode cX7_push 48 = .ok (.iconst 1, 1) := by decide +kernel
theorem dX7_push_49 : decode cX7_push 49 = .ok (.isub, 1) := by decide +kernel
theorem dX7_push_50 : decode cX7_push 50 = .ok (.iconst 2, 1) := by decide +kernel
theorem dX7_push_51 : decode cX7_push 51 = .ok (.iload_n 3, 1) := by decide +kernel
theorem dX7_push_52 : decode cX7_push 52 = .ok (.invokevirtual 35, 3) := by decide +kernel
theorem dX7_push_55 : decode cX7_push 55 = .ok (.aload_n 0, 1) := by decide +kernel
theorem dX7_push_56 : decode cX7_push 56 = .ok (.aload_n 0, 1) := by decide +kernel
theorem dX7_push_57 : decode cX7_push 57 = .ok (.getfield 28, 3) := by decide +kernel
theorem dX7_push_60 : decode cX7_push 60 = .ok (.iconst 1, 1) := by decide +kernel
theorem dX7_push_61 : decode cX7_push 61 = .ok (.isub, 1) := by decide +kernel
theorem dX7_push_62 : decode cX7_push 62 = .ok (.iconst 3, 1) := by decide +kernel
theorem dX7_push_63 : decode cX7_push 63 = .ok (.iload 4, 2) := by decide +kernel
theorem dX7_push_65 : decode cX7_push 65 = .ok (.invokevirtual 35, 3) := by decide +kernel
theorem dX7_push_68 : decode cX7_push 68 = .ok (.aload_n 0, 1) := by decide +kernel
theorem dX7_push_69 : decode cX7_push 69 = .ok (.getfield 28, 3) := by decide +kernel
theorem dX7_push_72 : decode cX7_push 72 = .ok (.ireturn, 1) := by decide +kernel
theorem dX8_init_0 : decode cX8_init 0 = .ok (.aload_n 0, 1) := by decide +kernel
theorem dX8_init_1 : decode cX8_init 1 = .ok (.invokespecial 3, 3) := by decide +kernel
theorem dX8_init_4 : decode cX8_init 4 = .ok (.aload_n 0, 1) := by decide +kernel
theorem dX8_init_5 : decode cX8_init 5 = .ok (.bipush 60, 2) := by decide +kernel
theorem dX8_init_7 : decode cX8_init 7 = .ok (.newarray .int, 2) := by decide +kernel
theorem dX8_init_9 : decode cX8_init 9 = .ok (.putfield 9, 3) := by decide +kernel
theorem dX8_init_12 : decode cX8_init 12 = .ok (.aload_n 0, 1) := by decide +kernel
theorem dX8_init_13 : decode cX8_init 13 = .ok (.bipush 21, 2) := by decide +kernel
theorem dX8_init_15 : decode cX8_init 15 = .ok (.newarray .int, 2) := by decide +kernel
theorem dX8_init_17 : decode cX8_init 17 = .ok (.putfield 15, 3) := by decide +kernel
theorem dX8_init_20 : decode cX8_init 20 = .ok (.aload_n 0, 1) := by decide +kernel
theorem dX8_init_21 : decode cX8_init 21 = .ok (.bipush 21, 2) := by decide +kernel
theorem dX8_init_23 : decode cX8_init 23 = .ok (.newarray .int, 2) := by decide +kernel
theorem dX8_init_25 : decode cX8_init 25 = .ok (.putfield 18, 3) := by decide +kernel
theorem dX8_init_28 : decode cX8_init 28 = .ok (.aload_n 0, 1) := by decide +kernel
theorem dX8_init_29 : decode cX8_init 29 = .ok (.bipush 21, 2) := by decide +kernel
theorem dX8_init_31 : decode cX8_init 31 = .ok (.newarray .int, 2) := by decide +kernel
theorem dX8_init_33 : decode cX8_init 33 = .ok (.putfield 21, 3) := by decide +kernel
theorem dX8_init_36 : decode cX8_init 36 = .ok (.aload_n 0, 1) := by decide +kernel
theorem dX8_init_37 : decode cX8_init 37 = .ok (.bipush 21, 2) := by decide +kernel
theorem dX8_init_39 : decode cX8_init 39 = .ok (.newarray .int, 2) := by decide +kernel
theorem dX8_init_41 : decode cX8_init 41 = .ok (.putfield 24, 3) := by decide +kernel
theorem dX8_init_44 : decode cX8_init 44 = .ok (.return_, 1) := by decide +kernel
theorem dX8_empty_0 : decode cX8_empty 0 = .ok (.aload_n 0, 1) := by decide +kernel
theorem dX8_empty_1 : decode cX8_empty 1 = .ok (.iconst 0, 1) := by decide +kernel
theorem dX8_empty_2 : decode cX8_empty 2 = .ok (.putfield 27, 3) := by decide +kernel
theorem dX8_empty_5 : decode cX8_empty 5 = .ok (.aload_n 0, 1) := by decide +kernel
theorem dX8_empty_6 : decode cX8_empty 6 = .ok (.iconst 0, 1) := by decide +kernel
theorem dX8_empty_7 : decode cX8_empty 7 = .ok (.putfield 31, 3) := by decide +kernel
theorem dX8_empty_10 : decode cX8_empty 10 = .ok (.aload_n 0, 1) := by decide +kernel
theorem dX8_empty_11 : decode cX8_empty 11 = .ok (.iconst 0, 1) := by decide +kernel
theorem dX8_empty_12 : decode cX8_empty 12 = .ok (.putfield 34, 3) := by decide +kernel
theorem dX8_empty_15 : decode cX8_empty 15 = .ok (.return_, 1) := by decide +kernel
theorem dX9_init_0 : decode cX9_init 0 = .ok (.aload_n 0, 1) := by decide +kernel
theorem dX9_init_1 : decode cX9_init 1 = .ok (.invokespecial 3, 3) := by decide +kernel
theorem dX9_init_4 : decode cX9_init 4 = .ok (.aload_n 0, 1) := by decide +kernel
theorem dX9_init_5 : decode cX9_init 5 = .ok (.iconst 5, 1) := by decide +kernel
theorem dX9_init_6 : decode cX9_init 6 = .ok (.newarray .int, 2) := by decide +kernel
theorem dX9_init_8 : decode cX9_init 8 = .ok (.putfield 9, 3) := by decide +kernel
theorem dX9_init_11 : decode cX9_init 11 = .ok (.aload_n 0, 1) := by decide +kernel
theorem dX9_init_12 : decode cX9_init 12 = .ok (.iconst 5, 1) := by decide +kernel
theorem dX9_init_13 : decode cX9_init 13 = .ok (.newarray .int, 2) := by decide +kernel
theorem dX9_init_15 : decode cX9_init 15 = .ok (.putfield 15, 3) := by decide +kernel
theorem dX9_init_18 : decode cX9_init 18 = .ok (.aload_n 0, 1) := by decide +kernel
theorem dX9_init_19 : decode cX9_init 19 = .ok (.iconst 5, 1) := by decide +kernel
theorem dX9_init_20 : decode cX9_init 20 = .ok (.newarray .boolean, 2) := by decide +kernel
theorem dX9_init_22 : decode cX9_init 22 = .ok (.putfield 18, 3) := by decide +kernel
theorem dX9_init_25 : decode cX9_init 25 = .ok (.aload_n 0, 1) := by decide +kernel
theorem dX9_init_26 : decode cX9_init 26 = .ok (.bipush 24, 2) := by decide +kernel
theorem dX9_init_28 : decode cX9_init 28 = .ok (.newarray .int, 2) := by decide +kernel
theorem dX9_init_30 : decode cX9_init 30 = .ok (.putfield 22, 3) := by decide +kernel
theorem dX9_init_33 : decode cX9_init 33 = .ok (.aload_n 0, 1) := by decide +kernel
theorem dX9_init_34 : decode cX9_init 34 = .ok (.bipush 8, 2) := by decide +kernel
theorem dX9_init_36 : decode cX9_init 36 = .ok (.newarray .int, 2) := by decide +kernel
theorem dX9_init_38 : decode cX9_init 38 = .ok (.putfield 25, 3) := by decide +kernel
theorem dX9_init_41 : decode cX9_init 41 = .ok (.aload_n 0, 1) := by decide +kernel
theorem dX9_init_42 : decode cX9_init 42 = .ok (.new 28, 3) := by decide +kernel
theorem dX9_init_45 : decode cX9_init 45 = .ok (.dup, 1) := by decide +kernel
theorem dX9_init_46 : decode cX9_init 46 = .ok (.bipush 30, 2) := by decide +kernel
theorem dX9_init_48 : decode cX9_init 48 = .ok (.iconst 3, 1) := by decide +kernel
theorem dX9_init_49 : decode cX9_init 49 = .ok (.invokespecial 30, 3) := by decide +kernel
theorem dX9_init_52 : decode cX9_init 52 = .ok (.putfield 33, 3) := by decide +kernel
theorem dX9_init_55 : decode cX9_init 55 = .ok (.aload_n 0, 1) := by decide +kernel
theorem dX9_init_56 : decode cX9_init 56 = .ok (.new 28, 3) := by decide +kernel
theorem dX9_init_59 : decode cX9_init 59 = .ok (.dup, 1) := by decide +kernel
theorem dX9_init_60 : decode cX9_init 60 = .ok (.bipush 20, 2) := by decide +kernel
theorem dX9_init_62 : decode cX9_init 62 = .ok (.iconst 4, 1) := by decide +kernel
theorem dX9_init_63 : decode cX9_init 63 = .ok (.invokespecial 30, 3) := by decide +kernel
theorem dX9_init_66 : decode cX9_init 66 = .ok (.putfield 37, 3) := by decide +kernel
theorem dX9_init_69 : decode cX9_init 69 = .ok (.iconst 0, 1) := by decide +kernel
theorem dX9_init_70 : decode cX9_init 70 = .ok (.istore_n 1, 1) := by decide +kernel
theorem dX9_init_71 : decode cX9_init 71 = .ok (.iload_n 1, 1) := by decide +kernel
theorem dX9_init_72 : decode cX9_init 72 = .ok (.iconst 4, 1) := by decide +kernel
theorem dX9_init_73 : decode cX9_init 73 = .ok (.if_icmp .ge 39, 3) := by decide +kernel
theorem dX9_init_76 : decode cX9_init 76 = .ok (.iconst 0, 1) := by decide +kernel
theorem dX9_init_77 : decode cX9_init 77 = .ok (.istore_n 2, 1) := by decide +kernel
theorem dX9_init_78 : decode cX9_init 78 = .ok (.iload_n 2, 1) := by decide +kernel
theorem dX9_init_79 : decode cX9_init 79 = .ok (.bipush 6, 2) := by decide +kernel
theorem dX9_init_81 : decode cX9_init 81 = .ok (.if_icmp .ge 25, 3) := by decide +kernel
theorem dX9_init_84 : decode cX9_init 84 = .ok (.aload_n 0, 1) := by decide +kernel
theorem dX9_init_85 : decode cX9_init 85 = .ok (.getfield 22, 3) := by decide +kernel
theorem dX9_init_88 : decode cX9_init 88 = .ok (.iload_n 1, 1) := by decide +kernel
theorem dX9_init_89 : decode cX9_init 89 = .ok (.bipush 6, 2) := by decide +kernel
theorem dX9_init_91 : decode cX9_init 91 = .ok (.imul, 1) := by decide +kernel
theorem dX9_init_92 : decode cX9_init 92 = .ok (.iload_n 2, 1) := by decide +kernel
theorem dX9_init_93 : decode cX9_init 93 = .ok (.iadd, 1) := by decide +kernel
theorem dX9_init_94 : decode cX9_init 94 = .ok (.getstatic 40, 3) := by decide +kernel
theorem dX9_init_97 : decode cX9_init 97 = .ok (.iload_n 2, 1) := by decide +kernel
theorem dX9_init_98 : decode cX9_init 98 = .ok (.iaload, 1) := by decide +kernel
theorem dX9_init_99 : decode cX9_init 99 = .ok (.iastore, 1) := by decide +kernel
theorem dX9_init_100 : decode cX9_init 100 = .ok (.iinc 2 1, 3) := by decide +kernel
theorem dX9_init_103 : decode cX9_init 103 = .ok (.goto (-25), 3) := by decide +kernel
theorem dX9_init_106 : decode cX9_init 106 = .ok (.iinc 1 1, 3) := by decide +kernel
theorem dX9_init_109 : decode cX9_init 109 = .ok (.goto (-38), 3) := by decide +kernel
theorem dX9_init_112 : decode cX9_init 112 = .ok (.iconst 0, 1) := by decide +kernel
theorem dX9_init_113 : decode cX9_init 113 = .ok (.istore_n 1, 1) := by decide +kernel
theorem dX9_init_114 : decode cX9_init 114 = .ok (.iload_n 1, 1) := by decide +kernel
theorem dX9_init_115 : decode cX9_init 115 = .ok (.bipush 8, 2) := by decide +kernel
theorem dX9_init_117 : decode cX9_init 117 = .ok (.if_icmp .ge 20, 3) := by decide +kernel
theorem dX9_init_120 : decode cX9_init 120 = .ok (.aload_n 0, 1) := by decide +kernel
theorem dX9_init_121 : decode cX9_init 121 = .ok (.getfield 25, 3) := by decide +kernel
theorem dX9_init_124 : decode cX9_init 124 = .ok (.iload_n 1, 1) := by decide +kernel
theorem dX9_init_125 : decode cX9_init 125 = .ok (.getstatic 43, 3) := by decide +kernel
theorem dX9_init_128 : decode cX9_init 128 = .ok (.iload_n 1, 1) := by decide +kernel
theorem dX9_init_129 : decode cX9_init 129 = .ok (.iaload, 1) := by decide +kernel
theorem dX9_init_130 : decode cX9_init 130 = .ok (.iastore, 1) := by decide +kernel
theorem dX9_init_131 : decode cX9_init 131 = .ok (.iinc 1 1, 3) := by decide +kernel
theorem dX9_init_134 : decode cX9_init 134 = .ok (.goto (-20), 3) := by decide +kernel
theorem dX9_init_137 : decode cX9_init 137 = .ok (.aload_n 0, 1) := by decide +kernel
theorem dX9_init_138 : decode cX9_init 138 = .ok (.iconst 2, 1) := by decide +kernel
theorem dX9_init_139 : decode cX9_init 139 = .ok (.iconst 1, 1) := by decide +kernel
theorem dX9_init_140 : decode cX9_init 140 = .ok (.invokevirtual 46, 3) := by decide +kernel
theorem dX9_init_143 : decode cX9_init 143 = .ok (.return_, 1) := by decide +kernel
theorem dX9_layAnew_0 : decode cX9_layAnew 0 = .ok (.aload_n 0, 1) := by decide +kernel
theorem dX9_layAnew_1 : decode cX9_layAnew 1 = .ok (.iload_n 1, 1) := by decide +kernel
theorem dX9_layAnew_2 : decode cX9_layAnew 2 = .ok (.putfield 49, 3) := by decide +kernel
theorem dX9_layAnew_5 : decode cX9_layAnew 5 = .ok (.aload_n 0, 1) := by decide +kernel
theorem dX9_layAnew_6 : decode cX9_layAnew 6 = .ok (.iload_n 2, 1) := by decide +kernel
theorem dX9_layAnew_7 : decode cX9_layAnew 7 = .ok (.putfield 53, 3) := by decide +kernel
theorem dX9_layAnew_10 : decode cX9_layAnew 10 = .ok (.iconst 0, 1) := by decide +kernel
theorem dX9_layAnew_11 : decode cX9_layAnew 11 = .ok (.istore_n 3, 1) := by decide +kernel
theorem dX9_layAnew_12 : decode cX9_layAnew 12 = .ok (.iload_n 3, 1) := by decide +kernel
theorem dX9_layAnew_13 : decode cX9_layAnew 13 = .ok (.iconst 5, 1) := by decide +kernel
theorem dX9_layAnew_14 : decode cX9_layAnew 14 = .ok (.if_icmp .ge 34, 3) := by decide +kernel
theorem dX9_layAnew_17 : decode cX9_layAnew 17 = .ok (.aload_n 0, 1) := by decide +kernel
theorem dX9_layAnew_18 : decode cX9_layAnew 18 = .ok (.getfield 9, 3) := by decide +kernel
theorem dX9_layAnew_21 : decode cX9_layAnew 21 = .ok (.iload_n 3, 1) := by decide +kernel
theorem dX9_layAnew_22 : decode cX9_layAnew 22 = .ok (.sipush 20000, 3) := by decide +kernel
theorem dX9_layAnew_25 : decode cX9_layAnew 25 = .ok (.iastore, 1) := by decide +kernel
theorem dX9_layAnew_26 : decode cX9_layAnew 26 = .ok (.aload_n 0, 1) := by decide +kernel
theorem dX9_layAnew_27 : decode cX9_layAnew 27 = .ok (.getfield 15, 3) := by decide +kernel
theorem dX9_layAnew_30 : decode cX9_layAnew 30 = .ok (.iload_n 3, 1) := by decide +kernel
theorem dX9_layAnew_31 : decode cX9_layAnew 31 = .ok (.sipush 300, 3) := by decide +kernel
theorem dX9_layAnew_34 : decode cX9_layAnew 34 = .ok (.iastore, 1) := by decide +kernel
theorem dX9_layAnew_35 : decode cX9_layAnew 35 = .ok (.aload_n 0, 1) := by decide +kernel
theorem dX9_layAnew_36 : decode cX9_layAnew 36 = .ok (.getfield 18, 3) := by decide +kernel
theorem dX9_layAnew_39 : decode cX9_layAnew 39 = .ok (.iload_n 3, 1) := by decide +kernel
theorem dX9_layAnew_40 : decode cX9_layAnew 40 = .ok (.iconst 0, 1) := by decide +kernel
theorem dX9_layAnew_41 : decode cX9_layAnew 41 = .ok (.bastore, 1) := by decide +kernel
theorem dX9_layAnew_42 : decode cX9_layAnew 42 = .ok (.iinc 3 1, 3) := by decide +kernel
theorem dX9_layAnew_45 : decode cX9_layAnew 45 = .ok (.goto (-33), 3) := by decide +kernel
theorem dX9_layAnew_48 : decode cX9_layAnew 48 = .ok (.aload_n 0, 1) := by decide +kernel
theorem dX9_layAnew_49 : decode cX9_layAnew 49 = .ok (.getfield 33, 3) := by decide +kernel
theorem dX9_layAnew_52 : decode cX9_layAnew 52 = .ok (.iconst 0, 1) := by decide +kernel
theorem dX9_layAnew_53 : decode cX9_layAnew 53 = .ok (.putfield 56, 3) := by decide +kernel
theorem dX9_layAnew_56 : decode cX9_layAnew 56 = .ok (.aload_n 0, 1) := by decide +kernel
theorem dX9_layAnew_57 : decode cX9_layAnew 57 = .ok (.getfield 37, 3) := by decide +kernel
theorem dX9_layAnew_60 : decode cX9_layAnew 60 = .ok (.iconst 0, 1) := by decide +kernel
theorem dX9_layAnew_61 : decode cX9_layAnew 61 = .ok (.putfield 56, 3) := by decide +kernel
theorem dX9_layAnew_64 : decode cX9_layAnew 64 = .ok (.return_, 1) := by decide +kernel
theorem dX9_hasSector_0 : decode cX9_hasSector 0 = .ok (.iload_n 1, 1) := by decide +kernel
theorem dX9_hasSector_1 : decode cX9_hasSector 1 = .ok (.aload_n 0, 1) := by decide +kernel
theorem dX9_hasSector_2 : decode cX9_hasSector 2 = .ok (.getfield 49, 3) := by decide +kernel
theorem dX9_hasSector_5 : decode cX9_hasSector 5 = .ok (.invokestatic 59, 3) := by decide +kernel
theorem dX9_hasSector_8 : decode cX9_hasSector 8 = .ok (.ireturn, 1) := by decide +kernel
theorem dX9_lineOf_0 : decode cX9_lineOf 0 = .ok (.iload_n 1, 1) := by decide +kernel
theorem dX9_lineOf_1 : decode cX9_lineOf 1 = .ok (.aload_n 0, 1) := by decide +kernel
theorem dX9_lineOf_2 : decode cX9_lineOf 2 = .ok (.getfield 49, 3) := by decide +kernel
theorem dX9_lineOf_5 : decode cX9_lineOf 5 = .ok (.imul, 1) := by decide +kernel
theorem dX9_lineOf_6 : decode cX9_lineOf 6 = .ok (.iload_n 2, 1) := by decide +kernel
theorem dX9_lineOf_7 : decode cX9_lineOf 7 = .ok (.iadd, 1) := by decide +kernel
theorem dX9_lineOf_8 : decode cX9_lineOf 8 = .ok (.ireturn, 1) := by decide +kernel
theorem dX9_tyreNumber_0 : decode cX9_tyreNumber 0 = .ok (.iload_n 1, 1) := by decide +kernel
theorem dX9_tyreNumber_1 : decode cX9_tyreNumber 1 = .ok (.iconst 4, 1) := by decide +kernel
theorem dX9_tyreNumber_2 : decode cX9_tyreNumber 2 = .ok (.invokestatic 59, 3) := by decide +kernel
theorem dX9_tyreNumber_5 : decode cX9_tyreNumber 5 = .ok (.ifCond .eq 12, 3) := by decide +kernel
theorem dX9_tyreNumber_8 : decode cX9_tyreNumber 8 = .ok (.iload_n 2, 1) := by decide +kernel
theorem dX9_tyreNumber_9 : decode cX9_tyreNumber 9 = .ok (.bipush 6, 2) := by decide +kernel
theorem dX9_tyreNumber_11 : decode cX9_tyreNumber 11 = .ok (.invokestatic 59, 3) := by decide +kernel
theorem dX9_tyreNumber_14 : decode cX9_tyreNumber 14 = .ok (.ifCond .ne 5, 3) := by decide +kernel
theorem dX9_tyreNumber_17 : decode cX9_tyreNumber 17 = .ok (.iconst 0, 1) := by decide +kernel
theorem dX9_tyreNumber_18 : decode cX9_tyreNumber 18 = .ok (.ireturn, 1) := by decide +kernel
theorem dX9_tyreNumber_19 : decode cX9_tyreNumber 19 = .ok (.aload_n 0, 1) := by decide +kernel
theorem dX9_tyreNumber_20 : decode cX9_tyreNumber 20 = .ok (.getfield 22, 3) := by decide +kernel
theorem dX9_tyreNumber_23 : decode cX9_tyreNumber 23 = .ok (.iload_n 1, 1) := by decide +kernel
theorem dX9_tyreNumber_24 : decode cX9_tyreNumber 24 = .ok (.bipush 6, 2) := by decide +kernel
theorem dX9_tyreNumber_26 : decode cX9_tyreNumber 26 = .ok (.imul, 1) := by decide +kernel
theorem dX9_tyreNumber_27 : decode cX9_tyreNumber 27 = .ok (.iload_n 2, 1) := by decide +kernel
theorem dX9_tyreNumber_28 : decode cX9_tyreNumber 28 = .ok (.iadd, 1) := by decide +kernel
theorem dX9_tyreNumber_29 : decode cX9_tyreNumber 29 = .ok (.iaload, 1) := by decide +kernel
theorem dX9_tyreNumber_30 : decode cX9_tyreNumber 30 = .ok (.ireturn, 1) := by decide +kernel
theorem dX10_init_0 : decode cX10_init 0 = .ok (.aload_n 0, 1) := by decide +kernel
theorem dX10_init_1 : decode cX10_init 1 = .ok (.invokespecial 3, 3) := by decide +kernel
theorem dX10_init_4 : decode cX10_init 4 = .ok (.aload_n 0, 1) := by decide +kernel
theorem dX10_init_5 : decode cX10_init 5 = .ok (.aload_n 1, 1) := by decide +kernel
theorem dX10_init_6 : decode cX10_init 6 = .ok (.putfield 9, 3) := by decide +kernel
theorem dX10_init_9 : decode cX10_init 9 = .ok (.aload_n 0, 1) := by decide +kernel
theorem dX10_init_10 : decode cX10_init 10 = .ok (.aload_n 2, 1) := by decide +kernel
theorem dX10_init_11 : decode cX10_init 11 = .ok (.putfield 15, 3) := by decide +kernel
theorem dX10_init_14 : decode cX10_init 14 = .ok (.aload_n 0, 1) := by decide +kernel
theorem dX10_init_15 : decode cX10_init 15 = .ok (.iconst 2, 1) := by decide +kernel
theorem dX10_init_16 : decode cX10_init 16 = .ok (.newarray .int, 2) := by decide +kernel
theorem dX10_init_18 : decode cX10_init 18 = .ok (.putfield 19, 3) := by decide +kernel
theorem dX10_init_21 : decode cX10_init 21 = .ok (.aload_n 0, 1) := by decide +kernel
theorem dX10_init_22 : decode cX10_init 22 = .ok (.iconst 2, 1) := by decide +kernel
theorem dX10_init_23 : decode cX10_init 23 = .ok (.newarray .int, 2) := by decide +kernel
theorem dX10_init_25 : decode cX10_init 25 = .ok (.putfield 23, 3) := by decide +kernel
theorem dX10_init_28 : decode cX10_init 28 = .ok (.aload_n 0, 1) := by decide +kernel
theorem dX10_init_29 : decode cX10_init 29 = .ok (.iconst 4, 1) := by decide +kernel
theorem dX10_init_30 : decode cX10_init 30 = .ok (.newarray .int, 2) := by decide +kernel
theorem dX10_init_32 : decode cX10_init 32 = .ok (.putfield 26, 3) := by decide +kernel
theorem dX10_init_35 : decode cX10_init 35 = .ok (.aload_n 0, 1) := by decide +kernel
theorem dX10_init_36 : decode cX10_init 36 = .ok (.bipush 16, 2) := by decide +kernel
theorem dX10_init_38 : decode cX10_init 38 = .ok (.newarray .int, 2) := by decide +kernel
theorem dX10_init_40 : decode cX10_init 40 = .ok (.putfield 29, 3) := by decide +kernel
theorem dX10_init_43 : decode cX10_init 43 = .ok (.aload_n 0, 1) := by decide +kernel
theorem dX10_init_44 : decode cX10_init 44 = .ok (.bipush 16, 2) := by decide +kernel
theorem dX10_init_46 : decode cX10_init 46 = .ok (.newarray .int, 2) := by decide +kernel
theorem dX10_init_48 : decode cX10_init 48 = .ok (.putfield 32, 3) := by decide +kernel
theorem dX10_init_51 : decode cX10_init 51 = .ok (.aload_n 0, 1) := by decide +kernel
theorem dX10_init_52 : decode cX10_init 52 = .ok (.bipush 16, 2) := by decide +kernel
theorem dX10_init_54 : decode cX10_init 54 = .ok (.newarray .int, 2) := by decide +kernel
theorem dX10_init_56 : decode cX10_init 56 = .ok (.putfield 35, 3) := by decide +kernel
theorem dX10_init_59 : decode cX10_init 59 = .ok (.aload_n 0, 1) := by decide +kernel
theorem dX10_init_60 : decode cX10_init 60 = .ok (.bipush 16, 2) := by decide +kernel
theorem dX10_init_62 : decode cX10_init 62 = .ok (.newarray .int, 2) := by decide +kernel
theorem dX10_init_64 : decode cX10_init 64 = .ok (.putfield 38, 3) := by decide +kernel
theorem dX10_init_67 : decode cX10_init 67 = .ok (.return_, 1) := by decide +kernel
theorem dX11_init_0 : decode cX11_init 0 = .ok (.aload_n 0, 1) := by decide +kernel
theorem dX11_init_1 : decode cX11_init 1 = .ok (.invokespecial 3, 3) := by decide +kernel
theorem dX11_init_4 : decode cX11_init 4 = .ok (.new 9, 3) := by decide +kernel
theorem dX11_init_7 : decode cX11_init 7 = .ok (.dup, 1) := by decide +kernel
theorem dX11_init_8 : decode cX11_init 8 = .ok (.invokespecial 11, 3) := by decide +kernel
theorem dX11_init_11 : decode cX11_init 11 = .ok (.astore_n 1, 1) := by decide +kernel
theorem dX11_init_12 : decode cX11_init 12 = .ok (.aload_n 0, 1) := by decide +kernel
theorem dX11_init_13 : decode cX11_init 13 = .ok (.new 12, 3) := by decide +kernel
theorem dX11_init_16 : decode cX11_init 16 = .ok (.dup, 1) := by decide +kernel
theorem dX11_init_17 : decode cX11_init 17 = .ok (.invokespecial 14, 3) := by decide +kernel
theorem dX11_init_20 : decode cX11_init 20 = .ok (.putfield 15, 3) := by decide +kernel
theorem dX11_init_23 : decode cX11_init 23 = .ok (.aload_n 0, 1) := by decide +kernel
theorem dX11_init_24 : decode cX11_init 24 = .ok (.new 19, 3) := by decide +kernel
theorem dX11_init_27 : decode cX11_init 27 = .ok (.dup, 1) := by decide +kernel
theorem dX11_init_28 : decode cX11_init 28 = .ok (.aload_n 0, 1) := by decide +kernel
theorem dX11_init_29 : decode cX11_init 29 = .ok (.getfield 15, 3) := by decide +kernel
theorem dX11_init_32 : decode cX11_init 32 = .ok (.aload_n 1, 1) := by decide +kernel
theorem dX11_init_33 : decode cX11_init 33 = .ok (.invokespecial 21, 3) := by decide +kernel
theorem dX11_init_36 : decode cX11_init 36 = .ok (.putfield 24, 3) := by decide +kernel
theorem dX11_init_39 : decode cX11_init 39 = .ok (.aload_n 0, 1) := by decide +kernel
theorem dX11_init_40 : decode cX11_init 40 = .ok (.new 28, 3) := by decide +kernel
theorem dX11_init_43 : decode cX11_init 43 = .ok (.dup, 1) := by decide +kernel
theorem dX11_init_44 : decode cX11_init 44 = .ok (.aload_n 1, 1) := by decide +kernel
theorem dX11_init_45 : decode cX11_init 45 = .ok (.invokespecial 30, 3) := by decide +kernel
theorem dX11_init_48 : decode cX11_init 48 = .ok (.putfield 33, 3) := by decide +kernel
theorem dX11_init_51 : decode cX11_init 51 = .ok (.aload_n 0, 1) := by decide +kernel
theorem dX11_init_52 : decode cX11_init 52 = .ok (.new 37, 3) := by decide +kernel
theorem dX11_init_55 : decode cX11_init 55 = .ok (.dup, 1) := by decide +kernel
theorem dX11_init_56 : decode cX11_init 56 = .ok (.aload_n 0, 1) := by decide +kernel
theorem dX11_init_57 : decode cX11_init 57 = .ok (.getfield 24, 3) := by decide +kernel
theorem dX11_init_60 : decode cX11_init 60 = .ok (.aload_n 0, 1) := by decide +kernel
theorem dX11_init_61 : decode cX11_init 61 = .ok (.getfield 33, 3) := by decide +kernel
theorem dX11_init_64 : decode cX11_init 64 = .ok (.invokespecial 39, 3) := by decide +kernel
theorem dX11_init_67 : decode cX11_init 67 = .ok (.putfield 42, 3) := by decide +kernel
theorem dX11_init_70 : decode cX11_init 70 = .ok (.aload_n 0, 1) := by decide +kernel
theorem dX11_init_71 : decode cX11_init 71 = .ok (.new 46, 3) := by decide +kernel
theorem dX11_init_74 : decode cX11_init 74 = .ok (.dup, 1) := by decide +kernel
theorem dX11_init_75 : decode cX11_init 75 = .ok (.aload_n 0, 1) := by decide +kernel
theorem dX11_init_76 : decode cX11_init 76 = .ok (.getfield 24, 3) := by decide +kernel
theorem dX11_init_79 : decode cX11_init 79 = .ok (.aload_n 0, 1) := by decide +kernel
theorem dX11_init_80 : decode cX11_init 80 = .ok (.getfield 42, 3) := by decide +kernel
theorem dX11_init_83 : decode cX11_init 83 = .ok (.invokespecial 48, 3) := by decide +kernel
theorem dX11_init_86 : decode cX11_init 86 = .ok (.putfield 51, 3) := by decide +kernel
theorem dX11_init_89 : decode cX11_init 89 = .ok (.aload_n 0, 1) := by decide +kernel
theorem dX11_init_90 : decode cX11_init 90 = .ok (.new 55, 3) := by decide +kernel
theorem dX11_init_93 : decode cX11_init 93 = .ok (.dup, 1) := by decide +kernel
theorem dX11_init_94 : decode cX11_init 94 = .ok (.invokespecial 57, 3) := by decide +kernel
theorem dX11_init_97 : decode cX11_init 97 = .ok (.putfield 58, 3) := by decide +kernel
theorem dX11_init_100 : decode cX11_init 100 = .ok (.aload_n 0, 1) := by decide +kernel
theorem dX11_init_101 : decode cX11_init 101 = .ok (.bipush 100, 2) := by decide +kernel
theorem dX11_init_103 : decode cX11_init 103 = .ok (.newarray .int, 2) := by decide +kernel
theorem dX11_init_105 : decode cX11_init 105 = .ok (.putfield 62, 3) := by decide +kernel
theorem dX11_init_108 : decode cX11_init 108 = .ok (.aload_n 0, 1) := by decide +kernel
theorem dX11_init_109 : decode cX11_init 109 = .ok (.bipush 6, 2) := by decide +kernel
theorem dX11_init_111 : decode cX11_init 111 = .ok (.newarray .int, 2) := by decide +kernel
theorem dX11_init_113 : decode cX11_init 113 = .ok (.putfield 66, 3) := by decide +kernel
theorem dX11_init_116 : decode cX11_init 116 = .ok (.aload_n 0, 1) := by decide +kernel
theorem dX11_init_117 : decode cX11_init 117 = .ok (.new 69, 3) := by decide +kernel
theorem dX11_init_120 : decode cX11_init 120 = .ok (.dup, 1) := by decide +kernel
theorem dX11_init_121 : decode cX11_init 121 = .ok (.invokespecial 71, 3) := by decide +kernel
theorem dX11_init_124 : decode cX11_init 124 = .ok (.putfield 72, 3) := by decide +kernel
theorem dX11_init_127 : decode cX11_init 127 = .ok (.return_, 1) := by decide +kernel
theorem dX11_track_0 : decode cX11_track 0 = .ok (.iload_n 1, 1) := by decide +kernel
theorem dX11_track_1 : decode cX11_track 1 = .ok (.iconst 2, 1) := by decide +kernel
theorem dX11_track_2 : decode cX11_track 2 = .ok (.if_icmp .lt 19, 3) := by decide +kernel
theorem dX11_track_5 : decode cX11_track 5 = .ok (.iload_n 1, 1) := by decide +kernel
theorem dX11_track_6 : decode cX11_track 6 = .ok (.iconst 5, 1) := by decide +kernel
theorem dX11_track_7 : decode cX11_track 7 = .ok (.if_icmp .gt 14, 3) := by decide +kernel
theorem dX11_track_10 : decode cX11_track 10 = .ok (.iload_n 2, 1) := by decide +kernel
theorem dX11_track_11 : decode cX11_track 11 = .ok (.iconst 1, 1) := by decide +kernel
theorem dX11_track_12 : decode cX11_track 12 = .ok (.if_icmp .lt 9, 3) := by decide +kernel
theorem dX11_track_15 : decode cX11_track 15 = .ok (.iload_n 2, 1) := by decide +kernel
theorem dX11_track_16 : decode cX11_track 16 = .ok (.bipush 12, 2) := by decide +kernel
theorem dX11_track_18 : decode cX11_track 18 = .ok (.if_icmp .le 5, 3) := by decide +kernel
theorem dX11_track_21 : decode cX11_track 21 = .ok (.iconst 0, 1) := by decide +kernel
theorem dX11_track_22 : decode cX11_track 22 = .ok (.ireturn, 1) := by decide +kernel
theorem dX11_track_23 : decode cX11_track 23 = .ok (.aload_n 0, 1) := by decide +kernel
theorem dX11_track_24 : decode cX11_track 24 = .ok (.getfield 15, 3) := by decide +kernel
theorem dX11_track_27 : decode cX11_track 27 = .ok (.iload_n 1, 1) := by decide +kernel
theorem dX11_track_28 : decode cX11_track 28 = .ok (.iload_n 2, 1) := by decide +kernel
theorem dX11_track_29 : decode cX11_track 29 = .ok (.invokevirtual 76, 3) := by decide +kernel
theorem dX11_track_32 : decode cX11_track 32 = .ok (.aload_n 0, 1) := by decide +kernel
theorem dX11_track_33 : decode cX11_track 33 = .ok (.getfield 24, 3) := by decide +kernel
theorem dX11_track_36 : decode cX11_track 36 = .ok (.iconst 0, 1) := by decide +kernel
theorem dX11_track_37 : decode cX11_track 37 = .ok (.putfield 80, 3) := by decide +kernel
theorem dX11_track_40 : decode cX11_track 40 = .ok (.aload_n 0, 1) := by decide +kernel
theorem dX11_track_41 : decode cX11_track 41 = .ok (.getfield 24, 3) := by decide +kernel
theorem dX11_track_44 : decode cX11_track 44 = .ok (.iconst 0, 1) := by decide +kernel
theorem dX11_track_45 : decode cX11_track 45 = .ok (.putfield 84, 3) := by decide +kernel
theorem dX11_track_48 : decode cX11_track 48 = .ok (.aload_n 0, 1) := by decide +kernel
theorem dX11_track_49 : decode cX11_track 49 = .ok (.getfield 33, 3) := by decide +kernel
theorem dX11_track_52 : decode cX11_track 52 = .ok (.iconst 0, 1) := by decide +kernel
theorem dX11_track_53 : decode cX11_track 53 = .ok (.putfield 88, 3) := by decide +kernel
theorem dX11_track_56 : decode cX11_track 56 = .ok (.aload_n 0, 1) := by decide +kernel
theorem dX11_track_57 : decode cX11_track 57 = .ok (.getfield 33, 3) := by decide +kernel
theorem dX11_track_60 : decode cX11_track 60 = .ok (.getfield 91, 3) := by decide +kernel
theorem dX11_track_63 : decode cX11_track 63 = .ok (.iconst 0, 1) := by decide +kernel
theorem dX11_track_64 : decode cX11_track 64 = .ok (.putfield 95, 3) := by decide +kernel
theorem dX11_track_67 : decode cX11_track 67 = .ok (.iconst 1, 1) := by decide +kernel
theorem dX11_track_68 : decode cX11_track 68 = .ok (.ireturn, 1) := by decide +kernel
theorem dX11_sector_0 : decode cX11_sector 0 = .ok (.aload_n 0, 1) := by decide +kernel
theorem dX11_sector_1 : decode cX11_sector 1 = .ok (.getfield 15, 3) := by decide +kernel
theorem dX11_sector_4 : decode cX11_sector 4 = .ok (.iload_n 1, 1) := by decide +kernel
theorem dX11_sector_5 : decode cX11_sector 5 = .ok (.invokevirtual 100, 3) := by decide +kernel
theorem dX11_sector_8 : decode cX11_sector 8 = .ok (.ifCond .eq 26, 3) := by decide +kernel
theorem dX11_sector_11 : decode cX11_sector 11 = .ok (.iload_n 2, 1) := by decide +kernel
theorem dX11_sector_12 : decode cX11_sector 12 = .ok (.sipush 5000, 3) := by decide +kernel
theorem dX11_sector_15 : decode cX11_sector 15 = .ok (.ldc 104, 2) := by decide +kernel
theorem dX11_sector_17 : decode cX11_sector 17 = .ok (.invokestatic 105, 3) := by decide +kernel
theorem dX11_sector_20 : decode cX11_sector 20 = .ok (.ifCond .eq 14, 3) := by decide +kernel
theorem dX11_sector_23 : decode cX11_sector 23 = .ok (.iload_n 3, 1) := by decide +kernel
theorem dX11_sector_24 : decode cX11_sector 24 = .ok (.iconst (-1), 1) := by decide +kernel
theorem dX11_sector_25 : decode cX11_sector 25 = .ok (.sipush 5000, 3) := by decide +kernel
theorem dX11_sector_28 : decode cX11_sector 28 = .ok (.invokestatic 105, 3) := by decide +kernel
theorem dX11_sector_31 : decode cX11_sector 31 = .ok (.ifCond .ne 5, 3) := by decide +kernel
theorem dX11_sector_34 : decode cX11_sector 34 = .ok (.iconst 0, 1) := by decide +kernel
theorem dX11_sector_35 : decode cX11_sector 35 = .ok (.ireturn, 1) := by decide +kernel
theorem dX11_sector_36 : decode cX11_sector 36 = .ok (.aload_n 0, 1) := by decide +kernel
theorem dX11_sector_37 : decode cX11_sector 37 = .ok (.getfield 15, 3) := by decide +kernel
theorem dX11_sector_40 : decode cX11_sector 40 = .ok (.getfield 109, 3) := by decide +kernel
theorem dX11_sector_43 : decode cX11_sector 43 = .ok (.iload_n 1, 1) := by decide +kernel
theorem dX11_sector_44 : decode cX11_sector 44 = .ok (.iload_n 2, 1) := by decide +kernel
theorem dX11_sector_45 : decode cX11_sector 45 = .ok (.iastore, 1) := by decide +kernel
theorem dX11_sector_46 : decode cX11_sector 46 = .ok (.aload_n 0, 1) := by decide +kernel
theorem dX11_sector_47 : decode cX11_sector 47 = .ok (.getfield 15, 3) := by decide +kernel
theorem dX11_sector_50 : decode cX11_sector 50 = .ok (.getfield 112, 3) := by decide +kernel
theorem dX11_sector_53 : decode cX11_sector 53 = .ok (.iload_n 1, 1) := by decide +kernel
theorem dX11_sector_54 : decode cX11_sector 54 = .ok (.iload_n 3, 1) := by decide +kernel
theorem dX11_sector_55 : decode cX11_sector 55 = .ok (.iastore, 1) := by decide +kernel
theorem dX11_sector_56 : decode cX11_sector 56 = .ok (.aload_n 0, 1) := by decide +kernel
theorem dX11_sector_57 : decode cX11_sector 57 = .ok (.getfield 24, 3) := by decide +kernel
theorem dX11_sector_60 : decode cX11_sector 60 = .ok (.iconst 0, 1) := by decide +kernel
theorem dX11_sector_61 : decode cX11_sector 61 = .ok (.putfield 84, 3) := by decide +kernel
theorem dX11_sector_64 : decode cX11_sector 64 = .ok (.iconst 1, 1) := by decide +kernel
theorem dX11_sector_65 : decode cX11_sector 65 = .ok (.ireturn, 1) := by decide +kernel
theorem dX11_tyres_0 : decode cX11_tyres 0 = .ok (.iload_n 1, 1) := by decide +kernel
theorem dX11_tyres_1 : decode cX11_tyres 1 = .ok (.iconst 4, 1) := by decide +kernel
theorem dX11_tyres_2 : decode cX11_tyres 2 = .ok (.invokestatic 115, 3) := by decide +kernel
theorem dX11_tyres_5 : decode cX11_tyres 5 = .ok (.ifCond .eq 25, 3) := by decide +kernel
theorem dX11_tyres_8 : decode cX11_tyres 8 = .ok (.iload_n 2, 1) := by decide +kernel
theorem dX11_tyres_9 : decode cX11_tyres 9 = .ok (.bipush 6, 2) := by decide +kernel
theorem dX11_tyres_11 : decode cX11_tyres 11 = .ok (.invokestatic 115, 3) := by decide +kernel
theorem dX11_tyres_14 : decode cX11_tyres 14 = .ok (.ifCond .eq 16, 3) := by decide +kernel
theorem dX11_tyres_17 : decode cX11_tyres 17 = .ok (.iload_n 3, 1) := by decide +kernel
theorem dX11_tyres_18 : decode cX11_tyres 18 = .ok (.iconst 0, 1) := by decide +kernel
theorem dX11_tyres_19 : decode cX11_tyres 19 = .ok (.getstatic 119, 3) := by decide +kernel
theorem dX11_tyres_22 : decode cX11_tyres 22 = .ok (.iload_n 2, 1) := by decide +kernel
theorem dX11_tyres_23 : decode cX11_tyres 23 = .ok (.iaload, 1) := by decide +kernel
theorem dX11_tyres_24 : decode cX11_tyres 24 = .ok (.invokestatic 105, 3) := by decide +kernel
theorem dX11_tyres_27 : decode cX11_tyres 27 = .ok (.ifCond .ne 5, 3) := by decide +kernel
theorem dX11_tyres_30 : decode cX11_tyres 30 = .ok (.iconst (-1), 1) := by decide +kernel
theorem dX11_tyres_31 : decode cX11_tyres 31 = .ok (.ireturn, 1) := by decide +kernel
theorem dX11_tyres_32 : decode cX11_tyres 32 = .ok (.aload_n 0, 1) := by decide +kernel
theorem dX11_tyres_33 : decode cX11_tyres 33 = .ok (.getfield 15, 3) := by decide +kernel
theorem dX11_tyres_36 : decode cX11_tyres 36 = .ok (.iload_n 1, 1) := by decide +kernel
theorem dX11_tyres_37 : decode cX11_tyres 37 = .ok (.iload_n 2, 1) := by decide +kernel
theorem dX11_tyres_38 : decode cX11_tyres 38 = .ok (.invokevirtual 122, 3) := by decide +kernel
theorem dX11_tyres_41 : decode cX11_tyres 41 = .ok (.istore 4, 2) := by decide +kernel
theorem dX11_tyres_43 : decode cX11_tyres 43 = .ok (.aload_n 0, 1) := by decide +kernel
theorem dX11_tyres_44 : decode cX11_tyres 44 = .ok (.getfield 15, 3) := by decide +kernel
theorem dX11_tyres_47 : decode cX11_tyres 47 = .ok (.getfield 126, 3) := by decide +kernel
theorem dX11_tyres_50 : decode cX11_tyres 50 = .ok (.iload_n 1, 1) := by decide +kernel
theorem dX11_tyres_51 : decode cX11_tyres 51 = .ok (.bipush 6, 2) := by decide +kernel
theorem dX11_tyres_53 : decode cX11_tyres 53 = .ok (.imul, 1) := by decide +kernel
theorem dX11_tyres_54 : decode cX11_tyres 54 = .ok (.iload_n 2, 1) := by decide +kernel
theorem dX11_tyres_55 : decode cX11_tyres 55 = .ok (.iadd, 1) := by decide +kernel
theorem dX11_tyres_56 : decode cX11_tyres 56 = .ok (.iload_n 3, 1) := by decide +kernel
theorem dX11_tyres_57 : decode cX11_tyres 57 = .ok (.iastore, 1) := by decide +kernel
theorem dX11_tyres_58 : decode cX11_tyres 58 = .ok (.aload_n 0, 1) := by decide +kernel
theorem dX11_tyres_59 : decode cX11_tyres 59 = .ok (.getfield 24, 3) := by decide +kernel
theorem dX11_tyres_62 : decode cX11_tyres 62 = .ok (.iconst 0, 1) := by decide +kernel
theorem dX11_tyres_63 : decode cX11_tyres 63 = .ok (.putfield 84, 3) := by decide +kernel
theorem dX11_tyres_66 : decode cX11_tyres 66 = .ok (.iload 4, 2) := by decide +kernel
theorem dX11_tyres_68 : decode cX11_tyres 68 = .ok (.ireturn, 1) := by decide +kernel
theorem dX11_set_0 : decode cX11_set 0 = .ok (.iload_n 1, 1) := by decide +kernel
theorem dX11_set_1 : decode cX11_set 1 = .ok (.bipush 8, 2) := by decide +kernel
theorem dX11_set_3 : decode cX11_set 3 = .ok (.invokestatic 115, 3) := by decide +kernel
theorem dX11_set_6 : decode cX11_set 6 = .ok (.ifCond .eq 20, 3) := by decide +kernel
theorem dX11_set_9 : decode cX11_set 9 = .ok (.iload_n 2, 1) := by decide +kernel
theorem dX11_set_10 : decode cX11_set 10 = .ok (.getstatic 129, 3) := by decide +kernel
theorem dX11_set_13 : decode cX11_set 13 = .ok (.iload_n 1, 1) := by decide +kernel
theorem dX11_set_14 : decode cX11_set 14 = .ok (.iaload, 1) := by decide +kernel
theorem dX11_set_15 : decode cX11_set 15 = .ok (.getstatic 132, 3) := by decide +kernel
theorem dX11_set_18 : decode cX11_set 18 = .ok (.iload_n 1, 1) := by decide +kernel
theorem dX11_set_19 : decode cX11_set 19 = .ok (.iaload, 1) := by decide +kernel
theorem dX11_set_20 : decode cX11_set 20 = .ok (.invokestatic 105, 3) := by decide +kernel
theorem dX11_set_23 : decode cX11_set 23 = .ok (.ifCond .ne 5, 3) := by decide +kernel
theorem dX11_set_26 : decode cX11_set 26 = .ok (.iconst (-1), 1) := by decide +kernel
theorem dX11_set_27 : decode cX11_set 27 = .ok (.ireturn, 1) := by decide +kernel
theorem dX11_set_28 : decode cX11_set 28 = .ok (.aload_n 0, 1) := by decide +kernel
theorem dX11_set_29 : decode cX11_set 29 = .ok (.getfield 15, 3) := by decide +kernel
theorem dX11_set_32 : decode cX11_set 32 = .ok (.getfield 135, 3) := by decide +kernel
theorem dX11_set_35 : decode cX11_set 35 = .ok (.iload_n 1, 1) := by decide +kernel
theorem dX11_set_36 : decode cX11_set 36 = .ok (.iaload, 1) := by decide +kernel
theorem dX11_set_37 : decode cX11_set 37 = .ok (.istore_n 3, 1) := by decide +kernel
theorem dX11_set_38 : decode cX11_set 38 = .ok (.aload_n 0, 1) := by decide +kernel
theorem dX11_set_39 : decode cX11_set 39 = .ok (.getfield 15, 3) := by decide +kernel
theorem dX11_set_42 : decode cX11_set 42 = .ok (.getfield 135, 3) := by decide +kernel
theorem dX11_set_45 : decode cX11_set 45 = .ok (.iload_n 1, 1) := by decide +kernel
theorem dX11_set_46 : decode cX11_set 46 = .ok (.iload_n 2, 1) := by decide +kernel
theorem dX11_set_47 : decode cX11_set 47 = .ok (.iastore, 1) := by decide +kernel
theorem dX11_set_48 : decode cX11_set 48 = .ok (.aload_n 0, 1) := by decide +kernel
theorem dX11_set_49 : decode cX11_set 49 = .ok (.getfield 24, 3) := by decide +kernel
theorem dX11_set_52 : decode cX11_set 52 = .ok (.iconst 0, 1) := by decide +kernel
theorem dX11_set_53 : decode cX11_set 53 = .ok (.putfield 84, 3) := by decide +kernel
theorem dX11_set_56 : decode cX11_set 56 = .ok (.iload_n 3, 1) := by decide +kernel
theorem dX11_set_57 : decode cX11_set 57 = .ok (.ireturn, 1) := by decide +kernel
theorem dX11_rain_0 : decode cX11_rain 0 = .ok (.aload_n 0, 1) := by decide +kernel
theorem dX11_rain_1 : decode cX11_rain 1 = .ok (.getfield 15, 3) := by decide +kernel
theorem dX11_rain_4 : decode cX11_rain 4 = .ok (.iload_n 1, 1) := by decide +kernel
theorem dX11_rain_5 : decode cX11_rain 5 = .ok (.invokevirtual 100, 3) := by decide +kernel
theorem dX11_rain_8 : decode cX11_rain 8 = .ok (.ifCond .eq 17, 3) := by decide +kernel
theorem dX11_rain_11 : decode cX11_rain 11 = .ok (.iload_n 2, 1) := by decide +kernel
theorem dX11_rain_12 : decode cX11_rain 12 = .ok (.ifCond .lt 13, 3) := by decide +kernel
theorem dX11_rain_15 : decode cX11_rain 15 = .ok (.iload_n 3, 1) := by decide +kernel
theorem dX11_rain_16 : decode cX11_rain 16 = .ok (.iconst 0, 1) := by decide +kernel
theorem dX11_rain_17 : decode cX11_rain 17 = .ok (.bipush 100, 2) := by decide +kernel
theorem dX11_rain_19 : decode cX11_rain 19 = .ok (.invokestatic 105, 3) := by decide +kernel
theorem dX11_rain_22 : decode cX11_rain 22 = .ok (.ifCond .ne 5, 3) := by decide +kernel
theorem dX11_rain_25 : decode cX11_rain 25 = .ok (.iconst (-1), 1) := by decide +kernel
theorem dX11_rain_26 : decode cX11_rain 26 = .ok (.ireturn, 1) := by decide +kernel
theorem dX11_rain_27 : decode cX11_rain 27 = .ok (.aload_n 0, 1) := by decide +kernel
theorem dX11_rain_28 : decode cX11_rain 28 = .ok (.getfield 24, 3) := by decide +kernel
theorem dX11_rain_31 : decode cX11_rain 31 = .ok (.iconst 0, 1) := by decide +kernel
theorem dX11_rain_32 : decode cX11_rain 32 = .ok (.putfield 84, 3) := by decide +kernel
theorem dX11_rain_35 : decode cX11_rain 35 = .ok (.aload_n 0, 1) := by decide +kernel
theorem dX11_rain_36 : decode cX11_rain 36 = .ok (.getfield 15, 3) := by decide +kernel
theorem dX11_rain_39 : decode cX11_rain 39 = .ok (.getfield 138, 3) := by decide +kernel
theorem dX11_rain_42 : decode cX11_rain 42 = .ok (.iload_n 1, 1) := by decide +kernel
theorem dX11_rain_43 : decode cX11_rain 43 = .ok (.iload_n 2, 1) := by decide +kernel
theorem dX11_rain_44 : decode cX11_rain 44 = .ok (.iload_n 3, 1) := by decide +kernel
theorem dX11_rain_45 : decode cX11_rain 45 = .ok (.iconst 0, 1) := by decide +kernel
theorem dX11_rain_46 : decode cX11_rain 46 = .ok (.invokevirtual 141, 3) := by decide +kernel
theorem dX11_rain_49 : decode cX11_rain 49 = .ok (.ireturn, 1) := by decide +kernel
theorem dX11_flag_0 : decode cX11_flag 0 = .ok (.iload_n 1, 1) := by decide +kernel
theorem dX11_flag_1 : decode cX11_flag 1 = .ok (.iconst (-1), 1) := by decide +kernel
theorem dX11_flag_2 : decode cX11_flag 2 = .ok (.if_icmp .eq 16, 3) := by decide +kernel
theorem dX11_flag_5 : decode cX11_flag 5 = .ok (.aload_n 0, 1) := by decide +kernel
theorem dX11_flag_6 : decode cX11_flag 6 = .ok (.getfield 15, 3) := by decide +kernel
theorem dX11_flag_9 : decode cX11_flag 9 = .ok (.iload_n 1, 1) := by decide +kernel
theorem dX11_flag_10 : decode cX11_flag 10 = .ok (.invokevirtual 100, 3) := by decide +kernel
theorem dX11_flag_13 : decode cX11_flag 13 = .ok (.ifCond .ne 5, 3) := by decide +kernel
theorem dX11_flag_16 : decode cX11_flag 16 = .ok (.iconst (-1), 1) := by decide +kernel
theorem dX11_flag_17 : decode cX11_flag 17 = .ok (.ireturn, 1) := by decide +kernel
theorem dX11_flag_18 : decode cX11_flag 18 = .ok (.iload_n 2, 1) := by decide +kernel
theorem dX11_flag_19 : decode cX11_flag 19 = .ok (.ifCond .lt 18, 3) := by decide +kernel
theorem dX11_flag_22 : decode cX11_flag 22 = .ok (.iload_n 3, 1) := by decide +kernel
theorem dX11_flag_23 : decode cX11_flag 23 = .ok (.iload_n 2, 1) := by decide +kernel
theorem dX11_flag_24 : decode cX11_flag 24 = .ok (.if_icmp .lt 13, 3) := by decide +kernel
theorem dX11_flag_27 : decode cX11_flag 27 = .ok (.iload 4, 2) := by decide +kernel
theorem dX11_flag_29 : decode cX11_flag 29 = .ok (.iconst 0, 1) := by decide +kernel
theorem dX11_flag_30 : decode cX11_flag 30 = .ok (.iconst 1, 1) := by decide +kernel
theorem dX11_flag_31 : decode cX11_flag 31 = .ok (.invokestatic 105, 3) := by decide +kernel
theorem dX11_flag_34 : decode cX11_flag 34 = .ok (.ifCond .ne 5, 3) := by decide +kernel
theorem dX11_flag_37 : decode cX11_flag 37 = .ok (.iconst (-1), 1) := by decide +kernel
theorem dX11_flag_38 : decode cX11_flag 38 = .ok (.ireturn, 1) := by decide +kernel
theorem dX11_flag_39 : decode cX11_flag 39 = .ok (.aload_n 0, 1) := by decide +kernel
theorem dX11_flag_40 : decode cX11_flag 40 = .ok (.getfield 24, 3) := by decide +kernel
theorem dX11_flag_43 : decode cX11_flag 43 = .ok (.iconst 0, 1) := by decide +kernel
theorem dX11_flag_44 : decode cX11_flag 44 = .ok (.putfield 84, 3) := by decide +kernel
theorem dX11_flag_47 : decode cX11_flag 47 = .ok (.aload_n 0, 1) := by decide +kernel
theorem dX11_flag_48 : decode cX11_flag 48 = .ok (.getfield 15, 3) := by decide +kernel
theorem dX11_flag_51 : decode cX11_flag 51 = .ok (.getfield 145, 3) := by decide +kernel
theorem dX11_flag_54 : decode cX11_flag 54 = .ok (.iload_n 1, 1) := by decide +kernel
theorem dX11_flag_55 : decode cX11_flag 55 = .ok (.iload_n 2, 1) := by decide +kernel
theorem dX11_flag_56 : decode cX11_flag 56 = .ok (.iload_n 3, 1) := by decide +kernel
theorem dX11_flag_57 : decode cX11_flag 57 = .ok (.iload 4, 2) := by decide +kernel
theorem dX11_flag_59 : decode cX11_flag 59 = .ok (.invokevirtual 141, 3) := by decide +kernel
theorem dX11_flag_62 : decode cX11_flag 62 = .ok (.ireturn, 1) := by decide +kernel
theorem dX11_car_0 : decode cX11_car 0 = .ok (.iload_n 1, 1) := by decide +kernel
theorem dX11_car_1 : decode cX11_car 1 = .ok (.sipush (-2000), 3) := by decide +kernel
theorem dX11_car_4 : decode cX11_car 4 = .ok (.sipush 2000, 3) := by decide +kernel
theorem dX11_car_7 : decode cX11_car 7 = .ok (.invokestatic 105, 3) := by decide +kernel
theorem dX11_car_10 : decode cX11_car 10 = .ok (.ifCond .eq 24, 3) := by decide +kernel
theorem dX11_car_13 : decode cX11_car 13 = .ok (.iload_n 2, 1) := by decide +kernel
theorem dX11_car_14 : decode cX11_car 14 = .ok (.iconst 1, 1) := by decide +kernel
theorem dX11_car_15 : decode cX11_car 15 = .ok (.sipush 200, 3) := by decide +kernel
theorem dX11_car_18 : decode cX11_car 18 = .ok (.invokestatic 105, 3) := by decide +kernel
theorem dX11_car_21 : decode cX11_car 21 = .ok (.ifCond .eq 13, 3) := by decide +kernel
theorem dX11_car_24 : decode cX11_car 24 = .ok (.iload_n 3, 1) := by decide +kernel
theorem dX11_car_25 : decode cX11_car 25 = .ok (.iconst 1, 1) := by decide +kernel
theorem dX11_car_26 : decode cX11_car 26 = .ok (.bipush 9, 2) := by decide +kernel
theorem dX11_car_28 : decode cX11_car 28 = .ok (.invokestatic 105, 3) := by decide +kernel
theorem dX11_car_31 : decode cX11_car 31 = .ok (.ifCond .ne 5, 3) := by decide +kernel
theorem dX11_car_34 : decode cX11_car 34 = .ok (.iconst (-1), 1) := by decide +kernel
theorem dX11_car_35 : decode cX11_car 35 = .ok (.ireturn, 1) := by decide +kernel
theorem dX11_car_36 : decode cX11_car 36 = .ok (.iload 4, 2) := by decide +kernel
theorem dX11_car_38 : decode cX11_car 38 = .ok (.iconst 4, 1) := by decide +kernel
theorem dX11_car_39 : decode cX11_car 39 = .ok (.invokestatic 115, 3) := by decide +kernel
theorem dX11_car_42 : decode cX11_car 42 = .ok (.ifCond .eq 22, 3) := by decide +kernel
theorem dX11_car_45 : decode cX11_car 45 = .ok (.iload 5, 2) := by decide +kernel
theorem dX11_car_47 : decode cX11_car 47 = .ok (.iconst 2, 1) := by decide +kernel
theorem dX11_car_48 : decode cX11_car 48 = .ok (.invokestatic 115, 3) := by decide +kernel
theorem dX11_car_51 : decode cX11_car 51 = .ok (.ifCond .eq 13, 3) := by decide +kernel
theorem dX11_car_54 : decode cX11_car 54 = .ok (.iload 6, 2) := by decide +kernel
theorem dX11_car_56 : decode cX11_car 56 = .ok (.iconst 0, 1) := by decide +kernel
theorem dX11_car_57 : decode cX11_car 57 = .ok (.iload_n 2, 1) := by decide +kernel
theorem dX11_car_58 : decode cX11_car 58 = .ok (.invokestatic 105, 3) := by decide +kernel
theorem dX11_car_61 : decode cX11_car 61 = .ok (.ifCond .ne 5, 3) := by decide +kernel
theorem dX11_car_64 : decode cX11_car 64 = .ok (.iconst (-1), 1) := by decide +kernel
theorem dX11_car_65 : decode cX11_car 65 = .ok (.ireturn, 1) := by decide +kernel
theorem dX11_car_66 : decode cX11_car 66 = .ok (.aload_n 0, 1) := by decide +kernel
theorem dX11_car_67 : decode cX11_car 67 = .ok (.getfield 24, 3) := by decide +kernel
theorem dX11_car_70 : decode cX11_car 70 = .ok (.getfield 80, 3) := by decide +kernel
theorem dX11_car_73 : decode cX11_car 73 = .ok (.bipush 6, 2) := by decide +kernel
theorem dX11_car_75 : decode cX11_car 75 = .ok (.invokestatic 115, 3) := by decide +kernel
theorem dX11_car_78 : decode cX11_car 78 = .ok (.ifCond .ne 5, 3) := by decide +kernel
theorem dX11_car_81 : decode cX11_car 81 = .ok (.iconst (-1), 1) := by decide +kernel
theorem dX11_car_82 : decode cX11_car 82 = .ok (.ireturn, 1) := by decide +kernel
theorem dX11_car_83 : decode cX11_car 83 = .ok (.aload_n 0, 1) := by decide +kernel
theorem dX11_car_84 : decode cX11_car 84 = .ok (.getfield 24, 3) := by decide +kernel
theorem dX11_car_87 : decode cX11_car 87 = .ok (.getfield 148, 3) := by decide +kernel
theorem dX11_car_90 : decode cX11_car 90 = .ok (.aload_n 0, 1) := by decide +kernel
theorem dX11_car_91 : decode cX11_car 91 = .ok (.getfield 24, 3) := by decide +kernel
theorem dX11_car_94 : decode cX11_car 94 = .ok (.getfield 80, 3) := by decide +kernel
theorem dX11_car_97 : decode cX11_car 97 = .ok (.aaload, 1) := by decide +kernel
theorem dX11_car_98 : decode cX11_car 98 = .ok (.astore 7, 2) := by decide +kernel
theorem dX11_car_100 : decode cX11_car 100 = .ok (.aload 7, 2) := by decide +kernel
theorem dX11_car_102 : decode cX11_car 102 = .ok (.invokevirtual 152, 3) := by decide +kernel
theorem dX11_car_105 : decode cX11_car 105 = .ok (.aload 7, 2) := by decide +kernel
theorem dX11_car_107 : decode cX11_car 107 = .ok (.iload_n 1, 1) := by decide +kernel
theorem dX11_car_108 : decode cX11_car 108 = .ok (.putfield 157, 3) := by decide +kernel
theorem dX11_car_111 : decode cX11_car 111 = .ok (.aload 7, 2) := by decide +kernel
theorem dX11_car_113 : decode cX11_car 113 = .ok (.iload_n 2, 1) := by decide +kernel
theorem dX11_car_114 : decode cX11_car 114 = .ok (.putfield 160, 3) := by decide +kernel
theorem dX11_car_117 : decode cX11_car 117 = .ok (.aload 7, 2) := by decide +kernel
theorem dX11_car_119 : decode cX11_car 119 = .ok (.iload_n 3, 1) := by decide +kernel
theorem dX11_car_120 : decode cX11_car 120 = .ok (.putfield 163, 3) := by decide +kernel
theorem dX11_car_123 : decode cX11_car 123 = .ok (.aload 7, 2) := by decide +kernel
theorem dX11_car_125 : decode cX11_car 125 = .ok (.iload 4, 2) := by decide +kernel
theorem dX11_car_127 : decode cX11_car 127 = .ok (.putfield 166, 3) := by decide +kernel
theorem dX11_car_130 : decode cX11_car 130 = .ok (.aload 7, 2) := by decide +kernel
theorem dX11_car_132 : decode cX11_car 132 = .ok (.iload 5, 2) := by decide +kernel
theorem dX11_car_134 : decode cX11_car 134 = .ok (.putfield 169, 3) := by decide +kernel
theorem dX11_car_137 : decode cX11_car 137 = .ok (.aload 7, 2) := by decide +kernel
theorem dX11_car_139 : decode cX11_car 139 = .ok (.iload 6, 2) := by decide +kernel
theorem dX11_car_141 : decode cX11_car 141 = .ok (.putfield 172, 3) := by decide +kernel
theorem dX11_car_144 : decode cX11_car 144 = .ok (.aload_n 0, 1) := by decide +kernel
theorem dX11_car_145 : decode cX11_car 145 = .ok (.getfield 24, 3) := by decide +kernel
theorem dX11_car_148 : decode cX11_car 148 = .ok (.dup, 1) := by decide +kernel
theorem dX11_car_149 : decode cX11_car 149 = .ok (.getfield 80, 3) := by decide +kernel
theorem dX11_car_152 : decode cX11_car 152 = .ok (.iconst 1, 1) := by decide +kernel
theorem dX11_car_153 : decode cX11_car 153 = .ok (.iadd, 1) := by decide +kernel
theorem dX11_car_154 : decode cX11_car 154 = .ok (.putfield 80, 3) := by decide +kernel
theorem dX11_car_157 : decode cX11_car 157 = .ok (.aload_n 0, 1) := by decide +kernel
theorem dX11_car_158 : decode cX11_car 158 = .ok (.getfield 24, 3) := by decide +kernel
theorem dX11_car_161 : decode cX11_car 161 = .ok (.iconst 0, 1) := by decide +kernel
theorem dX11_car_162 : decode cX11_car 162 = .ok (.putfield 84, 3) := by decide +kernel
theorem dX11_car_165 : decode cX11_car 165 = .ok (.aload_n 0, 1) := by decide +kernel
theorem dX11_car_166 : decode cX11_car 166 = .ok (.getfield 24, 3) := by decide +kernel
theorem dX11_car_169 : decode cX11_car 169 = .ok (.getfield 80, 3) := by decide +kernel
theorem dX11_car_172 : decode cX11_car 172 = .ok (.iconst 1, 1) := by decide +kernel
theorem dX11_car_173 : decode cX11_car 173 = .ok (.isub, 1) := by decide +kernel
theorem dX11_car_174 : decode cX11_car 174 = .ok (.ireturn, 1) := by decide +kernel
theorem dX11_tyre_0 : decode cX11_tyre 0 = .ok (.aload_n 0, 1) := by decide +kernel
theorem dX11_tyre_1 : decode cX11_tyre 1 = .ok (.getfield 24, 3) := by decide +kernel
theorem dX11_tyre_4 : decode cX11_tyre 4 = .ok (.iload_n 1, 1) := by decide +kernel
theorem dX11_tyre_5 : decode cX11_tyre 5 = .ok (.invokevirtual 175, 3) := by decide +kernel
theorem dX11_tyre_8 : decode cX11_tyre 8 = .ok (.ifCond .eq 21, 3) := by decide +kernel
theorem dX11_tyre_11 : decode cX11_tyre 11 = .ok (.iload_n 2, 1) := by decide +kernel
theorem dX11_tyre_12 : decode cX11_tyre 12 = .ok (.iconst 4, 1) := by decide +kernel
theorem dX11_tyre_13 : decode cX11_tyre 13 = .ok (.invokestatic 115, 3) := by decide +kernel
theorem dX11_tyre_16 : decode cX11_tyre 16 = .ok (.ifCond .eq 13, 3) := by decide +kernel
theorem dX11_tyre_19 : decode cX11_tyre 19 = .ok (.iload_n 3, 1) := by decide +kernel
theorem dX11_tyre_20 : decode cX11_tyre 20 = .ok (.iconst 0, 1) := by decide +kernel
theorem dX11_tyre_21 : decode cX11_tyre 21 = .ok (.bipush 100, 2) := by decide +kernel
theorem dX11_tyre_23 : decode cX11_tyre 23 = .ok (.invokestatic 105, 3) := by decide +kernel
theorem dX11_tyre_26 : decode cX11_tyre 26 = .ok (.ifCond .ne 5, 3) := by decide +kernel
theorem dX11_tyre_29 : decode cX11_tyre 29 = .ok (.iconst (-1), 1) := by decide +kernel
theorem dX11_tyre_30 : decode cX11_tyre 30 = .ok (.ireturn, 1) := by decide +kernel
theorem dX11_tyre_31 : decode cX11_tyre 31 = .ok (.aload_n 0, 1) := by decide +kernel
theorem dX11_tyre_32 : decode cX11_tyre 32 = .ok (.getfield 24, 3) := by decide +kernel
theorem dX11_tyre_35 : decode cX11_tyre 35 = .ok (.getfield 148, 3) := by decide +kernel
theorem dX11_tyre_38 : decode cX11_tyre 38 = .ok (.iload_n 1, 1) := by decide +kernel
theorem dX11_tyre_39 : decode cX11_tyre 39 = .ok (.aaload, 1) := by decide +kernel
theorem dX11_tyre_40 : decode cX11_tyre 40 = .ok (.getfield 178, 3) := by decide +kernel
theorem dX11_tyre_43 : decode cX11_tyre 43 = .ok (.astore 4, 2) := by decide +kernel
theorem dX11_tyre_45 : decode cX11_tyre 45 = .ok (.aload 4, 2) := by decide +kernel
theorem dX11_tyre_47 : decode cX11_tyre 47 = .ok (.invokevirtual 181, 3) := by decide +kernel
theorem dX11_tyre_50 : decode cX11_tyre 50 = .ok (.ifCond .eq 5, 3) := by decide +kernel
theorem dX11_tyre_53 : decode cX11_tyre 53 = .ok (.iconst (-1), 1) := by decide +kernel
theorem dX11_tyre_54 : decode cX11_tyre 54 = .ok (.ireturn, 1) := by decide +kernel
theorem dX11_tyre_55 : decode cX11_tyre 55 = .ok (.aload_n 0, 1) := by decide +kernel
theorem dX11_tyre_56 : decode cX11_tyre 56 = .ok (.getfield 24, 3) := by decide +kernel
theorem dX11_tyre_59 : decode cX11_tyre 59 = .ok (.iconst 0, 1) := by decide +kernel
theorem dX11_tyre_60 : decode cX11_tyre 60 = .ok (.putfield 84, 3) := by decide +kernel
theorem dX11_tyre_63 : decode cX11_tyre 63 = .ok (.aload 4, 2) := by decide +kernel
theorem dX11_tyre_65 : decode cX11_tyre 65 = .ok (.iload_n 2, 1) := by decide +kernel
theorem dX11_tyre_66 : decode cX11_tyre 66 = .ok (.iload_n 3, 1) := by decide +kernel
theorem dX11_tyre_67 : decode cX11_tyre 67 = .ok (.iconst 0, 1) := by decide +kernel
theorem dX11_tyre_68 : decode cX11_tyre 68 = .ok (.iconst 0, 1) := by decide +kernel
theorem dX11_tyre_69 : decode cX11_tyre 69 = .ok (.invokevirtual 141, 3) := by decide +kernel
theorem dX11_tyre_72 : decode cX11_tyre 72 = .ok (.iconst 1, 1) := by decide +kernel
theorem dX11_tyre_73 : decode cX11_tyre 73 = .ok (.isub, 1) := by decide +kernel
theorem dX11_tyre_74 : decode cX11_tyre 74 = .ok (.ireturn, 1) := by decide +kernel
theorem dX11_order_0 : decode cX11_order 0 = .ok (.aload_n 0, 1) := by decide +kernel
theorem dX11_order_1 : decode cX11_order 1 = .ok (.getfield 24, 3) := by decide +kernel
theorem dX11_order_4 : decode cX11_order 4 = .ok (.iload_n 1, 1) := by decide +kernel
theorem dX11_order_5 : decode cX11_order 5 = .ok (.invokevirtual 175, 3) := by decide +kernel
theorem dX11_order_8 : decode cX11_order 8 = .ok (.ifCond .eq 26, 3) := by decide +kernel
theorem dX11_order_11 : decode cX11_order 11 = .ok (.iload_n 2, 1) := by decide +kernel
theorem dX11_order_12 : decode cX11_order 12 = .ok (.aload_n 0, 1) := by decide +kernel
theorem dX11_order_13 : decode cX11_order 13 = .ok (.getfield 15, 3) := by decide +kernel
theorem dX11_order_16 : decode cX11_order 16 = .ok (.getfield 185, 3) := by decide +kernel
theorem dX11_order_19 : decode cX11_order 19 = .ok (.invokestatic 115, 3) := by decide +kernel
theorem dX11_order_22 : decode cX11_order 22 = .ok (.ifCond .eq 12, 3) := by decide +kernel
theorem dX11_order_25 : decode cX11_order 25 = .ok (.iload_n 3, 1) := by decide +kernel
theorem dX11_order_26 : decode cX11_order 26 = .ok (.iconst 0, 1) := by decide +kernel
theorem dX11_order_27 : decode cX11_order 27 = .ok (.iconst 1, 1) := by decide +kernel
theorem dX11_order_28 : decode cX11_order 28 = .ok (.invokestatic 105, 3) := by decide +kernel
theorem dX11_order_31 : decode cX11_order 31 = .ok (.ifCond .ne 5, 3) := by decide +kernel
theorem dX11_order_34 : decode cX11_order 34 = .ok (.iconst (-1), 1) := by decide +kernel
theorem dX11_order_35 : decode cX11_order 35 = .ok (.ireturn, 1) := by decide +kernel
theorem dX11_order_36 : decode cX11_order 36 = .ok (.iload 4, 2) := by decide +kernel
theorem dX11_order_38 : decode cX11_order 38 = .ok (.iload_n 3, 1) := by decide +kernel
theorem dX11_order_39 : decode cX11_order 39 = .ok (.ifCond .ne 7, 3) := by decide +kernel
theorem dX11_order_42 : decode cX11_order 42 = .ok (.iconst (-1), 1) := by decide +kernel
theorem dX11_order_43 : decode cX11_order 43 = .ok (.goto 4, 3) := by decide +kernel
theorem dX11_order_46 : decode cX11_order 46 = .ok (.iconst 0, 1) := by decide +kernel
theorem dX11_order_47 : decode cX11_order 47 = .ok (.iconst 1, 1) := by decide +kernel
theorem dX11_order_48 : decode cX11_order 48 = .ok (.invokestatic 105, 3) := by decide +kernel
theorem dX11_order_51 : decode cX11_order 51 = .ok (.ifCond .ne 5, 3) := by decide +kernel
theorem dX11_order_54 : decode cX11_order 54 = .ok (.iconst (-1), 1) := by decide +kernel
theorem dX11_order_55 : decode cX11_order 55 = .ok (.ireturn, 1) := by decide +kernel
theorem dX11_order_56 : decode cX11_order 56 = .ok (.aload_n 0, 1) := by decide +kernel
theorem dX11_order_57 : decode cX11_order 57 = .ok (.getfield 24, 3) := by decide +kernel
theorem dX11_order_60 : decode cX11_order 60 = .ok (.iconst 0, 1) := by decide +kernel
theorem dX11_order_61 : decode cX11_order 61 = .ok (.putfield 84, 3) := by decide +kernel
theorem dX11_order_64 : decode cX11_order 64 = .ok (.aload_n 0, 1) := by decide +kernel
theorem dX11_order_65 : decode cX11_order 65 = .ok (.getfield 24, 3) := by decide +kernel
theorem dX11_order_68 : decode cX11_order 68 = .ok (.getfield 148, 3) := by decide +kernel
theorem dX11_order_71 : decode cX11_order 71 = .ok (.iload_n 1, 1) := by decide +kernel
theorem dX11_order_72 : decode cX11_order 72 = .ok (.aaload, 1) := by decide +kernel
theorem dX11_order_73 : decode cX11_order 73 = .ok (.getfield 188, 3) := by decide +kernel
theorem dX11_order_76 : decode cX11_order 76 = .ok (.iload_n 2, 1) := by decide +kernel
theorem dX11_order_77 : decode cX11_order 77 = .ok (.iload_n 3, 1) := by decide +kernel
theorem dX11_order_78 : decode cX11_order 78 = .ok (.iload 4, 2) := by decide +kernel
theorem dX11_order_80 : decode cX11_order 80 = .ok (.iconst 0, 1) := by decide +kernel
theorem dX11_order_81 : decode cX11_order 81 = .ok (.invokevirtual 141, 3) := by decide +kernel
theorem dX11_order_84 : decode cX11_order 84 = .ok (.ireturn, 1) := by decide +kernel
theorem dX11_stop_0 : decode cX11_stop 0 = .ok (.aload_n 0, 1) := by decide +kernel
theorem dX11_stop_1 : decode cX11_stop 1 = .ok (.getfield 24, 3) := by decide +kernel
theorem dX11_stop_4 : decode cX11_stop 4 = .ok (.iload_n 1, 1) := by decide +kernel
theorem dX11_stop_5 : decode cX11_stop 5 = .ok (.invokevirtual 175, 3) := by decide +kernel
theorem dX11_stop_8 : decode cX11_stop 8 = .ok (.ifCond .eq 20, 3) := by decide +kernel
theorem dX11_stop_11 : decode cX11_stop 11 = .ok (.iload_n 2, 1) := by decide +kernel
theorem dX11_stop_12 : decode cX11_stop 12 = .ok (.iconst 0, 1) := by decide +kernel
theorem dX11_stop_13 : decode cX11_stop 13 = .ok (.aload_n 0, 1) := by decide +kernel
theorem dX11_stop_14 : decode cX11_stop 14 = .ok (.getfield 15, 3) := by decide +kernel
theorem dX11_stop_17 : decode cX11_stop 17 = .ok (.getfield 185, 3) := by decide +kernel
theorem dX11_stop_20 : decode cX11_stop 20 = .ok (.iconst 2, 1) := by decide +kernel
theorem dX11_stop_21 : decode cX11_stop 21 = .ok (.isub, 1) := by decide +kernel
theorem dX11_stop_22 : decode cX11_stop 22 = .ok (.invokestatic 105, 3) := by decide +kernel
theorem dX11_stop_25 : decode cX11_stop 25 = .ok (.ifCond .ne 5, 3) := by decide +kernel
theorem dX11_stop_28 : decode cX11_stop 28 = .ok (.iconst (-1), 1) := by decide +kernel
theorem dX11_stop_29 : decode cX11_stop 29 = .ok (.ireturn, 1) := by decide +kernel
theorem dX11_stop_30 : decode cX11_stop 30 = .ok (.iload_n 3, 1) := by decide +kernel
theorem dX11_stop_31 : decode cX11_stop 31 = .ok (.iconst (-1), 1) := by decide +kernel
theorem dX11_stop_32 : decode cX11_stop 32 = .ok (.iconst 3, 1) := by decide +kernel
theorem dX11_stop_33 : decode cX11_stop 33 = .ok (.invokestatic 105, 3) := by decide +kernel
theorem dX11_stop_36 : decode cX11_stop 36 = .ok (.ifCond .eq 15, 3) := by decide +kernel
theorem dX11_stop_39 : decode cX11_stop 39 = .ok (.iload 4, 2) := by decide +kernel
theorem dX11_stop_41 : decode cX11_stop 41 = .ok (.iconst 0, 1) := by decide +kernel
theorem dX11_stop_42 : decode cX11_stop 42 = .ok (.sipush 200, 3) := by decide +kernel
theorem dX11_stop_45 : decode cX11_stop 45 = .ok (.invokestatic 105, 3) := by decide +kernel
theorem dX11_stop_48 : decode cX11_stop 48 = .ok (.ifCond .ne 5, 3) := by decide +kernel
theorem dX11_stop_51 : decode cX11_stop 51 = .ok (.iconst (-1), 1) := by decide +kernel
theorem dX11_stop_52 : decode cX11_stop 52 = .ok (.ireturn, 1) := by decide +kernel
theorem dX11_stop_53 : decode cX11_stop 53 = .ok (.aload_n 0, 1) := by decide +kernel
theorem dX11_stop_54 : decode cX11_stop 54 = .ok (.getfield 24, 3) := by decide +kernel
theorem dX11_stop_57 : decode cX11_stop 57 = .ok (.iconst 0, 1) := by decide +kernel
theorem dX11_stop_58 : decode cX11_stop 58 = .ok (.putfield 84, 3) := by decide +kernel
theorem dX11_stop_61 : decode cX11_stop 61 = .ok (.aload_n 0, 1) := by decide +kernel
theorem dX11_stop_62 : decode cX11_stop 62 = .ok (.getfield 24, 3) := by decide +kernel
theorem dX11_stop_65 : decode cX11_stop 65 = .ok (.getfield 148, 3) := by decide +kernel
theorem dX11_stop_68 : decode cX11_stop 68 = .ok (.iload_n 1, 1) := by decide +kernel
theorem dX11_stop_69 : decode cX11_stop 69 = .ok (.aaload, 1) := by decide +kernel
theorem dX11_stop_70 : decode cX11_stop 70 = .ok (.getfield 191, 3) := by decide +kernel
theorem dX11_stop_73 : decode cX11_stop 73 = .ok (.iload_n 2, 1) := by decide +kernel
theorem dX11_stop_74 : decode cX11_stop 74 = .ok (.iload_n 3, 1) := by decide +kernel
theorem dX11_stop_75 : decode cX11_stop 75 = .ok (.iload 4, 2) := by decide +kernel
theorem dX11_stop_77 : decode cX11_stop 77 = .ok (.iconst 0, 1) := by decide +kernel
theorem dX11_stop_78 : decode cX11_stop 78 = .ok (.invokevirtual 141, 3) := by decide +kernel
theorem dX11_stop_81 : decode cX11_stop 81 = .ok (.ireturn, 1) := by decide +kernel
theorem dX11_drop_0 : decode cX11_drop 0 = .ok (.aload_n 0, 1) := by decide +kernel
theorem dX11_drop_1 : decode cX11_drop 1 = .ok (.getfield 24, 3) := by decide +kernel
theorem dX11_drop_4 : decode cX11_drop 4 = .ok (.iload_n 1, 1) := by decide +kernel
theorem dX11_drop_5 : decode cX11_drop 5 = .ok (.invokevirtual 175, 3) := by decide +kernel
theorem dX11_drop_8 : decode cX11_drop 8 = .ok (.ifCond .eq 25, 3) := by decide +kernel
theorem dX11_drop_11 : decode cX11_drop 11 = .ok (.iload_n 2, 1) := by decide +kernel
theorem dX11_drop_12 : decode cX11_drop 12 = .ok (.aload_n 0, 1) := by decide +kernel
theorem dX11_drop_13 : decode cX11_drop 13 = .ok (.getfield 24, 3) := by decide +kernel
theorem dX11_drop_16 : decode cX11_drop 16 = .ok (.getfield 148, 3) := by decide +kernel
theorem dX11_drop_19 : decode cX11_drop 19 = .ok (.iload_n 1, 1) := by decide +kernel
theorem dX11_drop_20 : decode cX11_drop 20 = .ok (.aaload, 1) := by decide +kernel
theorem dX11_drop_21 : decode cX11_drop 21 = .ok (.getfield 191, 3) := by decide +kernel
theorem dX11_drop_24 : decode cX11_drop 24 = .ok (.getfield 95, 3) := by decide +kernel
theorem dX11_drop_27 : decode cX11_drop 27 = .ok (.invokestatic 115, 3) := by decide +kernel
theorem dX11_drop_30 : decode cX11_drop 30 = .ok (.ifCond .ne 5, 3) := by decide +kernel
theorem dX11_drop_33 : decode cX11_drop 33 = .ok (.iconst (-1), 1) := by decide +kernel
theorem dX11_drop_34 : decode cX11_drop 34 = .ok (.ireturn, 1) := by decide +kernel
theorem dX11_drop_35 : decode cX11_drop 35 = .ok (.aload_n 0, 1) := by decide +kernel
theorem dX11_drop_36 : decode cX11_drop 36 = .ok (.getfield 24, 3) := by decide +kernel
theorem dX11_drop_39 : decode cX11_drop 39 = .ok (.iconst 0, 1) := by decide +kernel
theorem dX11_drop_40 : decode cX11_drop 40 = .ok (.putfield 84, 3) := by decide +kernel
theorem dX11_drop_43 : decode cX11_drop 43 = .ok (.aload_n 0, 1) := by decide +kernel
theorem dX11_drop_44 : decode cX11_drop 44 = .ok (.getfield 24, 3) := by decide +kernel
theorem dX11_drop_47 : decode cX11_drop 47 = .ok (.getfield 148, 3) := by decide +kernel
theorem dX11_drop_50 : decode cX11_drop 50 = .ok (.iload_n 1, 1) := by decide +kernel
theorem dX11_drop_51 : decode cX11_drop 51 = .ok (.aaload, 1) := by decide +kernel
theorem dX11_drop_52 : decode cX11_drop 52 = .ok (.getfield 191, 3) := by decide +kernel
theorem dX11_drop_55 : decode cX11_drop 55 = .ok (.iload_n 2, 1) := by decide +kernel
theorem dX11_drop_56 : decode cX11_drop 56 = .ok (.invokevirtual 194, 3) := by decide +kernel
theorem dX11_drop_59 : decode cX11_drop 59 = .ok (.ireturn, 1) := by decide +kernel
theorem dX11_plan_0 : decode cX11_plan 0 = .ok (.aload_n 0, 1) := by decide +kernel
theorem dX11_plan_1 : decode cX11_plan 1 = .ok (.invokevirtual 198, 3) := by decide +kernel
theorem dX11_plan_4 : decode cX11_plan 4 = .ok (.istore_n 2, 1) := by decide +kernel
theorem dX11_plan_5 : decode cX11_plan 5 = .ok (.aload_n 0, 1) := by decide +kernel
theorem dX11_plan_6 : decode cX11_plan 6 = .ok (.getfield 24, 3) := by decide +kernel
theorem dX11_plan_9 : decode cX11_plan 9 = .ok (.iload_n 1, 1) := by decide +kernel
theorem dX11_plan_10 : decode cX11_plan 10 = .ok (.invokevirtual 175, 3) := by decide +kernel
theorem dX11_plan_13 : decode cX11_plan 13 = .ok (.ifCond .ne 6, 3) := by decide +kernel
theorem dX11_plan_16 : decode cX11_plan 16 = .ok (.bipush (-100), 2) := by decide +kernel
theorem dX11_plan_18 : decode cX11_plan 18 = .ok (.ireturn, 1) := by decide +kernel
theorem dX11_plan_19 : decode cX11_plan 19 = .ok (.aload_n 0, 1) := by decide +kernel
theorem dX11_plan_20 : decode cX11_plan 20 = .ok (.getfield 58, 3) := by decide +kernel
theorem dX11_plan_23 : decode cX11_plan 23 = .ok (.aload_n 0, 1) := by decide +kernel
theorem dX11_plan_24 : decode cX11_plan 24 = .ok (.getfield 62, 3) := by decide +kernel
theorem dX11_plan_27 : decode cX11_plan 27 = .ok (.iload_n 2, 1) := by decide +kernel
theorem dX11_plan_28 : decode cX11_plan 28 = .ok (.aload_n 0, 1) := by decide +kernel
theorem dX11_plan_29 : decode cX11_plan 29 = .ok (.getfield 72, 3) := by decide +kernel
theorem dX11_plan_32 : decode cX11_plan 32 = .ok (.iconst 1, 1) := by decide +kernel
theorem dX11_plan_33 : decode cX11_plan 33 = .ok (.invokevirtual 202, 3) := by decide +kernel
theorem dX11_plan_36 : decode cX11_plan 36 = .ok (.istore_n 3, 1) := by decide +kernel
theorem dX11_plan_37 : decode cX11_plan 37 = .ok (.iload_n 3, 1) := by decide +kernel
theorem dX11_plan_38 : decode cX11_plan 38 = .ok (.iconst (-1), 1) := by decide +kernel
theorem dX11_plan_39 : decode cX11_plan 39 = .ok (.if_icmp .eq 7, 3) := by decide +kernel
theorem dX11_plan_42 : decode cX11_plan 42 = .ok (.iconst (-1), 1) := by decide +kernel
theorem dX11_plan_43 : decode cX11_plan 43 = .ok (.iload_n 3, 1) := by decide +kernel
theorem dX11_plan_44 : decode cX11_plan 44 = .ok (.isub, 1) := by decide +kernel
theorem dX11_plan_45 : decode cX11_plan 45 = .ok (.ireturn, 1) := by decide +kernel
theorem dX11_plan_46 : decode cX11_plan 46 = .ok (.aload_n 0, 1) := by decide +kernel
theorem dX11_plan_47 : decode cX11_plan 47 = .ok (.getfield 24, 3) := by decide +kernel
theorem dX11_plan_50 : decode cX11_plan 50 = .ok (.getfield 148, 3) := by decide +kernel
theorem dX11_plan_53 : decode cX11_plan 53 = .ok (.iload_n 1, 1) := by decide +kernel
theorem dX11_plan_54 : decode cX11_plan 54 = .ok (.aaload, 1) := by decide +kernel
theorem dX11_plan_55 : decode cX11_plan 55 = .ok (.getfield 206, 3) := by decide +kernel
theorem dX11_plan_58 : decode cX11_plan 58 = .ok (.astore 4, 2) := by decide +kernel
theorem dX11_plan_60 : decode cX11_plan 60 = .ok (.aload_n 0, 1) := by decide +kernel
theorem dX11_plan_61 : decode cX11_plan 61 = .ok (.getfield 24, 3) := by decide +kernel
theorem dX11_plan_64 : decode cX11_plan 64 = .ok (.getfield 148, 3) := by decide +kernel
theorem dX11_plan_67 : decode cX11_plan 67 = .ok (.iload_n 1, 1) := by decide +kernel
theorem dX11_plan_68 : decode cX11_plan 68 = .ok (.aaload, 1) := by decide +kernel
theorem dX11_plan_69 : decode cX11_plan 69 = .ok (.aload_n 0, 1) := by decide +kernel
theorem dX11_plan_70 : decode cX11_plan 70 = .ok (.getfield 72, 3) := by decide +kernel
theorem dX11_plan_73 : decode cX11_plan 73 = .ok (.putfield 206, 3) := by decide +kernel
theorem dX11_plan_76 : decode cX11_plan 76 = .ok (.aload_n 0, 1) := by decide +kernel
theorem dX11_plan_77 : decode cX11_plan 77 = .ok (.getfield 24, 3) := by decide +kernel
theorem dX11_plan_80 : decode cX11_plan 80 = .ok (.getfield 148, 3) := by decide +kernel
theorem dX11_plan_83 : decode cX11_plan 83 = .ok (.iload_n 1, 1) := by decide +kernel
theorem dX11_plan_84 : decode cX11_plan 84 = .ok (.aaload, 1) := by decide +kernel
theorem dX11_plan_85 : decode cX11_plan 85 = .ok (.iconst 1, 1) := by decide +kernel
theorem dX11_plan_86 : decode cX11_plan 86 = .ok (.putfield 209, 3) := by decide +kernel
theorem dX11_plan_89 : decode cX11_plan 89 = .ok (.aload_n 0, 1) := by decide +kernel
theorem dX11_plan_90 : decode cX11_plan 90 = .ok (.aload 4, 2) := by decide +kernel
theorem dX11_plan_92 : decode cX11_plan 92 = .ok (.putfield 72, 3) := by decide +kernel
theorem dX11_plan_95 : decode cX11_plan 95 = .ok (.aload_n 0, 1) := by decide +kernel
theorem dX11_plan_96 : decode cX11_plan 96 = .ok (.getfield 24, 3) := by decide +kernel
theorem dX11_plan_99 : decode cX11_plan 99 = .ok (.iconst 0, 1) := by decide +kernel
theorem dX11_plan_100 : decode cX11_plan 100 = .ok (.putfield 84, 3) := by decide +kernel
theorem dX11_plan_103 : decode cX11_plan 103 = .ok (.iconst 1, 1) := by decide +kernel
theorem dX11_plan_104 : decode cX11_plan 104 = .ok (.ireturn, 1) := by decide +kernel
theorem dX11_unplan_0 : decode cX11_unplan 0 = .ok (.aload_n 0, 1) := by decide +kernel
theorem dX11_unplan_1 : decode cX11_unplan 1 = .ok (.getfield 24, 3) := by decide +kernel
theorem dX11_unplan_4 : decode cX11_unplan 4 = .ok (.iload_n 1, 1) := by decide +kernel
theorem dX11_unplan_5 : decode cX11_unplan 5 = .ok (.invokevirtual 175, 3) := by decide +kernel
theorem dX11_unplan_8 : decode cX11_unplan 8 = .ok (.ifCond .eq 18, 3) := by decide +kernel
theorem dX11_unplan_11 : decode cX11_unplan 11 = .ok (.aload_n 0, 1) := by decide +kernel
theorem dX11_unplan_12 : decode cX11_unplan 12 = .ok (.getfield 24, 3) := by decide +kernel
theorem dX11_unplan_15 : decode cX11_unplan 15 = .ok (.getfield 148, 3) := by decide +kernel
theorem dX11_unplan_18 : decode cX11_unplan 18 = .ok (.iload_n 1, 1) := by decide +kernel
theorem dX11_unplan_19 : decode cX11_unplan 19 = .ok (.aaload, 1) := by decide +kernel
theorem dX11_unplan_20 : decode cX11_unplan 20 = .ok (.getfield 209, 3) := by decide +kernel
theorem dX11_unplan_23 : decode cX11_unplan 23 = .ok (.ifCond .ne 5, 3) := by decide +kernel
theorem dX11_unplan_26 : decode cX11_unplan 26 = .ok (.iconst 0, 1) := by decide +kernel
theorem dX11_unplan_27 : decode cX11_unplan 27 = .ok (.ireturn, 1) := by decide +kernel
theorem dX11_unplan_28 : decode cX11_unplan 28 = .ok (.aload_n 0, 1) := by decide +kernel
theorem dX11_unplan_29 : decode cX11_unplan 29 = .ok (.getfield 24, 3) := by decide +kernel
theorem dX11_unplan_32 : decode cX11_unplan 32 = .ok (.getfield 148, 3) := by decide +kernel
theorem dX11_unplan_35 : decode cX11_unplan 35 = .ok (.iload_n 1, 1) := by decide +kernel
theorem dX11_unplan_36 : decode cX11_unplan 36 = .ok (.aaload, 1) := by decide +kernel
theorem dX11_unplan_37 : decode cX11_unplan 37 = .ok (.iconst 0, 1) := by decide +kernel
theorem dX11_unplan_38 : decode cX11_unplan 38 = .ok (.putfield 209, 3) := by decide +kernel
theorem dX11_unplan_41 : decode cX11_unplan 41 = .ok (.aload_n 0, 1) := by decide +kernel
theorem dX11_unplan_42 : decode cX11_unplan 42 = .ok (.getfield 24, 3) := by decide +kernel
theorem dX11_unplan_45 : decode cX11_unplan 45 = .ok (.iconst 0, 1) := by decide +kernel
theorem dX11_unplan_46 : decode cX11_unplan 46 = .ok (.putfield 84, 3) := by decide +kernel
theorem dX11_unplan_49 : decode cX11_unplan 49 = .ok (.iconst 1, 1) := by decide +kernel
theorem dX11_unplan_50 : decode cX11_unplan 50 = .ok (.ireturn, 1) := by decide +kernel
theorem dX11_count_0 : decode cX11_count 0 = .ok (.iload_n 1, 1) := by decide +kernel
theorem dX11_count_1 : decode cX11_count 1 = .ok (.tableswitch 138 0 9 #[55, 63, 71, 79, 90, 101, 109, 120, 125, 130], 55) := by decide +kernel
theorem dX11_count_56 : decode cX11_count 56 = .ok (.aload_n 0, 1) := by decide +kernel
theorem dX11_count_57 : decode cX11_count 57 = .ok (.getfield 15, 3) := by decide +kernel
theorem dX11_count_60 : decode cX11_count 60 = .ok (.getfield 212, 3) := by decide +kernel
theorem dX11_count_63 : decode cX11_count 63 = .ok (.ireturn, 1) := by decide +kernel
theorem dX11_count_64 : decode cX11_count 64 = .ok (.aload_n 0, 1) := by decide +kernel
theorem dX11_count_65 : decode cX11_count 65 = .ok (.getfield 15, 3) := by decide +kernel
theorem dX11_count_68 : decode cX11_count 68 = .ok (.getfield 185, 3) := by decide +kernel
theorem dX11_count_71 : decode cX11_count 71 = .ok (.ireturn, 1) := by decide +kernel
theorem dX11_count_72 : decode cX11_count 72 = .ok (.aload_n 0, 1) := by decide +kernel
theorem dX11_count_73 : decode cX11_count 73 = .ok (.getfield 24, 3) := by decide +kernel
theorem dX11_count_76 : decode cX11_count 76 = .ok (.getfield 80, 3) := by decide +kernel
theorem dX11_count_79 : decode cX11_count 79 = .ok (.ireturn, 1) := by decide +kernel
theorem dX11_count_80 : decode cX11_count 80 = .ok (.aload_n 0, 1) := by decide +kernel
theorem dX11_count_81 : decode cX11_count 81 = .ok (.getfield 15, 3) := by decide +kernel
theorem dX11_count_84 : decode cX11_count 84 = .ok (.getfield 138, 3) := by decide +kernel
theorem dX11_count_87 : decode cX11_count 87 = .ok (.getfield 95, 3) := by decide +kernel
theorem dX11_count_90 : decode cX11_count 90 = .ok (.ireturn, 1) := by decide +kernel
theorem dX11_count_91 : decode cX11_count 91 = .ok (.aload_n 0, 1) := by decide +kernel
theorem dX11_count_92 : decode cX11_count 92 = .ok (.getfield 15, 3) := by decide +kernel
theorem dX11_count_95 : decode cX11_count 95 = .ok (.getfield 145, 3) := by decide +kernel
theorem dX11_count_98 : decode cX11_count 98 = .ok (.getfield 95, 3) := by decide +kernel
theorem dX11_count_101 : decode cX11_count 101 = .ok (.ireturn, 1) := by decide +kernel
theorem dX11_count_102 : decode cX11_count 102 = .ok (.aload_n 0, 1) := by decide +kernel
theorem dX11_count_103 : decode cX11_count 103 = .ok (.getfield 33, 3) := by decide +kernel
theorem dX11_count_106 : decode cX11_count 106 = .ok (.getfield 88, 3) := by decide +kernel
theorem dX11_count_109 : decode cX11_count 109 = .ok (.ireturn, 1) := by decide +kernel
theorem dX11_count_110 : decode cX11_count 110 = .ok (.aload_n 0, 1) := by decide +kernel
theorem dX11_count_111 : decode cX11_count 111 = .ok (.getfield 33, 3) := by decide +kernel
theorem dX11_count_114 : decode cX11_count 114 = .ok (.getfield 91, 3) := by decide +kernel
theorem dX11_count_117 : decode cX11_count 117 = .ok (.getfield 95, 3) := by decide +kernel
theorem dX11_count_120 : decode cX11_count 120 = .ok (.ireturn, 1) := by decide +kernel
theorem dX11_count_121 : decode cX11_count 121 = .ok (.aload_n 0, 1) := by decide +kernel
theorem dX11_count_122 : decode cX11_count 122 = .ok (.getfield 215, 3) := by decide +kernel
theorem dX11_count_125 : decode cX11_count 125 = .ok (.ireturn, 1) := by decide +kernel
theorem dX11_count_126 : decode cX11_count 126 = .ok (.aload_n 0, 1) := by decide +kernel
theorem dX11_count_127 : decode cX11_count 127 = .ok (.getfield 218, 3) := by decide +kernel
theorem dX11_count_130 : decode cX11_count 130 = .ok (.ireturn, 1) := by decide +kernel
theorem dX11_count_131 : decode cX11_count 131 = .ok (.aload_n 0, 1) := by decide +kernel
theorem dX11_count_132 : decode cX11_count 132 = .ok (.getfield 24, 3) := by decide +kernel
theorem dX11_count_135 : decode cX11_count 135 = .ok (.invokevirtual 221, 3) := by decide +kernel
theorem dX11_count_138 : decode cX11_count 138 = .ok (.ireturn, 1) := by decide +kernel
theorem dX11_count_139 : decode cX11_count 139 = .ok (.iconst (-1), 1) := by decide +kernel
theorem dX11_count_140 : decode cX11_count 140 = .ok (.ireturn, 1) := by decide +kernel
theorem dX11_of_0 : decode cX11_of 0 = .ok (.aload_n 0, 1) := by decide +kernel
theorem dX11_of_1 : decode cX11_of 1 = .ok (.getfield 24, 3) := by decide +kernel
theorem dX11_of_4 : decode cX11_of 4 = .ok (.iload_n 1, 1) := by decide +kernel
theorem dX11_of_5 : decode cX11_of 5 = .ok (.invokevirtual 175, 3) := by decide +kernel
theorem dX11_of_8 : decode cX11_of 8 = .ok (.ifCond .eq 13, 3) := by decide +kernel
theorem dX11_of_11 : decode cX11_of 11 = .ok (.iload_n 2, 1) := by decide +kernel
theorem dX11_of_12 : decode cX11_of 12 = .ok (.iconst 0, 1) := by decide +kernel
theorem dX11_of_13 : decode cX11_of 13 = .ok (.bipush 10, 2) := by decide +kernel
theorem dX11_of_15 : decode cX11_of 15 = .ok (.invokestatic 105, 3) := by decide +kernel
theorem dX11_of_18 : decode cX11_of 18 = .ok (.ifCond .ne 11, 3) := by decide +kernel
theorem dX11_of_21 : decode cX11_of 21 = .ok (.new 224, 3) := by decide +kernel
theorem dX11_of_24 : decode cX11_of 24 = .ok (.dup, 1) := by decide +kernel
theorem dX11_of_25 : decode cX11_of 25 = .ok (.invokespecial 226, 3) := by decide +kernel
theorem dX11_of_28 : decode cX11_of 28 = .ok (.athrow, 1) := by decide +kernel
theorem dX11_of_29 : decode cX11_of 29 = .ok (.aload_n 0, 1) := by decide +kernel
theorem dX11_of_30 : decode cX11_of 30 = .ok (.getfield 24, 3) := by decide +kernel
theorem dX11_of_33 : decode cX11_of 33 = .ok (.invokevirtual 227, 3) := by decide +kernel
theorem dX11_of_36 : decode cX11_of 36 = .ok (.aload_n 0, 1) := by decide +kernel
theorem dX11_of_37 : decode cX11_of 37 = .ok (.getfield 24, 3) := by decide +kernel
theorem dX11_of_40 : decode cX11_of 40 = .ok (.getfield 230, 3) := by decide +kernel
theorem dX11_of_43 : decode cX11_of 43 = .ok (.iload_n 1, 1) := by decide +kernel
theorem dX11_of_44 : decode cX11_of 44 = .ok (.aaload, 1) := by decide +kernel
theorem dX11_of_45 : decode cX11_of 45 = .ok (.iload_n 2, 1) := by decide +kernel
theorem dX11_of_46 : decode cX11_of 46 = .ok (.invokevirtual 234, 3) := by decide +kernel
theorem dX11_of_49 : decode cX11_of 49 = .ok (.ireturn, 1) := by decide +kernel
theorem dX11_at_0 : decode cX11_at 0 = .ok (.aload_n 0, 1) := by decide +kernel
theorem dX11_at_1 : decode cX11_at 1 = .ok (.getfield 24, 3) := by decide +kernel
theorem dX11_at_4 : decode cX11_at 4 = .ok (.iload_n 1, 1) := by decide +kernel
theorem dX11_at_5 : decode cX11_at 5 = .ok (.invokevirtual 175, 3) := by decide +kernel
theorem dX11_at_8 : decode cX11_at 8 = .ok (.ifCond .eq 15, 3) := by decide +kernel
theorem dX11_at_11 : decode cX11_at 11 = .ok (.aload_n 0, 1) := by decide +kernel
theorem dX11_at_12 : decode cX11_at 12 = .ok (.getfield 15, 3) := by decide +kernel
theorem dX11_at_15 : decode cX11_at 15 = .ok (.iload_n 2, 1) := by decide +kernel
theorem dX11_at_16 : decode cX11_at 16 = .ok (.iload_n 3, 1) := by decide +kernel
theorem dX11_at_17 : decode cX11_at 17 = .ok (.invokevirtual 239, 3) := by decide +kernel
theorem dX11_at_20 : decode cX11_at 20 = .ok (.ifCond .ne 5, 3) := by decide +kernel
theorem dX11_at_23 : decode cX11_at 23 = .ok (.iconst (-1), 1) := by decide +kernel
theorem dX11_at_24 : decode cX11_at 24 = .ok (.ireturn, 1) := by decide +kernel
theorem dX11_at_25 : decode cX11_at 25 = .ok (.aload_n 0, 1) := by decide +kernel
theorem dX11_at_26 : decode cX11_at 26 = .ok (.getfield 24, 3) := by decide +kernel
theorem dX11_at_29 : decode cX11_at 29 = .ok (.invokevirtual 227, 3) := by decide +kernel
theorem dX11_at_32 : decode cX11_at 32 = .ok (.aload_n 0, 1) := by decide +kernel
theorem dX11_at_33 : decode cX11_at 33 = .ok (.getfield 24, 3) := by decide +kernel
theorem dX11_at_36 : decode cX11_at 36 = .ok (.getfield 230, 3) := by decide +kernel
theorem dX11_at_39 : decode cX11_at 39 = .ok (.iload_n 1, 1) := by decide +kernel
theorem dX11_at_40 : decode cX11_at 40 = .ok (.aaload, 1) := by decide +kernel
theorem dX11_at_41 : decode cX11_at 41 = .ok (.aload_n 0, 1) := by decide +kernel
theorem dX11_at_42 : decode cX11_at 42 = .ok (.getfield 15, 3) := by decide +kernel
theorem dX11_at_45 : decode cX11_at 45 = .ok (.iload_n 2, 1) := by decide +kernel
theorem dX11_at_46 : decode cX11_at 46 = .ok (.iload_n 3, 1) := by decide +kernel
theorem dX11_at_47 : decode cX11_at 47 = .ok (.invokevirtual 242, 3) := by decide +kernel
theorem dX11_at_50 : decode cX11_at 50 = .ok (.invokevirtual 245, 3) := by decide +kernel
theorem dX11_at_53 : decode cX11_at 53 = .ok (.ireturn, 1) := by decide +kernel
theorem dX11_led_0 : decode cX11_led 0 = .ok (.iload_n 1, 1) := by decide +kernel
theorem dX11_led_1 : decode cX11_led 1 = .ok (.aload_n 0, 1) := by decide +kernel
theorem dX11_led_2 : decode cX11_led 2 = .ok (.getfield 15, 3) := by decide +kernel
theorem dX11_led_5 : decode cX11_led 5 = .ok (.getfield 185, 3) := by decide +kernel
theorem dX11_led_8 : decode cX11_led 8 = .ok (.invokestatic 115, 3) := by decide +kernel
theorem dX11_led_11 : decode cX11_led 11 = .ok (.ifCond .eq 17, 3) := by decide +kernel
theorem dX11_led_14 : decode cX11_led 14 = .ok (.iload_n 2, 1) := by decide +kernel
theorem dX11_led_15 : decode cX11_led 15 = .ok (.aload_n 0, 1) := by decide +kernel
theorem dX11_led_16 : decode cX11_led 16 = .ok (.getfield 24, 3) := by decide +kernel
theorem dX11_led_19 : decode cX11_led 19 = .ok (.getfield 80, 3) := by decide +kernel
theorem dX11_led_22 : decode cX11_led 22 = .ok (.invokestatic 115, 3) := by decide +kernel
theorem dX11_led_25 : decode cX11_led 25 = .ok (.ifCond .ne 5, 3) := by decide +kernel
theorem dX11_led_28 : decode cX11_led 28 = .ok (.iconst (-1), 1) := by decide +kernel
theorem dX11_led_29 : decode cX11_led 29 = .ok (.ireturn, 1) := by decide +kernel
theorem dX11_led_30 : decode cX11_led 30 = .ok (.aload_n 0, 1) := by decide +kernel
theorem dX11_led_31 : decode cX11_led 31 = .ok (.getfield 24, 3) := by decide +kernel
theorem dX11_led_34 : decode cX11_led 34 = .ok (.invokevirtual 227, 3) := by decide +kernel
theorem dX11_led_37 : decode cX11_led 37 = .ok (.aload_n 0, 1) := by decide +kernel
theorem dX11_led_38 : decode cX11_led 38 = .ok (.getfield 24, 3) := by decide +kernel
theorem dX11_led_41 : decode cX11_led 41 = .ok (.aload_n 0, 1) := by decide +kernel
theorem dX11_led_42 : decode cX11_led 42 = .ok (.getfield 15, 3) := by decide +kernel
theorem dX11_led_45 : decode cX11_led 45 = .ok (.iload_n 1, 1) := by decide +kernel
theorem dX11_led_46 : decode cX11_led 46 = .ok (.aload_n 0, 1) := by decide +kernel
theorem dX11_led_47 : decode cX11_led 47 = .ok (.getfield 15, 3) := by decide +kernel
theorem dX11_led_50 : decode cX11_led 50 = .ok (.getfield 212, 3) := by decide +kernel
theorem dX11_led_53 : decode cX11_led 53 = .ok (.iconst 1, 1) := by decide +kernel
theorem dX11_led_54 : decode cX11_led 54 = .ok (.isub, 1) := by decide +kernel
theorem dX11_led_55 : decode cX11_led 55 = .ok (.invokevirtual 242, 3) := by decide +kernel
theorem dX11_led_58 : decode cX11_led 58 = .ok (.iload_n 2, 1) := by decide +kernel
theorem dX11_led_59 : decode cX11_led 59 = .ok (.invokevirtual 248, 3) := by decide +kernel
theorem dX11_led_62 : decode cX11_led 62 = .ok (.ireturn, 1) := by decide +kernel
theorem dX11_waited_0 : decode cX11_waited 0 = .ok (.aload_n 0, 1) := by decide +kernel
theorem dX11_waited_1 : decode cX11_waited 1 = .ok (.getfield 24, 3) := by decide +kernel
theorem dX11_waited_4 : decode cX11_waited 4 = .ok (.iload_n 1, 1) := by decide +kernel
theorem dX11_waited_5 : decode cX11_waited 5 = .ok (.invokevirtual 175, 3) := by decide +kernel
theorem dX11_waited_8 : decode cX11_waited 8 = .ok (.ifCond .ne 5, 3) := by decide +kernel
theorem dX11_waited_11 : decode cX11_waited 11 = .ok (.iconst (-1), 1) := by decide +kernel
theorem dX11_waited_12 : decode cX11_waited 12 = .ok (.ireturn, 1) := by decide +kernel
theorem dX11_waited_13 : decode cX11_waited 13 = .ok (.aload_n 0, 1) := by decide +kernel
theorem dX11_waited_14 : decode cX11_waited 14 = .ok (.getfield 24, 3) := by decide +kernel
theorem dX11_waited_17 : decode cX11_waited 17 = .ok (.invokevirtual 227, 3) := by decide +kernel
theorem dX11_waited_20 : decode cX11_waited 20 = .ok (.aload_n 0, 1) := by decide +kernel
theorem dX11_waited_21 : decode cX11_waited 21 = .ok (.getfield 24, 3) := by decide +kernel
theorem dX11_waited_24 : decode cX11_waited 24 = .ok (.getfield 230, 3) := by decide +kernel
theorem dX11_waited_27 : decode cX11_waited 27 = .ok (.iload_n 1, 1) := by decide +kernel
theorem dX11_waited_28 : decode cX11_waited 28 = .ok (.aaload, 1) := by decide +kernel
theorem dX11_waited_29 : decode cX11_waited 29 = .ok (.getfield 251, 3) := by decide +kernel
theorem dX11_waited_32 : decode cX11_waited 32 = .ok (.ireturn, 1) := by decide +kernel
theorem dX11_leads_0 : decode cX11_leads 0 = .ok (.aload_n 0, 1) := by decide +kernel
theorem dX11_leads_1 : decode cX11_leads 1 = .ok (.getfield 24, 3) := by decide +kernel
theorem dX11_leads_4 : decode cX11_leads 4 = .ok (.invokevirtual 227, 3) := by decide +kernel
theorem dX11_leads_7 : decode cX11_leads 7 = .ok (.iconst 0, 1) := by decide +kernel
theorem dX11_leads_8 : decode cX11_leads 8 = .ok (.istore_n 1, 1) := by decide +kernel
theorem dX11_leads_9 : decode cX11_leads 9 = .ok (.aload_n 0, 1) := by decide +kernel
theorem dX11_leads_10 : decode cX11_leads 10 = .ok (.getfield 24, 3) := by decide +kernel
theorem dX11_leads_13 : decode cX11_leads 13 = .ok (.aload_n 0, 1) := by decide +kernel
theorem dX11_leads_14 : decode cX11_leads 14 = .ok (.getfield 15, 3) := by decide +kernel
theorem dX11_leads_17 : decode cX11_leads 17 = .ok (.iconst 0, 1) := by decide +kernel
theorem dX11_leads_18 : decode cX11_leads 18 = .ok (.aload_n 0, 1) := by decide +kernel
theorem dX11_leads_19 : decode cX11_leads 19 = .ok (.getfield 15, 3) := by decide +kernel
theorem dX11_leads_22 : decode cX11_leads 22 = .ok (.getfield 212, 3) := by decide +kernel
theorem dX11_leads_25 : decode cX11_leads 25 = .ok (.iconst 1, 1) := by decide +kernel
theorem dX11_leads_26 : decode cX11_leads 26 = .ok (.isub, 1) := by decide +kernel
theorem dX11_leads_27 : decode cX11_leads 27 = .ok (.invokevirtual 242, 3) := by decide +kernel
theorem dX11_leads_30 : decode cX11_leads 30 = .ok (.iconst 0, 1) := by decide +kernel
theorem dX11_leads_31 : decode cX11_leads 31 = .ok (.invokevirtual 248, 3) := by decide +kernel
theorem dX11_leads_34 : decode cX11_leads 34 = .ok (.istore_n 2, 1) := by decide +kernel
theorem dX11_leads_35 : decode cX11_leads 35 = .ok (.iconst 1, 1) := by decide +kernel
theorem dX11_leads_36 : decode cX11_leads 36 = .ok (.istore_n 3, 1) := by decide +kernel
theorem dX11_leads_37 : decode cX11_leads 37 = .ok (.iload_n 3, 1) := by decide +kernel
theorem dX11_leads_38 : decode cX11_leads 38 = .ok (.aload_n 0, 1) := by decide +kernel
theorem dX11_leads_39 : decode cX11_leads 39 = .ok (.getfield 15, 3) := by decide +kernel
theorem dX11_leads_42 : decode cX11_leads 42 = .ok (.getfield 185, 3) := by decide +kernel
theorem dX11_leads_45 : decode cX11_leads 45 = .ok (.if_icmp .ge 56, 3) := by decide +kernel
theorem dX11_leads_48 : decode cX11_leads 48 = .ok (.aload_n 0, 1) := by decide +kernel
theorem dX11_leads_49 : decode cX11_leads 49 = .ok (.getfield 24, 3) := by decide +kernel
theorem dX11_leads_52 : decode cX11_leads 52 = .ok (.aload_n 0, 1) := by decide +kernel
theorem dX11_leads_53 : decode cX11_leads 53 = .ok (.getfield 15, 3) := by decide +kernel
theorem dX11_leads_56 : decode cX11_leads 56 = .ok (.iload_n 3, 1) := by decide +kernel
theorem dX11_leads_57 : decode cX11_leads 57 = .ok (.aload_n 0, 1) := by decide +kernel
theorem dX11_leads_58 : decode cX11_leads 58 = .ok (.getfield 15, 3) := by decide +kernel
theorem dX11_leads_61 : decode cX11_leads 61 = .ok (.getfield 212, 3) := by decide +kernel
theorem dX11_leads_64 : decode cX11_leads 64 = .ok (.iconst 1, 1) := by decide +kernel
theorem dX11_leads_65 : decode cX11_leads 65 = .ok (.isub, 1) := by decide +kernel
theorem dX11_leads_66 : decode cX11_leads 66 = .ok (.invokevirtual 242, 3) := by decide +kernel
theorem dX11_leads_69 : decode cX11_leads 69 = .ok (.iconst 0, 1) := by decide +kernel
theorem dX11_leads_70 : decode cX11_leads 70 = .ok (.invokevirtual 248, 3) := by decide +kernel
theorem dX11_leads_73 : decode cX11_leads 73 = .ok (.istore 4, 2) := by decide +kernel
theorem dX11_leads_75 : decode cX11_leads 75 = .ok (.iload 4, 2) := by decide +kernel
theorem dX11_leads_77 : decode cX11_leads 77 = .ok (.iconst (-1), 1) := by decide +kernel
theorem dX11_leads_78 : decode cX11_leads 78 = .ok (.if_icmp .ne 5, 3) := by decide +kernel
theorem dX11_leads_81 : decode cX11_leads 81 = .ok (.iload_n 1, 1) := by decide +kernel
theorem dX11_leads_82 : decode cX11_leads 82 = .ok (.ireturn, 1) := by decide +kernel
theorem dX11_leads_83 : decode cX11_leads 83 = .ok (.iload 4, 2) := by decide +kernel
theorem dX11_leads_85 : decode cX11_leads 85 = .ok (.iload_n 2, 1) := by decide +kernel
theorem dX11_leads_86 : decode cX11_leads 86 = .ok (.if_icmp .eq 6, 3) := by decide +kernel
theorem dX11_leads_89 : decode cX11_leads 89 = .ok (.iinc 1 1, 3) := by decide +kernel
theorem dX11_leads_92 : decode cX11_leads 92 = .ok (.iload 4, 2) := by decide +kernel
theorem dX11_leads_94 : decode cX11_leads 94 = .ok (.istore_n 2, 1) := by decide +kernel
theorem dX11_leads_95 : decode cX11_leads 95 = .ok (.iinc 3 1, 3) := by decide +kernel
theorem dX11_leads_98 : decode cX11_leads 98 = .ok (.goto (-61), 3) := by decide +kernel
theorem dX11_leads_101 : decode cX11_leads 101 = .ok (.iload_n 1, 1) := by decide +kernel
theorem dX11_leads_102 : decode cX11_leads 102 = .ok (.ireturn, 1) := by decide +kernel
theorem dX11_sign_0 : decode cX11_sign 0 = .ok (.aload_n 0, 1) := by decide +kernel
theorem dX11_sign_1 : decode cX11_sign 1 = .ok (.getfield 218, 3) := by decide +kernel
theorem dX11_sign_4 : decode cX11_sign 4 = .ok (.iconst 4, 1) := by decide +kernel
theorem dX11_sign_5 : decode cX11_sign 5 = .ok (.iadd, 1) := by decide +kernel
theorem dX11_sign_6 : decode cX11_sign 6 = .ok (.bipush 100, 2) := by decide +kernel
theorem dX11_sign_8 : decode cX11_sign 8 = .ok (.if_icmp .le 5, 3) := by decide +kernel
theorem dX11_sign_11 : decode cX11_sign 11 = .ok (.iconst (-1), 1) := by decide +kernel
theorem dX11_sign_12 : decode cX11_sign 12 = .ok (.ireturn, 1) := by decide +kernel
theorem dX11_sign_13 : decode cX11_sign 13 = .ok (.bipush 24, 2) := by decide +kernel
theorem dX11_sign_15 : decode cX11_sign 15 = .ok (.istore_n 2, 1) := by decide +kernel
theorem dX11_sign_16 : decode cX11_sign 16 = .ok (.iload_n 2, 1) := by decide +kernel
theorem dX11_sign_17 : decode cX11_sign 17 = .ok (.ifCond .lt 35, 3) := by decide +kernel
theorem dX11_sign_20 : decode cX11_sign 20 = .ok (.aload_n 0, 1) := by decide +kernel
theorem dX11_sign_21 : decode cX11_sign 21 = .ok (.getfield 62, 3) := by decide +kernel
theorem dX11_sign_24 : decode cX11_sign 24 = .ok (.aload_n 0, 1) := by decide +kernel
theorem dX11_sign_25 : decode cX11_sign 25 = .ok (.getfield 218, 3) := by decide +kernel
theorem dX11_sign_28 : decode cX11_sign 28 = .ok (.iload_n 1, 1) := by decide +kernel
theorem dX11_sign_29 : decode cX11_sign 29 = .ok (.iload_n 2, 1) := by decide +kernel
theorem dX11_sign_30 : decode cX11_sign 30 = .ok (.iushr, 1) := by decide +kernel
theorem dX11_sign_31 : decode cX11_sign 31 = .ok (.sipush 255, 3) := by decide +kernel
theorem dX11_sign_34 : decode cX11_sign 34 = .ok (.iand, 1) := by decide +kernel
theorem dX11_sign_35 : decode cX11_sign 35 = .ok (.iastore, 1) := by decide +kernel
theorem dX11_sign_36 : decode cX11_sign 36 = .ok (.aload_n 0, 1) := by decide +kernel
theorem dX11_sign_37 : decode cX11_sign 37 = .ok (.dup, 1) := by decide +kernel
theorem dX11_sign_38 : decode cX11_sign 38 = .ok (.getfield 218, 3) := by decide +kernel
theorem dX11_sign_41 : decode cX11_sign 41 = .ok (.iconst 1, 1) := by decide +kernel
theorem dX11_sign_42 : decode cX11_sign 42 = .ok (.iadd, 1) := by decide +kernel
theorem dX11_sign_43 : decode cX11_sign 43 = .ok (.putfield 218, 3) := by decide +kernel
theorem dX11_sign_46 : decode cX11_sign 46 = .ok (.iinc 2 (-8), 3) := by decide +kernel
theorem dX11_sign_49 : decode cX11_sign 49 = .ok (.goto (-33), 3) := by decide +kernel
theorem dX11_sign_52 : decode cX11_sign 52 = .ok (.aload_n 0, 1) := by decide +kernel
theorem dX11_sign_53 : decode cX11_sign 53 = .ok (.getfield 218, 3) := by decide +kernel
theorem dX11_sign_56 : decode cX11_sign 56 = .ok (.ireturn, 1) := by decide +kernel
theorem dX11_end_0 : decode cX11_end 0 = .ok (.iload_n 1, 1) := by decide +kernel
theorem dX11_end_1 : decode cX11_end 1 = .ok (.ifCond .lt 11, 3) := by decide +kernel
theorem dX11_end_4 : decode cX11_end 4 = .ok (.iload_n 1, 1) := by decide +kernel
theorem dX11_end_5 : decode cX11_end 5 = .ok (.aload_n 0, 1) := by decide +kernel
theorem dX11_end_6 : decode cX11_end 6 = .ok (.getfield 218, 3) := by decide +kernel
theorem dX11_end_9 : decode cX11_end 9 = .ok (.if_icmp .le 5, 3) := by decide +kernel
theorem dX11_end_12 : decode cX11_end 12 = .ok (.iconst 0, 1) := by decide +kernel
theorem dX11_end_13 : decode cX11_end 13 = .ok (.ireturn, 1) := by decide +kernel
theorem dX11_end_14 : decode cX11_end 14 = .ok (.aload_n 0, 1) := by decide +kernel
theorem dX11_end_15 : decode cX11_end 15 = .ok (.iload_n 1, 1) := by decide +kernel
theorem dX11_end_16 : decode cX11_end 16 = .ok (.putfield 218, 3) := by decide +kernel
theorem dX11_end_19 : decode cX11_end 19 = .ok (.iconst 1, 1) := by decide +kernel
theorem dX11_end_20 : decode cX11_end 20 = .ok (.ireturn, 1) := by decide +kernel
theorem dX11_rule_0 : decode cX11_rule 0 = .ok (.aload_n 0, 1) := by decide +kernel
theorem dX11_rule_1 : decode cX11_rule 1 = .ok (.invokevirtual 198, 3) := by decide +kernel
theorem dX11_rule_4 : decode cX11_rule 4 = .ok (.istore_n 2, 1) := by decide +kernel
theorem dX11_rule_5 : decode cX11_rule 5 = .ok (.iload_n 1, 1) := by decide +kernel
theorem dX11_rule_6 : decode cX11_rule 6 = .ok (.invokestatic 254, 3) := by decide +kernel
theorem dX11_rule_9 : decode cX11_rule 9 = .ok (.ifCond .eq 18, 3) := by decide +kernel
theorem dX11_rule_12 : decode cX11_rule 12 = .ok (.aload_n 0, 1) := by decide +kernel
theorem dX11_rule_13 : decode cX11_rule 13 = .ok (.getfield 33, 3) := by decide +kernel
theorem dX11_rule_16 : decode cX11_rule 16 = .ok (.getfield 88, 3) := by decide +kernel
theorem dX11_rule_19 : decode cX11_rule 19 = .ok (.bipush 10, 2) := by decide +kernel
theorem dX11_rule_21 : decode cX11_rule 21 = .ok (.invokestatic 115, 3) := by decide +kernel
theorem dX11_rule_24 : decode cX11_rule 24 = .ok (.ifCond .ne 6, 3) := by decide +kernel
theorem dX11_rule_27 : decode cX11_rule 27 = .ok (.bipush (-100), 2) := by decide +kernel
theorem dX11_rule_29 : decode cX11_rule 29 = .ok (.ireturn, 1) := by decide +kernel
theorem dX11_rule_30 : decode cX11_rule 30 = .ok (.aload_n 0, 1) := by decide +kernel
theorem dX11_rule_31 : decode cX11_rule 31 = .ok (.getfield 58, 3) := by decide +kernel
theorem dX11_rule_34 : decode cX11_rule 34 = .ok (.aload_n 0, 1) := by decide +kernel
theorem dX11_rule_35 : decode cX11_rule 35 = .ok (.getfield 62, 3) := by decide +kernel
theorem dX11_rule_38 : decode cX11_rule 38 = .ok (.iload_n 2, 1) := by decide +kernel
theorem dX11_rule_39 : decode cX11_rule 39 = .ok (.aload_n 0, 1) := by decide +kernel
theorem dX11_rule_40 : decode cX11_rule 40 = .ok (.getfield 72, 3) := by decide +kernel
theorem dX11_rule_43 : decode cX11_rule 43 = .ok (.iconst 0, 1) := by decide +kernel
theorem dX11_rule_44 : decode cX11_rule 44 = .ok (.invokevirtual 202, 3) := by decide +kernel
theorem dX11_rule_47 : decode cX11_rule 47 = .ok (.istore_n 3, 1) := by decide +kernel
theorem dX11_rule_48 : decode cX11_rule 48 = .ok (.iload_n 3, 1) := by decide +kernel
theorem dX11_rule_49 : decode cX11_rule 49 = .ok (.iconst (-1), 1) := by decide +kernel
theorem dX11_rule_50 : decode cX11_rule 50 = .ok (.if_icmp .eq 7, 3) := by decide +kernel
theorem dX11_rule_53 : decode cX11_rule 53 = .ok (.iconst (-1), 1) := by decide +kernel
theorem dX11_rule_54 : decode cX11_rule 54 = .ok (.iload_n 3, 1) := by decide +kernel
theorem dX11_rule_55 : decode cX11_rule 55 = .ok (.isub, 1) := by decide +kernel
theorem dX11_rule_56 : decode cX11_rule 56 = .ok (.ireturn, 1) := by decide +kernel
theorem dX11_rule_57 : decode cX11_rule 57 = .ok (.aload_n 0, 1) := by decide +kernel
theorem dX11_rule_58 : decode cX11_rule 58 = .ok (.aload_n 0, 1) := by decide +kernel
theorem dX11_rule_59 : decode cX11_rule 59 = .ok (.getfield 33, 3) := by decide +kernel
theorem dX11_rule_62 : decode cX11_rule 62 = .ok (.aload_n 0, 1) := by decide +kernel
theorem dX11_rule_63 : decode cX11_rule 63 = .ok (.getfield 72, 3) := by decide +kernel
theorem dX11_rule_66 : decode cX11_rule 66 = .ok (.iload_n 1, 1) := by decide +kernel
theorem dX11_rule_67 : decode cX11_rule 67 = .ok (.invokevirtual 257, 3) := by decide +kernel
theorem dX11_rule_70 : decode cX11_rule 70 = .ok (.putfield 72, 3) := by decide +kernel
theorem dX11_rule_73 : decode cX11_rule 73 = .ok (.aload_n 0, 1) := by decide +kernel
theorem dX11_rule_74 : decode cX11_rule 74 = .ok (.getfield 33, 3) := by decide +kernel
theorem dX11_rule_77 : decode cX11_rule 77 = .ok (.getfield 88, 3) := by decide +kernel
theorem dX11_rule_80 : decode cX11_rule 80 = .ok (.ireturn, 1) := by decide +kernel
theorem dX11_finding_0 : decode cX11_finding 0 = .ok (.iload_n 1, 1) := by decide +kernel
theorem dX11_finding_1 : decode cX11_finding 1 = .ok (.invokestatic 254, 3) := by decide +kernel
theorem dX11_finding_4 : decode cX11_finding 4 = .ok (.ifCond .eq 23, 3) := by decide +kernel
theorem dX11_finding_7 : decode cX11_finding 7 = .ok (.aload_n 0, 1) := by decide +kernel
theorem dX11_finding_8 : decode cX11_finding 8 = .ok (.getfield 24, 3) := by decide +kernel
theorem dX11_finding_11 : decode cX11_finding 11 = .ok (.iload_n 2, 1) := by decide +kernel
theorem dX11_finding_12 : decode cX11_finding 12 = .ok (.invokevirtual 175, 3) := by decide +kernel
theorem dX11_finding_15 : decode cX11_finding 15 = .ok (.ifCond .eq 12, 3) := by decide +kernel
theorem dX11_finding_18 : decode cX11_finding 18 = .ok (.iload_n 3, 1) := by decide +kernel
theorem dX11_finding_19 : decode cX11_finding 19 = .ok (.iconst 0, 1) := by decide +kernel
theorem dX11_finding_20 : decode cX11_finding 20 = .ok (.iconst 1, 1) := by decide +kernel
theorem dX11_finding_21 : decode cX11_finding 21 = .ok (.invokestatic 105, 3) := by decide +kernel
theorem dX11_finding_24 : decode cX11_finding 24 = .ok (.ifCond .ne 5, 3) := by decide +kernel
theorem dX11_finding_27 : decode cX11_finding 27 = .ok (.iconst (-1), 1) := by decide +kernel
theorem dX11_finding_28 : decode cX11_finding 28 = .ok (.ireturn, 1) := by decide +kernel
theorem dX11_finding_29 : decode cX11_finding 29 = .ok (.iload_n 3, 1) := by decide +kernel
theorem dX11_finding_30 : decode cX11_finding 30 = .ok (.ifCond .ne 15, 3) := by decide +kernel
theorem dX11_finding_33 : decode cX11_finding 33 = .ok (.iload 4, 2) := by decide +kernel
theorem dX11_finding_35 : decode cX11_finding 35 = .ok (.iconst 0, 1) := by decide +kernel
theorem dX11_finding_36 : decode cX11_finding 36 = .ok (.sipush 999, 3) := by decide +kernel
theorem dX11_finding_39 : decode cX11_finding 39 = .ok (.invokestatic 105, 3) := by decide +kernel
theorem dX11_finding_42 : decode cX11_finding 42 = .ok (.goto 13, 3) := by decide +kernel
theorem dX11_finding_45 : decode cX11_finding 45 = .ok (.iload 4, 2) := by decide +kernel
theorem dX11_finding_47 : decode cX11_finding 47 = .ok (.ldc_w 261, 3) := by decide +kernel
theorem dX11_finding_50 : decode cX11_finding 50 = .ok (.ldc 104, 2) := by decide +kernel
theorem dX11_finding_52 : decode cX11_finding 52 = .ok (.invokestatic 105, 3) := by decide +kernel
theorem dX11_finding_55 : decode cX11_finding 55 = .ok (.istore 5, 2) := by decide +kernel
theorem dX11_finding_57 : decode cX11_finding 57 = .ok (.iload 5, 2) := by decide +kernel
theorem dX11_finding_59 : decode cX11_finding 59 = .ok (.ifCond .ne 5, 3) := by decide +kernel
theorem dX11_finding_62 : decode cX11_finding 62 = .ok (.iconst (-1), 1) := by decide +kernel
theorem dX11_finding_63 : decode cX11_finding 63 = .ok (.ireturn, 1) := by decide +kernel
theorem dX11_finding_64 : decode cX11_finding 64 = .ok (.aload_n 0, 1) := by decide +kernel
theorem dX11_finding_65 : decode cX11_finding 65 = .ok (.getfield 33, 3) := by decide +kernel
theorem dX11_finding_68 : decode cX11_finding 68 = .ok (.getfield 91, 3) := by decide +kernel
theorem dX11_finding_71 : decode cX11_finding 71 = .ok (.iload_n 1, 1) := by decide +kernel
theorem dX11_finding_72 : decode cX11_finding 72 = .ok (.iload_n 2, 1) := by decide +kernel
theorem dX11_finding_73 : decode cX11_finding 73 = .ok (.iload_n 3, 1) := by decide +kernel
theorem dX11_finding_74 : decode cX11_finding 74 = .ok (.iload 4, 2) := by decide +kernel
theorem dX11_finding_76 : decode cX11_finding 76 = .ok (.invokevirtual 141, 3) := by decide +kernel
theorem dX11_finding_79 : decode cX11_finding 79 = .ok (.ireturn, 1) := by decide +kernel
theorem dX11_seconds_0 : decode cX11_seconds 0 = .ok (.aload_n 0, 1) := by decide +kernel
theorem dX11_seconds_1 : decode cX11_seconds 1 = .ok (.getfield 24, 3) := by decide +kernel
theorem dX11_seconds_4 : decode cX11_seconds 4 = .ok (.iload_n 1, 1) := by decide +kernel
theorem dX11_seconds_5 : decode cX11_seconds 5 = .ok (.invokevirtual 175, 3) := by decide +kernel
theorem dX11_seconds_8 : decode cX11_seconds 8 = .ok (.ifCond .eq 10, 3) := by decide +kernel
theorem dX11_seconds_11 : decode cX11_seconds 11 = .ok (.iload_n 2, 1) := by decide +kernel
theorem dX11_seconds_12 : decode cX11_seconds 12 = .ok (.invokestatic 254, 3) := by decide +kernel
theorem dX11_seconds_15 : decode cX11_seconds 15 = .ok (.ifCond .ne 5, 3) := by decide +kernel
theorem dX11_seconds_18 : decode cX11_seconds 18 = .ok (.iconst (-1), 1) := by decide +kernel
theorem dX11_seconds_19 : decode cX11_seconds 19 = .ok (.ireturn, 1) := by decide +kernel
theorem dX11_seconds_20 : decode cX11_seconds 20 = .ok (.aload_n 0, 1) := by decide +kernel
theorem dX11_seconds_21 : decode cX11_seconds 21 = .ok (.getfield 24, 3) := by decide +kernel
theorem dX11_seconds_24 : decode cX11_seconds 24 = .ok (.invokevirtual 227, 3) := by decide +kernel
theorem dX11_seconds_27 : decode cX11_seconds 27 = .ok (.aload_n 0, 1) := by decide +kernel
theorem dX11_seconds_28 : decode cX11_seconds 28 = .ok (.getfield 33, 3) := by decide +kernel
theorem dX11_seconds_31 : decode cX11_seconds 31 = .ok (.aload_n 0, 1) := by decide +kernel
theorem dX11_seconds_32 : decode cX11_seconds 32 = .ok (.getfield 24, 3) := by decide +kernel
theorem dX11_seconds_35 : decode cX11_seconds 35 = .ok (.getfield 148, 3) := by decide +kernel
theorem dX11_seconds_38 : decode cX11_seconds 38 = .ok (.iload_n 1, 1) := by decide +kernel
theorem dX11_seconds_39 : decode cX11_seconds 39 = .ok (.aaload, 1) := by decide +kernel
theorem dX11_seconds_40 : decode cX11_seconds 40 = .ok (.aload_n 0, 1) := by decide +kernel
theorem dX11_seconds_41 : decode cX11_seconds 41 = .ok (.getfield 24, 3) := by decide +kernel
theorem dX11_seconds_44 : decode cX11_seconds 44 = .ok (.getfield 230, 3) := by decide +kernel
theorem dX11_seconds_47 : decode cX11_seconds 47 = .ok (.iload_n 1, 1) := by decide +kernel
theorem dX11_seconds_48 : decode cX11_seconds 48 = .ok (.aaload, 1) := by decide +kernel
theorem dX11_seconds_49 : decode cX11_seconds 49 = .ok (.aload_n 0, 1) := by decide +kernel
theorem dX11_seconds_50 : decode cX11_seconds 50 = .ok (.getfield 24, 3) := by decide +kernel
theorem dX11_seconds_53 : decode cX11_seconds 53 = .ok (.iload_n 1, 1) := by decide +kernel
theorem dX11_seconds_54 : decode cX11_seconds 54 = .ok (.invokevirtual 262, 3) := by decide +kernel
theorem dX11_seconds_57 : decode cX11_seconds 57 = .ok (.aload_n 0, 1) := by decide +kernel
theorem dX11_seconds_58 : decode cX11_seconds 58 = .ok (.getfield 33, 3) := by decide +kernel
theorem dX11_seconds_61 : decode cX11_seconds 61 = .ok (.iload_n 1, 1) := by decide +kernel
theorem dX11_seconds_62 : decode cX11_seconds 62 = .ok (.iload_n 2, 1) := by decide +kernel
theorem dX11_seconds_63 : decode cX11_seconds 63 = .ok (.invokevirtual 265, 3) := by decide +kernel
theorem dX11_seconds_66 : decode cX11_seconds 66 = .ok (.iload_n 2, 1) := by decide +kernel
theorem dX11_seconds_67 : decode cX11_seconds 67 = .ok (.invokevirtual 268, 3) := by decide +kernel
theorem dX11_seconds_70 : decode cX11_seconds 70 = .ok (.ireturn, 1) := by decide +kernel
theorem dX11_place_0 : decode cX11_place 0 = .ok (.aload_n 0, 1) := by decide +kernel
theorem dX11_place_1 : decode cX11_place 1 = .ok (.getfield 24, 3) := by decide +kernel
theorem dX11_place_4 : decode cX11_place 4 = .ok (.iload_n 1, 1) := by decide +kernel
theorem dX11_place_5 : decode cX11_place 5 = .ok (.invokevirtual 175, 3) := by decide +kernel
theorem dX11_place_8 : decode cX11_place 8 = .ok (.ifCond .eq 10, 3) := by decide +kernel
theorem dX11_place_11 : decode cX11_place 11 = .ok (.iload_n 2, 1) := by decide +kernel
theorem dX11_place_12 : decode cX11_place 12 = .ok (.invokestatic 254, 3) := by decide +kernel
theorem dX11_place_15 : decode cX11_place 15 = .ok (.ifCond .ne 5, 3) := by decide +kernel
theorem dX11_place_18 : decode cX11_place 18 = .ok (.iconst (-1), 1) := by decide +kernel
theorem dX11_place_19 : decode cX11_place 19 = .ok (.ireturn, 1) := by decide +kernel
theorem dX11_place_20 : decode cX11_place 20 = .ok (.aload_n 0, 1) := by decide +kernel
theorem dX11_place_21 : decode cX11_place 21 = .ok (.getfield 24, 3) := by decide +kernel
theorem dX11_place_24 : decode cX11_place 24 = .ok (.invokevirtual 227, 3) := by decide +kernel
theorem dX11_place_27 : decode cX11_place 27 = .ok (.aload_n 0, 1) := by decide +kernel
theorem dX11_place_28 : decode cX11_place 28 = .ok (.getfield 42, 3) := by decide +kernel
theorem dX11_place_31 : decode cX11_place 31 = .ok (.iload_n 2, 1) := by decide +kernel
theorem dX11_place_32 : decode cX11_place 32 = .ok (.invokevirtual 272, 3) := by decide +kernel
theorem dX11_place_35 : decode cX11_place 35 = .ok (.aload_n 0, 1) := by decide +kernel
theorem dX11_place_36 : decode cX11_place 36 = .ok (.getfield 42, 3) := by decide +kernel
theorem dX11_place_39 : decode cX11_place 39 = .ok (.iload_n 1, 1) := by decide +kernel
theorem dX11_place_40 : decode cX11_place 40 = .ok (.iconst (-1), 1) := by decide +kernel
theorem dX11_place_41 : decode cX11_place 41 = .ok (.invokevirtual 276, 3) := by decide +kernel
theorem dX11_place_44 : decode cX11_place 44 = .ok (.ireturn, 1) := by decide +kernel
theorem dX11_sum_0 : decode cX11_sum 0 = .ok (.aload_n 0, 1) := by decide +kernel
theorem dX11_sum_1 : decode cX11_sum 1 = .ok (.getfield 24, 3) := by decide +kernel
theorem dX11_sum_4 : decode cX11_sum 4 = .ok (.iload_n 1, 1) := by decide +kernel
theorem dX11_sum_5 : decode cX11_sum 5 = .ok (.invokevirtual 175, 3) := by decide +kernel
theorem dX11_sum_8 : decode cX11_sum 8 = .ok (.ifCond .eq 10, 3) := by decide +kernel
theorem dX11_sum_11 : decode cX11_sum 11 = .ok (.iload_n 2, 1) := by decide +kernel
theorem dX11_sum_12 : decode cX11_sum 12 = .ok (.invokestatic 254, 3) := by decide +kernel
theorem dX11_sum_15 : decode cX11_sum 15 = .ok (.ifCond .ne 11, 3) := by decide +kernel
theorem dX11_sum_18 : decode cX11_sum 18 = .ok (.new 224, 3) := by decide +kernel
theorem dX11_sum_21 : decode cX11_sum 21 = .ok (.dup, 1) := by decide +kernel
theorem dX11_sum_22 : decode cX11_sum 22 = .ok (.invokespecial 226, 3) := by decide +kernel
theorem dX11_sum_25 : decode cX11_sum 25 = .ok (.athrow, 1) := by decide +kernel
theorem dX11_sum_26 : decode cX11_sum 26 = .ok (.aload_n 0, 1) := by decide +kernel
theorem dX11_sum_27 : decode cX11_sum 27 = .ok (.getfield 24, 3) := by decide +kernel
theorem dX11_sum_30 : decode cX11_sum 30 = .ok (.invokevirtual 227, 3) := by decide +kernel
theorem dX11_sum_33 : decode cX11_sum 33 = .ok (.aload_n 0, 1) := by decide +kernel
theorem dX11_sum_34 : decode cX11_sum 34 = .ok (.getfield 42, 3) := by decide +kernel
theorem dX11_sum_37 : decode cX11_sum 37 = .ok (.iload_n 2, 1) := by decide +kernel
theorem dX11_sum_38 : decode cX11_sum 38 = .ok (.invokevirtual 272, 3) := by decide +kernel
theorem dX11_sum_41 : decode cX11_sum 41 = .ok (.aload_n 0, 1) := by decide +kernel
theorem dX11_sum_42 : decode cX11_sum 42 = .ok (.getfield 42, 3) := by decide +kernel
theorem dX11_sum_45 : decode cX11_sum 45 = .ok (.getfield 279, 3) := by decide +kernel
theorem dX11_sum_48 : decode cX11_sum 48 = .ok (.iload_n 1, 1) := by decide +kernel
theorem dX11_sum_49 : decode cX11_sum 49 = .ok (.baload, 1) := by decide +kernel
theorem dX11_sum_50 : decode cX11_sum 50 = .ok (.ifCond .ne 11, 3) := by decide +kernel
theorem dX11_sum_53 : decode cX11_sum 53 = .ok (.new 224, 3) := by decide +kernel
theorem dX11_sum_56 : decode cX11_sum 56 = .ok (.dup, 1) := by decide +kernel
theorem dX11_sum_57 : decode cX11_sum 57 = .ok (.invokespecial 226, 3) := by decide +kernel
theorem dX11_sum_60 : decode cX11_sum 60 = .ok (.athrow, 1) := by decide +kernel
theorem dX11_sum_61 : decode cX11_sum 61 = .ok (.aload_n 0, 1) := by decide +kernel
theorem dX11_sum_62 : decode cX11_sum 62 = .ok (.getfield 42, 3) := by decide +kernel
theorem dX11_sum_65 : decode cX11_sum 65 = .ok (.getfield 283, 3) := by decide +kernel
theorem dX11_sum_68 : decode cX11_sum 68 = .ok (.iload_n 1, 1) := by decide +kernel
theorem dX11_sum_69 : decode cX11_sum 69 = .ok (.iaload, 1) := by decide +kernel
theorem dX11_sum_70 : decode cX11_sum 70 = .ok (.ireturn, 1) := by decide +kernel
theorem dX11_within_0 : decode cX11_within 0 = .ok (.aload_n 0, 1) := by decide +kernel
theorem dX11_within_1 : decode cX11_within 1 = .ok (.getfield 24, 3) := by decide +kernel
theorem dX11_within_4 : decode cX11_within 4 = .ok (.iload_n 1, 1) := by decide +kernel
theorem dX11_within_5 : decode cX11_within 5 = .ok (.invokevirtual 175, 3) := by decide +kernel
theorem dX11_within_8 : decode cX11_within 8 = .ok (.ifCond .eq 10, 3) := by decide +kernel
theorem dX11_within_11 : decode cX11_within 11 = .ok (.iload_n 2, 1) := by decide +kernel
theorem dX11_within_12 : decode cX11_within 12 = .ok (.invokestatic 254, 3) := by decide +kernel
theorem dX11_within_15 : decode cX11_within 15 = .ok (.ifCond .ne 5, 3) := by decide +kernel
theorem dX11_within_18 : decode cX11_within 18 = .ok (.iconst (-1), 1) := by decide +kernel
theorem dX11_within_19 : decode cX11_within 19 = .ok (.ireturn, 1) := by decide +kernel
theorem dX11_within_20 : decode cX11_within 20 = .ok (.aload_n 0, 1) := by decide +kernel
theorem dX11_within_21 : decode cX11_within 21 = .ok (.getfield 24, 3) := by decide +kernel
theorem dX11_within_24 : decode cX11_within 24 = .ok (.invokevirtual 227, 3) := by decide +kernel
theorem dX11_within_27 : decode cX11_within 27 = .ok (.aload_n 0, 1) := by decide +kernel
theorem dX11_within_28 : decode cX11_within 28 = .ok (.getfield 42, 3) := by decide +kernel
theorem dX11_within_31 : decode cX11_within 31 = .ok (.iload_n 2, 1) := by decide +kernel
theorem dX11_within_32 : decode cX11_within 32 = .ok (.invokevirtual 272, 3) := by decide +kernel
theorem dX11_within_35 : decode cX11_within 35 = .ok (.aload_n 0, 1) := by decide +kernel
theorem dX11_within_36 : decode cX11_within 36 = .ok (.getfield 42, 3) := by decide +kernel
theorem dX11_within_39 : decode cX11_within 39 = .ok (.iload_n 1, 1) := by decide +kernel
theorem dX11_within_40 : decode cX11_within 40 = .ok (.aload_n 0, 1) := by decide +kernel
theorem dX11_within_41 : decode cX11_within 41 = .ok (.getfield 24, 3) := by decide +kernel
theorem dX11_within_44 : decode cX11_within 44 = .ok (.getfield 148, 3) := by decide +kernel
theorem dX11_within_47 : decode cX11_within 47 = .ok (.iload_n 1, 1) := by decide +kernel
theorem dX11_within_48 : decode cX11_within 48 = .ok (.aaload, 1) := by decide +kernel
theorem dX11_within_49 : decode cX11_within 49 = .ok (.getfield 169, 3) := by decide +kernel
theorem dX11_within_52 : decode cX11_within 52 = .ok (.invokevirtual 276, 3) := by decide +kernel
theorem dX11_within_55 : decode cX11_within 55 = .ok (.ireturn, 1) := by decide +kernel
theorem dX11_result_0 : decode cX11_result 0 = .ok (.iload_n 1, 1) := by decide +kernel
theorem dX11_result_1 : decode cX11_result 1 = .ok (.invokestatic 254, 3) := by decide +kernel
theorem dX11_result_4 : decode cX11_result 4 = .ok (.ifCond .ne 5, 3) := by decide +kernel
theorem dX11_result_7 : decode cX11_result 7 = .ok (.iconst (-1), 1) := by decide +kernel
theorem dX11_result_8 : decode cX11_result 8 = .ok (.ireturn, 1) := by decide +kernel
theorem dX11_result_9 : decode cX11_result 9 = .ok (.aload_n 0, 1) := by decide +kernel
theorem dX11_result_10 : decode cX11_result 10 = .ok (.getfield 24, 3) := by decide +kernel
theorem dX11_result_13 : decode cX11_result 13 = .ok (.invokevirtual 227, 3) := by decide +kernel
theorem dX11_result_16 : decode cX11_result 16 = .ok (.aload_n 0, 1) := by decide +kernel
theorem dX11_result_17 : decode cX11_result 17 = .ok (.getfield 42, 3) := by decide +kernel
theorem dX11_result_20 : decode cX11_result 20 = .ok (.iload_n 1, 1) := by decide +kernel
theorem dX11_result_21 : decode cX11_result 21 = .ok (.invokevirtual 272, 3) := by decide +kernel
theorem dX11_result_24 : decode cX11_result 24 = .ok (.iconst 0, 1) := by decide +kernel
theorem dX11_result_25 : decode cX11_result 25 = .ok (.istore_n 2, 1) := by decide +kernel
theorem dX11_result_26 : decode cX11_result 26 = .ok (.iconst 0, 1) := by decide +kernel
theorem dX11_result_27 : decode cX11_result 27 = .ok (.istore_n 3, 1) := by decide +kernel
theorem dX11_result_28 : decode cX11_result 28 = .ok (.iload_n 3, 1) := by decide +kernel
theorem dX11_result_29 : decode cX11_result 29 = .ok (.aload_n 0, 1) := by decide +kernel
theorem dX11_result_30 : decode cX11_result 30 = .ok (.getfield 24, 3) := by decide +kernel
theorem dX11_result_33 : decode cX11_result 33 = .ok (.getfield 80, 3) := by decide +kernel
theorem dX11_result_36 : decode cX11_result 36 = .ok (.if_icmp .ge 47, 3) := by decide +kernel
theorem dX11_result_39 : decode cX11_result 39 = .ok (.iload_n 3, 1) := by decide +kernel
theorem dX11_result_40 : decode cX11_result 40 = .ok (.bipush 6, 2) := by decide +kernel
theorem dX11_result_42 : decode cX11_result 42 = .ok (.if_icmp .ge 41, 3) := by decide +kernel
theorem dX11_result_45 : decode cX11_result 45 = .ok (.aload_n 0, 1) := by decide +kernel
theorem dX11_result_46 : decode cX11_result 46 = .ok (.getfield 42, 3) := by decide +kernel
theorem dX11_result_49 : decode cX11_result 49 = .ok (.iload_n 3, 1) := by decide +kernel
theorem dX11_result_50 : decode cX11_result 50 = .ok (.iconst (-1), 1) := by decide +kernel
theorem dX11_result_51 : decode cX11_result 51 = .ok (.invokevirtual 276, 3) := by decide +kernel
theorem dX11_result_54 : decode cX11_result 54 = .ok (.istore 4, 2) := by decide +kernel
theorem dX11_result_56 : decode cX11_result 56 = .ok (.iload 4, 2) := by decide +kernel
theorem dX11_result_58 : decode cX11_result 58 = .ok (.bipush 6, 2) := by decide +kernel
theorem dX11_result_60 : decode cX11_result 60 = .ok (.invokestatic 115, 3) := by decide +kernel
theorem dX11_result_63 : decode cX11_result 63 = .ok (.ifCond .eq 14, 3) := by decide +kernel
theorem dX11_result_66 : decode cX11_result 66 = .ok (.aload_n 0, 1) := by decide +kernel
theorem dX11_result_67 : decode cX11_result 67 = .ok (.getfield 66, 3) := by decide +kernel
theorem dX11_result_70 : decode cX11_result 70 = .ok (.iload 4, 2) := by decide +kernel
theorem dX11_result_72 : decode cX11_result 72 = .ok (.iload_n 3, 1) := by decide +kernel
theorem dX11_result_73 : decode cX11_result 73 = .ok (.iastore, 1) := by decide +kernel
theorem dX11_result_74 : decode cX11_result 74 = .ok (.iinc 2 1, 3) := by decide +kernel
theorem dX11_result_77 : decode cX11_result 77 = .ok (.iinc 3 1, 3) := by decide +kernel
theorem dX11_result_80 : decode cX11_result 80 = .ok (.goto (-52), 3) := by decide +kernel
theorem dX11_result_83 : decode cX11_result 83 = .ok (.aload_n 0, 1) := by decide +kernel
theorem dX11_result_84 : decode cX11_result 84 = .ok (.iload_n 2, 1) := by decide +kernel
theorem dX11_result_85 : decode cX11_result 85 = .ok (.putfield 215, 3) := by decide +kernel
theorem dX11_result_88 : decode cX11_result 88 = .ok (.iload_n 2, 1) := by decide +kernel
theorem dX11_result_89 : decode cX11_result 89 = .ok (.ireturn, 1) := by decide +kernel
theorem dX11_move_0 : decode cX11_move 0 = .ok (.aload_n 0, 1) := by decide +kernel
theorem dX11_move_1 : decode cX11_move 1 = .ok (.getfield 24, 3) := by decide +kernel
theorem dX11_move_4 : decode cX11_move 4 = .ok (.iload_n 1, 1) := by decide +kernel
theorem dX11_move_5 : decode cX11_move 5 = .ok (.invokevirtual 175, 3) := by decide +kernel
theorem dX11_move_8 : decode cX11_move 8 = .ok (.ifCond .eq 25, 3) := by decide +kernel
theorem dX11_move_11 : decode cX11_move 11 = .ok (.iload_n 2, 1) := by decide +kernel
theorem dX11_move_12 : decode cX11_move 12 = .ok (.aload_n 0, 1) := by decide +kernel
theorem dX11_move_13 : decode cX11_move 13 = .ok (.getfield 24, 3) := by decide +kernel
theorem dX11_move_16 : decode cX11_move 16 = .ok (.getfield 148, 3) := by decide +kernel
theorem dX11_move_19 : decode cX11_move 19 = .ok (.iload_n 1, 1) := by decide +kernel
theorem dX11_move_20 : decode cX11_move 20 = .ok (.aaload, 1) := by decide +kernel
theorem dX11_move_21 : decode cX11_move 21 = .ok (.getfield 191, 3) := by decide +kernel
theorem dX11_move_24 : decode cX11_move 24 = .ok (.getfield 95, 3) := by decide +kernel
theorem dX11_move_27 : decode cX11_move 27 = .ok (.invokestatic 115, 3) := by decide +kernel
theorem dX11_move_30 : decode cX11_move 30 = .ok (.ifCond .ne 5, 3) := by decide +kernel
theorem dX11_move_33 : decode cX11_move 33 = .ok (.iconst (-1), 1) := by decide +kernel
theorem dX11_move_34 : decode cX11_move 34 = .ok (.ireturn, 1) := by decide +kernel
theorem dX11_move_35 : decode cX11_move 35 = .ok (.iload_n 3, 1) := by decide +kernel
theorem dX11_move_36 : decode cX11_move 36 = .ok (.iconst 0, 1) := by decide +kernel
theorem dX11_move_37 : decode cX11_move 37 = .ok (.aload_n 0, 1) := by decide +kernel
theorem dX11_move_38 : decode cX11_move 38 = .ok (.getfield 15, 3) := by decide +kernel
theorem dX11_move_41 : decode cX11_move 41 = .ok (.getfield 185, 3) := by decide +kernel
theorem dX11_move_44 : decode cX11_move 44 = .ok (.iconst 2, 1) := by decide +kernel
theorem dX11_move_45 : decode cX11_move 45 = .ok (.isub, 1) := by decide +kernel
theorem dX11_move_46 : decode cX11_move 46 = .ok (.invokestatic 105, 3) := by decide +kernel
theorem dX11_move_49 : decode cX11_move 49 = .ok (.ifCond .eq 11, 3) := by decide +kernel
theorem dX11_move_52 : decode cX11_move 52 = .ok (.iload 4, 2) := by decide +kernel
theorem dX11_move_54 : decode cX11_move 54 = .ok (.invokestatic 254, 3) := by decide +kernel
theorem dX11_move_57 : decode cX11_move 57 = .ok (.ifCond .ne 5, 3) := by decide +kernel
theorem dX11_move_60 : decode cX11_move 60 = .ok (.iconst (-1), 1) := by decide +kernel
theorem dX11_move_61 : decode cX11_move 61 = .ok (.ireturn, 1) := by decide +kernel
theorem dX11_move_62 : decode cX11_move 62 = .ok (.aload_n 0, 1) := by decide +kernel
theorem dX11_move_63 : decode cX11_move 63 = .ok (.getfield 24, 3) := by decide +kernel
theorem dX11_move_66 : decode cX11_move 66 = .ok (.getfield 148, 3) := by decide +kernel
theorem dX11_move_69 : decode cX11_move 69 = .ok (.iload_n 1, 1) := by decide +kernel
theorem dX11_move_70 : decode cX11_move 70 = .ok (.aaload, 1) := by decide +kernel
theorem dX11_move_71 : decode cX11_move 71 = .ok (.getfield 191, 3) := by decide +kernel
theorem dX11_move_74 : decode cX11_move 74 = .ok (.astore 5, 2) := by decide +kernel
theorem dX11_move_76 : decode cX11_move 76 = .ok (.aload 5, 2) := by decide +kernel
theorem dX11_move_78 : decode cX11_move 78 = .ok (.iload_n 2, 1) := by decide +kernel
theorem dX11_move_79 : decode cX11_move 79 = .ok (.iconst 0, 1) := by decide +kernel
theorem dX11_move_80 : decode cX11_move 80 = .ok (.invokevirtual 286, 3) := by decide +kernel
theorem dX11_move_83 : decode cX11_move 83 = .ok (.istore 6, 2) := by decide +kernel
theorem dX11_move_85 : decode cX11_move 85 = .ok (.aload 5, 2) := by decide +kernel
theorem dX11_move_87 : decode cX11_move 87 = .ok (.iload_n 2, 1) := by decide +kernel
theorem dX11_move_88 : decode cX11_move 88 = .ok (.iconst 0, 1) := by decide +kernel
theorem dX11_move_89 : decode cX11_move 89 = .ok (.iload_n 3, 1) := by decide +kernel
theorem dX11_move_90 : decode cX11_move 90 = .ok (.invokevirtual 289, 3) := by decide +kernel
theorem dX11_move_93 : decode cX11_move 93 = .ok (.aload_n 0, 1) := by decide +kernel
theorem dX11_move_94 : decode cX11_move 94 = .ok (.getfield 24, 3) := by decide +kernel
theorem dX11_move_97 : decode cX11_move 97 = .ok (.invokevirtual 293, 3) := by decide +kernel
theorem dX11_move_100 : decode cX11_move 100 = .ok (.aload_n 0, 1) := by decide +kernel
theorem dX11_move_101 : decode cX11_move 101 = .ok (.getfield 42, 3) := by decide +kernel
theorem dX11_move_104 : decode cX11_move 104 = .ok (.iload 4, 2) := by decide +kernel
theorem dX11_move_106 : decode cX11_move 106 = .ok (.invokevirtual 272, 3) := by decide +kernel
theorem dX11_move_109 : decode cX11_move 109 = .ok (.aload 5, 2) := by decide +kernel
theorem dX11_move_111 : decode cX11_move 111 = .ok (.iload_n 2, 1) := by decide +kernel
theorem dX11_move_112 : decode cX11_move 112 = .ok (.iconst 0, 1) := by decide +kernel
theorem dX11_move_113 : decode cX11_move 113 = .ok (.iload 6, 2) := by decide +kernel
theorem dX11_move_115 : decode cX11_move 115 = .ok (.invokevirtual 289, 3) := by decide +kernel
theorem dX11_move_118 : decode cX11_move 118 = .ok (.aload_n 0, 1) := by decide +kernel
theorem dX11_move_119 : decode cX11_move 119 = .ok (.getfield 42, 3) := by decide +kernel
theorem dX11_move_122 : decode cX11_move 122 = .ok (.iload_n 1, 1) := by decide +kernel
theorem dX11_move_123 : decode cX11_move 123 = .ok (.iconst (-1), 1) := by decide +kernel
theorem dX11_move_124 : decode cX11_move 124 = .ok (.invokevirtual 276, 3) := by decide +kernel
theorem dX11_move_127 : decode cX11_move 127 = .ok (.istore 7, 2) := by decide +kernel
theorem dX11_move_129 : decode cX11_move 129 = .ok (.iload 7, 2) := by decide +kernel
theorem dX11_move_131 : decode cX11_move 131 = .ok (.iconst (-1), 1) := by decide +kernel
theorem dX11_move_132 : decode cX11_move 132 = .ok (.if_icmp .ne 8, 3) := by decide +kernel
theorem dX11_move_135 : decode cX11_move 135 = .ok (.bipush (-2), 2) := by decide +kernel
theorem dX11_move_137 : decode cX11_move 137 = .ok (.goto 5, 3) := by decide +kernel
theorem dX11_move_140 : decode cX11_move 140 = .ok (.iload 7, 2) := by decide +kernel
theorem dX11_move_142 : decode cX11_move 142 = .ok (.ireturn, 1) := by decide +kernel
theorem dX11_best_0 : decode cX11_best 0 = .ok (.aload_n 0, 1) := by decide +kernel
theorem dX11_best_1 : decode cX11_best 1 = .ok (.getfield 24, 3) := by decide +kernel
theorem dX11_best_4 : decode cX11_best 4 = .ok (.iload_n 1, 1) := by decide +kernel
theorem dX11_best_5 : decode cX11_best 5 = .ok (.invokevirtual 175, 3) := by decide +kernel
theorem dX11_best_8 : decode cX11_best 8 = .ok (.ifCond .eq 19, 3) := by decide +kernel
theorem dX11_best_11 : decode cX11_best 11 = .ok (.iload_n 2, 1) := by decide +kernel
theorem dX11_best_12 : decode cX11_best 12 = .ok (.iconst 0, 1) := by decide +kernel
theorem dX11_best_13 : decode cX11_best 13 = .ok (.iconst 2, 1) := by decide +kernel
theorem dX11_best_14 : decode cX11_best 14 = .ok (.invokestatic 105, 3) := by decide +kernel
theorem dX11_best_17 : decode cX11_best 17 = .ok (.ifCond .eq 10, 3) := by decide +kernel
theorem dX11_best_20 : decode cX11_best 20 = .ok (.iload_n 3, 1) := by decide +kernel
theorem dX11_best_21 : decode cX11_best 21 = .ok (.invokestatic 254, 3) := by decide +kernel
theorem dX11_best_24 : decode cX11_best 24 = .ok (.ifCond .ne 5, 3) := by decide +kernel
theorem dX11_best_27 : decode cX11_best 27 = .ok (.iconst (-1), 1) := by decide +kernel
theorem dX11_best_28 : decode cX11_best 28 = .ok (.ireturn, 1) := by decide +kernel
theorem dX11_best_29 : decode cX11_best 29 = .ok (.aload_n 0, 1) := by decide +kernel
theorem dX11_best_30 : decode cX11_best 30 = .ok (.getfield 51, 3) := by decide +kernel
theorem dX11_best_33 : decode cX11_best 33 = .ok (.iload_n 1, 1) := by decide +kernel
theorem dX11_best_34 : decode cX11_best 34 = .ok (.iload_n 2, 1) := by decide +kernel
theorem dX11_best_35 : decode cX11_best 35 = .ok (.iload_n 3, 1) := by decide +kernel
theorem dX11_best_36 : decode cX11_best 36 = .ok (.invokevirtual 296, 3) := by decide +kernel
theorem dX11_best_39 : decode cX11_best 39 = .ok (.ifCond .ne 5, 3) := by decide +kernel
theorem dX11_best_42 : decode cX11_best 42 = .ok (.iconst (-1), 1) := by decide +kernel
theorem dX11_best_43 : decode cX11_best 43 = .ok (.ireturn, 1) := by decide +kernel
theorem dX11_best_44 : decode cX11_best 44 = .ok (.iconst 0, 1) := by decide +kernel
theorem dX11_best_45 : decode cX11_best 45 = .ok (.istore 4, 2) := by decide +kernel
theorem dX11_best_47 : decode cX11_best 47 = .ok (.iload 4, 2) := by decide +kernel
theorem dX11_best_49 : decode cX11_best 49 = .ok (.iconst 2, 1) := by decide +kernel
theorem dX11_best_50 : decode cX11_best 50 = .ok (.iload_n 2, 1) := by decide +kernel
theorem dX11_best_51 : decode cX11_best 51 = .ok (.imul, 1) := by decide +kernel
theorem dX11_best_52 : decode cX11_best 52 = .ok (.if_icmp .ge 33, 3) := by decide +kernel
theorem dX11_best_55 : decode cX11_best 55 = .ok (.iload 4, 2) := by decide +kernel
theorem dX11_best_57 : decode cX11_best 57 = .ok (.bipush 6, 2) := by decide +kernel
theorem dX11_best_59 : decode cX11_best 59 = .ok (.if_icmp .ge 26, 3) := by decide +kernel
theorem dX11_best_62 : decode cX11_best 62 = .ok (.aload_n 0, 1) := by decide +kernel
theorem dX11_best_63 : decode cX11_best 63 = .ok (.getfield 66, 3) := by decide +kernel
theorem dX11_best_66 : decode cX11_best 66 = .ok (.iload 4, 2) := by decide +kernel
theorem dX11_best_68 : decode cX11_best 68 = .ok (.aload_n 0, 1) := by decide +kernel
theorem dX11_best_69 : decode cX11_best 69 = .ok (.getfield 51, 3) := by decide +kernel
theorem dX11_best_72 : decode cX11_best 72 = .ok (.getfield 299, 3) := by decide +kernel
theorem dX11_best_75 : decode cX11_best 75 = .ok (.iload 4, 2) := by decide +kernel
theorem dX11_best_77 : decode cX11_best 77 = .ok (.iaload, 1) := by decide +kernel
theorem dX11_best_78 : decode cX11_best 78 = .ok (.iastore, 1) := by decide +kernel
theorem dX11_best_79 : decode cX11_best 79 = .ok (.iinc 4 1, 3) := by decide +kernel
theorem dX11_best_82 : decode cX11_best 82 = .ok (.goto (-35), 3) := by decide +kernel
theorem dX11_best_85 : decode cX11_best 85 = .ok (.aload_n 0, 1) := by decide +kernel
theorem dX11_best_86 : decode cX11_best 86 = .ok (.iconst 2, 1) := by decide +kernel
theorem dX11_best_87 : decode cX11_best 87 = .ok (.iload_n 2, 1) := by decide +kernel
theorem dX11_best_88 : decode cX11_best 88 = .ok (.imul, 1) := by decide +kernel
theorem dX11_best_89 : decode cX11_best 89 = .ok (.putfield 215, 3) := by decide +kernel
theorem dX11_best_92 : decode cX11_best 92 = .ok (.aload_n 0, 1) := by decide +kernel
theorem dX11_best_93 : decode cX11_best 93 = .ok (.getfield 51, 3) := by decide +kernel
theorem dX11_best_96 : decode cX11_best 96 = .ok (.getfield 302, 3) := by decide +kernel
theorem dX11_best_99 : decode cX11_best 99 = .ok (.bipush 99, 2) := by decide +kernel
theorem dX11_best_101 : decode cX11_best 101 = .ok (.if_icmp .ne 8, 3) := by decide +kernel
theorem dX11_best_104 : decode cX11_best 104 = .ok (.bipush (-2), 2) := by decide +kernel
theorem dX11_best_106 : decode cX11_best 106 = .ok (.goto 10, 3) := by decide +kernel
theorem dX11_best_109 : decode cX11_best 109 = .ok (.aload_n 0, 1) := by decide +kernel
theorem dX11_best_110 : decode cX11_best 110 = .ok (.getfield 51, 3) := by decide +kernel
theorem dX11_best_113 : decode cX11_best 113 = .ok (.getfield 302, 3) := by decide +kernel
theorem dX11_best_116 : decode cX11_best 116 = .ok (.ireturn, 1) := by decide +kernel
theorem dX11_gain_0 : decode cX11_gain 0 = .ok (.aload_n 0, 1) := by decide +kernel
theorem dX11_gain_1 : decode cX11_gain 1 = .ok (.getfield 24, 3) := by decide +kernel
theorem dX11_gain_4 : decode cX11_gain 4 = .ok (.iload_n 1, 1) := by decide +kernel
theorem dX11_gain_5 : decode cX11_gain 5 = .ok (.invokevirtual 175, 3) := by decide +kernel
theorem dX11_gain_8 : decode cX11_gain 8 = .ok (.ifCond .eq 19, 3) := by decide +kernel
theorem dX11_gain_11 : decode cX11_gain 11 = .ok (.iload_n 2, 1) := by decide +kernel
theorem dX11_gain_12 : decode cX11_gain 12 = .ok (.iconst 0, 1) := by decide +kernel
theorem dX11_gain_13 : decode cX11_gain 13 = .ok (.iconst 2, 1) := by decide +kernel
theorem dX11_gain_14 : decode cX11_gain 14 = .ok (.invokestatic 105, 3) := by decide +kernel
theorem dX11_gain_17 : decode cX11_gain 17 = .ok (.ifCond .eq 10, 3) := by decide +kernel
theorem dX11_gain_20 : decode cX11_gain 20 = .ok (.iload_n 3, 1) := by decide +kernel
theorem dX11_gain_21 : decode cX11_gain 21 = .ok (.invokestatic 254, 3) := by decide +kernel
theorem dX11_gain_24 : decode cX11_gain 24 = .ok (.ifCond .ne 5, 3) := by decide +kernel
theorem dX11_gain_27 : decode cX11_gain 27 = .ok (.iconst (-1), 1) := by decide +kernel
theorem dX11_gain_28 : decode cX11_gain 28 = .ok (.ireturn, 1) := by decide +kernel
theorem dX11_gain_29 : decode cX11_gain 29 = .ok (.aload_n 0, 1) := by decide +kernel
theorem dX11_gain_30 : decode cX11_gain 30 = .ok (.getfield 24, 3) := by decide +kernel
theorem dX11_gain_33 : decode cX11_gain 33 = .ok (.invokevirtual 227, 3) := by decide +kernel
theorem dX11_gain_36 : decode cX11_gain 36 = .ok (.aload_n 0, 1) := by decide +kernel
theorem dX11_gain_37 : decode cX11_gain 37 = .ok (.getfield 42, 3) := by decide +kernel
theorem dX11_gain_40 : decode cX11_gain 40 = .ok (.iload_n 3, 1) := by decide +kernel
theorem dX11_gain_41 : decode cX11_gain 41 = .ok (.invokevirtual 272, 3) := by decide +kernel
theorem dX11_gain_44 : decode cX11_gain 44 = .ok (.aload_n 0, 1) := by decide +kernel
theorem dX11_gain_45 : decode cX11_gain 45 = .ok (.getfield 42, 3) := by decide +kernel
theorem dX11_gain_48 : decode cX11_gain 48 = .ok (.iload_n 1, 1) := by decide +kernel
theorem dX11_gain_49 : decode cX11_gain 49 = .ok (.iconst (-1), 1) := by decide +kernel
theorem dX11_gain_50 : decode cX11_gain 50 = .ok (.invokevirtual 276, 3) := by decide +kernel
theorem dX11_gain_53 : decode cX11_gain 53 = .ok (.istore 4, 2) := by decide +kernel
theorem dX11_gain_55 : decode cX11_gain 55 = .ok (.aload_n 0, 1) := by decide +kernel
theorem dX11_gain_56 : decode cX11_gain 56 = .ok (.getfield 51, 3) := by decide +kernel
theorem dX11_gain_59 : decode cX11_gain 59 = .ok (.iload_n 1, 1) := by decide +kernel
theorem dX11_gain_60 : decode cX11_gain 60 = .ok (.iload_n 2, 1) := by decide +kernel
theorem dX11_gain_61 : decode cX11_gain 61 = .ok (.iload_n 3, 1) := by decide +kernel
theorem dX11_gain_62 : decode cX11_gain 62 = .ok (.invokevirtual 296, 3) := by decide +kernel
theorem dX11_gain_65 : decode cX11_gain 65 = .ok (.ifCond .ne 5, 3) := by decide +kernel
theorem dX11_gain_68 : decode cX11_gain 68 = .ok (.iconst (-1), 1) := by decide +kernel
theorem dX11_gain_69 : decode cX11_gain 69 = .ok (.ireturn, 1) := by decide +kernel
theorem dX11_gain_70 : decode cX11_gain 70 = .ok (.iload 4, 2) := by decide +kernel
theorem dX11_gain_72 : decode cX11_gain 72 = .ok (.iconst (-1), 1) := by decide +kernel
theorem dX11_gain_73 : decode cX11_gain 73 = .ok (.if_icmp .ne 13, 3) := by decide +kernel
theorem dX11_gain_76 : decode cX11_gain 76 = .ok (.aload_n 0, 1) := by decide +kernel
theorem dX11_gain_77 : decode cX11_gain 77 = .ok (.getfield 24, 3) := by decide +kernel
theorem dX11_gain_80 : decode cX11_gain 80 = .ok (.getfield 80, 3) := by decide +kernel
theorem dX11_gain_83 : decode cX11_gain 83 = .ok (.goto 5, 3) := by decide +kernel
theorem dX11_gain_86 : decode cX11_gain 86 = .ok (.iload 4, 2) := by decide +kernel
theorem dX11_gain_88 : decode cX11_gain 88 = .ok (.istore 5, 2) := by decide +kernel
theorem dX11_gain_90 : decode cX11_gain 90 = .ok (.aload_n 0, 1) := by decide +kernel
theorem dX11_gain_91 : decode cX11_gain 91 = .ok (.getfield 51, 3) := by decide +kernel
theorem dX11_gain_94 : decode cX11_gain 94 = .ok (.getfield 302, 3) := by decide +kernel
theorem dX11_gain_97 : decode cX11_gain 97 = .ok (.aload_n 0, 1) := by decide +kernel
theorem dX11_gain_98 : decode cX11_gain 98 = .ok (.getfield 24, 3) := by decide +kernel
theorem dX11_gain_101 : decode cX11_gain 101 = .ok (.getfield 80, 3) := by decide +kernel
theorem dX11_gain_104 : decode cX11_gain 104 = .ok (.invokestatic 305, 3) := by decide +kernel
theorem dX11_gain_107 : decode cX11_gain 107 = .ok (.istore 6, 2) := by decide +kernel
theorem dX11_gain_109 : decode cX11_gain 109 = .ok (.iconst 0, 1) := by decide +kernel
theorem dX11_gain_110 : decode cX11_gain 110 = .ok (.iload 5, 2) := by decide +kernel
theorem dX11_gain_112 : decode cX11_gain 112 = .ok (.iload 6, 2) := by decide +kernel
theorem dX11_gain_114 : decode cX11_gain 114 = .ok (.isub, 1) := by decide +kernel
theorem dX11_gain_115 : decode cX11_gain 115 = .ok (.invokestatic 310, 3) := by decide +kernel
theorem dX11_gain_118 : decode cX11_gain 118 = .ok (.ireturn, 1) := by decide +kernel
theorem dX11_option_0 : decode cX11_option 0 = .ok (.aload_n 0, 1) := by decide +kernel
theorem dX11_option_1 : decode cX11_option 1 = .ok (.getfield 24, 3) := by decide +kernel
theorem dX11_option_4 : decode cX11_option 4 = .ok (.iload_n 1, 1) := by decide +kernel
theorem dX11_option_5 : decode cX11_option 5 = .ok (.invokevirtual 175, 3) := by decide +kernel
theorem dX11_option_8 : decode cX11_option 8 = .ok (.ifCond .eq 29, 3) := by decide +kernel
theorem dX11_option_11 : decode cX11_option 11 = .ok (.iload_n 2, 1) := by decide +kernel
theorem dX11_option_12 : decode cX11_option 12 = .ok (.iconst (-1), 1) := by decide +kernel
theorem dX11_option_13 : decode cX11_option 13 = .ok (.aload_n 0, 1) := by decide +kernel
theorem dX11_option_14 : decode cX11_option 14 = .ok (.getfield 15, 3) := by decide +kernel
theorem dX11_option_17 : decode cX11_option 17 = .ok (.getfield 185, 3) := by decide +kernel
theorem dX11_option_20 : decode cX11_option 20 = .ok (.iconst 2, 1) := by decide +kernel
theorem dX11_option_21 : decode cX11_option 21 = .ok (.isub, 1) := by decide +kernel
theorem dX11_option_22 : decode cX11_option 22 = .ok (.invokestatic 105, 3) := by decide +kernel
theorem dX11_option_25 : decode cX11_option 25 = .ok (.ifCond .eq 12, 3) := by decide +kernel
theorem dX11_option_28 : decode cX11_option 28 = .ok (.iload_n 3, 1) := by decide +kernel
theorem dX11_option_29 : decode cX11_option 29 = .ok (.iconst (-1), 1) := by decide +kernel
theorem dX11_option_30 : decode cX11_option 30 = .ok (.iconst 3, 1) := by decide +kernel
theorem dX11_option_31 : decode cX11_option 31 = .ok (.invokestatic 105, 3) := by decide +kernel
theorem dX11_option_34 : decode cX11_option 34 = .ok (.ifCond .ne 5, 3) := by decide +kernel
theorem dX11_option_37 : decode cX11_option 37 = .ok (.iconst (-1), 1) := by decide +kernel
theorem dX11_option_38 : decode cX11_option 38 = .ok (.ireturn, 1) := by decide +kernel
theorem dX11_option_39 : decode cX11_option 39 = .ok (.aload_n 0, 1) := by decide +kernel
theorem dX11_option_40 : decode cX11_option 40 = .ok (.getfield 24, 3) := by decide +kernel
theorem dX11_option_43 : decode cX11_option 43 = .ok (.getfield 148, 3) := by decide +kernel
theorem dX11_option_46 : decode cX11_option 46 = .ok (.iload_n 1, 1) := by decide +kernel
theorem dX11_option_47 : decode cX11_option 47 = .ok (.aaload, 1) := by decide +kernel
theorem dX11_option_48 : decode cX11_option 48 = .ok (.getfield 313, 3) := by decide +kernel
theorem dX11_option_51 : decode cX11_option 51 = .ok (.iload_n 2, 1) := by decide +kernel
theorem dX11_option_52 : decode cX11_option 52 = .ok (.iload_n 3, 1) := by decide +kernel
theorem dX11_option_53 : decode cX11_option 53 = .ok (.iconst 0, 1) := by decide +kernel
theorem dX11_option_54 : decode cX11_option 54 = .ok (.iconst 0, 1) := by decide +kernel
theorem dX11_option_55 : decode cX11_option 55 = .ok (.invokevirtual 141, 3) := by decide +kernel
theorem dX11_option_58 : decode cX11_option 58 = .ok (.ireturn, 1) := by decide +kernel
theorem dX11_clear_0 : decode cX11_clear 0 = .ok (.aload_n 0, 1) := by decide +kernel
theorem dX11_clear_1 : decode cX11_clear 1 = .ok (.getfield 24, 3) := by decide +kernel
theorem dX11_clear_4 : decode cX11_clear 4 = .ok (.invokevirtual 221, 3) := by decide +kernel
theorem dX11_clear_7 : decode cX11_clear 7 = .ok (.istore_n 1, 1) := by decide +kernel
theorem dX11_clear_8 : decode cX11_clear 8 = .ok (.iconst 0, 1) := by decide +kernel
theorem dX11_clear_9 : decode cX11_clear 9 = .ok (.istore_n 2, 1) := by decide +kernel
theorem dX11_clear_10 : decode cX11_clear 10 = .ok (.iload_n 2, 1) := by decide +kernel
theorem dX11_clear_11 : decode cX11_clear 11 = .ok (.aload_n 0, 1) := by decide +kernel
theorem dX11_clear_12 : decode cX11_clear 12 = .ok (.getfield 24, 3) := by decide +kernel
theorem dX11_clear_15 : decode cX11_clear 15 = .ok (.getfield 80, 3) := by decide +kernel
theorem dX11_clear_18 : decode cX11_clear 18 = .ok (.if_icmp .ge 31, 3) := by decide +kernel
theorem dX11_clear_21 : decode cX11_clear 21 = .ok (.iload_n 2, 1) := by decide +kernel
theorem dX11_clear_22 : decode cX11_clear 22 = .ok (.bipush 6, 2) := by decide +kernel
theorem dX11_clear_24 : decode cX11_clear 24 = .ok (.if_icmp .ge 25, 3) := by decide +kernel
theorem dX11_clear_27 : decode cX11_clear 27 = .ok (.aload_n 0, 1) := by decide +kernel
theorem dX11_clear_28 : decode cX11_clear 28 = .ok (.getfield 24, 3) := by decide +kernel
theorem dX11_clear_31 : decode cX11_clear 31 = .ok (.getfield 148, 3) := by decide +kernel
theorem dX11_clear_34 : decode cX11_clear 34 = .ok (.iload_n 2, 1) := by decide +kernel
theorem dX11_clear_35 : decode cX11_clear 35 = .ok (.aaload, 1) := by decide +kernel
theorem dX11_clear_36 : decode cX11_clear 36 = .ok (.getfield 313, 3) := by decide +kernel
theorem dX11_clear_39 : decode cX11_clear 39 = .ok (.iconst 0, 1) := by decide +kernel
theorem dX11_clear_40 : decode cX11_clear 40 = .ok (.putfield 95, 3) := by decide +kernel
theorem dX11_clear_43 : decode cX11_clear 43 = .ok (.iinc 2 1, 3) := by decide +kernel
theorem dX11_clear_46 : decode cX11_clear 46 = .ok (.goto (-36), 3) := by decide +kernel
theorem dX11_clear_49 : decode cX11_clear 49 = .ok (.iload_n 1, 1) := by decide +kernel
theorem dX11_clear_50 : decode cX11_clear 50 = .ok (.ireturn, 1) := by decide +kernel
theorem dX11_settle_0 : decode cX11_settle 0 = .ok (.aload_n 0, 1) := by decide +kernel
theorem dX11_settle_1 : decode cX11_settle 1 = .ok (.getfield 24, 3) := by decide +kernel
theorem dX11_settle_4 : decode cX11_settle 4 = .ok (.iload_n 1, 1) := by decide +kernel
theorem dX11_settle_5 : decode cX11_settle 5 = .ok (.invokevirtual 175, 3) := by decide +kernel
theorem dX11_settle_8 : decode cX11_settle 8 = .ok (.ifCond .eq 26, 3) := by decide +kernel
theorem dX11_settle_11 : decode cX11_settle 11 = .ok (.aload_n 0, 1) := by decide +kernel
theorem dX11_settle_12 : decode cX11_settle 12 = .ok (.getfield 24, 3) := by decide +kernel
theorem dX11_settle_15 : decode cX11_settle 15 = .ok (.iload_n 2, 1) := by decide +kernel
theorem dX11_settle_16 : decode cX11_settle 16 = .ok (.invokevirtual 175, 3) := by decide +kernel
theorem dX11_settle_19 : decode cX11_settle 19 = .ok (.ifCond .eq 15, 3) := by decide +kernel
theorem dX11_settle_22 : decode cX11_settle 22 = .ok (.iload_n 1, 1) := by decide +kernel
theorem dX11_settle_23 : decode cX11_settle 23 = .ok (.iload_n 2, 1) := by decide +kernel
theorem dX11_settle_24 : decode cX11_settle 24 = .ok (.if_icmp .eq 10, 3) := by decide +kernel
theorem dX11_settle_27 : decode cX11_settle 27 = .ok (.iload_n 3, 1) := by decide +kernel
theorem dX11_settle_28 : decode cX11_settle 28 = .ok (.invokestatic 254, 3) := by decide +kernel
theorem dX11_settle_31 : decode cX11_settle 31 = .ok (.ifCond .ne 5, 3) := by decide +kernel
theorem dX11_settle_34 : decode cX11_settle 34 = .ok (.iconst (-1), 1) := by decide +kernel
theorem dX11_settle_35 : decode cX11_settle 35 = .ok (.ireturn, 1) := by decide +kernel
theorem dX11_settle_36 : decode cX11_settle 36 = .ok (.aload_n 0, 1) := by decide +kernel
theorem dX11_settle_37 : decode cX11_settle 37 = .ok (.getfield 24, 3) := by decide +kernel
theorem dX11_settle_40 : decode cX11_settle 40 = .ok (.getfield 148, 3) := by decide +kernel
theorem dX11_settle_43 : decode cX11_settle 43 = .ok (.iload_n 1, 1) := by decide +kernel
theorem dX11_settle_44 : decode cX11_settle 44 = .ok (.aaload, 1) := by decide +kernel
theorem dX11_settle_45 : decode cX11_settle 45 = .ok (.getfield 313, 3) := by decide +kernel
theorem dX11_settle_48 : decode cX11_settle 48 = .ok (.getfield 95, 3) := by decide +kernel
theorem dX11_settle_51 : decode cX11_settle 51 = .ok (.ifCond .eq 21, 3) := by decide +kernel
theorem dX11_settle_54 : decode cX11_settle 54 = .ok (.aload_n 0, 1) := by decide +kernel
theorem dX11_settle_55 : decode cX11_settle 55 = .ok (.getfield 24, 3) := by decide +kernel
theorem dX11_settle_58 : decode cX11_settle 58 = .ok (.getfield 148, 3) := by decide +kernel
theorem dX11_settle_61 : decode cX11_settle 61 = .ok (.iload_n 2, 1) := by decide +kernel
theorem dX11_settle_62 : decode cX11_settle 62 = .ok (.aaload, 1) := by decide +kernel
theorem dX11_settle_63 : decode cX11_settle 63 = .ok (.getfield 313, 3) := by decide +kernel
theorem dX11_settle_66 : decode cX11_settle 66 = .ok (.getfield 95, 3) := by decide +kernel
theorem dX11_settle_69 : decode cX11_settle 69 = .ok (.ifCond .ne 5, 3) := by decide +kernel
theorem dX11_settle_72 : decode cX11_settle 72 = .ok (.iconst (-1), 1) := by decide +kernel
theorem dX11_settle_73 : decode cX11_settle 73 = .ok (.ireturn, 1) := by decide +kernel
theorem dX11_settle_74 : decode cX11_settle 74 = .ok (.aload_n 0, 1) := by decide +kernel
theorem dX11_settle_75 : decode cX11_settle 75 = .ok (.getfield 51, 3) := by decide +kernel
theorem dX11_settle_78 : decode cX11_settle 78 = .ok (.iload_n 1, 1) := by decide +kernel
theorem dX11_settle_79 : decode cX11_settle 79 = .ok (.iload_n 2, 1) := by decide +kernel
theorem dX11_settle_80 : decode cX11_settle 80 = .ok (.iload_n 3, 1) := by decide +kernel
theorem dX11_settle_81 : decode cX11_settle 81 = .ok (.invokevirtual 316, 3) := by decide +kernel
theorem dX11_settle_84 : decode cX11_settle 84 = .ok (.ireturn, 1) := by decide +kernel
theorem dX11_lost_0 : decode cX11_lost 0 = .ok (.aload_n 0, 1) := by decide +kernel
theorem dX11_lost_1 : decode cX11_lost 1 = .ok (.getfield 15, 3) := by decide +kernel
theorem dX11_lost_4 : decode cX11_lost 4 = .ok (.iload_n 1, 1) := by decide +kernel
theorem dX11_lost_5 : decode cX11_lost 5 = .ok (.invokevirtual 100, 3) := by decide +kernel
theorem dX11_lost_8 : decode cX11_lost 8 = .ok (.ifCond .eq 16, 3) := by decide +kernel
theorem dX11_lost_11 : decode cX11_lost 11 = .ok (.iload_n 1, 1) := by decide +kernel
theorem dX11_lost_12 : decode cX11_lost 12 = .ok (.aload_n 0, 1) := by decide +kernel
theorem dX11_lost_13 : decode cX11_lost 13 = .ok (.getfield 15, 3) := by decide +kernel
theorem dX11_lost_16 : decode cX11_lost 16 = .ok (.getfield 212, 3) := by decide +kernel
theorem dX11_lost_19 : decode cX11_lost 19 = .ok (.iconst 1, 1) := by decide +kernel
theorem dX11_lost_20 : decode cX11_lost 20 = .ok (.isub, 1) := by decide +kernel
theorem dX11_lost_21 : decode cX11_lost 21 = .ok (.if_icmp .ne 5, 3) := by decide +kernel
theorem dX11_lost_24 : decode cX11_lost 24 = .ok (.iconst 0, 1) := by decide +kernel
theorem dX11_lost_25 : decode cX11_lost 25 = .ok (.ireturn, 1) := by decide +kernel
theorem dX11_lost_26 : decode cX11_lost 26 = .ok (.aload_n 0, 1) := by decide +kernel
theorem dX11_lost_27 : decode cX11_lost 27 = .ok (.getfield 15, 3) := by decide +kernel
theorem dX11_lost_30 : decode cX11_lost 30 = .ok (.getfield 320, 3) := by decide +kernel
theorem dX11_lost_33 : decode cX11_lost 33 = .ok (.iload_n 1, 1) := by decide +kernel
theorem dX11_lost_34 : decode cX11_lost 34 = .ok (.iload_n 2, 1) := by decide +kernel
theorem dX11_lost_35 : decode cX11_lost 35 = .ok (.bastore, 1) := by decide +kernel
theorem dX11_lost_36 : decode cX11_lost 36 = .ok (.iconst 1, 1) := by decide +kernel
theorem dX11_lost_37 : decode cX11_lost 37 = .ok (.ireturn, 1) := by decide +kernel
theorem dX11_known_0 : decode cX11_known 0 = .ok (.aload_n 0, 1) := by decide +kernel
theorem dX11_known_1 : decode cX11_known 1 = .ok (.getfield 24, 3) := by decide +kernel
theorem dX11_known_4 : decode cX11_known 4 = .ok (.iload_n 1, 1) := by decide +kernel
theorem dX11_known_5 : decode cX11_known 5 = .ok (.invokevirtual 175, 3) := by decide +kernel
theorem dX11_known_8 : decode cX11_known 8 = .ok (.ifCond .eq 25, 3) := by decide +kernel
theorem dX11_known_11 : decode cX11_known 11 = .ok (.aload_n 0, 1) := by decide +kernel
theorem dX11_known_12 : decode cX11_known 12 = .ok (.getfield 15, 3) := by decide +kernel
theorem dX11_known_15 : decode cX11_known 15 = .ok (.iload_n 2, 1) := by decide +kernel
theorem dX11_known_16 : decode cX11_known 16 = .ok (.iload_n 3, 1) := by decide +kernel
theorem dX11_known_17 : decode cX11_known 17 = .ok (.invokevirtual 239, 3) := by decide +kernel
theorem dX11_known_20 : decode cX11_known 20 = .ok (.ifCond .eq 13, 3) := by decide +kernel
theorem dX11_known_23 : decode cX11_known 23 = .ok (.iload 4, 2) := by decide +kernel
theorem dX11_known_25 : decode cX11_known 25 = .ok (.iconst 0, 1) := by decide +kernel
theorem dX11_known_26 : decode cX11_known 26 = .ok (.iconst 1, 1) := by decide +kernel
theorem dX11_known_27 : decode cX11_known 27 = .ok (.invokestatic 105, 3) := by decide +kernel
theorem dX11_known_30 : decode cX11_known 30 = .ok (.ifCond .ne 5, 3) := by decide +kernel
theorem dX11_known_33 : decode cX11_known 33 = .ok (.iconst (-1), 1) := by decide +kernel
theorem dX11_known_34 : decode cX11_known 34 = .ok (.ireturn, 1) := by decide +kernel
theorem dX11_known_35 : decode cX11_known 35 = .ok (.aload_n 0, 1) := by decide +kernel
theorem dX11_known_36 : decode cX11_known 36 = .ok (.getfield 24, 3) := by decide +kernel
theorem dX11_known_39 : decode cX11_known 39 = .ok (.invokevirtual 227, 3) := by decide +kernel
theorem dX11_known_42 : decode cX11_known 42 = .ok (.aload_n 0, 1) := by decide +kernel
theorem dX11_known_43 : decode cX11_known 43 = .ok (.getfield 24, 3) := by decide +kernel
theorem dX11_known_46 : decode cX11_known 46 = .ok (.iload_n 1, 1) := by decide +kernel
theorem dX11_known_47 : decode cX11_known 47 = .ok (.aload_n 0, 1) := by decide +kernel
theorem dX11_known_48 : decode cX11_known 48 = .ok (.getfield 15, 3) := by decide +kernel
theorem dX11_known_51 : decode cX11_known 51 = .ok (.iload_n 2, 1) := by decide +kernel
theorem dX11_known_52 : decode cX11_known 52 = .ok (.iload_n 3, 1) := by decide +kernel
theorem dX11_known_53 : decode cX11_known 53 = .ok (.invokevirtual 242, 3) := by decide +kernel
theorem dX11_known_56 : decode cX11_known 56 = .ok (.iload 4, 2) := by decide +kernel
theorem dX11_known_58 : decode cX11_known 58 = .ok (.ifCond .ne 7, 3) := by decide +kernel
theorem dX11_known_61 : decode cX11_known 61 = .ok (.iconst 1, 1) := by decide +kernel
theorem dX11_known_62 : decode cX11_known 62 = .ok (.goto 4, 3) := by decide +kernel
theorem dX11_known_65 : decode cX11_known 65 = .ok (.iconst 0, 1) := by decide +kernel
theorem dX11_known_66 : decode cX11_known 66 = .ok (.invokevirtual 323, 3) := by decide +kernel
theorem dX11_known_69 : decode cX11_known 69 = .ok (.ireturn, 1) := by decide +kernel
theorem dX11_ahead_0 : decode cX11_ahead 0 = .ok (.aload_n 0, 1) := by decide +kernel
theorem dX11_ahead_1 : decode cX11_ahead 1 = .ok (.getfield 24, 3) := by decide +kernel
theorem dX11_ahead_4 : decode cX11_ahead 4 = .ok (.iload_n 1, 1) := by decide +kernel
theorem dX11_ahead_5 : decode cX11_ahead 5 = .ok (.invokevirtual 175, 3) := by decide +kernel
theorem dX11_ahead_8 : decode cX11_ahead 8 = .ok (.ifCond .eq 32, 3) := by decide +kernel
theorem dX11_ahead_11 : decode cX11_ahead 11 = .ok (.aload_n 0, 1) := by decide +kernel
theorem dX11_ahead_12 : decode cX11_ahead 12 = .ok (.getfield 24, 3) := by decide +kernel
theorem dX11_ahead_15 : decode cX11_ahead 15 = .ok (.iload_n 2, 1) := by decide +kernel
theorem dX11_ahead_16 : decode cX11_ahead 16 = .ok (.invokevirtual 175, 3) := by decide +kernel
theorem dX11_ahead_19 : decode cX11_ahead 19 = .ok (.ifCond .eq 21, 3) := by decide +kernel
theorem dX11_ahead_22 : decode cX11_ahead 22 = .ok (.iload_n 1, 1) := by decide +kernel
theorem dX11_ahead_23 : decode cX11_ahead 23 = .ok (.iload_n 2, 1) := by decide +kernel
theorem dX11_ahead_24 : decode cX11_ahead 24 = .ok (.if_icmp .eq 16, 3) := by decide +kernel
theorem dX11_ahead_27 : decode cX11_ahead 27 = .ok (.aload_n 0, 1) := by decide +kernel
theorem dX11_ahead_28 : decode cX11_ahead 28 = .ok (.getfield 15, 3) := by decide +kernel
theorem dX11_ahead_31 : decode cX11_ahead 31 = .ok (.iload_n 3, 1) := by decide +kernel
theorem dX11_ahead_32 : decode cX11_ahead 32 = .ok (.iload 4, 2) := by decide +kernel
theorem dX11_ahead_34 : decode cX11_ahead 34 = .ok (.invokevirtual 239, 3) := by decide +kernel
theorem dX11_ahead_37 : decode cX11_ahead 37 = .ok (.ifCond .ne 5, 3) := by decide +kernel
theorem dX11_ahead_40 : decode cX11_ahead 40 = .ok (.iconst (-1), 1) := by decide +kernel
theorem dX11_ahead_41 : decode cX11_ahead 41 = .ok (.ireturn, 1) := by decide +kernel
theorem dX11_ahead_42 : decode cX11_ahead 42 = .ok (.aload_n 0, 1) := by decide +kernel
theorem dX11_ahead_43 : decode cX11_ahead 43 = .ok (.getfield 24, 3) := by decide +kernel
theorem dX11_ahead_46 : decode cX11_ahead 46 = .ok (.invokevirtual 227, 3) := by decide +kernel
theorem dX11_ahead_49 : decode cX11_ahead 49 = .ok (.aload_n 0, 1) := by decide +kernel
theorem dX11_ahead_50 : decode cX11_ahead 50 = .ok (.getfield 15, 3) := by decide +kernel
theorem dX11_ahead_53 : decode cX11_ahead 53 = .ok (.iload_n 3, 1) := by decide +kernel
theorem dX11_ahead_54 : decode cX11_ahead 54 = .ok (.iload 4, 2) := by decide +kernel
theorem dX11_ahead_56 : decode cX11_ahead 56 = .ok (.invokevirtual 242, 3) := by decide +kernel
theorem dX11_ahead_59 : decode cX11_ahead 59 = .ok (.istore 5, 2) := by decide +kernel
theorem dX11_ahead_61 : decode cX11_ahead 61 = .ok (.aload_n 0, 1) := by decide +kernel
theorem dX11_ahead_62 : decode cX11_ahead 62 = .ok (.getfield 24, 3) := by decide +kernel
theorem dX11_ahead_65 : decode cX11_ahead 65 = .ok (.iload_n 1, 1) := by decide +kernel
theorem dX11_ahead_66 : decode cX11_ahead 66 = .ok (.iload 5, 2) := by decide +kernel
theorem dX11_ahead_68 : decode cX11_ahead 68 = .ok (.iconst 0, 1) := by decide +kernel
theorem dX11_ahead_69 : decode cX11_ahead 69 = .ok (.invokevirtual 323, 3) := by decide +kernel
theorem dX11_ahead_72 : decode cX11_ahead 72 = .ok (.istore 6, 2) := by decide +kernel
theorem dX11_ahead_74 : decode cX11_ahead 74 = .ok (.aload_n 0, 1) := by decide +kernel
theorem dX11_ahead_75 : decode cX11_ahead 75 = .ok (.getfield 24, 3) := by decide +kernel
theorem dX11_ahead_78 : decode cX11_ahead 78 = .ok (.iload_n 2, 1) := by decide +kernel
theorem dX11_ahead_79 : decode cX11_ahead 79 = .ok (.iload 5, 2) := by decide +kernel
theorem dX11_ahead_81 : decode cX11_ahead 81 = .ok (.iconst 1, 1) := by decide +kernel
theorem dX11_ahead_82 : decode cX11_ahead 82 = .ok (.invokevirtual 323, 3) := by decide +kernel
theorem dX11_ahead_85 : decode cX11_ahead 85 = .ok (.istore 7, 2) := by decide +kernel
theorem dX11_ahead_87 : decode cX11_ahead 87 = .ok (.iload 6, 2) := by decide +kernel
theorem dX11_ahead_89 : decode cX11_ahead 89 = .ok (.iconst (-1), 1) := by decide +kernel
theorem dX11_ahead_90 : decode cX11_ahead 90 = .ok (.if_icmp .eq 9, 3) := by decide +kernel
theorem dX11_ahead_93 : decode cX11_ahead 93 = .ok (.iload 7, 2) := by decide +kernel
theorem dX11_ahead_95 : decode cX11_ahead 95 = .ok (.iconst (-1), 1) := by decide +kernel
theorem dX11_ahead_96 : decode cX11_ahead 96 = .ok (.if_icmp .ne 5, 3) := by decide +kernel
theorem dX11_ahead_99 : decode cX11_ahead 99 = .ok (.iconst (-1), 1) := by decide +kernel
theorem dX11_ahead_100 : decode cX11_ahead 100 = .ok (.ireturn, 1) := by decide +kernel
theorem dX11_ahead_101 : decode cX11_ahead 101 = .ok (.iload 6, 2) := by decide +kernel
theorem dX11_ahead_103 : decode cX11_ahead 103 = .ok (.iload 7, 2) := by decide +kernel
theorem dX11_ahead_105 : decode cX11_ahead 105 = .ok (.if_icmp .ge 7, 3) := by decide +kernel
theorem dX11_ahead_108 : decode cX11_ahead 108 = .ok (.iconst 1, 1) := by decide +kernel
theorem dX11_ahead_109 : decode cX11_ahead 109 = .ok (.goto 4, 3) := by decide +kernel
theorem dX11_ahead_112 : decode cX11_ahead 112 = .ok (.iconst 0, 1) := by decide +kernel
theorem dX11_ahead_113 : decode cX11_ahead 113 = .ok (.ireturn, 1) := by decide +kernel
theorem dX11_wall_0 : decode cX11_wall 0 = .ok (.aload_n 0, 1) := by decide +kernel
theorem dX11_wall_1 : decode cX11_wall 1 = .ok (.getfield 24, 3) := by decide +kernel
theorem dX11_wall_4 : decode cX11_wall 4 = .ok (.iload_n 1, 1) := by decide +kernel
theorem dX11_wall_5 : decode cX11_wall 5 = .ok (.invokevirtual 175, 3) := by decide +kernel
theorem dX11_wall_8 : decode cX11_wall 8 = .ok (.ifCond .eq 7, 3) := by decide +kernel
theorem dX11_wall_11 : decode cX11_wall 11 = .ok (.iload_n 2, 1) := by decide +kernel
theorem dX11_wall_12 : decode cX11_wall 12 = .ok (.ifCond .ge 5, 3) := by decide +kernel
theorem dX11_wall_15 : decode cX11_wall 15 = .ok (.iconst (-1), 1) := by decide +kernel
theorem dX11_wall_16 : decode cX11_wall 16 = .ok (.ireturn, 1) := by decide +kernel
theorem dX11_wall_17 : decode cX11_wall 17 = .ok (.aload_n 0, 1) := by decide +kernel
theorem dX11_wall_18 : decode cX11_wall 18 = .ok (.getfield 24, 3) := by decide +kernel
theorem dX11_wall_21 : decode cX11_wall 21 = .ok (.invokevirtual 227, 3) := by decide +kernel
theorem dX11_wall_24 : decode cX11_wall 24 = .ok (.aload_n 0, 1) := by decide +kernel
theorem dX11_wall_25 : decode cX11_wall 25 = .ok (.getfield 24, 3) := by decide +kernel
theorem dX11_wall_28 : decode cX11_wall 28 = .ok (.iload_n 1, 1) := by decide +kernel
theorem dX11_wall_29 : decode cX11_wall 29 = .ok (.iload_n 2, 1) := by decide +kernel
theorem dX11_wall_30 : decode cX11_wall 30 = .ok (.invokevirtual 327, 3) := by decide +kernel
theorem dX11_wall_33 : decode cX11_wall 33 = .ok (.istore_n 3, 1) := by decide +kernel
theorem dX11_wall_34 : decode cX11_wall 34 = .ok (.aload_n 0, 1) := by decide +kernel
theorem dX11_wall_35 : decode cX11_wall 35 = .ok (.getfield 24, 3) := by decide +kernel
theorem dX11_wall_38 : decode cX11_wall 38 = .ok (.getfield 230, 3) := by decide +kernel
theorem dX11_wall_41 : decode cX11_wall 41 = .ok (.iload_n 1, 1) := by decide +kernel
theorem dX11_wall_42 : decode cX11_wall 42 = .ok (.aaload, 1) := by decide +kernel
theorem dX11_wall_43 : decode cX11_wall 43 = .ok (.iload_n 3, 1) := by decide +kernel
theorem dX11_wall_44 : decode cX11_wall 44 = .ok (.iconst 1, 1) := by decide +kernel
theorem dX11_wall_45 : decode cX11_wall 45 = .ok (.isub, 1) := by decide +kernel
theorem dX11_wall_46 : decode cX11_wall 46 = .ok (.invokevirtual 330, 3) := by decide +kernel
theorem dX11_wall_49 : decode cX11_wall 49 = .ok (.istore 4, 2) := by decide +kernel
theorem dX11_wall_51 : decode cX11_wall 51 = .ok (.iconst 0, 1) := by decide +kernel
theorem dX11_wall_52 : decode cX11_wall 52 = .ok (.istore 5, 2) := by decide +kernel
theorem dX11_wall_54 : decode cX11_wall 54 = .ok (.iconst 0, 1) := by decide +kernel
theorem dX11_wall_55 : decode cX11_wall 55 = .ok (.istore 6, 2) := by decide +kernel
theorem dX11_wall_57 : decode cX11_wall 57 = .ok (.iload 6, 2) := by decide +kernel
theorem dX11_wall_59 : decode cX11_wall 59 = .ok (.aload_n 0, 1) := by decide +kernel
theorem dX11_wall_60 : decode cX11_wall 60 = .ok (.getfield 24, 3) := by decide +kernel
theorem dX11_wall_63 : decode cX11_wall 63 = .ok (.getfield 80, 3) := by decide +kernel
theorem dX11_wall_66 : decode cX11_wall 66 = .ok (.if_icmp .ge 94, 3) := by decide +kernel
theorem dX11_wall_69 : decode cX11_wall 69 = .ok (.iload 6, 2) := by decide +kernel
theorem dX11_wall_71 : decode cX11_wall 71 = .ok (.bipush 6, 2) := by decide +kernel
theorem dX11_wall_73 : decode cX11_wall 73 = .ok (.if_icmp .ge 87, 3) := by decide +kernel
theorem dX11_wall_76 : decode cX11_wall 76 = .ok (.aload_n 0, 1) := by decide +kernel
theorem dX11_wall_77 : decode cX11_wall 77 = .ok (.getfield 24, 3) := by decide +kernel
theorem dX11_wall_80 : decode cX11_wall 80 = .ok (.iload 6, 2) := by decide +kernel
theorem dX11_wall_82 : decode cX11_wall 82 = .ok (.iload_n 2, 1) := by decide +kernel
theorem dX11_wall_83 : decode cX11_wall 83 = .ok (.invokevirtual 327, 3) := by decide +kernel
theorem dX11_wall_86 : decode cX11_wall 86 = .ok (.istore 7, 2) := by decide +kernel
theorem dX11_wall_88 : decode cX11_wall 88 = .ok (.aload_n 0, 1) := by decide +kernel
theorem dX11_wall_89 : decode cX11_wall 89 = .ok (.getfield 24, 3) := by decide +kernel
theorem dX11_wall_92 : decode cX11_wall 92 = .ok (.getfield 230, 3) := by decide +kernel
theorem dX11_wall_95 : decode cX11_wall 95 = .ok (.iload 6, 2) := by decide +kernel
theorem dX11_wall_97 : decode cX11_wall 97 = .ok (.aaload, 1) := by decide +kernel
theorem dX11_wall_98 : decode cX11_wall 98 = .ok (.iload 7, 2) := by decide +kernel
theorem dX11_wall_100 : decode cX11_wall 100 = .ok (.iconst 1, 1) := by decide +kernel
theorem dX11_wall_101 : decode cX11_wall 101 = .ok (.isub, 1) := by decide +kernel
theorem dX11_wall_102 : decode cX11_wall 102 = .ok (.invokevirtual 330, 3) := by decide +kernel
theorem dX11_wall_105 : decode cX11_wall 105 = .ok (.istore 8, 2) := by decide +kernel
theorem dX11_wall_107 : decode cX11_wall 107 = .ok (.iload 8, 2) := by decide +kernel
theorem dX11_wall_109 : decode cX11_wall 109 = .ok (.iload 4, 2) := by decide +kernel
theorem dX11_wall_111 : decode cX11_wall 111 = .ok (.if_icmp .lt 16, 3) := by decide +kernel
theorem dX11_wall_114 : decode cX11_wall 114 = .ok (.iload 8, 2) := by decide +kernel
theorem dX11_wall_116 : decode cX11_wall 116 = .ok (.iload 4, 2) := by decide +kernel
theorem dX11_wall_118 : decode cX11_wall 118 = .ok (.if_icmp .ne 13, 3) := by decide +kernel
theorem dX11_wall_121 : decode cX11_wall 121 = .ok (.iload 6, 2) := by decide +kernel
theorem dX11_wall_123 : decode cX11_wall 123 = .ok (.iload_n 1, 1) := by decide +kernel
theorem dX11_wall_124 : decode cX11_wall 124 = .ok (.if_icmp .ge 7, 3) := by decide +kernel
theorem dX11_wall_127 : decode cX11_wall 127 = .ok (.iconst 1, 1) := by decide +kernel
theorem dX11_wall_128 : decode cX11_wall 128 = .ok (.goto 4, 3) := by decide +kernel
theorem dX11_wall_131 : decode cX11_wall 131 = .ok (.iconst 0, 1) := by decide +kernel
theorem dX11_wall_132 : decode cX11_wall 132 = .ok (.istore 9, 2) := by decide +kernel
theorem dX11_wall_134 : decode cX11_wall 134 = .ok (.iload 7, 2) := by decide +kernel
theorem dX11_wall_136 : decode cX11_wall 136 = .ok (.iload_n 3, 1) := by decide +kernel
theorem dX11_wall_137 : decode cX11_wall 137 = .ok (.if_icmp .gt 14, 3) := by decide +kernel
theorem dX11_wall_140 : decode cX11_wall 140 = .ok (.iload 7, 2) := by decide +kernel
theorem dX11_wall_142 : decode cX11_wall 142 = .ok (.iload_n 3, 1) := by decide +kernel
theorem dX11_wall_143 : decode cX11_wall 143 = .ok (.if_icmp .ne 11, 3) := by decide +kernel
theorem dX11_wall_146 : decode cX11_wall 146 = .ok (.iload 9, 2) := by decide +kernel
theorem dX11_wall_148 : decode cX11_wall 148 = .ok (.ifCond .eq 6, 3) := by decide +kernel
theorem dX11_wall_151 : decode cX11_wall 151 = .ok (.iinc 5 1, 3) := by decide +kernel
theorem dX11_wall_154 : decode cX11_wall 154 = .ok (.iinc 6 1, 3) := by decide +kernel
theorem dX11_wall_157 : decode cX11_wall 157 = .ok (.goto (-100), 3) := by decide +kernel
theorem dX11_wall_160 : decode cX11_wall 160 = .ok (.iload 5, 2) := by decide +kernel
theorem dX11_wall_162 : decode cX11_wall 162 = .ok (.ireturn, 1) := by decide +kernel
theorem dX11_why_0 : decode cX11_why 0 = .ok (.aload_n 0, 1) := by decide +kernel
theorem dX11_why_1 : decode cX11_why 1 = .ok (.getfield 24, 3) := by decide +kernel
theorem dX11_why_4 : decode cX11_why 4 = .ok (.iload_n 1, 1) := by decide +kernel
theorem dX11_why_5 : decode cX11_why 5 = .ok (.invokevirtual 175, 3) := by decide +kernel
theorem dX11_why_8 : decode cX11_why 8 = .ok (.ifCond .eq 17, 3) := by decide +kernel
theorem dX11_why_11 : decode cX11_why 11 = .ok (.iload_n 2, 1) := by decide +kernel
theorem dX11_why_12 : decode cX11_why 12 = .ok (.aload_n 0, 1) := by decide +kernel
theorem dX11_why_13 : decode cX11_why 13 = .ok (.getfield 15, 3) := by decide +kernel
theorem dX11_why_16 : decode cX11_why 16 = .ok (.getfield 185, 3) := by decide +kernel
theorem dX11_why_19 : decode cX11_why 19 = .ok (.invokestatic 115, 3) := by decide +kernel
theorem dX11_why_22 : decode cX11_why 22 = .ok (.ifCond .ne 5, 3) := by decide +kernel
theorem dX11_why_25 : decode cX11_why 25 = .ok (.iconst (-1), 1) := by decide +kernel
theorem dX11_why_26 : decode cX11_why 26 = .ok (.ireturn, 1) := by decide +kernel
theorem dX11_why_27 : decode cX11_why 27 = .ok (.aload_n 0, 1) := by decide +kernel
theorem dX11_why_28 : decode cX11_why 28 = .ok (.getfield 24, 3) := by decide +kernel
theorem dX11_why_31 : decode cX11_why 31 = .ok (.invokevirtual 227, 3) := by decide +kernel
theorem dX11_why_34 : decode cX11_why 34 = .ok (.aload_n 0, 1) := by decide +kernel
theorem dX11_why_35 : decode cX11_why 35 = .ok (.getfield 24, 3) := by decide +kernel
theorem dX11_why_38 : decode cX11_why 38 = .ok (.getfield 230, 3) := by decide +kernel
theorem dX11_why_41 : decode cX11_why 41 = .ok (.iload_n 1, 1) := by decide +kernel
theorem dX11_why_42 : decode cX11_why 42 = .ok (.aaload, 1) := by decide +kernel
theorem dX11_why_43 : decode cX11_why 43 = .ok (.getfield 333, 3) := by decide +kernel
theorem dX11_why_46 : decode cX11_why 46 = .ok (.iload_n 2, 1) := by decide +kernel
theorem dX11_why_47 : decode cX11_why 47 = .ok (.iaload, 1) := by decide +kernel
theorem dX11_why_48 : decode cX11_why 48 = .ok (.ireturn, 1) := by decide +kernel
theorem dX11_row_0 : decode cX11_row 0 = .ok (.iload_n 1, 1) := by decide +kernel
theorem dX11_row_1 : decode cX11_row 1 = .ok (.aload_n 0, 1) := by decide +kernel
theorem dX11_row_2 : decode cX11_row 2 = .ok (.getfield 215, 3) := by decide +kernel
theorem dX11_row_5 : decode cX11_row 5 = .ok (.invokestatic 115, 3) := by decide +kernel
theorem dX11_row_8 : decode cX11_row 8 = .ok (.ifCond .eq 9, 3) := by decide +kernel
theorem dX11_row_11 : decode cX11_row 11 = .ok (.iload_n 1, 1) := by decide +kernel
theorem dX11_row_12 : decode cX11_row 12 = .ok (.bipush 6, 2) := by decide +kernel
theorem dX11_row_14 : decode cX11_row 14 = .ok (.if_icmp .lt 11, 3) := by decide +kernel
theorem dX11_row_17 : decode cX11_row 17 = .ok (.new 224, 3) := by decide +kernel
theorem dX11_row_20 : decode cX11_row 20 = .ok (.dup, 1) := by decide +kernel
theorem dX11_row_21 : decode cX11_row 21 = .ok (.invokespecial 226, 3) := by decide +kernel
theorem dX11_row_24 : decode cX11_row 24 = .ok (.athrow, 1) := by decide +kernel
theorem dX11_row_25 : decode cX11_row 25 = .ok (.aload_n 0, 1) := by decide +kernel
theorem dX11_row_26 : decode cX11_row 26 = .ok (.getfield 66, 3) := by decide +kernel
theorem dX11_row_29 : decode cX11_row 29 = .ok (.iload_n 1, 1) := by decide +kernel
theorem dX11_row_30 : decode cX11_row 30 = .ok (.iaload, 1) := by decide +kernel
theorem dX11_row_31 : decode cX11_row 31 = .ok (.ireturn, 1) := by decide +kernel
theorem dX11_takeTape_0 : decode cX11_takeTape 0 = .ok (.aload_n 0, 1) := by decide +kernel
theorem dX11_takeTape_1 : decode cX11_takeTape 1 = .ok (.getfield 218, 3) := by decide +kernel
theorem dX11_takeTape_4 : decode cX11_takeTape 4 = .ok (.istore_n 1, 1) := by decide +kernel
theorem dX11_takeTape_5 : decode cX11_takeTape 5 = .ok (.aload_n 0, 1) := by decide +kernel
theorem dX11_takeTape_6 : decode cX11_takeTape 6 = .ok (.iconst 0, 1) := by decide +kernel
theorem dX11_takeTape_7 : decode cX11_takeTape 7 = .ok (.putfield 218, 3) := by decide +kernel
theorem dX11_takeTape_10 : decode cX11_takeTape 10 = .ok (.iload_n 1, 1) := by decide +kernel
theorem dX11_takeTape_11 : decode cX11_takeTape 11 = .ok (.ireturn, 1) := by decide +kernel
theorem dX11_isWithin_0 : decode cX11_isWithin 0 = .ok (.iload_n 0, 1) := by decide +kernel
theorem dX11_isWithin_1 : decode cX11_isWithin 1 = .ok (.iload_n 1, 1) := by decide +kernel
theorem dX11_isWithin_2 : decode cX11_isWithin 2 = .ok (.if_icmp .lt 12, 3) := by decide +kernel
theorem dX11_isWithin_5 : decode cX11_isWithin 5 = .ok (.iload_n 0, 1) := by decide +kernel
theorem dX11_isWithin_6 : decode cX11_isWithin 6 = .ok (.iload_n 2, 1) := by decide +kernel
theorem dX11_isWithin_7 : decode cX11_isWithin 7 = .ok (.if_icmp .gt 7, 3) := by decide +kernel
theorem dX11_isWithin_10 : decode cX11_isWithin 10 = .ok (.iconst 1, 1) := by decide +kernel
theorem dX11_isWithin_11 : decode cX11_isWithin 11 = .ok (.goto 4, 3) := by decide +kernel
theorem dX11_isWithin_14 : decode cX11_isWithin 14 = .ok (.iconst 0, 1) := by decide +kernel
theorem dX11_isWithin_15 : decode cX11_isWithin 15 = .ok (.ireturn, 1) := by decide +kernel
theorem dX11_isIndex_0 : decode cX11_isIndex 0 = .ok (.iload_n 0, 1) := by decide +kernel
theorem dX11_isIndex_1 : decode cX11_isIndex 1 = .ok (.ifCond .lt 12, 3) := by decide +kernel
theorem dX11_isIndex_4 : decode cX11_isIndex 4 = .ok (.iload_n 0, 1) := by decide +kernel
theorem dX11_isIndex_5 : decode cX11_isIndex 5 = .ok (.iload_n 1, 1) := by decide +kernel
theorem dX11_isIndex_6 : decode cX11_isIndex 6 = .ok (.if_icmp .ge 7, 3) := by decide +kernel
theorem dX11_isIndex_9 : decode cX11_isIndex 9 = .ok (.iconst 1, 1) := by decide +kernel
theorem dX11_isIndex_10 : decode cX11_isIndex 10 = .ok (.goto 4, 3) := by decide +kernel
theorem dX11_isIndex_13 : decode cX11_isIndex 13 = .ok (.iconst 0, 1) := by decide +kernel
theorem dX11_isIndex_14 : decode cX11_isIndex 14 = .ok (.ireturn, 1) := by decide +kernel
theorem dX11_isDay_0 : decode cX11_isDay 0 = .ok (.iload_n 0, 1) := by decide +kernel
theorem dX11_isDay_1 : decode cX11_isDay 1 = .ok (.iconst 0, 1) := by decide +kernel
theorem dX11_isDay_2 : decode cX11_isDay 2 = .ok (.bipush 99, 2) := by decide +kernel
theorem dX11_isDay_4 : decode cX11_isDay 4 = .ok (.invokestatic 105, 3) := by decide +kernel
theorem dX11_isDay_7 : decode cX11_isDay 7 = .ok (.ireturn, 1) := by decide +kernel
theorem dJ7_fill_53178_0 : decode cJ7_fill_53178 0 = .ok (.iconst 0, 1) := by decide +kernel
theorem dJ7_fill_53178_1 : decode cJ7_fill_53178 1 = .ok (.istore_n 2, 1) := by decide +kernel
theorem dJ7_fill_53178_2 : decode cJ7_fill_53178 2 = .ok (.aload_n 0, 1) := by decide +kernel
theorem dJ7_fill_53178_3 : decode cJ7_fill_53178 3 = .ok (.arraylength, 1) := by decide +kernel
theorem dJ7_fill_53178_4 : decode cJ7_fill_53178 4 = .ok (.istore_n 3, 1) := by decide +kernel
theorem dJ7_fill_53178_5 : decode cJ7_fill_53178 5 = .ok (.iload_n 2, 1) := by decide +kernel
theorem dJ7_fill_53178_6 : decode cJ7_fill_53178 6 = .ok (.iload_n 3, 1) := by decide +kernel
theorem dJ7_fill_53178_7 : decode cJ7_fill_53178 7 = .ok (.if_icmp .ge 13, 3) := by decide +kernel
theorem dJ7_fill_53178_10 : decode cJ7_fill_53178 10 = .ok (.aload_n 0, 1) := by decide +kernel
theorem dJ7_fill_53178_11 : decode cJ7_fill_53178 11 = .ok (.iload_n 2, 1) := by decide +kernel
theorem dJ7_fill_53178_12 : decode cJ7_fill_53178 12 = .ok (.iload_n 1, 1) := by decide +kernel
theorem dJ7_fill_53178_13 : decode cJ7_fill_53178 13 = .ok (.iastore, 1) := by decide +kernel
theorem dJ7_fill_53178_14 : decode cJ7_fill_53178 14 = .ok (.iinc 2 1, 3) := by decide +kernel
theorem dJ7_fill_53178_17 : decode cJ7_fill_53178 17 = .ok (.goto (-12), 3) := by decide +kernel
theorem dJ7_fill_53178_20 : decode cJ7_fill_53178 20 = .ok (.return_, 1) := by decide +kernel
theorem dL_of_0 : decode cL_of 0 = .ok (.aload_n 3, 1) := by decide +kernel
theorem dL_of_1 : decode cL_of 1 = .ok (.iconst 0, 1) := by decide +kernel
theorem dL_of_2 : decode cL_of 2 = .ok (.aload_n 0, 1) := by decide +kernel
theorem dL_of_3 : decode cL_of 3 = .ok (.iload_n 1, 1) := by decide +kernel
theorem dL_of_4 : decode cL_of 4 = .ok (.iload_n 2, 1) := by decide +kernel
theorem dL_of_5 : decode cL_of 5 = .ok (.invokevirtual 7, 3) := by decide +kernel
theorem dL_of_8 : decode cL_of 8 = .ok (.i2l, 1) := by decide +kernel
theorem dL_of_9 : decode cL_of 9 = .ok (.lastore, 1) := by decide +kernel
theorem dL_of_10 : decode cL_of 10 = .ok (.goto 7, 3) := by decide +kernel
theorem dL_of_13 : decode cL_of 13 = .ok (.astore 4, 2) := by decide +kernel
theorem dL_of_15 : decode cL_of 15 = .ok (.iconst 1, 1) := by decide +kernel
theorem dL_of_16 : decode cL_of 16 = .ok (.ireturn, 1) := by decide +kernel
theorem dL_of_17 : decode cL_of 17 = .ok (.iconst 0, 1) := by decide +kernel
theorem dL_of_18 : decode cL_of 18 = .ok (.ireturn, 1) := by decide +kernel
theorem dL_sum_0 : decode cL_sum 0 = .ok (.aload_n 3, 1) := by decide +kernel
theorem dL_sum_1 : decode cL_sum 1 = .ok (.iconst 0, 1) := by decide +kernel
theorem dL_sum_2 : decode cL_sum 2 = .ok (.aload_n 0, 1) := by decide +kernel
theorem dL_sum_3 : decode cL_sum 3 = .ok (.iload_n 1, 1) := by decide +kernel
theorem dL_sum_4 : decode cL_sum 4 = .ok (.iload_n 2, 1) := by decide +kernel
theorem dL_sum_5 : decode cL_sum 5 = .ok (.invokevirtual 15, 3) := by decide +kernel
theorem dL_sum_8 : decode cL_sum 8 = .ok (.i2l, 1) := by decide +kernel
theorem dL_sum_9 : decode cL_sum 9 = .ok (.lastore, 1) := by decide +kernel
theorem dL_sum_10 : decode cL_sum 10 = .ok (.goto 7, 3) := by decide +kernel
theorem dL_sum_13 : decode cL_sum 13 = .ok (.astore 4, 2) := by decide +kernel
theorem dL_sum_15 : decode cL_sum 15 = .ok (.iconst 1, 1) := by decide +kernel
theorem dL_sum_16 : decode cL_sum 16 = .ok (.ireturn, 1) := by decide +kernel
theorem dL_sum_17 : decode cL_sum 17 = .ok (.iconst 0, 1) := by decide +kernel
theorem dL_sum_18 : decode cL_sum 18 = .ok (.ireturn, 1) := by decide +kernel
theorem dL_row_0 : decode cL_row 0 = .ok (.aload_n 2, 1) := by decide +kernel
theorem dL_row_1 : decode cL_row 1 = .ok (.iconst 0, 1) := by decide +kernel
theorem dL_row_2 : decode cL_row 2 = .ok (.aload_n 0, 1) := by decide +kernel
theorem dL_row_3 : decode cL_row 3 = .ok (.iload_n 1, 1) := by decide +kernel
theorem dL_row_4 : decode cL_row 4 = .ok (.invokevirtual 18, 3) := by decide +kernel
theorem dL_row_7 : decode cL_row 7 = .ok (.i2l, 1) := by decide +kernel
theorem dL_row_8 : decode cL_row 8 = .ok (.lastore, 1) := by decide +kernel
theorem dL_row_9 : decode cL_row 9 = .ok (.goto 6, 3) := by decide +kernel
theorem dL_row_12 : decode cL_row 12 = .ok (.astore_n 3, 1) := by decide +kernel
theorem dL_row_13 : decode cL_row 13 = .ok (.iconst 1, 1) := by decide +kernel
theorem dL_row_14 : decode cL_row 14 = .ok (.ireturn, 1) := by decide +kernel
theorem dL_row_15 : decode cL_row 15 = .ok (.iconst 0, 1) := by decide +kernel
theorem dL_row_16 : decode cL_row 16 = .ok (.ireturn, 1) := by decide +kernel
theorem dL_law_0 : decode cL_law 0 = .ok (.new 8, 3) := by decide +kernel
theorem dL_law_3 : decode cL_law 3 = .ok (.dup, 1) := by decide +kernel
theorem dL_law_4 : decode cL_law 4 = .ok (.invokespecial 22, 3) := by decide +kernel
theorem dL_law_7 : decode cL_law 7 = .ok (.astore_n 1, 1) := by decide +kernel
theorem dL_law_8 : decode cL_law 8 = .ok (.new 23, 3) := by decide +kernel
theorem dL_law_11 : decode cL_law 11 = .ok (.dup, 1) := by decide +kernel
theorem dL_law_12 : decode cL_law 12 = .ok (.invokespecial 25, 3) := by decide +kernel
theorem dL_law_15 : decode cL_law 15 = .ok (.astore_n 2, 1) := by decide +kernel
theorem dL_law_16 : decode cL_law 16 = .ok (.iconst 1, 1) := by decide +kernel
theorem dL_law_17 : decode cL_law 17 = .ok (.newarray .long, 2) := by decide +kernel
theorem dL_law_19 : decode cL_law 19 = .ok (.astore_n 3, 1) := by decide +kernel
theorem dL_law_20 : decode cL_law 20 = .ok (.iconst 0, 1) := by decide +kernel
theorem dL_law_21 : decode cL_law 21 = .ok (.istore 4, 2) := by decide +kernel
theorem dL_law_23 : decode cL_law 23 = .ok (.iload 4, 2) := by decide +kernel
theorem dL_law_25 : decode cL_law 25 = .ok (.aload_n 0, 1) := by decide +kernel
theorem dL_law_26 : decode cL_law 26 = .ok (.arraylength, 1) := by decide +kernel
theorem dL_law_27 : decode cL_law 27 = .ok (.bipush 7, 2) := by decide +kernel
theorem dL_law_29 : decode cL_law 29 = .ok (.isub, 1) := by decide +kernel
theorem dL_law_30 : decode cL_law 30 = .ok (.if_icmp .gt 1951, 3) := by decide +kernel
theorem dL_law_33 : decode cL_law 33 = .ok (.aload_n 0, 1) := by decide +kernel
theorem dL_law_34 : decode cL_law 34 = .ok (.iload 4, 2) := by decide +kernel
theorem dL_law_36 : decode cL_law 36 = .ok (.iaload, 1) := by decide +kernel
theorem dL_law_37 : decode cL_law 37 = .ok (.bipush 63, 2) := by decide +kernel
theorem dL_law_39 : decode cL_law 39 = .ok (.iand, 1) := by decide +kernel
theorem dL_law_40 : decode cL_law 40 = .ok (.tableswitch 1935 0 39 #[176, 213, 262, 311, 348, 397, 458, 545, 594, 655, 716, 753, 778, 803, 828, 896, 945, 982, 1007, 1020, 1045, 1070, 1095, 1156, 1193, 1230, 1298, 1335, 1360, 1421, 1470, 1519, 1568, 1581, 1630, 1683, 1744, 1805, 1842, 1879], 176) := by decide +kernel
theorem dL_law_216 : decode cL_law 216 = .ok (.aload_n 1, 1) := by decide +kernel
theorem dL_law_217 : decode cL_law 217 = .ok (.aload_n 0, 1) := by decide +kernel
theorem dL_law_218 : decode cL_law 218 = .ok (.iload 4, 2) := by decide +kernel
theorem dL_law_220 : decode cL_law 220 = .ok (.iconst 1, 1) := by decide +kernel
theorem dL_law_221 : decode cL_law 221 = .ok (.iadd, 1) := by decide +kernel
theorem dL_law_222 : decode cL_law 222 = .ok (.iaload, 1) := by decide +kernel
theorem dL_law_223 : decode cL_law 223 = .ok (.aload_n 0, 1) := by decide +kernel
theorem dL_law_224 : decode cL_law 224 = .ok (.iload 4, 2) := by decide +kernel
theorem dL_law_226 : decode cL_law 226 = .ok (.iconst 2, 1) := by decide +kernel
theorem dL_law_227 : decode cL_law 227 = .ok (.iadd, 1) := by decide +kernel
theorem dL_law_228 : decode cL_law 228 = .ok (.iaload, 1) := by decide +kernel
theorem dL_law_229 : decode cL_law 229 = .ok (.invokevirtual 26, 3) := by decide +kernel
theorem dL_law_232 : decode cL_law 232 = .ok (.aload_n 2, 1) := by decide +kernel
theorem dL_law_233 : decode cL_law 233 = .ok (.aload_n 0, 1) := by decide +kernel
theorem dL_law_234 : decode cL_law 234 = .ok (.iload 4, 2) := by decide +kernel
theorem dL_law_236 : decode cL_law 236 = .ok (.iconst 1, 1) := by decide +kernel
theorem dL_law_237 : decode cL_law 237 = .ok (.iadd, 1) := by decide +kernel
theorem dL_law_238 : decode cL_law 238 = .ok (.iaload, 1) := by decide +kernel
theorem dL_law_239 : decode cL_law 239 = .ok (.aload_n 0, 1) := by decide +kernel
theorem dL_law_240 : decode cL_law 240 = .ok (.iload 4, 2) := by decide +kernel
theorem dL_law_242 : decode cL_law 242 = .ok (.iconst 2, 1) := by decide +kernel
theorem dL_law_243 : decode cL_law 243 = .ok (.iadd, 1) := by decide +kernel
theorem dL_law_244 : decode cL_law 244 = .ok (.iaload, 1) := by decide +kernel
theorem dL_law_245 : decode cL_law 245 = .ok (.invokevirtual 30, 3) := by decide +kernel
theorem dL_law_248 : decode cL_law 248 = .ok (.if_icmp .eq 1727, 3) := by decide +kernel
theorem dL_law_251 : decode cL_law 251 = .ok (.iconst 0, 1) := by decide +kernel
theorem dL_law_252 : decode cL_law 252 = .ok (.ireturn, 1) := by decide +kernel
theorem dL_law_253 : decode cL_law 253 = .ok (.aload_n 1, 1) := by decide +kernel
theorem dL_law_254 : decode cL_law 254 = .ok (.aload_n 0, 1) := by decide +kernel
theorem dL_law_255 : decode cL_law 255 = .ok (.iload 4, 2) := by decide +kernel
theorem dL_law_257 : decode cL_law 257 = .ok (.iconst 1, 1) := by decide +kernel
theorem dL_law_258 : decode cL_law 258 = .ok (.iadd, 1) := by decide +kernel
theorem dL_law_259 : decode cL_law 259 = .ok (.iaload, 1) := by decide +kernel
theorem dL_law_260 : decode cL_law 260 = .ok (.aload_n 0, 1) := by decide +kernel
theorem dL_law_261 : decode cL_law 261 = .ok (.iload 4, 2) := by decide +kernel
theorem dL_law_263 : decode cL_law 263 = .ok (.iconst 2, 1) := by decide +kernel
theorem dL_law_264 : decode cL_law 264 = .ok (.iadd, 1) := by decide +kernel
theorem dL_law_265 : decode cL_law 265 = .ok (.iaload, 1) := by decide +kernel
theorem dL_law_266 : decode cL_law 266 = .ok (.aload_n 0, 1) := by decide +kernel
theorem dL_law_267 : decode cL_law 267 = .ok (.iload 4, 2) := by decide +kernel
theorem dL_law_269 : decode cL_law 269 = .ok (.iconst 3, 1) := by decide +kernel
theorem dL_law_270 : decode cL_law 270 = .ok (.iadd, 1) := by decide +kernel
theorem dL_law_271 : decode cL_law 271 = .ok (.iaload, 1) := by decide +kernel
theorem dL_law_272 : decode cL_law 272 = .ok (.invokevirtual 31, 3) := by decide +kernel
theorem dL_law_275 : decode cL_law 275 = .ok (.aload_n 2, 1) := by decide +kernel
theorem dL_law_276 : decode cL_law 276 = .ok (.aload_n 0, 1) := by decide +kernel
theorem dL_law_277 : decode cL_law 277 = .ok (.iload 4, 2) := by decide +kernel
theorem dL_law_279 : decode cL_law 279 = .ok (.iconst 1, 1) := by decide +kernel
theorem dL_law_280 : decode cL_law 280 = .ok (.iadd, 1) := by decide +kernel
theorem dL_law_281 : decode cL_law 281 = .ok (.iaload, 1) := by decide +kernel
theorem dL_law_282 : decode cL_law 282 = .ok (.aload_n 0, 1) := by decide +kernel
theorem dL_law_283 : decode cL_law 283 = .ok (.iload 4, 2) := by decide +kernel
theorem dL_law_285 : decode cL_law 285 = .ok (.iconst 2, 1) := by decide +kernel
theorem dL_law_286 : decode cL_law 286 = .ok (.iadd, 1) := by decide +kernel
theorem dL_law_287 : decode cL_law 287 = .ok (.iaload, 1) := by decide +kernel
theorem dL_law_288 : decode cL_law 288 = .ok (.aload_n 0, 1) := by decide +kernel
theorem dL_law_289 : decode cL_law 289 = .ok (.iload 4, 2) := by decide +kernel
theorem dL_law_291 : decode cL_law 291 = .ok (.iconst 3, 1) := by decide +kernel
theorem dL_law_292 : decode cL_law 292 = .ok (.iadd, 1) := by decide +kernel
theorem dL_law_293 : decode cL_law 293 = .ok (.iaload, 1) := by decide +kernel
theorem dL_law_294 : decode cL_law 294 = .ok (.invokevirtual 35, 3) := by decide +kernel
theorem dL_law_297 : decode cL_law 297 = .ok (.if_icmp .eq 1678, 3) := by decide +kernel
theorem dL_law_300 : decode cL_law 300 = .ok (.iconst 0, 1) := by decide +kernel
theorem dL_law_301 : decode cL_law 301 = .ok (.ireturn, 1) := by decide +kernel
theorem dL_law_302 : decode cL_law 302 = .ok (.aload_n 1, 1) := by decide +kernel
theorem dL_law_303 : decode cL_law 303 = .ok (.aload_n 0, 1) := by decide +kernel
theorem dL_law_304 : decode cL_law 304 = .ok (.iload 4, 2) := by decide +kernel
theorem dL_law_306 : decode cL_law 306 = .ok (.iconst 1, 1) := by decide +kernel
theorem dL_law_307 : decode cL_law 307 = .ok (.iadd, 1) := by decide +kernel
theorem dL_law_308 : decode cL_law 308 = .ok (.iaload, 1) := by decide +kernel
theorem dL_law_309 : decode cL_law 309 = .ok (.aload_n 0, 1) := by decide +kernel
theorem dL_law_310 : decode cL_law 310 = .ok (.iload 4, 2) := by decide +kernel
theorem dL_law_312 : decode cL_law 312 = .ok (.iconst 2, 1) := by decide +kernel
theorem dL_law_313 : decode cL_law 313 = .ok (.iadd, 1) := by decide +kernel
theorem dL_law_314 : decode cL_law 314 = .ok (.iaload, 1) := by decide +kernel
theorem dL_law_315 : decode cL_law 315 = .ok (.aload_n 0, 1) := by decide +kernel
theorem dL_law_316 : decode cL_law 316 = .ok (.iload 4, 2) := by decide +kernel
theorem dL_law_318 : decode cL_law 318 = .ok (.iconst 3, 1) := by decide +kernel
theorem dL_law_319 : decode cL_law 319 = .ok (.iadd, 1) := by decide +kernel
theorem dL_law_320 : decode cL_law 320 = .ok (.iaload, 1) := by decide +kernel
theorem dL_law_321 : decode cL_law 321 = .ok (.invokevirtual 36, 3) := by decide +kernel
theorem dL_law_324 : decode cL_law 324 = .ok (.aload_n 2, 1) := by decide +kernel
theorem dL_law_325 : decode cL_law 325 = .ok (.aload_n 0, 1) := by decide +kernel
theorem dL_law_326 : decode cL_law 326 = .ok (.iload 4, 2) := by decide +kernel
theorem dL_law_328 : decode cL_law 328 = .ok (.iconst 1, 1) := by decide +kernel
theorem dL_law_329 : decode cL_law 329 = .ok (.iadd, 1) := by decide +kernel
theorem dL_law_330 : decode cL_law 330 = .ok (.iaload, 1) := by decide +kernel
theorem dL_law_331 : decode cL_law 331 = .ok (.aload_n 0, 1) := by decide +kernel
theorem dL_law_332 : decode cL_law 332 = .ok (.iload 4, 2) := by decide +kernel
theorem dL_law_334 : decode cL_law 334 = .ok (.iconst 2, 1) := by decide +kernel
theorem dL_law_335 : decode cL_law 335 = .ok (.iadd, 1) := by decide +kernel
theorem dL_law_336 : decode cL_law 336 = .ok (.iaload, 1) := by decide +kernel
theorem dL_law_337 : decode cL_law 337 = .ok (.aload_n 0, 1) := by decide +kernel
theorem dL_law_338 : decode cL_law 338 = .ok (.iload 4, 2) := by decide +kernel
theorem dL_law_340 : decode cL_law 340 = .ok (.iconst 3, 1) := by decide +kernel
theorem dL_law_341 : decode cL_law 341 = .ok (.iadd, 1) := by decide +kernel
theorem dL_law_342 : decode cL_law 342 = .ok (.iaload, 1) := by decide +kernel
theorem dL_law_343 : decode cL_law 343 = .ok (.invokevirtual 40, 3) := by decide +kernel
theorem dL_law_346 : decode cL_law 346 = .ok (.if_icmp .eq 1629, 3) := by decide +kernel
theorem dL_law_349 : decode cL_law 349 = .ok (.iconst 0, 1) := by decide +kernel
theorem dL_law_350 : decode cL_law 350 = .ok (.ireturn, 1) := by decide +kernel
theorem dL_law_351 : decode cL_law 351 = .ok (.aload_n 1, 1) := by decide +kernel
theorem dL_law_352 : decode cL_law 352 = .ok (.aload_n 0, 1) := by decide +kernel
theorem dL_law_353 : decode cL_law 353 = .ok (.iload 4, 2) := by decide +kernel
theorem dL_law_355 : decode cL_law 355 = .ok (.iconst 1, 1) := by decide +kernel
theorem dL_law_356 : decode cL_law 356 = .ok (.iadd, 1) := by decide +kernel
theorem dL_law_357 : decode cL_law 357 = .ok (.iaload, 1) := by decide +kernel
theorem dL_law_358 : decode cL_law 358 = .ok (.aload_n 0, 1) := by decide +kernel
theorem dL_law_359 : decode cL_law 359 = .ok (.iload 4, 2) := by decide +kernel
theorem dL_law_361 : decode cL_law 361 = .ok (.iconst 2, 1) := by decide +kernel
theorem dL_law_362 : decode cL_law 362 = .ok (.iadd, 1) := by decide +kernel
theorem dL_law_363 : decode cL_law 363 = .ok (.iaload, 1) := by decide +kernel
theorem dL_law_364 : decode cL_law 364 = .ok (.invokevirtual 41, 3) := by decide +kernel
theorem dL_law_367 : decode cL_law 367 = .ok (.aload_n 2, 1) := by decide +kernel
theorem dL_law_368 : decode cL_law 368 = .ok (.aload_n 0, 1) := by decide +kernel
theorem dL_law_369 : decode cL_law 369 = .ok (.iload 4, 2) := by decide +kernel
theorem dL_law_371 : decode cL_law 371 = .ok (.iconst 1, 1) := by decide +kernel
theorem dL_law_372 : decode cL_law 372 = .ok (.iadd, 1) := by decide +kernel
theorem dL_law_373 : decode cL_law 373 = .ok (.iaload, 1) := by decide +kernel
theorem dL_law_374 : decode cL_law 374 = .ok (.aload_n 0, 1) := by decide +kernel
theorem dL_law_375 : decode cL_law 375 = .ok (.iload 4, 2) := by decide +kernel
theorem dL_law_377 : decode cL_law 377 = .ok (.iconst 2, 1) := by decide +kernel
theorem dL_law_378 : decode cL_law 378 = .ok (.iadd, 1) := by decide +kernel
theorem dL_law_379 : decode cL_law 379 = .ok (.iaload, 1) := by decide +kernel
theorem dL_law_380 : decode cL_law 380 = .ok (.invokevirtual 44, 3) := by decide +kernel
theorem dL_law_383 : decode cL_law 383 = .ok (.if_icmp .eq 1592, 3) := by decide +kernel
theorem dL_law_386 : decode cL_law 386 = .ok (.iconst 0, 1) := by decide +kernel
theorem dL_law_387 : decode cL_law 387 = .ok (.ireturn, 1) := by decide +kernel
theorem dL_law_388 : decode cL_law 388 = .ok (.aload_n 1, 1) := by decide +kernel
theorem dL_law_389 : decode cL_law 389 = .ok (.aload_n 0, 1) := by decide +kernel
theorem dL_law_390 : decode cL_law 390 = .ok (.iload 4, 2) := by decide +kernel
theorem dL_law_392 : decode cL_law 392 = .ok (.iconst 1, 1) := by decide +kernel
theorem dL_law_393 : decode cL_law 393 = .ok (.iadd, 1) := by decide +kernel
theorem dL_law_394 : decode cL_law 394 = .ok (.iaload, 1) := by decide +kernel
theorem dL_law_395 : decode cL_law 395 = .ok (.aload_n 0, 1) := by decide +kernel
theorem dL_law_396 : decode cL_law 396 = .ok (.iload 4, 2) := by decide +kernel
theorem dL_law_398 : decode cL_law 398 = .ok (.iconst 2, 1) := by decide +kernel
theorem dL_law_399 : decode cL_law 399 = .ok (.iadd, 1) := by decide +kernel
theorem dL_law_400 : decode cL_law 400 = .ok (.iaload, 1) := by decide +kernel
theorem dL_law_401 : decode cL_law 401 = .ok (.aload_n 0, 1) := by decide +kernel
theorem dL_law_402 : decode cL_law 402 = .ok (.iload 4, 2) := by decide +kernel
theorem dL_law_404 : decode cL_law 404 = .ok (.iconst 3, 1) := by decide +kernel
theorem dL_law_405 : decode cL_law 405 = .ok (.iadd, 1) := by decide +kernel
theorem dL_law_406 : decode cL_law 406 = .ok (.iaload, 1) := by decide +kernel
theorem dL_law_407 : decode cL_law 407 = .ok (.invokevirtual 45, 3) := by decide +kernel
theorem dL_law_410 : decode cL_law 410 = .ok (.aload_n 2, 1) := by decide +kernel
theorem dL_law_411 : decode cL_law 411 = .ok (.aload_n 0, 1) := by decide +kernel
theorem dL_law_412 : decode cL_law 412 = .ok (.iload 4, 2) := by decide +kernel
theorem dL_law_414 : decode cL_law 414 = .ok (.iconst 1, 1) := by decide +kernel
theorem dL_law_415 : decode cL_law 415 = .ok (.iadd, 1) := by decide +kernel
theorem dL_law_416 : decode cL_law 416 = .ok (.iaload, 1) := by decide +kernel
theorem dL_law_417 : decode cL_law 417 = .ok (.aload_n 0, 1) := by decide +kernel
theorem dL_law_418 : decode cL_law 418 = .ok (.iload 4, 2) := by decide +kernel
theorem dL_law_420 : decode cL_law 420 = .ok (.iconst 2, 1) := by decide +kernel
theorem dL_law_421 : decode cL_law 421 = .ok (.iadd, 1) := by decide +kernel
theorem dL_law_422 : decode cL_law 422 = .ok (.iaload, 1) := by decide +kernel
theorem dL_law_423 : decode cL_law 423 = .ok (.aload_n 0, 1) := by decide +kernel
theorem dL_law_424 : decode cL_law 424 = .ok (.iload 4, 2) := by decide +kernel
theorem dL_law_426 : decode cL_law 426 = .ok (.iconst 3, 1) := by decide +kernel
theorem dL_law_427 : decode cL_law 427 = .ok (.iadd, 1) := by decide +kernel
theorem dL_law_428 : decode cL_law 428 = .ok (.iaload, 1) := by decide +kernel
theorem dL_law_429 : decode cL_law 429 = .ok (.invokevirtual 48, 3) := by decide +kernel
theorem dL_law_432 : decode cL_law 432 = .ok (.if_icmp .eq 1543, 3) := by decide +kernel
theorem dL_law_435 : decode cL_law 435 = .ok (.iconst 0, 1) := by decide +kernel
theorem dL_law_436 : decode cL_law 436 = .ok (.ireturn, 1) := by decide +kernel
theorem dL_law_437 : decode cL_law 437 = .ok (.aload_n 1, 1) := by decide +kernel
theorem dL_law_438 : decode cL_law 438 = .ok (.aload_n 0, 1) := by decide +kernel
theorem dL_law_439 : decode cL_law 439 = .ok (.iload 4, 2) := by decide +kernel
theorem dL_law_441 : decode cL_law 441 = .ok (.iconst 1, 1) := by decide +kernel
theorem dL_law_442 : decode cL_law 442 = .ok (.iadd, 1) := by decide +kernel
theorem dL_law_443 : decode cL_law 443 = .ok (.iaload, 1) := by decide +kernel
theorem dL_law_444 : decode cL_law 444 = .ok (.aload_n 0, 1) := by decide +kernel
theorem dL_law_445 : decode cL_law 445 = .ok (.iload 4, 2) := by decide +kernel
theorem dL_law_447 : decode cL_law 447 = .ok (.iconst 2, 1) := by decide +kernel
theorem dL_law_448 : decode cL_law 448 = .ok (.iadd, 1) := by decide +kernel
theorem dL_law_449 : decode cL_law 449 = .ok (.iaload, 1) := by decide +kernel
theorem dL_law_450 : decode cL_law 450 = .ok (.aload_n 0, 1) := by decide +kernel
theorem dL_law_451 : decode cL_law 451 = .ok (.iload 4, 2) := by decide +kernel
theorem dL_law_453 : decode cL_law 453 = .ok (.iconst 3, 1) := by decide +kernel
theorem dL_law_454 : decode cL_law 454 = .ok (.iadd, 1) := by decide +kernel
theorem dL_law_455 : decode cL_law 455 = .ok (.iaload, 1) := by decide +kernel
theorem dL_law_456 : decode cL_law 456 = .ok (.aload_n 0, 1) := by decide +kernel
theorem dL_law_457 : decode cL_law 457 = .ok (.iload 4, 2) := by decide +kernel
theorem dL_law_459 : decode cL_law 459 = .ok (.iconst 4, 1) := by decide +kernel
theorem dL_law_460 : decode cL_law 460 = .ok (.iadd, 1) := by decide +kernel
theorem dL_law_461 : decode cL_law 461 = .ok (.iaload, 1) := by decide +kernel
theorem dL_law_462 : decode cL_law 462 = .ok (.invokevirtual 49, 3) := by decide +kernel
theorem dL_law_465 : decode cL_law 465 = .ok (.aload_n 2, 1) := by decide +kernel
theorem dL_law_466 : decode cL_law 466 = .ok (.aload_n 0, 1) := by decide +kernel
theorem dL_law_467 : decode cL_law 467 = .ok (.iload 4, 2) := by decide +kernel
theorem dL_law_469 : decode cL_law 469 = .ok (.iconst 1, 1) := by decide +kernel
theorem dL_law_470 : decode cL_law 470 = .ok (.iadd, 1) := by decide +kernel
theorem dL_law_471 : decode cL_law 471 = .ok (.iaload, 1) := by decide +kernel
theorem dL_law_472 : decode cL_law 472 = .ok (.aload_n 0, 1) := by decide +kernel
theorem dL_law_473 : decode cL_law 473 = .ok (.iload 4, 2) := by decide +kernel
theorem dL_law_475 : decode cL_law 475 = .ok (.iconst 2, 1) := by decide +kernel
theorem dL_law_476 : decode cL_law 476 = .ok (.iadd, 1) := by decide +kernel
theorem dL_law_477 : decode cL_law 477 = .ok (.iaload, 1) := by decide +kernel
theorem dL_law_478 : decode cL_law 478 = .ok (.aload_n 0, 1) := by decide +kernel
theorem dL_law_479 : decode cL_law 479 = .ok (.iload 4, 2) := by decide +kernel
theorem dL_law_481 : decode cL_law 481 = .ok (.iconst 3, 1) := by decide +kernel
theorem dL_law_482 : decode cL_law 482 = .ok (.iadd, 1) := by decide +kernel
theorem dL_law_483 : decode cL_law 483 = .ok (.iaload, 1) := by decide +kernel
theorem dL_law_484 : decode cL_law 484 = .ok (.aload_n 0, 1) := by decide +kernel
theorem dL_law_485 : decode cL_law 485 = .ok (.iload 4, 2) := by decide +kernel
theorem dL_law_487 : decode cL_law 487 = .ok (.iconst 4, 1) := by decide +kernel
theorem dL_law_488 : decode cL_law 488 = .ok (.iadd, 1) := by decide +kernel
theorem dL_law_489 : decode cL_law 489 = .ok (.iaload, 1) := by decide +kernel
theorem dL_law_490 : decode cL_law 490 = .ok (.invokevirtual 53, 3) := by decide +kernel
theorem dL_law_493 : decode cL_law 493 = .ok (.if_icmp .eq 1482, 3) := by decide +kernel
theorem dL_law_496 : decode cL_law 496 = .ok (.iconst 0, 1) := by decide +kernel
theorem dL_law_497 : decode cL_law 497 = .ok (.ireturn, 1) := by decide +kernel
theorem dL_law_498 : decode cL_law 498 = .ok (.aload_n 1, 1) := by decide +kernel
theorem dL_law_499 : decode cL_law 499 = .ok (.aload_n 0, 1) := by decide +kernel
theorem dL_law_500 : decode cL_law 500 = .ok (.iload 4, 2) := by decide +kernel
theorem dL_law_502 : decode cL_law 502 = .ok (.iconst 1, 1) := by decide +kernel
theorem dL_law_503 : decode cL_law 503 = .ok (.iadd, 1) := by decide +kernel
theorem dL_law_504 : decode cL_law 504 = .ok (.iaload, 1) := by decide +kernel
theorem dL_law_505 : decode cL_law 505 = .ok (.aload_n 0, 1) := by decide +kernel
theorem dL_law_506 : decode cL_law 506 = .ok (.iload 4, 2) := by decide +kernel
theorem dL_law_508 : decode cL_law 508 = .ok (.iconst 2, 1) := by decide +kernel
theorem dL_law_509 : decode cL_law 509 = .ok (.iadd, 1) := by decide +kernel
theorem dL_law_510 : decode cL_law 510 = .ok (.iaload, 1) := by decide +kernel
theorem dL_law_511 : decode cL_law 511 = .ok (.aload_n 0, 1) := by decide +kernel
theorem dL_law_512 : decode cL_law 512 = .ok (.iload 4, 2) := by decide +kernel
theorem dL_law_514 : decode cL_law 514 = .ok (.iconst 3, 1) := by decide +kernel
theorem dL_law_515 : decode cL_law 515 = .ok (.iadd, 1) := by decide +kernel
theorem dL_law_516 : decode cL_law 516 = .ok (.iaload, 1) := by decide +kernel
theorem dL_law_517 : decode cL_law 517 = .ok (.aload_n 0, 1) := by decide +kernel
theorem dL_law_518 : decode cL_law 518 = .ok (.iload 4, 2) := by decide +kernel
theorem dL_law_520 : decode cL_law 520 = .ok (.iconst 4, 1) := by decide +kernel
theorem dL_law_521 : decode cL_law 521 = .ok (.iadd, 1) := by decide +kernel
theorem dL_law_522 : decode cL_law 522 = .ok (.iaload, 1) := by decide +kernel
theorem dL_law_523 : decode cL_law 523 = .ok (.aload_n 0, 1) := by decide +kernel
theorem dL_law_524 : decode cL_law 524 = .ok (.iload 4, 2) := by decide +kernel
theorem dL_law_526 : decode cL_law 526 = .ok (.iconst 5, 1) := by decide +kernel
theorem dL_law_527 : decode cL_law 527 = .ok (.iadd, 1) := by decide +kernel
theorem dL_law_528 : decode cL_law 528 = .ok (.iaload, 1) := by decide +kernel
theorem dL_law_529 : decode cL_law 529 = .ok (.aload_n 0, 1) := by decide +kernel
theorem dL_law_530 : decode cL_law 530 = .ok (.iload 4, 2) := by decide +kernel
theorem dL_law_532 : decode cL_law 532 = .ok (.bipush 6, 2) := by decide +kernel
theorem dL_law_534 : decode cL_law 534 = .ok (.iadd, 1) := by decide +kernel
theorem dL_law_535 : decode cL_law 535 = .ok (.iaload, 1) := by decide +kernel
theorem dL_law_536 : decode cL_law 536 = .ok (.invokevirtual 54, 3) := by decide +kernel
theorem dL_law_539 : decode cL_law 539 = .ok (.aload_n 2, 1) := by decide +kernel
theorem dL_law_540 : decode cL_law 540 = .ok (.aload_n 0, 1) := by decide +kernel
theorem dL_law_541 : decode cL_law 541 = .ok (.iload 4, 2) := by decide +kernel
theorem dL_law_543 : decode cL_law 543 = .ok (.iconst 1, 1) := by decide +kernel
theorem dL_law_544 : decode cL_law 544 = .ok (.iadd, 1) := by decide +kernel
theorem dL_law_545 : decode cL_law 545 = .ok (.iaload, 1) := by decide +kernel
theorem dL_law_546 : decode cL_law 546 = .ok (.aload_n 0, 1) := by decide +kernel
theorem dL_law_547 : decode cL_law 547 = .ok (.iload 4, 2) := by decide +kernel
theorem dL_law_549 : decode cL_law 549 = .ok (.iconst 2, 1) := by decide +kernel
theorem dL_law_550 : decode cL_law 550 = .ok (.iadd, 1) := by decide +kernel
theorem dL_law_551 : decode cL_law 551 = .ok (.iaload, 1) := by decide +kernel
theorem dL_law_552 : decode cL_law 552 = .ok (.aload_n 0, 1) := by decide +kernel
theorem dL_law_553 : decode cL_law 553 = .ok (.iload 4, 2) := by decide +kernel
theorem dL_law_555 : decode cL_law 555 = .ok (.iconst 3, 1) := by decide +kernel
theorem dL_law_556 : decode cL_law 556 = .ok (.iadd, 1) := by decide +kernel
theorem dL_law_557 : decode cL_law 557 = .ok (.iaload, 1) := by decide +kernel
theorem dL_law_558 : decode cL_law 558 = .ok (.aload_n 0, 1) := by decide +kernel
theorem dL_law_559 : decode cL_law 559 = .ok (.iload 4, 2) := by decide +kernel
theorem dL_law_561 : decode cL_law 561 = .ok (.iconst 4, 1) := by decide +kernel
theorem dL_law_562 : decode cL_law 562 = .ok (.iadd, 1) := by decide +kernel
theorem dL_law_563 : decode cL_law 563 = .ok (.iaload, 1) := by decide +kernel
theorem dL_law_564 : decode cL_law 564 = .ok (.aload_n 0, 1) := by decide +kernel
theorem dL_law_565 : decode cL_law 565 = .ok (.iload 4, 2) := by decide +kernel
theorem dL_law_567 : decode cL_law 567 = .ok (.iconst 5, 1) := by decide +kernel
theorem dL_law_568 : decode cL_law 568 = .ok (.iadd, 1) := by decide +kernel
theorem dL_law_569 : decode cL_law 569 = .ok (.iaload, 1) := by decide +kernel
theorem dL_law_570 : decode cL_law 570 = .ok (.aload_n 0, 1) := by decide +kernel
theorem dL_law_571 : decode cL_law 571 = .ok (.iload 4, 2) := by decide +kernel
theorem dL_law_573 : decode cL_law 573 = .ok (.bipush 6, 2) := by decide +kernel
theorem dL_law_575 : decode cL_law 575 = .ok (.iadd, 1) := by decide +kernel
theorem dL_law_576 : decode cL_law 576 = .ok (.iaload, 1) := by decide +kernel
theorem dL_law_577 : decode cL_law 577 = .ok (.invokevirtual 58, 3) := by decide +kernel
theorem dL_law_580 : decode cL_law 580 = .ok (.if_icmp .eq 1395, 3) := by decide +kernel
theorem dL_law_583 : decode cL_law 583 = .ok (.iconst 0, 1) := by decide +kernel
theorem dL_law_584 : decode cL_law 584 = .ok (.ireturn, 1) := by decide +kernel
theorem dL_law_585 : decode cL_law 585 = .ok (.aload_n 1, 1) := by decide +kernel
theorem dL_law_586 : decode cL_law 586 = .ok (.aload_n 0, 1) := by decide +kernel
theorem dL_law_587 : decode cL_law 587 = .ok (.iload 4, 2) := by decide +kernel
theorem dL_law_589 : decode cL_law 589 = .ok (.iconst 1, 1) := by decide +kernel
theorem dL_law_590 : decode cL_law 590 = .ok (.iadd, 1) := by decide +kernel
theorem dL_law_591 : decode cL_law 591 = .ok (.iaload, 1) := by decide +kernel
theorem dL_law_592 : decode cL_law 592 = .ok (.aload_n 0, 1) := by decide +kernel
theorem dL_law_593 : decode cL_law 593 = .ok (.iload 4, 2) := by decide +kernel
theorem dL_law_595 : decode cL_law 595 = .ok (.iconst 2, 1) := by decide +kernel
theorem dL_law_596 : decode cL_law 596 = .ok (.iadd, 1) := by decide +kernel
theorem dL_law_597 : decode cL_law 597 = .ok (.iaload, 1) := by decide +kernel
theorem dL_law_598 : decode cL_law 598 = .ok (.aload_n 0, 1) := by decide +kernel
theorem dL_law_599 : decode cL_law 599 = .ok (.iload 4, 2) := by decide +kernel
theorem dL_law_601 : decode cL_law 601 = .ok (.iconst 3, 1) := by decide +kernel
theorem dL_law_602 : decode cL_law 602 = .ok (.iadd, 1) := by decide +kernel
theorem dL_law_603 : decode cL_law 603 = .ok (.iaload, 1) := by decide +kernel
theorem dL_law_604 : decode cL_law 604 = .ok (.invokevirtual 59, 3) := by decide +kernel
theorem dL_law_607 : decode cL_law 607 = .ok (.aload_n 2, 1) := by decide +kernel
theorem dL_law_608 : decode cL_law 608 = .ok (.aload_n 0, 1) := by decide +kernel
theorem dL_law_609 : decode cL_law 609 = .ok (.iload 4, 2) := by decide +kernel
theorem dL_law_611 : decode cL_law 611 = .ok (.iconst 1, 1) := by decide +kernel
theorem dL_law_612 : decode cL_law 612 = .ok (.iadd, 1) := by decide +kernel
theorem dL_law_613 : decode cL_law 613 = .ok (.iaload, 1) := by decide +kernel
theorem dL_law_614 : decode cL_law 614 = .ok (.aload_n 0, 1) := by decide +kernel
theorem dL_law_615 : decode cL_law 615 = .ok (.iload 4, 2) := by decide +kernel
theorem dL_law_617 : decode cL_law 617 = .ok (.iconst 2, 1) := by decide +kernel
theorem dL_law_618 : decode cL_law 618 = .ok (.iadd, 1) := by decide +kernel
theorem dL_law_619 : decode cL_law 619 = .ok (.iaload, 1) := by decide +kernel
theorem dL_law_620 : decode cL_law 620 = .ok (.aload_n 0, 1) := by decide +kernel
theorem dL_law_621 : decode cL_law 621 = .ok (.iload 4, 2) := by decide +kernel
theorem dL_law_623 : decode cL_law 623 = .ok (.iconst 3, 1) := by decide +kernel
theorem dL_law_624 : decode cL_law 624 = .ok (.iadd, 1) := by decide +kernel
theorem dL_law_625 : decode cL_law 625 = .ok (.iaload, 1) := by decide +kernel
theorem dL_law_626 : decode cL_law 626 = .ok (.invokevirtual 62, 3) := by decide +kernel
theorem dL_law_629 : decode cL_law 629 = .ok (.if_icmp .eq 1346, 3) := by decide +kernel
theorem dL_law_632 : decode cL_law 632 = .ok (.iconst 0, 1) := by decide +kernel
theorem dL_law_633 : decode cL_law 633 = .ok (.ireturn, 1) := by decide +kernel
theorem dL_law_634 : decode cL_law 634 = .ok (.aload_n 1, 1) := by decide +kernel
theorem dL_law_635 : decode cL_law 635 = .ok (.aload_n 0, 1) := by decide +kernel
theorem dL_law_636 : decode cL_law 636 = .ok (.iload 4, 2) := by decide +kernel
theorem dL_law_638 : decode cL_law 638 = .ok (.iconst 1, 1) := by decide +kernel
theorem dL_law_639 : decode cL_law 639 = .ok (.iadd, 1) := by decide +kernel
theorem dL_law_640 : decode cL_law 640 = .ok (.iaload, 1) := by decide +kernel
theorem dL_law_641 : decode cL_law 641 = .ok (.aload_n 0, 1) := by decide +kernel
theorem dL_law_642 : decode cL_law 642 = .ok (.iload 4, 2) := by decide +kernel
theorem dL_law_644 : decode cL_law 644 = .ok (.iconst 2, 1) := by decide +kernel
theorem dL_law_645 : decode cL_law 645 = .ok (.iadd, 1) := by decide +kernel
theorem dL_law_646 : decode cL_law 646 = .ok (.iaload, 1) := by decide +kernel
theorem dL_law_647 : decode cL_law 647 = .ok (.aload_n 0, 1) := by decide +kernel
theorem dL_law_648 : decode cL_law 648 = .ok (.iload 4, 2) := by decide +kernel
theorem dL_law_650 : decode cL_law 650 = .ok (.iconst 3, 1) := by decide +kernel
theorem dL_law_651 : decode cL_law 651 = .ok (.iadd, 1) := by decide +kernel
theorem dL_law_652 : decode cL_law 652 = .ok (.iaload, 1) := by decide +kernel
theorem dL_law_653 : decode cL_law 653 = .ok (.aload_n 0, 1) := by decide +kernel
theorem dL_law_654 : decode cL_law 654 = .ok (.iload 4, 2) := by decide +kernel
theorem dL_law_656 : decode cL_law 656 = .ok (.iconst 4, 1) := by decide +kernel
theorem dL_law_657 : decode cL_law 657 = .ok (.iadd, 1) := by decide +kernel
theorem dL_law_658 : decode cL_law 658 = .ok (.iaload, 1) := by decide +kernel
theorem dL_law_659 : decode cL_law 659 = .ok (.invokevirtual 63, 3) := by decide +kernel
theorem dL_law_662 : decode cL_law 662 = .ok (.aload_n 2, 1) := by decide +kernel
theorem dL_law_663 : decode cL_law 663 = .ok (.aload_n 0, 1) := by decide +kernel
theorem dL_law_664 : decode cL_law 664 = .ok (.iload 4, 2) := by decide +kernel
theorem dL_law_666 : decode cL_law 666 = .ok (.iconst 1, 1) := by decide +kernel
theorem dL_law_667 : decode cL_law 667 = .ok (.iadd, 1) := by decide +kernel
theorem dL_law_668 : decode cL_law 668 = .ok (.iaload, 1) := by decide +kernel
theorem dL_law_669 : decode cL_law 669 = .ok (.aload_n 0, 1) := by decide +kernel
theorem dL_law_670 : decode cL_law 670 = .ok (.iload 4, 2) := by decide +kernel
theorem dL_law_672 : decode cL_law 672 = .ok (.iconst 2, 1) := by decide +kernel
theorem dL_law_673 : decode cL_law 673 = .ok (.iadd, 1) := by decide +kernel
theorem dL_law_674 : decode cL_law 674 = .ok (.iaload, 1) := by decide +kernel
theorem dL_law_675 : decode cL_law 675 = .ok (.aload_n 0, 1) := by decide +kernel
theorem dL_law_676 : decode cL_law 676 = .ok (.iload 4, 2) := by decide +kernel
theorem dL_law_678 : decode cL_law 678 = .ok (.iconst 3, 1) := by decide +kernel
theorem dL_law_679 : decode cL_law 679 = .ok (.iadd, 1) := by decide +kernel
theorem dL_law_680 : decode cL_law 680 = .ok (.iaload, 1) := by decide +kernel
theorem dL_law_681 : decode cL_law 681 = .ok (.aload_n 0, 1) := by decide +kernel
theorem dL_law_682 : decode cL_law 682 = .ok (.iload 4, 2) := by decide +kernel
theorem dL_law_684 : decode cL_law 684 = .ok (.iconst 4, 1) := by decide +kernel
theorem dL_law_685 : decode cL_law 685 = .ok (.iadd, 1) := by decide +kernel
theorem dL_law_686 : decode cL_law 686 = .ok (.iaload, 1) := by decide +kernel
theorem dL_law_687 : decode cL_law 687 = .ok (.invokevirtual 66, 3) := by decide +kernel
theorem dL_law_690 : decode cL_law 690 = .ok (.if_icmp .eq 1285, 3) := by decide +kernel
theorem dL_law_693 : decode cL_law 693 = .ok (.iconst 0, 1) := by decide +kernel
theorem dL_law_694 : decode cL_law 694 = .ok (.ireturn, 1) := by decide +kernel
theorem dL_law_695 : decode cL_law 695 = .ok (.aload_n 1, 1) := by decide +kernel
theorem dL_law_696 : decode cL_law 696 = .ok (.aload_n 0, 1) := by decide +kernel
theorem dL_law_697 : decode cL_law 697 = .ok (.iload 4, 2) := by decide +kernel
theorem dL_law_699 : decode cL_law 699 = .ok (.iconst 1, 1) := by decide +kernel
theorem dL_law_700 : decode cL_law 700 = .ok (.iadd, 1) := by decide +kernel
theorem dL_law_701 : decode cL_law 701 = .ok (.iaload, 1) := by decide +kernel
theorem dL_law_702 : decode cL_law 702 = .ok (.aload_n 0, 1) := by decide +kernel
theorem dL_law_703 : decode cL_law 703 = .ok (.iload 4, 2) := by decide +kernel
theorem dL_law_705 : decode cL_law 705 = .ok (.iconst 2, 1) := by decide +kernel
theorem dL_law_706 : decode cL_law 706 = .ok (.iadd, 1) := by decide +kernel
theorem dL_law_707 : decode cL_law 707 = .ok (.iaload, 1) := by decide +kernel
theorem dL_law_708 : decode cL_law 708 = .ok (.aload_n 0, 1) := by decide +kernel
theorem dL_law_709 : decode cL_law 709 = .ok (.iload 4, 2) := by decide +kernel
theorem dL_law_711 : decode cL_law 711 = .ok (.iconst 3, 1) := by decide +kernel
theorem dL_law_712 : decode cL_law 712 = .ok (.iadd, 1) := by decide +kernel
theorem dL_law_713 : decode cL_law 713 = .ok (.iaload, 1) := by decide +kernel
theorem dL_law_714 : decode cL_law 714 = .ok (.aload_n 0, 1) := by decide +kernel
theorem dL_law_715 : decode cL_law 715 = .ok (.iload 4, 2) := by decide +kernel
theorem dL_law_717 : decode cL_law 717 = .ok (.iconst 4, 1) := by decide +kernel
theorem dL_law_718 : decode cL_law 718 = .ok (.iadd, 1) := by decide +kernel
theorem dL_law_719 : decode cL_law 719 = .ok (.iaload, 1) := by decide +kernel
theorem dL_law_720 : decode cL_law 720 = .ok (.invokevirtual 67, 3) := by decide +kernel
theorem dL_law_723 : decode cL_law 723 = .ok (.aload_n 2, 1) := by decide +kernel
theorem dL_law_724 : decode cL_law 724 = .ok (.aload_n 0, 1) := by decide +kernel
theorem dL_law_725 : decode cL_law 725 = .ok (.iload 4, 2) := by decide +kernel
theorem dL_law_727 : decode cL_law 727 = .ok (.iconst 1, 1) := by decide +kernel
theorem dL_law_728 : decode cL_law 728 = .ok (.iadd, 1) := by decide +kernel
theorem dL_law_729 : decode cL_law 729 = .ok (.iaload, 1) := by decide +kernel
theorem dL_law_730 : decode cL_law 730 = .ok (.aload_n 0, 1) := by decide +kernel
theorem dL_law_731 : decode cL_law 731 = .ok (.iload 4, 2) := by decide +kernel
theorem dL_law_733 : decode cL_law 733 = .ok (.iconst 2, 1) := by decide +kernel
theorem dL_law_734 : decode cL_law 734 = .ok (.iadd, 1) := by decide +kernel
theorem dL_law_735 : decode cL_law 735 = .ok (.iaload, 1) := by decide +kernel
theorem dL_law_736 : decode cL_law 736 = .ok (.aload_n 0, 1) := by decide +kernel
theorem dL_law_737 : decode cL_law 737 = .ok (.iload 4, 2) := by decide +kernel
theorem dL_law_739 : decode cL_law 739 = .ok (.iconst 3, 1) := by decide +kernel
theorem dL_law_740 : decode cL_law 740 = .ok (.iadd, 1) := by decide +kernel
theorem dL_law_741 : decode cL_law 741 = .ok (.iaload, 1) := by decide +kernel
theorem dL_law_742 : decode cL_law 742 = .ok (.aload_n 0, 1) := by decide +kernel
theorem dL_law_743 : decode cL_law 743 = .ok (.iload 4, 2) := by decide +kernel
theorem dL_law_745 : decode cL_law 745 = .ok (.iconst 4, 1) := by decide +kernel
theorem dL_law_746 : decode cL_law 746 = .ok (.iadd, 1) := by decide +kernel
theorem dL_law_747 : decode cL_law 747 = .ok (.iaload, 1) := by decide +kernel
theorem dL_law_748 : decode cL_law 748 = .ok (.invokevirtual 70, 3) := by decide +kernel
theorem dL_law_751 : decode cL_law 751 = .ok (.if_icmp .eq 1224, 3) := by decide +kernel
theorem dL_law_754 : decode cL_law 754 = .ok (.iconst 0, 1) := by decide +kernel
theorem dL_law_755 : decode cL_law 755 = .ok (.ireturn, 1) := by decide +kernel
theorem dL_law_756 : decode cL_law 756 = .ok (.aload_n 1, 1) := by decide +kernel
theorem dL_law_757 : decode cL_law 757 = .ok (.aload_n 0, 1) := by decide +kernel
theorem dL_law_758 : decode cL_law 758 = .ok (.iload 4, 2) := by decide +kernel
theorem dL_law_760 : decode cL_law 760 = .ok (.iconst 1, 1) := by decide +kernel
theorem dL_law_761 : decode cL_law 761 = .ok (.iadd, 1) := by decide +kernel
theorem dL_law_762 : decode cL_law 762 = .ok (.iaload, 1) := by decide +kernel
theorem dL_law_763 : decode cL_law 763 = .ok (.aload_n 0, 1) := by decide +kernel
theorem dL_law_764 : decode cL_law 764 = .ok (.iload 4, 2) := by decide +kernel
theorem dL_law_766 : decode cL_law 766 = .ok (.iconst 2, 1) := by decide +kernel
theorem dL_law_767 : decode cL_law 767 = .ok (.iadd, 1) := by decide +kernel
theorem dL_law_768 : decode cL_law 768 = .ok (.iaload, 1) := by decide +kernel
theorem dL_law_769 : decode cL_law 769 = .ok (.invokevirtual 71, 3) := by decide +kernel
theorem dL_law_772 : decode cL_law 772 = .ok (.aload_n 2, 1) := by decide +kernel
theorem dL_law_773 : decode cL_law 773 = .ok (.aload_n 0, 1) := by decide +kernel
theorem dL_law_774 : decode cL_law 774 = .ok (.iload 4, 2) := by decide +kernel
theorem dL_law_776 : decode cL_law 776 = .ok (.iconst 1, 1) := by decide +kernel
theorem dL_law_777 : decode cL_law 777 = .ok (.iadd, 1) := by decide +kernel
theorem dL_law_778 : decode cL_law 778 = .ok (.iaload, 1) := by decide +kernel
theorem dL_law_779 : decode cL_law 779 = .ok (.aload_n 0, 1) := by decide +kernel
theorem dL_law_780 : decode cL_law 780 = .ok (.iload 4, 2) := by decide +kernel
theorem dL_law_782 : decode cL_law 782 = .ok (.iconst 2, 1) := by decide +kernel
theorem dL_law_783 : decode cL_law 783 = .ok (.iadd, 1) := by decide +kernel
theorem dL_law_784 : decode cL_law 784 = .ok (.iaload, 1) := by decide +kernel
theorem dL_law_785 : decode cL_law 785 = .ok (.invokevirtual 74, 3) := by decide +kernel
theorem dL_law_788 : decode cL_law 788 = .ok (.if_icmp .eq 1187, 3) := by decide +kernel
theorem dL_law_791 : decode cL_law 791 = .ok (.iconst 0, 1) := by decide +kernel
theorem dL_law_792 : decode cL_law 792 = .ok (.ireturn, 1) := by decide +kernel
theorem dL_law_793 : decode cL_law 793 = .ok (.aload_n 1, 1) := by decide +kernel
theorem dL_law_794 : decode cL_law 794 = .ok (.aload_n 0, 1) := by decide +kernel
theorem dL_law_795 : decode cL_law 795 = .ok (.iload 4, 2) := by decide +kernel
theorem dL_law_797 : decode cL_law 797 = .ok (.iconst 1, 1) := by decide +kernel
theorem dL_law_798 : decode cL_law 798 = .ok (.iadd, 1) := by decide +kernel
theorem dL_law_799 : decode cL_law 799 = .ok (.iaload, 1) := by decide +kernel
theorem dL_law_800 : decode cL_law 800 = .ok (.invokevirtual 75, 3) := by decide +kernel
theorem dL_law_803 : decode cL_law 803 = .ok (.aload_n 2, 1) := by decide +kernel
theorem dL_law_804 : decode cL_law 804 = .ok (.aload_n 0, 1) := by decide +kernel
theorem dL_law_805 : decode cL_law 805 = .ok (.iload 4, 2) := by decide +kernel
theorem dL_law_807 : decode cL_law 807 = .ok (.iconst 1, 1) := by decide +kernel
theorem dL_law_808 : decode cL_law 808 = .ok (.iadd, 1) := by decide +kernel
theorem dL_law_809 : decode cL_law 809 = .ok (.iaload, 1) := by decide +kernel
theorem dL_law_810 : decode cL_law 810 = .ok (.invokevirtual 78, 3) := by decide +kernel
theorem dL_law_813 : decode cL_law 813 = .ok (.if_icmp .eq 1162, 3) := by decide +kernel
theorem dL_law_816 : decode cL_law 816 = .ok (.iconst 0, 1) := by decide +kernel
theorem dL_law_817 : decode cL_law 817 = .ok (.ireturn, 1) := by decide +kernel
theorem dL_law_818 : decode cL_law 818 = .ok (.aload_n 1, 1) := by decide +kernel
theorem dL_law_819 : decode cL_law 819 = .ok (.aload_n 0, 1) := by decide +kernel
theorem dL_law_820 : decode cL_law 820 = .ok (.iload 4, 2) := by decide +kernel
theorem dL_law_822 : decode cL_law 822 = .ok (.iconst 1, 1) := by decide +kernel
theorem dL_law_823 : decode cL_law 823 = .ok (.iadd, 1) := by decide +kernel
theorem dL_law_824 : decode cL_law 824 = .ok (.iaload, 1) := by decide +kernel
theorem dL_law_825 : decode cL_law 825 = .ok (.invokevirtual 79, 3) := by decide +kernel
theorem dL_law_828 : decode cL_law 828 = .ok (.aload_n 2, 1) := by decide +kernel
theorem dL_law_829 : decode cL_law 829 = .ok (.aload_n 0, 1) := by decide +kernel
theorem dL_law_830 : decode cL_law 830 = .ok (.iload 4, 2) := by decide +kernel
theorem dL_law_832 : decode cL_law 832 = .ok (.iconst 1, 1) := by decide +kernel
theorem dL_law_833 : decode cL_law 833 = .ok (.iadd, 1) := by decide +kernel
theorem dL_law_834 : decode cL_law 834 = .ok (.iaload, 1) := by decide +kernel
theorem dL_law_835 : decode cL_law 835 = .ok (.invokevirtual 83, 3) := by decide +kernel
theorem dL_law_838 : decode cL_law 838 = .ok (.if_icmp .eq 1137, 3) := by decide +kernel
theorem dL_law_841 : decode cL_law 841 = .ok (.iconst 0, 1) := by decide +kernel
theorem dL_law_842 : decode cL_law 842 = .ok (.ireturn, 1) := by decide +kernel
theorem dL_law_843 : decode cL_law 843 = .ok (.aload_n 1, 1) := by decide +kernel
theorem dL_law_844 : decode cL_law 844 = .ok (.aload_n 0, 1) := by decide +kernel
theorem dL_law_845 : decode cL_law 845 = .ok (.iload 4, 2) := by decide +kernel
theorem dL_law_847 : decode cL_law 847 = .ok (.iconst 1, 1) := by decide +kernel
theorem dL_law_848 : decode cL_law 848 = .ok (.iadd, 1) := by decide +kernel
theorem dL_law_849 : decode cL_law 849 = .ok (.iaload, 1) := by decide +kernel
theorem dL_law_850 : decode cL_law 850 = .ok (.invokevirtual 84, 3) := by decide +kernel
theorem dL_law_853 : decode cL_law 853 = .ok (.aload_n 2, 1) := by decide +kernel
theorem dL_law_854 : decode cL_law 854 = .ok (.aload_n 0, 1) := by decide +kernel
theorem dL_law_855 : decode cL_law 855 = .ok (.iload 4, 2) := by decide +kernel
theorem dL_law_857 : decode cL_law 857 = .ok (.iconst 1, 1) := by decide +kernel
theorem dL_law_858 : decode cL_law 858 = .ok (.iadd, 1) := by decide +kernel
theorem dL_law_859 : decode cL_law 859 = .ok (.iaload, 1) := by decide +kernel
theorem dL_law_860 : decode cL_law 860 = .ok (.invokevirtual 87, 3) := by decide +kernel
theorem dL_law_863 : decode cL_law 863 = .ok (.if_icmp .eq 1112, 3) := by decide +kernel
theorem dL_law_866 : decode cL_law 866 = .ok (.iconst 0, 1) := by decide +kernel
theorem dL_law_867 : decode cL_law 867 = .ok (.ireturn, 1) := by decide +kernel
theorem dL_law_868 : decode cL_law 868 = .ok (.aload_n 1, 1) := by decide +kernel
theorem dL_law_869 : decode cL_law 869 = .ok (.aload_n 0, 1) := by decide +kernel
theorem dL_law_870 : decode cL_law 870 = .ok (.iload 4, 2) := by decide +kernel
theorem dL_law_872 : decode cL_law 872 = .ok (.iconst 1, 1) := by decide +kernel
theorem dL_law_873 : decode cL_law 873 = .ok (.iadd, 1) := by decide +kernel
theorem dL_law_874 : decode cL_law 874 = .ok (.iaload, 1) := by decide +kernel
theorem dL_law_875 : decode cL_law 875 = .ok (.aload_n 0, 1) := by decide +kernel
theorem dL_law_876 : decode cL_law 876 = .ok (.iload 4, 2) := by decide +kernel
theorem dL_law_878 : decode cL_law 878 = .ok (.iconst 2, 1) := by decide +kernel
theorem dL_law_879 : decode cL_law 879 = .ok (.iadd, 1) := by decide +kernel
theorem dL_law_880 : decode cL_law 880 = .ok (.iaload, 1) := by decide +kernel
theorem dL_law_881 : decode cL_law 881 = .ok (.aload_n 3, 1) := by decide +kernel
theorem dL_law_882 : decode cL_law 882 = .ok (.invokestatic 88, 3) := by decide +kernel
theorem dL_law_885 : decode cL_law 885 = .ok (.istore 5, 2) := by decide +kernel
theorem dL_law_887 : decode cL_law 887 = .ok (.aload_n 2, 1) := by decide +kernel
theorem dL_law_888 : decode cL_law 888 = .ok (.aload_n 0, 1) := by decide +kernel
theorem dL_law_889 : decode cL_law 889 = .ok (.iload 4, 2) := by decide +kernel
theorem dL_law_891 : decode cL_law 891 = .ok (.iconst 1, 1) := by decide +kernel
theorem dL_law_892 : decode cL_law 892 = .ok (.iadd, 1) := by decide +kernel
theorem dL_law_893 : decode cL_law 893 = .ok (.iaload, 1) := by decide +kernel
theorem dL_law_894 : decode cL_law 894 = .ok (.aload_n 0, 1) := by decide +kernel
theorem dL_law_895 : decode cL_law 895 = .ok (.iload 4, 2) := by decide +kernel
theorem dL_law_897 : decode cL_law 897 = .ok (.iconst 2, 1) := by decide +kernel
theorem dL_law_898 : decode cL_law 898 = .ok (.iadd, 1) := by decide +kernel
theorem dL_law_899 : decode cL_law 899 = .ok (.iaload, 1) := by decide +kernel
theorem dL_law_900 : decode cL_law 900 = .ok (.invokevirtual 93, 3) := by decide +kernel
theorem dL_law_903 : decode cL_law 903 = .ok (.istore 6, 2) := by decide +kernel
theorem dL_law_905 : decode cL_law 905 = .ok (.aload_n 2, 1) := by decide +kernel
theorem dL_law_906 : decode cL_law 906 = .ok (.invokevirtual 94, 3) := by decide +kernel
theorem dL_law_909 : decode cL_law 909 = .ok (.iload 5, 2) := by decide +kernel
theorem dL_law_911 : decode cL_law 911 = .ok (.if_icmp .eq 5, 3) := by decide +kernel
theorem dL_law_914 : decode cL_law 914 = .ok (.iconst 0, 1) := by decide +kernel
theorem dL_law_915 : decode cL_law 915 = .ok (.ireturn, 1) := by decide +kernel
theorem dL_law_916 : decode cL_law 916 = .ok (.iload 5, 2) := by decide +kernel
theorem dL_law_918 : decode cL_law 918 = .ok (.ifCond .ne 15, 3) := by decide +kernel
theorem dL_law_921 : decode cL_law 921 = .ok (.aload_n 3, 1) := by decide +kernel
theorem dL_law_922 : decode cL_law 922 = .ok (.iconst 0, 1) := by decide +kernel
theorem dL_law_923 : decode cL_law 923 = .ok (.laload, 1) := by decide +kernel
theorem dL_law_924 : decode cL_law 924 = .ok (.iload 6, 2) := by decide +kernel
theorem dL_law_926 : decode cL_law 926 = .ok (.i2l, 1) := by decide +kernel
theorem dL_law_927 : decode cL_law 927 = .ok (.lcmp, 1) := by decide +kernel
theorem dL_law_928 : decode cL_law 928 = .ok (.ifCond .eq 5, 3) := by decide +kernel
theorem dL_law_931 : decode cL_law 931 = .ok (.iconst 0, 1) := by decide +kernel
theorem dL_law_932 : decode cL_law 932 = .ok (.ireturn, 1) := by decide +kernel
theorem dL_law_933 : decode cL_law 933 = .ok (.goto 1042, 3) := by decide +kernel
theorem dL_law_936 : decode cL_law 936 = .ok (.aload_n 1, 1) := by decide +kernel
theorem dL_law_937 : decode cL_law 937 = .ok (.aload_n 0, 1) := by decide +kernel
theorem dL_law_938 : decode cL_law 938 = .ok (.iload 4, 2) := by decide +kernel
theorem dL_law_940 : decode cL_law 940 = .ok (.iconst 1, 1) := by decide +kernel
theorem dL_law_941 : decode cL_law 941 = .ok (.iadd, 1) := by decide +kernel
theorem dL_law_942 : decode cL_law 942 = .ok (.iaload, 1) := by decide +kernel
theorem dL_law_943 : decode cL_law 943 = .ok (.aload_n 0, 1) := by decide +kernel
theorem dL_law_944 : decode cL_law 944 = .ok (.iload 4, 2) := by decide +kernel
theorem dL_law_946 : decode cL_law 946 = .ok (.iconst 2, 1) := by decide +kernel
theorem dL_law_947 : decode cL_law 947 = .ok (.iadd, 1) := by decide +kernel
theorem dL_law_948 : decode cL_law 948 = .ok (.iaload, 1) := by decide +kernel
theorem dL_law_949 : decode cL_law 949 = .ok (.aload_n 0, 1) := by decide +kernel
theorem dL_law_950 : decode cL_law 950 = .ok (.iload 4, 2) := by decide +kernel
theorem dL_law_952 : decode cL_law 952 = .ok (.iconst 3, 1) := by decide +kernel
theorem dL_law_953 : decode cL_law 953 = .ok (.iadd, 1) := by decide +kernel
theorem dL_law_954 : decode cL_law 954 = .ok (.iaload, 1) := by decide +kernel
theorem dL_law_955 : decode cL_law 955 = .ok (.invokevirtual 98, 3) := by decide +kernel
theorem dL_law_958 : decode cL_law 958 = .ok (.aload_n 2, 1) := by decide +kernel
theorem dL_law_959 : decode cL_law 959 = .ok (.aload_n 0, 1) := by decide +kernel
theorem dL_law_960 : decode cL_law 960 = .ok (.iload 4, 2) := by decide +kernel
theorem dL_law_962 : decode cL_law 962 = .ok (.iconst 1, 1) := by decide +kernel
theorem dL_law_963 : decode cL_law 963 = .ok (.iadd, 1) := by decide +kernel
theorem dL_law_964 : decode cL_law 964 = .ok (.iaload, 1) := by decide +kernel
theorem dL_law_965 : decode cL_law 965 = .ok (.aload_n 0, 1) := by decide +kernel
theorem dL_law_966 : decode cL_law 966 = .ok (.iload 4, 2) := by decide +kernel
theorem dL_law_968 : decode cL_law 968 = .ok (.iconst 2, 1) := by decide +kernel
theorem dL_law_969 : decode cL_law 969 = .ok (.iadd, 1) := by decide +kernel
theorem dL_law_970 : decode cL_law 970 = .ok (.iaload, 1) := by decide +kernel
theorem dL_law_971 : decode cL_law 971 = .ok (.aload_n 0, 1) := by decide +kernel
theorem dL_law_972 : decode cL_law 972 = .ok (.iload 4, 2) := by decide +kernel
theorem dL_law_974 : decode cL_law 974 = .ok (.iconst 3, 1) := by decide +kernel
theorem dL_law_975 : decode cL_law 975 = .ok (.iadd, 1) := by decide +kernel
theorem dL_law_976 : decode cL_law 976 = .ok (.iaload, 1) := by decide +kernel
theorem dL_law_977 : decode cL_law 977 = .ok (.invokevirtual 101, 3) := by decide +kernel
theorem dL_law_980 : decode cL_law 980 = .ok (.if_icmp .eq 995, 3) := by decide +kernel
theorem dL_law_983 : decode cL_law 983 = .ok (.iconst 0, 1) := by decide +kernel
theorem dL_law_984 : decode cL_law 984 = .ok (.ireturn, 1) := by decide +kernel
theorem dL_law_985 : decode cL_law 985 = .ok (.aload_n 1, 1) := by decide +kernel
theorem dL_law_986 : decode cL_law 986 = .ok (.aload_n 0, 1) := by decide +kernel
theorem dL_law_987 : decode cL_law 987 = .ok (.iload 4, 2) := by decide +kernel
theorem dL_law_989 : decode cL_law 989 = .ok (.iconst 1, 1) := by decide +kernel
theorem dL_law_990 : decode cL_law 990 = .ok (.iadd, 1) := by decide +kernel
theorem dL_law_991 : decode cL_law 991 = .ok (.iaload, 1) := by decide +kernel
theorem dL_law_992 : decode cL_law 992 = .ok (.aload_n 0, 1) := by decide +kernel
theorem dL_law_993 : decode cL_law 993 = .ok (.iload 4, 2) := by decide +kernel
theorem dL_law_995 : decode cL_law 995 = .ok (.iconst 2, 1) := by decide +kernel
theorem dL_law_996 : decode cL_law 996 = .ok (.iadd, 1) := by decide +kernel
theorem dL_law_997 : decode cL_law 997 = .ok (.iaload, 1) := by decide +kernel
theorem dL_law_998 : decode cL_law 998 = .ok (.invokevirtual 102, 3) := by decide +kernel
theorem dL_law_1001 : decode cL_law 1001 = .ok (.aload_n 2, 1) := by decide +kernel
theorem dL_law_1002 : decode cL_law 1002 = .ok (.aload_n 0, 1) := by decide +kernel
theorem dL_law_1003 : decode cL_law 1003 = .ok (.iload 4, 2) := by decide +kernel
theorem dL_law_1005 : decode cL_law 1005 = .ok (.iconst 1, 1) := by decide +kernel
theorem dL_law_1006 : decode cL_law 1006 = .ok (.iadd, 1) := by decide +kernel
theorem dL_law_1007 : decode cL_law 1007 = .ok (.iaload, 1) := by decide +kernel
theorem dL_law_1008 : decode cL_law 1008 = .ok (.aload_n 0, 1) := by decide +kernel
theorem dL_law_1009 : decode cL_law 1009 = .ok (.iload 4, 2) := by decide +kernel
theorem dL_law_1011 : decode cL_law 1011 = .ok (.iconst 2, 1) := by decide +kernel
theorem dL_law_1012 : decode cL_law 1012 = .ok (.iadd, 1) := by decide +kernel
theorem dL_law_1013 : decode cL_law 1013 = .ok (.iaload, 1) := by decide +kernel
theorem dL_law_1014 : decode cL_law 1014 = .ok (.invokevirtual 105, 3) := by decide +kernel
theorem dL_law_1017 : decode cL_law 1017 = .ok (.if_icmp .eq 958, 3) := by decide +kernel
theorem dL_law_1020 : decode cL_law 1020 = .ok (.iconst 0, 1) := by decide +kernel
theorem dL_law_1021 : decode cL_law 1021 = .ok (.ireturn, 1) := by decide +kernel
theorem dL_law_1022 : decode cL_law 1022 = .ok (.aload_n 1, 1) := by decide +kernel
theorem dL_law_1023 : decode cL_law 1023 = .ok (.aload_n 0, 1) := by decide +kernel
theorem dL_law_1024 : decode cL_law 1024 = .ok (.iload 4, 2) := by decide +kernel
theorem dL_law_1026 : decode cL_law 1026 = .ok (.iconst 1, 1) := by decide +kernel
theorem dL_law_1027 : decode cL_law 1027 = .ok (.iadd, 1) := by decide +kernel
theorem dL_law_1028 : decode cL_law 1028 = .ok (.iaload, 1) := by decide +kernel
theorem dL_law_1029 : decode cL_law 1029 = .ok (.invokevirtual 106, 3) := by decide +kernel
theorem dL_law_1032 : decode cL_law 1032 = .ok (.aload_n 2, 1) := by decide +kernel
theorem dL_law_1033 : decode cL_law 1033 = .ok (.aload_n 0, 1) := by decide +kernel
theorem dL_law_1034 : decode cL_law 1034 = .ok (.iload 4, 2) := by decide +kernel
theorem dL_law_1036 : decode cL_law 1036 = .ok (.iconst 1, 1) := by decide +kernel
theorem dL_law_1037 : decode cL_law 1037 = .ok (.iadd, 1) := by decide +kernel
theorem dL_law_1038 : decode cL_law 1038 = .ok (.iaload, 1) := by decide +kernel
theorem dL_law_1039 : decode cL_law 1039 = .ok (.invokevirtual 109, 3) := by decide +kernel
theorem dL_law_1042 : decode cL_law 1042 = .ok (.if_icmp .eq 933, 3) := by decide +kernel
theorem dL_law_1045 : decode cL_law 1045 = .ok (.iconst 0, 1) := by decide +kernel
theorem dL_law_1046 : decode cL_law 1046 = .ok (.ireturn, 1) := by decide +kernel
theorem dL_law_1047 : decode cL_law 1047 = .ok (.aload_n 1, 1) := by decide +kernel
theorem dL_law_1048 : decode cL_law 1048 = .ok (.invokevirtual 110, 3) := by decide +kernel
theorem dL_law_1051 : decode cL_law 1051 = .ok (.aload_n 2, 1) := by decide +kernel
theorem dL_law_1052 : decode cL_law 1052 = .ok (.invokevirtual 113, 3) := by decide +kernel
theorem dL_law_1055 : decode cL_law 1055 = .ok (.if_icmp .eq 920, 3) := by decide +kernel
theorem dL_law_1058 : decode cL_law 1058 = .ok (.iconst 0, 1) := by decide +kernel
theorem dL_law_1059 : decode cL_law 1059 = .ok (.ireturn, 1) := by decide +kernel
theorem dL_law_1060 : decode cL_law 1060 = .ok (.aload_n 1, 1) := by decide +kernel
theorem dL_law_1061 : decode cL_law 1061 = .ok (.aload_n 0, 1) := by decide +kernel
theorem dL_law_1062 : decode cL_law 1062 = .ok (.iload 4, 2) := by decide +kernel
theorem dL_law_1064 : decode cL_law 1064 = .ok (.iconst 1, 1) := by decide +kernel
theorem dL_law_1065 : decode cL_law 1065 = .ok (.iadd, 1) := by decide +kernel
theorem dL_law_1066 : decode cL_law 1066 = .ok (.iaload, 1) := by decide +kernel
theorem dL_law_1067 : decode cL_law 1067 = .ok (.invokevirtual 114, 3) := by decide +kernel
theorem dL_law_1070 : decode cL_law 1070 = .ok (.aload_n 2, 1) := by decide +kernel
theorem dL_law_1071 : decode cL_law 1071 = .ok (.aload_n 0, 1) := by decide +kernel
theorem dL_law_1072 : decode cL_law 1072 = .ok (.iload 4, 2) := by decide +kernel
theorem dL_law_1074 : decode cL_law 1074 = .ok (.iconst 1, 1) := by decide +kernel
theorem dL_law_1075 : decode cL_law 1075 = .ok (.iadd, 1) := by decide +kernel
theorem dL_law_1076 : decode cL_law 1076 = .ok (.iaload, 1) := by decide +kernel
theorem dL_law_1077 : decode cL_law 1077 = .ok (.invokevirtual 117, 3) := by decide +kernel
theorem dL_law_1080 : decode cL_law 1080 = .ok (.if_icmp .eq 895, 3) := by decide +kernel
theorem dL_law_1083 : decode cL_law 1083 = .ok (.iconst 0, 1) := by decide +kernel
theorem dL_law_1084 : decode cL_law 1084 = .ok (.ireturn, 1) := by decide +kernel
theorem dL_law_1085 : decode cL_law 1085 = .ok (.aload_n 1, 1) := by decide +kernel
theorem dL_law_1086 : decode cL_law 1086 = .ok (.aload_n 0, 1) := by decide +kernel
theorem dL_law_1087 : decode cL_law 1087 = .ok (.iload 4, 2) := by decide +kernel
theorem dL_law_1089 : decode cL_law 1089 = .ok (.iconst 1, 1) := by decide +kernel
theorem dL_law_1090 : decode cL_law 1090 = .ok (.iadd, 1) := by decide +kernel
theorem dL_law_1091 : decode cL_law 1091 = .ok (.iaload, 1) := by decide +kernel
theorem dL_law_1092 : decode cL_law 1092 = .ok (.invokevirtual 118, 3) := by decide +kernel
theorem dL_law_1095 : decode cL_law 1095 = .ok (.aload_n 2, 1) := by decide +kernel
theorem dL_law_1096 : decode cL_law 1096 = .ok (.aload_n 0, 1) := by decide +kernel
theorem dL_law_1097 : decode cL_law 1097 = .ok (.iload 4, 2) := by decide +kernel
theorem dL_law_1099 : decode cL_law 1099 = .ok (.iconst 1, 1) := by decide +kernel
theorem dL_law_1100 : decode cL_law 1100 = .ok (.iadd, 1) := by decide +kernel
theorem dL_law_1101 : decode cL_law 1101 = .ok (.iaload, 1) := by decide +kernel
theorem dL_law_1102 : decode cL_law 1102 = .ok (.invokevirtual 121, 3) := by decide +kernel
theorem dL_law_1105 : decode cL_law 1105 = .ok (.if_icmp .eq 870, 3) := by decide +kernel
theorem dL_law_1108 : decode cL_law 1108 = .ok (.iconst 0, 1) := by decide +kernel
theorem dL_law_1109 : decode cL_law 1109 = .ok (.ireturn, 1) := by decide +kernel
theorem dL_law_1110 : decode cL_law 1110 = .ok (.aload_n 1, 1) := by decide +kernel
theorem dL_law_1111 : decode cL_law 1111 = .ok (.aload_n 0, 1) := by decide +kernel
theorem dL_law_1112 : decode cL_law 1112 = .ok (.iload 4, 2) := by decide +kernel
theorem dL_law_1114 : decode cL_law 1114 = .ok (.iconst 1, 1) := by decide +kernel
theorem dL_law_1115 : decode cL_law 1115 = .ok (.iadd, 1) := by decide +kernel
theorem dL_law_1116 : decode cL_law 1116 = .ok (.iaload, 1) := by decide +kernel
theorem dL_law_1117 : decode cL_law 1117 = .ok (.invokevirtual 122, 3) := by decide +kernel
theorem dL_law_1120 : decode cL_law 1120 = .ok (.aload_n 2, 1) := by decide +kernel
theorem dL_law_1121 : decode cL_law 1121 = .ok (.aload_n 0, 1) := by decide +kernel
theorem dL_law_1122 : decode cL_law 1122 = .ok (.iload 4, 2) := by decide +kernel
theorem dL_law_1124 : decode cL_law 1124 = .ok (.iconst 1, 1) := by decide +kernel
theorem dL_law_1125 : decode cL_law 1125 = .ok (.iadd, 1) := by decide +kernel
theorem dL_law_1126 : decode cL_law 1126 = .ok (.iaload, 1) := by decide +kernel
theorem dL_law_1127 : decode cL_law 1127 = .ok (.invokevirtual 125, 3) := by decide +kernel
theorem dL_law_1130 : decode cL_law 1130 = .ok (.if_icmp .eq 845, 3) := by decide +kernel
theorem dL_law_1133 : decode cL_law 1133 = .ok (.iconst 0, 1) := by decide +kernel
theorem dL_law_1134 : decode cL_law 1134 = .ok (.ireturn, 1) := by decide +kernel
theorem dL_law_1135 : decode cL_law 1135 = .ok (.aload_n 1, 1) := by decide +kernel
theorem dL_law_1136 : decode cL_law 1136 = .ok (.aload_n 0, 1) := by decide +kernel
theorem dL_law_1137 : decode cL_law 1137 = .ok (.iload 4, 2) := by decide +kernel
theorem dL_law_1139 : decode cL_law 1139 = .ok (.iconst 1, 1) := by decide +kernel
theorem dL_law_1140 : decode cL_law 1140 = .ok (.iadd, 1) := by decide +kernel
theorem dL_law_1141 : decode cL_law 1141 = .ok (.iaload, 1) := by decide +kernel
theorem dL_law_1142 : decode cL_law 1142 = .ok (.aload_n 0, 1) := by decide +kernel
theorem dL_law_1143 : decode cL_law 1143 = .ok (.iload 4, 2) := by decide +kernel
theorem dL_law_1145 : decode cL_law 1145 = .ok (.iconst 2, 1) := by decide +kernel
theorem dL_law_1146 : decode cL_law 1146 = .ok (.iadd, 1) := by decide +kernel
theorem dL_law_1147 : decode cL_law 1147 = .ok (.iaload, 1) := by decide +kernel
theorem dL_law_1148 : decode cL_law 1148 = .ok (.aload_n 0, 1) := by decide +kernel
theorem dL_law_1149 : decode cL_law 1149 = .ok (.iload 4, 2) := by decide +kernel
theorem dL_law_1151 : decode cL_law 1151 = .ok (.iconst 3, 1) := by decide +kernel
theorem dL_law_1152 : decode cL_law 1152 = .ok (.iadd, 1) := by decide +kernel
theorem dL_law_1153 : decode cL_law 1153 = .ok (.iaload, 1) := by decide +kernel
theorem dL_law_1154 : decode cL_law 1154 = .ok (.aload_n 0, 1) := by decide +kernel
theorem dL_law_1155 : decode cL_law 1155 = .ok (.iload 4, 2) := by decide +kernel
theorem dL_law_1157 : decode cL_law 1157 = .ok (.iconst 4, 1) := by decide +kernel
theorem dL_law_1158 : decode cL_law 1158 = .ok (.iadd, 1) := by decide +kernel
theorem dL_law_1159 : decode cL_law 1159 = .ok (.iaload, 1) := by decide +kernel
theorem dL_law_1160 : decode cL_law 1160 = .ok (.invokevirtual 126, 3) := by decide +kernel
theorem dL_law_1163 : decode cL_law 1163 = .ok (.aload_n 2, 1) := by decide +kernel
theorem dL_law_1164 : decode cL_law 1164 = .ok (.aload_n 0, 1) := by decide +kernel
theorem dL_law_1165 : decode cL_law 1165 = .ok (.iload 4, 2) := by decide +kernel
theorem dL_law_1167 : decode cL_law 1167 = .ok (.iconst 1, 1) := by decide +kernel
theorem dL_law_1168 : decode cL_law 1168 = .ok (.iadd, 1) := by decide +kernel
theorem dL_law_1169 : decode cL_law 1169 = .ok (.iaload, 1) := by decide +kernel
theorem dL_law_1170 : decode cL_law 1170 = .ok (.aload_n 0, 1) := by decide +kernel
theorem dL_law_1171 : decode cL_law 1171 = .ok (.iload 4, 2) := by decide +kernel
theorem dL_law_1173 : decode cL_law 1173 = .ok (.iconst 2, 1) := by decide +kernel
theorem dL_law_1174 : decode cL_law 1174 = .ok (.iadd, 1) := by decide +kernel
theorem dL_law_1175 : decode cL_law 1175 = .ok (.iaload, 1) := by decide +kernel
theorem dL_law_1176 : decode cL_law 1176 = .ok (.aload_n 0, 1) := by decide +kernel
theorem dL_law_1177 : decode cL_law 1177 = .ok (.iload 4, 2) := by decide +kernel
theorem dL_law_1179 : decode cL_law 1179 = .ok (.iconst 3, 1) := by decide +kernel
theorem dL_law_1180 : decode cL_law 1180 = .ok (.iadd, 1) := by decide +kernel
theorem dL_law_1181 : decode cL_law 1181 = .ok (.iaload, 1) := by decide +kernel
theorem dL_law_1182 : decode cL_law 1182 = .ok (.aload_n 0, 1) := by decide +kernel
theorem dL_law_1183 : decode cL_law 1183 = .ok (.iload 4, 2) := by decide +kernel
theorem dL_law_1185 : decode cL_law 1185 = .ok (.iconst 4, 1) := by decide +kernel
theorem dL_law_1186 : decode cL_law 1186 = .ok (.iadd, 1) := by decide +kernel
theorem dL_law_1187 : decode cL_law 1187 = .ok (.iaload, 1) := by decide +kernel
theorem dL_law_1188 : decode cL_law 1188 = .ok (.invokevirtual 129, 3) := by decide +kernel
theorem dL_law_1191 : decode cL_law 1191 = .ok (.if_icmp .eq 784, 3) := by decide +kernel
theorem dL_law_1194 : decode cL_law 1194 = .ok (.iconst 0, 1) := by decide +kernel
theorem dL_law_1195 : decode cL_law 1195 = .ok (.ireturn, 1) := by decide +kernel
theorem dL_law_1196 : decode cL_law 1196 = .ok (.aload_n 1, 1) := by decide +kernel
theorem dL_law_1197 : decode cL_law 1197 = .ok (.aload_n 0, 1) := by decide +kernel
theorem dL_law_1198 : decode cL_law 1198 = .ok (.iload 4, 2) := by decide +kernel
theorem dL_law_1200 : decode cL_law 1200 = .ok (.iconst 1, 1) := by decide +kernel
theorem dL_law_1201 : decode cL_law 1201 = .ok (.iadd, 1) := by decide +kernel
theorem dL_law_1202 : decode cL_law 1202 = .ok (.iaload, 1) := by decide +kernel
theorem dL_law_1203 : decode cL_law 1203 = .ok (.aload_n 0, 1) := by decide +kernel
theorem dL_law_1204 : decode cL_law 1204 = .ok (.iload 4, 2) := by decide +kernel
theorem dL_law_1206 : decode cL_law 1206 = .ok (.iconst 2, 1) := by decide +kernel
theorem dL_law_1207 : decode cL_law 1207 = .ok (.iadd, 1) := by decide +kernel
theorem dL_law_1208 : decode cL_law 1208 = .ok (.iaload, 1) := by decide +kernel
theorem dL_law_1209 : decode cL_law 1209 = .ok (.invokevirtual 130, 3) := by decide +kernel
theorem dL_law_1212 : decode cL_law 1212 = .ok (.aload_n 2, 1) := by decide +kernel
theorem dL_law_1213 : decode cL_law 1213 = .ok (.aload_n 0, 1) := by decide +kernel
theorem dL_law_1214 : decode cL_law 1214 = .ok (.iload 4, 2) := by decide +kernel
theorem dL_law_1216 : decode cL_law 1216 = .ok (.iconst 1, 1) := by decide +kernel
theorem dL_law_1217 : decode cL_law 1217 = .ok (.iadd, 1) := by decide +kernel
theorem dL_law_1218 : decode cL_law 1218 = .ok (.iaload, 1) := by decide +kernel
theorem dL_law_1219 : decode cL_law 1219 = .ok (.aload_n 0, 1) := by decide +kernel
theorem dL_law_1220 : decode cL_law 1220 = .ok (.iload 4, 2) := by decide +kernel
theorem dL_law_1222 : decode cL_law 1222 = .ok (.iconst 2, 1) := by decide +kernel
theorem dL_law_1223 : decode cL_law 1223 = .ok (.iadd, 1) := by decide +kernel
theorem dL_law_1224 : decode cL_law 1224 = .ok (.iaload, 1) := by decide +kernel
theorem dL_law_1225 : decode cL_law 1225 = .ok (.invokevirtual 133, 3) := by decide +kernel
theorem dL_law_1228 : decode cL_law 1228 = .ok (.if_icmp .eq 747, 3) := by decide +kernel
theorem dL_law_1231 : decode cL_law 1231 = .ok (.iconst 0, 1) := by decide +kernel
theorem dL_law_1232 : decode cL_law 1232 = .ok (.ireturn, 1) := by decide +kernel
theorem dL_law_1233 : decode cL_law 1233 = .ok (.aload_n 1, 1) := by decide +kernel
theorem dL_law_1234 : decode cL_law 1234 = .ok (.aload_n 0, 1) := by decide +kernel
theorem dL_law_1235 : decode cL_law 1235 = .ok (.iload 4, 2) := by decide +kernel
theorem dL_law_1237 : decode cL_law 1237 = .ok (.iconst 1, 1) := by decide +kernel
theorem dL_law_1238 : decode cL_law 1238 = .ok (.iadd, 1) := by decide +kernel
theorem dL_law_1239 : decode cL_law 1239 = .ok (.iaload, 1) := by decide +kernel
theorem dL_law_1240 : decode cL_law 1240 = .ok (.aload_n 0, 1) := by decide +kernel
theorem dL_law_1241 : decode cL_law 1241 = .ok (.iload 4, 2) := by decide +kernel
theorem dL_law_1243 : decode cL_law 1243 = .ok (.iconst 2, 1) := by decide +kernel
theorem dL_law_1244 : decode cL_law 1244 = .ok (.iadd, 1) := by decide +kernel
theorem dL_law_1245 : decode cL_law 1245 = .ok (.iaload, 1) := by decide +kernel
theorem dL_law_1246 : decode cL_law 1246 = .ok (.invokevirtual 134, 3) := by decide +kernel
theorem dL_law_1249 : decode cL_law 1249 = .ok (.aload_n 2, 1) := by decide +kernel
theorem dL_law_1250 : decode cL_law 1250 = .ok (.aload_n 0, 1) := by decide +kernel
theorem dL_law_1251 : decode cL_law 1251 = .ok (.iload 4, 2) := by decide +kernel
theorem dL_law_1253 : decode cL_law 1253 = .ok (.iconst 1, 1) := by decide +kernel
theorem dL_law_1254 : decode cL_law 1254 = .ok (.iadd, 1) := by decide +kernel
theorem dL_law_1255 : decode cL_law 1255 = .ok (.iaload, 1) := by decide +kernel
theorem dL_law_1256 : decode cL_law 1256 = .ok (.aload_n 0, 1) := by decide +kernel
theorem dL_law_1257 : decode cL_law 1257 = .ok (.iload 4, 2) := by decide +kernel
theorem dL_law_1259 : decode cL_law 1259 = .ok (.iconst 2, 1) := by decide +kernel
theorem dL_law_1260 : decode cL_law 1260 = .ok (.iadd, 1) := by decide +kernel
theorem dL_law_1261 : decode cL_law 1261 = .ok (.iaload, 1) := by decide +kernel
theorem dL_law_1262 : decode cL_law 1262 = .ok (.invokevirtual 137, 3) := by decide +kernel
theorem dL_law_1265 : decode cL_law 1265 = .ok (.if_icmp .eq 710, 3) := by decide +kernel
theorem dL_law_1268 : decode cL_law 1268 = .ok (.iconst 0, 1) := by decide +kernel
theorem dL_law_1269 : decode cL_law 1269 = .ok (.ireturn, 1) := by decide +kernel
theorem dL_law_1270 : decode cL_law 1270 = .ok (.aload_n 1, 1) := by decide +kernel
theorem dL_law_1271 : decode cL_law 1271 = .ok (.aload_n 0, 1) := by decide +kernel
theorem dL_law_1272 : decode cL_law 1272 = .ok (.iload 4, 2) := by decide +kernel
theorem dL_law_1274 : decode cL_law 1274 = .ok (.iconst 1, 1) := by decide +kernel
theorem dL_law_1275 : decode cL_law 1275 = .ok (.iadd, 1) := by decide +kernel
theorem dL_law_1276 : decode cL_law 1276 = .ok (.iaload, 1) := by decide +kernel
theorem dL_law_1277 : decode cL_law 1277 = .ok (.aload_n 0, 1) := by decide +kernel
theorem dL_law_1278 : decode cL_law 1278 = .ok (.iload 4, 2) := by decide +kernel
theorem dL_law_1280 : decode cL_law 1280 = .ok (.iconst 2, 1) := by decide +kernel
theorem dL_law_1281 : decode cL_law 1281 = .ok (.iadd, 1) := by decide +kernel
theorem dL_law_1282 : decode cL_law 1282 = .ok (.iaload, 1) := by decide +kernel
theorem dL_law_1283 : decode cL_law 1283 = .ok (.aload_n 3, 1) := by decide +kernel
theorem dL_law_1284 : decode cL_law 1284 = .ok (.invokestatic 138, 3) := by decide +kernel
theorem dL_law_1287 : decode cL_law 1287 = .ok (.istore 5, 2) := by decide +kernel
theorem dL_law_1289 : decode cL_law 1289 = .ok (.aload_n 2, 1) := by decide +kernel
theorem dL_law_1290 : decode cL_law 1290 = .ok (.aload_n 0, 1) := by decide +kernel
theorem dL_law_1291 : decode cL_law 1291 = .ok (.iload 4, 2) := by decide +kernel
theorem dL_law_1293 : decode cL_law 1293 = .ok (.iconst 1, 1) := by decide +kernel
theorem dL_law_1294 : decode cL_law 1294 = .ok (.iadd, 1) := by decide +kernel
theorem dL_law_1295 : decode cL_law 1295 = .ok (.iaload, 1) := by decide +kernel
theorem dL_law_1296 : decode cL_law 1296 = .ok (.aload_n 0, 1) := by decide +kernel
theorem dL_law_1297 : decode cL_law 1297 = .ok (.iload 4, 2) := by decide +kernel
theorem dL_law_1299 : decode cL_law 1299 = .ok (.iconst 2, 1) := by decide +kernel
theorem dL_law_1300 : decode cL_law 1300 = .ok (.iadd, 1) := by decide +kernel
theorem dL_law_1301 : decode cL_law 1301 = .ok (.iaload, 1) := by decide +kernel
theorem dL_law_1302 : decode cL_law 1302 = .ok (.invokevirtual 140, 3) := by decide +kernel
theorem dL_law_1305 : decode cL_law 1305 = .ok (.istore 6, 2) := by decide +kernel
theorem dL_law_1307 : decode cL_law 1307 = .ok (.aload_n 2, 1) := by decide +kernel
theorem dL_law_1308 : decode cL_law 1308 = .ok (.invokevirtual 94, 3) := by decide +kernel
theorem dL_law_1311 : decode cL_law 1311 = .ok (.iload 5, 2) := by decide +kernel
theorem dL_law_1313 : decode cL_law 1313 = .ok (.if_icmp .eq 5, 3) := by decide +kernel
theorem dL_law_1316 : decode cL_law 1316 = .ok (.iconst 0, 1) := by decide +kernel
theorem dL_law_1317 : decode cL_law 1317 = .ok (.ireturn, 1) := by decide +kernel
theorem dL_law_1318 : decode cL_law 1318 = .ok (.iload 5, 2) := by decide +kernel
theorem dL_law_1320 : decode cL_law 1320 = .ok (.ifCond .ne 15, 3) := by decide +kernel
theorem dL_law_1323 : decode cL_law 1323 = .ok (.aload_n 3, 1) := by decide +kernel
theorem dL_law_1324 : decode cL_law 1324 = .ok (.iconst 0, 1) := by decide +kernel
theorem dL_law_1325 : decode cL_law 1325 = .ok (.laload, 1) := by decide +kernel
theorem dL_law_1326 : decode cL_law 1326 = .ok (.iload 6, 2) := by decide +kernel
theorem dL_law_1328 : decode cL_law 1328 = .ok (.i2l, 1) := by decide +kernel
theorem dL_law_1329 : decode cL_law 1329 = .ok (.lcmp, 1) := by decide +kernel
theorem dL_law_1330 : decode cL_law 1330 = .ok (.ifCond .eq 5, 3) := by decide +kernel
theorem dL_law_1333 : decode cL_law 1333 = .ok (.iconst 0, 1) := by decide +kernel
theorem dL_law_1334 : decode cL_law 1334 = .ok (.ireturn, 1) := by decide +kernel
theorem dL_law_1335 : decode cL_law 1335 = .ok (.goto 640, 3) := by decide +kernel
theorem dL_law_1338 : decode cL_law 1338 = .ok (.aload_n 1, 1) := by decide +kernel
theorem dL_law_1339 : decode cL_law 1339 = .ok (.aload_n 0, 1) := by decide +kernel
theorem dL_law_1340 : decode cL_law 1340 = .ok (.iload 4, 2) := by decide +kernel
theorem dL_law_1342 : decode cL_law 1342 = .ok (.iconst 1, 1) := by decide +kernel
theorem dL_law_1343 : decode cL_law 1343 = .ok (.iadd, 1) := by decide +kernel
theorem dL_law_1344 : decode cL_law 1344 = .ok (.iaload, 1) := by decide +kernel
theorem dL_law_1345 : decode cL_law 1345 = .ok (.aload_n 0, 1) := by decide +kernel
theorem dL_law_1346 : decode cL_law 1346 = .ok (.iload 4, 2) := by decide +kernel
theorem dL_law_1348 : decode cL_law 1348 = .ok (.iconst 2, 1) := by decide +kernel
theorem dL_law_1349 : decode cL_law 1349 = .ok (.iadd, 1) := by decide +kernel
theorem dL_law_1350 : decode cL_law 1350 = .ok (.iaload, 1) := by decide +kernel
theorem dL_law_1351 : decode cL_law 1351 = .ok (.invokevirtual 141, 3) := by decide +kernel
theorem dL_law_1354 : decode cL_law 1354 = .ok (.aload_n 2, 1) := by decide +kernel
theorem dL_law_1355 : decode cL_law 1355 = .ok (.aload_n 0, 1) := by decide +kernel
theorem dL_law_1356 : decode cL_law 1356 = .ok (.iload 4, 2) := by decide +kernel
theorem dL_law_1358 : decode cL_law 1358 = .ok (.iconst 1, 1) := by decide +kernel
theorem dL_law_1359 : decode cL_law 1359 = .ok (.iadd, 1) := by decide +kernel
theorem dL_law_1360 : decode cL_law 1360 = .ok (.iaload, 1) := by decide +kernel
theorem dL_law_1361 : decode cL_law 1361 = .ok (.aload_n 0, 1) := by decide +kernel
theorem dL_law_1362 : decode cL_law 1362 = .ok (.iload 4, 2) := by decide +kernel
theorem dL_law_1364 : decode cL_law 1364 = .ok (.iconst 2, 1) := by decide +kernel
theorem dL_law_1365 : decode cL_law 1365 = .ok (.iadd, 1) := by decide +kernel
theorem dL_law_1366 : decode cL_law 1366 = .ok (.iaload, 1) := by decide +kernel
theorem dL_law_1367 : decode cL_law 1367 = .ok (.invokevirtual 144, 3) := by decide +kernel
theorem dL_law_1370 : decode cL_law 1370 = .ok (.if_icmp .eq 605, 3) := by decide +kernel
theorem dL_law_1373 : decode cL_law 1373 = .ok (.iconst 0, 1) := by decide +kernel
theorem dL_law_1374 : decode cL_law 1374 = .ok (.ireturn, 1) := by decide +kernel
theorem dL_law_1375 : decode cL_law 1375 = .ok (.aload_n 1, 1) := by decide +kernel
theorem dL_law_1376 : decode cL_law 1376 = .ok (.aload_n 0, 1) := by decide +kernel
theorem dL_law_1377 : decode cL_law 1377 = .ok (.iload 4, 2) := by decide +kernel
theorem dL_law_1379 : decode cL_law 1379 = .ok (.iconst 1, 1) := by decide +kernel
theorem dL_law_1380 : decode cL_law 1380 = .ok (.iadd, 1) := by decide +kernel
theorem dL_law_1381 : decode cL_law 1381 = .ok (.iaload, 1) := by decide +kernel
theorem dL_law_1382 : decode cL_law 1382 = .ok (.invokevirtual 145, 3) := by decide +kernel
theorem dL_law_1385 : decode cL_law 1385 = .ok (.aload_n 2, 1) := by decide +kernel
theorem dL_law_1386 : decode cL_law 1386 = .ok (.aload_n 0, 1) := by decide +kernel
theorem dL_law_1387 : decode cL_law 1387 = .ok (.iload 4, 2) := by decide +kernel
theorem dL_law_1389 : decode cL_law 1389 = .ok (.iconst 1, 1) := by decide +kernel
theorem dL_law_1390 : decode cL_law 1390 = .ok (.iadd, 1) := by decide +kernel
theorem dL_law_1391 : decode cL_law 1391 = .ok (.iaload, 1) := by decide +kernel
theorem dL_law_1392 : decode cL_law 1392 = .ok (.invokevirtual 148, 3) := by decide +kernel
theorem dL_law_1395 : decode cL_law 1395 = .ok (.if_icmp .eq 580, 3) := by decide +kernel
theorem dL_law_1398 : decode cL_law 1398 = .ok (.iconst 0, 1) := by decide +kernel
theorem dL_law_1399 : decode cL_law 1399 = .ok (.ireturn, 1) := by decide +kernel
theorem dL_law_1400 : decode cL_law 1400 = .ok (.aload_n 1, 1) := by decide +kernel
theorem dL_law_1401 : decode cL_law 1401 = .ok (.aload_n 0, 1) := by decide +kernel
theorem dL_law_1402 : decode cL_law 1402 = .ok (.iload 4, 2) := by decide +kernel
theorem dL_law_1404 : decode cL_law 1404 = .ok (.iconst 1, 1) := by decide +kernel
theorem dL_law_1405 : decode cL_law 1405 = .ok (.iadd, 1) := by decide +kernel
theorem dL_law_1406 : decode cL_law 1406 = .ok (.iaload, 1) := by decide +kernel
theorem dL_law_1407 : decode cL_law 1407 = .ok (.aload_n 0, 1) := by decide +kernel
theorem dL_law_1408 : decode cL_law 1408 = .ok (.iload 4, 2) := by decide +kernel
theorem dL_law_1410 : decode cL_law 1410 = .ok (.iconst 2, 1) := by decide +kernel
theorem dL_law_1411 : decode cL_law 1411 = .ok (.iadd, 1) := by decide +kernel
theorem dL_law_1412 : decode cL_law 1412 = .ok (.iaload, 1) := by decide +kernel
theorem dL_law_1413 : decode cL_law 1413 = .ok (.aload_n 0, 1) := by decide +kernel
theorem dL_law_1414 : decode cL_law 1414 = .ok (.iload 4, 2) := by decide +kernel
theorem dL_law_1416 : decode cL_law 1416 = .ok (.iconst 3, 1) := by decide +kernel
theorem dL_law_1417 : decode cL_law 1417 = .ok (.iadd, 1) := by decide +kernel
theorem dL_law_1418 : decode cL_law 1418 = .ok (.iaload, 1) := by decide +kernel
theorem dL_law_1419 : decode cL_law 1419 = .ok (.aload_n 0, 1) := by decide +kernel
theorem dL_law_1420 : decode cL_law 1420 = .ok (.iload 4, 2) := by decide +kernel
theorem dL_law_1422 : decode cL_law 1422 = .ok (.iconst 4, 1) := by decide +kernel
theorem dL_law_1423 : decode cL_law 1423 = .ok (.iadd, 1) := by decide +kernel
theorem dL_law_1424 : decode cL_law 1424 = .ok (.iaload, 1) := by decide +kernel
theorem dL_law_1425 : decode cL_law 1425 = .ok (.invokevirtual 149, 3) := by decide +kernel
theorem dL_law_1428 : decode cL_law 1428 = .ok (.aload_n 2, 1) := by decide +kernel
theorem dL_law_1429 : decode cL_law 1429 = .ok (.aload_n 0, 1) := by decide +kernel
theorem dL_law_1430 : decode cL_law 1430 = .ok (.iload 4, 2) := by decide +kernel
theorem dL_law_1432 : decode cL_law 1432 = .ok (.iconst 1, 1) := by decide +kernel
theorem dL_law_1433 : decode cL_law 1433 = .ok (.iadd, 1) := by decide +kernel
theorem dL_law_1434 : decode cL_law 1434 = .ok (.iaload, 1) := by decide +kernel
theorem dL_law_1435 : decode cL_law 1435 = .ok (.aload_n 0, 1) := by decide +kernel
theorem dL_law_1436 : decode cL_law 1436 = .ok (.iload 4, 2) := by decide +kernel
theorem dL_law_1438 : decode cL_law 1438 = .ok (.iconst 2, 1) := by decide +kernel
theorem dL_law_1439 : decode cL_law 1439 = .ok (.iadd, 1) := by decide +kernel
theorem dL_law_1440 : decode cL_law 1440 = .ok (.iaload, 1) := by decide +kernel
theorem dL_law_1441 : decode cL_law 1441 = .ok (.aload_n 0, 1) := by decide +kernel
theorem dL_law_1442 : decode cL_law 1442 = .ok (.iload 4, 2) := by decide +kernel
theorem dL_law_1444 : decode cL_law 1444 = .ok (.iconst 3, 1) := by decide +kernel
theorem dL_law_1445 : decode cL_law 1445 = .ok (.iadd, 1) := by decide +kernel
theorem dL_law_1446 : decode cL_law 1446 = .ok (.iaload, 1) := by decide +kernel
theorem dL_law_1447 : decode cL_law 1447 = .ok (.aload_n 0, 1) := by decide +kernel
theorem dL_law_1448 : decode cL_law 1448 = .ok (.iload 4, 2) := by decide +kernel
theorem dL_law_1450 : decode cL_law 1450 = .ok (.iconst 4, 1) := by decide +kernel
theorem dL_law_1451 : decode cL_law 1451 = .ok (.iadd, 1) := by decide +kernel
theorem dL_law_1452 : decode cL_law 1452 = .ok (.iaload, 1) := by decide +kernel
theorem dL_law_1453 : decode cL_law 1453 = .ok (.invokevirtual 152, 3) := by decide +kernel
theorem dL_law_1456 : decode cL_law 1456 = .ok (.if_icmp .eq 519, 3) := by decide +kernel
theorem dL_law_1459 : decode cL_law 1459 = .ok (.iconst 0, 1) := by decide +kernel
theorem dL_law_1460 : decode cL_law 1460 = .ok (.ireturn, 1) := by decide +kernel
theorem dL_law_1461 : decode cL_law 1461 = .ok (.aload_n 1, 1) := by decide +kernel
theorem dL_law_1462 : decode cL_law 1462 = .ok (.aload_n 0, 1) := by decide +kernel
theorem dL_law_1463 : decode cL_law 1463 = .ok (.iload 4, 2) := by decide +kernel
theorem dL_law_1465 : decode cL_law 1465 = .ok (.iconst 1, 1) := by decide +kernel
theorem dL_law_1466 : decode cL_law 1466 = .ok (.iadd, 1) := by decide +kernel
theorem dL_law_1467 : decode cL_law 1467 = .ok (.iaload, 1) := by decide +kernel
theorem dL_law_1468 : decode cL_law 1468 = .ok (.aload_n 0, 1) := by decide +kernel
theorem dL_law_1469 : decode cL_law 1469 = .ok (.iload 4, 2) := by decide +kernel
theorem dL_law_1471 : decode cL_law 1471 = .ok (.iconst 2, 1) := by decide +kernel
theorem dL_law_1472 : decode cL_law 1472 = .ok (.iadd, 1) := by decide +kernel
theorem dL_law_1473 : decode cL_law 1473 = .ok (.iaload, 1) := by decide +kernel
theorem dL_law_1474 : decode cL_law 1474 = .ok (.aload_n 0, 1) := by decide +kernel
theorem dL_law_1475 : decode cL_law 1475 = .ok (.iload 4, 2) := by decide +kernel
theorem dL_law_1477 : decode cL_law 1477 = .ok (.iconst 3, 1) := by decide +kernel
theorem dL_law_1478 : decode cL_law 1478 = .ok (.iadd, 1) := by decide +kernel
theorem dL_law_1479 : decode cL_law 1479 = .ok (.iaload, 1) := by decide +kernel
theorem dL_law_1480 : decode cL_law 1480 = .ok (.invokevirtual 153, 3) := by decide +kernel
theorem dL_law_1483 : decode cL_law 1483 = .ok (.aload_n 2, 1) := by decide +kernel
theorem dL_law_1484 : decode cL_law 1484 = .ok (.aload_n 0, 1) := by decide +kernel
theorem dL_law_1485 : decode cL_law 1485 = .ok (.iload 4, 2) := by decide +kernel
theorem dL_law_1487 : decode cL_law 1487 = .ok (.iconst 1, 1) := by decide +kernel
theorem dL_law_1488 : decode cL_law 1488 = .ok (.iadd, 1) := by decide +kernel
theorem dL_law_1489 : decode cL_law 1489 = .ok (.iaload, 1) := by decide +kernel
theorem dL_law_1490 : decode cL_law 1490 = .ok (.aload_n 0, 1) := by decide +kernel
theorem dL_law_1491 : decode cL_law 1491 = .ok (.iload 4, 2) := by decide +kernel
theorem dL_law_1493 : decode cL_law 1493 = .ok (.iconst 2, 1) := by decide +kernel
theorem dL_law_1494 : decode cL_law 1494 = .ok (.iadd, 1) := by decide +kernel
theorem dL_law_1495 : decode cL_law 1495 = .ok (.iaload, 1) := by decide +kernel
theorem dL_law_1496 : decode cL_law 1496 = .ok (.aload_n 0, 1) := by decide +kernel
theorem dL_law_1497 : decode cL_law 1497 = .ok (.iload 4, 2) := by decide +kernel
theorem dL_law_1499 : decode cL_law 1499 = .ok (.iconst 3, 1) := by decide +kernel
theorem dL_law_1500 : decode cL_law 1500 = .ok (.iadd, 1) := by decide +kernel
theorem dL_law_1501 : decode cL_law 1501 = .ok (.iaload, 1) := by decide +kernel
theorem dL_law_1502 : decode cL_law 1502 = .ok (.invokevirtual 156, 3) := by decide +kernel
theorem dL_law_1505 : decode cL_law 1505 = .ok (.if_icmp .eq 470, 3) := by decide +kernel
theorem dL_law_1508 : decode cL_law 1508 = .ok (.iconst 0, 1) := by decide +kernel
theorem dL_law_1509 : decode cL_law 1509 = .ok (.ireturn, 1) := by decide +kernel
theorem dL_law_1510 : decode cL_law 1510 = .ok (.aload_n 1, 1) := by decide +kernel
theorem dL_law_1511 : decode cL_law 1511 = .ok (.aload_n 0, 1) := by decide +kernel
theorem dL_law_1512 : decode cL_law 1512 = .ok (.iload 4, 2) := by decide +kernel
theorem dL_law_1514 : decode cL_law 1514 = .ok (.iconst 1, 1) := by decide +kernel
theorem dL_law_1515 : decode cL_law 1515 = .ok (.iadd, 1) := by decide +kernel
theorem dL_law_1516 : decode cL_law 1516 = .ok (.iaload, 1) := by decide +kernel
theorem dL_law_1517 : decode cL_law 1517 = .ok (.aload_n 0, 1) := by decide +kernel
theorem dL_law_1518 : decode cL_law 1518 = .ok (.iload 4, 2) := by decide +kernel
theorem dL_law_1520 : decode cL_law 1520 = .ok (.iconst 2, 1) := by decide +kernel
theorem dL_law_1521 : decode cL_law 1521 = .ok (.iadd, 1) := by decide +kernel
theorem dL_law_1522 : decode cL_law 1522 = .ok (.iaload, 1) := by decide +kernel
theorem dL_law_1523 : decode cL_law 1523 = .ok (.aload_n 0, 1) := by decide +kernel
theorem dL_law_1524 : decode cL_law 1524 = .ok (.iload 4, 2) := by decide +kernel
theorem dL_law_1526 : decode cL_law 1526 = .ok (.iconst 3, 1) := by decide +kernel
theorem dL_law_1527 : decode cL_law 1527 = .ok (.iadd, 1) := by decide +kernel
theorem dL_law_1528 : decode cL_law 1528 = .ok (.iaload, 1) := by decide +kernel
theorem dL_law_1529 : decode cL_law 1529 = .ok (.invokevirtual 157, 3) := by decide +kernel
theorem dL_law_1532 : decode cL_law 1532 = .ok (.aload_n 2, 1) := by decide +kernel
theorem dL_law_1533 : decode cL_law 1533 = .ok (.aload_n 0, 1) := by decide +kernel
theorem dL_law_1534 : decode cL_law 1534 = .ok (.iload 4, 2) := by decide +kernel
theorem dL_law_1536 : decode cL_law 1536 = .ok (.iconst 1, 1) := by decide +kernel
theorem dL_law_1537 : decode cL_law 1537 = .ok (.iadd, 1) := by decide +kernel
theorem dL_law_1538 : decode cL_law 1538 = .ok (.iaload, 1) := by decide +kernel
theorem dL_law_1539 : decode cL_law 1539 = .ok (.aload_n 0, 1) := by decide +kernel
theorem dL_law_1540 : decode cL_law 1540 = .ok (.iload 4, 2) := by decide +kernel
theorem dL_law_1542 : decode cL_law 1542 = .ok (.iconst 2, 1) := by decide +kernel
theorem dL_law_1543 : decode cL_law 1543 = .ok (.iadd, 1) := by decide +kernel
theorem dL_law_1544 : decode cL_law 1544 = .ok (.iaload, 1) := by decide +kernel
theorem dL_law_1545 : decode cL_law 1545 = .ok (.aload_n 0, 1) := by decide +kernel
theorem dL_law_1546 : decode cL_law 1546 = .ok (.iload 4, 2) := by decide +kernel
theorem dL_law_1548 : decode cL_law 1548 = .ok (.iconst 3, 1) := by decide +kernel
theorem dL_law_1549 : decode cL_law 1549 = .ok (.iadd, 1) := by decide +kernel
theorem dL_law_1550 : decode cL_law 1550 = .ok (.iaload, 1) := by decide +kernel
theorem dL_law_1551 : decode cL_law 1551 = .ok (.invokevirtual 160, 3) := by decide +kernel
theorem dL_law_1554 : decode cL_law 1554 = .ok (.if_icmp .eq 421, 3) := by decide +kernel
theorem dL_law_1557 : decode cL_law 1557 = .ok (.iconst 0, 1) := by decide +kernel
theorem dL_law_1558 : decode cL_law 1558 = .ok (.ireturn, 1) := by decide +kernel
theorem dL_law_1559 : decode cL_law 1559 = .ok (.aload_n 1, 1) := by decide +kernel
theorem dL_law_1560 : decode cL_law 1560 = .ok (.aload_n 0, 1) := by decide +kernel
theorem dL_law_1561 : decode cL_law 1561 = .ok (.iload 4, 2) := by decide +kernel
theorem dL_law_1563 : decode cL_law 1563 = .ok (.iconst 1, 1) := by decide +kernel
theorem dL_law_1564 : decode cL_law 1564 = .ok (.iadd, 1) := by decide +kernel
theorem dL_law_1565 : decode cL_law 1565 = .ok (.iaload, 1) := by decide +kernel
theorem dL_law_1566 : decode cL_law 1566 = .ok (.aload_n 0, 1) := by decide +kernel
theorem dL_law_1567 : decode cL_law 1567 = .ok (.iload 4, 2) := by decide +kernel
theorem dL_law_1569 : decode cL_law 1569 = .ok (.iconst 2, 1) := by decide +kernel
theorem dL_law_1570 : decode cL_law 1570 = .ok (.iadd, 1) := by decide +kernel
theorem dL_law_1571 : decode cL_law 1571 = .ok (.iaload, 1) := by decide +kernel
theorem dL_law_1572 : decode cL_law 1572 = .ok (.aload_n 0, 1) := by decide +kernel
theorem dL_law_1573 : decode cL_law 1573 = .ok (.iload 4, 2) := by decide +kernel
theorem dL_law_1575 : decode cL_law 1575 = .ok (.iconst 3, 1) := by decide +kernel
theorem dL_law_1576 : decode cL_law 1576 = .ok (.iadd, 1) := by decide +kernel
theorem dL_law_1577 : decode cL_law 1577 = .ok (.iaload, 1) := by decide +kernel
theorem dL_law_1578 : decode cL_law 1578 = .ok (.invokevirtual 161, 3) := by decide +kernel
theorem dL_law_1581 : decode cL_law 1581 = .ok (.aload_n 2, 1) := by decide +kernel
theorem dL_law_1582 : decode cL_law 1582 = .ok (.aload_n 0, 1) := by decide +kernel
theorem dL_law_1583 : decode cL_law 1583 = .ok (.iload 4, 2) := by decide +kernel
theorem dL_law_1585 : decode cL_law 1585 = .ok (.iconst 1, 1) := by decide +kernel
theorem dL_law_1586 : decode cL_law 1586 = .ok (.iadd, 1) := by decide +kernel
theorem dL_law_1587 : decode cL_law 1587 = .ok (.iaload, 1) := by decide +kernel
theorem dL_law_1588 : decode cL_law 1588 = .ok (.aload_n 0, 1) := by decide +kernel
theorem dL_law_1589 : decode cL_law 1589 = .ok (.iload 4, 2) := by decide +kernel
theorem dL_law_1591 : decode cL_law 1591 = .ok (.iconst 2, 1) := by decide +kernel
theorem dL_law_1592 : decode cL_law 1592 = .ok (.iadd, 1) := by decide +kernel
theorem dL_law_1593 : decode cL_law 1593 = .ok (.iaload, 1) := by decide +kernel
theorem dL_law_1594 : decode cL_law 1594 = .ok (.aload_n 0, 1) := by decide +kernel
theorem dL_law_1595 : decode cL_law 1595 = .ok (.iload 4, 2) := by decide +kernel
theorem dL_law_1597 : decode cL_law 1597 = .ok (.iconst 3, 1) := by decide +kernel
theorem dL_law_1598 : decode cL_law 1598 = .ok (.iadd, 1) := by decide +kernel
theorem dL_law_1599 : decode cL_law 1599 = .ok (.iaload, 1) := by decide +kernel
theorem dL_law_1600 : decode cL_law 1600 = .ok (.invokevirtual 164, 3) := by decide +kernel
theorem dL_law_1603 : decode cL_law 1603 = .ok (.if_icmp .eq 372, 3) := by decide +kernel
theorem dL_law_1606 : decode cL_law 1606 = .ok (.iconst 0, 1) := by decide +kernel
theorem dL_law_1607 : decode cL_law 1607 = .ok (.ireturn, 1) := by decide +kernel
theorem dL_law_1608 : decode cL_law 1608 = .ok (.aload_n 1, 1) := by decide +kernel
theorem dL_law_1609 : decode cL_law 1609 = .ok (.invokevirtual 165, 3) := by decide +kernel
theorem dL_law_1612 : decode cL_law 1612 = .ok (.aload_n 2, 1) := by decide +kernel
theorem dL_law_1613 : decode cL_law 1613 = .ok (.invokevirtual 168, 3) := by decide +kernel
theorem dL_law_1616 : decode cL_law 1616 = .ok (.if_icmp .eq 359, 3) := by decide +kernel
theorem dL_law_1619 : decode cL_law 1619 = .ok (.iconst 0, 1) := by decide +kernel
theorem dL_law_1620 : decode cL_law 1620 = .ok (.ireturn, 1) := by decide +kernel
theorem dL_law_1621 : decode cL_law 1621 = .ok (.aload_n 1, 1) := by decide +kernel
theorem dL_law_1622 : decode cL_law 1622 = .ok (.aload_n 0, 1) := by decide +kernel
theorem dL_law_1623 : decode cL_law 1623 = .ok (.iload 4, 2) := by decide +kernel
theorem dL_law_1625 : decode cL_law 1625 = .ok (.iconst 1, 1) := by decide +kernel
theorem dL_law_1626 : decode cL_law 1626 = .ok (.iadd, 1) := by decide +kernel
theorem dL_law_1627 : decode cL_law 1627 = .ok (.iaload, 1) := by decide +kernel
theorem dL_law_1628 : decode cL_law 1628 = .ok (.aload_n 0, 1) := by decide +kernel
theorem dL_law_1629 : decode cL_law 1629 = .ok (.iload 4, 2) := by decide +kernel
theorem dL_law_1631 : decode cL_law 1631 = .ok (.iconst 2, 1) := by decide +kernel
theorem dL_law_1632 : decode cL_law 1632 = .ok (.iadd, 1) := by decide +kernel
theorem dL_law_1633 : decode cL_law 1633 = .ok (.iaload, 1) := by decide +kernel
theorem dL_law_1634 : decode cL_law 1634 = .ok (.aload_n 0, 1) := by decide +kernel
theorem dL_law_1635 : decode cL_law 1635 = .ok (.iload 4, 2) := by decide +kernel
theorem dL_law_1637 : decode cL_law 1637 = .ok (.iconst 3, 1) := by decide +kernel
theorem dL_law_1638 : decode cL_law 1638 = .ok (.iadd, 1) := by decide +kernel
theorem dL_law_1639 : decode cL_law 1639 = .ok (.iaload, 1) := by decide +kernel
theorem dL_law_1640 : decode cL_law 1640 = .ok (.invokevirtual 169, 3) := by decide +kernel
theorem dL_law_1643 : decode cL_law 1643 = .ok (.aload_n 2, 1) := by decide +kernel
theorem dL_law_1644 : decode cL_law 1644 = .ok (.aload_n 0, 1) := by decide +kernel
theorem dL_law_1645 : decode cL_law 1645 = .ok (.iload 4, 2) := by decide +kernel
theorem dL_law_1647 : decode cL_law 1647 = .ok (.iconst 1, 1) := by decide +kernel
theorem dL_law_1648 : decode cL_law 1648 = .ok (.iadd, 1) := by decide +kernel
theorem dL_law_1649 : decode cL_law 1649 = .ok (.iaload, 1) := by decide +kernel
theorem dL_law_1650 : decode cL_law 1650 = .ok (.aload_n 0, 1) := by decide +kernel
theorem dL_law_1651 : decode cL_law 1651 = .ok (.iload 4, 2) := by decide +kernel
theorem dL_law_1653 : decode cL_law 1653 = .ok (.iconst 2, 1) := by decide +kernel
theorem dL_law_1654 : decode cL_law 1654 = .ok (.iadd, 1) := by decide +kernel
theorem dL_law_1655 : decode cL_law 1655 = .ok (.iaload, 1) := by decide +kernel
theorem dL_law_1656 : decode cL_law 1656 = .ok (.aload_n 0, 1) := by decide +kernel
theorem dL_law_1657 : decode cL_law 1657 = .ok (.iload 4, 2) := by decide +kernel
theorem dL_law_1659 : decode cL_law 1659 = .ok (.iconst 3, 1) := by decide +kernel
theorem dL_law_1660 : decode cL_law 1660 = .ok (.iadd, 1) := by decide +kernel
theorem dL_law_1661 : decode cL_law 1661 = .ok (.iaload, 1) := by decide +kernel
theorem dL_law_1662 : decode cL_law 1662 = .ok (.invokevirtual 172, 3) := by decide +kernel
theorem dL_law_1665 : decode cL_law 1665 = .ok (.if_icmp .eq 310, 3) := by decide +kernel
theorem dL_law_1668 : decode cL_law 1668 = .ok (.iconst 0, 1) := by decide +kernel
theorem dL_law_1669 : decode cL_law 1669 = .ok (.ireturn, 1) := by decide +kernel
theorem dL_law_1670 : decode cL_law 1670 = .ok (.aload_n 1, 1) := by decide +kernel
theorem dL_law_1671 : decode cL_law 1671 = .ok (.aload_n 0, 1) := by decide +kernel
theorem dL_law_1672 : decode cL_law 1672 = .ok (.iload 4, 2) := by decide +kernel
theorem dL_law_1674 : decode cL_law 1674 = .ok (.iconst 1, 1) := by decide +kernel
theorem dL_law_1675 : decode cL_law 1675 = .ok (.iadd, 1) := by decide +kernel
theorem dL_law_1676 : decode cL_law 1676 = .ok (.iaload, 1) := by decide +kernel
theorem dL_law_1677 : decode cL_law 1677 = .ok (.aload_n 0, 1) := by decide +kernel
theorem dL_law_1678 : decode cL_law 1678 = .ok (.iload 4, 2) := by decide +kernel
theorem dL_law_1680 : decode cL_law 1680 = .ok (.iconst 2, 1) := by decide +kernel
theorem dL_law_1681 : decode cL_law 1681 = .ok (.iadd, 1) := by decide +kernel
theorem dL_law_1682 : decode cL_law 1682 = .ok (.iaload, 1) := by decide +kernel
theorem dL_law_1683 : decode cL_law 1683 = .ok (.ifCond .eq 7, 3) := by decide +kernel
theorem dL_law_1686 : decode cL_law 1686 = .ok (.iconst 1, 1) := by decide +kernel
theorem dL_law_1687 : decode cL_law 1687 = .ok (.goto 4, 3) := by decide +kernel
theorem dL_law_1690 : decode cL_law 1690 = .ok (.iconst 0, 1) := by decide +kernel
theorem dL_law_1691 : decode cL_law 1691 = .ok (.invokevirtual 173, 3) := by decide +kernel
theorem dL_law_1694 : decode cL_law 1694 = .ok (.aload_n 2, 1) := by decide +kernel
theorem dL_law_1695 : decode cL_law 1695 = .ok (.aload_n 0, 1) := by decide +kernel
theorem dL_law_1696 : decode cL_law 1696 = .ok (.iload 4, 2) := by decide +kernel
theorem dL_law_1698 : decode cL_law 1698 = .ok (.iconst 1, 1) := by decide +kernel
theorem dL_law_1699 : decode cL_law 1699 = .ok (.iadd, 1) := by decide +kernel
theorem dL_law_1700 : decode cL_law 1700 = .ok (.iaload, 1) := by decide +kernel
theorem dL_law_1701 : decode cL_law 1701 = .ok (.aload_n 0, 1) := by decide +kernel
theorem dL_law_1702 : decode cL_law 1702 = .ok (.iload 4, 2) := by decide +kernel
theorem dL_law_1704 : decode cL_law 1704 = .ok (.iconst 2, 1) := by decide +kernel
theorem dL_law_1705 : decode cL_law 1705 = .ok (.iadd, 1) := by decide +kernel
theorem dL_law_1706 : decode cL_law 1706 = .ok (.iaload, 1) := by decide +kernel
theorem dL_law_1707 : decode cL_law 1707 = .ok (.ifCond .eq 7, 3) := by decide +kernel
theorem dL_law_1710 : decode cL_law 1710 = .ok (.iconst 1, 1) := by decide +kernel
theorem dL_law_1711 : decode cL_law 1711 = .ok (.goto 4, 3) := by decide +kernel
theorem dL_law_1714 : decode cL_law 1714 = .ok (.iconst 0, 1) := by decide +kernel
theorem dL_law_1715 : decode cL_law 1715 = .ok (.invokevirtual 177, 3) := by decide +kernel
theorem dL_law_1718 : decode cL_law 1718 = .ok (.if_icmp .eq 257, 3) := by decide +kernel
theorem dL_law_1721 : decode cL_law 1721 = .ok (.iconst 0, 1) := by decide +kernel
theorem dL_law_1722 : decode cL_law 1722 = .ok (.ireturn, 1) := by decide +kernel
theorem dL_law_1723 : decode cL_law 1723 = .ok (.aload_n 1, 1) := by decide +kernel
theorem dL_law_1724 : decode cL_law 1724 = .ok (.aload_n 0, 1) := by decide +kernel
theorem dL_law_1725 : decode cL_law 1725 = .ok (.iload 4, 2) := by decide +kernel
theorem dL_law_1727 : decode cL_law 1727 = .ok (.iconst 1, 1) := by decide +kernel
theorem dL_law_1728 : decode cL_law 1728 = .ok (.iadd, 1) := by decide +kernel
theorem dL_law_1729 : decode cL_law 1729 = .ok (.iaload, 1) := by decide +kernel
theorem dL_law_1730 : decode cL_law 1730 = .ok (.aload_n 0, 1) := by decide +kernel
theorem dL_law_1731 : decode cL_law 1731 = .ok (.iload 4, 2) := by decide +kernel
theorem dL_law_1733 : decode cL_law 1733 = .ok (.iconst 2, 1) := by decide +kernel
theorem dL_law_1734 : decode cL_law 1734 = .ok (.iadd, 1) := by decide +kernel
theorem dL_law_1735 : decode cL_law 1735 = .ok (.iaload, 1) := by decide +kernel
theorem dL_law_1736 : decode cL_law 1736 = .ok (.aload_n 0, 1) := by decide +kernel
theorem dL_law_1737 : decode cL_law 1737 = .ok (.iload 4, 2) := by decide +kernel
theorem dL_law_1739 : decode cL_law 1739 = .ok (.iconst 3, 1) := by decide +kernel
theorem dL_law_1740 : decode cL_law 1740 = .ok (.iadd, 1) := by decide +kernel
theorem dL_law_1741 : decode cL_law 1741 = .ok (.iaload, 1) := by decide +kernel
theorem dL_law_1742 : decode cL_law 1742 = .ok (.aload_n 0, 1) := by decide +kernel
theorem dL_law_1743 : decode cL_law 1743 = .ok (.iload 4, 2) := by decide +kernel
theorem dL_law_1745 : decode cL_law 1745 = .ok (.iconst 4, 1) := by decide +kernel
theorem dL_law_1746 : decode cL_law 1746 = .ok (.iadd, 1) := by decide +kernel
theorem dL_law_1747 : decode cL_law 1747 = .ok (.iaload, 1) := by decide +kernel
theorem dL_law_1748 : decode cL_law 1748 = .ok (.invokevirtual 178, 3) := by decide +kernel
theorem dL_law_1751 : decode cL_law 1751 = .ok (.aload_n 2, 1) := by decide +kernel
theorem dL_law_1752 : decode cL_law 1752 = .ok (.aload_n 0, 1) := by decide +kernel
theorem dL_law_1753 : decode cL_law 1753 = .ok (.iload 4, 2) := by decide +kernel
theorem dL_law_1755 : decode cL_law 1755 = .ok (.iconst 1, 1) := by decide +kernel
theorem dL_law_1756 : decode cL_law 1756 = .ok (.iadd, 1) := by decide +kernel
theorem dL_law_1757 : decode cL_law 1757 = .ok (.iaload, 1) := by decide +kernel
theorem dL_law_1758 : decode cL_law 1758 = .ok (.aload_n 0, 1) := by decide +kernel
theorem dL_law_1759 : decode cL_law 1759 = .ok (.iload 4, 2) := by decide +kernel
theorem dL_law_1761 : decode cL_law 1761 = .ok (.iconst 2, 1) := by decide +kernel
theorem dL_law_1762 : decode cL_law 1762 = .ok (.iadd, 1) := by decide +kernel
theorem dL_law_1763 : decode cL_law 1763 = .ok (.iaload, 1) := by decide +kernel
theorem dL_law_1764 : decode cL_law 1764 = .ok (.aload_n 0, 1) := by decide +kernel
theorem dL_law_1765 : decode cL_law 1765 = .ok (.iload 4, 2) := by decide +kernel
theorem dL_law_1767 : decode cL_law 1767 = .ok (.iconst 3, 1) := by decide +kernel
theorem dL_law_1768 : decode cL_law 1768 = .ok (.iadd, 1) := by decide +kernel
theorem dL_law_1769 : decode cL_law 1769 = .ok (.iaload, 1) := by decide +kernel
theorem dL_law_1770 : decode cL_law 1770 = .ok (.aload_n 0, 1) := by decide +kernel
theorem dL_law_1771 : decode cL_law 1771 = .ok (.iload 4, 2) := by decide +kernel
theorem dL_law_1773 : decode cL_law 1773 = .ok (.iconst 4, 1) := by decide +kernel
theorem dL_law_1774 : decode cL_law 1774 = .ok (.iadd, 1) := by decide +kernel
theorem dL_law_1775 : decode cL_law 1775 = .ok (.iaload, 1) := by decide +kernel
theorem dL_law_1776 : decode cL_law 1776 = .ok (.invokevirtual 181, 3) := by decide +kernel
theorem dL_law_1779 : decode cL_law 1779 = .ok (.if_icmp .eq 196, 3) := by decide +kernel
theorem dL_law_1782 : decode cL_law 1782 = .ok (.iconst 0, 1) := by decide +kernel
theorem dL_law_1783 : decode cL_law 1783 = .ok (.ireturn, 1) := by decide +kernel
theorem dL_law_1784 : decode cL_law 1784 = .ok (.aload_n 1, 1) := by decide +kernel
theorem dL_law_1785 : decode cL_law 1785 = .ok (.aload_n 0, 1) := by decide +kernel
theorem dL_law_1786 : decode cL_law 1786 = .ok (.iload 4, 2) := by decide +kernel
theorem dL_law_1788 : decode cL_law 1788 = .ok (.iconst 1, 1) := by decide +kernel
theorem dL_law_1789 : decode cL_law 1789 = .ok (.iadd, 1) := by decide +kernel
theorem dL_law_1790 : decode cL_law 1790 = .ok (.iaload, 1) := by decide +kernel
theorem dL_law_1791 : decode cL_law 1791 = .ok (.aload_n 0, 1) := by decide +kernel
theorem dL_law_1792 : decode cL_law 1792 = .ok (.iload 4, 2) := by decide +kernel
theorem dL_law_1794 : decode cL_law 1794 = .ok (.iconst 2, 1) := by decide +kernel
theorem dL_law_1795 : decode cL_law 1795 = .ok (.iadd, 1) := by decide +kernel
theorem dL_law_1796 : decode cL_law 1796 = .ok (.iaload, 1) := by decide +kernel
theorem dL_law_1797 : decode cL_law 1797 = .ok (.aload_n 0, 1) := by decide +kernel
theorem dL_law_1798 : decode cL_law 1798 = .ok (.iload 4, 2) := by decide +kernel
theorem dL_law_1800 : decode cL_law 1800 = .ok (.iconst 3, 1) := by decide +kernel
theorem dL_law_1801 : decode cL_law 1801 = .ok (.iadd, 1) := by decide +kernel
theorem dL_law_1802 : decode cL_law 1802 = .ok (.iaload, 1) := by decide +kernel
theorem dL_law_1803 : decode cL_law 1803 = .ok (.aload_n 0, 1) := by decide +kernel
theorem dL_law_1804 : decode cL_law 1804 = .ok (.iload 4, 2) := by decide +kernel
theorem dL_law_1806 : decode cL_law 1806 = .ok (.iconst 4, 1) := by decide +kernel
theorem dL_law_1807 : decode cL_law 1807 = .ok (.iadd, 1) := by decide +kernel
theorem dL_law_1808 : decode cL_law 1808 = .ok (.iaload, 1) := by decide +kernel
theorem dL_law_1809 : decode cL_law 1809 = .ok (.invokevirtual 182, 3) := by decide +kernel
theorem dL_law_1812 : decode cL_law 1812 = .ok (.aload_n 2, 1) := by decide +kernel
theorem dL_law_1813 : decode cL_law 1813 = .ok (.aload_n 0, 1) := by decide +kernel
theorem dL_law_1814 : decode cL_law 1814 = .ok (.iload 4, 2) := by decide +kernel
theorem dL_law_1816 : decode cL_law 1816 = .ok (.iconst 1, 1) := by decide +kernel
theorem dL_law_1817 : decode cL_law 1817 = .ok (.iadd, 1) := by decide +kernel
theorem dL_law_1818 : decode cL_law 1818 = .ok (.iaload, 1) := by decide +kernel
theorem dL_law_1819 : decode cL_law 1819 = .ok (.aload_n 0, 1) := by decide +kernel
theorem dL_law_1820 : decode cL_law 1820 = .ok (.iload 4, 2) := by decide +kernel
theorem dL_law_1822 : decode cL_law 1822 = .ok (.iconst 2, 1) := by decide +kernel
theorem dL_law_1823 : decode cL_law 1823 = .ok (.iadd, 1) := by decide +kernel
theorem dL_law_1824 : decode cL_law 1824 = .ok (.iaload, 1) := by decide +kernel
theorem dL_law_1825 : decode cL_law 1825 = .ok (.aload_n 0, 1) := by decide +kernel
theorem dL_law_1826 : decode cL_law 1826 = .ok (.iload 4, 2) := by decide +kernel
theorem dL_law_1828 : decode cL_law 1828 = .ok (.iconst 3, 1) := by decide +kernel
theorem dL_law_1829 : decode cL_law 1829 = .ok (.iadd, 1) := by decide +kernel
theorem dL_law_1830 : decode cL_law 1830 = .ok (.iaload, 1) := by decide +kernel
theorem dL_law_1831 : decode cL_law 1831 = .ok (.aload_n 0, 1) := by decide +kernel
theorem dL_law_1832 : decode cL_law 1832 = .ok (.iload 4, 2) := by decide +kernel
theorem dL_law_1834 : decode cL_law 1834 = .ok (.iconst 4, 1) := by decide +kernel
theorem dL_law_1835 : decode cL_law 1835 = .ok (.iadd, 1) := by decide +kernel
theorem dL_law_1836 : decode cL_law 1836 = .ok (.iaload, 1) := by decide +kernel
theorem dL_law_1837 : decode cL_law 1837 = .ok (.invokevirtual 185, 3) := by decide +kernel
theorem dL_law_1840 : decode cL_law 1840 = .ok (.if_icmp .eq 135, 3) := by decide +kernel
theorem dL_law_1843 : decode cL_law 1843 = .ok (.iconst 0, 1) := by decide +kernel
theorem dL_law_1844 : decode cL_law 1844 = .ok (.ireturn, 1) := by decide +kernel
theorem dL_law_1845 : decode cL_law 1845 = .ok (.aload_n 1, 1) := by decide +kernel
theorem dL_law_1846 : decode cL_law 1846 = .ok (.aload_n 0, 1) := by decide +kernel
theorem dL_law_1847 : decode cL_law 1847 = .ok (.iload 4, 2) := by decide +kernel
theorem dL_law_1849 : decode cL_law 1849 = .ok (.iconst 1, 1) := by decide +kernel
theorem dL_law_1850 : decode cL_law 1850 = .ok (.iadd, 1) := by decide +kernel
theorem dL_law_1851 : decode cL_law 1851 = .ok (.iaload, 1) := by decide +kernel
theorem dL_law_1852 : decode cL_law 1852 = .ok (.aload_n 0, 1) := by decide +kernel
theorem dL_law_1853 : decode cL_law 1853 = .ok (.iload 4, 2) := by decide +kernel
theorem dL_law_1855 : decode cL_law 1855 = .ok (.iconst 2, 1) := by decide +kernel
theorem dL_law_1856 : decode cL_law 1856 = .ok (.iadd, 1) := by decide +kernel
theorem dL_law_1857 : decode cL_law 1857 = .ok (.iaload, 1) := by decide +kernel
theorem dL_law_1858 : decode cL_law 1858 = .ok (.invokevirtual 186, 3) := by decide +kernel
theorem dL_law_1861 : decode cL_law 1861 = .ok (.aload_n 2, 1) := by decide +kernel
theorem dL_law_1862 : decode cL_law 1862 = .ok (.aload_n 0, 1) := by decide +kernel
theorem dL_law_1863 : decode cL_law 1863 = .ok (.iload 4, 2) := by decide +kernel
theorem dL_law_1865 : decode cL_law 1865 = .ok (.iconst 1, 1) := by decide +kernel
theorem dL_law_1866 : decode cL_law 1866 = .ok (.iadd, 1) := by decide +kernel
theorem dL_law_1867 : decode cL_law 1867 = .ok (.iaload, 1) := by decide +kernel
theorem dL_law_1868 : decode cL_law 1868 = .ok (.aload_n 0, 1) := by decide +kernel
theorem dL_law_1869 : decode cL_law 1869 = .ok (.iload 4, 2) := by decide +kernel
theorem dL_law_1871 : decode cL_law 1871 = .ok (.iconst 2, 1) := by decide +kernel
theorem dL_law_1872 : decode cL_law 1872 = .ok (.iadd, 1) := by decide +kernel
theorem dL_law_1873 : decode cL_law 1873 = .ok (.iaload, 1) := by decide +kernel
theorem dL_law_1874 : decode cL_law 1874 = .ok (.invokevirtual 189, 3) := by decide +kernel
theorem dL_law_1877 : decode cL_law 1877 = .ok (.if_icmp .eq 98, 3) := by decide +kernel
theorem dL_law_1880 : decode cL_law 1880 = .ok (.iconst 0, 1) := by decide +kernel
theorem dL_law_1881 : decode cL_law 1881 = .ok (.ireturn, 1) := by decide +kernel
theorem dL_law_1882 : decode cL_law 1882 = .ok (.aload_n 1, 1) := by decide +kernel
theorem dL_law_1883 : decode cL_law 1883 = .ok (.aload_n 0, 1) := by decide +kernel
theorem dL_law_1884 : decode cL_law 1884 = .ok (.iload 4, 2) := by decide +kernel
theorem dL_law_1886 : decode cL_law 1886 = .ok (.iconst 1, 1) := by decide +kernel
theorem dL_law_1887 : decode cL_law 1887 = .ok (.iadd, 1) := by decide +kernel
theorem dL_law_1888 : decode cL_law 1888 = .ok (.iaload, 1) := by decide +kernel
theorem dL_law_1889 : decode cL_law 1889 = .ok (.aload_n 0, 1) := by decide +kernel
theorem dL_law_1890 : decode cL_law 1890 = .ok (.iload 4, 2) := by decide +kernel
theorem dL_law_1892 : decode cL_law 1892 = .ok (.iconst 2, 1) := by decide +kernel
theorem dL_law_1893 : decode cL_law 1893 = .ok (.iadd, 1) := by decide +kernel
theorem dL_law_1894 : decode cL_law 1894 = .ok (.iaload, 1) := by decide +kernel
theorem dL_law_1895 : decode cL_law 1895 = .ok (.invokevirtual 190, 3) := by decide +kernel
theorem dL_law_1898 : decode cL_law 1898 = .ok (.aload_n 2, 1) := by decide +kernel
theorem dL_law_1899 : decode cL_law 1899 = .ok (.aload_n 0, 1) := by decide +kernel
theorem dL_law_1900 : decode cL_law 1900 = .ok (.iload 4, 2) := by decide +kernel
theorem dL_law_1902 : decode cL_law 1902 = .ok (.iconst 1, 1) := by decide +kernel
theorem dL_law_1903 : decode cL_law 1903 = .ok (.iadd, 1) := by decide +kernel
theorem dL_law_1904 : decode cL_law 1904 = .ok (.iaload, 1) := by decide +kernel
theorem dL_law_1905 : decode cL_law 1905 = .ok (.aload_n 0, 1) := by decide +kernel
theorem dL_law_1906 : decode cL_law 1906 = .ok (.iload 4, 2) := by decide +kernel
theorem dL_law_1908 : decode cL_law 1908 = .ok (.iconst 2, 1) := by decide +kernel
theorem dL_law_1909 : decode cL_law 1909 = .ok (.iadd, 1) := by decide +kernel
theorem dL_law_1910 : decode cL_law 1910 = .ok (.iaload, 1) := by decide +kernel
theorem dL_law_1911 : decode cL_law 1911 = .ok (.invokevirtual 193, 3) := by decide +kernel
theorem dL_law_1914 : decode cL_law 1914 = .ok (.if_icmp .eq 61, 3) := by decide +kernel
theorem dL_law_1917 : decode cL_law 1917 = .ok (.iconst 0, 1) := by decide +kernel
theorem dL_law_1918 : decode cL_law 1918 = .ok (.ireturn, 1) := by decide +kernel
theorem dL_law_1919 : decode cL_law 1919 = .ok (.aload_n 1, 1) := by decide +kernel
theorem dL_law_1920 : decode cL_law 1920 = .ok (.aload_n 0, 1) := by decide +kernel
theorem dL_law_1921 : decode cL_law 1921 = .ok (.iload 4, 2) := by decide +kernel
theorem dL_law_1923 : decode cL_law 1923 = .ok (.iconst 1, 1) := by decide +kernel
theorem dL_law_1924 : decode cL_law 1924 = .ok (.iadd, 1) := by decide +kernel
theorem dL_law_1925 : decode cL_law 1925 = .ok (.iaload, 1) := by decide +kernel
theorem dL_law_1926 : decode cL_law 1926 = .ok (.aload_n 3, 1) := by decide +kernel
theorem dL_law_1927 : decode cL_law 1927 = .ok (.invokestatic 194, 3) := by decide +kernel
theorem dL_law_1930 : decode cL_law 1930 = .ok (.istore 5, 2) := by decide +kernel
theorem dL_law_1932 : decode cL_law 1932 = .ok (.aload_n 2, 1) := by decide +kernel
theorem dL_law_1933 : decode cL_law 1933 = .ok (.aload_n 0, 1) := by decide +kernel
theorem dL_law_1934 : decode cL_law 1934 = .ok (.iload 4, 2) := by decide +kernel
theorem dL_law_1936 : decode cL_law 1936 = .ok (.iconst 1, 1) := by decide +kernel
theorem dL_law_1937 : decode cL_law 1937 = .ok (.iadd, 1) := by decide +kernel
theorem dL_law_1938 : decode cL_law 1938 = .ok (.iaload, 1) := by decide +kernel
theorem dL_law_1939 : decode cL_law 1939 = .ok (.invokevirtual 197, 3) := by decide +kernel
theorem dL_law_1942 : decode cL_law 1942 = .ok (.istore 6, 2) := by decide +kernel
theorem dL_law_1944 : decode cL_law 1944 = .ok (.aload_n 2, 1) := by decide +kernel
theorem dL_law_1945 : decode cL_law 1945 = .ok (.invokevirtual 94, 3) := by decide +kernel
theorem dL_law_1948 : decode cL_law 1948 = .ok (.iload 5, 2) := by decide +kernel
theorem dL_law_1950 : decode cL_law 1950 = .ok (.if_icmp .eq 5, 3) := by decide +kernel
theorem dL_law_1953 : decode cL_law 1953 = .ok (.iconst 0, 1) := by decide +kernel
theorem dL_law_1954 : decode cL_law 1954 = .ok (.ireturn, 1) := by decide +kernel
theorem dL_law_1955 : decode cL_law 1955 = .ok (.iload 5, 2) := by decide +kernel
theorem dL_law_1957 : decode cL_law 1957 = .ok (.ifCond .ne 15, 3) := by decide +kernel
theorem dL_law_1960 : decode cL_law 1960 = .ok (.aload_n 3, 1) := by decide +kernel
theorem dL_law_1961 : decode cL_law 1961 = .ok (.iconst 0, 1) := by decide +kernel
theorem dL_law_1962 : decode cL_law 1962 = .ok (.laload, 1) := by decide +kernel
theorem dL_law_1963 : decode cL_law 1963 = .ok (.iload 6, 2) := by decide +kernel
theorem dL_law_1965 : decode cL_law 1965 = .ok (.i2l, 1) := by decide +kernel
theorem dL_law_1966 : decode cL_law 1966 = .ok (.lcmp, 1) := by decide +kernel
theorem dL_law_1967 : decode cL_law 1967 = .ok (.ifCond .eq 5, 3) := by decide +kernel
theorem dL_law_1970 : decode cL_law 1970 = .ok (.iconst 0, 1) := by decide +kernel
theorem dL_law_1971 : decode cL_law 1971 = .ok (.ireturn, 1) := by decide +kernel
theorem dL_law_1972 : decode cL_law 1972 = .ok (.goto 3, 3) := by decide +kernel
theorem dL_law_1975 : decode cL_law 1975 = .ok (.iinc 4 7, 3) := by decide +kernel
theorem dL_law_1978 : decode cL_law 1978 = .ok (.goto (-1955), 3) := by decide +kernel
theorem dL_law_1981 : decode cL_law 1981 = .ok (.iconst 1, 1) := by decide +kernel
theorem dL_law_1982 : decode cL_law 1982 = .ok (.ireturn, 1) := by decide +kernel

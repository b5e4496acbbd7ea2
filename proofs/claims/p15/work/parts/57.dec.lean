theorem dX0_init_0 : decode cX0_init 0 = .ok (.aload_n 0, 1) := by decide +kernel
theorem dX0_init_1 : decode cX0_init 1 = .ok (.invokespecial 3, 3) := by decide +kernel
theorem dX0_init_4 : decode cX0_init 4 = .ok (.aload_n 0, 1) := by decide +kernel
theorem dX0_init_5 : decode cX0_init 5 = .ok (.aload_n 1, 1) := by decide +kernel
theorem dX0_init_6 : decode cX0_init 6 = .ok (.putfield 9, 3) := by decide +kernel
theorem dX0_init_9 : decode cX0_init 9 = .ok (.aload_n 0, 1) := by decide +kernel
theorem dX0_init_10 : decode cX0_init 10 = .ok (.bipush 10, 2) := by decide +kernel
theorem dX0_init_12 : decode cX0_init 12 = .ok (.anewarray 15, 3) := by decide +kernel
theorem dX0_init_15 : decode cX0_init 15 = .ok (.putfield 17, 3) := by decide +kernel
theorem dX0_init_18 : decode cX0_init 18 = .ok (.aload_n 0, 1) := by decide +kernel
theorem dX0_init_19 : decode cX0_init 19 = .ok (.bipush 10, 2) := by decide +kernel
theorem dX0_init_21 : decode cX0_init 21 = .ok (.newarray .int, 2) := by decide +kernel
theorem dX0_init_23 : decode cX0_init 23 = .ok (.putfield 21, 3) := by decide +kernel
theorem dX0_init_26 : decode cX0_init 26 = .ok (.aload_n 0, 1) := by decide +kernel
theorem dX0_init_27 : decode cX0_init 27 = .ok (.new 25, 3) := by decide +kernel
theorem dX0_init_30 : decode cX0_init 30 = .ok (.dup, 1) := by decide +kernel
theorem dX0_init_31 : decode cX0_init 31 = .ok (.bipush 20, 2) := by decide +kernel
theorem dX0_init_33 : decode cX0_init 33 = .ok (.iconst 4, 1) := by decide +kernel
theorem dX0_init_34 : decode cX0_init 34 = .ok (.invokespecial 27, 3) := by decide +kernel
theorem dX0_init_37 : decode cX0_init 37 = .ok (.putfield 30, 3) := by decide +kernel
theorem dX0_init_40 : decode cX0_init 40 = .ok (.iconst 0, 1) := by decide +kernel
theorem dX0_init_41 : decode cX0_init 41 = .ok (.istore_n 2, 1) := by decide +kernel
theorem dX0_init_42 : decode cX0_init 42 = .ok (.iload_n 2, 1) := by decide +kernel
theorem dX0_init_43 : decode cX0_init 43 = .ok (.bipush 10, 2) := by decide +kernel
theorem dX0_init_45 : decode cX0_init 45 = .ok (.if_icmp .ge 22, 3) := by decide +kernel
theorem dX0_init_48 : decode cX0_init 48 = .ok (.aload_n 0, 1) := by decide +kernel
theorem dX0_init_49 : decode cX0_init 49 = .ok (.getfield 17, 3) := by decide +kernel
theorem dX0_init_52 : decode cX0_init 52 = .ok (.iload_n 2, 1) := by decide +kernel
theorem dX0_init_53 : decode cX0_init 53 = .ok (.new 15, 3) := by decide +kernel
theorem dX0_init_56 : decode cX0_init 56 = .ok (.dup, 1) := by decide +kernel
theorem dX0_init_57 : decode cX0_init 57 = .ok (.invokespecial 34, 3) := by decide +kernel
theorem dX0_init_60 : decode cX0_init 60 = .ok (.aastore, 1) := by decide +kernel
theorem dX0_init_61 : decode cX0_init 61 = .ok (.iinc 2 1, 3) := by decide +kernel
theorem dX0_init_64 : decode cX0_init 64 = .ok (.goto (-22), 3) := by decide +kernel
theorem dX0_init_67 : decode cX0_init 67 = .ok (.return_, 1) := by decide +kernel
theorem dX1_init_0 : decode cX1_init 0 = .ok (.aload_n 0, 1) := by decide +kernel
theorem dX1_init_1 : decode cX1_init 1 = .ok (.invokespecial 3, 3) := by decide +kernel
theorem dX1_init_4 : decode cX1_init 4 = .ok (.aload_n 0, 1) := by decide +kernel
theorem dX1_init_5 : decode cX1_init 5 = .ok (.new 9, 3) := by decide +kernel
theorem dX1_init_8 : decode cX1_init 8 = .ok (.dup, 1) := by decide +kernel
theorem dX1_init_9 : decode cX1_init 9 = .ok (.iconst 4, 1) := by decide +kernel
theorem dX1_init_10 : decode cX1_init 10 = .ok (.iconst 2, 1) := by decide +kernel
theorem dX1_init_11 : decode cX1_init 11 = .ok (.invokespecial 11, 3) := by decide +kernel
theorem dX1_init_14 : decode cX1_init 14 = .ok (.putfield 14, 3) := by decide +kernel
theorem dX1_init_17 : decode cX1_init 17 = .ok (.aload_n 0, 1) := by decide +kernel
theorem dX1_init_18 : decode cX1_init 18 = .ok (.new 9, 3) := by decide +kernel
theorem dX1_init_21 : decode cX1_init 21 = .ok (.dup, 1) := by decide +kernel
theorem dX1_init_22 : decode cX1_init 22 = .ok (.bipush 12, 2) := by decide +kernel
theorem dX1_init_24 : decode cX1_init 24 = .ok (.iconst 3, 1) := by decide +kernel
theorem dX1_init_25 : decode cX1_init 25 = .ok (.invokespecial 11, 3) := by decide +kernel
theorem dX1_init_28 : decode cX1_init 28 = .ok (.putfield 20, 3) := by decide +kernel
theorem dX1_init_31 : decode cX1_init 31 = .ok (.aload_n 0, 1) := by decide +kernel
theorem dX1_init_32 : decode cX1_init 32 = .ok (.new 9, 3) := by decide +kernel
theorem dX1_init_35 : decode cX1_init 35 = .ok (.dup, 1) := by decide +kernel
theorem dX1_init_36 : decode cX1_init 36 = .ok (.iconst 5, 1) := by decide +kernel
theorem dX1_init_37 : decode cX1_init 37 = .ok (.iconst 3, 1) := by decide +kernel
theorem dX1_init_38 : decode cX1_init 38 = .ok (.invokespecial 11, 3) := by decide +kernel
theorem dX1_init_41 : decode cX1_init 41 = .ok (.putfield 23, 3) := by decide +kernel
theorem dX1_init_44 : decode cX1_init 44 = .ok (.aload_n 0, 1) := by decide +kernel
theorem dX1_init_45 : decode cX1_init 45 = .ok (.new 9, 3) := by decide +kernel
theorem dX1_init_48 : decode cX1_init 48 = .ok (.dup, 1) := by decide +kernel
theorem dX1_init_49 : decode cX1_init 49 = .ok (.iconst 4, 1) := by decide +kernel
theorem dX1_init_50 : decode cX1_init 50 = .ok (.iconst 2, 1) := by decide +kernel
theorem dX1_init_51 : decode cX1_init 51 = .ok (.invokespecial 11, 3) := by decide +kernel
theorem dX1_init_54 : decode cX1_init 54 = .ok (.putfield 26, 3) := by decide +kernel
theorem dX1_init_57 : decode cX1_init 57 = .ok (.aload_n 0, 1) := by decide +kernel
theorem dX1_init_58 : decode cX1_init 58 = .ok (.new 9, 3) := by decide +kernel
theorem dX1_init_61 : decode cX1_init 61 = .ok (.dup, 1) := by decide +kernel
theorem dX1_init_62 : decode cX1_init 62 = .ok (.iconst 2, 1) := by decide +kernel
theorem dX1_init_63 : decode cX1_init 63 = .ok (.iconst 3, 1) := by decide +kernel
theorem dX1_init_64 : decode cX1_init 64 = .ok (.invokespecial 11, 3) := by decide +kernel
theorem dX1_init_67 : decode cX1_init 67 = .ok (.putfield 29, 3) := by decide +kernel
theorem dX1_init_70 : decode cX1_init 70 = .ok (.aload_n 0, 1) := by decide +kernel
theorem dX1_init_71 : decode cX1_init 71 = .ok (.new 32, 3) := by decide +kernel
theorem dX1_init_74 : decode cX1_init 74 = .ok (.dup, 1) := by decide +kernel
theorem dX1_init_75 : decode cX1_init 75 = .ok (.invokespecial 34, 3) := by decide +kernel
theorem dX1_init_78 : decode cX1_init 78 = .ok (.putfield 35, 3) := by decide +kernel
theorem dX1_init_81 : decode cX1_init 81 = .ok (.return_, 1) := by decide +kernel
theorem dX2_init_0 : decode cX2_init 0 = .ok (.aload_n 0, 1) := by decide +kernel
theorem dX2_init_1 : decode cX2_init 1 = .ok (.invokespecial 3, 3) := by decide +kernel
theorem dX2_init_4 : decode cX2_init 4 = .ok (.aload_n 0, 1) := by decide +kernel
theorem dX2_init_5 : decode cX2_init 5 = .ok (.aload_n 1, 1) := by decide +kernel
theorem dX2_init_6 : decode cX2_init 6 = .ok (.putfield 9, 3) := by decide +kernel
theorem dX2_init_9 : decode cX2_init 9 = .ok (.aload_n 0, 1) := by decide +kernel
theorem dX2_init_10 : decode cX2_init 10 = .ok (.aload_n 2, 1) := by decide +kernel
theorem dX2_init_11 : decode cX2_init 11 = .ok (.putfield 15, 3) := by decide +kernel
theorem dX2_init_14 : decode cX2_init 14 = .ok (.aload_n 0, 1) := by decide +kernel
theorem dX2_init_15 : decode cX2_init 15 = .ok (.bipush 6, 2) := by decide +kernel
theorem dX2_init_17 : decode cX2_init 17 = .ok (.anewarray 19, 3) := by decide +kernel
theorem dX2_init_20 : decode cX2_init 20 = .ok (.putfield 21, 3) := by decide +kernel
theorem dX2_init_23 : decode cX2_init 23 = .ok (.aload_n 0, 1) := by decide +kernel
theorem dX2_init_24 : decode cX2_init 24 = .ok (.bipush 6, 2) := by decide +kernel
theorem dX2_init_26 : decode cX2_init 26 = .ok (.anewarray 25, 3) := by decide +kernel
theorem dX2_init_29 : decode cX2_init 29 = .ok (.putfield 27, 3) := by decide +kernel
theorem dX2_init_32 : decode cX2_init 32 = .ok (.aload_n 0, 1) := by decide +kernel
theorem dX2_init_33 : decode cX2_init 33 = .ok (.iconst 4, 1) := by decide +kernel
theorem dX2_init_34 : decode cX2_init 34 = .ok (.newarray .int, 2) := by decide +kernel
theorem dX2_init_36 : decode cX2_init 36 = .ok (.putfield 31, 3) := by decide +kernel
theorem dX2_init_39 : decode cX2_init 39 = .ok (.iconst 0, 1) := by decide +kernel
theorem dX2_init_40 : decode cX2_init 40 = .ok (.istore_n 3, 1) := by decide +kernel
theorem dX2_init_41 : decode cX2_init 41 = .ok (.iload_n 3, 1) := by decide +kernel
theorem dX2_init_42 : decode cX2_init 42 = .ok (.bipush 6, 2) := by decide +kernel
theorem dX2_init_44 : decode cX2_init 44 = .ok (.if_icmp .ge 35, 3) := by decide +kernel
theorem dX2_init_47 : decode cX2_init 47 = .ok (.aload_n 0, 1) := by decide +kernel
theorem dX2_init_48 : decode cX2_init 48 = .ok (.getfield 21, 3) := by decide +kernel
theorem dX2_init_51 : decode cX2_init 51 = .ok (.iload_n 3, 1) := by decide +kernel
theorem dX2_init_52 : decode cX2_init 52 = .ok (.new 19, 3) := by decide +kernel
theorem dX2_init_55 : decode cX2_init 55 = .ok (.dup, 1) := by decide +kernel
theorem dX2_init_56 : decode cX2_init 56 = .ok (.invokespecial 35, 3) := by decide +kernel
theorem dX2_init_59 : decode cX2_init 59 = .ok (.aastore, 1) := by decide +kernel
theorem dX2_init_60 : decode cX2_init 60 = .ok (.aload_n 0, 1) := by decide +kernel
theorem dX2_init_61 : decode cX2_init 61 = .ok (.getfield 27, 3) := by decide +kernel
theorem dX2_init_64 : decode cX2_init 64 = .ok (.iload_n 3, 1) := by decide +kernel
theorem dX2_init_65 : decode cX2_init 65 = .ok (.new 25, 3) := by decide +kernel
theorem dX2_init_68 : decode cX2_init 68 = .ok (.dup, 1) := by decide +kernel
theorem dX2_init_69 : decode cX2_init 69 = .ok (.invokespecial 36, 3) := by decide +kernel
theorem dX2_init_72 : decode cX2_init 72 = .ok (.aastore, 1) := by decide +kernel
theorem dX2_init_73 : decode cX2_init 73 = .ok (.iinc 3 1, 3) := by decide +kernel
theorem dX2_init_76 : decode cX2_init 76 = .ok (.goto (-35), 3) := by decide +kernel
theorem dX2_init_79 : decode cX2_init 79 = .ok (.return_, 1) := by decide +kernel
theorem dX3_init_0 : decode cX3_init 0 = .ok (.aload_n 0, 1) := by decide +kernel
theorem dX3_init_1 : decode cX3_init 1 = .ok (.invokespecial 3, 3) := by decide +kernel
theorem dX3_init_4 : decode cX3_init 4 = .ok (.aload_n 0, 1) := by decide +kernel
theorem dX3_init_5 : decode cX3_init 5 = .ok (.bipush 60, 2) := by decide +kernel
theorem dX3_init_7 : decode cX3_init 7 = .ok (.newarray .int, 2) := by decide +kernel
theorem dX3_init_9 : decode cX3_init 9 = .ok (.putfield 9, 3) := by decide +kernel
theorem dX3_init_12 : decode cX3_init 12 = .ok (.aload_n 0, 1) := by decide +kernel
theorem dX3_init_13 : decode cX3_init 13 = .ok (.bipush 60, 2) := by decide +kernel
theorem dX3_init_15 : decode cX3_init 15 = .ok (.newarray .boolean, 2) := by decide +kernel
theorem dX3_init_17 : decode cX3_init 17 = .ok (.putfield 15, 3) := by decide +kernel
theorem dX3_init_20 : decode cX3_init 20 = .ok (.return_, 1) := by decide +kernel
theorem dX4_init_0 : decode cX4_init 0 = .ok (.aload_n 0, 1) := by decide +kernel
theorem dX4_init_1 : decode cX4_init 1 = .ok (.invokespecial 3, 3) := by decide +kernel
theorem dX4_init_4 : decode cX4_init 4 = .ok (.aload_n 0, 1) := by decide +kernel
theorem dX4_init_5 : decode cX4_init 5 = .ok (.bipush 26, 2) := by decide +kernel
theorem dX4_init_7 : decode cX4_init 7 = .ok (.newarray .int, 2) := by decide +kernel
theorem dX4_init_9 : decode cX4_init 9 = .ok (.putfield 11, 3) := by decide +kernel
theorem dX4_init_12 : decode cX4_init 12 = .ok (.aload_n 0, 1) := by decide +kernel
theorem dX4_init_13 : decode cX4_init 13 = .ok (.bipush 60, 2) := by decide +kernel
theorem dX4_init_15 : decode cX4_init 15 = .ok (.newarray .int, 2) := by decide +kernel
theorem dX4_init_17 : decode cX4_init 17 = .ok (.putfield 15, 3) := by decide +kernel
theorem dX4_init_20 : decode cX4_init 20 = .ok (.return_, 1) := by decide +kernel
theorem dX5_init_0 : decode cX5_init 0 = .ok (.aload_n 0, 1) := by decide +kernel
theorem dX5_init_1 : decode cX5_init 1 = .ok (.invokespecial 3, 3) := by decide +kernel
theorem dX5_init_4 : decode cX5_init 4 = .ok (.aload_n 0, 1) := by decide +kernel
theorem dX5_init_5 : decode cX5_init 5 = .ok (.aload_n 1, 1) := by decide +kernel
theorem dX5_init_6 : decode cX5_init 6 = .ok (.putfield 9, 3) := by decide +kernel
theorem dX5_init_9 : decode cX5_init 9 = .ok (.aload_n 0, 1) := by decide +kernel
theorem dX5_init_10 : decode cX5_init 10 = .ok (.aload_n 2, 1) := by decide +kernel
theorem dX5_init_11 : decode cX5_init 11 = .ok (.putfield 15, 3) := by decide +kernel
theorem dX5_init_14 : decode cX5_init 14 = .ok (.aload_n 0, 1) := by decide +kernel
theorem dX5_init_15 : decode cX5_init 15 = .ok (.bipush 6, 2) := by decide +kernel
theorem dX5_init_17 : decode cX5_init 17 = .ok (.newarray .boolean, 2) := by decide +kernel
theorem dX5_init_19 : decode cX5_init 19 = .ok (.putfield 19, 3) := by decide +kernel
theorem dX5_init_22 : decode cX5_init 22 = .ok (.aload_n 0, 1) := by decide +kernel
theorem dX5_init_23 : decode cX5_init 23 = .ok (.bipush 6, 2) := by decide +kernel
theorem dX5_init_25 : decode cX5_init 25 = .ok (.newarray .int, 2) := by decide +kernel
theorem dX5_init_27 : decode cX5_init 27 = .ok (.putfield 23, 3) := by decide +kernel
theorem dX5_init_30 : decode cX5_init 30 = .ok (.aload_n 0, 1) := by decide +kernel
theorem dX5_init_31 : decode cX5_init 31 = .ok (.bipush 6, 2) := by decide +kernel
theorem dX5_init_33 : decode cX5_init 33 = .ok (.newarray .int, 2) := by decide +kernel
theorem dX5_init_35 : decode cX5_init 35 = .ok (.putfield 27, 3) := by decide +kernel
theorem dX5_init_38 : decode cX5_init 38 = .ok (.return_, 1) := by decide +kernel
theorem dX6_init_0 : decode cX6_init 0 = .ok (.aload_n 0, 1) := by decide +kernel
theorem dX6_init_1 : decode cX6_init 1 = .ok (.invokespecial 3, 3) := by decide +kernel
theorem dX6_init_4 : decode cX6_init 4 = .ok (.aload_n 0, 1) := by decide +kernel
theorem dX6_init_5 : decode cX6_init 5 = .ok (.iconst 4, 1) := by decide +kernel
theorem dX6_init_6 : decode cX6_init 6 = .ok (.newarray .int, 2) := by decide +kernel
theorem dX6_init_8 : decode cX6_init 8 = .ok (.putfield 9, 3) := by decide +kernel
theorem dX6_init_11 : decode cX6_init 11 = .ok (.aload_n 0, 1) := by decide +kernel
theorem dX6_init_12 : decode cX6_init 12 = .ok (.bipush 60, 2) := by decide +kernel
theorem dX6_init_14 : decode cX6_init 14 = .ok (.newarray .int, 2) := by decide +kernel
theorem dX6_init_16 : decode cX6_init 16 = .ok (.putfield 15, 3) := by decide +kernel
theorem dX6_init_19 : decode cX6_init 19 = .ok (.aload_n 0, 1) := by decide +kernel
theorem dX6_init_20 : decode cX6_init 20 = .ok (.bipush 12, 2) := by decide +kernel
theorem dX6_init_22 : decode cX6_init 22 = .ok (.newarray .int, 2) := by decide +kernel
theorem dX6_init_24 : decode cX6_init 24 = .ok (.putfield 18, 3) := by decide +kernel
theorem dX6_init_27 : decode cX6_init 27 = .ok (.aload_n 0, 1) := by decide +kernel
theorem dX6_init_28 : decode cX6_init 28 = .ok (.iconst 5, 1) := by decide +kernel
theorem dX6_init_29 : decode cX6_init 29 = .ok (.newarray .int, 2) := by decide +kernel
theorem dX6_init_31 : decode cX6_init 31 = .ok (.putfield 21, 3) := by decide +kernel
theorem dX6_init_34 : decode cX6_init 34 = .ok (.aload_n 0, 1) := by decide +kernel
theorem dX6_init_35 : decode cX6_init 35 = .ok (.iconst 5, 1) := by decide +kernel
theorem dX6_init_36 : decode cX6_init 36 = .ok (.newarray .int, 2) := by decide +kernel
theorem dX6_init_38 : decode cX6_init 38 = .ok (.putfield 24, 3) := by decide +kernel
theorem dX6_init_41 : decode cX6_init 41 = .ok (.return_, 1) := by decide +kernel
theorem dX7_init_0 : decode cX7_init 0 = .ok (.aload_n 0, 1) := by decide +kernel
theorem dX7_init_1 : decode cX7_init 1 = .ok (.invokespecial 3, 3) := by decide +kernel
theorem dX7_init_4 : decode cX7_init 4 = .ok (.aload_n 0, 1) := by decide +kernel
theorem dX7_init_5 : decode cX7_init 5 = .ok (.iload_n 1, 1) := by decide +kernel
theorem dX7_init_6 : decode cX7_init 6 = .ok (.putfield 9, 3) := by decide +kernel
theorem dX7_init_9 : decode cX7_init 9 = .ok (.aload_n 0, 1) := by decide +kernel
theorem dX7_init_10 : decode cX7_init 10 = .ok (.iload_n 2, 1) := by decide +kernel
theorem dX7_init_11 : decode cX7_init 11 = .ok (.putfield 15, 3) := by decide +kernel
theorem dX7_init_14 : decode cX7_init 14 = .ok (.aload_n 0, 1) := by decide +kernel
theorem dX7_init_15 : decode cX7_init 15 = .ok (.iconst 0, 1) := by decide +kernel
theorem dX7_init_16 : decode cX7_init 16 = .ok (.iload_n 1, 1) := by decide +kernel
theorem dX7_init_17 : decode cX7_init 17 = .ok (.iload_n 2, 1) := by decide +kernel
theorem dX7_init_18 : decode cX7_init 18 = .ok (.imul, 1) := by decide +kernel
theorem dX7_init_19 : decode cX7_init 19 = .ok (.invokestatic 18, 3) := by decide +kernel
theorem dX7_init_22 : decode cX7_init 22 = .ok (.newarray .int, 2) := by decide +kernel
theorem dX7_init_24 : decode cX7_init 24 = .ok (.putfield 24, 3) := by decide +kernel
theorem dX7_init_27 : decode cX7_init 27 = .ok (.return_, 1) := by decide +kernel
theorem dX8_init_0 : decode cX8_init 0 = .ok (.aload_n 0, 1) := by decide +kernel
theorem dX8_init_1 : decode cX8_init 1 = .ok (.invokespecial 3, 3) := by decide +kernel
theorem dX8_init_4 : decode cX8_init 4 = .ok (.aload_n 0, 1) := by decide +kernel
theorem dX8_init_5 : decode cX8_init 5 = .ok (.bipush 60, 2) := by decide +kernel
theorem dX8_init_7 : decode cX8_init 7 = .ok (.newarray .int, 2) := by decide +kernel
theorem dX8_init_9 : decode cX8_init 9 = .ok (.putfield 9, 3) := by decide +kernel
theorem dX8_init_12 : decode cX8_init 12 = .ok (.aload_n 0, 1) := by decide +kernel
theorem dX8_init_13 : decode cX8_init 13 = .ok (.bipush 21, 2) := by decide +kernel
theorem dX8_init_15 : decode cX8_init 15 = .ok (.newarray .int, 2) := by decide +kernel
theorem dX8_init_17 : decode cX8_init 17 = .ok (.putfield 15, 3) := by decide +kernel
theorem dX8_init_20 : decode cX8_init 20 = .ok (.aload_n 0, 1) := by decide +kernel
theorem dX8_init_21 : decode cX8_init 21 = .ok (.bipush 21, 2) := by decide +kernel
theorem dX8_init_23 : decode cX8_init 23 = .ok (.newarray .int, 2) := by decide +kernel
theorem dX8_init_25 : decode cX8_init 25 = .ok (.putfield 18, 3) := by decide +kernel
theorem dX8_init_28 : decode cX8_init 28 = .ok (.aload_n 0, 1) := by decide +kernel
theorem dX8_init_29 : decode cX8_init 29 = .ok (.bipush 21, 2) := by decide +kernel
theorem dX8_init_31 : decode cX8_init 31 = .ok (.newarray .int, 2) := by decide +kernel
theorem dX8_init_33 : decode cX8_init 33 = .ok (.putfield 21, 3) := by decide +kernel
theorem dX8_init_36 : decode cX8_init 36 = .ok (.aload_n 0, 1) := by decide +kernel
theorem dX8_init_37 : decode cX8_init 37 = .ok (.bipush 21, 2) := by decide +kernel
theorem dX8_init_39 : decode cX8_init 39 = .ok (.newarray .int, 2) := by decide +kernel
theorem dX8_init_41 : decode cX8_init 41 = .ok (.putfield 24, 3) := by decide +kernel
theorem dX8_init_44 : decode cX8_init 44 = .ok (.return_, 1) := by decide +kernel
theorem dX9_init_0 : decode cX9_init 0 = .ok (.aload_n 0, 1) := by decide +kernel
theorem dX9_init_1 : decode cX9_init 1 = .ok (.invokespecial 3, 3) := by decide +kernel
theorem dX9_init_4 : decode cX9_init 4 = .ok (.aload_n 0, 1) := by decide +kernel
theorem dX9_init_5 : decode cX9_init 5 = .ok (.iconst 5, 1) := by decide +kernel
theorem dX9_init_6 : decode cX9_init 6 = .ok (.newarray .int, 2) := by decide +kernel
theorem dX9_init_8 : decode cX9_init 8 = .ok (.putfield 9, 3) := by decide +kernel
theorem dX9_init_11 : decode cX9_init 11 = .ok (.aload_n 0, 1) := by decide +kernel
theorem dX9_init_12 : decode cX9_init 12 = .ok (.iconst 5, 1) := by decide +kernel
theorem dX9_init_13 : decode cX9_init 13 = .ok (.newarray .int, 2) := by decide +kernel
theorem dX9_init_15 : decode cX9_init 15 = .ok (.putfield 15, 3) := by decide +kernel
theorem dX9_init_18 : decode cX9_init 18 = .ok (.aload_n 0, 1) := by decide +kernel
theorem dX9_init_19 : decode cX9_init 19 = .ok (.iconst 5, 1) := by decide +kernel
theorem dX9_init_20 : decode cX9_init 20 = .ok (.newarray .boolean, 2) := by decide +kernel
theorem dX9_init_22 : decode cX9_init 22 = .ok (.putfield 18, 3) := by decide +kernel
theorem dX9_init_25 : decode cX9_init 25 = .ok (.aload_n 0, 1) := by decide +kernel
theorem dX9_init_26 : decode cX9_init 26 = .ok (.bipush 24, 2) := by decide +kernel
theorem dX9_init_28 : decode cX9_init 28 = .ok (.newarray .int, 2) := by decide +kernel
theorem dX9_init_30 : decode cX9_init 30 = .ok (.putfield 22, 3) := by decide +kernel
theorem dX9_init_33 : decode cX9_init 33 = .ok (.aload_n 0, 1) := by decide +kernel
theorem dX9_init_34 : decode cX9_init 34 = .ok (.bipush 8, 2) := by decide +kernel
theorem dX9_init_36 : decode cX9_init 36 = .ok (.newarray .int, 2) := by decide +kernel
theorem dX9_init_38 : decode cX9_init 38 = .ok (.putfield 25, 3) := by decide +kernel
theorem dX9_init_41 : decode cX9_init 41 = .ok (.aload_n 0, 1) := by decide +kernel
theorem dX9_init_42 : decode cX9_init 42 = .ok (.new 28, 3) := by decide +kernel
theorem dX9_init_45 : decode cX9_init 45 = .ok (.dup, 1) := by decide +kernel
theorem dX9_init_46 : decode cX9_init 46 = .ok (.bipush 30, 2) := by decide +kernel
theorem dX9_init_48 : decode cX9_init 48 = .ok (.iconst 3, 1) := by decide +kernel
theorem dX9_init_49 : decode cX9_init 49 = .ok (.invokespecial 30, 3) := by decide +kernel
theorem dX9_init_52 : decode cX9_init 52 = .ok (.putfield 33, 3) := by decide +kernel
theorem dX9_init_55 : decode cX9_init 55 = .ok (.aload_n 0, 1) := by decide +kernel
theorem dX9_init_56 : decode cX9_init 56 = .ok (.new 28, 3) := by decide +kernel
theorem dX9_init_59 : decode cX9_init 59 = .ok (.dup, 1) := by decide +kernel
theorem dX9_init_60 : decode cX9_init 60 = .ok (.bipush 20, 2) := by decide +kernel
theorem dX9_init_62 : decode cX9_init 62 = .ok (.iconst 4, 1) := by decide +kernel
theorem dX9_init_63 : decode cX9_init 63 = .ok (.invokespecial 30, 3) := by decide +kernel
theorem dX9_init_66 : decode cX9_init 66 = .ok (.putfield 37, 3) := by decide +kernel
theorem dX9_init_69 : decode cX9_init 69 = .ok (.iconst 0, 1) := by decide +kernel
theorem dX9_init_70 : decode cX9_init 70 = .ok (.istore_n 1, 1) := by decide +kernel
theorem dX9_init_71 : decode cX9_init 71 = .ok (.iload_n 1, 1) := by decide +kernel
theorem dX9_init_72 : decode cX9_init 72 = .ok (.iconst 4, 1) := by decide +kernel
theorem dX9_init_73 : decode cX9_init 73 = .ok (.if_icmp .ge 39, 3) := by decide +kernel
theorem dX9_init_76 : decode cX9_init 76 = .ok (.iconst 0, 1) := by decide +kernel
theorem dX9_init_77 : decode cX9_init 77 = .ok (.istore_n 2, 1) := by decide +kernel
theorem dX9_init_78 : decode cX9_init 78 = .ok (.iload_n 2, 1) := by decide +kernel
theorem dX9_init_79 : decode cX9_init 79 = .ok (.bipush 6, 2) := by decide +kernel
theorem dX9_init_81 : decode cX9_init 81 = .ok (.if_icmp .ge 25, 3) := by decide +kernel
theorem dX9_init_84 : decode cX9_init 84 = .ok (.aload_n 0, 1) := by decide +kernel
theorem dX9_init_85 : decode cX9_init 85 = .ok (.getfield 22, 3) := by decide +kernel
theorem dX9_init_88 : decode cX9_init 88 = .ok (.iload_n 1, 1) := by decide +kernel
theorem dX9_init_89 : decode cX9_init 89 = .ok (.bipush 6, 2) := by decide +kernel
theorem dX9_init_91 : decode cX9_init 91 = .ok (.imul, 1) := by decide +kernel
theorem dX9_init_92 : decode cX9_init 92 = .ok (.iload_n 2, 1) := by decide +kernel
theorem dX9_init_93 : decode cX9_init 93 = .ok (.iadd, 1) := by decide +kernel
theorem dX9_init_94 : decode cX9_init 94 = .ok (.getstatic 40, 3) := by decide +kernel
theorem dX9_init_97 : decode cX9_init 97 = .ok (.iload_n 2, 1) := by decide +kernel
theorem dX9_init_98 : decode cX9_init 98 = .ok (.iaload, 1) := by decide +kernel
theorem dX9_init_99 : decode cX9_init 99 = .ok (.iastore, 1) := by decide +kernel
theorem dX9_init_100 : decode cX9_init 100 = .ok (.iinc 2 1, 3) := by decide +kernel
theorem dX9_init_103 : decode cX9_init 103 = .ok (.goto (-25), 3) := by decide +kernel
theorem dX9_init_106 : decode cX9_init 106 = .ok (.iinc 1 1, 3) := by decide +kernel
theorem dX9_init_109 : decode cX9_init 109 = .ok (.goto (-38), 3) := by decide +kernel
theorem dX9_init_112 : decode cX9_init 112 = .ok (.iconst 0, 1) := by decide +kernel
theorem dX9_init_113 : decode cX9_init 113 = .ok (.istore_n 1, 1) := by decide +kernel
theorem dX9_init_114 : decode cX9_init 114 = .ok (.iload_n 1, 1) := by decide +kernel
theorem dX9_init_115 : decode cX9_init 115 = .ok (.bipush 8, 2) := by decide +kernel
theorem dX9_init_117 : decode cX9_init 117 = .ok (.if_icmp .ge 20, 3) := by decide +kernel
theorem dX9_init_120 : decode cX9_init 120 = .ok (.aload_n 0, 1) := by decide +kernel
theorem dX9_init_121 : decode cX9_init 121 = .ok (.getfield 25, 3) := by decide +kernel
theorem dX9_init_124 : decode cX9_init 124 = .ok (.iload_n 1, 1) := by decide +kernel
theorem dX9_init_125 : decode cX9_init 125 = .ok (.getstatic 43, 3) := by decide +kernel
theorem dX9_init_128 : decode cX9_init 128 = .ok (.iload_n 1, 1) := by decide +kernel
theorem dX9_init_129 : decode cX9_init 129 = .ok (.iaload, 1) := by decide +kernel
theorem dX9_init_130 : decode cX9_init 130 = .ok (.iastore, 1) := by decide +kernel
theorem dX9_init_131 : decode cX9_init 131 = .ok (.iinc 1 1, 3) := by decide +kernel
theorem dX9_init_134 : decode cX9_init 134 = .ok (.goto (-20), 3) := by decide +kernel
theorem dX9_init_137 : decode cX9_init 137 = .ok (.aload_n 0, 1) := by decide +kernel
theorem dX9_init_138 : decode cX9_init 138 = .ok (.iconst 2, 1) := by decide +kernel
theorem dX9_init_139 : decode cX9_init 139 = .ok (.iconst 1, 1) := by decide +kernel
theorem dX9_init_140 : decode cX9_init 140 = .ok (.invokevirtual 46, 3) := by decide +kernel
theorem dX9_init_143 : decode cX9_init 143 = .ok (.return_, 1) := by decide +kernel
theorem dX10_init_0 : decode cX10_init 0 = .ok (.aload_n 0, 1) := by decide +kernel
theorem dX10_init_1 : decode cX10_init 1 = .ok (.invokespecial 3, 3) := by decide +kernel
theorem dX10_init_4 : decode cX10_init 4 = .ok (.aload_n 0, 1) := by decide +kernel
theorem dX10_init_5 : decode cX10_init 5 = .ok (.aload_n 1, 1) := by decide +kernel
theorem dX10_init_6 : decode cX10_init 6 = .ok (.putfield 9, 3) := by decide +kernel
theorem dX10_init_9 : decode cX10_init 9 = .ok (.aload_n 0, 1) := by decide +kernel
theorem dX10_init_10 : decode cX10_init 10 = .ok (.aload_n 2, 1) := by decide +kernel
theorem dX10_init_11 : decode cX10_init 11 = .ok (.putfield 15, 3) := by decide +kernel
theorem dX10_init_14 : decode cX10_init 14 = .ok (.aload_n 0, 1) := by decide +kernel
theorem dX10_init_15 : decode cX10_init 15 = .ok (.iconst 2, 1) := by decide +kernel
theorem dX10_init_16 : decode cX10_init 16 = .ok (.newarray .int, 2) := by decide +kernel
theorem dX10_init_18 : decode cX10_init 18 = .ok (.putfield 19, 3) := by decide +kernel
theorem dX10_init_21 : decode cX10_init 21 = .ok (.aload_n 0, 1) := by decide +kernel
theorem dX10_init_22 : decode cX10_init 22 = .ok (.iconst 2, 1) := by decide +kernel
theorem dX10_init_23 : decode cX10_init 23 = .ok (.newarray .int, 2) := by decide +kernel
theorem dX10_init_25 : decode cX10_init 25 = .ok (.putfield 23, 3) := by decide +kernel
theorem dX10_init_28 : decode cX10_init 28 = .ok (.aload_n 0, 1) := by decide +kernel
theorem dX10_init_29 : decode cX10_init 29 = .ok (.iconst 4, 1) := by decide +kernel
theorem dX10_init_30 : decode cX10_init 30 = .ok (.newarray .int, 2) := by decide +kernel
theorem dX10_init_32 : decode cX10_init 32 = .ok (.putfield 26, 3) := by decide +kernel
theorem dX10_init_35 : decode cX10_init 35 = .ok (.aload_n 0, 1) := by decide +kernel
theorem dX10_init_36 : decode cX10_init 36 = .ok (.bipush 16, 2) := by decide +kernel
theorem dX10_init_38 : decode cX10_init 38 = .ok (.newarray .int, 2) := by decide +kernel
theorem dX10_init_40 : decode cX10_init 40 = .ok (.putfield 29, 3) := by decide +kernel
theorem dX10_init_43 : decode cX10_init 43 = .ok (.aload_n 0, 1) := by decide +kernel
theorem dX10_init_44 : decode cX10_init 44 = .ok (.bipush 16, 2) := by decide +kernel
theorem dX10_init_46 : decode cX10_init 46 = .ok (.newarray .int, 2) := by decide +kernel
theorem dX10_init_48 : decode cX10_init 48 = .ok (.putfield 32, 3) := by decide +kernel
theorem dX10_init_51 : decode cX10_init 51 = .ok (.aload_n 0, 1) := by decide +kernel
theorem dX10_init_52 : decode cX10_init 52 = .ok (.bipush 16, 2) := by decide +kernel
theorem dX10_init_54 : decode cX10_init 54 = .ok (.newarray .int, 2) := by decide +kernel
theorem dX10_init_56 : decode cX10_init 56 = .ok (.putfield 35, 3) := by decide +kernel
theorem dX10_init_59 : decode cX10_init 59 = .ok (.aload_n 0, 1) := by decide +kernel
theorem dX10_init_60 : decode cX10_init 60 = .ok (.bipush 16, 2) := by decide +kernel
theorem dX10_init_62 : decode cX10_init 62 = .ok (.newarray .int, 2) := by decide +kernel
theorem dX10_init_64 : decode cX10_init 64 = .ok (.putfield 38, 3) := by decide +kernel
theorem dX10_init_67 : decode cX10_init 67 = .ok (.return_, 1) := by decide +kernel
theorem dX11_init_0 : decode cX11_init 0 = .ok (.aload_n 0, 1) := by decide +kernel
theorem dX11_init_1 : decode cX11_init 1 = .ok (.invokespecial 3, 3) := by decide +kernel
theorem dX11_init_4 : decode cX11_init 4 = .ok (.new 9, 3) := by decide +kernel
theorem dX11_init_7 : decode cX11_init 7 = .ok (.dup, 1) := by decide +kernel
theorem dX11_init_8 : decode cX11_init 8 = .ok (.invokespecial 11, 3) := by decide +kernel
theorem dX11_init_11 : decode cX11_init 11 = .ok (.astore_n 1, 1) := by decide +kernel
theorem dX11_init_12 : decode cX11_init 12 = .ok (.aload_n 0, 1) := by decide +kernel
theorem dX11_init_13 : decode cX11_init 13 = .ok (.new 12, 3) := by decide +kernel
theorem dX11_init_16 : decode cX11_init 16 = .ok (.dup, 1) := by decide +kernel
theorem dX11_init_17 : decode cX11_init 17 = .ok (.invokespecial 14, 3) := by decide +kernel
theorem dX11_init_20 : decode cX11_init 20 = .ok (.putfield 15, 3) := by decide +kernel
theorem dX11_init_23 : decode cX11_init 23 = .ok (.aload_n 0, 1) := by decide +kernel
theorem dX11_init_24 : decode cX11_init 24 = .ok (.new 19, 3) := by decide +kernel
theorem dX11_init_27 : decode cX11_init 27 = .ok (.dup, 1) := by decide +kernel
theorem dX11_init_28 : decode cX11_init 28 = .ok (.aload_n 0, 1) := by decide +kernel
theorem dX11_init_29 : decode cX11_init 29 = .ok (.getfield 15, 3) := by decide +kernel
theorem dX11_init_32 : decode cX11_init 32 = .ok (.aload_n 1, 1) := by decide +kernel
theorem dX11_init_33 : decode cX11_init 33 = .ok (.invokespecial 21, 3) := by decide +kernel
theorem dX11_init_36 : decode cX11_init 36 = .ok (.putfield 24, 3) := by decide +kernel
theorem dX11_init_39 : decode cX11_init 39 = .ok (.aload_n 0, 1) := by decide +kernel
theorem dX11_init_40 : decode cX11_init 40 = .ok (.new 28, 3) := by decide +kernel
theorem dX11_init_43 : decode cX11_init 43 = .ok (.dup, 1) := by decide +kernel
theorem dX11_init_44 : decode cX11_init 44 = .ok (.aload_n 1, 1) := by decide +kernel
theorem dX11_init_45 : decode cX11_init 45 = .ok (.invokespecial 30, 3) := by decide +kernel
theorem dX11_init_48 : decode cX11_init 48 = .ok (.putfield 33, 3) := by decide +kernel
theorem dX11_init_51 : decode cX11_init 51 = .ok (.aload_n 0, 1) := by decide +kernel
theorem dX11_init_52 : decode cX11_init 52 = .ok (.new 37, 3) := by decide +kernel
theorem dX11_init_55 : decode cX11_init 55 = .ok (.dup, 1) := by decide +kernel
theorem dX11_init_56 : decode cX11_init 56 = .ok (.aload_n 0, 1) := by decide +kernel
theorem dX11_init_57 : decode cX11_init 57 = .ok (.getfield 24, 3) := by decide +kernel
theorem dX11_init_60 : decode cX11_init 60 = .ok (.aload_n 0, 1) := by decide +kernel
theorem dX11_init_61 : decode cX11_init 61 = .ok (.getfield 33, 3) := by decide +kernel
theorem dX11_init_64 : decode cX11_init 64 = .ok (.invokespecial 39, 3) := by decide +kernel
theorem dX11_init_67 : decode cX11_init 67 = .ok (.putfield 42, 3) := by decide +kernel
theorem dX11_init_70 : decode cX11_init 70 = .ok (.aload_n 0, 1) := by decide +kernel
theorem dX11_init_71 : decode cX11_init 71 = .ok (.new 46, 3) := by decide +kernel
theorem dX11_init_74 : decode cX11_init 74 = .ok (.dup, 1) := by decide +kernel
theorem dX11_init_75 : decode cX11_init 75 = .ok (.aload_n 0, 1) := by decide +kernel
theorem dX11_init_76 : decode cX11_init 76 = .ok (.getfield 24, 3) := by decide +kernel
theorem dX11_init_79 : decode cX11_init 79 = .ok (.aload_n 0, 1) := by decide +kernel
theorem dX11_init_80 : decode cX11_init 80 = .ok (.getfield 42, 3) := by decide +kernel
theorem dX11_init_83 : decode cX11_init 83 = .ok (.invokespecial 48, 3) := by decide +kernel
theorem dX11_init_86 : decode cX11_init 86 = .ok (.putfield 51, 3) := by decide +kernel
theorem dX11_init_89 : decode cX11_init 89 = .ok (.aload_n 0, 1) := by decide +kernel
theorem dX11_init_90 : decode cX11_init 90 = .ok (.new 55, 3) := by decide +kernel
theorem dX11_init_93 : decode cX11_init 93 = .ok (.dup, 1) := by decide +kernel
theorem dX11_init_94 : decode cX11_init 94 = .ok (.invokespecial 57, 3) := by decide +kernel
theorem dX11_init_97 : decode cX11_init 97 = .ok (.putfield 58, 3) := by decide +kernel
theorem dX11_init_100 : decode cX11_init 100 = .ok (.aload_n 0, 1) := by decide +kernel
theorem dX11_init_101 : decode cX11_init 101 = .ok (.bipush 100, 2) := by decide +kernel
theorem dX11_init_103 : decode cX11_init 103 = .ok (.newarray .int, 2) := by decide +kernel
theorem dX11_init_105 : decode cX11_init 105 = .ok (.putfield 62, 3) := by decide +kernel
theorem dX11_init_108 : decode cX11_init 108 = .ok (.aload_n 0, 1) := by decide +kernel
theorem dX11_init_109 : decode cX11_init 109 = .ok (.bipush 6, 2) := by decide +kernel
theorem dX11_init_111 : decode cX11_init 111 = .ok (.newarray .int, 2) := by decide +kernel
theorem dX11_init_113 : decode cX11_init 113 = .ok (.putfield 66, 3) := by decide +kernel
theorem dX11_init_116 : decode cX11_init 116 = .ok (.aload_n 0, 1) := by decide +kernel
theorem dX11_init_117 : decode cX11_init 117 = .ok (.new 69, 3) := by decide +kernel
theorem dX11_init_120 : decode cX11_init 120 = .ok (.dup, 1) := by decide +kernel
theorem dX11_init_121 : decode cX11_init 121 = .ok (.invokespecial 71, 3) := by decide +kernel
theorem dX11_init_124 : decode cX11_init 124 = .ok (.putfield 72, 3) := by decide +kernel
theorem dX11_init_127 : decode cX11_init 127 = .ok (.return_, 1) := by decide +kernel
abbrev dBX12_init_0 : List UInt8 := [42, 183, 2, 78, 42, 5, 181, 0, 7, 42, 4, 181, 0, 10, 42, 8]
abbrev dRX12_init_0 : List (Nat × Jvm.ClassFile.Instr × Nat) := [(0, .aload_n 0, 1), (1, .invokespecial 590, 3), (4, .aload_n 0, 1), (5, .iconst 2, 1), (6, .putfield 7, 3), (9, .aload_n 0, 1), (10, .iconst 1, 1), (11, .putfield 10, 3), (14, .aload_n 0, 1), (15, .iconst 5, 1)]
theorem dvX12_init_0 : ds_V cX12_init (.mk (List.toArray dBX12_init_0)) 0 := ds_at cX12_init 0 dBX12_init_0 (by decide +kernel)
theorem dhX12_init_0 : ds_all (.mk (List.toArray dBX12_init_0)) dRX12_init_0 = true := by decide +kernel
theorem dX12_init_0 : decode cX12_init 0 = .ok (.aload_n 0, 1) := ds_row dvX12_init_0 dhX12_init_0 0 (q := 0) rfl
theorem dX12_init_1 : decode cX12_init 1 = .ok (.invokespecial 590, 3) := ds_row dvX12_init_0 dhX12_init_0 1 (q := 1) rfl
theorem dX12_init_4 : decode cX12_init 4 = .ok (.aload_n 0, 1) := ds_row dvX12_init_0 dhX12_init_0 2 (q := 4) rfl
theorem dX12_init_5 : decode cX12_init 5 = .ok (.iconst 2, 1) := ds_row dvX12_init_0 dhX12_init_0 3 (q := 5) rfl
theorem dX12_init_6 : decode cX12_init 6 = .ok (.putfield 7, 3) := ds_row dvX12_init_0 dhX12_init_0 4 (q := 6) rfl
theorem dX12_init_9 : decode cX12_init 9 = .ok (.aload_n 0, 1) := ds_row dvX12_init_0 dhX12_init_0 5 (q := 9) rfl
theorem dX12_init_10 : decode cX12_init 10 = .ok (.iconst 1, 1) := ds_row dvX12_init_0 dhX12_init_0 6 (q := 10) rfl
theorem dX12_init_11 : decode cX12_init 11 = .ok (.putfield 10, 3) := ds_row dvX12_init_0 dhX12_init_0 7 (q := 11) rfl
theorem dX12_init_14 : decode cX12_init 14 = .ok (.aload_n 0, 1) := ds_row dvX12_init_0 dhX12_init_0 8 (q := 14) rfl
theorem dX12_init_15 : decode cX12_init 15 = .ok (.iconst 5, 1) := ds_row dvX12_init_0 dhX12_init_0 9 (q := 15) rfl
theorem dX12_init_16 : decode cX12_init 16 = .ok (.newarray .int, 2) := by decide +kernel
abbrev dBX12_init_18 : List UInt8 := [181, 0, 13, 42, 8]
abbrev dRX12_init_18 : List (Nat × Jvm.ClassFile.Instr × Nat) := [(0, .putfield 13, 3), (3, .aload_n 0, 1), (4, .iconst 5, 1)]
theorem dvX12_init_18 : ds_V cX12_init (.mk (List.toArray dBX12_init_18)) 18 := ds_at cX12_init 18 dBX12_init_18 (by decide +kernel)
theorem dhX12_init_18 : ds_all (.mk (List.toArray dBX12_init_18)) dRX12_init_18 = true := by decide +kernel
theorem dX12_init_18 : decode cX12_init 18 = .ok (.putfield 13, 3) := ds_row dvX12_init_18 dhX12_init_18 0 (q := 0) rfl
theorem dX12_init_21 : decode cX12_init 21 = .ok (.aload_n 0, 1) := ds_row dvX12_init_18 dhX12_init_18 1 (q := 3) rfl
theorem dX12_init_22 : decode cX12_init 22 = .ok (.iconst 5, 1) := ds_row dvX12_init_18 dhX12_init_18 2 (q := 4) rfl
theorem dX12_init_23 : decode cX12_init 23 = .ok (.newarray .int, 2) := by decide +kernel
abbrev dBX12_init_25 : List UInt8 := [181, 0, 17, 42, 8]
abbrev dRX12_init_25 : List (Nat × Jvm.ClassFile.Instr × Nat) := [(0, .putfield 17, 3), (3, .aload_n 0, 1), (4, .iconst 5, 1)]
theorem dvX12_init_25 : ds_V cX12_init (.mk (List.toArray dBX12_init_25)) 25 := ds_at cX12_init 25 dBX12_init_25 (by decide +kernel)
theorem dhX12_init_25 : ds_all (.mk (List.toArray dBX12_init_25)) dRX12_init_25 = true := by decide +kernel
theorem dX12_init_25 : decode cX12_init 25 = .ok (.putfield 17, 3) := ds_row dvX12_init_25 dhX12_init_25 0 (q := 0) rfl
theorem dX12_init_28 : decode cX12_init 28 = .ok (.aload_n 0, 1) := ds_row dvX12_init_25 dhX12_init_25 1 (q := 3) rfl
theorem dX12_init_29 : decode cX12_init 29 = .ok (.iconst 5, 1) := ds_row dvX12_init_25 dhX12_init_25 2 (q := 4) rfl
theorem dX12_init_30 : decode cX12_init 30 = .ok (.newarray .boolean, 2) := by decide +kernel
abbrev dBX12_init_32 : List UInt8 := [181, 0, 20, 42, 16, 24]
abbrev dRX12_init_32 : List (Nat × Jvm.ClassFile.Instr × Nat) := [(0, .putfield 20, 3), (3, .aload_n 0, 1), (4, .bipush 24, 2)]
theorem dvX12_init_32 : ds_V cX12_init (.mk (List.toArray dBX12_init_32)) 32 := ds_at cX12_init 32 dBX12_init_32 (by decide +kernel)
theorem dhX12_init_32 : ds_all (.mk (List.toArray dBX12_init_32)) dRX12_init_32 = true := by decide +kernel
theorem dX12_init_32 : decode cX12_init 32 = .ok (.putfield 20, 3) := ds_row dvX12_init_32 dhX12_init_32 0 (q := 0) rfl
theorem dX12_init_35 : decode cX12_init 35 = .ok (.aload_n 0, 1) := ds_row dvX12_init_32 dhX12_init_32 1 (q := 3) rfl
theorem dX12_init_36 : decode cX12_init 36 = .ok (.bipush 24, 2) := ds_row dvX12_init_32 dhX12_init_32 2 (q := 4) rfl
theorem dX12_init_38 : decode cX12_init 38 = .ok (.newarray .int, 2) := by decide +kernel
abbrev dBX12_init_40 : List UInt8 := [181, 0, 72, 42, 16, 8]
abbrev dRX12_init_40 : List (Nat × Jvm.ClassFile.Instr × Nat) := [(0, .putfield 72, 3), (3, .aload_n 0, 1), (4, .bipush 8, 2)]
theorem dvX12_init_40 : ds_V cX12_init (.mk (List.toArray dBX12_init_40)) 40 := ds_at cX12_init 40 dBX12_init_40 (by decide +kernel)
theorem dhX12_init_40 : ds_all (.mk (List.toArray dBX12_init_40)) dRX12_init_40 = true := by decide +kernel
theorem dX12_init_40 : decode cX12_init 40 = .ok (.putfield 72, 3) := ds_row dvX12_init_40 dhX12_init_40 0 (q := 0) rfl
theorem dX12_init_43 : decode cX12_init 43 = .ok (.aload_n 0, 1) := ds_row dvX12_init_40 dhX12_init_40 1 (q := 3) rfl
theorem dX12_init_44 : decode cX12_init 44 = .ok (.bipush 8, 2) := ds_row dvX12_init_40 dhX12_init_40 2 (q := 4) rfl
theorem dX12_init_46 : decode cX12_init 46 = .ok (.newarray .int, 2) := by decide +kernel
abbrev dBX12_init_48 : List UInt8 := [181, 0, 83, 42, 16, 30]
abbrev dRX12_init_48 : List (Nat × Jvm.ClassFile.Instr × Nat) := [(0, .putfield 83, 3), (3, .aload_n 0, 1), (4, .bipush 30, 2)]
theorem dvX12_init_48 : ds_V cX12_init (.mk (List.toArray dBX12_init_48)) 48 := ds_at cX12_init 48 dBX12_init_48 (by decide +kernel)
theorem dhX12_init_48 : ds_all (.mk (List.toArray dBX12_init_48)) dRX12_init_48 = true := by decide +kernel
theorem dX12_init_48 : decode cX12_init 48 = .ok (.putfield 83, 3) := ds_row dvX12_init_48 dhX12_init_48 0 (q := 0) rfl
theorem dX12_init_51 : decode cX12_init 51 = .ok (.aload_n 0, 1) := ds_row dvX12_init_48 dhX12_init_48 1 (q := 3) rfl
theorem dX12_init_52 : decode cX12_init 52 = .ok (.bipush 30, 2) := ds_row dvX12_init_48 dhX12_init_48 2 (q := 4) rfl
theorem dX12_init_54 : decode cX12_init 54 = .ok (.newarray .int, 2) := by decide +kernel
abbrev dBX12_init_56 : List UInt8 := [181, 0, 86, 42, 16, 30]
abbrev dRX12_init_56 : List (Nat × Jvm.ClassFile.Instr × Nat) := [(0, .putfield 86, 3), (3, .aload_n 0, 1), (4, .bipush 30, 2)]
theorem dvX12_init_56 : ds_V cX12_init (.mk (List.toArray dBX12_init_56)) 56 := ds_at cX12_init 56 dBX12_init_56 (by decide +kernel)
theorem dhX12_init_56 : ds_all (.mk (List.toArray dBX12_init_56)) dRX12_init_56 = true := by decide +kernel
theorem dX12_init_56 : decode cX12_init 56 = .ok (.putfield 86, 3) := ds_row dvX12_init_56 dhX12_init_56 0 (q := 0) rfl
theorem dX12_init_59 : decode cX12_init 59 = .ok (.aload_n 0, 1) := ds_row dvX12_init_56 dhX12_init_56 1 (q := 3) rfl
theorem dX12_init_60 : decode cX12_init 60 = .ok (.bipush 30, 2) := ds_row dvX12_init_56 dhX12_init_56 2 (q := 4) rfl
theorem dX12_init_62 : decode cX12_init 62 = .ok (.newarray .int, 2) := by decide +kernel
abbrev dBX12_init_64 : List UInt8 := [181, 0, 89, 42, 16, 30]
abbrev dRX12_init_64 : List (Nat × Jvm.ClassFile.Instr × Nat) := [(0, .putfield 89, 3), (3, .aload_n 0, 1), (4, .bipush 30, 2)]
theorem dvX12_init_64 : ds_V cX12_init (.mk (List.toArray dBX12_init_64)) 64 := ds_at cX12_init 64 dBX12_init_64 (by decide +kernel)
theorem dhX12_init_64 : ds_all (.mk (List.toArray dBX12_init_64)) dRX12_init_64 = true := by decide +kernel
theorem dX12_init_64 : decode cX12_init 64 = .ok (.putfield 89, 3) := ds_row dvX12_init_64 dhX12_init_64 0 (q := 0) rfl
theorem dX12_init_67 : decode cX12_init 67 = .ok (.aload_n 0, 1) := ds_row dvX12_init_64 dhX12_init_64 1 (q := 3) rfl
theorem dX12_init_68 : decode cX12_init 68 = .ok (.bipush 30, 2) := ds_row dvX12_init_64 dhX12_init_64 2 (q := 4) rfl
theorem dX12_init_70 : decode cX12_init 70 = .ok (.newarray .int, 2) := by decide +kernel
abbrev dBX12_init_72 : List UInt8 := [181, 0, 92, 42, 16, 20]
abbrev dRX12_init_72 : List (Nat × Jvm.ClassFile.Instr × Nat) := [(0, .putfield 92, 3), (3, .aload_n 0, 1), (4, .bipush 20, 2)]
theorem dvX12_init_72 : ds_V cX12_init (.mk (List.toArray dBX12_init_72)) 72 := ds_at cX12_init 72 dBX12_init_72 (by decide +kernel)
theorem dhX12_init_72 : ds_all (.mk (List.toArray dBX12_init_72)) dRX12_init_72 = true := by decide +kernel
theorem dX12_init_72 : decode cX12_init 72 = .ok (.putfield 92, 3) := ds_row dvX12_init_72 dhX12_init_72 0 (q := 0) rfl
theorem dX12_init_75 : decode cX12_init 75 = .ok (.aload_n 0, 1) := ds_row dvX12_init_72 dhX12_init_72 1 (q := 3) rfl
theorem dX12_init_76 : decode cX12_init 76 = .ok (.bipush 20, 2) := ds_row dvX12_init_72 dhX12_init_72 2 (q := 4) rfl
theorem dX12_init_78 : decode cX12_init 78 = .ok (.newarray .int, 2) := by decide +kernel
abbrev dBX12_init_80 : List UInt8 := [181, 0, 95, 42, 16, 20]
abbrev dRX12_init_80 : List (Nat × Jvm.ClassFile.Instr × Nat) := [(0, .putfield 95, 3), (3, .aload_n 0, 1), (4, .bipush 20, 2)]
theorem dvX12_init_80 : ds_V cX12_init (.mk (List.toArray dBX12_init_80)) 80 := ds_at cX12_init 80 dBX12_init_80 (by decide +kernel)
theorem dhX12_init_80 : ds_all (.mk (List.toArray dBX12_init_80)) dRX12_init_80 = true := by decide +kernel
theorem dX12_init_80 : decode cX12_init 80 = .ok (.putfield 95, 3) := ds_row dvX12_init_80 dhX12_init_80 0 (q := 0) rfl
theorem dX12_init_83 : decode cX12_init 83 = .ok (.aload_n 0, 1) := ds_row dvX12_init_80 dhX12_init_80 1 (q := 3) rfl
theorem dX12_init_84 : decode cX12_init 84 = .ok (.bipush 20, 2) := ds_row dvX12_init_80 dhX12_init_80 2 (q := 4) rfl
theorem dX12_init_86 : decode cX12_init 86 = .ok (.newarray .int, 2) := by decide +kernel
abbrev dBX12_init_88 : List UInt8 := [181, 0, 98, 42, 16, 20]
abbrev dRX12_init_88 : List (Nat × Jvm.ClassFile.Instr × Nat) := [(0, .putfield 98, 3), (3, .aload_n 0, 1), (4, .bipush 20, 2)]
theorem dvX12_init_88 : ds_V cX12_init (.mk (List.toArray dBX12_init_88)) 88 := ds_at cX12_init 88 dBX12_init_88 (by decide +kernel)
theorem dhX12_init_88 : ds_all (.mk (List.toArray dBX12_init_88)) dRX12_init_88 = true := by decide +kernel
theorem dX12_init_88 : decode cX12_init 88 = .ok (.putfield 98, 3) := ds_row dvX12_init_88 dhX12_init_88 0 (q := 0) rfl
theorem dX12_init_91 : decode cX12_init 91 = .ok (.aload_n 0, 1) := ds_row dvX12_init_88 dhX12_init_88 1 (q := 3) rfl
theorem dX12_init_92 : decode cX12_init 92 = .ok (.bipush 20, 2) := ds_row dvX12_init_88 dhX12_init_88 2 (q := 4) rfl
theorem dX12_init_94 : decode cX12_init 94 = .ok (.newarray .int, 2) := by decide +kernel
abbrev dBX12_init_96 : List UInt8 := [181, 0, 101, 42, 16, 20]
abbrev dRX12_init_96 : List (Nat × Jvm.ClassFile.Instr × Nat) := [(0, .putfield 101, 3), (3, .aload_n 0, 1), (4, .bipush 20, 2)]
theorem dvX12_init_96 : ds_V cX12_init (.mk (List.toArray dBX12_init_96)) 96 := ds_at cX12_init 96 dBX12_init_96 (by decide +kernel)
theorem dhX12_init_96 : ds_all (.mk (List.toArray dBX12_init_96)) dRX12_init_96 = true := by decide +kernel
theorem dX12_init_96 : decode cX12_init 96 = .ok (.putfield 101, 3) := ds_row dvX12_init_96 dhX12_init_96 0 (q := 0) rfl
theorem dX12_init_99 : decode cX12_init 99 = .ok (.aload_n 0, 1) := ds_row dvX12_init_96 dhX12_init_96 1 (q := 3) rfl
theorem dX12_init_100 : decode cX12_init 100 = .ok (.bipush 20, 2) := ds_row dvX12_init_96 dhX12_init_96 2 (q := 4) rfl
theorem dX12_init_102 : decode cX12_init 102 = .ok (.newarray .int, 2) := by decide +kernel
abbrev dBX12_init_104 : List UInt8 := [181, 0, 104, 42, 16, 6]
abbrev dRX12_init_104 : List (Nat × Jvm.ClassFile.Instr × Nat) := [(0, .putfield 104, 3), (3, .aload_n 0, 1), (4, .bipush 6, 2)]
theorem dvX12_init_104 : ds_V cX12_init (.mk (List.toArray dBX12_init_104)) 104 := ds_at cX12_init 104 dBX12_init_104 (by decide +kernel)
theorem dhX12_init_104 : ds_all (.mk (List.toArray dBX12_init_104)) dRX12_init_104 = true := by decide +kernel
theorem dX12_init_104 : decode cX12_init 104 = .ok (.putfield 104, 3) := ds_row dvX12_init_104 dhX12_init_104 0 (q := 0) rfl
theorem dX12_init_107 : decode cX12_init 107 = .ok (.aload_n 0, 1) := ds_row dvX12_init_104 dhX12_init_104 1 (q := 3) rfl
theorem dX12_init_108 : decode cX12_init 108 = .ok (.bipush 6, 2) := ds_row dvX12_init_104 dhX12_init_104 2 (q := 4) rfl
theorem dX12_init_110 : decode cX12_init 110 = .ok (.newarray .int, 2) := by decide +kernel
abbrev dBX12_init_112 : List UInt8 := [181, 0, 115, 42, 16, 6]
abbrev dRX12_init_112 : List (Nat × Jvm.ClassFile.Instr × Nat) := [(0, .putfield 115, 3), (3, .aload_n 0, 1), (4, .bipush 6, 2)]
theorem dvX12_init_112 : ds_V cX12_init (.mk (List.toArray dBX12_init_112)) 112 := ds_at cX12_init 112 dBX12_init_112 (by decide +kernel)
theorem dhX12_init_112 : ds_all (.mk (List.toArray dBX12_init_112)) dRX12_init_112 = true := by decide +kernel
theorem dX12_init_112 : decode cX12_init 112 = .ok (.putfield 115, 3) := ds_row dvX12_init_112 dhX12_init_112 0 (q := 0) rfl
theorem dX12_init_115 : decode cX12_init 115 = .ok (.aload_n 0, 1) := ds_row dvX12_init_112 dhX12_init_112 1 (q := 3) rfl
theorem dX12_init_116 : decode cX12_init 116 = .ok (.bipush 6, 2) := ds_row dvX12_init_112 dhX12_init_112 2 (q := 4) rfl
theorem dX12_init_118 : decode cX12_init 118 = .ok (.newarray .int, 2) := by decide +kernel
abbrev dBX12_init_120 : List UInt8 := [181, 0, 118, 42, 16, 6]
abbrev dRX12_init_120 : List (Nat × Jvm.ClassFile.Instr × Nat) := [(0, .putfield 118, 3), (3, .aload_n 0, 1), (4, .bipush 6, 2)]
theorem dvX12_init_120 : ds_V cX12_init (.mk (List.toArray dBX12_init_120)) 120 := ds_at cX12_init 120 dBX12_init_120 (by decide +kernel)
theorem dhX12_init_120 : ds_all (.mk (List.toArray dBX12_init_120)) dRX12_init_120 = true := by decide +kernel
theorem dX12_init_120 : decode cX12_init 120 = .ok (.putfield 118, 3) := ds_row dvX12_init_120 dhX12_init_120 0 (q := 0) rfl
theorem dX12_init_123 : decode cX12_init 123 = .ok (.aload_n 0, 1) := ds_row dvX12_init_120 dhX12_init_120 1 (q := 3) rfl
theorem dX12_init_124 : decode cX12_init 124 = .ok (.bipush 6, 2) := ds_row dvX12_init_120 dhX12_init_120 2 (q := 4) rfl
theorem dX12_init_126 : decode cX12_init 126 = .ok (.newarray .int, 2) := by decide +kernel
abbrev dBX12_init_128 : List UInt8 := [181, 0, 121, 42, 16, 6]
abbrev dRX12_init_128 : List (Nat × Jvm.ClassFile.Instr × Nat) := [(0, .putfield 121, 3), (3, .aload_n 0, 1), (4, .bipush 6, 2)]
theorem dvX12_init_128 : ds_V cX12_init (.mk (List.toArray dBX12_init_128)) 128 := ds_at cX12_init 128 dBX12_init_128 (by decide +kernel)
theorem dhX12_init_128 : ds_all (.mk (List.toArray dBX12_init_128)) dRX12_init_128 = true := by decide +kernel
theorem dX12_init_128 : decode cX12_init 128 = .ok (.putfield 121, 3) := ds_row dvX12_init_128 dhX12_init_128 0 (q := 0) rfl
theorem dX12_init_131 : decode cX12_init 131 = .ok (.aload_n 0, 1) := ds_row dvX12_init_128 dhX12_init_128 1 (q := 3) rfl
theorem dX12_init_132 : decode cX12_init 132 = .ok (.bipush 6, 2) := ds_row dvX12_init_128 dhX12_init_128 2 (q := 4) rfl
theorem dX12_init_134 : decode cX12_init 134 = .ok (.newarray .int, 2) := by decide +kernel
abbrev dBX12_init_136 : List UInt8 := [181, 0, 124, 42, 16, 6]
abbrev dRX12_init_136 : List (Nat × Jvm.ClassFile.Instr × Nat) := [(0, .putfield 124, 3), (3, .aload_n 0, 1), (4, .bipush 6, 2)]
theorem dvX12_init_136 : ds_V cX12_init (.mk (List.toArray dBX12_init_136)) 136 := ds_at cX12_init 136 dBX12_init_136 (by decide +kernel)
theorem dhX12_init_136 : ds_all (.mk (List.toArray dBX12_init_136)) dRX12_init_136 = true := by decide +kernel
theorem dX12_init_136 : decode cX12_init 136 = .ok (.putfield 124, 3) := ds_row dvX12_init_136 dhX12_init_136 0 (q := 0) rfl
theorem dX12_init_139 : decode cX12_init 139 = .ok (.aload_n 0, 1) := ds_row dvX12_init_136 dhX12_init_136 1 (q := 3) rfl
theorem dX12_init_140 : decode cX12_init 140 = .ok (.bipush 6, 2) := ds_row dvX12_init_136 dhX12_init_136 2 (q := 4) rfl
theorem dX12_init_142 : decode cX12_init 142 = .ok (.newarray .int, 2) := by decide +kernel
abbrev dBX12_init_144 : List UInt8 := [181, 0, 127, 42, 16, 6]
abbrev dRX12_init_144 : List (Nat × Jvm.ClassFile.Instr × Nat) := [(0, .putfield 127, 3), (3, .aload_n 0, 1), (4, .bipush 6, 2)]
theorem dvX12_init_144 : ds_V cX12_init (.mk (List.toArray dBX12_init_144)) 144 := ds_at cX12_init 144 dBX12_init_144 (by decide +kernel)
theorem dhX12_init_144 : ds_all (.mk (List.toArray dBX12_init_144)) dRX12_init_144 = true := by decide +kernel
theorem dX12_init_144 : decode cX12_init 144 = .ok (.putfield 127, 3) := ds_row dvX12_init_144 dhX12_init_144 0 (q := 0) rfl
theorem dX12_init_147 : decode cX12_init 147 = .ok (.aload_n 0, 1) := ds_row dvX12_init_144 dhX12_init_144 1 (q := 3) rfl
theorem dX12_init_148 : decode cX12_init 148 = .ok (.bipush 6, 2) := ds_row dvX12_init_144 dhX12_init_144 2 (q := 4) rfl
theorem dX12_init_150 : decode cX12_init 150 = .ok (.newarray .int, 2) := by decide +kernel
abbrev dBX12_init_152 : List UInt8 := [181, 0, 130, 42, 16, 6]
abbrev dRX12_init_152 : List (Nat × Jvm.ClassFile.Instr × Nat) := [(0, .putfield 130, 3), (3, .aload_n 0, 1), (4, .bipush 6, 2)]
theorem dvX12_init_152 : ds_V cX12_init (.mk (List.toArray dBX12_init_152)) 152 := ds_at cX12_init 152 dBX12_init_152 (by decide +kernel)
theorem dhX12_init_152 : ds_all (.mk (List.toArray dBX12_init_152)) dRX12_init_152 = true := by decide +kernel
theorem dX12_init_152 : decode cX12_init 152 = .ok (.putfield 130, 3) := ds_row dvX12_init_152 dhX12_init_152 0 (q := 0) rfl
theorem dX12_init_155 : decode cX12_init 155 = .ok (.aload_n 0, 1) := ds_row dvX12_init_152 dhX12_init_152 1 (q := 3) rfl
theorem dX12_init_156 : decode cX12_init 156 = .ok (.bipush 6, 2) := ds_row dvX12_init_152 dhX12_init_152 2 (q := 4) rfl
theorem dX12_init_158 : decode cX12_init 158 = .ok (.newarray .int, 2) := by decide +kernel
abbrev dBX12_init_160 : List UInt8 := [181, 0, 133, 42, 16, 24]
abbrev dRX12_init_160 : List (Nat × Jvm.ClassFile.Instr × Nat) := [(0, .putfield 133, 3), (3, .aload_n 0, 1), (4, .bipush 24, 2)]
theorem dvX12_init_160 : ds_V cX12_init (.mk (List.toArray dBX12_init_160)) 160 := ds_at cX12_init 160 dBX12_init_160 (by decide +kernel)
theorem dhX12_init_160 : ds_all (.mk (List.toArray dBX12_init_160)) dRX12_init_160 = true := by decide +kernel
theorem dX12_init_160 : decode cX12_init 160 = .ok (.putfield 133, 3) := ds_row dvX12_init_160 dhX12_init_160 0 (q := 0) rfl
theorem dX12_init_163 : decode cX12_init 163 = .ok (.aload_n 0, 1) := ds_row dvX12_init_160 dhX12_init_160 1 (q := 3) rfl
theorem dX12_init_164 : decode cX12_init 164 = .ok (.bipush 24, 2) := ds_row dvX12_init_160 dhX12_init_160 2 (q := 4) rfl
theorem dX12_init_166 : decode cX12_init 166 = .ok (.newarray .int, 2) := by decide +kernel
abbrev dBX12_init_168 : List UInt8 := [181, 0, 148, 42, 16, 24]
abbrev dRX12_init_168 : List (Nat × Jvm.ClassFile.Instr × Nat) := [(0, .putfield 148, 3), (3, .aload_n 0, 1), (4, .bipush 24, 2)]
theorem dvX12_init_168 : ds_V cX12_init (.mk (List.toArray dBX12_init_168)) 168 := ds_at cX12_init 168 dBX12_init_168 (by decide +kernel)
theorem dhX12_init_168 : ds_all (.mk (List.toArray dBX12_init_168)) dRX12_init_168 = true := by decide +kernel
theorem dX12_init_168 : decode cX12_init 168 = .ok (.putfield 148, 3) := ds_row dvX12_init_168 dhX12_init_168 0 (q := 0) rfl
theorem dX12_init_171 : decode cX12_init 171 = .ok (.aload_n 0, 1) := ds_row dvX12_init_168 dhX12_init_168 1 (q := 3) rfl
theorem dX12_init_172 : decode cX12_init 172 = .ok (.bipush 24, 2) := ds_row dvX12_init_168 dhX12_init_168 2 (q := 4) rfl
theorem dX12_init_174 : decode cX12_init 174 = .ok (.newarray .int, 2) := by decide +kernel
abbrev dBX12_init_176 : List UInt8 := [181, 0, 151, 42, 16, 6]
abbrev dRX12_init_176 : List (Nat × Jvm.ClassFile.Instr × Nat) := [(0, .putfield 151, 3), (3, .aload_n 0, 1), (4, .bipush 6, 2)]
theorem dvX12_init_176 : ds_V cX12_init (.mk (List.toArray dBX12_init_176)) 176 := ds_at cX12_init 176 dBX12_init_176 (by decide +kernel)
theorem dhX12_init_176 : ds_all (.mk (List.toArray dBX12_init_176)) dRX12_init_176 = true := by decide +kernel
theorem dX12_init_176 : decode cX12_init 176 = .ok (.putfield 151, 3) := ds_row dvX12_init_176 dhX12_init_176 0 (q := 0) rfl
theorem dX12_init_179 : decode cX12_init 179 = .ok (.aload_n 0, 1) := ds_row dvX12_init_176 dhX12_init_176 1 (q := 3) rfl
theorem dX12_init_180 : decode cX12_init 180 = .ok (.bipush 6, 2) := ds_row dvX12_init_176 dhX12_init_176 2 (q := 4) rfl
theorem dX12_init_182 : decode cX12_init 182 = .ok (.newarray .int, 2) := by decide +kernel
abbrev dBX12_init_184 : List UInt8 := [181, 0, 136, 42, 16, 72]
abbrev dRX12_init_184 : List (Nat × Jvm.ClassFile.Instr × Nat) := [(0, .putfield 136, 3), (3, .aload_n 0, 1), (4, .bipush 72, 2)]
theorem dvX12_init_184 : ds_V cX12_init (.mk (List.toArray dBX12_init_184)) 184 := ds_at cX12_init 184 dBX12_init_184 (by decide +kernel)
theorem dhX12_init_184 : ds_all (.mk (List.toArray dBX12_init_184)) dRX12_init_184 = true := by decide +kernel
theorem dX12_init_184 : decode cX12_init 184 = .ok (.putfield 136, 3) := ds_row dvX12_init_184 dhX12_init_184 0 (q := 0) rfl
theorem dX12_init_187 : decode cX12_init 187 = .ok (.aload_n 0, 1) := ds_row dvX12_init_184 dhX12_init_184 1 (q := 3) rfl
theorem dX12_init_188 : decode cX12_init 188 = .ok (.bipush 72, 2) := ds_row dvX12_init_184 dhX12_init_184 2 (q := 4) rfl
theorem dX12_init_190 : decode cX12_init 190 = .ok (.newarray .int, 2) := by decide +kernel
abbrev dBX12_init_192 : List UInt8 := [181, 0, 157, 42, 16, 72]
abbrev dRX12_init_192 : List (Nat × Jvm.ClassFile.Instr × Nat) := [(0, .putfield 157, 3), (3, .aload_n 0, 1), (4, .bipush 72, 2)]
theorem dvX12_init_192 : ds_V cX12_init (.mk (List.toArray dBX12_init_192)) 192 := ds_at cX12_init 192 dBX12_init_192 (by decide +kernel)
theorem dhX12_init_192 : ds_all (.mk (List.toArray dBX12_init_192)) dRX12_init_192 = true := by decide +kernel
theorem dX12_init_192 : decode cX12_init 192 = .ok (.putfield 157, 3) := ds_row dvX12_init_192 dhX12_init_192 0 (q := 0) rfl
theorem dX12_init_195 : decode cX12_init 195 = .ok (.aload_n 0, 1) := ds_row dvX12_init_192 dhX12_init_192 1 (q := 3) rfl
theorem dX12_init_196 : decode cX12_init 196 = .ok (.bipush 72, 2) := ds_row dvX12_init_192 dhX12_init_192 2 (q := 4) rfl
theorem dX12_init_198 : decode cX12_init 198 = .ok (.newarray .int, 2) := by decide +kernel
abbrev dBX12_init_200 : List UInt8 := [181, 0, 160, 42, 16, 72]
abbrev dRX12_init_200 : List (Nat × Jvm.ClassFile.Instr × Nat) := [(0, .putfield 160, 3), (3, .aload_n 0, 1), (4, .bipush 72, 2)]
theorem dvX12_init_200 : ds_V cX12_init (.mk (List.toArray dBX12_init_200)) 200 := ds_at cX12_init 200 dBX12_init_200 (by decide +kernel)
theorem dhX12_init_200 : ds_all (.mk (List.toArray dBX12_init_200)) dRX12_init_200 = true := by decide +kernel
theorem dX12_init_200 : decode cX12_init 200 = .ok (.putfield 160, 3) := ds_row dvX12_init_200 dhX12_init_200 0 (q := 0) rfl
theorem dX12_init_203 : decode cX12_init 203 = .ok (.aload_n 0, 1) := ds_row dvX12_init_200 dhX12_init_200 1 (q := 3) rfl
theorem dX12_init_204 : decode cX12_init 204 = .ok (.bipush 72, 2) := ds_row dvX12_init_200 dhX12_init_200 2 (q := 4) rfl
theorem dX12_init_206 : decode cX12_init 206 = .ok (.newarray .int, 2) := by decide +kernel
abbrev dBX12_init_208 : List UInt8 := [181, 0, 163, 42, 16, 6]
abbrev dRX12_init_208 : List (Nat × Jvm.ClassFile.Instr × Nat) := [(0, .putfield 163, 3), (3, .aload_n 0, 1), (4, .bipush 6, 2)]
theorem dvX12_init_208 : ds_V cX12_init (.mk (List.toArray dBX12_init_208)) 208 := ds_at cX12_init 208 dBX12_init_208 (by decide +kernel)
theorem dhX12_init_208 : ds_all (.mk (List.toArray dBX12_init_208)) dRX12_init_208 = true := by decide +kernel
theorem dX12_init_208 : decode cX12_init 208 = .ok (.putfield 163, 3) := ds_row dvX12_init_208 dhX12_init_208 0 (q := 0) rfl
theorem dX12_init_211 : decode cX12_init 211 = .ok (.aload_n 0, 1) := ds_row dvX12_init_208 dhX12_init_208 1 (q := 3) rfl
theorem dX12_init_212 : decode cX12_init 212 = .ok (.bipush 6, 2) := ds_row dvX12_init_208 dhX12_init_208 2 (q := 4) rfl
theorem dX12_init_214 : decode cX12_init 214 = .ok (.newarray .int, 2) := by decide +kernel
abbrev dBX12_init_216 : List UInt8 := [181, 0, 139, 42, 16, 30]
abbrev dRX12_init_216 : List (Nat × Jvm.ClassFile.Instr × Nat) := [(0, .putfield 139, 3), (3, .aload_n 0, 1), (4, .bipush 30, 2)]
theorem dvX12_init_216 : ds_V cX12_init (.mk (List.toArray dBX12_init_216)) 216 := ds_at cX12_init 216 dBX12_init_216 (by decide +kernel)
theorem dhX12_init_216 : ds_all (.mk (List.toArray dBX12_init_216)) dRX12_init_216 = true := by decide +kernel
theorem dX12_init_216 : decode cX12_init 216 = .ok (.putfield 139, 3) := ds_row dvX12_init_216 dhX12_init_216 0 (q := 0) rfl
theorem dX12_init_219 : decode cX12_init 219 = .ok (.aload_n 0, 1) := ds_row dvX12_init_216 dhX12_init_216 1 (q := 3) rfl
theorem dX12_init_220 : decode cX12_init 220 = .ok (.bipush 30, 2) := ds_row dvX12_init_216 dhX12_init_216 2 (q := 4) rfl
theorem dX12_init_222 : decode cX12_init 222 = .ok (.newarray .int, 2) := by decide +kernel
abbrev dBX12_init_224 : List UInt8 := [181, 0, 176, 42, 16, 30]
abbrev dRX12_init_224 : List (Nat × Jvm.ClassFile.Instr × Nat) := [(0, .putfield 176, 3), (3, .aload_n 0, 1), (4, .bipush 30, 2)]
theorem dvX12_init_224 : ds_V cX12_init (.mk (List.toArray dBX12_init_224)) 224 := ds_at cX12_init 224 dBX12_init_224 (by decide +kernel)
theorem dhX12_init_224 : ds_all (.mk (List.toArray dBX12_init_224)) dRX12_init_224 = true := by decide +kernel
theorem dX12_init_224 : decode cX12_init 224 = .ok (.putfield 176, 3) := ds_row dvX12_init_224 dhX12_init_224 0 (q := 0) rfl
theorem dX12_init_227 : decode cX12_init 227 = .ok (.aload_n 0, 1) := ds_row dvX12_init_224 dhX12_init_224 1 (q := 3) rfl
theorem dX12_init_228 : decode cX12_init 228 = .ok (.bipush 30, 2) := ds_row dvX12_init_224 dhX12_init_224 2 (q := 4) rfl
theorem dX12_init_230 : decode cX12_init 230 = .ok (.newarray .int, 2) := by decide +kernel
abbrev dBX12_init_232 : List UInt8 := [181, 0, 179, 42, 16, 30]
abbrev dRX12_init_232 : List (Nat × Jvm.ClassFile.Instr × Nat) := [(0, .putfield 179, 3), (3, .aload_n 0, 1), (4, .bipush 30, 2)]
theorem dvX12_init_232 : ds_V cX12_init (.mk (List.toArray dBX12_init_232)) 232 := ds_at cX12_init 232 dBX12_init_232 (by decide +kernel)
theorem dhX12_init_232 : ds_all (.mk (List.toArray dBX12_init_232)) dRX12_init_232 = true := by decide +kernel
theorem dX12_init_232 : decode cX12_init 232 = .ok (.putfield 179, 3) := ds_row dvX12_init_232 dhX12_init_232 0 (q := 0) rfl
theorem dX12_init_235 : decode cX12_init 235 = .ok (.aload_n 0, 1) := ds_row dvX12_init_232 dhX12_init_232 1 (q := 3) rfl
theorem dX12_init_236 : decode cX12_init 236 = .ok (.bipush 30, 2) := ds_row dvX12_init_232 dhX12_init_232 2 (q := 4) rfl
theorem dX12_init_238 : decode cX12_init 238 = .ok (.newarray .int, 2) := by decide +kernel
abbrev dBX12_init_240 : List UInt8 := [181, 0, 182, 42, 16, 6]
abbrev dRX12_init_240 : List (Nat × Jvm.ClassFile.Instr × Nat) := [(0, .putfield 182, 3), (3, .aload_n 0, 1), (4, .bipush 6, 2)]
theorem dvX12_init_240 : ds_V cX12_init (.mk (List.toArray dBX12_init_240)) 240 := ds_at cX12_init 240 dBX12_init_240 (by decide +kernel)
theorem dhX12_init_240 : ds_all (.mk (List.toArray dBX12_init_240)) dRX12_init_240 = true := by decide +kernel
theorem dX12_init_240 : decode cX12_init 240 = .ok (.putfield 182, 3) := ds_row dvX12_init_240 dhX12_init_240 0 (q := 0) rfl
theorem dX12_init_243 : decode cX12_init 243 = .ok (.aload_n 0, 1) := ds_row dvX12_init_240 dhX12_init_240 1 (q := 3) rfl
theorem dX12_init_244 : decode cX12_init 244 = .ok (.bipush 6, 2) := ds_row dvX12_init_240 dhX12_init_240 2 (q := 4) rfl
theorem dX12_init_246 : decode cX12_init 246 = .ok (.newarray .boolean, 2) := by decide +kernel
abbrev dBX12_init_248 : List UInt8 := [181, 0, 142, 42, 16, 6]
abbrev dRX12_init_248 : List (Nat × Jvm.ClassFile.Instr × Nat) := [(0, .putfield 142, 3), (3, .aload_n 0, 1), (4, .bipush 6, 2)]
theorem dvX12_init_248 : ds_V cX12_init (.mk (List.toArray dBX12_init_248)) 248 := ds_at cX12_init 248 dBX12_init_248 (by decide +kernel)
theorem dhX12_init_248 : ds_all (.mk (List.toArray dBX12_init_248)) dRX12_init_248 = true := by decide +kernel
theorem dX12_init_248 : decode cX12_init 248 = .ok (.putfield 142, 3) := ds_row dvX12_init_248 dhX12_init_248 0 (q := 0) rfl
theorem dX12_init_251 : decode cX12_init 251 = .ok (.aload_n 0, 1) := ds_row dvX12_init_248 dhX12_init_248 1 (q := 3) rfl
theorem dX12_init_252 : decode cX12_init 252 = .ok (.bipush 6, 2) := ds_row dvX12_init_248 dhX12_init_248 2 (q := 4) rfl
theorem dX12_init_254 : decode cX12_init 254 = .ok (.newarray .int, 2) := by decide +kernel
abbrev dBX12_init_256 : List UInt8 := [181, 0, 39, 42, 16, 24]
abbrev dRX12_init_256 : List (Nat × Jvm.ClassFile.Instr × Nat) := [(0, .putfield 39, 3), (3, .aload_n 0, 1), (4, .bipush 24, 2)]
theorem dvX12_init_256 : ds_V cX12_init (.mk (List.toArray dBX12_init_256)) 256 := ds_at cX12_init 256 dBX12_init_256 (by decide +kernel)
theorem dhX12_init_256 : ds_all (.mk (List.toArray dBX12_init_256)) dRX12_init_256 = true := by decide +kernel
theorem dX12_init_256 : decode cX12_init 256 = .ok (.putfield 39, 3) := ds_row dvX12_init_256 dhX12_init_256 0 (q := 0) rfl
theorem dX12_init_259 : decode cX12_init 259 = .ok (.aload_n 0, 1) := ds_row dvX12_init_256 dhX12_init_256 1 (q := 3) rfl
theorem dX12_init_260 : decode cX12_init 260 = .ok (.bipush 24, 2) := ds_row dvX12_init_256 dhX12_init_256 2 (q := 4) rfl
theorem dX12_init_262 : decode cX12_init 262 = .ok (.newarray .int, 2) := by decide +kernel
abbrev dBX12_init_264 : List UInt8 := [181, 2, 48, 42, 16, 24]
abbrev dRX12_init_264 : List (Nat × Jvm.ClassFile.Instr × Nat) := [(0, .putfield 560, 3), (3, .aload_n 0, 1), (4, .bipush 24, 2)]
theorem dvX12_init_264 : ds_V cX12_init (.mk (List.toArray dBX12_init_264)) 264 := ds_at cX12_init 264 dBX12_init_264 (by decide +kernel)
theorem dhX12_init_264 : ds_all (.mk (List.toArray dBX12_init_264)) dRX12_init_264 = true := by decide +kernel
theorem dX12_init_264 : decode cX12_init 264 = .ok (.putfield 560, 3) := ds_row dvX12_init_264 dhX12_init_264 0 (q := 0) rfl
theorem dX12_init_267 : decode cX12_init 267 = .ok (.aload_n 0, 1) := ds_row dvX12_init_264 dhX12_init_264 1 (q := 3) rfl
theorem dX12_init_268 : decode cX12_init 268 = .ok (.bipush 24, 2) := ds_row dvX12_init_264 dhX12_init_264 2 (q := 4) rfl
theorem dX12_init_270 : decode cX12_init 270 = .ok (.newarray .int, 2) := by decide +kernel
abbrev dBX12_init_272 : List UInt8 := [181, 2, 51, 42, 16, 100]
abbrev dRX12_init_272 : List (Nat × Jvm.ClassFile.Instr × Nat) := [(0, .putfield 563, 3), (3, .aload_n 0, 1), (4, .bipush 100, 2)]
theorem dvX12_init_272 : ds_V cX12_init (.mk (List.toArray dBX12_init_272)) 272 := ds_at cX12_init 272 dBX12_init_272 (by decide +kernel)
theorem dhX12_init_272 : ds_all (.mk (List.toArray dBX12_init_272)) dRX12_init_272 = true := by decide +kernel
theorem dX12_init_272 : decode cX12_init 272 = .ok (.putfield 563, 3) := ds_row dvX12_init_272 dhX12_init_272 0 (q := 0) rfl
theorem dX12_init_275 : decode cX12_init 275 = .ok (.aload_n 0, 1) := ds_row dvX12_init_272 dhX12_init_272 1 (q := 3) rfl
theorem dX12_init_276 : decode cX12_init 276 = .ok (.bipush 100, 2) := ds_row dvX12_init_272 dhX12_init_272 2 (q := 4) rfl
theorem dX12_init_278 : decode cX12_init 278 = .ok (.newarray .int, 2) := by decide +kernel
abbrev dBX12_init_280 : List UInt8 := [181, 0, 191, 42, 19, 2, 83, 181, 0, 221, 42, 17, 6, 164]
abbrev dRX12_init_280 : List (Nat × Jvm.ClassFile.Instr × Nat) := [(0, .putfield 191, 3), (3, .aload_n 0, 1), (4, .ldc_w 595, 3), (7, .putfield 221, 3), (10, .aload_n 0, 1), (11, .sipush 1700, 3)]
theorem dvX12_init_280 : ds_V cX12_init (.mk (List.toArray dBX12_init_280)) 280 := ds_at cX12_init 280 dBX12_init_280 (by decide +kernel)
theorem dhX12_init_280 : ds_all (.mk (List.toArray dBX12_init_280)) dRX12_init_280 = true := by decide +kernel
theorem dX12_init_280 : decode cX12_init 280 = .ok (.putfield 191, 3) := ds_row dvX12_init_280 dhX12_init_280 0 (q := 0) rfl
theorem dX12_init_283 : decode cX12_init 283 = .ok (.aload_n 0, 1) := ds_row dvX12_init_280 dhX12_init_280 1 (q := 3) rfl
theorem dX12_init_284 : decode cX12_init 284 = .ok (.ldc_w 595, 3) := ds_row dvX12_init_280 dhX12_init_280 2 (q := 4) rfl
theorem dX12_init_287 : decode cX12_init 287 = .ok (.putfield 221, 3) := ds_row dvX12_init_280 dhX12_init_280 3 (q := 7) rfl
theorem dX12_init_290 : decode cX12_init 290 = .ok (.aload_n 0, 1) := ds_row dvX12_init_280 dhX12_init_280 4 (q := 10) rfl
theorem dX12_init_291 : decode cX12_init 291 = .ok (.sipush 1700, 3) := ds_row dvX12_init_280 dhX12_init_280 5 (q := 11) rfl
theorem dX12_init_294 : decode cX12_init 294 = .ok (.newarray .int, 2) := by decide +kernel
abbrev dBX12_init_296 : List UInt8 := [181, 0, 202, 42, 16, 17]
abbrev dRX12_init_296 : List (Nat × Jvm.ClassFile.Instr × Nat) := [(0, .putfield 202, 3), (3, .aload_n 0, 1), (4, .bipush 17, 2)]
theorem dvX12_init_296 : ds_V cX12_init (.mk (List.toArray dBX12_init_296)) 296 := ds_at cX12_init 296 dBX12_init_296 (by decide +kernel)
theorem dhX12_init_296 : ds_all (.mk (List.toArray dBX12_init_296)) dRX12_init_296 = true := by decide +kernel
theorem dX12_init_296 : decode cX12_init 296 = .ok (.putfield 202, 3) := ds_row dvX12_init_296 dhX12_init_296 0 (q := 0) rfl
theorem dX12_init_299 : decode cX12_init 299 = .ok (.aload_n 0, 1) := ds_row dvX12_init_296 dhX12_init_296 1 (q := 3) rfl
theorem dX12_init_300 : decode cX12_init 300 = .ok (.bipush 17, 2) := ds_row dvX12_init_296 dhX12_init_296 2 (q := 4) rfl
theorem dX12_init_302 : decode cX12_init 302 = .ok (.newarray .int, 2) := by decide +kernel
abbrev dBX12_init_304 : List UInt8 := [181, 0, 208, 42, 16, 100]
abbrev dRX12_init_304 : List (Nat × Jvm.ClassFile.Instr × Nat) := [(0, .putfield 208, 3), (3, .aload_n 0, 1), (4, .bipush 100, 2)]
theorem dvX12_init_304 : ds_V cX12_init (.mk (List.toArray dBX12_init_304)) 304 := ds_at cX12_init 304 dBX12_init_304 (by decide +kernel)
theorem dhX12_init_304 : ds_all (.mk (List.toArray dBX12_init_304)) dRX12_init_304 = true := by decide +kernel
theorem dX12_init_304 : decode cX12_init 304 = .ok (.putfield 208, 3) := ds_row dvX12_init_304 dhX12_init_304 0 (q := 0) rfl
theorem dX12_init_307 : decode cX12_init 307 = .ok (.aload_n 0, 1) := ds_row dvX12_init_304 dhX12_init_304 1 (q := 3) rfl
theorem dX12_init_308 : decode cX12_init 308 = .ok (.bipush 100, 2) := ds_row dvX12_init_304 dhX12_init_304 2 (q := 4) rfl
theorem dX12_init_310 : decode cX12_init 310 = .ok (.newarray .int, 2) := by decide +kernel
abbrev dBX12_init_312 : List UInt8 := [181, 1, 40, 42, 16, 13]
abbrev dRX12_init_312 : List (Nat × Jvm.ClassFile.Instr × Nat) := [(0, .putfield 296, 3), (3, .aload_n 0, 1), (4, .bipush 13, 2)]
theorem dvX12_init_312 : ds_V cX12_init (.mk (List.toArray dBX12_init_312)) 312 := ds_at cX12_init 312 dBX12_init_312 (by decide +kernel)
theorem dhX12_init_312 : ds_all (.mk (List.toArray dBX12_init_312)) dRX12_init_312 = true := by decide +kernel
theorem dX12_init_312 : decode cX12_init 312 = .ok (.putfield 296, 3) := ds_row dvX12_init_312 dhX12_init_312 0 (q := 0) rfl
theorem dX12_init_315 : decode cX12_init 315 = .ok (.aload_n 0, 1) := ds_row dvX12_init_312 dhX12_init_312 1 (q := 3) rfl
theorem dX12_init_316 : decode cX12_init 316 = .ok (.bipush 13, 2) := ds_row dvX12_init_312 dhX12_init_312 2 (q := 4) rfl
theorem dX12_init_318 : decode cX12_init 318 = .ok (.newarray .int, 2) := by decide +kernel
abbrev dBX12_init_320 : List UInt8 := [181, 1, 43, 42, 16, 6]
abbrev dRX12_init_320 : List (Nat × Jvm.ClassFile.Instr × Nat) := [(0, .putfield 299, 3), (3, .aload_n 0, 1), (4, .bipush 6, 2)]
theorem dvX12_init_320 : ds_V cX12_init (.mk (List.toArray dBX12_init_320)) 320 := ds_at cX12_init 320 dBX12_init_320 (by decide +kernel)
theorem dhX12_init_320 : ds_all (.mk (List.toArray dBX12_init_320)) dRX12_init_320 = true := by decide +kernel
theorem dX12_init_320 : decode cX12_init 320 = .ok (.putfield 299, 3) := ds_row dvX12_init_320 dhX12_init_320 0 (q := 0) rfl
theorem dX12_init_323 : decode cX12_init 323 = .ok (.aload_n 0, 1) := ds_row dvX12_init_320 dhX12_init_320 1 (q := 3) rfl
theorem dX12_init_324 : decode cX12_init 324 = .ok (.bipush 6, 2) := ds_row dvX12_init_320 dhX12_init_320 2 (q := 4) rfl
theorem dX12_init_326 : decode cX12_init 326 = .ok (.newarray .int, 2) := by decide +kernel
abbrev dBX12_init_328 : List UInt8 := [181, 1, 53, 42, 16, 6]
abbrev dRX12_init_328 : List (Nat × Jvm.ClassFile.Instr × Nat) := [(0, .putfield 309, 3), (3, .aload_n 0, 1), (4, .bipush 6, 2)]
theorem dvX12_init_328 : ds_V cX12_init (.mk (List.toArray dBX12_init_328)) 328 := ds_at cX12_init 328 dBX12_init_328 (by decide +kernel)
theorem dhX12_init_328 : ds_all (.mk (List.toArray dBX12_init_328)) dRX12_init_328 = true := by decide +kernel
theorem dX12_init_328 : decode cX12_init 328 = .ok (.putfield 309, 3) := ds_row dvX12_init_328 dhX12_init_328 0 (q := 0) rfl
theorem dX12_init_331 : decode cX12_init 331 = .ok (.aload_n 0, 1) := ds_row dvX12_init_328 dhX12_init_328 1 (q := 3) rfl
theorem dX12_init_332 : decode cX12_init 332 = .ok (.bipush 6, 2) := ds_row dvX12_init_328 dhX12_init_328 2 (q := 4) rfl
theorem dX12_init_334 : decode cX12_init 334 = .ok (.newarray .int, 2) := by decide +kernel
abbrev dBX12_init_336 : List UInt8 := [181, 1, 65, 42, 16, 6]
abbrev dRX12_init_336 : List (Nat × Jvm.ClassFile.Instr × Nat) := [(0, .putfield 321, 3), (3, .aload_n 0, 1), (4, .bipush 6, 2)]
theorem dvX12_init_336 : ds_V cX12_init (.mk (List.toArray dBX12_init_336)) 336 := ds_at cX12_init 336 dBX12_init_336 (by decide +kernel)
theorem dhX12_init_336 : ds_all (.mk (List.toArray dBX12_init_336)) dRX12_init_336 = true := by decide +kernel
theorem dX12_init_336 : decode cX12_init 336 = .ok (.putfield 321, 3) := ds_row dvX12_init_336 dhX12_init_336 0 (q := 0) rfl
theorem dX12_init_339 : decode cX12_init 339 = .ok (.aload_n 0, 1) := ds_row dvX12_init_336 dhX12_init_336 1 (q := 3) rfl
theorem dX12_init_340 : decode cX12_init 340 = .ok (.bipush 6, 2) := ds_row dvX12_init_336 dhX12_init_336 2 (q := 4) rfl
theorem dX12_init_342 : decode cX12_init 342 = .ok (.newarray .int, 2) := by decide +kernel
abbrev dBX12_init_344 : List UInt8 := [181, 1, 62, 42, 16, 6]
abbrev dRX12_init_344 : List (Nat × Jvm.ClassFile.Instr × Nat) := [(0, .putfield 318, 3), (3, .aload_n 0, 1), (4, .bipush 6, 2)]
theorem dvX12_init_344 : ds_V cX12_init (.mk (List.toArray dBX12_init_344)) 344 := ds_at cX12_init 344 dBX12_init_344 (by decide +kernel)
theorem dhX12_init_344 : ds_all (.mk (List.toArray dBX12_init_344)) dRX12_init_344 = true := by decide +kernel
theorem dX12_init_344 : decode cX12_init 344 = .ok (.putfield 318, 3) := ds_row dvX12_init_344 dhX12_init_344 0 (q := 0) rfl
theorem dX12_init_347 : decode cX12_init 347 = .ok (.aload_n 0, 1) := ds_row dvX12_init_344 dhX12_init_344 1 (q := 3) rfl
theorem dX12_init_348 : decode cX12_init 348 = .ok (.bipush 6, 2) := ds_row dvX12_init_344 dhX12_init_344 2 (q := 4) rfl
theorem dX12_init_350 : decode cX12_init 350 = .ok (.newarray .int, 2) := by decide +kernel
abbrev dBX12_init_352 : List UInt8 := [181, 1, 68, 42, 16, 6]
abbrev dRX12_init_352 : List (Nat × Jvm.ClassFile.Instr × Nat) := [(0, .putfield 324, 3), (3, .aload_n 0, 1), (4, .bipush 6, 2)]
theorem dvX12_init_352 : ds_V cX12_init (.mk (List.toArray dBX12_init_352)) 352 := ds_at cX12_init 352 dBX12_init_352 (by decide +kernel)
theorem dhX12_init_352 : ds_all (.mk (List.toArray dBX12_init_352)) dRX12_init_352 = true := by decide +kernel
theorem dX12_init_352 : decode cX12_init 352 = .ok (.putfield 324, 3) := ds_row dvX12_init_352 dhX12_init_352 0 (q := 0) rfl
theorem dX12_init_355 : decode cX12_init 355 = .ok (.aload_n 0, 1) := ds_row dvX12_init_352 dhX12_init_352 1 (q := 3) rfl
theorem dX12_init_356 : decode cX12_init 356 = .ok (.bipush 6, 2) := ds_row dvX12_init_352 dhX12_init_352 2 (q := 4) rfl
theorem dX12_init_358 : decode cX12_init 358 = .ok (.newarray .int, 2) := by decide +kernel
abbrev dBX12_init_360 : List UInt8 := [181, 1, 71, 42, 16, 6]
abbrev dRX12_init_360 : List (Nat × Jvm.ClassFile.Instr × Nat) := [(0, .putfield 327, 3), (3, .aload_n 0, 1), (4, .bipush 6, 2)]
theorem dvX12_init_360 : ds_V cX12_init (.mk (List.toArray dBX12_init_360)) 360 := ds_at cX12_init 360 dBX12_init_360 (by decide +kernel)
theorem dhX12_init_360 : ds_all (.mk (List.toArray dBX12_init_360)) dRX12_init_360 = true := by decide +kernel
theorem dX12_init_360 : decode cX12_init 360 = .ok (.putfield 327, 3) := ds_row dvX12_init_360 dhX12_init_360 0 (q := 0) rfl
theorem dX12_init_363 : decode cX12_init 363 = .ok (.aload_n 0, 1) := ds_row dvX12_init_360 dhX12_init_360 1 (q := 3) rfl
theorem dX12_init_364 : decode cX12_init 364 = .ok (.bipush 6, 2) := ds_row dvX12_init_360 dhX12_init_360 2 (q := 4) rfl
theorem dX12_init_366 : decode cX12_init 366 = .ok (.newarray .int, 2) := by decide +kernel
abbrev dBX12_init_368 : List UInt8 := [181, 1, 74, 42, 16, 6]
abbrev dRX12_init_368 : List (Nat × Jvm.ClassFile.Instr × Nat) := [(0, .putfield 330, 3), (3, .aload_n 0, 1), (4, .bipush 6, 2)]
theorem dvX12_init_368 : ds_V cX12_init (.mk (List.toArray dBX12_init_368)) 368 := ds_at cX12_init 368 dBX12_init_368 (by decide +kernel)
theorem dhX12_init_368 : ds_all (.mk (List.toArray dBX12_init_368)) dRX12_init_368 = true := by decide +kernel
theorem dX12_init_368 : decode cX12_init 368 = .ok (.putfield 330, 3) := ds_row dvX12_init_368 dhX12_init_368 0 (q := 0) rfl
theorem dX12_init_371 : decode cX12_init 371 = .ok (.aload_n 0, 1) := ds_row dvX12_init_368 dhX12_init_368 1 (q := 3) rfl
theorem dX12_init_372 : decode cX12_init 372 = .ok (.bipush 6, 2) := ds_row dvX12_init_368 dhX12_init_368 2 (q := 4) rfl
theorem dX12_init_374 : decode cX12_init 374 = .ok (.newarray .int, 2) := by decide +kernel
abbrev dBX12_init_376 : List UInt8 := [181, 1, 77, 42, 16, 24]
abbrev dRX12_init_376 : List (Nat × Jvm.ClassFile.Instr × Nat) := [(0, .putfield 333, 3), (3, .aload_n 0, 1), (4, .bipush 24, 2)]
theorem dvX12_init_376 : ds_V cX12_init (.mk (List.toArray dBX12_init_376)) 376 := ds_at cX12_init 376 dBX12_init_376 (by decide +kernel)
theorem dhX12_init_376 : ds_all (.mk (List.toArray dBX12_init_376)) dRX12_init_376 = true := by decide +kernel
theorem dX12_init_376 : decode cX12_init 376 = .ok (.putfield 333, 3) := ds_row dvX12_init_376 dhX12_init_376 0 (q := 0) rfl
theorem dX12_init_379 : decode cX12_init 379 = .ok (.aload_n 0, 1) := ds_row dvX12_init_376 dhX12_init_376 1 (q := 3) rfl
theorem dX12_init_380 : decode cX12_init 380 = .ok (.bipush 24, 2) := ds_row dvX12_init_376 dhX12_init_376 2 (q := 4) rfl
theorem dX12_init_382 : decode cX12_init 382 = .ok (.newarray .int, 2) := by decide +kernel
abbrev dBX12_init_384 : List UInt8 := [181, 1, 104, 42, 16, 6]
abbrev dRX12_init_384 : List (Nat × Jvm.ClassFile.Instr × Nat) := [(0, .putfield 360, 3), (3, .aload_n 0, 1), (4, .bipush 6, 2)]
theorem dvX12_init_384 : ds_V cX12_init (.mk (List.toArray dBX12_init_384)) 384 := ds_at cX12_init 384 dBX12_init_384 (by decide +kernel)
theorem dhX12_init_384 : ds_all (.mk (List.toArray dBX12_init_384)) dRX12_init_384 = true := by decide +kernel
theorem dX12_init_384 : decode cX12_init 384 = .ok (.putfield 360, 3) := ds_row dvX12_init_384 dhX12_init_384 0 (q := 0) rfl
theorem dX12_init_387 : decode cX12_init 387 = .ok (.aload_n 0, 1) := ds_row dvX12_init_384 dhX12_init_384 1 (q := 3) rfl
theorem dX12_init_388 : decode cX12_init 388 = .ok (.bipush 6, 2) := ds_row dvX12_init_384 dhX12_init_384 2 (q := 4) rfl
theorem dX12_init_390 : decode cX12_init 390 = .ok (.newarray .int, 2) := by decide +kernel
abbrev dBX12_init_392 : List UInt8 := [181, 1, 80, 42, 16, 6]
abbrev dRX12_init_392 : List (Nat × Jvm.ClassFile.Instr × Nat) := [(0, .putfield 336, 3), (3, .aload_n 0, 1), (4, .bipush 6, 2)]
theorem dvX12_init_392 : ds_V cX12_init (.mk (List.toArray dBX12_init_392)) 392 := ds_at cX12_init 392 dBX12_init_392 (by decide +kernel)
theorem dhX12_init_392 : ds_all (.mk (List.toArray dBX12_init_392)) dRX12_init_392 = true := by decide +kernel
theorem dX12_init_392 : decode cX12_init 392 = .ok (.putfield 336, 3) := ds_row dvX12_init_392 dhX12_init_392 0 (q := 0) rfl
theorem dX12_init_395 : decode cX12_init 395 = .ok (.aload_n 0, 1) := ds_row dvX12_init_392 dhX12_init_392 1 (q := 3) rfl
theorem dX12_init_396 : decode cX12_init 396 = .ok (.bipush 6, 2) := ds_row dvX12_init_392 dhX12_init_392 2 (q := 4) rfl
theorem dX12_init_398 : decode cX12_init 398 = .ok (.newarray .int, 2) := by decide +kernel
abbrev dBX12_init_400 : List UInt8 := [181, 1, 83, 42, 16, 6]
abbrev dRX12_init_400 : List (Nat × Jvm.ClassFile.Instr × Nat) := [(0, .putfield 339, 3), (3, .aload_n 0, 1), (4, .bipush 6, 2)]
theorem dvX12_init_400 : ds_V cX12_init (.mk (List.toArray dBX12_init_400)) 400 := ds_at cX12_init 400 dBX12_init_400 (by decide +kernel)
theorem dhX12_init_400 : ds_all (.mk (List.toArray dBX12_init_400)) dRX12_init_400 = true := by decide +kernel
theorem dX12_init_400 : decode cX12_init 400 = .ok (.putfield 339, 3) := ds_row dvX12_init_400 dhX12_init_400 0 (q := 0) rfl
theorem dX12_init_403 : decode cX12_init 403 = .ok (.aload_n 0, 1) := ds_row dvX12_init_400 dhX12_init_400 1 (q := 3) rfl
theorem dX12_init_404 : decode cX12_init 404 = .ok (.bipush 6, 2) := ds_row dvX12_init_400 dhX12_init_400 2 (q := 4) rfl
theorem dX12_init_406 : decode cX12_init 406 = .ok (.newarray .int, 2) := by decide +kernel
abbrev dBX12_init_408 : List UInt8 := [181, 1, 86, 42, 16, 6]
abbrev dRX12_init_408 : List (Nat × Jvm.ClassFile.Instr × Nat) := [(0, .putfield 342, 3), (3, .aload_n 0, 1), (4, .bipush 6, 2)]
theorem dvX12_init_408 : ds_V cX12_init (.mk (List.toArray dBX12_init_408)) 408 := ds_at cX12_init 408 dBX12_init_408 (by decide +kernel)
theorem dhX12_init_408 : ds_all (.mk (List.toArray dBX12_init_408)) dRX12_init_408 = true := by decide +kernel
theorem dX12_init_408 : decode cX12_init 408 = .ok (.putfield 342, 3) := ds_row dvX12_init_408 dhX12_init_408 0 (q := 0) rfl
theorem dX12_init_411 : decode cX12_init 411 = .ok (.aload_n 0, 1) := ds_row dvX12_init_408 dhX12_init_408 1 (q := 3) rfl
theorem dX12_init_412 : decode cX12_init 412 = .ok (.bipush 6, 2) := ds_row dvX12_init_408 dhX12_init_408 2 (q := 4) rfl
theorem dX12_init_414 : decode cX12_init 414 = .ok (.newarray .int, 2) := by decide +kernel
abbrev dBX12_init_416 : List UInt8 := [181, 1, 89, 42, 16, 6]
abbrev dRX12_init_416 : List (Nat × Jvm.ClassFile.Instr × Nat) := [(0, .putfield 345, 3), (3, .aload_n 0, 1), (4, .bipush 6, 2)]
theorem dvX12_init_416 : ds_V cX12_init (.mk (List.toArray dBX12_init_416)) 416 := ds_at cX12_init 416 dBX12_init_416 (by decide +kernel)
theorem dhX12_init_416 : ds_all (.mk (List.toArray dBX12_init_416)) dRX12_init_416 = true := by decide +kernel
theorem dX12_init_416 : decode cX12_init 416 = .ok (.putfield 345, 3) := ds_row dvX12_init_416 dhX12_init_416 0 (q := 0) rfl
theorem dX12_init_419 : decode cX12_init 419 = .ok (.aload_n 0, 1) := ds_row dvX12_init_416 dhX12_init_416 1 (q := 3) rfl
theorem dX12_init_420 : decode cX12_init 420 = .ok (.bipush 6, 2) := ds_row dvX12_init_416 dhX12_init_416 2 (q := 4) rfl
theorem dX12_init_422 : decode cX12_init 422 = .ok (.newarray .int, 2) := by decide +kernel
abbrev dBX12_init_424 : List UInt8 := [181, 1, 92, 42, 16, 6]
abbrev dRX12_init_424 : List (Nat × Jvm.ClassFile.Instr × Nat) := [(0, .putfield 348, 3), (3, .aload_n 0, 1), (4, .bipush 6, 2)]
theorem dvX12_init_424 : ds_V cX12_init (.mk (List.toArray dBX12_init_424)) 424 := ds_at cX12_init 424 dBX12_init_424 (by decide +kernel)
theorem dhX12_init_424 : ds_all (.mk (List.toArray dBX12_init_424)) dRX12_init_424 = true := by decide +kernel
theorem dX12_init_424 : decode cX12_init 424 = .ok (.putfield 348, 3) := ds_row dvX12_init_424 dhX12_init_424 0 (q := 0) rfl
theorem dX12_init_427 : decode cX12_init 427 = .ok (.aload_n 0, 1) := ds_row dvX12_init_424 dhX12_init_424 1 (q := 3) rfl
theorem dX12_init_428 : decode cX12_init 428 = .ok (.bipush 6, 2) := ds_row dvX12_init_424 dhX12_init_424 2 (q := 4) rfl
theorem dX12_init_430 : decode cX12_init 430 = .ok (.newarray .int, 2) := by decide +kernel
abbrev dBX12_init_432 : List UInt8 := [181, 1, 95, 42, 16, 6]
abbrev dRX12_init_432 : List (Nat × Jvm.ClassFile.Instr × Nat) := [(0, .putfield 351, 3), (3, .aload_n 0, 1), (4, .bipush 6, 2)]
theorem dvX12_init_432 : ds_V cX12_init (.mk (List.toArray dBX12_init_432)) 432 := ds_at cX12_init 432 dBX12_init_432 (by decide +kernel)
theorem dhX12_init_432 : ds_all (.mk (List.toArray dBX12_init_432)) dRX12_init_432 = true := by decide +kernel
theorem dX12_init_432 : decode cX12_init 432 = .ok (.putfield 351, 3) := ds_row dvX12_init_432 dhX12_init_432 0 (q := 0) rfl
theorem dX12_init_435 : decode cX12_init 435 = .ok (.aload_n 0, 1) := ds_row dvX12_init_432 dhX12_init_432 1 (q := 3) rfl
theorem dX12_init_436 : decode cX12_init 436 = .ok (.bipush 6, 2) := ds_row dvX12_init_432 dhX12_init_432 2 (q := 4) rfl
theorem dX12_init_438 : decode cX12_init 438 = .ok (.newarray .int, 2) := by decide +kernel
abbrev dBX12_init_440 : List UInt8 := [181, 1, 98, 42, 16, 6]
abbrev dRX12_init_440 : List (Nat × Jvm.ClassFile.Instr × Nat) := [(0, .putfield 354, 3), (3, .aload_n 0, 1), (4, .bipush 6, 2)]
theorem dvX12_init_440 : ds_V cX12_init (.mk (List.toArray dBX12_init_440)) 440 := ds_at cX12_init 440 dBX12_init_440 (by decide +kernel)
theorem dhX12_init_440 : ds_all (.mk (List.toArray dBX12_init_440)) dRX12_init_440 = true := by decide +kernel
theorem dX12_init_440 : decode cX12_init 440 = .ok (.putfield 354, 3) := ds_row dvX12_init_440 dhX12_init_440 0 (q := 0) rfl
theorem dX12_init_443 : decode cX12_init 443 = .ok (.aload_n 0, 1) := ds_row dvX12_init_440 dhX12_init_440 1 (q := 3) rfl
theorem dX12_init_444 : decode cX12_init 444 = .ok (.bipush 6, 2) := ds_row dvX12_init_440 dhX12_init_440 2 (q := 4) rfl
theorem dX12_init_446 : decode cX12_init 446 = .ok (.newarray .int, 2) := by decide +kernel
abbrev dBX12_init_448 : List UInt8 := [181, 1, 101, 42, 17, 1, 104]
abbrev dRX12_init_448 : List (Nat × Jvm.ClassFile.Instr × Nat) := [(0, .putfield 357, 3), (3, .aload_n 0, 1), (4, .sipush 360, 3)]
theorem dvX12_init_448 : ds_V cX12_init (.mk (List.toArray dBX12_init_448)) 448 := ds_at cX12_init 448 dBX12_init_448 (by decide +kernel)
theorem dhX12_init_448 : ds_all (.mk (List.toArray dBX12_init_448)) dRX12_init_448 = true := by decide +kernel
theorem dX12_init_448 : decode cX12_init 448 = .ok (.putfield 357, 3) := ds_row dvX12_init_448 dhX12_init_448 0 (q := 0) rfl
theorem dX12_init_451 : decode cX12_init 451 = .ok (.aload_n 0, 1) := ds_row dvX12_init_448 dhX12_init_448 1 (q := 3) rfl
theorem dX12_init_452 : decode cX12_init 452 = .ok (.sipush 360, 3) := ds_row dvX12_init_448 dhX12_init_448 2 (q := 4) rfl
theorem dX12_init_455 : decode cX12_init 455 = .ok (.newarray .int, 2) := by decide +kernel
abbrev dBX12_init_457 : List UInt8 := [181, 1, 107, 42, 16, 30]
abbrev dRX12_init_457 : List (Nat × Jvm.ClassFile.Instr × Nat) := [(0, .putfield 363, 3), (3, .aload_n 0, 1), (4, .bipush 30, 2)]
theorem dvX12_init_457 : ds_V cX12_init (.mk (List.toArray dBX12_init_457)) 457 := ds_at cX12_init 457 dBX12_init_457 (by decide +kernel)
theorem dhX12_init_457 : ds_all (.mk (List.toArray dBX12_init_457)) dRX12_init_457 = true := by decide +kernel
theorem dX12_init_457 : decode cX12_init 457 = .ok (.putfield 363, 3) := ds_row dvX12_init_457 dhX12_init_457 0 (q := 0) rfl
theorem dX12_init_460 : decode cX12_init 460 = .ok (.aload_n 0, 1) := ds_row dvX12_init_457 dhX12_init_457 1 (q := 3) rfl
theorem dX12_init_461 : decode cX12_init 461 = .ok (.bipush 30, 2) := ds_row dvX12_init_457 dhX12_init_457 2 (q := 4) rfl
theorem dX12_init_463 : decode cX12_init 463 = .ok (.newarray .int, 2) := by decide +kernel
abbrev dBX12_init_465 : List UInt8 := [181, 1, 110, 42, 16, 30]
abbrev dRX12_init_465 : List (Nat × Jvm.ClassFile.Instr × Nat) := [(0, .putfield 366, 3), (3, .aload_n 0, 1), (4, .bipush 30, 2)]
theorem dvX12_init_465 : ds_V cX12_init (.mk (List.toArray dBX12_init_465)) 465 := ds_at cX12_init 465 dBX12_init_465 (by decide +kernel)
theorem dhX12_init_465 : ds_all (.mk (List.toArray dBX12_init_465)) dRX12_init_465 = true := by decide +kernel
theorem dX12_init_465 : decode cX12_init 465 = .ok (.putfield 366, 3) := ds_row dvX12_init_465 dhX12_init_465 0 (q := 0) rfl
theorem dX12_init_468 : decode cX12_init 468 = .ok (.aload_n 0, 1) := ds_row dvX12_init_465 dhX12_init_465 1 (q := 3) rfl
theorem dX12_init_469 : decode cX12_init 469 = .ok (.bipush 30, 2) := ds_row dvX12_init_465 dhX12_init_465 2 (q := 4) rfl
theorem dX12_init_471 : decode cX12_init 471 = .ok (.newarray .int, 2) := by decide +kernel
abbrev dBX12_init_473 : List UInt8 := [181, 1, 149, 42, 7]
abbrev dRX12_init_473 : List (Nat × Jvm.ClassFile.Instr × Nat) := [(0, .putfield 405, 3), (3, .aload_n 0, 1), (4, .iconst 4, 1)]
theorem dvX12_init_473 : ds_V cX12_init (.mk (List.toArray dBX12_init_473)) 473 := ds_at cX12_init 473 dBX12_init_473 (by decide +kernel)
theorem dhX12_init_473 : ds_all (.mk (List.toArray dBX12_init_473)) dRX12_init_473 = true := by decide +kernel
theorem dX12_init_473 : decode cX12_init 473 = .ok (.putfield 405, 3) := ds_row dvX12_init_473 dhX12_init_473 0 (q := 0) rfl
theorem dX12_init_476 : decode cX12_init 476 = .ok (.aload_n 0, 1) := ds_row dvX12_init_473 dhX12_init_473 1 (q := 3) rfl
theorem dX12_init_477 : decode cX12_init 477 = .ok (.iconst 4, 1) := ds_row dvX12_init_473 dhX12_init_473 2 (q := 4) rfl
theorem dX12_init_478 : decode cX12_init 478 = .ok (.newarray .int, 2) := by decide +kernel
abbrev dBX12_init_480 : List UInt8 := [181, 1, 59, 42, 16, 72]
abbrev dRX12_init_480 : List (Nat × Jvm.ClassFile.Instr × Nat) := [(0, .putfield 315, 3), (3, .aload_n 0, 1), (4, .bipush 72, 2)]
theorem dvX12_init_480 : ds_V cX12_init (.mk (List.toArray dBX12_init_480)) 480 := ds_at cX12_init 480 dBX12_init_480 (by decide +kernel)
theorem dhX12_init_480 : ds_all (.mk (List.toArray dBX12_init_480)) dRX12_init_480 = true := by decide +kernel
theorem dX12_init_480 : decode cX12_init 480 = .ok (.putfield 315, 3) := ds_row dvX12_init_480 dhX12_init_480 0 (q := 0) rfl
theorem dX12_init_483 : decode cX12_init 483 = .ok (.aload_n 0, 1) := ds_row dvX12_init_480 dhX12_init_480 1 (q := 3) rfl
theorem dX12_init_484 : decode cX12_init 484 = .ok (.bipush 72, 2) := ds_row dvX12_init_480 dhX12_init_480 2 (q := 4) rfl
theorem dX12_init_486 : decode cX12_init 486 = .ok (.newarray .int, 2) := by decide +kernel
abbrev dBX12_init_488 : List UInt8 := [181, 1, 113, 42, 16, 6]
abbrev dRX12_init_488 : List (Nat × Jvm.ClassFile.Instr × Nat) := [(0, .putfield 369, 3), (3, .aload_n 0, 1), (4, .bipush 6, 2)]
theorem dvX12_init_488 : ds_V cX12_init (.mk (List.toArray dBX12_init_488)) 488 := ds_at cX12_init 488 dBX12_init_488 (by decide +kernel)
theorem dhX12_init_488 : ds_all (.mk (List.toArray dBX12_init_488)) dRX12_init_488 = true := by decide +kernel
theorem dX12_init_488 : decode cX12_init 488 = .ok (.putfield 369, 3) := ds_row dvX12_init_488 dhX12_init_488 0 (q := 0) rfl
theorem dX12_init_491 : decode cX12_init 491 = .ok (.aload_n 0, 1) := ds_row dvX12_init_488 dhX12_init_488 1 (q := 3) rfl
theorem dX12_init_492 : decode cX12_init 492 = .ok (.bipush 6, 2) := ds_row dvX12_init_488 dhX12_init_488 2 (q := 4) rfl
theorem dX12_init_494 : decode cX12_init 494 = .ok (.newarray .boolean, 2) := by decide +kernel
abbrev dBX12_init_496 : List UInt8 := [181, 1, 173, 42, 16, 10]
abbrev dRX12_init_496 : List (Nat × Jvm.ClassFile.Instr × Nat) := [(0, .putfield 429, 3), (3, .aload_n 0, 1), (4, .bipush 10, 2)]
theorem dvX12_init_496 : ds_V cX12_init (.mk (List.toArray dBX12_init_496)) 496 := ds_at cX12_init 496 dBX12_init_496 (by decide +kernel)
theorem dhX12_init_496 : ds_all (.mk (List.toArray dBX12_init_496)) dRX12_init_496 = true := by decide +kernel
theorem dX12_init_496 : decode cX12_init 496 = .ok (.putfield 429, 3) := ds_row dvX12_init_496 dhX12_init_496 0 (q := 0) rfl
theorem dX12_init_499 : decode cX12_init 499 = .ok (.aload_n 0, 1) := ds_row dvX12_init_496 dhX12_init_496 1 (q := 3) rfl
theorem dX12_init_500 : decode cX12_init 500 = .ok (.bipush 10, 2) := ds_row dvX12_init_496 dhX12_init_496 2 (q := 4) rfl
theorem dX12_init_502 : decode cX12_init 502 = .ok (.newarray .int, 2) := by decide +kernel
abbrev dBX12_init_504 : List UInt8 := [181, 1, 209, 42, 16, 11]
abbrev dRX12_init_504 : List (Nat × Jvm.ClassFile.Instr × Nat) := [(0, .putfield 465, 3), (3, .aload_n 0, 1), (4, .bipush 11, 2)]
theorem dvX12_init_504 : ds_V cX12_init (.mk (List.toArray dBX12_init_504)) 504 := ds_at cX12_init 504 dBX12_init_504 (by decide +kernel)
theorem dhX12_init_504 : ds_all (.mk (List.toArray dBX12_init_504)) dRX12_init_504 = true := by decide +kernel
theorem dX12_init_504 : decode cX12_init 504 = .ok (.putfield 465, 3) := ds_row dvX12_init_504 dhX12_init_504 0 (q := 0) rfl
theorem dX12_init_507 : decode cX12_init 507 = .ok (.aload_n 0, 1) := ds_row dvX12_init_504 dhX12_init_504 1 (q := 3) rfl
theorem dX12_init_508 : decode cX12_init 508 = .ok (.bipush 11, 2) := ds_row dvX12_init_504 dhX12_init_504 2 (q := 4) rfl
theorem dX12_init_510 : decode cX12_init 510 = .ok (.newarray .int, 2) := by decide +kernel
abbrev dBX12_init_512 : List UInt8 := [181, 1, 13, 42, 16, 20]
abbrev dRX12_init_512 : List (Nat × Jvm.ClassFile.Instr × Nat) := [(0, .putfield 269, 3), (3, .aload_n 0, 1), (4, .bipush 20, 2)]
theorem dvX12_init_512 : ds_V cX12_init (.mk (List.toArray dBX12_init_512)) 512 := ds_at cX12_init 512 dBX12_init_512 (by decide +kernel)
theorem dhX12_init_512 : ds_all (.mk (List.toArray dBX12_init_512)) dRX12_init_512 = true := by decide +kernel
theorem dX12_init_512 : decode cX12_init 512 = .ok (.putfield 269, 3) := ds_row dvX12_init_512 dhX12_init_512 0 (q := 0) rfl
theorem dX12_init_515 : decode cX12_init 515 = .ok (.aload_n 0, 1) := ds_row dvX12_init_512 dhX12_init_512 1 (q := 3) rfl
theorem dX12_init_516 : decode cX12_init 516 = .ok (.bipush 20, 2) := ds_row dvX12_init_512 dhX12_init_512 2 (q := 4) rfl
theorem dX12_init_518 : decode cX12_init 518 = .ok (.newarray .int, 2) := by decide +kernel
abbrev dBX12_init_520 : List UInt8 := [181, 1, 216, 42, 16, 20]
abbrev dRX12_init_520 : List (Nat × Jvm.ClassFile.Instr × Nat) := [(0, .putfield 472, 3), (3, .aload_n 0, 1), (4, .bipush 20, 2)]
theorem dvX12_init_520 : ds_V cX12_init (.mk (List.toArray dBX12_init_520)) 520 := ds_at cX12_init 520 dBX12_init_520 (by decide +kernel)
theorem dhX12_init_520 : ds_all (.mk (List.toArray dBX12_init_520)) dRX12_init_520 = true := by decide +kernel
theorem dX12_init_520 : decode cX12_init 520 = .ok (.putfield 472, 3) := ds_row dvX12_init_520 dhX12_init_520 0 (q := 0) rfl
theorem dX12_init_523 : decode cX12_init 523 = .ok (.aload_n 0, 1) := ds_row dvX12_init_520 dhX12_init_520 1 (q := 3) rfl
theorem dX12_init_524 : decode cX12_init 524 = .ok (.bipush 20, 2) := ds_row dvX12_init_520 dhX12_init_520 2 (q := 4) rfl
theorem dX12_init_526 : decode cX12_init 526 = .ok (.newarray .int, 2) := by decide +kernel
abbrev dBX12_init_528 : List UInt8 := [181, 1, 219, 42, 16, 20]
abbrev dRX12_init_528 : List (Nat × Jvm.ClassFile.Instr × Nat) := [(0, .putfield 475, 3), (3, .aload_n 0, 1), (4, .bipush 20, 2)]
theorem dvX12_init_528 : ds_V cX12_init (.mk (List.toArray dBX12_init_528)) 528 := ds_at cX12_init 528 dBX12_init_528 (by decide +kernel)
theorem dhX12_init_528 : ds_all (.mk (List.toArray dBX12_init_528)) dRX12_init_528 = true := by decide +kernel
theorem dX12_init_528 : decode cX12_init 528 = .ok (.putfield 475, 3) := ds_row dvX12_init_528 dhX12_init_528 0 (q := 0) rfl
theorem dX12_init_531 : decode cX12_init 531 = .ok (.aload_n 0, 1) := ds_row dvX12_init_528 dhX12_init_528 1 (q := 3) rfl
theorem dX12_init_532 : decode cX12_init 532 = .ok (.bipush 20, 2) := ds_row dvX12_init_528 dhX12_init_528 2 (q := 4) rfl
theorem dX12_init_534 : decode cX12_init 534 = .ok (.newarray .int, 2) := by decide +kernel
abbrev dBX12_init_536 : List UInt8 := [181, 1, 222, 42, 16, 20]
abbrev dRX12_init_536 : List (Nat × Jvm.ClassFile.Instr × Nat) := [(0, .putfield 478, 3), (3, .aload_n 0, 1), (4, .bipush 20, 2)]
theorem dvX12_init_536 : ds_V cX12_init (.mk (List.toArray dBX12_init_536)) 536 := ds_at cX12_init 536 dBX12_init_536 (by decide +kernel)
theorem dhX12_init_536 : ds_all (.mk (List.toArray dBX12_init_536)) dRX12_init_536 = true := by decide +kernel
theorem dX12_init_536 : decode cX12_init 536 = .ok (.putfield 478, 3) := ds_row dvX12_init_536 dhX12_init_536 0 (q := 0) rfl
theorem dX12_init_539 : decode cX12_init 539 = .ok (.aload_n 0, 1) := ds_row dvX12_init_536 dhX12_init_536 1 (q := 3) rfl
theorem dX12_init_540 : decode cX12_init 540 = .ok (.bipush 20, 2) := ds_row dvX12_init_536 dhX12_init_536 2 (q := 4) rfl
theorem dX12_init_542 : decode cX12_init 542 = .ok (.newarray .int, 2) := by decide +kernel
abbrev dBX12_init_544 : List UInt8 := [181, 1, 225, 42, 16, 6]
abbrev dRX12_init_544 : List (Nat × Jvm.ClassFile.Instr × Nat) := [(0, .putfield 481, 3), (3, .aload_n 0, 1), (4, .bipush 6, 2)]
theorem dvX12_init_544 : ds_V cX12_init (.mk (List.toArray dBX12_init_544)) 544 := ds_at cX12_init 544 dBX12_init_544 (by decide +kernel)
theorem dhX12_init_544 : ds_all (.mk (List.toArray dBX12_init_544)) dRX12_init_544 = true := by decide +kernel
theorem dX12_init_544 : decode cX12_init 544 = .ok (.putfield 481, 3) := ds_row dvX12_init_544 dhX12_init_544 0 (q := 0) rfl
theorem dX12_init_547 : decode cX12_init 547 = .ok (.aload_n 0, 1) := ds_row dvX12_init_544 dhX12_init_544 1 (q := 3) rfl
theorem dX12_init_548 : decode cX12_init 548 = .ok (.bipush 6, 2) := ds_row dvX12_init_544 dhX12_init_544 2 (q := 4) rfl
theorem dX12_init_550 : decode cX12_init 550 = .ok (.newarray .boolean, 2) := by decide +kernel
abbrev dBX12_init_552 : List UInt8 := [181, 1, 234, 42, 16, 6]
abbrev dRX12_init_552 : List (Nat × Jvm.ClassFile.Instr × Nat) := [(0, .putfield 490, 3), (3, .aload_n 0, 1), (4, .bipush 6, 2)]
theorem dvX12_init_552 : ds_V cX12_init (.mk (List.toArray dBX12_init_552)) 552 := ds_at cX12_init 552 dBX12_init_552 (by decide +kernel)
theorem dhX12_init_552 : ds_all (.mk (List.toArray dBX12_init_552)) dRX12_init_552 = true := by decide +kernel
theorem dX12_init_552 : decode cX12_init 552 = .ok (.putfield 490, 3) := ds_row dvX12_init_552 dhX12_init_552 0 (q := 0) rfl
theorem dX12_init_555 : decode cX12_init 555 = .ok (.aload_n 0, 1) := ds_row dvX12_init_552 dhX12_init_552 1 (q := 3) rfl
theorem dX12_init_556 : decode cX12_init 556 = .ok (.bipush 6, 2) := ds_row dvX12_init_552 dhX12_init_552 2 (q := 4) rfl
theorem dX12_init_558 : decode cX12_init 558 = .ok (.newarray .int, 2) := by decide +kernel
abbrev dBX12_init_560 : List UInt8 := [181, 1, 237, 42, 16, 6]
abbrev dRX12_init_560 : List (Nat × Jvm.ClassFile.Instr × Nat) := [(0, .putfield 493, 3), (3, .aload_n 0, 1), (4, .bipush 6, 2)]
theorem dvX12_init_560 : ds_V cX12_init (.mk (List.toArray dBX12_init_560)) 560 := ds_at cX12_init 560 dBX12_init_560 (by decide +kernel)
theorem dhX12_init_560 : ds_all (.mk (List.toArray dBX12_init_560)) dRX12_init_560 = true := by decide +kernel
theorem dX12_init_560 : decode cX12_init 560 = .ok (.putfield 493, 3) := ds_row dvX12_init_560 dhX12_init_560 0 (q := 0) rfl
theorem dX12_init_563 : decode cX12_init 563 = .ok (.aload_n 0, 1) := ds_row dvX12_init_560 dhX12_init_560 1 (q := 3) rfl
theorem dX12_init_564 : decode cX12_init 564 = .ok (.bipush 6, 2) := ds_row dvX12_init_560 dhX12_init_560 2 (q := 4) rfl
theorem dX12_init_566 : decode cX12_init 566 = .ok (.newarray .int, 2) := by decide +kernel
abbrev dBX12_init_568 : List UInt8 := [181, 1, 252, 42, 16, 30]
abbrev dRX12_init_568 : List (Nat × Jvm.ClassFile.Instr × Nat) := [(0, .putfield 508, 3), (3, .aload_n 0, 1), (4, .bipush 30, 2)]
theorem dvX12_init_568 : ds_V cX12_init (.mk (List.toArray dBX12_init_568)) 568 := ds_at cX12_init 568 dBX12_init_568 (by decide +kernel)
theorem dhX12_init_568 : ds_all (.mk (List.toArray dBX12_init_568)) dRX12_init_568 = true := by decide +kernel
theorem dX12_init_568 : decode cX12_init 568 = .ok (.putfield 508, 3) := ds_row dvX12_init_568 dhX12_init_568 0 (q := 0) rfl
theorem dX12_init_571 : decode cX12_init 571 = .ok (.aload_n 0, 1) := ds_row dvX12_init_568 dhX12_init_568 1 (q := 3) rfl
theorem dX12_init_572 : decode cX12_init 572 = .ok (.bipush 30, 2) := ds_row dvX12_init_568 dhX12_init_568 2 (q := 4) rfl
theorem dX12_init_574 : decode cX12_init 574 = .ok (.newarray .int, 2) := by decide +kernel
abbrev dBX12_init_576 : List UInt8 := [181, 1, 255, 42, 16, 30]
abbrev dRX12_init_576 : List (Nat × Jvm.ClassFile.Instr × Nat) := [(0, .putfield 511, 3), (3, .aload_n 0, 1), (4, .bipush 30, 2)]
theorem dvX12_init_576 : ds_V cX12_init (.mk (List.toArray dBX12_init_576)) 576 := ds_at cX12_init 576 dBX12_init_576 (by decide +kernel)
theorem dhX12_init_576 : ds_all (.mk (List.toArray dBX12_init_576)) dRX12_init_576 = true := by decide +kernel
theorem dX12_init_576 : decode cX12_init 576 = .ok (.putfield 511, 3) := ds_row dvX12_init_576 dhX12_init_576 0 (q := 0) rfl
theorem dX12_init_579 : decode cX12_init 579 = .ok (.aload_n 0, 1) := ds_row dvX12_init_576 dhX12_init_576 1 (q := 3) rfl
theorem dX12_init_580 : decode cX12_init 580 = .ok (.bipush 30, 2) := ds_row dvX12_init_576 dhX12_init_576 2 (q := 4) rfl
theorem dX12_init_582 : decode cX12_init 582 = .ok (.newarray .int, 2) := by decide +kernel
abbrev dBX12_init_584 : List UInt8 := [181, 2, 2, 42, 16, 30]
abbrev dRX12_init_584 : List (Nat × Jvm.ClassFile.Instr × Nat) := [(0, .putfield 514, 3), (3, .aload_n 0, 1), (4, .bipush 30, 2)]
theorem dvX12_init_584 : ds_V cX12_init (.mk (List.toArray dBX12_init_584)) 584 := ds_at cX12_init 584 dBX12_init_584 (by decide +kernel)
theorem dhX12_init_584 : ds_all (.mk (List.toArray dBX12_init_584)) dRX12_init_584 = true := by decide +kernel
theorem dX12_init_584 : decode cX12_init 584 = .ok (.putfield 514, 3) := ds_row dvX12_init_584 dhX12_init_584 0 (q := 0) rfl
theorem dX12_init_587 : decode cX12_init 587 = .ok (.aload_n 0, 1) := ds_row dvX12_init_584 dhX12_init_584 1 (q := 3) rfl
theorem dX12_init_588 : decode cX12_init 588 = .ok (.bipush 30, 2) := ds_row dvX12_init_584 dhX12_init_584 2 (q := 4) rfl
theorem dX12_init_590 : decode cX12_init 590 = .ok (.newarray .int, 2) := by decide +kernel
abbrev dBX12_init_592 : List UInt8 := [181, 2, 5, 42, 16, 6]
abbrev dRX12_init_592 : List (Nat × Jvm.ClassFile.Instr × Nat) := [(0, .putfield 517, 3), (3, .aload_n 0, 1), (4, .bipush 6, 2)]
theorem dvX12_init_592 : ds_V cX12_init (.mk (List.toArray dBX12_init_592)) 592 := ds_at cX12_init 592 dBX12_init_592 (by decide +kernel)
theorem dhX12_init_592 : ds_all (.mk (List.toArray dBX12_init_592)) dRX12_init_592 = true := by decide +kernel
theorem dX12_init_592 : decode cX12_init 592 = .ok (.putfield 517, 3) := ds_row dvX12_init_592 dhX12_init_592 0 (q := 0) rfl
theorem dX12_init_595 : decode cX12_init 595 = .ok (.aload_n 0, 1) := ds_row dvX12_init_592 dhX12_init_592 1 (q := 3) rfl
theorem dX12_init_596 : decode cX12_init 596 = .ok (.bipush 6, 2) := ds_row dvX12_init_592 dhX12_init_592 2 (q := 4) rfl
theorem dX12_init_598 : decode cX12_init 598 = .ok (.newarray .int, 2) := by decide +kernel
abbrev dBX12_init_600 : List UInt8 := [181, 2, 8, 42, 5]
abbrev dRX12_init_600 : List (Nat × Jvm.ClassFile.Instr × Nat) := [(0, .putfield 520, 3), (3, .aload_n 0, 1), (4, .iconst 2, 1)]
theorem dvX12_init_600 : ds_V cX12_init (.mk (List.toArray dBX12_init_600)) 600 := ds_at cX12_init 600 dBX12_init_600 (by decide +kernel)
theorem dhX12_init_600 : ds_all (.mk (List.toArray dBX12_init_600)) dRX12_init_600 = true := by decide +kernel
theorem dX12_init_600 : decode cX12_init 600 = .ok (.putfield 520, 3) := ds_row dvX12_init_600 dhX12_init_600 0 (q := 0) rfl
theorem dX12_init_603 : decode cX12_init 603 = .ok (.aload_n 0, 1) := ds_row dvX12_init_600 dhX12_init_600 1 (q := 3) rfl
theorem dX12_init_604 : decode cX12_init 604 = .ok (.iconst 2, 1) := ds_row dvX12_init_600 dhX12_init_600 2 (q := 4) rfl
theorem dX12_init_605 : decode cX12_init 605 = .ok (.newarray .int, 2) := by decide +kernel
abbrev dBX12_init_607 : List UInt8 := [181, 2, 25, 42, 5]
abbrev dRX12_init_607 : List (Nat × Jvm.ClassFile.Instr × Nat) := [(0, .putfield 537, 3), (3, .aload_n 0, 1), (4, .iconst 2, 1)]
theorem dvX12_init_607 : ds_V cX12_init (.mk (List.toArray dBX12_init_607)) 607 := ds_at cX12_init 607 dBX12_init_607 (by decide +kernel)
theorem dhX12_init_607 : ds_all (.mk (List.toArray dBX12_init_607)) dRX12_init_607 = true := by decide +kernel
theorem dX12_init_607 : decode cX12_init 607 = .ok (.putfield 537, 3) := ds_row dvX12_init_607 dhX12_init_607 0 (q := 0) rfl
theorem dX12_init_610 : decode cX12_init 610 = .ok (.aload_n 0, 1) := ds_row dvX12_init_607 dhX12_init_607 1 (q := 3) rfl
theorem dX12_init_611 : decode cX12_init 611 = .ok (.iconst 2, 1) := ds_row dvX12_init_607 dhX12_init_607 2 (q := 4) rfl
theorem dX12_init_612 : decode cX12_init 612 = .ok (.newarray .int, 2) := by decide +kernel
abbrev dBX12_init_614 : List UInt8 := [181, 2, 28, 42, 16, 16]
abbrev dRX12_init_614 : List (Nat × Jvm.ClassFile.Instr × Nat) := [(0, .putfield 540, 3), (3, .aload_n 0, 1), (4, .bipush 16, 2)]
theorem dvX12_init_614 : ds_V cX12_init (.mk (List.toArray dBX12_init_614)) 614 := ds_at cX12_init 614 dBX12_init_614 (by decide +kernel)
theorem dhX12_init_614 : ds_all (.mk (List.toArray dBX12_init_614)) dRX12_init_614 = true := by decide +kernel
theorem dX12_init_614 : decode cX12_init 614 = .ok (.putfield 540, 3) := ds_row dvX12_init_614 dhX12_init_614 0 (q := 0) rfl
theorem dX12_init_617 : decode cX12_init 617 = .ok (.aload_n 0, 1) := ds_row dvX12_init_614 dhX12_init_614 1 (q := 3) rfl
theorem dX12_init_618 : decode cX12_init 618 = .ok (.bipush 16, 2) := ds_row dvX12_init_614 dhX12_init_614 2 (q := 4) rfl
theorem dX12_init_620 : decode cX12_init 620 = .ok (.newarray .int, 2) := by decide +kernel
abbrev dBX12_init_622 : List UInt8 := [181, 2, 57, 42, 16, 16]
abbrev dRX12_init_622 : List (Nat × Jvm.ClassFile.Instr × Nat) := [(0, .putfield 569, 3), (3, .aload_n 0, 1), (4, .bipush 16, 2)]
theorem dvX12_init_622 : ds_V cX12_init (.mk (List.toArray dBX12_init_622)) 622 := ds_at cX12_init 622 dBX12_init_622 (by decide +kernel)
theorem dhX12_init_622 : ds_all (.mk (List.toArray dBX12_init_622)) dRX12_init_622 = true := by decide +kernel
theorem dX12_init_622 : decode cX12_init 622 = .ok (.putfield 569, 3) := ds_row dvX12_init_622 dhX12_init_622 0 (q := 0) rfl
theorem dX12_init_625 : decode cX12_init 625 = .ok (.aload_n 0, 1) := ds_row dvX12_init_622 dhX12_init_622 1 (q := 3) rfl
theorem dX12_init_626 : decode cX12_init 626 = .ok (.bipush 16, 2) := ds_row dvX12_init_622 dhX12_init_622 2 (q := 4) rfl
theorem dX12_init_628 : decode cX12_init 628 = .ok (.newarray .int, 2) := by decide +kernel
abbrev dBX12_init_630 : List UInt8 := [181, 2, 60, 42, 16, 16]
abbrev dRX12_init_630 : List (Nat × Jvm.ClassFile.Instr × Nat) := [(0, .putfield 572, 3), (3, .aload_n 0, 1), (4, .bipush 16, 2)]
theorem dvX12_init_630 : ds_V cX12_init (.mk (List.toArray dBX12_init_630)) 630 := ds_at cX12_init 630 dBX12_init_630 (by decide +kernel)
theorem dhX12_init_630 : ds_all (.mk (List.toArray dBX12_init_630)) dRX12_init_630 = true := by decide +kernel
theorem dX12_init_630 : decode cX12_init 630 = .ok (.putfield 572, 3) := ds_row dvX12_init_630 dhX12_init_630 0 (q := 0) rfl
theorem dX12_init_633 : decode cX12_init 633 = .ok (.aload_n 0, 1) := ds_row dvX12_init_630 dhX12_init_630 1 (q := 3) rfl
theorem dX12_init_634 : decode cX12_init 634 = .ok (.bipush 16, 2) := ds_row dvX12_init_630 dhX12_init_630 2 (q := 4) rfl
theorem dX12_init_636 : decode cX12_init 636 = .ok (.newarray .int, 2) := by decide +kernel
abbrev dBX12_init_638 : List UInt8 := [181, 2, 63, 42, 16, 16]
abbrev dRX12_init_638 : List (Nat × Jvm.ClassFile.Instr × Nat) := [(0, .putfield 575, 3), (3, .aload_n 0, 1), (4, .bipush 16, 2)]
theorem dvX12_init_638 : ds_V cX12_init (.mk (List.toArray dBX12_init_638)) 638 := ds_at cX12_init 638 dBX12_init_638 (by decide +kernel)
theorem dhX12_init_638 : ds_all (.mk (List.toArray dBX12_init_638)) dRX12_init_638 = true := by decide +kernel
theorem dX12_init_638 : decode cX12_init 638 = .ok (.putfield 575, 3) := ds_row dvX12_init_638 dhX12_init_638 0 (q := 0) rfl
theorem dX12_init_641 : decode cX12_init 641 = .ok (.aload_n 0, 1) := ds_row dvX12_init_638 dhX12_init_638 1 (q := 3) rfl
theorem dX12_init_642 : decode cX12_init 642 = .ok (.bipush 16, 2) := ds_row dvX12_init_638 dhX12_init_638 2 (q := 4) rfl
theorem dX12_init_644 : decode cX12_init 644 = .ok (.newarray .int, 2) := by decide +kernel
abbrev dBX12_init_646 : List UInt8 := [181, 2, 66, 3, 60, 27, 7, 162, 0, 61, 42, 180, 0, 72, 16, 6, 27, 104, 4, 96, 16, 10, 79, 42, 180, 0, 72, 16, 6, 27, 104, 5, 96, 16, 40, 79, 42, 180, 0, 72, 16, 6, 27, 104, 6, 96, 17, 3, 232, 79, 42, 180, 0, 72, 16, 6]
abbrev dRX12_init_646 : List (Nat × Jvm.ClassFile.Instr × Nat) := [(0, .putfield 578, 3), (3, .iconst 0, 1), (4, .istore_n 1, 1), (5, .iload_n 1, 1), (6, .iconst 4, 1), (7, .if_icmp .ge 61, 3), (10, .aload_n 0, 1), (11, .getfield 72, 3), (14, .bipush 6, 2), (16, .iload_n 1, 1), (17, .imul, 1), (18, .iconst 1, 1), (19, .iadd, 1), (20, .bipush 10, 2), (22, .iastore, 1), (23, .aload_n 0, 1), (24, .getfield 72, 3), (27, .bipush 6, 2), (29, .iload_n 1, 1), (30, .imul, 1), (31, .iconst 2, 1), (32, .iadd, 1), (33, .bipush 40, 2), (35, .iastore, 1), (36, .aload_n 0, 1), (37, .getfield 72, 3), (40, .bipush 6, 2), (42, .iload_n 1, 1), (43, .imul, 1), (44, .iconst 3, 1), (45, .iadd, 1), (46, .sipush 1000, 3), (49, .iastore, 1), (50, .aload_n 0, 1), (51, .getfield 72, 3), (54, .bipush 6, 2)]
theorem dvX12_init_646 : ds_V cX12_init (.mk (List.toArray dBX12_init_646)) 646 := ds_at cX12_init 646 dBX12_init_646 (by decide +kernel)
theorem dhX12_init_646 : ds_all (.mk (List.toArray dBX12_init_646)) dRX12_init_646 = true := by decide +kernel
theorem dX12_init_646 : decode cX12_init 646 = .ok (.putfield 578, 3) := ds_row dvX12_init_646 dhX12_init_646 0 (q := 0) rfl
theorem dX12_init_649 : decode cX12_init 649 = .ok (.iconst 0, 1) := ds_row dvX12_init_646 dhX12_init_646 1 (q := 3) rfl
theorem dX12_init_650 : decode cX12_init 650 = .ok (.istore_n 1, 1) := ds_row dvX12_init_646 dhX12_init_646 2 (q := 4) rfl
theorem dX12_init_651 : decode cX12_init 651 = .ok (.iload_n 1, 1) := ds_row dvX12_init_646 dhX12_init_646 3 (q := 5) rfl
theorem dX12_init_652 : decode cX12_init 652 = .ok (.iconst 4, 1) := ds_row dvX12_init_646 dhX12_init_646 4 (q := 6) rfl
theorem dX12_init_653 : decode cX12_init 653 = .ok (.if_icmp .ge 61, 3) := ds_row dvX12_init_646 dhX12_init_646 5 (q := 7) rfl
theorem dX12_init_656 : decode cX12_init 656 = .ok (.aload_n 0, 1) := ds_row dvX12_init_646 dhX12_init_646 6 (q := 10) rfl
theorem dX12_init_657 : decode cX12_init 657 = .ok (.getfield 72, 3) := ds_row dvX12_init_646 dhX12_init_646 7 (q := 11) rfl
theorem dX12_init_660 : decode cX12_init 660 = .ok (.bipush 6, 2) := ds_row dvX12_init_646 dhX12_init_646 8 (q := 14) rfl
theorem dX12_init_662 : decode cX12_init 662 = .ok (.iload_n 1, 1) := ds_row dvX12_init_646 dhX12_init_646 9 (q := 16) rfl
theorem dX12_init_663 : decode cX12_init 663 = .ok (.imul, 1) := ds_row dvX12_init_646 dhX12_init_646 10 (q := 17) rfl
theorem dX12_init_664 : decode cX12_init 664 = .ok (.iconst 1, 1) := ds_row dvX12_init_646 dhX12_init_646 11 (q := 18) rfl
theorem dX12_init_665 : decode cX12_init 665 = .ok (.iadd, 1) := ds_row dvX12_init_646 dhX12_init_646 12 (q := 19) rfl
theorem dX12_init_666 : decode cX12_init 666 = .ok (.bipush 10, 2) := ds_row dvX12_init_646 dhX12_init_646 13 (q := 20) rfl
theorem dX12_init_668 : decode cX12_init 668 = .ok (.iastore, 1) := ds_row dvX12_init_646 dhX12_init_646 14 (q := 22) rfl
theorem dX12_init_669 : decode cX12_init 669 = .ok (.aload_n 0, 1) := ds_row dvX12_init_646 dhX12_init_646 15 (q := 23) rfl
theorem dX12_init_670 : decode cX12_init 670 = .ok (.getfield 72, 3) := ds_row dvX12_init_646 dhX12_init_646 16 (q := 24) rfl
theorem dX12_init_673 : decode cX12_init 673 = .ok (.bipush 6, 2) := ds_row dvX12_init_646 dhX12_init_646 17 (q := 27) rfl
theorem dX12_init_675 : decode cX12_init 675 = .ok (.iload_n 1, 1) := ds_row dvX12_init_646 dhX12_init_646 18 (q := 29) rfl
theorem dX12_init_676 : decode cX12_init 676 = .ok (.imul, 1) := ds_row dvX12_init_646 dhX12_init_646 19 (q := 30) rfl
theorem dX12_init_677 : decode cX12_init 677 = .ok (.iconst 2, 1) := ds_row dvX12_init_646 dhX12_init_646 20 (q := 31) rfl
theorem dX12_init_678 : decode cX12_init 678 = .ok (.iadd, 1) := ds_row dvX12_init_646 dhX12_init_646 21 (q := 32) rfl
theorem dX12_init_679 : decode cX12_init 679 = .ok (.bipush 40, 2) := ds_row dvX12_init_646 dhX12_init_646 22 (q := 33) rfl
theorem dX12_init_681 : decode cX12_init 681 = .ok (.iastore, 1) := ds_row dvX12_init_646 dhX12_init_646 23 (q := 35) rfl
theorem dX12_init_682 : decode cX12_init 682 = .ok (.aload_n 0, 1) := ds_row dvX12_init_646 dhX12_init_646 24 (q := 36) rfl
theorem dX12_init_683 : decode cX12_init 683 = .ok (.getfield 72, 3) := ds_row dvX12_init_646 dhX12_init_646 25 (q := 37) rfl
theorem dX12_init_686 : decode cX12_init 686 = .ok (.bipush 6, 2) := ds_row dvX12_init_646 dhX12_init_646 26 (q := 40) rfl
theorem dX12_init_688 : decode cX12_init 688 = .ok (.iload_n 1, 1) := ds_row dvX12_init_646 dhX12_init_646 27 (q := 42) rfl
theorem dX12_init_689 : decode cX12_init 689 = .ok (.imul, 1) := ds_row dvX12_init_646 dhX12_init_646 28 (q := 43) rfl
theorem dX12_init_690 : decode cX12_init 690 = .ok (.iconst 3, 1) := ds_row dvX12_init_646 dhX12_init_646 29 (q := 44) rfl
theorem dX12_init_691 : decode cX12_init 691 = .ok (.iadd, 1) := ds_row dvX12_init_646 dhX12_init_646 30 (q := 45) rfl
theorem dX12_init_692 : decode cX12_init 692 = .ok (.sipush 1000, 3) := ds_row dvX12_init_646 dhX12_init_646 31 (q := 46) rfl
theorem dX12_init_695 : decode cX12_init 695 = .ok (.iastore, 1) := ds_row dvX12_init_646 dhX12_init_646 32 (q := 49) rfl
theorem dX12_init_696 : decode cX12_init 696 = .ok (.aload_n 0, 1) := ds_row dvX12_init_646 dhX12_init_646 33 (q := 50) rfl
theorem dX12_init_697 : decode cX12_init 697 = .ok (.getfield 72, 3) := ds_row dvX12_init_646 dhX12_init_646 34 (q := 51) rfl
theorem dX12_init_700 : decode cX12_init 700 = .ok (.bipush 6, 2) := ds_row dvX12_init_646 dhX12_init_646 35 (q := 54) rfl
abbrev dBX12_init_702 : List UInt8 := [27, 104, 8, 96, 8, 79, 132, 1, 1, 167, 255, 196, 42, 180, 0, 83, 3, 17, 1, 244, 79, 42, 180, 0, 83, 4, 8, 79, 42, 180, 0, 83, 5, 17, 0, 200, 79, 42, 180, 0, 83, 6, 17, 58, 152, 79, 42, 180, 0, 83, 7, 17, 11, 184, 79, 42]
abbrev dRX12_init_702 : List (Nat × Jvm.ClassFile.Instr × Nat) := [(0, .iload_n 1, 1), (1, .imul, 1), (2, .iconst 5, 1), (3, .iadd, 1), (4, .iconst 5, 1), (5, .iastore, 1), (6, .iinc 1 1, 3), (9, .goto (-60), 3), (12, .aload_n 0, 1), (13, .getfield 83, 3), (16, .iconst 0, 1), (17, .sipush 500, 3), (20, .iastore, 1), (21, .aload_n 0, 1), (22, .getfield 83, 3), (25, .iconst 1, 1), (26, .iconst 5, 1), (27, .iastore, 1), (28, .aload_n 0, 1), (29, .getfield 83, 3), (32, .iconst 2, 1), (33, .sipush 200, 3), (36, .iastore, 1), (37, .aload_n 0, 1), (38, .getfield 83, 3), (41, .iconst 3, 1), (42, .sipush 15000, 3), (45, .iastore, 1), (46, .aload_n 0, 1), (47, .getfield 83, 3), (50, .iconst 4, 1), (51, .sipush 3000, 3), (54, .iastore, 1), (55, .aload_n 0, 1)]
theorem dvX12_init_702 : ds_V cX12_init (.mk (List.toArray dBX12_init_702)) 702 := ds_at cX12_init 702 dBX12_init_702 (by decide +kernel)
theorem dhX12_init_702 : ds_all (.mk (List.toArray dBX12_init_702)) dRX12_init_702 = true := by decide +kernel
theorem dX12_init_702 : decode cX12_init 702 = .ok (.iload_n 1, 1) := ds_row dvX12_init_702 dhX12_init_702 0 (q := 0) rfl
theorem dX12_init_703 : decode cX12_init 703 = .ok (.imul, 1) := ds_row dvX12_init_702 dhX12_init_702 1 (q := 1) rfl
theorem dX12_init_704 : decode cX12_init 704 = .ok (.iconst 5, 1) := ds_row dvX12_init_702 dhX12_init_702 2 (q := 2) rfl
theorem dX12_init_705 : decode cX12_init 705 = .ok (.iadd, 1) := ds_row dvX12_init_702 dhX12_init_702 3 (q := 3) rfl
theorem dX12_init_706 : decode cX12_init 706 = .ok (.iconst 5, 1) := ds_row dvX12_init_702 dhX12_init_702 4 (q := 4) rfl
theorem dX12_init_707 : decode cX12_init 707 = .ok (.iastore, 1) := ds_row dvX12_init_702 dhX12_init_702 5 (q := 5) rfl
theorem dX12_init_708 : decode cX12_init 708 = .ok (.iinc 1 1, 3) := ds_row dvX12_init_702 dhX12_init_702 6 (q := 6) rfl
theorem dX12_init_711 : decode cX12_init 711 = .ok (.goto (-60), 3) := ds_row dvX12_init_702 dhX12_init_702 7 (q := 9) rfl
theorem dX12_init_714 : decode cX12_init 714 = .ok (.aload_n 0, 1) := ds_row dvX12_init_702 dhX12_init_702 8 (q := 12) rfl
theorem dX12_init_715 : decode cX12_init 715 = .ok (.getfield 83, 3) := ds_row dvX12_init_702 dhX12_init_702 9 (q := 13) rfl
theorem dX12_init_718 : decode cX12_init 718 = .ok (.iconst 0, 1) := ds_row dvX12_init_702 dhX12_init_702 10 (q := 16) rfl
theorem dX12_init_719 : decode cX12_init 719 = .ok (.sipush 500, 3) := ds_row dvX12_init_702 dhX12_init_702 11 (q := 17) rfl
theorem dX12_init_722 : decode cX12_init 722 = .ok (.iastore, 1) := ds_row dvX12_init_702 dhX12_init_702 12 (q := 20) rfl
theorem dX12_init_723 : decode cX12_init 723 = .ok (.aload_n 0, 1) := ds_row dvX12_init_702 dhX12_init_702 13 (q := 21) rfl
theorem dX12_init_724 : decode cX12_init 724 = .ok (.getfield 83, 3) := ds_row dvX12_init_702 dhX12_init_702 14 (q := 22) rfl
theorem dX12_init_727 : decode cX12_init 727 = .ok (.iconst 1, 1) := ds_row dvX12_init_702 dhX12_init_702 15 (q := 25) rfl
theorem dX12_init_728 : decode cX12_init 728 = .ok (.iconst 5, 1) := ds_row dvX12_init_702 dhX12_init_702 16 (q := 26) rfl
theorem dX12_init_729 : decode cX12_init 729 = .ok (.iastore, 1) := ds_row dvX12_init_702 dhX12_init_702 17 (q := 27) rfl
theorem dX12_init_730 : decode cX12_init 730 = .ok (.aload_n 0, 1) := ds_row dvX12_init_702 dhX12_init_702 18 (q := 28) rfl
theorem dX12_init_731 : decode cX12_init 731 = .ok (.getfield 83, 3) := ds_row dvX12_init_702 dhX12_init_702 19 (q := 29) rfl
theorem dX12_init_734 : decode cX12_init 734 = .ok (.iconst 2, 1) := ds_row dvX12_init_702 dhX12_init_702 20 (q := 32) rfl
theorem dX12_init_735 : decode cX12_init 735 = .ok (.sipush 200, 3) := ds_row dvX12_init_702 dhX12_init_702 21 (q := 33) rfl
theorem dX12_init_738 : decode cX12_init 738 = .ok (.iastore, 1) := ds_row dvX12_init_702 dhX12_init_702 22 (q := 36) rfl
theorem dX12_init_739 : decode cX12_init 739 = .ok (.aload_n 0, 1) := ds_row dvX12_init_702 dhX12_init_702 23 (q := 37) rfl
theorem dX12_init_740 : decode cX12_init 740 = .ok (.getfield 83, 3) := ds_row dvX12_init_702 dhX12_init_702 24 (q := 38) rfl
theorem dX12_init_743 : decode cX12_init 743 = .ok (.iconst 3, 1) := ds_row dvX12_init_702 dhX12_init_702 25 (q := 41) rfl
theorem dX12_init_744 : decode cX12_init 744 = .ok (.sipush 15000, 3) := ds_row dvX12_init_702 dhX12_init_702 26 (q := 42) rfl
theorem dX12_init_747 : decode cX12_init 747 = .ok (.iastore, 1) := ds_row dvX12_init_702 dhX12_init_702 27 (q := 45) rfl
theorem dX12_init_748 : decode cX12_init 748 = .ok (.aload_n 0, 1) := ds_row dvX12_init_702 dhX12_init_702 28 (q := 46) rfl
theorem dX12_init_749 : decode cX12_init 749 = .ok (.getfield 83, 3) := ds_row dvX12_init_702 dhX12_init_702 29 (q := 47) rfl
theorem dX12_init_752 : decode cX12_init 752 = .ok (.iconst 4, 1) := ds_row dvX12_init_702 dhX12_init_702 30 (q := 50) rfl
theorem dX12_init_753 : decode cX12_init 753 = .ok (.sipush 3000, 3) := ds_row dvX12_init_702 dhX12_init_702 31 (q := 51) rfl
theorem dX12_init_756 : decode cX12_init 756 = .ok (.iastore, 1) := ds_row dvX12_init_702 dhX12_init_702 32 (q := 54) rfl
theorem dX12_init_757 : decode cX12_init 757 = .ok (.aload_n 0, 1) := ds_row dvX12_init_702 dhX12_init_702 33 (q := 55) rfl
abbrev dBX12_init_758 : List UInt8 := [180, 0, 83, 8, 16, 50, 79, 42, 180, 0, 83, 16, 6, 17, 1, 44, 79, 42, 5, 4, 182, 0, 52, 177]
abbrev dRX12_init_758 : List (Nat × Jvm.ClassFile.Instr × Nat) := [(0, .getfield 83, 3), (3, .iconst 5, 1), (4, .bipush 50, 2), (6, .iastore, 1), (7, .aload_n 0, 1), (8, .getfield 83, 3), (11, .bipush 6, 2), (13, .sipush 300, 3), (16, .iastore, 1), (17, .aload_n 0, 1), (18, .iconst 2, 1), (19, .iconst 1, 1), (20, .invokevirtual 52, 3), (23, .return_, 1)]
theorem dvX12_init_758 : ds_V cX12_init (.mk (List.toArray dBX12_init_758)) 758 := ds_at cX12_init 758 dBX12_init_758 (by decide +kernel)
theorem dhX12_init_758 : ds_all (.mk (List.toArray dBX12_init_758)) dRX12_init_758 = true := by decide +kernel
theorem dX12_init_758 : decode cX12_init 758 = .ok (.getfield 83, 3) := ds_row dvX12_init_758 dhX12_init_758 0 (q := 0) rfl
theorem dX12_init_761 : decode cX12_init 761 = .ok (.iconst 5, 1) := ds_row dvX12_init_758 dhX12_init_758 1 (q := 3) rfl
theorem dX12_init_762 : decode cX12_init 762 = .ok (.bipush 50, 2) := ds_row dvX12_init_758 dhX12_init_758 2 (q := 4) rfl
theorem dX12_init_764 : decode cX12_init 764 = .ok (.iastore, 1) := ds_row dvX12_init_758 dhX12_init_758 3 (q := 6) rfl
theorem dX12_init_765 : decode cX12_init 765 = .ok (.aload_n 0, 1) := ds_row dvX12_init_758 dhX12_init_758 4 (q := 7) rfl
theorem dX12_init_766 : decode cX12_init 766 = .ok (.getfield 83, 3) := ds_row dvX12_init_758 dhX12_init_758 5 (q := 8) rfl
theorem dX12_init_769 : decode cX12_init 769 = .ok (.bipush 6, 2) := ds_row dvX12_init_758 dhX12_init_758 6 (q := 11) rfl
theorem dX12_init_771 : decode cX12_init 771 = .ok (.sipush 300, 3) := ds_row dvX12_init_758 dhX12_init_758 7 (q := 13) rfl
theorem dX12_init_774 : decode cX12_init 774 = .ok (.iastore, 1) := ds_row dvX12_init_758 dhX12_init_758 8 (q := 16) rfl
theorem dX12_init_775 : decode cX12_init 775 = .ok (.aload_n 0, 1) := ds_row dvX12_init_758 dhX12_init_758 9 (q := 17) rfl
theorem dX12_init_776 : decode cX12_init 776 = .ok (.iconst 2, 1) := ds_row dvX12_init_758 dhX12_init_758 10 (q := 18) rfl
theorem dX12_init_777 : decode cX12_init 777 = .ok (.iconst 1, 1) := ds_row dvX12_init_758 dhX12_init_758 11 (q := 19) rfl
theorem dX12_init_778 : decode cX12_init 778 = .ok (.invokevirtual 52, 3) := ds_row dvX12_init_758 dhX12_init_758 12 (q := 20) rfl
theorem dX12_init_781 : decode cX12_init 781 = .ok (.return_, 1) := ds_row dvX12_init_758 dhX12_init_758 13 (q := 23) rfl
theorem dL_of_0 : decode cL_of 0 = .ok (.aload_n 3, 1) := by decide +kernel
theorem dL_of_1 : decode cL_of 1 = .ok (.iconst 0, 1) := by decide +kernel
theorem dL_of_2 : decode cL_of 2 = .ok (.aload_n 0, 1) := by decide +kernel
theorem dL_of_3 : decode cL_of 3 = .ok (.iload_n 1, 1) := by decide +kernel
theorem dL_of_4 : decode cL_of 4 = .ok (.iload_n 2, 1) := by decide +kernel
theorem dL_of_5 : decode cL_of 5 = .ok (.invokevirtual 7, 3) := by decide +kernel
theorem dL_of_8 : decode cL_of 8 = .ok (.i2l, 1) := by decide +kernel
theorem dL_of_9 : decode cL_of 9 = .ok (.lastore, 1) := by decide +kernel
theorem dL_of_10 : decode cL_of 10 = .ok (.goto 7, 3) := by decide +kernel
theorem dL_of_13 : decode cL_of 13 = .ok (.astore 4, 2) := by decide +kernel
theorem dL_of_15 : decode cL_of 15 = .ok (.iconst 1, 1) := by decide +kernel
theorem dL_of_16 : decode cL_of 16 = .ok (.ireturn, 1) := by decide +kernel
theorem dL_of_17 : decode cL_of 17 = .ok (.iconst 0, 1) := by decide +kernel
theorem dL_of_18 : decode cL_of 18 = .ok (.ireturn, 1) := by decide +kernel
theorem dL_sum_0 : decode cL_sum 0 = .ok (.aload_n 3, 1) := by decide +kernel
theorem dL_sum_1 : decode cL_sum 1 = .ok (.iconst 0, 1) := by decide +kernel
theorem dL_sum_2 : decode cL_sum 2 = .ok (.aload_n 0, 1) := by decide +kernel
theorem dL_sum_3 : decode cL_sum 3 = .ok (.iload_n 1, 1) := by decide +kernel
theorem dL_sum_4 : decode cL_sum 4 = .ok (.iload_n 2, 1) := by decide +kernel
theorem dL_sum_5 : decode cL_sum 5 = .ok (.invokevirtual 15, 3) := by decide +kernel
theorem dL_sum_8 : decode cL_sum 8 = .ok (.i2l, 1) := by decide +kernel
theorem dL_sum_9 : decode cL_sum 9 = .ok (.lastore, 1) := by decide +kernel
theorem dL_sum_10 : decode cL_sum 10 = .ok (.goto 7, 3) := by decide +kernel
theorem dL_sum_13 : decode cL_sum 13 = .ok (.astore 4, 2) := by decide +kernel
theorem dL_sum_15 : decode cL_sum 15 = .ok (.iconst 1, 1) := by decide +kernel
theorem dL_sum_16 : decode cL_sum 16 = .ok (.ireturn, 1) := by decide +kernel
theorem dL_sum_17 : decode cL_sum 17 = .ok (.iconst 0, 1) := by decide +kernel
theorem dL_sum_18 : decode cL_sum 18 = .ok (.ireturn, 1) := by decide +kernel
theorem dL_row_0 : decode cL_row 0 = .ok (.aload_n 2, 1) := by decide +kernel
theorem dL_row_1 : decode cL_row 1 = .ok (.iconst 0, 1) := by decide +kernel
theorem dL_row_2 : decode cL_row 2 = .ok (.aload_n 0, 1) := by decide +kernel
theorem dL_row_3 : decode cL_row 3 = .ok (.iload_n 1, 1) := by decide +kernel
theorem dL_row_4 : decode cL_row 4 = .ok (.invokevirtual 18, 3) := by decide +kernel
theorem dL_row_7 : decode cL_row 7 = .ok (.i2l, 1) := by decide +kernel
theorem dL_row_8 : decode cL_row 8 = .ok (.lastore, 1) := by decide +kernel
theorem dL_row_9 : decode cL_row 9 = .ok (.goto 6, 3) := by decide +kernel
theorem dL_row_12 : decode cL_row 12 = .ok (.astore_n 3, 1) := by decide +kernel
theorem dL_row_13 : decode cL_row 13 = .ok (.iconst 1, 1) := by decide +kernel
theorem dL_row_14 : decode cL_row 14 = .ok (.ireturn, 1) := by decide +kernel
theorem dL_row_15 : decode cL_row 15 = .ok (.iconst 0, 1) := by decide +kernel
theorem dL_row_16 : decode cL_row 16 = .ok (.ireturn, 1) := by decide +kernel
abbrev dBL_law_0 : List UInt8 := [187, 0, 8, 89, 183, 0, 22, 76, 187, 0, 23, 89, 183, 0, 25, 77, 4]
abbrev dRL_law_0 : List (Nat × Jvm.ClassFile.Instr × Nat) := [(0, .new 8, 3), (3, .dup, 1), (4, .invokespecial 22, 3), (7, .astore_n 1, 1), (8, .new 23, 3), (11, .dup, 1), (12, .invokespecial 25, 3), (15, .astore_n 2, 1), (16, .iconst 1, 1)]
theorem dvL_law_0 : ds_V cL_law (.mk (List.toArray dBL_law_0)) 0 := ds_at cL_law 0 dBL_law_0 (by decide +kernel)
theorem dhL_law_0 : ds_all (.mk (List.toArray dBL_law_0)) dRL_law_0 = true := by decide +kernel
theorem dL_law_0 : decode cL_law 0 = .ok (.new 8, 3) := ds_row dvL_law_0 dhL_law_0 0 (q := 0) rfl
theorem dL_law_3 : decode cL_law 3 = .ok (.dup, 1) := ds_row dvL_law_0 dhL_law_0 1 (q := 3) rfl
theorem dL_law_4 : decode cL_law 4 = .ok (.invokespecial 22, 3) := ds_row dvL_law_0 dhL_law_0 2 (q := 4) rfl
theorem dL_law_7 : decode cL_law 7 = .ok (.astore_n 1, 1) := ds_row dvL_law_0 dhL_law_0 3 (q := 7) rfl
theorem dL_law_8 : decode cL_law 8 = .ok (.new 23, 3) := ds_row dvL_law_0 dhL_law_0 4 (q := 8) rfl
theorem dL_law_11 : decode cL_law 11 = .ok (.dup, 1) := ds_row dvL_law_0 dhL_law_0 5 (q := 11) rfl
theorem dL_law_12 : decode cL_law 12 = .ok (.invokespecial 25, 3) := ds_row dvL_law_0 dhL_law_0 6 (q := 12) rfl
theorem dL_law_15 : decode cL_law 15 = .ok (.astore_n 2, 1) := ds_row dvL_law_0 dhL_law_0 7 (q := 15) rfl
theorem dL_law_16 : decode cL_law 16 = .ok (.iconst 1, 1) := ds_row dvL_law_0 dhL_law_0 8 (q := 16) rfl
theorem dL_law_17 : decode cL_law 17 = .ok (.newarray .long, 2) := by decide +kernel
abbrev dBL_law_19 : List UInt8 := [78, 3, 54, 4, 21, 4, 42, 190, 16, 7, 100, 163, 7, 75, 42, 21, 4, 46, 16, 63, 126]
abbrev dRL_law_19 : List (Nat × Jvm.ClassFile.Instr × Nat) := [(0, .astore_n 3, 1), (1, .iconst 0, 1), (2, .istore 4, 2), (4, .iload 4, 2), (6, .aload_n 0, 1), (7, .arraylength, 1), (8, .bipush 7, 2), (10, .isub, 1), (11, .if_icmp .gt 1867, 3), (14, .aload_n 0, 1), (15, .iload 4, 2), (17, .iaload, 1), (18, .bipush 63, 2), (20, .iand, 1)]
theorem dvL_law_19 : ds_V cL_law (.mk (List.toArray dBL_law_19)) 19 := ds_at cL_law 19 dBL_law_19 (by decide +kernel)
theorem dhL_law_19 : ds_all (.mk (List.toArray dBL_law_19)) dRL_law_19 = true := by decide +kernel
theorem dL_law_19 : decode cL_law 19 = .ok (.astore_n 3, 1) := ds_row dvL_law_19 dhL_law_19 0 (q := 0) rfl
theorem dL_law_20 : decode cL_law 20 = .ok (.iconst 0, 1) := ds_row dvL_law_19 dhL_law_19 1 (q := 1) rfl
theorem dL_law_21 : decode cL_law 21 = .ok (.istore 4, 2) := ds_row dvL_law_19 dhL_law_19 2 (q := 2) rfl
theorem dL_law_23 : decode cL_law 23 = .ok (.iload 4, 2) := ds_row dvL_law_19 dhL_law_19 3 (q := 4) rfl
theorem dL_law_25 : decode cL_law 25 = .ok (.aload_n 0, 1) := ds_row dvL_law_19 dhL_law_19 4 (q := 6) rfl
theorem dL_law_26 : decode cL_law 26 = .ok (.arraylength, 1) := ds_row dvL_law_19 dhL_law_19 5 (q := 7) rfl
theorem dL_law_27 : decode cL_law 27 = .ok (.bipush 7, 2) := ds_row dvL_law_19 dhL_law_19 6 (q := 8) rfl
theorem dL_law_29 : decode cL_law 29 = .ok (.isub, 1) := ds_row dvL_law_19 dhL_law_19 7 (q := 10) rfl
theorem dL_law_30 : decode cL_law 30 = .ok (.if_icmp .gt 1867, 3) := ds_row dvL_law_19 dhL_law_19 8 (q := 11) rfl
theorem dL_law_33 : decode cL_law 33 = .ok (.aload_n 0, 1) := ds_row dvL_law_19 dhL_law_19 9 (q := 14) rfl
theorem dL_law_34 : decode cL_law 34 = .ok (.iload 4, 2) := ds_row dvL_law_19 dhL_law_19 10 (q := 15) rfl
theorem dL_law_36 : decode cL_law 36 = .ok (.iaload, 1) := ds_row dvL_law_19 dhL_law_19 11 (q := 17) rfl
theorem dL_law_37 : decode cL_law 37 = .ok (.bipush 63, 2) := ds_row dvL_law_19 dhL_law_19 12 (q := 18) rfl
theorem dL_law_39 : decode cL_law 39 = .ok (.iand, 1) := ds_row dvL_law_19 dhL_law_19 13 (q := 20) rfl
theorem dL_law_40 : decode cL_law 40 = .ok (.tableswitch 1851 0 39 #[176, 213, 262, 311, 348, 397, 458, 545, 594, 655, 716, 753, 778, 803, 828, 868, 917, 954, 979, 992, 1017, 1042, 1067, 1128, 1165, 1202, 1242, 1279, 1304, 1365, 1414, 1463, 1512, 1525, 1574, 1627, 1688, 1749, 1786, 1823], 176) := by decide +kernel
abbrev dBL_law_216 : List UInt8 := [43, 42, 21, 4, 4, 96, 46, 42, 21, 4, 5, 96, 46, 182, 0, 26, 87, 44, 42, 21, 4, 4, 96, 46, 42, 21, 4, 5, 96, 46, 182, 0, 30, 87, 167, 6, 105, 43, 42, 21, 4, 4, 96, 46, 42, 21, 4, 5, 96, 46, 42, 21, 4, 6, 96, 46]
abbrev dRL_law_216 : List (Nat × Jvm.ClassFile.Instr × Nat) := [(0, .aload_n 1, 1), (1, .aload_n 0, 1), (2, .iload 4, 2), (4, .iconst 1, 1), (5, .iadd, 1), (6, .iaload, 1), (7, .aload_n 0, 1), (8, .iload 4, 2), (10, .iconst 2, 1), (11, .iadd, 1), (12, .iaload, 1), (13, .invokevirtual 26, 3), (16, .pop, 1), (17, .aload_n 2, 1), (18, .aload_n 0, 1), (19, .iload 4, 2), (21, .iconst 1, 1), (22, .iadd, 1), (23, .iaload, 1), (24, .aload_n 0, 1), (25, .iload 4, 2), (27, .iconst 2, 1), (28, .iadd, 1), (29, .iaload, 1), (30, .invokevirtual 30, 3), (33, .pop, 1), (34, .goto 1641, 3), (37, .aload_n 1, 1), (38, .aload_n 0, 1), (39, .iload 4, 2), (41, .iconst 1, 1), (42, .iadd, 1), (43, .iaload, 1), (44, .aload_n 0, 1), (45, .iload 4, 2), (47, .iconst 2, 1), (48, .iadd, 1), (49, .iaload, 1), (50, .aload_n 0, 1), (51, .iload 4, 2), (53, .iconst 3, 1), (54, .iadd, 1), (55, .iaload, 1)]
theorem dvL_law_216 : ds_V cL_law (.mk (List.toArray dBL_law_216)) 216 := ds_at cL_law 216 dBL_law_216 (by decide +kernel)
theorem dhL_law_216 : ds_all (.mk (List.toArray dBL_law_216)) dRL_law_216 = true := by decide +kernel
theorem dL_law_216 : decode cL_law 216 = .ok (.aload_n 1, 1) := ds_row dvL_law_216 dhL_law_216 0 (q := 0) rfl
theorem dL_law_217 : decode cL_law 217 = .ok (.aload_n 0, 1) := ds_row dvL_law_216 dhL_law_216 1 (q := 1) rfl
theorem dL_law_218 : decode cL_law 218 = .ok (.iload 4, 2) := ds_row dvL_law_216 dhL_law_216 2 (q := 2) rfl
theorem dL_law_220 : decode cL_law 220 = .ok (.iconst 1, 1) := ds_row dvL_law_216 dhL_law_216 3 (q := 4) rfl
theorem dL_law_221 : decode cL_law 221 = .ok (.iadd, 1) := ds_row dvL_law_216 dhL_law_216 4 (q := 5) rfl
theorem dL_law_222 : decode cL_law 222 = .ok (.iaload, 1) := ds_row dvL_law_216 dhL_law_216 5 (q := 6) rfl
theorem dL_law_223 : decode cL_law 223 = .ok (.aload_n 0, 1) := ds_row dvL_law_216 dhL_law_216 6 (q := 7) rfl
theorem dL_law_224 : decode cL_law 224 = .ok (.iload 4, 2) := ds_row dvL_law_216 dhL_law_216 7 (q := 8) rfl
theorem dL_law_226 : decode cL_law 226 = .ok (.iconst 2, 1) := ds_row dvL_law_216 dhL_law_216 8 (q := 10) rfl
theorem dL_law_227 : decode cL_law 227 = .ok (.iadd, 1) := ds_row dvL_law_216 dhL_law_216 9 (q := 11) rfl
theorem dL_law_228 : decode cL_law 228 = .ok (.iaload, 1) := ds_row dvL_law_216 dhL_law_216 10 (q := 12) rfl
theorem dL_law_229 : decode cL_law 229 = .ok (.invokevirtual 26, 3) := ds_row dvL_law_216 dhL_law_216 11 (q := 13) rfl
theorem dL_law_232 : decode cL_law 232 = .ok (.pop, 1) := ds_row dvL_law_216 dhL_law_216 12 (q := 16) rfl
theorem dL_law_233 : decode cL_law 233 = .ok (.aload_n 2, 1) := ds_row dvL_law_216 dhL_law_216 13 (q := 17) rfl
theorem dL_law_234 : decode cL_law 234 = .ok (.aload_n 0, 1) := ds_row dvL_law_216 dhL_law_216 14 (q := 18) rfl
theorem dL_law_235 : decode cL_law 235 = .ok (.iload 4, 2) := ds_row dvL_law_216 dhL_law_216 15 (q := 19) rfl
theorem dL_law_237 : decode cL_law 237 = .ok (.iconst 1, 1) := ds_row dvL_law_216 dhL_law_216 16 (q := 21) rfl
theorem dL_law_238 : decode cL_law 238 = .ok (.iadd, 1) := ds_row dvL_law_216 dhL_law_216 17 (q := 22) rfl
theorem dL_law_239 : decode cL_law 239 = .ok (.iaload, 1) := ds_row dvL_law_216 dhL_law_216 18 (q := 23) rfl
theorem dL_law_240 : decode cL_law 240 = .ok (.aload_n 0, 1) := ds_row dvL_law_216 dhL_law_216 19 (q := 24) rfl
theorem dL_law_241 : decode cL_law 241 = .ok (.iload 4, 2) := ds_row dvL_law_216 dhL_law_216 20 (q := 25) rfl
theorem dL_law_243 : decode cL_law 243 = .ok (.iconst 2, 1) := ds_row dvL_law_216 dhL_law_216 21 (q := 27) rfl
theorem dL_law_244 : decode cL_law 244 = .ok (.iadd, 1) := ds_row dvL_law_216 dhL_law_216 22 (q := 28) rfl
theorem dL_law_245 : decode cL_law 245 = .ok (.iaload, 1) := ds_row dvL_law_216 dhL_law_216 23 (q := 29) rfl
theorem dL_law_246 : decode cL_law 246 = .ok (.invokevirtual 30, 3) := ds_row dvL_law_216 dhL_law_216 24 (q := 30) rfl
theorem dL_law_249 : decode cL_law 249 = .ok (.pop, 1) := ds_row dvL_law_216 dhL_law_216 25 (q := 33) rfl
theorem dL_law_250 : decode cL_law 250 = .ok (.goto 1641, 3) := ds_row dvL_law_216 dhL_law_216 26 (q := 34) rfl
theorem dL_law_253 : decode cL_law 253 = .ok (.aload_n 1, 1) := ds_row dvL_law_216 dhL_law_216 27 (q := 37) rfl
theorem dL_law_254 : decode cL_law 254 = .ok (.aload_n 0, 1) := ds_row dvL_law_216 dhL_law_216 28 (q := 38) rfl
theorem dL_law_255 : decode cL_law 255 = .ok (.iload 4, 2) := ds_row dvL_law_216 dhL_law_216 29 (q := 39) rfl
theorem dL_law_257 : decode cL_law 257 = .ok (.iconst 1, 1) := ds_row dvL_law_216 dhL_law_216 30 (q := 41) rfl
theorem dL_law_258 : decode cL_law 258 = .ok (.iadd, 1) := ds_row dvL_law_216 dhL_law_216 31 (q := 42) rfl
theorem dL_law_259 : decode cL_law 259 = .ok (.iaload, 1) := ds_row dvL_law_216 dhL_law_216 32 (q := 43) rfl
theorem dL_law_260 : decode cL_law 260 = .ok (.aload_n 0, 1) := ds_row dvL_law_216 dhL_law_216 33 (q := 44) rfl
theorem dL_law_261 : decode cL_law 261 = .ok (.iload 4, 2) := ds_row dvL_law_216 dhL_law_216 34 (q := 45) rfl
theorem dL_law_263 : decode cL_law 263 = .ok (.iconst 2, 1) := ds_row dvL_law_216 dhL_law_216 35 (q := 47) rfl
theorem dL_law_264 : decode cL_law 264 = .ok (.iadd, 1) := ds_row dvL_law_216 dhL_law_216 36 (q := 48) rfl
theorem dL_law_265 : decode cL_law 265 = .ok (.iaload, 1) := ds_row dvL_law_216 dhL_law_216 37 (q := 49) rfl
theorem dL_law_266 : decode cL_law 266 = .ok (.aload_n 0, 1) := ds_row dvL_law_216 dhL_law_216 38 (q := 50) rfl
theorem dL_law_267 : decode cL_law 267 = .ok (.iload 4, 2) := ds_row dvL_law_216 dhL_law_216 39 (q := 51) rfl
theorem dL_law_269 : decode cL_law 269 = .ok (.iconst 3, 1) := ds_row dvL_law_216 dhL_law_216 40 (q := 53) rfl
theorem dL_law_270 : decode cL_law 270 = .ok (.iadd, 1) := ds_row dvL_law_216 dhL_law_216 41 (q := 54) rfl
theorem dL_law_271 : decode cL_law 271 = .ok (.iaload, 1) := ds_row dvL_law_216 dhL_law_216 42 (q := 55) rfl
abbrev dBL_law_272 : List UInt8 := [182, 0, 31, 87, 44, 42, 21, 4, 4, 96, 46, 42, 21, 4, 5, 96, 46, 42, 21, 4, 6, 96, 46, 182, 0, 35, 87, 167, 6, 56, 43, 42, 21, 4, 4, 96, 46, 42, 21, 4, 5, 96, 46, 42, 21, 4, 6, 96, 46, 182, 0, 36, 87, 44, 42]
abbrev dRL_law_272 : List (Nat × Jvm.ClassFile.Instr × Nat) := [(0, .invokevirtual 31, 3), (3, .pop, 1), (4, .aload_n 2, 1), (5, .aload_n 0, 1), (6, .iload 4, 2), (8, .iconst 1, 1), (9, .iadd, 1), (10, .iaload, 1), (11, .aload_n 0, 1), (12, .iload 4, 2), (14, .iconst 2, 1), (15, .iadd, 1), (16, .iaload, 1), (17, .aload_n 0, 1), (18, .iload 4, 2), (20, .iconst 3, 1), (21, .iadd, 1), (22, .iaload, 1), (23, .invokevirtual 35, 3), (26, .pop, 1), (27, .goto 1592, 3), (30, .aload_n 1, 1), (31, .aload_n 0, 1), (32, .iload 4, 2), (34, .iconst 1, 1), (35, .iadd, 1), (36, .iaload, 1), (37, .aload_n 0, 1), (38, .iload 4, 2), (40, .iconst 2, 1), (41, .iadd, 1), (42, .iaload, 1), (43, .aload_n 0, 1), (44, .iload 4, 2), (46, .iconst 3, 1), (47, .iadd, 1), (48, .iaload, 1), (49, .invokevirtual 36, 3), (52, .pop, 1), (53, .aload_n 2, 1), (54, .aload_n 0, 1)]
theorem dvL_law_272 : ds_V cL_law (.mk (List.toArray dBL_law_272)) 272 := ds_at cL_law 272 dBL_law_272 (by decide +kernel)
theorem dhL_law_272 : ds_all (.mk (List.toArray dBL_law_272)) dRL_law_272 = true := by decide +kernel
theorem dL_law_272 : decode cL_law 272 = .ok (.invokevirtual 31, 3) := ds_row dvL_law_272 dhL_law_272 0 (q := 0) rfl
theorem dL_law_275 : decode cL_law 275 = .ok (.pop, 1) := ds_row dvL_law_272 dhL_law_272 1 (q := 3) rfl
theorem dL_law_276 : decode cL_law 276 = .ok (.aload_n 2, 1) := ds_row dvL_law_272 dhL_law_272 2 (q := 4) rfl
theorem dL_law_277 : decode cL_law 277 = .ok (.aload_n 0, 1) := ds_row dvL_law_272 dhL_law_272 3 (q := 5) rfl
theorem dL_law_278 : decode cL_law 278 = .ok (.iload 4, 2) := ds_row dvL_law_272 dhL_law_272 4 (q := 6) rfl
theorem dL_law_280 : decode cL_law 280 = .ok (.iconst 1, 1) := ds_row dvL_law_272 dhL_law_272 5 (q := 8) rfl
theorem dL_law_281 : decode cL_law 281 = .ok (.iadd, 1) := ds_row dvL_law_272 dhL_law_272 6 (q := 9) rfl
theorem dL_law_282 : decode cL_law 282 = .ok (.iaload, 1) := ds_row dvL_law_272 dhL_law_272 7 (q := 10) rfl
theorem dL_law_283 : decode cL_law 283 = .ok (.aload_n 0, 1) := ds_row dvL_law_272 dhL_law_272 8 (q := 11) rfl
theorem dL_law_284 : decode cL_law 284 = .ok (.iload 4, 2) := ds_row dvL_law_272 dhL_law_272 9 (q := 12) rfl
theorem dL_law_286 : decode cL_law 286 = .ok (.iconst 2, 1) := ds_row dvL_law_272 dhL_law_272 10 (q := 14) rfl
theorem dL_law_287 : decode cL_law 287 = .ok (.iadd, 1) := ds_row dvL_law_272 dhL_law_272 11 (q := 15) rfl
theorem dL_law_288 : decode cL_law 288 = .ok (.iaload, 1) := ds_row dvL_law_272 dhL_law_272 12 (q := 16) rfl
theorem dL_law_289 : decode cL_law 289 = .ok (.aload_n 0, 1) := ds_row dvL_law_272 dhL_law_272 13 (q := 17) rfl
theorem dL_law_290 : decode cL_law 290 = .ok (.iload 4, 2) := ds_row dvL_law_272 dhL_law_272 14 (q := 18) rfl
theorem dL_law_292 : decode cL_law 292 = .ok (.iconst 3, 1) := ds_row dvL_law_272 dhL_law_272 15 (q := 20) rfl
theorem dL_law_293 : decode cL_law 293 = .ok (.iadd, 1) := ds_row dvL_law_272 dhL_law_272 16 (q := 21) rfl
theorem dL_law_294 : decode cL_law 294 = .ok (.iaload, 1) := ds_row dvL_law_272 dhL_law_272 17 (q := 22) rfl
theorem dL_law_295 : decode cL_law 295 = .ok (.invokevirtual 35, 3) := ds_row dvL_law_272 dhL_law_272 18 (q := 23) rfl
theorem dL_law_298 : decode cL_law 298 = .ok (.pop, 1) := ds_row dvL_law_272 dhL_law_272 19 (q := 26) rfl
theorem dL_law_299 : decode cL_law 299 = .ok (.goto 1592, 3) := ds_row dvL_law_272 dhL_law_272 20 (q := 27) rfl
theorem dL_law_302 : decode cL_law 302 = .ok (.aload_n 1, 1) := ds_row dvL_law_272 dhL_law_272 21 (q := 30) rfl
theorem dL_law_303 : decode cL_law 303 = .ok (.aload_n 0, 1) := ds_row dvL_law_272 dhL_law_272 22 (q := 31) rfl
theorem dL_law_304 : decode cL_law 304 = .ok (.iload 4, 2) := ds_row dvL_law_272 dhL_law_272 23 (q := 32) rfl
theorem dL_law_306 : decode cL_law 306 = .ok (.iconst 1, 1) := ds_row dvL_law_272 dhL_law_272 24 (q := 34) rfl
theorem dL_law_307 : decode cL_law 307 = .ok (.iadd, 1) := ds_row dvL_law_272 dhL_law_272 25 (q := 35) rfl
theorem dL_law_308 : decode cL_law 308 = .ok (.iaload, 1) := ds_row dvL_law_272 dhL_law_272 26 (q := 36) rfl
theorem dL_law_309 : decode cL_law 309 = .ok (.aload_n 0, 1) := ds_row dvL_law_272 dhL_law_272 27 (q := 37) rfl
theorem dL_law_310 : decode cL_law 310 = .ok (.iload 4, 2) := ds_row dvL_law_272 dhL_law_272 28 (q := 38) rfl
theorem dL_law_312 : decode cL_law 312 = .ok (.iconst 2, 1) := ds_row dvL_law_272 dhL_law_272 29 (q := 40) rfl
theorem dL_law_313 : decode cL_law 313 = .ok (.iadd, 1) := ds_row dvL_law_272 dhL_law_272 30 (q := 41) rfl
theorem dL_law_314 : decode cL_law 314 = .ok (.iaload, 1) := ds_row dvL_law_272 dhL_law_272 31 (q := 42) rfl
theorem dL_law_315 : decode cL_law 315 = .ok (.aload_n 0, 1) := ds_row dvL_law_272 dhL_law_272 32 (q := 43) rfl
theorem dL_law_316 : decode cL_law 316 = .ok (.iload 4, 2) := ds_row dvL_law_272 dhL_law_272 33 (q := 44) rfl
theorem dL_law_318 : decode cL_law 318 = .ok (.iconst 3, 1) := ds_row dvL_law_272 dhL_law_272 34 (q := 46) rfl
theorem dL_law_319 : decode cL_law 319 = .ok (.iadd, 1) := ds_row dvL_law_272 dhL_law_272 35 (q := 47) rfl
theorem dL_law_320 : decode cL_law 320 = .ok (.iaload, 1) := ds_row dvL_law_272 dhL_law_272 36 (q := 48) rfl
theorem dL_law_321 : decode cL_law 321 = .ok (.invokevirtual 36, 3) := ds_row dvL_law_272 dhL_law_272 37 (q := 49) rfl
theorem dL_law_324 : decode cL_law 324 = .ok (.pop, 1) := ds_row dvL_law_272 dhL_law_272 38 (q := 52) rfl
theorem dL_law_325 : decode cL_law 325 = .ok (.aload_n 2, 1) := ds_row dvL_law_272 dhL_law_272 39 (q := 53) rfl
theorem dL_law_326 : decode cL_law 326 = .ok (.aload_n 0, 1) := ds_row dvL_law_272 dhL_law_272 40 (q := 54) rfl
abbrev dBL_law_327 : List UInt8 := [21, 4, 4, 96, 46, 42, 21, 4, 5, 96, 46, 42, 21, 4, 6, 96, 46, 182, 0, 40, 87, 167, 6, 7, 43, 42, 21, 4, 4, 96, 46, 42, 21, 4, 5, 96, 46, 182, 0, 41, 87, 44, 42, 21, 4, 4, 96, 46, 42, 21, 4, 5, 96, 46]
abbrev dRL_law_327 : List (Nat × Jvm.ClassFile.Instr × Nat) := [(0, .iload 4, 2), (2, .iconst 1, 1), (3, .iadd, 1), (4, .iaload, 1), (5, .aload_n 0, 1), (6, .iload 4, 2), (8, .iconst 2, 1), (9, .iadd, 1), (10, .iaload, 1), (11, .aload_n 0, 1), (12, .iload 4, 2), (14, .iconst 3, 1), (15, .iadd, 1), (16, .iaload, 1), (17, .invokevirtual 40, 3), (20, .pop, 1), (21, .goto 1543, 3), (24, .aload_n 1, 1), (25, .aload_n 0, 1), (26, .iload 4, 2), (28, .iconst 1, 1), (29, .iadd, 1), (30, .iaload, 1), (31, .aload_n 0, 1), (32, .iload 4, 2), (34, .iconst 2, 1), (35, .iadd, 1), (36, .iaload, 1), (37, .invokevirtual 41, 3), (40, .pop, 1), (41, .aload_n 2, 1), (42, .aload_n 0, 1), (43, .iload 4, 2), (45, .iconst 1, 1), (46, .iadd, 1), (47, .iaload, 1), (48, .aload_n 0, 1), (49, .iload 4, 2), (51, .iconst 2, 1), (52, .iadd, 1), (53, .iaload, 1)]
theorem dvL_law_327 : ds_V cL_law (.mk (List.toArray dBL_law_327)) 327 := ds_at cL_law 327 dBL_law_327 (by decide +kernel)
theorem dhL_law_327 : ds_all (.mk (List.toArray dBL_law_327)) dRL_law_327 = true := by decide +kernel
theorem dL_law_327 : decode cL_law 327 = .ok (.iload 4, 2) := ds_row dvL_law_327 dhL_law_327 0 (q := 0) rfl
theorem dL_law_329 : decode cL_law 329 = .ok (.iconst 1, 1) := ds_row dvL_law_327 dhL_law_327 1 (q := 2) rfl
theorem dL_law_330 : decode cL_law 330 = .ok (.iadd, 1) := ds_row dvL_law_327 dhL_law_327 2 (q := 3) rfl
theorem dL_law_331 : decode cL_law 331 = .ok (.iaload, 1) := ds_row dvL_law_327 dhL_law_327 3 (q := 4) rfl
theorem dL_law_332 : decode cL_law 332 = .ok (.aload_n 0, 1) := ds_row dvL_law_327 dhL_law_327 4 (q := 5) rfl
theorem dL_law_333 : decode cL_law 333 = .ok (.iload 4, 2) := ds_row dvL_law_327 dhL_law_327 5 (q := 6) rfl
theorem dL_law_335 : decode cL_law 335 = .ok (.iconst 2, 1) := ds_row dvL_law_327 dhL_law_327 6 (q := 8) rfl
theorem dL_law_336 : decode cL_law 336 = .ok (.iadd, 1) := ds_row dvL_law_327 dhL_law_327 7 (q := 9) rfl
theorem dL_law_337 : decode cL_law 337 = .ok (.iaload, 1) := ds_row dvL_law_327 dhL_law_327 8 (q := 10) rfl
theorem dL_law_338 : decode cL_law 338 = .ok (.aload_n 0, 1) := ds_row dvL_law_327 dhL_law_327 9 (q := 11) rfl
theorem dL_law_339 : decode cL_law 339 = .ok (.iload 4, 2) := ds_row dvL_law_327 dhL_law_327 10 (q := 12) rfl
theorem dL_law_341 : decode cL_law 341 = .ok (.iconst 3, 1) := ds_row dvL_law_327 dhL_law_327 11 (q := 14) rfl
theorem dL_law_342 : decode cL_law 342 = .ok (.iadd, 1) := ds_row dvL_law_327 dhL_law_327 12 (q := 15) rfl
theorem dL_law_343 : decode cL_law 343 = .ok (.iaload, 1) := ds_row dvL_law_327 dhL_law_327 13 (q := 16) rfl
theorem dL_law_344 : decode cL_law 344 = .ok (.invokevirtual 40, 3) := ds_row dvL_law_327 dhL_law_327 14 (q := 17) rfl
theorem dL_law_347 : decode cL_law 347 = .ok (.pop, 1) := ds_row dvL_law_327 dhL_law_327 15 (q := 20) rfl
theorem dL_law_348 : decode cL_law 348 = .ok (.goto 1543, 3) := ds_row dvL_law_327 dhL_law_327 16 (q := 21) rfl
theorem dL_law_351 : decode cL_law 351 = .ok (.aload_n 1, 1) := ds_row dvL_law_327 dhL_law_327 17 (q := 24) rfl
theorem dL_law_352 : decode cL_law 352 = .ok (.aload_n 0, 1) := ds_row dvL_law_327 dhL_law_327 18 (q := 25) rfl
theorem dL_law_353 : decode cL_law 353 = .ok (.iload 4, 2) := ds_row dvL_law_327 dhL_law_327 19 (q := 26) rfl
theorem dL_law_355 : decode cL_law 355 = .ok (.iconst 1, 1) := ds_row dvL_law_327 dhL_law_327 20 (q := 28) rfl
theorem dL_law_356 : decode cL_law 356 = .ok (.iadd, 1) := ds_row dvL_law_327 dhL_law_327 21 (q := 29) rfl
theorem dL_law_357 : decode cL_law 357 = .ok (.iaload, 1) := ds_row dvL_law_327 dhL_law_327 22 (q := 30) rfl
theorem dL_law_358 : decode cL_law 358 = .ok (.aload_n 0, 1) := ds_row dvL_law_327 dhL_law_327 23 (q := 31) rfl
theorem dL_law_359 : decode cL_law 359 = .ok (.iload 4, 2) := ds_row dvL_law_327 dhL_law_327 24 (q := 32) rfl
theorem dL_law_361 : decode cL_law 361 = .ok (.iconst 2, 1) := ds_row dvL_law_327 dhL_law_327 25 (q := 34) rfl
theorem dL_law_362 : decode cL_law 362 = .ok (.iadd, 1) := ds_row dvL_law_327 dhL_law_327 26 (q := 35) rfl
theorem dL_law_363 : decode cL_law 363 = .ok (.iaload, 1) := ds_row dvL_law_327 dhL_law_327 27 (q := 36) rfl
theorem dL_law_364 : decode cL_law 364 = .ok (.invokevirtual 41, 3) := ds_row dvL_law_327 dhL_law_327 28 (q := 37) rfl
theorem dL_law_367 : decode cL_law 367 = .ok (.pop, 1) := ds_row dvL_law_327 dhL_law_327 29 (q := 40) rfl
theorem dL_law_368 : decode cL_law 368 = .ok (.aload_n 2, 1) := ds_row dvL_law_327 dhL_law_327 30 (q := 41) rfl
theorem dL_law_369 : decode cL_law 369 = .ok (.aload_n 0, 1) := ds_row dvL_law_327 dhL_law_327 31 (q := 42) rfl
theorem dL_law_370 : decode cL_law 370 = .ok (.iload 4, 2) := ds_row dvL_law_327 dhL_law_327 32 (q := 43) rfl
theorem dL_law_372 : decode cL_law 372 = .ok (.iconst 1, 1) := ds_row dvL_law_327 dhL_law_327 33 (q := 45) rfl
theorem dL_law_373 : decode cL_law 373 = .ok (.iadd, 1) := ds_row dvL_law_327 dhL_law_327 34 (q := 46) rfl
theorem dL_law_374 : decode cL_law 374 = .ok (.iaload, 1) := ds_row dvL_law_327 dhL_law_327 35 (q := 47) rfl
theorem dL_law_375 : decode cL_law 375 = .ok (.aload_n 0, 1) := ds_row dvL_law_327 dhL_law_327 36 (q := 48) rfl
theorem dL_law_376 : decode cL_law 376 = .ok (.iload 4, 2) := ds_row dvL_law_327 dhL_law_327 37 (q := 49) rfl
theorem dL_law_378 : decode cL_law 378 = .ok (.iconst 2, 1) := ds_row dvL_law_327 dhL_law_327 38 (q := 51) rfl
theorem dL_law_379 : decode cL_law 379 = .ok (.iadd, 1) := ds_row dvL_law_327 dhL_law_327 39 (q := 52) rfl
theorem dL_law_380 : decode cL_law 380 = .ok (.iaload, 1) := ds_row dvL_law_327 dhL_law_327 40 (q := 53) rfl
abbrev dBL_law_381 : List UInt8 := [182, 0, 44, 87, 167, 5, 226, 43, 42, 21, 4, 4, 96, 46, 42, 21, 4, 5, 96, 46, 42, 21, 4, 6, 96, 46, 182, 0, 45, 87, 44, 42, 21, 4, 4, 96, 46, 42, 21, 4, 5, 96, 46, 42, 21, 4, 6, 96, 46, 182, 0, 48, 87, 167, 5, 177]
abbrev dRL_law_381 : List (Nat × Jvm.ClassFile.Instr × Nat) := [(0, .invokevirtual 44, 3), (3, .pop, 1), (4, .goto 1506, 3), (7, .aload_n 1, 1), (8, .aload_n 0, 1), (9, .iload 4, 2), (11, .iconst 1, 1), (12, .iadd, 1), (13, .iaload, 1), (14, .aload_n 0, 1), (15, .iload 4, 2), (17, .iconst 2, 1), (18, .iadd, 1), (19, .iaload, 1), (20, .aload_n 0, 1), (21, .iload 4, 2), (23, .iconst 3, 1), (24, .iadd, 1), (25, .iaload, 1), (26, .invokevirtual 45, 3), (29, .pop, 1), (30, .aload_n 2, 1), (31, .aload_n 0, 1), (32, .iload 4, 2), (34, .iconst 1, 1), (35, .iadd, 1), (36, .iaload, 1), (37, .aload_n 0, 1), (38, .iload 4, 2), (40, .iconst 2, 1), (41, .iadd, 1), (42, .iaload, 1), (43, .aload_n 0, 1), (44, .iload 4, 2), (46, .iconst 3, 1), (47, .iadd, 1), (48, .iaload, 1), (49, .invokevirtual 48, 3), (52, .pop, 1), (53, .goto 1457, 3)]
theorem dvL_law_381 : ds_V cL_law (.mk (List.toArray dBL_law_381)) 381 := ds_at cL_law 381 dBL_law_381 (by decide +kernel)
theorem dhL_law_381 : ds_all (.mk (List.toArray dBL_law_381)) dRL_law_381 = true := by decide +kernel
theorem dL_law_381 : decode cL_law 381 = .ok (.invokevirtual 44, 3) := ds_row dvL_law_381 dhL_law_381 0 (q := 0) rfl
theorem dL_law_384 : decode cL_law 384 = .ok (.pop, 1) := ds_row dvL_law_381 dhL_law_381 1 (q := 3) rfl
theorem dL_law_385 : decode cL_law 385 = .ok (.goto 1506, 3) := ds_row dvL_law_381 dhL_law_381 2 (q := 4) rfl
theorem dL_law_388 : decode cL_law 388 = .ok (.aload_n 1, 1) := ds_row dvL_law_381 dhL_law_381 3 (q := 7) rfl
theorem dL_law_389 : decode cL_law 389 = .ok (.aload_n 0, 1) := ds_row dvL_law_381 dhL_law_381 4 (q := 8) rfl
theorem dL_law_390 : decode cL_law 390 = .ok (.iload 4, 2) := ds_row dvL_law_381 dhL_law_381 5 (q := 9) rfl
theorem dL_law_392 : decode cL_law 392 = .ok (.iconst 1, 1) := ds_row dvL_law_381 dhL_law_381 6 (q := 11) rfl
theorem dL_law_393 : decode cL_law 393 = .ok (.iadd, 1) := ds_row dvL_law_381 dhL_law_381 7 (q := 12) rfl
theorem dL_law_394 : decode cL_law 394 = .ok (.iaload, 1) := ds_row dvL_law_381 dhL_law_381 8 (q := 13) rfl
theorem dL_law_395 : decode cL_law 395 = .ok (.aload_n 0, 1) := ds_row dvL_law_381 dhL_law_381 9 (q := 14) rfl
theorem dL_law_396 : decode cL_law 396 = .ok (.iload 4, 2) := ds_row dvL_law_381 dhL_law_381 10 (q := 15) rfl
theorem dL_law_398 : decode cL_law 398 = .ok (.iconst 2, 1) := ds_row dvL_law_381 dhL_law_381 11 (q := 17) rfl
theorem dL_law_399 : decode cL_law 399 = .ok (.iadd, 1) := ds_row dvL_law_381 dhL_law_381 12 (q := 18) rfl
theorem dL_law_400 : decode cL_law 400 = .ok (.iaload, 1) := ds_row dvL_law_381 dhL_law_381 13 (q := 19) rfl
theorem dL_law_401 : decode cL_law 401 = .ok (.aload_n 0, 1) := ds_row dvL_law_381 dhL_law_381 14 (q := 20) rfl
theorem dL_law_402 : decode cL_law 402 = .ok (.iload 4, 2) := ds_row dvL_law_381 dhL_law_381 15 (q := 21) rfl
theorem dL_law_404 : decode cL_law 404 = .ok (.iconst 3, 1) := ds_row dvL_law_381 dhL_law_381 16 (q := 23) rfl
theorem dL_law_405 : decode cL_law 405 = .ok (.iadd, 1) := ds_row dvL_law_381 dhL_law_381 17 (q := 24) rfl
theorem dL_law_406 : decode cL_law 406 = .ok (.iaload, 1) := ds_row dvL_law_381 dhL_law_381 18 (q := 25) rfl
theorem dL_law_407 : decode cL_law 407 = .ok (.invokevirtual 45, 3) := ds_row dvL_law_381 dhL_law_381 19 (q := 26) rfl
theorem dL_law_410 : decode cL_law 410 = .ok (.pop, 1) := ds_row dvL_law_381 dhL_law_381 20 (q := 29) rfl
theorem dL_law_411 : decode cL_law 411 = .ok (.aload_n 2, 1) := ds_row dvL_law_381 dhL_law_381 21 (q := 30) rfl
theorem dL_law_412 : decode cL_law 412 = .ok (.aload_n 0, 1) := ds_row dvL_law_381 dhL_law_381 22 (q := 31) rfl
theorem dL_law_413 : decode cL_law 413 = .ok (.iload 4, 2) := ds_row dvL_law_381 dhL_law_381 23 (q := 32) rfl
theorem dL_law_415 : decode cL_law 415 = .ok (.iconst 1, 1) := ds_row dvL_law_381 dhL_law_381 24 (q := 34) rfl
theorem dL_law_416 : decode cL_law 416 = .ok (.iadd, 1) := ds_row dvL_law_381 dhL_law_381 25 (q := 35) rfl
theorem dL_law_417 : decode cL_law 417 = .ok (.iaload, 1) := ds_row dvL_law_381 dhL_law_381 26 (q := 36) rfl
theorem dL_law_418 : decode cL_law 418 = .ok (.aload_n 0, 1) := ds_row dvL_law_381 dhL_law_381 27 (q := 37) rfl
theorem dL_law_419 : decode cL_law 419 = .ok (.iload 4, 2) := ds_row dvL_law_381 dhL_law_381 28 (q := 38) rfl
theorem dL_law_421 : decode cL_law 421 = .ok (.iconst 2, 1) := ds_row dvL_law_381 dhL_law_381 29 (q := 40) rfl
theorem dL_law_422 : decode cL_law 422 = .ok (.iadd, 1) := ds_row dvL_law_381 dhL_law_381 30 (q := 41) rfl
theorem dL_law_423 : decode cL_law 423 = .ok (.iaload, 1) := ds_row dvL_law_381 dhL_law_381 31 (q := 42) rfl
theorem dL_law_424 : decode cL_law 424 = .ok (.aload_n 0, 1) := ds_row dvL_law_381 dhL_law_381 32 (q := 43) rfl
theorem dL_law_425 : decode cL_law 425 = .ok (.iload 4, 2) := ds_row dvL_law_381 dhL_law_381 33 (q := 44) rfl
theorem dL_law_427 : decode cL_law 427 = .ok (.iconst 3, 1) := ds_row dvL_law_381 dhL_law_381 34 (q := 46) rfl
theorem dL_law_428 : decode cL_law 428 = .ok (.iadd, 1) := ds_row dvL_law_381 dhL_law_381 35 (q := 47) rfl
theorem dL_law_429 : decode cL_law 429 = .ok (.iaload, 1) := ds_row dvL_law_381 dhL_law_381 36 (q := 48) rfl
theorem dL_law_430 : decode cL_law 430 = .ok (.invokevirtual 48, 3) := ds_row dvL_law_381 dhL_law_381 37 (q := 49) rfl
theorem dL_law_433 : decode cL_law 433 = .ok (.pop, 1) := ds_row dvL_law_381 dhL_law_381 38 (q := 52) rfl
theorem dL_law_434 : decode cL_law 434 = .ok (.goto 1457, 3) := ds_row dvL_law_381 dhL_law_381 39 (q := 53) rfl
abbrev dBL_law_437 : List UInt8 := [43, 42, 21, 4, 4, 96, 46, 42, 21, 4, 5, 96, 46, 42, 21, 4, 6, 96, 46, 42, 21, 4, 7, 96, 46, 182, 0, 49, 87, 44, 42, 21, 4, 4, 96, 46, 42, 21, 4, 5, 96, 46, 42, 21, 4, 6, 96, 46, 42, 21, 4, 7, 96, 46]
abbrev dRL_law_437 : List (Nat × Jvm.ClassFile.Instr × Nat) := [(0, .aload_n 1, 1), (1, .aload_n 0, 1), (2, .iload 4, 2), (4, .iconst 1, 1), (5, .iadd, 1), (6, .iaload, 1), (7, .aload_n 0, 1), (8, .iload 4, 2), (10, .iconst 2, 1), (11, .iadd, 1), (12, .iaload, 1), (13, .aload_n 0, 1), (14, .iload 4, 2), (16, .iconst 3, 1), (17, .iadd, 1), (18, .iaload, 1), (19, .aload_n 0, 1), (20, .iload 4, 2), (22, .iconst 4, 1), (23, .iadd, 1), (24, .iaload, 1), (25, .invokevirtual 49, 3), (28, .pop, 1), (29, .aload_n 2, 1), (30, .aload_n 0, 1), (31, .iload 4, 2), (33, .iconst 1, 1), (34, .iadd, 1), (35, .iaload, 1), (36, .aload_n 0, 1), (37, .iload 4, 2), (39, .iconst 2, 1), (40, .iadd, 1), (41, .iaload, 1), (42, .aload_n 0, 1), (43, .iload 4, 2), (45, .iconst 3, 1), (46, .iadd, 1), (47, .iaload, 1), (48, .aload_n 0, 1), (49, .iload 4, 2), (51, .iconst 4, 1), (52, .iadd, 1), (53, .iaload, 1)]
theorem dvL_law_437 : ds_V cL_law (.mk (List.toArray dBL_law_437)) 437 := ds_at cL_law 437 dBL_law_437 (by decide +kernel)
theorem dhL_law_437 : ds_all (.mk (List.toArray dBL_law_437)) dRL_law_437 = true := by decide +kernel
theorem dL_law_437 : decode cL_law 437 = .ok (.aload_n 1, 1) := ds_row dvL_law_437 dhL_law_437 0 (q := 0) rfl
theorem dL_law_438 : decode cL_law 438 = .ok (.aload_n 0, 1) := ds_row dvL_law_437 dhL_law_437 1 (q := 1) rfl
theorem dL_law_439 : decode cL_law 439 = .ok (.iload 4, 2) := ds_row dvL_law_437 dhL_law_437 2 (q := 2) rfl
theorem dL_law_441 : decode cL_law 441 = .ok (.iconst 1, 1) := ds_row dvL_law_437 dhL_law_437 3 (q := 4) rfl
theorem dL_law_442 : decode cL_law 442 = .ok (.iadd, 1) := ds_row dvL_law_437 dhL_law_437 4 (q := 5) rfl
theorem dL_law_443 : decode cL_law 443 = .ok (.iaload, 1) := ds_row dvL_law_437 dhL_law_437 5 (q := 6) rfl
theorem dL_law_444 : decode cL_law 444 = .ok (.aload_n 0, 1) := ds_row dvL_law_437 dhL_law_437 6 (q := 7) rfl
theorem dL_law_445 : decode cL_law 445 = .ok (.iload 4, 2) := ds_row dvL_law_437 dhL_law_437 7 (q := 8) rfl
theorem dL_law_447 : decode cL_law 447 = .ok (.iconst 2, 1) := ds_row dvL_law_437 dhL_law_437 8 (q := 10) rfl
theorem dL_law_448 : decode cL_law 448 = .ok (.iadd, 1) := ds_row dvL_law_437 dhL_law_437 9 (q := 11) rfl
theorem dL_law_449 : decode cL_law 449 = .ok (.iaload, 1) := ds_row dvL_law_437 dhL_law_437 10 (q := 12) rfl
theorem dL_law_450 : decode cL_law 450 = .ok (.aload_n 0, 1) := ds_row dvL_law_437 dhL_law_437 11 (q := 13) rfl
theorem dL_law_451 : decode cL_law 451 = .ok (.iload 4, 2) := ds_row dvL_law_437 dhL_law_437 12 (q := 14) rfl
theorem dL_law_453 : decode cL_law 453 = .ok (.iconst 3, 1) := ds_row dvL_law_437 dhL_law_437 13 (q := 16) rfl
theorem dL_law_454 : decode cL_law 454 = .ok (.iadd, 1) := ds_row dvL_law_437 dhL_law_437 14 (q := 17) rfl
theorem dL_law_455 : decode cL_law 455 = .ok (.iaload, 1) := ds_row dvL_law_437 dhL_law_437 15 (q := 18) rfl
theorem dL_law_456 : decode cL_law 456 = .ok (.aload_n 0, 1) := ds_row dvL_law_437 dhL_law_437 16 (q := 19) rfl
theorem dL_law_457 : decode cL_law 457 = .ok (.iload 4, 2) := ds_row dvL_law_437 dhL_law_437 17 (q := 20) rfl
theorem dL_law_459 : decode cL_law 459 = .ok (.iconst 4, 1) := ds_row dvL_law_437 dhL_law_437 18 (q := 22) rfl
theorem dL_law_460 : decode cL_law 460 = .ok (.iadd, 1) := ds_row dvL_law_437 dhL_law_437 19 (q := 23) rfl
theorem dL_law_461 : decode cL_law 461 = .ok (.iaload, 1) := ds_row dvL_law_437 dhL_law_437 20 (q := 24) rfl
theorem dL_law_462 : decode cL_law 462 = .ok (.invokevirtual 49, 3) := ds_row dvL_law_437 dhL_law_437 21 (q := 25) rfl
theorem dL_law_465 : decode cL_law 465 = .ok (.pop, 1) := ds_row dvL_law_437 dhL_law_437 22 (q := 28) rfl
theorem dL_law_466 : decode cL_law 466 = .ok (.aload_n 2, 1) := ds_row dvL_law_437 dhL_law_437 23 (q := 29) rfl
theorem dL_law_467 : decode cL_law 467 = .ok (.aload_n 0, 1) := ds_row dvL_law_437 dhL_law_437 24 (q := 30) rfl
theorem dL_law_468 : decode cL_law 468 = .ok (.iload 4, 2) := ds_row dvL_law_437 dhL_law_437 25 (q := 31) rfl
theorem dL_law_470 : decode cL_law 470 = .ok (.iconst 1, 1) := ds_row dvL_law_437 dhL_law_437 26 (q := 33) rfl
theorem dL_law_471 : decode cL_law 471 = .ok (.iadd, 1) := ds_row dvL_law_437 dhL_law_437 27 (q := 34) rfl
theorem dL_law_472 : decode cL_law 472 = .ok (.iaload, 1) := ds_row dvL_law_437 dhL_law_437 28 (q := 35) rfl
theorem dL_law_473 : decode cL_law 473 = .ok (.aload_n 0, 1) := ds_row dvL_law_437 dhL_law_437 29 (q := 36) rfl
theorem dL_law_474 : decode cL_law 474 = .ok (.iload 4, 2) := ds_row dvL_law_437 dhL_law_437 30 (q := 37) rfl
theorem dL_law_476 : decode cL_law 476 = .ok (.iconst 2, 1) := ds_row dvL_law_437 dhL_law_437 31 (q := 39) rfl
theorem dL_law_477 : decode cL_law 477 = .ok (.iadd, 1) := ds_row dvL_law_437 dhL_law_437 32 (q := 40) rfl
theorem dL_law_478 : decode cL_law 478 = .ok (.iaload, 1) := ds_row dvL_law_437 dhL_law_437 33 (q := 41) rfl
theorem dL_law_479 : decode cL_law 479 = .ok (.aload_n 0, 1) := ds_row dvL_law_437 dhL_law_437 34 (q := 42) rfl
theorem dL_law_480 : decode cL_law 480 = .ok (.iload 4, 2) := ds_row dvL_law_437 dhL_law_437 35 (q := 43) rfl
theorem dL_law_482 : decode cL_law 482 = .ok (.iconst 3, 1) := ds_row dvL_law_437 dhL_law_437 36 (q := 45) rfl
theorem dL_law_483 : decode cL_law 483 = .ok (.iadd, 1) := ds_row dvL_law_437 dhL_law_437 37 (q := 46) rfl
theorem dL_law_484 : decode cL_law 484 = .ok (.iaload, 1) := ds_row dvL_law_437 dhL_law_437 38 (q := 47) rfl
theorem dL_law_485 : decode cL_law 485 = .ok (.aload_n 0, 1) := ds_row dvL_law_437 dhL_law_437 39 (q := 48) rfl
theorem dL_law_486 : decode cL_law 486 = .ok (.iload 4, 2) := ds_row dvL_law_437 dhL_law_437 40 (q := 49) rfl
theorem dL_law_488 : decode cL_law 488 = .ok (.iconst 4, 1) := ds_row dvL_law_437 dhL_law_437 41 (q := 51) rfl
theorem dL_law_489 : decode cL_law 489 = .ok (.iadd, 1) := ds_row dvL_law_437 dhL_law_437 42 (q := 52) rfl
theorem dL_law_490 : decode cL_law 490 = .ok (.iaload, 1) := ds_row dvL_law_437 dhL_law_437 43 (q := 53) rfl
abbrev dBL_law_491 : List UInt8 := [182, 0, 53, 87, 167, 5, 116, 43, 42, 21, 4, 4, 96, 46, 42, 21, 4, 5, 96, 46, 42, 21, 4, 6, 96, 46, 42, 21, 4, 7, 96, 46, 42, 21, 4, 8, 96, 46, 42, 21, 4, 16, 6, 96, 46, 182, 0, 54, 87, 44, 42, 21, 4, 4, 96, 46]
abbrev dRL_law_491 : List (Nat × Jvm.ClassFile.Instr × Nat) := [(0, .invokevirtual 53, 3), (3, .pop, 1), (4, .goto 1396, 3), (7, .aload_n 1, 1), (8, .aload_n 0, 1), (9, .iload 4, 2), (11, .iconst 1, 1), (12, .iadd, 1), (13, .iaload, 1), (14, .aload_n 0, 1), (15, .iload 4, 2), (17, .iconst 2, 1), (18, .iadd, 1), (19, .iaload, 1), (20, .aload_n 0, 1), (21, .iload 4, 2), (23, .iconst 3, 1), (24, .iadd, 1), (25, .iaload, 1), (26, .aload_n 0, 1), (27, .iload 4, 2), (29, .iconst 4, 1), (30, .iadd, 1), (31, .iaload, 1), (32, .aload_n 0, 1), (33, .iload 4, 2), (35, .iconst 5, 1), (36, .iadd, 1), (37, .iaload, 1), (38, .aload_n 0, 1), (39, .iload 4, 2), (41, .bipush 6, 2), (43, .iadd, 1), (44, .iaload, 1), (45, .invokevirtual 54, 3), (48, .pop, 1), (49, .aload_n 2, 1), (50, .aload_n 0, 1), (51, .iload 4, 2), (53, .iconst 1, 1), (54, .iadd, 1), (55, .iaload, 1)]
theorem dvL_law_491 : ds_V cL_law (.mk (List.toArray dBL_law_491)) 491 := ds_at cL_law 491 dBL_law_491 (by decide +kernel)
theorem dhL_law_491 : ds_all (.mk (List.toArray dBL_law_491)) dRL_law_491 = true := by decide +kernel
theorem dL_law_491 : decode cL_law 491 = .ok (.invokevirtual 53, 3) := ds_row dvL_law_491 dhL_law_491 0 (q := 0) rfl
theorem dL_law_494 : decode cL_law 494 = .ok (.pop, 1) := ds_row dvL_law_491 dhL_law_491 1 (q := 3) rfl
theorem dL_law_495 : decode cL_law 495 = .ok (.goto 1396, 3) := ds_row dvL_law_491 dhL_law_491 2 (q := 4) rfl
theorem dL_law_498 : decode cL_law 498 = .ok (.aload_n 1, 1) := ds_row dvL_law_491 dhL_law_491 3 (q := 7) rfl
theorem dL_law_499 : decode cL_law 499 = .ok (.aload_n 0, 1) := ds_row dvL_law_491 dhL_law_491 4 (q := 8) rfl
theorem dL_law_500 : decode cL_law 500 = .ok (.iload 4, 2) := ds_row dvL_law_491 dhL_law_491 5 (q := 9) rfl
theorem dL_law_502 : decode cL_law 502 = .ok (.iconst 1, 1) := ds_row dvL_law_491 dhL_law_491 6 (q := 11) rfl
theorem dL_law_503 : decode cL_law 503 = .ok (.iadd, 1) := ds_row dvL_law_491 dhL_law_491 7 (q := 12) rfl
theorem dL_law_504 : decode cL_law 504 = .ok (.iaload, 1) := ds_row dvL_law_491 dhL_law_491 8 (q := 13) rfl
theorem dL_law_505 : decode cL_law 505 = .ok (.aload_n 0, 1) := ds_row dvL_law_491 dhL_law_491 9 (q := 14) rfl
theorem dL_law_506 : decode cL_law 506 = .ok (.iload 4, 2) := ds_row dvL_law_491 dhL_law_491 10 (q := 15) rfl
theorem dL_law_508 : decode cL_law 508 = .ok (.iconst 2, 1) := ds_row dvL_law_491 dhL_law_491 11 (q := 17) rfl
theorem dL_law_509 : decode cL_law 509 = .ok (.iadd, 1) := ds_row dvL_law_491 dhL_law_491 12 (q := 18) rfl
theorem dL_law_510 : decode cL_law 510 = .ok (.iaload, 1) := ds_row dvL_law_491 dhL_law_491 13 (q := 19) rfl
theorem dL_law_511 : decode cL_law 511 = .ok (.aload_n 0, 1) := ds_row dvL_law_491 dhL_law_491 14 (q := 20) rfl
theorem dL_law_512 : decode cL_law 512 = .ok (.iload 4, 2) := ds_row dvL_law_491 dhL_law_491 15 (q := 21) rfl
theorem dL_law_514 : decode cL_law 514 = .ok (.iconst 3, 1) := ds_row dvL_law_491 dhL_law_491 16 (q := 23) rfl
theorem dL_law_515 : decode cL_law 515 = .ok (.iadd, 1) := ds_row dvL_law_491 dhL_law_491 17 (q := 24) rfl
theorem dL_law_516 : decode cL_law 516 = .ok (.iaload, 1) := ds_row dvL_law_491 dhL_law_491 18 (q := 25) rfl
theorem dL_law_517 : decode cL_law 517 = .ok (.aload_n 0, 1) := ds_row dvL_law_491 dhL_law_491 19 (q := 26) rfl
theorem dL_law_518 : decode cL_law 518 = .ok (.iload 4, 2) := ds_row dvL_law_491 dhL_law_491 20 (q := 27) rfl
theorem dL_law_520 : decode cL_law 520 = .ok (.iconst 4, 1) := ds_row dvL_law_491 dhL_law_491 21 (q := 29) rfl
theorem dL_law_521 : decode cL_law 521 = .ok (.iadd, 1) := ds_row dvL_law_491 dhL_law_491 22 (q := 30) rfl
theorem dL_law_522 : decode cL_law 522 = .ok (.iaload, 1) := ds_row dvL_law_491 dhL_law_491 23 (q := 31) rfl
theorem dL_law_523 : decode cL_law 523 = .ok (.aload_n 0, 1) := ds_row dvL_law_491 dhL_law_491 24 (q := 32) rfl
theorem dL_law_524 : decode cL_law 524 = .ok (.iload 4, 2) := ds_row dvL_law_491 dhL_law_491 25 (q := 33) rfl
theorem dL_law_526 : decode cL_law 526 = .ok (.iconst 5, 1) := ds_row dvL_law_491 dhL_law_491 26 (q := 35) rfl
theorem dL_law_527 : decode cL_law 527 = .ok (.iadd, 1) := ds_row dvL_law_491 dhL_law_491 27 (q := 36) rfl
theorem dL_law_528 : decode cL_law 528 = .ok (.iaload, 1) := ds_row dvL_law_491 dhL_law_491 28 (q := 37) rfl
theorem dL_law_529 : decode cL_law 529 = .ok (.aload_n 0, 1) := ds_row dvL_law_491 dhL_law_491 29 (q := 38) rfl
theorem dL_law_530 : decode cL_law 530 = .ok (.iload 4, 2) := ds_row dvL_law_491 dhL_law_491 30 (q := 39) rfl
theorem dL_law_532 : decode cL_law 532 = .ok (.bipush 6, 2) := ds_row dvL_law_491 dhL_law_491 31 (q := 41) rfl
theorem dL_law_534 : decode cL_law 534 = .ok (.iadd, 1) := ds_row dvL_law_491 dhL_law_491 32 (q := 43) rfl
theorem dL_law_535 : decode cL_law 535 = .ok (.iaload, 1) := ds_row dvL_law_491 dhL_law_491 33 (q := 44) rfl
theorem dL_law_536 : decode cL_law 536 = .ok (.invokevirtual 54, 3) := ds_row dvL_law_491 dhL_law_491 34 (q := 45) rfl
theorem dL_law_539 : decode cL_law 539 = .ok (.pop, 1) := ds_row dvL_law_491 dhL_law_491 35 (q := 48) rfl
theorem dL_law_540 : decode cL_law 540 = .ok (.aload_n 2, 1) := ds_row dvL_law_491 dhL_law_491 36 (q := 49) rfl
theorem dL_law_541 : decode cL_law 541 = .ok (.aload_n 0, 1) := ds_row dvL_law_491 dhL_law_491 37 (q := 50) rfl
theorem dL_law_542 : decode cL_law 542 = .ok (.iload 4, 2) := ds_row dvL_law_491 dhL_law_491 38 (q := 51) rfl
theorem dL_law_544 : decode cL_law 544 = .ok (.iconst 1, 1) := ds_row dvL_law_491 dhL_law_491 39 (q := 53) rfl
theorem dL_law_545 : decode cL_law 545 = .ok (.iadd, 1) := ds_row dvL_law_491 dhL_law_491 40 (q := 54) rfl
theorem dL_law_546 : decode cL_law 546 = .ok (.iaload, 1) := ds_row dvL_law_491 dhL_law_491 41 (q := 55) rfl
abbrev dBL_law_547 : List UInt8 := [42, 21, 4, 5, 96, 46, 42, 21, 4, 6, 96, 46, 42, 21, 4, 7, 96, 46, 42, 21, 4, 8, 96, 46, 42, 21, 4, 16, 6, 96, 46, 182, 0, 58, 87, 167, 5, 29, 43, 42, 21, 4, 4, 96, 46, 42, 21, 4, 5, 96, 46, 42, 21, 4, 6, 96]
abbrev dRL_law_547 : List (Nat × Jvm.ClassFile.Instr × Nat) := [(0, .aload_n 0, 1), (1, .iload 4, 2), (3, .iconst 2, 1), (4, .iadd, 1), (5, .iaload, 1), (6, .aload_n 0, 1), (7, .iload 4, 2), (9, .iconst 3, 1), (10, .iadd, 1), (11, .iaload, 1), (12, .aload_n 0, 1), (13, .iload 4, 2), (15, .iconst 4, 1), (16, .iadd, 1), (17, .iaload, 1), (18, .aload_n 0, 1), (19, .iload 4, 2), (21, .iconst 5, 1), (22, .iadd, 1), (23, .iaload, 1), (24, .aload_n 0, 1), (25, .iload 4, 2), (27, .bipush 6, 2), (29, .iadd, 1), (30, .iaload, 1), (31, .invokevirtual 58, 3), (34, .pop, 1), (35, .goto 1309, 3), (38, .aload_n 1, 1), (39, .aload_n 0, 1), (40, .iload 4, 2), (42, .iconst 1, 1), (43, .iadd, 1), (44, .iaload, 1), (45, .aload_n 0, 1), (46, .iload 4, 2), (48, .iconst 2, 1), (49, .iadd, 1), (50, .iaload, 1), (51, .aload_n 0, 1), (52, .iload 4, 2), (54, .iconst 3, 1), (55, .iadd, 1)]
theorem dvL_law_547 : ds_V cL_law (.mk (List.toArray dBL_law_547)) 547 := ds_at cL_law 547 dBL_law_547 (by decide +kernel)
theorem dhL_law_547 : ds_all (.mk (List.toArray dBL_law_547)) dRL_law_547 = true := by decide +kernel
theorem dL_law_547 : decode cL_law 547 = .ok (.aload_n 0, 1) := ds_row dvL_law_547 dhL_law_547 0 (q := 0) rfl
theorem dL_law_548 : decode cL_law 548 = .ok (.iload 4, 2) := ds_row dvL_law_547 dhL_law_547 1 (q := 1) rfl
theorem dL_law_550 : decode cL_law 550 = .ok (.iconst 2, 1) := ds_row dvL_law_547 dhL_law_547 2 (q := 3) rfl
theorem dL_law_551 : decode cL_law 551 = .ok (.iadd, 1) := ds_row dvL_law_547 dhL_law_547 3 (q := 4) rfl
theorem dL_law_552 : decode cL_law 552 = .ok (.iaload, 1) := ds_row dvL_law_547 dhL_law_547 4 (q := 5) rfl
theorem dL_law_553 : decode cL_law 553 = .ok (.aload_n 0, 1) := ds_row dvL_law_547 dhL_law_547 5 (q := 6) rfl
theorem dL_law_554 : decode cL_law 554 = .ok (.iload 4, 2) := ds_row dvL_law_547 dhL_law_547 6 (q := 7) rfl
theorem dL_law_556 : decode cL_law 556 = .ok (.iconst 3, 1) := ds_row dvL_law_547 dhL_law_547 7 (q := 9) rfl
theorem dL_law_557 : decode cL_law 557 = .ok (.iadd, 1) := ds_row dvL_law_547 dhL_law_547 8 (q := 10) rfl
theorem dL_law_558 : decode cL_law 558 = .ok (.iaload, 1) := ds_row dvL_law_547 dhL_law_547 9 (q := 11) rfl
theorem dL_law_559 : decode cL_law 559 = .ok (.aload_n 0, 1) := ds_row dvL_law_547 dhL_law_547 10 (q := 12) rfl
theorem dL_law_560 : decode cL_law 560 = .ok (.iload 4, 2) := ds_row dvL_law_547 dhL_law_547 11 (q := 13) rfl
theorem dL_law_562 : decode cL_law 562 = .ok (.iconst 4, 1) := ds_row dvL_law_547 dhL_law_547 12 (q := 15) rfl
theorem dL_law_563 : decode cL_law 563 = .ok (.iadd, 1) := ds_row dvL_law_547 dhL_law_547 13 (q := 16) rfl
theorem dL_law_564 : decode cL_law 564 = .ok (.iaload, 1) := ds_row dvL_law_547 dhL_law_547 14 (q := 17) rfl
theorem dL_law_565 : decode cL_law 565 = .ok (.aload_n 0, 1) := ds_row dvL_law_547 dhL_law_547 15 (q := 18) rfl
theorem dL_law_566 : decode cL_law 566 = .ok (.iload 4, 2) := ds_row dvL_law_547 dhL_law_547 16 (q := 19) rfl
theorem dL_law_568 : decode cL_law 568 = .ok (.iconst 5, 1) := ds_row dvL_law_547 dhL_law_547 17 (q := 21) rfl
theorem dL_law_569 : decode cL_law 569 = .ok (.iadd, 1) := ds_row dvL_law_547 dhL_law_547 18 (q := 22) rfl
theorem dL_law_570 : decode cL_law 570 = .ok (.iaload, 1) := ds_row dvL_law_547 dhL_law_547 19 (q := 23) rfl
theorem dL_law_571 : decode cL_law 571 = .ok (.aload_n 0, 1) := ds_row dvL_law_547 dhL_law_547 20 (q := 24) rfl
theorem dL_law_572 : decode cL_law 572 = .ok (.iload 4, 2) := ds_row dvL_law_547 dhL_law_547 21 (q := 25) rfl
theorem dL_law_574 : decode cL_law 574 = .ok (.bipush 6, 2) := ds_row dvL_law_547 dhL_law_547 22 (q := 27) rfl
theorem dL_law_576 : decode cL_law 576 = .ok (.iadd, 1) := ds_row dvL_law_547 dhL_law_547 23 (q := 29) rfl
theorem dL_law_577 : decode cL_law 577 = .ok (.iaload, 1) := ds_row dvL_law_547 dhL_law_547 24 (q := 30) rfl
theorem dL_law_578 : decode cL_law 578 = .ok (.invokevirtual 58, 3) := ds_row dvL_law_547 dhL_law_547 25 (q := 31) rfl
theorem dL_law_581 : decode cL_law 581 = .ok (.pop, 1) := ds_row dvL_law_547 dhL_law_547 26 (q := 34) rfl
theorem dL_law_582 : decode cL_law 582 = .ok (.goto 1309, 3) := ds_row dvL_law_547 dhL_law_547 27 (q := 35) rfl
theorem dL_law_585 : decode cL_law 585 = .ok (.aload_n 1, 1) := ds_row dvL_law_547 dhL_law_547 28 (q := 38) rfl
theorem dL_law_586 : decode cL_law 586 = .ok (.aload_n 0, 1) := ds_row dvL_law_547 dhL_law_547 29 (q := 39) rfl
theorem dL_law_587 : decode cL_law 587 = .ok (.iload 4, 2) := ds_row dvL_law_547 dhL_law_547 30 (q := 40) rfl
theorem dL_law_589 : decode cL_law 589 = .ok (.iconst 1, 1) := ds_row dvL_law_547 dhL_law_547 31 (q := 42) rfl
theorem dL_law_590 : decode cL_law 590 = .ok (.iadd, 1) := ds_row dvL_law_547 dhL_law_547 32 (q := 43) rfl
theorem dL_law_591 : decode cL_law 591 = .ok (.iaload, 1) := ds_row dvL_law_547 dhL_law_547 33 (q := 44) rfl
theorem dL_law_592 : decode cL_law 592 = .ok (.aload_n 0, 1) := ds_row dvL_law_547 dhL_law_547 34 (q := 45) rfl
theorem dL_law_593 : decode cL_law 593 = .ok (.iload 4, 2) := ds_row dvL_law_547 dhL_law_547 35 (q := 46) rfl
theorem dL_law_595 : decode cL_law 595 = .ok (.iconst 2, 1) := ds_row dvL_law_547 dhL_law_547 36 (q := 48) rfl
theorem dL_law_596 : decode cL_law 596 = .ok (.iadd, 1) := ds_row dvL_law_547 dhL_law_547 37 (q := 49) rfl
theorem dL_law_597 : decode cL_law 597 = .ok (.iaload, 1) := ds_row dvL_law_547 dhL_law_547 38 (q := 50) rfl
theorem dL_law_598 : decode cL_law 598 = .ok (.aload_n 0, 1) := ds_row dvL_law_547 dhL_law_547 39 (q := 51) rfl
theorem dL_law_599 : decode cL_law 599 = .ok (.iload 4, 2) := ds_row dvL_law_547 dhL_law_547 40 (q := 52) rfl
theorem dL_law_601 : decode cL_law 601 = .ok (.iconst 3, 1) := ds_row dvL_law_547 dhL_law_547 41 (q := 54) rfl
theorem dL_law_602 : decode cL_law 602 = .ok (.iadd, 1) := ds_row dvL_law_547 dhL_law_547 42 (q := 55) rfl
abbrev dBL_law_603 : List UInt8 := [46, 182, 0, 59, 87, 44, 42, 21, 4, 4, 96, 46, 42, 21, 4, 5, 96, 46, 42, 21, 4, 6, 96, 46, 182, 0, 62, 87, 167, 4, 236, 43, 42, 21, 4, 4, 96, 46, 42, 21, 4, 5, 96, 46, 42, 21, 4, 6, 96, 46, 42, 21, 4, 7, 96, 46]
abbrev dRL_law_603 : List (Nat × Jvm.ClassFile.Instr × Nat) := [(0, .iaload, 1), (1, .invokevirtual 59, 3), (4, .pop, 1), (5, .aload_n 2, 1), (6, .aload_n 0, 1), (7, .iload 4, 2), (9, .iconst 1, 1), (10, .iadd, 1), (11, .iaload, 1), (12, .aload_n 0, 1), (13, .iload 4, 2), (15, .iconst 2, 1), (16, .iadd, 1), (17, .iaload, 1), (18, .aload_n 0, 1), (19, .iload 4, 2), (21, .iconst 3, 1), (22, .iadd, 1), (23, .iaload, 1), (24, .invokevirtual 62, 3), (27, .pop, 1), (28, .goto 1260, 3), (31, .aload_n 1, 1), (32, .aload_n 0, 1), (33, .iload 4, 2), (35, .iconst 1, 1), (36, .iadd, 1), (37, .iaload, 1), (38, .aload_n 0, 1), (39, .iload 4, 2), (41, .iconst 2, 1), (42, .iadd, 1), (43, .iaload, 1), (44, .aload_n 0, 1), (45, .iload 4, 2), (47, .iconst 3, 1), (48, .iadd, 1), (49, .iaload, 1), (50, .aload_n 0, 1), (51, .iload 4, 2), (53, .iconst 4, 1), (54, .iadd, 1), (55, .iaload, 1)]
theorem dvL_law_603 : ds_V cL_law (.mk (List.toArray dBL_law_603)) 603 := ds_at cL_law 603 dBL_law_603 (by decide +kernel)
theorem dhL_law_603 : ds_all (.mk (List.toArray dBL_law_603)) dRL_law_603 = true := by decide +kernel
theorem dL_law_603 : decode cL_law 603 = .ok (.iaload, 1) := ds_row dvL_law_603 dhL_law_603 0 (q := 0) rfl
theorem dL_law_604 : decode cL_law 604 = .ok (.invokevirtual 59, 3) := ds_row dvL_law_603 dhL_law_603 1 (q := 1) rfl
theorem dL_law_607 : decode cL_law 607 = .ok (.pop, 1) := ds_row dvL_law_603 dhL_law_603 2 (q := 4) rfl
theorem dL_law_608 : decode cL_law 608 = .ok (.aload_n 2, 1) := ds_row dvL_law_603 dhL_law_603 3 (q := 5) rfl
theorem dL_law_609 : decode cL_law 609 = .ok (.aload_n 0, 1) := ds_row dvL_law_603 dhL_law_603 4 (q := 6) rfl
theorem dL_law_610 : decode cL_law 610 = .ok (.iload 4, 2) := ds_row dvL_law_603 dhL_law_603 5 (q := 7) rfl
theorem dL_law_612 : decode cL_law 612 = .ok (.iconst 1, 1) := ds_row dvL_law_603 dhL_law_603 6 (q := 9) rfl
theorem dL_law_613 : decode cL_law 613 = .ok (.iadd, 1) := ds_row dvL_law_603 dhL_law_603 7 (q := 10) rfl
theorem dL_law_614 : decode cL_law 614 = .ok (.iaload, 1) := ds_row dvL_law_603 dhL_law_603 8 (q := 11) rfl
theorem dL_law_615 : decode cL_law 615 = .ok (.aload_n 0, 1) := ds_row dvL_law_603 dhL_law_603 9 (q := 12) rfl
theorem dL_law_616 : decode cL_law 616 = .ok (.iload 4, 2) := ds_row dvL_law_603 dhL_law_603 10 (q := 13) rfl
theorem dL_law_618 : decode cL_law 618 = .ok (.iconst 2, 1) := ds_row dvL_law_603 dhL_law_603 11 (q := 15) rfl
theorem dL_law_619 : decode cL_law 619 = .ok (.iadd, 1) := ds_row dvL_law_603 dhL_law_603 12 (q := 16) rfl
theorem dL_law_620 : decode cL_law 620 = .ok (.iaload, 1) := ds_row dvL_law_603 dhL_law_603 13 (q := 17) rfl
theorem dL_law_621 : decode cL_law 621 = .ok (.aload_n 0, 1) := ds_row dvL_law_603 dhL_law_603 14 (q := 18) rfl
theorem dL_law_622 : decode cL_law 622 = .ok (.iload 4, 2) := ds_row dvL_law_603 dhL_law_603 15 (q := 19) rfl
theorem dL_law_624 : decode cL_law 624 = .ok (.iconst 3, 1) := ds_row dvL_law_603 dhL_law_603 16 (q := 21) rfl
theorem dL_law_625 : decode cL_law 625 = .ok (.iadd, 1) := ds_row dvL_law_603 dhL_law_603 17 (q := 22) rfl
theorem dL_law_626 : decode cL_law 626 = .ok (.iaload, 1) := ds_row dvL_law_603 dhL_law_603 18 (q := 23) rfl
theorem dL_law_627 : decode cL_law 627 = .ok (.invokevirtual 62, 3) := ds_row dvL_law_603 dhL_law_603 19 (q := 24) rfl
theorem dL_law_630 : decode cL_law 630 = .ok (.pop, 1) := ds_row dvL_law_603 dhL_law_603 20 (q := 27) rfl
theorem dL_law_631 : decode cL_law 631 = .ok (.goto 1260, 3) := ds_row dvL_law_603 dhL_law_603 21 (q := 28) rfl
theorem dL_law_634 : decode cL_law 634 = .ok (.aload_n 1, 1) := ds_row dvL_law_603 dhL_law_603 22 (q := 31) rfl
theorem dL_law_635 : decode cL_law 635 = .ok (.aload_n 0, 1) := ds_row dvL_law_603 dhL_law_603 23 (q := 32) rfl
theorem dL_law_636 : decode cL_law 636 = .ok (.iload 4, 2) := ds_row dvL_law_603 dhL_law_603 24 (q := 33) rfl
theorem dL_law_638 : decode cL_law 638 = .ok (.iconst 1, 1) := ds_row dvL_law_603 dhL_law_603 25 (q := 35) rfl
theorem dL_law_639 : decode cL_law 639 = .ok (.iadd, 1) := ds_row dvL_law_603 dhL_law_603 26 (q := 36) rfl
theorem dL_law_640 : decode cL_law 640 = .ok (.iaload, 1) := ds_row dvL_law_603 dhL_law_603 27 (q := 37) rfl
theorem dL_law_641 : decode cL_law 641 = .ok (.aload_n 0, 1) := ds_row dvL_law_603 dhL_law_603 28 (q := 38) rfl
theorem dL_law_642 : decode cL_law 642 = .ok (.iload 4, 2) := ds_row dvL_law_603 dhL_law_603 29 (q := 39) rfl
theorem dL_law_644 : decode cL_law 644 = .ok (.iconst 2, 1) := ds_row dvL_law_603 dhL_law_603 30 (q := 41) rfl
theorem dL_law_645 : decode cL_law 645 = .ok (.iadd, 1) := ds_row dvL_law_603 dhL_law_603 31 (q := 42) rfl
theorem dL_law_646 : decode cL_law 646 = .ok (.iaload, 1) := ds_row dvL_law_603 dhL_law_603 32 (q := 43) rfl
theorem dL_law_647 : decode cL_law 647 = .ok (.aload_n 0, 1) := ds_row dvL_law_603 dhL_law_603 33 (q := 44) rfl
theorem dL_law_648 : decode cL_law 648 = .ok (.iload 4, 2) := ds_row dvL_law_603 dhL_law_603 34 (q := 45) rfl
theorem dL_law_650 : decode cL_law 650 = .ok (.iconst 3, 1) := ds_row dvL_law_603 dhL_law_603 35 (q := 47) rfl
theorem dL_law_651 : decode cL_law 651 = .ok (.iadd, 1) := ds_row dvL_law_603 dhL_law_603 36 (q := 48) rfl
theorem dL_law_652 : decode cL_law 652 = .ok (.iaload, 1) := ds_row dvL_law_603 dhL_law_603 37 (q := 49) rfl
theorem dL_law_653 : decode cL_law 653 = .ok (.aload_n 0, 1) := ds_row dvL_law_603 dhL_law_603 38 (q := 50) rfl
theorem dL_law_654 : decode cL_law 654 = .ok (.iload 4, 2) := ds_row dvL_law_603 dhL_law_603 39 (q := 51) rfl
theorem dL_law_656 : decode cL_law 656 = .ok (.iconst 4, 1) := ds_row dvL_law_603 dhL_law_603 40 (q := 53) rfl
theorem dL_law_657 : decode cL_law 657 = .ok (.iadd, 1) := ds_row dvL_law_603 dhL_law_603 41 (q := 54) rfl
theorem dL_law_658 : decode cL_law 658 = .ok (.iaload, 1) := ds_row dvL_law_603 dhL_law_603 42 (q := 55) rfl
abbrev dBL_law_659 : List UInt8 := [182, 0, 63, 87, 44, 42, 21, 4, 4, 96, 46, 42, 21, 4, 5, 96, 46, 42, 21, 4, 6, 96, 46, 42, 21, 4, 7, 96, 46, 182, 0, 66, 87, 167, 4, 175, 43, 42, 21, 4, 4, 96, 46, 42, 21, 4, 5, 96, 46, 42, 21, 4, 6, 96, 46, 42]
abbrev dRL_law_659 : List (Nat × Jvm.ClassFile.Instr × Nat) := [(0, .invokevirtual 63, 3), (3, .pop, 1), (4, .aload_n 2, 1), (5, .aload_n 0, 1), (6, .iload 4, 2), (8, .iconst 1, 1), (9, .iadd, 1), (10, .iaload, 1), (11, .aload_n 0, 1), (12, .iload 4, 2), (14, .iconst 2, 1), (15, .iadd, 1), (16, .iaload, 1), (17, .aload_n 0, 1), (18, .iload 4, 2), (20, .iconst 3, 1), (21, .iadd, 1), (22, .iaload, 1), (23, .aload_n 0, 1), (24, .iload 4, 2), (26, .iconst 4, 1), (27, .iadd, 1), (28, .iaload, 1), (29, .invokevirtual 66, 3), (32, .pop, 1), (33, .goto 1199, 3), (36, .aload_n 1, 1), (37, .aload_n 0, 1), (38, .iload 4, 2), (40, .iconst 1, 1), (41, .iadd, 1), (42, .iaload, 1), (43, .aload_n 0, 1), (44, .iload 4, 2), (46, .iconst 2, 1), (47, .iadd, 1), (48, .iaload, 1), (49, .aload_n 0, 1), (50, .iload 4, 2), (52, .iconst 3, 1), (53, .iadd, 1), (54, .iaload, 1), (55, .aload_n 0, 1)]
theorem dvL_law_659 : ds_V cL_law (.mk (List.toArray dBL_law_659)) 659 := ds_at cL_law 659 dBL_law_659 (by decide +kernel)
theorem dhL_law_659 : ds_all (.mk (List.toArray dBL_law_659)) dRL_law_659 = true := by decide +kernel
theorem dL_law_659 : decode cL_law 659 = .ok (.invokevirtual 63, 3) := ds_row dvL_law_659 dhL_law_659 0 (q := 0) rfl
theorem dL_law_662 : decode cL_law 662 = .ok (.pop, 1) := ds_row dvL_law_659 dhL_law_659 1 (q := 3) rfl
theorem dL_law_663 : decode cL_law 663 = .ok (.aload_n 2, 1) := ds_row dvL_law_659 dhL_law_659 2 (q := 4) rfl
theorem dL_law_664 : decode cL_law 664 = .ok (.aload_n 0, 1) := ds_row dvL_law_659 dhL_law_659 3 (q := 5) rfl
theorem dL_law_665 : decode cL_law 665 = .ok (.iload 4, 2) := ds_row dvL_law_659 dhL_law_659 4 (q := 6) rfl
theorem dL_law_667 : decode cL_law 667 = .ok (.iconst 1, 1) := ds_row dvL_law_659 dhL_law_659 5 (q := 8) rfl
theorem dL_law_668 : decode cL_law 668 = .ok (.iadd, 1) := ds_row dvL_law_659 dhL_law_659 6 (q := 9) rfl
theorem dL_law_669 : decode cL_law 669 = .ok (.iaload, 1) := ds_row dvL_law_659 dhL_law_659 7 (q := 10) rfl
theorem dL_law_670 : decode cL_law 670 = .ok (.aload_n 0, 1) := ds_row dvL_law_659 dhL_law_659 8 (q := 11) rfl
theorem dL_law_671 : decode cL_law 671 = .ok (.iload 4, 2) := ds_row dvL_law_659 dhL_law_659 9 (q := 12) rfl
theorem dL_law_673 : decode cL_law 673 = .ok (.iconst 2, 1) := ds_row dvL_law_659 dhL_law_659 10 (q := 14) rfl
theorem dL_law_674 : decode cL_law 674 = .ok (.iadd, 1) := ds_row dvL_law_659 dhL_law_659 11 (q := 15) rfl
theorem dL_law_675 : decode cL_law 675 = .ok (.iaload, 1) := ds_row dvL_law_659 dhL_law_659 12 (q := 16) rfl
theorem dL_law_676 : decode cL_law 676 = .ok (.aload_n 0, 1) := ds_row dvL_law_659 dhL_law_659 13 (q := 17) rfl
theorem dL_law_677 : decode cL_law 677 = .ok (.iload 4, 2) := ds_row dvL_law_659 dhL_law_659 14 (q := 18) rfl
theorem dL_law_679 : decode cL_law 679 = .ok (.iconst 3, 1) := ds_row dvL_law_659 dhL_law_659 15 (q := 20) rfl
theorem dL_law_680 : decode cL_law 680 = .ok (.iadd, 1) := ds_row dvL_law_659 dhL_law_659 16 (q := 21) rfl
theorem dL_law_681 : decode cL_law 681 = .ok (.iaload, 1) := ds_row dvL_law_659 dhL_law_659 17 (q := 22) rfl
theorem dL_law_682 : decode cL_law 682 = .ok (.aload_n 0, 1) := ds_row dvL_law_659 dhL_law_659 18 (q := 23) rfl
theorem dL_law_683 : decode cL_law 683 = .ok (.iload 4, 2) := ds_row dvL_law_659 dhL_law_659 19 (q := 24) rfl
theorem dL_law_685 : decode cL_law 685 = .ok (.iconst 4, 1) := ds_row dvL_law_659 dhL_law_659 20 (q := 26) rfl
theorem dL_law_686 : decode cL_law 686 = .ok (.iadd, 1) := ds_row dvL_law_659 dhL_law_659 21 (q := 27) rfl
theorem dL_law_687 : decode cL_law 687 = .ok (.iaload, 1) := ds_row dvL_law_659 dhL_law_659 22 (q := 28) rfl
theorem dL_law_688 : decode cL_law 688 = .ok (.invokevirtual 66, 3) := ds_row dvL_law_659 dhL_law_659 23 (q := 29) rfl
theorem dL_law_691 : decode cL_law 691 = .ok (.pop, 1) := ds_row dvL_law_659 dhL_law_659 24 (q := 32) rfl
theorem dL_law_692 : decode cL_law 692 = .ok (.goto 1199, 3) := ds_row dvL_law_659 dhL_law_659 25 (q := 33) rfl
theorem dL_law_695 : decode cL_law 695 = .ok (.aload_n 1, 1) := ds_row dvL_law_659 dhL_law_659 26 (q := 36) rfl
theorem dL_law_696 : decode cL_law 696 = .ok (.aload_n 0, 1) := ds_row dvL_law_659 dhL_law_659 27 (q := 37) rfl
theorem dL_law_697 : decode cL_law 697 = .ok (.iload 4, 2) := ds_row dvL_law_659 dhL_law_659 28 (q := 38) rfl
theorem dL_law_699 : decode cL_law 699 = .ok (.iconst 1, 1) := ds_row dvL_law_659 dhL_law_659 29 (q := 40) rfl
theorem dL_law_700 : decode cL_law 700 = .ok (.iadd, 1) := ds_row dvL_law_659 dhL_law_659 30 (q := 41) rfl
theorem dL_law_701 : decode cL_law 701 = .ok (.iaload, 1) := ds_row dvL_law_659 dhL_law_659 31 (q := 42) rfl
theorem dL_law_702 : decode cL_law 702 = .ok (.aload_n 0, 1) := ds_row dvL_law_659 dhL_law_659 32 (q := 43) rfl
theorem dL_law_703 : decode cL_law 703 = .ok (.iload 4, 2) := ds_row dvL_law_659 dhL_law_659 33 (q := 44) rfl
theorem dL_law_705 : decode cL_law 705 = .ok (.iconst 2, 1) := ds_row dvL_law_659 dhL_law_659 34 (q := 46) rfl
theorem dL_law_706 : decode cL_law 706 = .ok (.iadd, 1) := ds_row dvL_law_659 dhL_law_659 35 (q := 47) rfl
theorem dL_law_707 : decode cL_law 707 = .ok (.iaload, 1) := ds_row dvL_law_659 dhL_law_659 36 (q := 48) rfl
theorem dL_law_708 : decode cL_law 708 = .ok (.aload_n 0, 1) := ds_row dvL_law_659 dhL_law_659 37 (q := 49) rfl
theorem dL_law_709 : decode cL_law 709 = .ok (.iload 4, 2) := ds_row dvL_law_659 dhL_law_659 38 (q := 50) rfl
theorem dL_law_711 : decode cL_law 711 = .ok (.iconst 3, 1) := ds_row dvL_law_659 dhL_law_659 39 (q := 52) rfl
theorem dL_law_712 : decode cL_law 712 = .ok (.iadd, 1) := ds_row dvL_law_659 dhL_law_659 40 (q := 53) rfl
theorem dL_law_713 : decode cL_law 713 = .ok (.iaload, 1) := ds_row dvL_law_659 dhL_law_659 41 (q := 54) rfl
theorem dL_law_714 : decode cL_law 714 = .ok (.aload_n 0, 1) := ds_row dvL_law_659 dhL_law_659 42 (q := 55) rfl
abbrev dBL_law_715 : List UInt8 := [21, 4, 7, 96, 46, 182, 0, 67, 87, 44, 42, 21, 4, 4, 96, 46, 42, 21, 4, 5, 96, 46, 42, 21, 4, 6, 96, 46, 42, 21, 4, 7, 96, 46, 182, 0, 70, 87, 167, 4, 114, 43, 42, 21, 4, 4, 96, 46, 42, 21, 4, 5, 96, 46]
abbrev dRL_law_715 : List (Nat × Jvm.ClassFile.Instr × Nat) := [(0, .iload 4, 2), (2, .iconst 4, 1), (3, .iadd, 1), (4, .iaload, 1), (5, .invokevirtual 67, 3), (8, .pop, 1), (9, .aload_n 2, 1), (10, .aload_n 0, 1), (11, .iload 4, 2), (13, .iconst 1, 1), (14, .iadd, 1), (15, .iaload, 1), (16, .aload_n 0, 1), (17, .iload 4, 2), (19, .iconst 2, 1), (20, .iadd, 1), (21, .iaload, 1), (22, .aload_n 0, 1), (23, .iload 4, 2), (25, .iconst 3, 1), (26, .iadd, 1), (27, .iaload, 1), (28, .aload_n 0, 1), (29, .iload 4, 2), (31, .iconst 4, 1), (32, .iadd, 1), (33, .iaload, 1), (34, .invokevirtual 70, 3), (37, .pop, 1), (38, .goto 1138, 3), (41, .aload_n 1, 1), (42, .aload_n 0, 1), (43, .iload 4, 2), (45, .iconst 1, 1), (46, .iadd, 1), (47, .iaload, 1), (48, .aload_n 0, 1), (49, .iload 4, 2), (51, .iconst 2, 1), (52, .iadd, 1), (53, .iaload, 1)]
theorem dvL_law_715 : ds_V cL_law (.mk (List.toArray dBL_law_715)) 715 := ds_at cL_law 715 dBL_law_715 (by decide +kernel)
theorem dhL_law_715 : ds_all (.mk (List.toArray dBL_law_715)) dRL_law_715 = true := by decide +kernel
theorem dL_law_715 : decode cL_law 715 = .ok (.iload 4, 2) := ds_row dvL_law_715 dhL_law_715 0 (q := 0) rfl
theorem dL_law_717 : decode cL_law 717 = .ok (.iconst 4, 1) := ds_row dvL_law_715 dhL_law_715 1 (q := 2) rfl
theorem dL_law_718 : decode cL_law 718 = .ok (.iadd, 1) := ds_row dvL_law_715 dhL_law_715 2 (q := 3) rfl
theorem dL_law_719 : decode cL_law 719 = .ok (.iaload, 1) := ds_row dvL_law_715 dhL_law_715 3 (q := 4) rfl
theorem dL_law_720 : decode cL_law 720 = .ok (.invokevirtual 67, 3) := ds_row dvL_law_715 dhL_law_715 4 (q := 5) rfl
theorem dL_law_723 : decode cL_law 723 = .ok (.pop, 1) := ds_row dvL_law_715 dhL_law_715 5 (q := 8) rfl
theorem dL_law_724 : decode cL_law 724 = .ok (.aload_n 2, 1) := ds_row dvL_law_715 dhL_law_715 6 (q := 9) rfl
theorem dL_law_725 : decode cL_law 725 = .ok (.aload_n 0, 1) := ds_row dvL_law_715 dhL_law_715 7 (q := 10) rfl
theorem dL_law_726 : decode cL_law 726 = .ok (.iload 4, 2) := ds_row dvL_law_715 dhL_law_715 8 (q := 11) rfl
theorem dL_law_728 : decode cL_law 728 = .ok (.iconst 1, 1) := ds_row dvL_law_715 dhL_law_715 9 (q := 13) rfl
theorem dL_law_729 : decode cL_law 729 = .ok (.iadd, 1) := ds_row dvL_law_715 dhL_law_715 10 (q := 14) rfl
theorem dL_law_730 : decode cL_law 730 = .ok (.iaload, 1) := ds_row dvL_law_715 dhL_law_715 11 (q := 15) rfl
theorem dL_law_731 : decode cL_law 731 = .ok (.aload_n 0, 1) := ds_row dvL_law_715 dhL_law_715 12 (q := 16) rfl
theorem dL_law_732 : decode cL_law 732 = .ok (.iload 4, 2) := ds_row dvL_law_715 dhL_law_715 13 (q := 17) rfl
theorem dL_law_734 : decode cL_law 734 = .ok (.iconst 2, 1) := ds_row dvL_law_715 dhL_law_715 14 (q := 19) rfl
theorem dL_law_735 : decode cL_law 735 = .ok (.iadd, 1) := ds_row dvL_law_715 dhL_law_715 15 (q := 20) rfl
theorem dL_law_736 : decode cL_law 736 = .ok (.iaload, 1) := ds_row dvL_law_715 dhL_law_715 16 (q := 21) rfl
theorem dL_law_737 : decode cL_law 737 = .ok (.aload_n 0, 1) := ds_row dvL_law_715 dhL_law_715 17 (q := 22) rfl
theorem dL_law_738 : decode cL_law 738 = .ok (.iload 4, 2) := ds_row dvL_law_715 dhL_law_715 18 (q := 23) rfl
theorem dL_law_740 : decode cL_law 740 = .ok (.iconst 3, 1) := ds_row dvL_law_715 dhL_law_715 19 (q := 25) rfl
theorem dL_law_741 : decode cL_law 741 = .ok (.iadd, 1) := ds_row dvL_law_715 dhL_law_715 20 (q := 26) rfl
theorem dL_law_742 : decode cL_law 742 = .ok (.iaload, 1) := ds_row dvL_law_715 dhL_law_715 21 (q := 27) rfl
theorem dL_law_743 : decode cL_law 743 = .ok (.aload_n 0, 1) := ds_row dvL_law_715 dhL_law_715 22 (q := 28) rfl
theorem dL_law_744 : decode cL_law 744 = .ok (.iload 4, 2) := ds_row dvL_law_715 dhL_law_715 23 (q := 29) rfl
theorem dL_law_746 : decode cL_law 746 = .ok (.iconst 4, 1) := ds_row dvL_law_715 dhL_law_715 24 (q := 31) rfl
theorem dL_law_747 : decode cL_law 747 = .ok (.iadd, 1) := ds_row dvL_law_715 dhL_law_715 25 (q := 32) rfl
theorem dL_law_748 : decode cL_law 748 = .ok (.iaload, 1) := ds_row dvL_law_715 dhL_law_715 26 (q := 33) rfl
theorem dL_law_749 : decode cL_law 749 = .ok (.invokevirtual 70, 3) := ds_row dvL_law_715 dhL_law_715 27 (q := 34) rfl
theorem dL_law_752 : decode cL_law 752 = .ok (.pop, 1) := ds_row dvL_law_715 dhL_law_715 28 (q := 37) rfl
theorem dL_law_753 : decode cL_law 753 = .ok (.goto 1138, 3) := ds_row dvL_law_715 dhL_law_715 29 (q := 38) rfl
theorem dL_law_756 : decode cL_law 756 = .ok (.aload_n 1, 1) := ds_row dvL_law_715 dhL_law_715 30 (q := 41) rfl
theorem dL_law_757 : decode cL_law 757 = .ok (.aload_n 0, 1) := ds_row dvL_law_715 dhL_law_715 31 (q := 42) rfl
theorem dL_law_758 : decode cL_law 758 = .ok (.iload 4, 2) := ds_row dvL_law_715 dhL_law_715 32 (q := 43) rfl
theorem dL_law_760 : decode cL_law 760 = .ok (.iconst 1, 1) := ds_row dvL_law_715 dhL_law_715 33 (q := 45) rfl
theorem dL_law_761 : decode cL_law 761 = .ok (.iadd, 1) := ds_row dvL_law_715 dhL_law_715 34 (q := 46) rfl
theorem dL_law_762 : decode cL_law 762 = .ok (.iaload, 1) := ds_row dvL_law_715 dhL_law_715 35 (q := 47) rfl
theorem dL_law_763 : decode cL_law 763 = .ok (.aload_n 0, 1) := ds_row dvL_law_715 dhL_law_715 36 (q := 48) rfl
theorem dL_law_764 : decode cL_law 764 = .ok (.iload 4, 2) := ds_row dvL_law_715 dhL_law_715 37 (q := 49) rfl
theorem dL_law_766 : decode cL_law 766 = .ok (.iconst 2, 1) := ds_row dvL_law_715 dhL_law_715 38 (q := 51) rfl
theorem dL_law_767 : decode cL_law 767 = .ok (.iadd, 1) := ds_row dvL_law_715 dhL_law_715 39 (q := 52) rfl
theorem dL_law_768 : decode cL_law 768 = .ok (.iaload, 1) := ds_row dvL_law_715 dhL_law_715 40 (q := 53) rfl
abbrev dBL_law_769 : List UInt8 := [182, 0, 71, 87, 44, 42, 21, 4, 4, 96, 46, 42, 21, 4, 5, 96, 46, 182, 0, 74, 87, 167, 4, 77, 43, 42, 21, 4, 4, 96, 46, 182, 0, 75, 87, 44, 42, 21, 4, 4, 96, 46, 182, 0, 78, 87, 167, 4, 52, 43, 42, 21, 4, 4, 96, 46]
abbrev dRL_law_769 : List (Nat × Jvm.ClassFile.Instr × Nat) := [(0, .invokevirtual 71, 3), (3, .pop, 1), (4, .aload_n 2, 1), (5, .aload_n 0, 1), (6, .iload 4, 2), (8, .iconst 1, 1), (9, .iadd, 1), (10, .iaload, 1), (11, .aload_n 0, 1), (12, .iload 4, 2), (14, .iconst 2, 1), (15, .iadd, 1), (16, .iaload, 1), (17, .invokevirtual 74, 3), (20, .pop, 1), (21, .goto 1101, 3), (24, .aload_n 1, 1), (25, .aload_n 0, 1), (26, .iload 4, 2), (28, .iconst 1, 1), (29, .iadd, 1), (30, .iaload, 1), (31, .invokevirtual 75, 3), (34, .pop, 1), (35, .aload_n 2, 1), (36, .aload_n 0, 1), (37, .iload 4, 2), (39, .iconst 1, 1), (40, .iadd, 1), (41, .iaload, 1), (42, .invokevirtual 78, 3), (45, .pop, 1), (46, .goto 1076, 3), (49, .aload_n 1, 1), (50, .aload_n 0, 1), (51, .iload 4, 2), (53, .iconst 1, 1), (54, .iadd, 1), (55, .iaload, 1)]
theorem dvL_law_769 : ds_V cL_law (.mk (List.toArray dBL_law_769)) 769 := ds_at cL_law 769 dBL_law_769 (by decide +kernel)
theorem dhL_law_769 : ds_all (.mk (List.toArray dBL_law_769)) dRL_law_769 = true := by decide +kernel
theorem dL_law_769 : decode cL_law 769 = .ok (.invokevirtual 71, 3) := ds_row dvL_law_769 dhL_law_769 0 (q := 0) rfl
theorem dL_law_772 : decode cL_law 772 = .ok (.pop, 1) := ds_row dvL_law_769 dhL_law_769 1 (q := 3) rfl
theorem dL_law_773 : decode cL_law 773 = .ok (.aload_n 2, 1) := ds_row dvL_law_769 dhL_law_769 2 (q := 4) rfl
theorem dL_law_774 : decode cL_law 774 = .ok (.aload_n 0, 1) := ds_row dvL_law_769 dhL_law_769 3 (q := 5) rfl
theorem dL_law_775 : decode cL_law 775 = .ok (.iload 4, 2) := ds_row dvL_law_769 dhL_law_769 4 (q := 6) rfl
theorem dL_law_777 : decode cL_law 777 = .ok (.iconst 1, 1) := ds_row dvL_law_769 dhL_law_769 5 (q := 8) rfl
theorem dL_law_778 : decode cL_law 778 = .ok (.iadd, 1) := ds_row dvL_law_769 dhL_law_769 6 (q := 9) rfl
theorem dL_law_779 : decode cL_law 779 = .ok (.iaload, 1) := ds_row dvL_law_769 dhL_law_769 7 (q := 10) rfl
theorem dL_law_780 : decode cL_law 780 = .ok (.aload_n 0, 1) := ds_row dvL_law_769 dhL_law_769 8 (q := 11) rfl
theorem dL_law_781 : decode cL_law 781 = .ok (.iload 4, 2) := ds_row dvL_law_769 dhL_law_769 9 (q := 12) rfl
theorem dL_law_783 : decode cL_law 783 = .ok (.iconst 2, 1) := ds_row dvL_law_769 dhL_law_769 10 (q := 14) rfl
theorem dL_law_784 : decode cL_law 784 = .ok (.iadd, 1) := ds_row dvL_law_769 dhL_law_769 11 (q := 15) rfl
theorem dL_law_785 : decode cL_law 785 = .ok (.iaload, 1) := ds_row dvL_law_769 dhL_law_769 12 (q := 16) rfl
theorem dL_law_786 : decode cL_law 786 = .ok (.invokevirtual 74, 3) := ds_row dvL_law_769 dhL_law_769 13 (q := 17) rfl
theorem dL_law_789 : decode cL_law 789 = .ok (.pop, 1) := ds_row dvL_law_769 dhL_law_769 14 (q := 20) rfl
theorem dL_law_790 : decode cL_law 790 = .ok (.goto 1101, 3) := ds_row dvL_law_769 dhL_law_769 15 (q := 21) rfl
theorem dL_law_793 : decode cL_law 793 = .ok (.aload_n 1, 1) := ds_row dvL_law_769 dhL_law_769 16 (q := 24) rfl
theorem dL_law_794 : decode cL_law 794 = .ok (.aload_n 0, 1) := ds_row dvL_law_769 dhL_law_769 17 (q := 25) rfl
theorem dL_law_795 : decode cL_law 795 = .ok (.iload 4, 2) := ds_row dvL_law_769 dhL_law_769 18 (q := 26) rfl
theorem dL_law_797 : decode cL_law 797 = .ok (.iconst 1, 1) := ds_row dvL_law_769 dhL_law_769 19 (q := 28) rfl
theorem dL_law_798 : decode cL_law 798 = .ok (.iadd, 1) := ds_row dvL_law_769 dhL_law_769 20 (q := 29) rfl
theorem dL_law_799 : decode cL_law 799 = .ok (.iaload, 1) := ds_row dvL_law_769 dhL_law_769 21 (q := 30) rfl
theorem dL_law_800 : decode cL_law 800 = .ok (.invokevirtual 75, 3) := ds_row dvL_law_769 dhL_law_769 22 (q := 31) rfl
theorem dL_law_803 : decode cL_law 803 = .ok (.pop, 1) := ds_row dvL_law_769 dhL_law_769 23 (q := 34) rfl
theorem dL_law_804 : decode cL_law 804 = .ok (.aload_n 2, 1) := ds_row dvL_law_769 dhL_law_769 24 (q := 35) rfl
theorem dL_law_805 : decode cL_law 805 = .ok (.aload_n 0, 1) := ds_row dvL_law_769 dhL_law_769 25 (q := 36) rfl
theorem dL_law_806 : decode cL_law 806 = .ok (.iload 4, 2) := ds_row dvL_law_769 dhL_law_769 26 (q := 37) rfl
theorem dL_law_808 : decode cL_law 808 = .ok (.iconst 1, 1) := ds_row dvL_law_769 dhL_law_769 27 (q := 39) rfl
theorem dL_law_809 : decode cL_law 809 = .ok (.iadd, 1) := ds_row dvL_law_769 dhL_law_769 28 (q := 40) rfl
theorem dL_law_810 : decode cL_law 810 = .ok (.iaload, 1) := ds_row dvL_law_769 dhL_law_769 29 (q := 41) rfl
theorem dL_law_811 : decode cL_law 811 = .ok (.invokevirtual 78, 3) := ds_row dvL_law_769 dhL_law_769 30 (q := 42) rfl
theorem dL_law_814 : decode cL_law 814 = .ok (.pop, 1) := ds_row dvL_law_769 dhL_law_769 31 (q := 45) rfl
theorem dL_law_815 : decode cL_law 815 = .ok (.goto 1076, 3) := ds_row dvL_law_769 dhL_law_769 32 (q := 46) rfl
theorem dL_law_818 : decode cL_law 818 = .ok (.aload_n 1, 1) := ds_row dvL_law_769 dhL_law_769 33 (q := 49) rfl
theorem dL_law_819 : decode cL_law 819 = .ok (.aload_n 0, 1) := ds_row dvL_law_769 dhL_law_769 34 (q := 50) rfl
theorem dL_law_820 : decode cL_law 820 = .ok (.iload 4, 2) := ds_row dvL_law_769 dhL_law_769 35 (q := 51) rfl
theorem dL_law_822 : decode cL_law 822 = .ok (.iconst 1, 1) := ds_row dvL_law_769 dhL_law_769 36 (q := 53) rfl
theorem dL_law_823 : decode cL_law 823 = .ok (.iadd, 1) := ds_row dvL_law_769 dhL_law_769 37 (q := 54) rfl
theorem dL_law_824 : decode cL_law 824 = .ok (.iaload, 1) := ds_row dvL_law_769 dhL_law_769 38 (q := 55) rfl
abbrev dBL_law_825 : List UInt8 := [182, 0, 79, 87, 44, 42, 21, 4, 4, 96, 46, 182, 0, 83, 87, 167, 4, 27, 43, 42, 21, 4, 4, 96, 46, 182, 0, 84, 44, 42, 21, 4, 4, 96, 46, 182, 0, 87, 159, 4, 4, 3, 172, 43, 42, 21, 4, 4, 96, 46, 42, 21, 4, 5, 96, 46]
abbrev dRL_law_825 : List (Nat × Jvm.ClassFile.Instr × Nat) := [(0, .invokevirtual 79, 3), (3, .pop, 1), (4, .aload_n 2, 1), (5, .aload_n 0, 1), (6, .iload 4, 2), (8, .iconst 1, 1), (9, .iadd, 1), (10, .iaload, 1), (11, .invokevirtual 83, 3), (14, .pop, 1), (15, .goto 1051, 3), (18, .aload_n 1, 1), (19, .aload_n 0, 1), (20, .iload 4, 2), (22, .iconst 1, 1), (23, .iadd, 1), (24, .iaload, 1), (25, .invokevirtual 84, 3), (28, .aload_n 2, 1), (29, .aload_n 0, 1), (30, .iload 4, 2), (32, .iconst 1, 1), (33, .iadd, 1), (34, .iaload, 1), (35, .invokevirtual 87, 3), (38, .if_icmp .eq 1028, 3), (41, .iconst 0, 1), (42, .ireturn, 1), (43, .aload_n 1, 1), (44, .aload_n 0, 1), (45, .iload 4, 2), (47, .iconst 1, 1), (48, .iadd, 1), (49, .iaload, 1), (50, .aload_n 0, 1), (51, .iload 4, 2), (53, .iconst 2, 1), (54, .iadd, 1), (55, .iaload, 1)]
theorem dvL_law_825 : ds_V cL_law (.mk (List.toArray dBL_law_825)) 825 := ds_at cL_law 825 dBL_law_825 (by decide +kernel)
theorem dhL_law_825 : ds_all (.mk (List.toArray dBL_law_825)) dRL_law_825 = true := by decide +kernel
theorem dL_law_825 : decode cL_law 825 = .ok (.invokevirtual 79, 3) := ds_row dvL_law_825 dhL_law_825 0 (q := 0) rfl
theorem dL_law_828 : decode cL_law 828 = .ok (.pop, 1) := ds_row dvL_law_825 dhL_law_825 1 (q := 3) rfl
theorem dL_law_829 : decode cL_law 829 = .ok (.aload_n 2, 1) := ds_row dvL_law_825 dhL_law_825 2 (q := 4) rfl
theorem dL_law_830 : decode cL_law 830 = .ok (.aload_n 0, 1) := ds_row dvL_law_825 dhL_law_825 3 (q := 5) rfl
theorem dL_law_831 : decode cL_law 831 = .ok (.iload 4, 2) := ds_row dvL_law_825 dhL_law_825 4 (q := 6) rfl
theorem dL_law_833 : decode cL_law 833 = .ok (.iconst 1, 1) := ds_row dvL_law_825 dhL_law_825 5 (q := 8) rfl
theorem dL_law_834 : decode cL_law 834 = .ok (.iadd, 1) := ds_row dvL_law_825 dhL_law_825 6 (q := 9) rfl
theorem dL_law_835 : decode cL_law 835 = .ok (.iaload, 1) := ds_row dvL_law_825 dhL_law_825 7 (q := 10) rfl
theorem dL_law_836 : decode cL_law 836 = .ok (.invokevirtual 83, 3) := ds_row dvL_law_825 dhL_law_825 8 (q := 11) rfl
theorem dL_law_839 : decode cL_law 839 = .ok (.pop, 1) := ds_row dvL_law_825 dhL_law_825 9 (q := 14) rfl
theorem dL_law_840 : decode cL_law 840 = .ok (.goto 1051, 3) := ds_row dvL_law_825 dhL_law_825 10 (q := 15) rfl
theorem dL_law_843 : decode cL_law 843 = .ok (.aload_n 1, 1) := ds_row dvL_law_825 dhL_law_825 11 (q := 18) rfl
theorem dL_law_844 : decode cL_law 844 = .ok (.aload_n 0, 1) := ds_row dvL_law_825 dhL_law_825 12 (q := 19) rfl
theorem dL_law_845 : decode cL_law 845 = .ok (.iload 4, 2) := ds_row dvL_law_825 dhL_law_825 13 (q := 20) rfl
theorem dL_law_847 : decode cL_law 847 = .ok (.iconst 1, 1) := ds_row dvL_law_825 dhL_law_825 14 (q := 22) rfl
theorem dL_law_848 : decode cL_law 848 = .ok (.iadd, 1) := ds_row dvL_law_825 dhL_law_825 15 (q := 23) rfl
theorem dL_law_849 : decode cL_law 849 = .ok (.iaload, 1) := ds_row dvL_law_825 dhL_law_825 16 (q := 24) rfl
theorem dL_law_850 : decode cL_law 850 = .ok (.invokevirtual 84, 3) := ds_row dvL_law_825 dhL_law_825 17 (q := 25) rfl
theorem dL_law_853 : decode cL_law 853 = .ok (.aload_n 2, 1) := ds_row dvL_law_825 dhL_law_825 18 (q := 28) rfl
theorem dL_law_854 : decode cL_law 854 = .ok (.aload_n 0, 1) := ds_row dvL_law_825 dhL_law_825 19 (q := 29) rfl
theorem dL_law_855 : decode cL_law 855 = .ok (.iload 4, 2) := ds_row dvL_law_825 dhL_law_825 20 (q := 30) rfl
theorem dL_law_857 : decode cL_law 857 = .ok (.iconst 1, 1) := ds_row dvL_law_825 dhL_law_825 21 (q := 32) rfl
theorem dL_law_858 : decode cL_law 858 = .ok (.iadd, 1) := ds_row dvL_law_825 dhL_law_825 22 (q := 33) rfl
theorem dL_law_859 : decode cL_law 859 = .ok (.iaload, 1) := ds_row dvL_law_825 dhL_law_825 23 (q := 34) rfl
theorem dL_law_860 : decode cL_law 860 = .ok (.invokevirtual 87, 3) := ds_row dvL_law_825 dhL_law_825 24 (q := 35) rfl
theorem dL_law_863 : decode cL_law 863 = .ok (.if_icmp .eq 1028, 3) := ds_row dvL_law_825 dhL_law_825 25 (q := 38) rfl
theorem dL_law_866 : decode cL_law 866 = .ok (.iconst 0, 1) := ds_row dvL_law_825 dhL_law_825 26 (q := 41) rfl
theorem dL_law_867 : decode cL_law 867 = .ok (.ireturn, 1) := ds_row dvL_law_825 dhL_law_825 27 (q := 42) rfl
theorem dL_law_868 : decode cL_law 868 = .ok (.aload_n 1, 1) := ds_row dvL_law_825 dhL_law_825 28 (q := 43) rfl
theorem dL_law_869 : decode cL_law 869 = .ok (.aload_n 0, 1) := ds_row dvL_law_825 dhL_law_825 29 (q := 44) rfl
theorem dL_law_870 : decode cL_law 870 = .ok (.iload 4, 2) := ds_row dvL_law_825 dhL_law_825 30 (q := 45) rfl
theorem dL_law_872 : decode cL_law 872 = .ok (.iconst 1, 1) := ds_row dvL_law_825 dhL_law_825 31 (q := 47) rfl
theorem dL_law_873 : decode cL_law 873 = .ok (.iadd, 1) := ds_row dvL_law_825 dhL_law_825 32 (q := 48) rfl
theorem dL_law_874 : decode cL_law 874 = .ok (.iaload, 1) := ds_row dvL_law_825 dhL_law_825 33 (q := 49) rfl
theorem dL_law_875 : decode cL_law 875 = .ok (.aload_n 0, 1) := ds_row dvL_law_825 dhL_law_825 34 (q := 50) rfl
theorem dL_law_876 : decode cL_law 876 = .ok (.iload 4, 2) := ds_row dvL_law_825 dhL_law_825 35 (q := 51) rfl
theorem dL_law_878 : decode cL_law 878 = .ok (.iconst 2, 1) := ds_row dvL_law_825 dhL_law_825 36 (q := 53) rfl
theorem dL_law_879 : decode cL_law 879 = .ok (.iadd, 1) := ds_row dvL_law_825 dhL_law_825 37 (q := 54) rfl
theorem dL_law_880 : decode cL_law 880 = .ok (.iaload, 1) := ds_row dvL_law_825 dhL_law_825 38 (q := 55) rfl
abbrev dBL_law_881 : List UInt8 := [45, 184, 0, 88, 54, 5, 44, 42, 21, 4, 4, 96, 46, 42, 21, 4, 5, 96, 46, 182, 0, 93, 54, 6, 167, 3, 218, 43, 42, 21, 4, 4, 96, 46, 42, 21, 4, 5, 96, 46, 42, 21, 4, 6, 96, 46, 182, 0, 94, 87, 44, 42, 21, 4, 4, 96]
abbrev dRL_law_881 : List (Nat × Jvm.ClassFile.Instr × Nat) := [(0, .aload_n 3, 1), (1, .invokestatic 88, 3), (4, .istore 5, 2), (6, .aload_n 2, 1), (7, .aload_n 0, 1), (8, .iload 4, 2), (10, .iconst 1, 1), (11, .iadd, 1), (12, .iaload, 1), (13, .aload_n 0, 1), (14, .iload 4, 2), (16, .iconst 2, 1), (17, .iadd, 1), (18, .iaload, 1), (19, .invokevirtual 93, 3), (22, .istore 6, 2), (24, .goto 986, 3), (27, .aload_n 1, 1), (28, .aload_n 0, 1), (29, .iload 4, 2), (31, .iconst 1, 1), (32, .iadd, 1), (33, .iaload, 1), (34, .aload_n 0, 1), (35, .iload 4, 2), (37, .iconst 2, 1), (38, .iadd, 1), (39, .iaload, 1), (40, .aload_n 0, 1), (41, .iload 4, 2), (43, .iconst 3, 1), (44, .iadd, 1), (45, .iaload, 1), (46, .invokevirtual 94, 3), (49, .pop, 1), (50, .aload_n 2, 1), (51, .aload_n 0, 1), (52, .iload 4, 2), (54, .iconst 1, 1), (55, .iadd, 1)]
theorem dvL_law_881 : ds_V cL_law (.mk (List.toArray dBL_law_881)) 881 := ds_at cL_law 881 dBL_law_881 (by decide +kernel)
theorem dhL_law_881 : ds_all (.mk (List.toArray dBL_law_881)) dRL_law_881 = true := by decide +kernel
theorem dL_law_881 : decode cL_law 881 = .ok (.aload_n 3, 1) := ds_row dvL_law_881 dhL_law_881 0 (q := 0) rfl
theorem dL_law_882 : decode cL_law 882 = .ok (.invokestatic 88, 3) := ds_row dvL_law_881 dhL_law_881 1 (q := 1) rfl
theorem dL_law_885 : decode cL_law 885 = .ok (.istore 5, 2) := ds_row dvL_law_881 dhL_law_881 2 (q := 4) rfl
theorem dL_law_887 : decode cL_law 887 = .ok (.aload_n 2, 1) := ds_row dvL_law_881 dhL_law_881 3 (q := 6) rfl
theorem dL_law_888 : decode cL_law 888 = .ok (.aload_n 0, 1) := ds_row dvL_law_881 dhL_law_881 4 (q := 7) rfl
theorem dL_law_889 : decode cL_law 889 = .ok (.iload 4, 2) := ds_row dvL_law_881 dhL_law_881 5 (q := 8) rfl
theorem dL_law_891 : decode cL_law 891 = .ok (.iconst 1, 1) := ds_row dvL_law_881 dhL_law_881 6 (q := 10) rfl
theorem dL_law_892 : decode cL_law 892 = .ok (.iadd, 1) := ds_row dvL_law_881 dhL_law_881 7 (q := 11) rfl
theorem dL_law_893 : decode cL_law 893 = .ok (.iaload, 1) := ds_row dvL_law_881 dhL_law_881 8 (q := 12) rfl
theorem dL_law_894 : decode cL_law 894 = .ok (.aload_n 0, 1) := ds_row dvL_law_881 dhL_law_881 9 (q := 13) rfl
theorem dL_law_895 : decode cL_law 895 = .ok (.iload 4, 2) := ds_row dvL_law_881 dhL_law_881 10 (q := 14) rfl
theorem dL_law_897 : decode cL_law 897 = .ok (.iconst 2, 1) := ds_row dvL_law_881 dhL_law_881 11 (q := 16) rfl
theorem dL_law_898 : decode cL_law 898 = .ok (.iadd, 1) := ds_row dvL_law_881 dhL_law_881 12 (q := 17) rfl
theorem dL_law_899 : decode cL_law 899 = .ok (.iaload, 1) := ds_row dvL_law_881 dhL_law_881 13 (q := 18) rfl
theorem dL_law_900 : decode cL_law 900 = .ok (.invokevirtual 93, 3) := ds_row dvL_law_881 dhL_law_881 14 (q := 19) rfl
theorem dL_law_903 : decode cL_law 903 = .ok (.istore 6, 2) := ds_row dvL_law_881 dhL_law_881 15 (q := 22) rfl
theorem dL_law_905 : decode cL_law 905 = .ok (.goto 986, 3) := ds_row dvL_law_881 dhL_law_881 16 (q := 24) rfl
theorem dL_law_908 : decode cL_law 908 = .ok (.aload_n 1, 1) := ds_row dvL_law_881 dhL_law_881 17 (q := 27) rfl
theorem dL_law_909 : decode cL_law 909 = .ok (.aload_n 0, 1) := ds_row dvL_law_881 dhL_law_881 18 (q := 28) rfl
theorem dL_law_910 : decode cL_law 910 = .ok (.iload 4, 2) := ds_row dvL_law_881 dhL_law_881 19 (q := 29) rfl
theorem dL_law_912 : decode cL_law 912 = .ok (.iconst 1, 1) := ds_row dvL_law_881 dhL_law_881 20 (q := 31) rfl
theorem dL_law_913 : decode cL_law 913 = .ok (.iadd, 1) := ds_row dvL_law_881 dhL_law_881 21 (q := 32) rfl
theorem dL_law_914 : decode cL_law 914 = .ok (.iaload, 1) := ds_row dvL_law_881 dhL_law_881 22 (q := 33) rfl
theorem dL_law_915 : decode cL_law 915 = .ok (.aload_n 0, 1) := ds_row dvL_law_881 dhL_law_881 23 (q := 34) rfl
theorem dL_law_916 : decode cL_law 916 = .ok (.iload 4, 2) := ds_row dvL_law_881 dhL_law_881 24 (q := 35) rfl
theorem dL_law_918 : decode cL_law 918 = .ok (.iconst 2, 1) := ds_row dvL_law_881 dhL_law_881 25 (q := 37) rfl
theorem dL_law_919 : decode cL_law 919 = .ok (.iadd, 1) := ds_row dvL_law_881 dhL_law_881 26 (q := 38) rfl
theorem dL_law_920 : decode cL_law 920 = .ok (.iaload, 1) := ds_row dvL_law_881 dhL_law_881 27 (q := 39) rfl
theorem dL_law_921 : decode cL_law 921 = .ok (.aload_n 0, 1) := ds_row dvL_law_881 dhL_law_881 28 (q := 40) rfl
theorem dL_law_922 : decode cL_law 922 = .ok (.iload 4, 2) := ds_row dvL_law_881 dhL_law_881 29 (q := 41) rfl
theorem dL_law_924 : decode cL_law 924 = .ok (.iconst 3, 1) := ds_row dvL_law_881 dhL_law_881 30 (q := 43) rfl
theorem dL_law_925 : decode cL_law 925 = .ok (.iadd, 1) := ds_row dvL_law_881 dhL_law_881 31 (q := 44) rfl
theorem dL_law_926 : decode cL_law 926 = .ok (.iaload, 1) := ds_row dvL_law_881 dhL_law_881 32 (q := 45) rfl
theorem dL_law_927 : decode cL_law 927 = .ok (.invokevirtual 94, 3) := ds_row dvL_law_881 dhL_law_881 33 (q := 46) rfl
theorem dL_law_930 : decode cL_law 930 = .ok (.pop, 1) := ds_row dvL_law_881 dhL_law_881 34 (q := 49) rfl
theorem dL_law_931 : decode cL_law 931 = .ok (.aload_n 2, 1) := ds_row dvL_law_881 dhL_law_881 35 (q := 50) rfl
theorem dL_law_932 : decode cL_law 932 = .ok (.aload_n 0, 1) := ds_row dvL_law_881 dhL_law_881 36 (q := 51) rfl
theorem dL_law_933 : decode cL_law 933 = .ok (.iload 4, 2) := ds_row dvL_law_881 dhL_law_881 37 (q := 52) rfl
theorem dL_law_935 : decode cL_law 935 = .ok (.iconst 1, 1) := ds_row dvL_law_881 dhL_law_881 38 (q := 54) rfl
theorem dL_law_936 : decode cL_law 936 = .ok (.iadd, 1) := ds_row dvL_law_881 dhL_law_881 39 (q := 55) rfl
abbrev dBL_law_937 : List UInt8 := [46, 42, 21, 4, 5, 96, 46, 42, 21, 4, 6, 96, 46, 182, 0, 97, 87, 167, 3, 169, 43, 42, 21, 4, 4, 96, 46, 42, 21, 4, 5, 96, 46, 182, 0, 98, 87, 44, 42, 21, 4, 4, 96, 46, 42, 21, 4, 5, 96, 46, 182, 0, 101, 87]
abbrev dRL_law_937 : List (Nat × Jvm.ClassFile.Instr × Nat) := [(0, .iaload, 1), (1, .aload_n 0, 1), (2, .iload 4, 2), (4, .iconst 2, 1), (5, .iadd, 1), (6, .iaload, 1), (7, .aload_n 0, 1), (8, .iload 4, 2), (10, .iconst 3, 1), (11, .iadd, 1), (12, .iaload, 1), (13, .invokevirtual 97, 3), (16, .pop, 1), (17, .goto 937, 3), (20, .aload_n 1, 1), (21, .aload_n 0, 1), (22, .iload 4, 2), (24, .iconst 1, 1), (25, .iadd, 1), (26, .iaload, 1), (27, .aload_n 0, 1), (28, .iload 4, 2), (30, .iconst 2, 1), (31, .iadd, 1), (32, .iaload, 1), (33, .invokevirtual 98, 3), (36, .pop, 1), (37, .aload_n 2, 1), (38, .aload_n 0, 1), (39, .iload 4, 2), (41, .iconst 1, 1), (42, .iadd, 1), (43, .iaload, 1), (44, .aload_n 0, 1), (45, .iload 4, 2), (47, .iconst 2, 1), (48, .iadd, 1), (49, .iaload, 1), (50, .invokevirtual 101, 3), (53, .pop, 1)]
theorem dvL_law_937 : ds_V cL_law (.mk (List.toArray dBL_law_937)) 937 := ds_at cL_law 937 dBL_law_937 (by decide +kernel)
theorem dhL_law_937 : ds_all (.mk (List.toArray dBL_law_937)) dRL_law_937 = true := by decide +kernel
theorem dL_law_937 : decode cL_law 937 = .ok (.iaload, 1) := ds_row dvL_law_937 dhL_law_937 0 (q := 0) rfl
theorem dL_law_938 : decode cL_law 938 = .ok (.aload_n 0, 1) := ds_row dvL_law_937 dhL_law_937 1 (q := 1) rfl
theorem dL_law_939 : decode cL_law 939 = .ok (.iload 4, 2) := ds_row dvL_law_937 dhL_law_937 2 (q := 2) rfl
theorem dL_law_941 : decode cL_law 941 = .ok (.iconst 2, 1) := ds_row dvL_law_937 dhL_law_937 3 (q := 4) rfl
theorem dL_law_942 : decode cL_law 942 = .ok (.iadd, 1) := ds_row dvL_law_937 dhL_law_937 4 (q := 5) rfl
theorem dL_law_943 : decode cL_law 943 = .ok (.iaload, 1) := ds_row dvL_law_937 dhL_law_937 5 (q := 6) rfl
theorem dL_law_944 : decode cL_law 944 = .ok (.aload_n 0, 1) := ds_row dvL_law_937 dhL_law_937 6 (q := 7) rfl
theorem dL_law_945 : decode cL_law 945 = .ok (.iload 4, 2) := ds_row dvL_law_937 dhL_law_937 7 (q := 8) rfl
theorem dL_law_947 : decode cL_law 947 = .ok (.iconst 3, 1) := ds_row dvL_law_937 dhL_law_937 8 (q := 10) rfl
theorem dL_law_948 : decode cL_law 948 = .ok (.iadd, 1) := ds_row dvL_law_937 dhL_law_937 9 (q := 11) rfl
theorem dL_law_949 : decode cL_law 949 = .ok (.iaload, 1) := ds_row dvL_law_937 dhL_law_937 10 (q := 12) rfl
theorem dL_law_950 : decode cL_law 950 = .ok (.invokevirtual 97, 3) := ds_row dvL_law_937 dhL_law_937 11 (q := 13) rfl
theorem dL_law_953 : decode cL_law 953 = .ok (.pop, 1) := ds_row dvL_law_937 dhL_law_937 12 (q := 16) rfl
theorem dL_law_954 : decode cL_law 954 = .ok (.goto 937, 3) := ds_row dvL_law_937 dhL_law_937 13 (q := 17) rfl
theorem dL_law_957 : decode cL_law 957 = .ok (.aload_n 1, 1) := ds_row dvL_law_937 dhL_law_937 14 (q := 20) rfl
theorem dL_law_958 : decode cL_law 958 = .ok (.aload_n 0, 1) := ds_row dvL_law_937 dhL_law_937 15 (q := 21) rfl
theorem dL_law_959 : decode cL_law 959 = .ok (.iload 4, 2) := ds_row dvL_law_937 dhL_law_937 16 (q := 22) rfl
theorem dL_law_961 : decode cL_law 961 = .ok (.iconst 1, 1) := ds_row dvL_law_937 dhL_law_937 17 (q := 24) rfl
theorem dL_law_962 : decode cL_law 962 = .ok (.iadd, 1) := ds_row dvL_law_937 dhL_law_937 18 (q := 25) rfl
theorem dL_law_963 : decode cL_law 963 = .ok (.iaload, 1) := ds_row dvL_law_937 dhL_law_937 19 (q := 26) rfl
theorem dL_law_964 : decode cL_law 964 = .ok (.aload_n 0, 1) := ds_row dvL_law_937 dhL_law_937 20 (q := 27) rfl
theorem dL_law_965 : decode cL_law 965 = .ok (.iload 4, 2) := ds_row dvL_law_937 dhL_law_937 21 (q := 28) rfl
theorem dL_law_967 : decode cL_law 967 = .ok (.iconst 2, 1) := ds_row dvL_law_937 dhL_law_937 22 (q := 30) rfl
theorem dL_law_968 : decode cL_law 968 = .ok (.iadd, 1) := ds_row dvL_law_937 dhL_law_937 23 (q := 31) rfl
theorem dL_law_969 : decode cL_law 969 = .ok (.iaload, 1) := ds_row dvL_law_937 dhL_law_937 24 (q := 32) rfl
theorem dL_law_970 : decode cL_law 970 = .ok (.invokevirtual 98, 3) := ds_row dvL_law_937 dhL_law_937 25 (q := 33) rfl
theorem dL_law_973 : decode cL_law 973 = .ok (.pop, 1) := ds_row dvL_law_937 dhL_law_937 26 (q := 36) rfl
theorem dL_law_974 : decode cL_law 974 = .ok (.aload_n 2, 1) := ds_row dvL_law_937 dhL_law_937 27 (q := 37) rfl
theorem dL_law_975 : decode cL_law 975 = .ok (.aload_n 0, 1) := ds_row dvL_law_937 dhL_law_937 28 (q := 38) rfl
theorem dL_law_976 : decode cL_law 976 = .ok (.iload 4, 2) := ds_row dvL_law_937 dhL_law_937 29 (q := 39) rfl
theorem dL_law_978 : decode cL_law 978 = .ok (.iconst 1, 1) := ds_row dvL_law_937 dhL_law_937 30 (q := 41) rfl
theorem dL_law_979 : decode cL_law 979 = .ok (.iadd, 1) := ds_row dvL_law_937 dhL_law_937 31 (q := 42) rfl
theorem dL_law_980 : decode cL_law 980 = .ok (.iaload, 1) := ds_row dvL_law_937 dhL_law_937 32 (q := 43) rfl
theorem dL_law_981 : decode cL_law 981 = .ok (.aload_n 0, 1) := ds_row dvL_law_937 dhL_law_937 33 (q := 44) rfl
theorem dL_law_982 : decode cL_law 982 = .ok (.iload 4, 2) := ds_row dvL_law_937 dhL_law_937 34 (q := 45) rfl
theorem dL_law_984 : decode cL_law 984 = .ok (.iconst 2, 1) := ds_row dvL_law_937 dhL_law_937 35 (q := 47) rfl
theorem dL_law_985 : decode cL_law 985 = .ok (.iadd, 1) := ds_row dvL_law_937 dhL_law_937 36 (q := 48) rfl
theorem dL_law_986 : decode cL_law 986 = .ok (.iaload, 1) := ds_row dvL_law_937 dhL_law_937 37 (q := 49) rfl
theorem dL_law_987 : decode cL_law 987 = .ok (.invokevirtual 101, 3) := ds_row dvL_law_937 dhL_law_937 38 (q := 50) rfl
theorem dL_law_990 : decode cL_law 990 = .ok (.pop, 1) := ds_row dvL_law_937 dhL_law_937 39 (q := 53) rfl
abbrev dBL_law_991 : List UInt8 := [167, 3, 132, 43, 42, 21, 4, 4, 96, 46, 182, 0, 102, 87, 44, 42, 21, 4, 4, 96, 46, 182, 0, 105, 87, 167, 3, 107, 43, 182, 0, 106, 87, 44, 182, 0, 110, 87, 167, 3, 94, 43, 42, 21, 4, 4, 96, 46, 182, 0, 111, 87, 44, 42, 21, 4]
abbrev dRL_law_991 : List (Nat × Jvm.ClassFile.Instr × Nat) := [(0, .goto 900, 3), (3, .aload_n 1, 1), (4, .aload_n 0, 1), (5, .iload 4, 2), (7, .iconst 1, 1), (8, .iadd, 1), (9, .iaload, 1), (10, .invokevirtual 102, 3), (13, .pop, 1), (14, .aload_n 2, 1), (15, .aload_n 0, 1), (16, .iload 4, 2), (18, .iconst 1, 1), (19, .iadd, 1), (20, .iaload, 1), (21, .invokevirtual 105, 3), (24, .pop, 1), (25, .goto 875, 3), (28, .aload_n 1, 1), (29, .invokevirtual 106, 3), (32, .pop, 1), (33, .aload_n 2, 1), (34, .invokevirtual 110, 3), (37, .pop, 1), (38, .goto 862, 3), (41, .aload_n 1, 1), (42, .aload_n 0, 1), (43, .iload 4, 2), (45, .iconst 1, 1), (46, .iadd, 1), (47, .iaload, 1), (48, .invokevirtual 111, 3), (51, .pop, 1), (52, .aload_n 2, 1), (53, .aload_n 0, 1), (54, .iload 4, 2)]
theorem dvL_law_991 : ds_V cL_law (.mk (List.toArray dBL_law_991)) 991 := ds_at cL_law 991 dBL_law_991 (by decide +kernel)
theorem dhL_law_991 : ds_all (.mk (List.toArray dBL_law_991)) dRL_law_991 = true := by decide +kernel
theorem dL_law_991 : decode cL_law 991 = .ok (.goto 900, 3) := ds_row dvL_law_991 dhL_law_991 0 (q := 0) rfl
theorem dL_law_994 : decode cL_law 994 = .ok (.aload_n 1, 1) := ds_row dvL_law_991 dhL_law_991 1 (q := 3) rfl
theorem dL_law_995 : decode cL_law 995 = .ok (.aload_n 0, 1) := ds_row dvL_law_991 dhL_law_991 2 (q := 4) rfl
theorem dL_law_996 : decode cL_law 996 = .ok (.iload 4, 2) := ds_row dvL_law_991 dhL_law_991 3 (q := 5) rfl
theorem dL_law_998 : decode cL_law 998 = .ok (.iconst 1, 1) := ds_row dvL_law_991 dhL_law_991 4 (q := 7) rfl
theorem dL_law_999 : decode cL_law 999 = .ok (.iadd, 1) := ds_row dvL_law_991 dhL_law_991 5 (q := 8) rfl
theorem dL_law_1000 : decode cL_law 1000 = .ok (.iaload, 1) := ds_row dvL_law_991 dhL_law_991 6 (q := 9) rfl
theorem dL_law_1001 : decode cL_law 1001 = .ok (.invokevirtual 102, 3) := ds_row dvL_law_991 dhL_law_991 7 (q := 10) rfl
theorem dL_law_1004 : decode cL_law 1004 = .ok (.pop, 1) := ds_row dvL_law_991 dhL_law_991 8 (q := 13) rfl
theorem dL_law_1005 : decode cL_law 1005 = .ok (.aload_n 2, 1) := ds_row dvL_law_991 dhL_law_991 9 (q := 14) rfl
theorem dL_law_1006 : decode cL_law 1006 = .ok (.aload_n 0, 1) := ds_row dvL_law_991 dhL_law_991 10 (q := 15) rfl
theorem dL_law_1007 : decode cL_law 1007 = .ok (.iload 4, 2) := ds_row dvL_law_991 dhL_law_991 11 (q := 16) rfl
theorem dL_law_1009 : decode cL_law 1009 = .ok (.iconst 1, 1) := ds_row dvL_law_991 dhL_law_991 12 (q := 18) rfl
theorem dL_law_1010 : decode cL_law 1010 = .ok (.iadd, 1) := ds_row dvL_law_991 dhL_law_991 13 (q := 19) rfl
theorem dL_law_1011 : decode cL_law 1011 = .ok (.iaload, 1) := ds_row dvL_law_991 dhL_law_991 14 (q := 20) rfl
theorem dL_law_1012 : decode cL_law 1012 = .ok (.invokevirtual 105, 3) := ds_row dvL_law_991 dhL_law_991 15 (q := 21) rfl
theorem dL_law_1015 : decode cL_law 1015 = .ok (.pop, 1) := ds_row dvL_law_991 dhL_law_991 16 (q := 24) rfl
theorem dL_law_1016 : decode cL_law 1016 = .ok (.goto 875, 3) := ds_row dvL_law_991 dhL_law_991 17 (q := 25) rfl
theorem dL_law_1019 : decode cL_law 1019 = .ok (.aload_n 1, 1) := ds_row dvL_law_991 dhL_law_991 18 (q := 28) rfl
theorem dL_law_1020 : decode cL_law 1020 = .ok (.invokevirtual 106, 3) := ds_row dvL_law_991 dhL_law_991 19 (q := 29) rfl
theorem dL_law_1023 : decode cL_law 1023 = .ok (.pop, 1) := ds_row dvL_law_991 dhL_law_991 20 (q := 32) rfl
theorem dL_law_1024 : decode cL_law 1024 = .ok (.aload_n 2, 1) := ds_row dvL_law_991 dhL_law_991 21 (q := 33) rfl
theorem dL_law_1025 : decode cL_law 1025 = .ok (.invokevirtual 110, 3) := ds_row dvL_law_991 dhL_law_991 22 (q := 34) rfl
theorem dL_law_1028 : decode cL_law 1028 = .ok (.pop, 1) := ds_row dvL_law_991 dhL_law_991 23 (q := 37) rfl
theorem dL_law_1029 : decode cL_law 1029 = .ok (.goto 862, 3) := ds_row dvL_law_991 dhL_law_991 24 (q := 38) rfl
theorem dL_law_1032 : decode cL_law 1032 = .ok (.aload_n 1, 1) := ds_row dvL_law_991 dhL_law_991 25 (q := 41) rfl
theorem dL_law_1033 : decode cL_law 1033 = .ok (.aload_n 0, 1) := ds_row dvL_law_991 dhL_law_991 26 (q := 42) rfl
theorem dL_law_1034 : decode cL_law 1034 = .ok (.iload 4, 2) := ds_row dvL_law_991 dhL_law_991 27 (q := 43) rfl
theorem dL_law_1036 : decode cL_law 1036 = .ok (.iconst 1, 1) := ds_row dvL_law_991 dhL_law_991 28 (q := 45) rfl
theorem dL_law_1037 : decode cL_law 1037 = .ok (.iadd, 1) := ds_row dvL_law_991 dhL_law_991 29 (q := 46) rfl
theorem dL_law_1038 : decode cL_law 1038 = .ok (.iaload, 1) := ds_row dvL_law_991 dhL_law_991 30 (q := 47) rfl
theorem dL_law_1039 : decode cL_law 1039 = .ok (.invokevirtual 111, 3) := ds_row dvL_law_991 dhL_law_991 31 (q := 48) rfl
theorem dL_law_1042 : decode cL_law 1042 = .ok (.pop, 1) := ds_row dvL_law_991 dhL_law_991 32 (q := 51) rfl
theorem dL_law_1043 : decode cL_law 1043 = .ok (.aload_n 2, 1) := ds_row dvL_law_991 dhL_law_991 33 (q := 52) rfl
theorem dL_law_1044 : decode cL_law 1044 = .ok (.aload_n 0, 1) := ds_row dvL_law_991 dhL_law_991 34 (q := 53) rfl
theorem dL_law_1045 : decode cL_law 1045 = .ok (.iload 4, 2) := ds_row dvL_law_991 dhL_law_991 35 (q := 54) rfl
abbrev dBL_law_1047 : List UInt8 := [4, 96, 46, 182, 0, 114, 87, 167, 3, 69, 43, 42, 21, 4, 4, 96, 46, 182, 0, 115, 87, 44, 42, 21, 4, 4, 96, 46, 182, 0, 118, 87, 167, 3, 44, 43, 42, 21, 4, 4, 96, 46, 182, 0, 119, 87, 44, 42, 21, 4, 4, 96, 46, 182, 0, 122]
abbrev dRL_law_1047 : List (Nat × Jvm.ClassFile.Instr × Nat) := [(0, .iconst 1, 1), (1, .iadd, 1), (2, .iaload, 1), (3, .invokevirtual 114, 3), (6, .pop, 1), (7, .goto 837, 3), (10, .aload_n 1, 1), (11, .aload_n 0, 1), (12, .iload 4, 2), (14, .iconst 1, 1), (15, .iadd, 1), (16, .iaload, 1), (17, .invokevirtual 115, 3), (20, .pop, 1), (21, .aload_n 2, 1), (22, .aload_n 0, 1), (23, .iload 4, 2), (25, .iconst 1, 1), (26, .iadd, 1), (27, .iaload, 1), (28, .invokevirtual 118, 3), (31, .pop, 1), (32, .goto 812, 3), (35, .aload_n 1, 1), (36, .aload_n 0, 1), (37, .iload 4, 2), (39, .iconst 1, 1), (40, .iadd, 1), (41, .iaload, 1), (42, .invokevirtual 119, 3), (45, .pop, 1), (46, .aload_n 2, 1), (47, .aload_n 0, 1), (48, .iload 4, 2), (50, .iconst 1, 1), (51, .iadd, 1), (52, .iaload, 1), (53, .invokevirtual 122, 3)]
theorem dvL_law_1047 : ds_V cL_law (.mk (List.toArray dBL_law_1047)) 1047 := ds_at cL_law 1047 dBL_law_1047 (by decide +kernel)
theorem dhL_law_1047 : ds_all (.mk (List.toArray dBL_law_1047)) dRL_law_1047 = true := by decide +kernel
theorem dL_law_1047 : decode cL_law 1047 = .ok (.iconst 1, 1) := ds_row dvL_law_1047 dhL_law_1047 0 (q := 0) rfl
theorem dL_law_1048 : decode cL_law 1048 = .ok (.iadd, 1) := ds_row dvL_law_1047 dhL_law_1047 1 (q := 1) rfl
theorem dL_law_1049 : decode cL_law 1049 = .ok (.iaload, 1) := ds_row dvL_law_1047 dhL_law_1047 2 (q := 2) rfl
theorem dL_law_1050 : decode cL_law 1050 = .ok (.invokevirtual 114, 3) := ds_row dvL_law_1047 dhL_law_1047 3 (q := 3) rfl
theorem dL_law_1053 : decode cL_law 1053 = .ok (.pop, 1) := ds_row dvL_law_1047 dhL_law_1047 4 (q := 6) rfl
theorem dL_law_1054 : decode cL_law 1054 = .ok (.goto 837, 3) := ds_row dvL_law_1047 dhL_law_1047 5 (q := 7) rfl
theorem dL_law_1057 : decode cL_law 1057 = .ok (.aload_n 1, 1) := ds_row dvL_law_1047 dhL_law_1047 6 (q := 10) rfl
theorem dL_law_1058 : decode cL_law 1058 = .ok (.aload_n 0, 1) := ds_row dvL_law_1047 dhL_law_1047 7 (q := 11) rfl
theorem dL_law_1059 : decode cL_law 1059 = .ok (.iload 4, 2) := ds_row dvL_law_1047 dhL_law_1047 8 (q := 12) rfl
theorem dL_law_1061 : decode cL_law 1061 = .ok (.iconst 1, 1) := ds_row dvL_law_1047 dhL_law_1047 9 (q := 14) rfl
theorem dL_law_1062 : decode cL_law 1062 = .ok (.iadd, 1) := ds_row dvL_law_1047 dhL_law_1047 10 (q := 15) rfl
theorem dL_law_1063 : decode cL_law 1063 = .ok (.iaload, 1) := ds_row dvL_law_1047 dhL_law_1047 11 (q := 16) rfl
theorem dL_law_1064 : decode cL_law 1064 = .ok (.invokevirtual 115, 3) := ds_row dvL_law_1047 dhL_law_1047 12 (q := 17) rfl
theorem dL_law_1067 : decode cL_law 1067 = .ok (.pop, 1) := ds_row dvL_law_1047 dhL_law_1047 13 (q := 20) rfl
theorem dL_law_1068 : decode cL_law 1068 = .ok (.aload_n 2, 1) := ds_row dvL_law_1047 dhL_law_1047 14 (q := 21) rfl
theorem dL_law_1069 : decode cL_law 1069 = .ok (.aload_n 0, 1) := ds_row dvL_law_1047 dhL_law_1047 15 (q := 22) rfl
theorem dL_law_1070 : decode cL_law 1070 = .ok (.iload 4, 2) := ds_row dvL_law_1047 dhL_law_1047 16 (q := 23) rfl
theorem dL_law_1072 : decode cL_law 1072 = .ok (.iconst 1, 1) := ds_row dvL_law_1047 dhL_law_1047 17 (q := 25) rfl
theorem dL_law_1073 : decode cL_law 1073 = .ok (.iadd, 1) := ds_row dvL_law_1047 dhL_law_1047 18 (q := 26) rfl
theorem dL_law_1074 : decode cL_law 1074 = .ok (.iaload, 1) := ds_row dvL_law_1047 dhL_law_1047 19 (q := 27) rfl
theorem dL_law_1075 : decode cL_law 1075 = .ok (.invokevirtual 118, 3) := ds_row dvL_law_1047 dhL_law_1047 20 (q := 28) rfl
theorem dL_law_1078 : decode cL_law 1078 = .ok (.pop, 1) := ds_row dvL_law_1047 dhL_law_1047 21 (q := 31) rfl
theorem dL_law_1079 : decode cL_law 1079 = .ok (.goto 812, 3) := ds_row dvL_law_1047 dhL_law_1047 22 (q := 32) rfl
theorem dL_law_1082 : decode cL_law 1082 = .ok (.aload_n 1, 1) := ds_row dvL_law_1047 dhL_law_1047 23 (q := 35) rfl
theorem dL_law_1083 : decode cL_law 1083 = .ok (.aload_n 0, 1) := ds_row dvL_law_1047 dhL_law_1047 24 (q := 36) rfl
theorem dL_law_1084 : decode cL_law 1084 = .ok (.iload 4, 2) := ds_row dvL_law_1047 dhL_law_1047 25 (q := 37) rfl
theorem dL_law_1086 : decode cL_law 1086 = .ok (.iconst 1, 1) := ds_row dvL_law_1047 dhL_law_1047 26 (q := 39) rfl
theorem dL_law_1087 : decode cL_law 1087 = .ok (.iadd, 1) := ds_row dvL_law_1047 dhL_law_1047 27 (q := 40) rfl
theorem dL_law_1088 : decode cL_law 1088 = .ok (.iaload, 1) := ds_row dvL_law_1047 dhL_law_1047 28 (q := 41) rfl
theorem dL_law_1089 : decode cL_law 1089 = .ok (.invokevirtual 119, 3) := ds_row dvL_law_1047 dhL_law_1047 29 (q := 42) rfl
theorem dL_law_1092 : decode cL_law 1092 = .ok (.pop, 1) := ds_row dvL_law_1047 dhL_law_1047 30 (q := 45) rfl
theorem dL_law_1093 : decode cL_law 1093 = .ok (.aload_n 2, 1) := ds_row dvL_law_1047 dhL_law_1047 31 (q := 46) rfl
theorem dL_law_1094 : decode cL_law 1094 = .ok (.aload_n 0, 1) := ds_row dvL_law_1047 dhL_law_1047 32 (q := 47) rfl
theorem dL_law_1095 : decode cL_law 1095 = .ok (.iload 4, 2) := ds_row dvL_law_1047 dhL_law_1047 33 (q := 48) rfl
theorem dL_law_1097 : decode cL_law 1097 = .ok (.iconst 1, 1) := ds_row dvL_law_1047 dhL_law_1047 34 (q := 50) rfl
theorem dL_law_1098 : decode cL_law 1098 = .ok (.iadd, 1) := ds_row dvL_law_1047 dhL_law_1047 35 (q := 51) rfl
theorem dL_law_1099 : decode cL_law 1099 = .ok (.iaload, 1) := ds_row dvL_law_1047 dhL_law_1047 36 (q := 52) rfl
theorem dL_law_1100 : decode cL_law 1100 = .ok (.invokevirtual 122, 3) := ds_row dvL_law_1047 dhL_law_1047 37 (q := 53) rfl
abbrev dBL_law_1103 : List UInt8 := [87, 167, 3, 19, 43, 42, 21, 4, 4, 96, 46, 42, 21, 4, 5, 96, 46, 42, 21, 4, 6, 96, 46, 42, 21, 4, 7, 96, 46, 182, 0, 123, 87, 44, 42, 21, 4, 4, 96, 46, 42, 21, 4, 5, 96, 46, 42, 21, 4, 6, 96, 46, 42, 21, 4, 7]
abbrev dRL_law_1103 : List (Nat × Jvm.ClassFile.Instr × Nat) := [(0, .pop, 1), (1, .goto 787, 3), (4, .aload_n 1, 1), (5, .aload_n 0, 1), (6, .iload 4, 2), (8, .iconst 1, 1), (9, .iadd, 1), (10, .iaload, 1), (11, .aload_n 0, 1), (12, .iload 4, 2), (14, .iconst 2, 1), (15, .iadd, 1), (16, .iaload, 1), (17, .aload_n 0, 1), (18, .iload 4, 2), (20, .iconst 3, 1), (21, .iadd, 1), (22, .iaload, 1), (23, .aload_n 0, 1), (24, .iload 4, 2), (26, .iconst 4, 1), (27, .iadd, 1), (28, .iaload, 1), (29, .invokevirtual 123, 3), (32, .pop, 1), (33, .aload_n 2, 1), (34, .aload_n 0, 1), (35, .iload 4, 2), (37, .iconst 1, 1), (38, .iadd, 1), (39, .iaload, 1), (40, .aload_n 0, 1), (41, .iload 4, 2), (43, .iconst 2, 1), (44, .iadd, 1), (45, .iaload, 1), (46, .aload_n 0, 1), (47, .iload 4, 2), (49, .iconst 3, 1), (50, .iadd, 1), (51, .iaload, 1), (52, .aload_n 0, 1), (53, .iload 4, 2), (55, .iconst 4, 1)]
theorem dvL_law_1103 : ds_V cL_law (.mk (List.toArray dBL_law_1103)) 1103 := ds_at cL_law 1103 dBL_law_1103 (by decide +kernel)
theorem dhL_law_1103 : ds_all (.mk (List.toArray dBL_law_1103)) dRL_law_1103 = true := by decide +kernel
theorem dL_law_1103 : decode cL_law 1103 = .ok (.pop, 1) := ds_row dvL_law_1103 dhL_law_1103 0 (q := 0) rfl
theorem dL_law_1104 : decode cL_law 1104 = .ok (.goto 787, 3) := ds_row dvL_law_1103 dhL_law_1103 1 (q := 1) rfl
theorem dL_law_1107 : decode cL_law 1107 = .ok (.aload_n 1, 1) := ds_row dvL_law_1103 dhL_law_1103 2 (q := 4) rfl
theorem dL_law_1108 : decode cL_law 1108 = .ok (.aload_n 0, 1) := ds_row dvL_law_1103 dhL_law_1103 3 (q := 5) rfl
theorem dL_law_1109 : decode cL_law 1109 = .ok (.iload 4, 2) := ds_row dvL_law_1103 dhL_law_1103 4 (q := 6) rfl
theorem dL_law_1111 : decode cL_law 1111 = .ok (.iconst 1, 1) := ds_row dvL_law_1103 dhL_law_1103 5 (q := 8) rfl
theorem dL_law_1112 : decode cL_law 1112 = .ok (.iadd, 1) := ds_row dvL_law_1103 dhL_law_1103 6 (q := 9) rfl
theorem dL_law_1113 : decode cL_law 1113 = .ok (.iaload, 1) := ds_row dvL_law_1103 dhL_law_1103 7 (q := 10) rfl
theorem dL_law_1114 : decode cL_law 1114 = .ok (.aload_n 0, 1) := ds_row dvL_law_1103 dhL_law_1103 8 (q := 11) rfl
theorem dL_law_1115 : decode cL_law 1115 = .ok (.iload 4, 2) := ds_row dvL_law_1103 dhL_law_1103 9 (q := 12) rfl
theorem dL_law_1117 : decode cL_law 1117 = .ok (.iconst 2, 1) := ds_row dvL_law_1103 dhL_law_1103 10 (q := 14) rfl
theorem dL_law_1118 : decode cL_law 1118 = .ok (.iadd, 1) := ds_row dvL_law_1103 dhL_law_1103 11 (q := 15) rfl
theorem dL_law_1119 : decode cL_law 1119 = .ok (.iaload, 1) := ds_row dvL_law_1103 dhL_law_1103 12 (q := 16) rfl
theorem dL_law_1120 : decode cL_law 1120 = .ok (.aload_n 0, 1) := ds_row dvL_law_1103 dhL_law_1103 13 (q := 17) rfl
theorem dL_law_1121 : decode cL_law 1121 = .ok (.iload 4, 2) := ds_row dvL_law_1103 dhL_law_1103 14 (q := 18) rfl
theorem dL_law_1123 : decode cL_law 1123 = .ok (.iconst 3, 1) := ds_row dvL_law_1103 dhL_law_1103 15 (q := 20) rfl
theorem dL_law_1124 : decode cL_law 1124 = .ok (.iadd, 1) := ds_row dvL_law_1103 dhL_law_1103 16 (q := 21) rfl
theorem dL_law_1125 : decode cL_law 1125 = .ok (.iaload, 1) := ds_row dvL_law_1103 dhL_law_1103 17 (q := 22) rfl
theorem dL_law_1126 : decode cL_law 1126 = .ok (.aload_n 0, 1) := ds_row dvL_law_1103 dhL_law_1103 18 (q := 23) rfl
theorem dL_law_1127 : decode cL_law 1127 = .ok (.iload 4, 2) := ds_row dvL_law_1103 dhL_law_1103 19 (q := 24) rfl
theorem dL_law_1129 : decode cL_law 1129 = .ok (.iconst 4, 1) := ds_row dvL_law_1103 dhL_law_1103 20 (q := 26) rfl
theorem dL_law_1130 : decode cL_law 1130 = .ok (.iadd, 1) := ds_row dvL_law_1103 dhL_law_1103 21 (q := 27) rfl
theorem dL_law_1131 : decode cL_law 1131 = .ok (.iaload, 1) := ds_row dvL_law_1103 dhL_law_1103 22 (q := 28) rfl
theorem dL_law_1132 : decode cL_law 1132 = .ok (.invokevirtual 123, 3) := ds_row dvL_law_1103 dhL_law_1103 23 (q := 29) rfl
theorem dL_law_1135 : decode cL_law 1135 = .ok (.pop, 1) := ds_row dvL_law_1103 dhL_law_1103 24 (q := 32) rfl
theorem dL_law_1136 : decode cL_law 1136 = .ok (.aload_n 2, 1) := ds_row dvL_law_1103 dhL_law_1103 25 (q := 33) rfl
theorem dL_law_1137 : decode cL_law 1137 = .ok (.aload_n 0, 1) := ds_row dvL_law_1103 dhL_law_1103 26 (q := 34) rfl
theorem dL_law_1138 : decode cL_law 1138 = .ok (.iload 4, 2) := ds_row dvL_law_1103 dhL_law_1103 27 (q := 35) rfl
theorem dL_law_1140 : decode cL_law 1140 = .ok (.iconst 1, 1) := ds_row dvL_law_1103 dhL_law_1103 28 (q := 37) rfl
theorem dL_law_1141 : decode cL_law 1141 = .ok (.iadd, 1) := ds_row dvL_law_1103 dhL_law_1103 29 (q := 38) rfl
theorem dL_law_1142 : decode cL_law 1142 = .ok (.iaload, 1) := ds_row dvL_law_1103 dhL_law_1103 30 (q := 39) rfl
theorem dL_law_1143 : decode cL_law 1143 = .ok (.aload_n 0, 1) := ds_row dvL_law_1103 dhL_law_1103 31 (q := 40) rfl
theorem dL_law_1144 : decode cL_law 1144 = .ok (.iload 4, 2) := ds_row dvL_law_1103 dhL_law_1103 32 (q := 41) rfl
theorem dL_law_1146 : decode cL_law 1146 = .ok (.iconst 2, 1) := ds_row dvL_law_1103 dhL_law_1103 33 (q := 43) rfl
theorem dL_law_1147 : decode cL_law 1147 = .ok (.iadd, 1) := ds_row dvL_law_1103 dhL_law_1103 34 (q := 44) rfl
theorem dL_law_1148 : decode cL_law 1148 = .ok (.iaload, 1) := ds_row dvL_law_1103 dhL_law_1103 35 (q := 45) rfl
theorem dL_law_1149 : decode cL_law 1149 = .ok (.aload_n 0, 1) := ds_row dvL_law_1103 dhL_law_1103 36 (q := 46) rfl
theorem dL_law_1150 : decode cL_law 1150 = .ok (.iload 4, 2) := ds_row dvL_law_1103 dhL_law_1103 37 (q := 47) rfl
theorem dL_law_1152 : decode cL_law 1152 = .ok (.iconst 3, 1) := ds_row dvL_law_1103 dhL_law_1103 38 (q := 49) rfl
theorem dL_law_1153 : decode cL_law 1153 = .ok (.iadd, 1) := ds_row dvL_law_1103 dhL_law_1103 39 (q := 50) rfl
theorem dL_law_1154 : decode cL_law 1154 = .ok (.iaload, 1) := ds_row dvL_law_1103 dhL_law_1103 40 (q := 51) rfl
theorem dL_law_1155 : decode cL_law 1155 = .ok (.aload_n 0, 1) := ds_row dvL_law_1103 dhL_law_1103 41 (q := 52) rfl
theorem dL_law_1156 : decode cL_law 1156 = .ok (.iload 4, 2) := ds_row dvL_law_1103 dhL_law_1103 42 (q := 53) rfl
theorem dL_law_1158 : decode cL_law 1158 = .ok (.iconst 4, 1) := ds_row dvL_law_1103 dhL_law_1103 43 (q := 55) rfl
abbrev dBL_law_1159 : List UInt8 := [96, 46, 182, 0, 126, 87, 167, 2, 214, 43, 42, 21, 4, 4, 96, 46, 42, 21, 4, 5, 96, 46, 182, 0, 127, 87, 44, 42, 21, 4, 4, 96, 46, 42, 21, 4, 5, 96, 46, 182, 0, 130, 87, 167, 2, 177, 43, 42, 21, 4, 4, 96, 46, 42, 21, 4]
abbrev dRL_law_1159 : List (Nat × Jvm.ClassFile.Instr × Nat) := [(0, .iadd, 1), (1, .iaload, 1), (2, .invokevirtual 126, 3), (5, .pop, 1), (6, .goto 726, 3), (9, .aload_n 1, 1), (10, .aload_n 0, 1), (11, .iload 4, 2), (13, .iconst 1, 1), (14, .iadd, 1), (15, .iaload, 1), (16, .aload_n 0, 1), (17, .iload 4, 2), (19, .iconst 2, 1), (20, .iadd, 1), (21, .iaload, 1), (22, .invokevirtual 127, 3), (25, .pop, 1), (26, .aload_n 2, 1), (27, .aload_n 0, 1), (28, .iload 4, 2), (30, .iconst 1, 1), (31, .iadd, 1), (32, .iaload, 1), (33, .aload_n 0, 1), (34, .iload 4, 2), (36, .iconst 2, 1), (37, .iadd, 1), (38, .iaload, 1), (39, .invokevirtual 130, 3), (42, .pop, 1), (43, .goto 689, 3), (46, .aload_n 1, 1), (47, .aload_n 0, 1), (48, .iload 4, 2), (50, .iconst 1, 1), (51, .iadd, 1), (52, .iaload, 1), (53, .aload_n 0, 1), (54, .iload 4, 2)]
theorem dvL_law_1159 : ds_V cL_law (.mk (List.toArray dBL_law_1159)) 1159 := ds_at cL_law 1159 dBL_law_1159 (by decide +kernel)
theorem dhL_law_1159 : ds_all (.mk (List.toArray dBL_law_1159)) dRL_law_1159 = true := by decide +kernel
theorem dL_law_1159 : decode cL_law 1159 = .ok (.iadd, 1) := ds_row dvL_law_1159 dhL_law_1159 0 (q := 0) rfl
theorem dL_law_1160 : decode cL_law 1160 = .ok (.iaload, 1) := ds_row dvL_law_1159 dhL_law_1159 1 (q := 1) rfl
theorem dL_law_1161 : decode cL_law 1161 = .ok (.invokevirtual 126, 3) := ds_row dvL_law_1159 dhL_law_1159 2 (q := 2) rfl
theorem dL_law_1164 : decode cL_law 1164 = .ok (.pop, 1) := ds_row dvL_law_1159 dhL_law_1159 3 (q := 5) rfl
theorem dL_law_1165 : decode cL_law 1165 = .ok (.goto 726, 3) := ds_row dvL_law_1159 dhL_law_1159 4 (q := 6) rfl
theorem dL_law_1168 : decode cL_law 1168 = .ok (.aload_n 1, 1) := ds_row dvL_law_1159 dhL_law_1159 5 (q := 9) rfl
theorem dL_law_1169 : decode cL_law 1169 = .ok (.aload_n 0, 1) := ds_row dvL_law_1159 dhL_law_1159 6 (q := 10) rfl
theorem dL_law_1170 : decode cL_law 1170 = .ok (.iload 4, 2) := ds_row dvL_law_1159 dhL_law_1159 7 (q := 11) rfl
theorem dL_law_1172 : decode cL_law 1172 = .ok (.iconst 1, 1) := ds_row dvL_law_1159 dhL_law_1159 8 (q := 13) rfl
theorem dL_law_1173 : decode cL_law 1173 = .ok (.iadd, 1) := ds_row dvL_law_1159 dhL_law_1159 9 (q := 14) rfl
theorem dL_law_1174 : decode cL_law 1174 = .ok (.iaload, 1) := ds_row dvL_law_1159 dhL_law_1159 10 (q := 15) rfl
theorem dL_law_1175 : decode cL_law 1175 = .ok (.aload_n 0, 1) := ds_row dvL_law_1159 dhL_law_1159 11 (q := 16) rfl
theorem dL_law_1176 : decode cL_law 1176 = .ok (.iload 4, 2) := ds_row dvL_law_1159 dhL_law_1159 12 (q := 17) rfl
theorem dL_law_1178 : decode cL_law 1178 = .ok (.iconst 2, 1) := ds_row dvL_law_1159 dhL_law_1159 13 (q := 19) rfl
theorem dL_law_1179 : decode cL_law 1179 = .ok (.iadd, 1) := ds_row dvL_law_1159 dhL_law_1159 14 (q := 20) rfl
theorem dL_law_1180 : decode cL_law 1180 = .ok (.iaload, 1) := ds_row dvL_law_1159 dhL_law_1159 15 (q := 21) rfl
theorem dL_law_1181 : decode cL_law 1181 = .ok (.invokevirtual 127, 3) := ds_row dvL_law_1159 dhL_law_1159 16 (q := 22) rfl
theorem dL_law_1184 : decode cL_law 1184 = .ok (.pop, 1) := ds_row dvL_law_1159 dhL_law_1159 17 (q := 25) rfl
theorem dL_law_1185 : decode cL_law 1185 = .ok (.aload_n 2, 1) := ds_row dvL_law_1159 dhL_law_1159 18 (q := 26) rfl
theorem dL_law_1186 : decode cL_law 1186 = .ok (.aload_n 0, 1) := ds_row dvL_law_1159 dhL_law_1159 19 (q := 27) rfl
theorem dL_law_1187 : decode cL_law 1187 = .ok (.iload 4, 2) := ds_row dvL_law_1159 dhL_law_1159 20 (q := 28) rfl
theorem dL_law_1189 : decode cL_law 1189 = .ok (.iconst 1, 1) := ds_row dvL_law_1159 dhL_law_1159 21 (q := 30) rfl
theorem dL_law_1190 : decode cL_law 1190 = .ok (.iadd, 1) := ds_row dvL_law_1159 dhL_law_1159 22 (q := 31) rfl
theorem dL_law_1191 : decode cL_law 1191 = .ok (.iaload, 1) := ds_row dvL_law_1159 dhL_law_1159 23 (q := 32) rfl
theorem dL_law_1192 : decode cL_law 1192 = .ok (.aload_n 0, 1) := ds_row dvL_law_1159 dhL_law_1159 24 (q := 33) rfl
theorem dL_law_1193 : decode cL_law 1193 = .ok (.iload 4, 2) := ds_row dvL_law_1159 dhL_law_1159 25 (q := 34) rfl
theorem dL_law_1195 : decode cL_law 1195 = .ok (.iconst 2, 1) := ds_row dvL_law_1159 dhL_law_1159 26 (q := 36) rfl
theorem dL_law_1196 : decode cL_law 1196 = .ok (.iadd, 1) := ds_row dvL_law_1159 dhL_law_1159 27 (q := 37) rfl
theorem dL_law_1197 : decode cL_law 1197 = .ok (.iaload, 1) := ds_row dvL_law_1159 dhL_law_1159 28 (q := 38) rfl
theorem dL_law_1198 : decode cL_law 1198 = .ok (.invokevirtual 130, 3) := ds_row dvL_law_1159 dhL_law_1159 29 (q := 39) rfl
theorem dL_law_1201 : decode cL_law 1201 = .ok (.pop, 1) := ds_row dvL_law_1159 dhL_law_1159 30 (q := 42) rfl
theorem dL_law_1202 : decode cL_law 1202 = .ok (.goto 689, 3) := ds_row dvL_law_1159 dhL_law_1159 31 (q := 43) rfl
theorem dL_law_1205 : decode cL_law 1205 = .ok (.aload_n 1, 1) := ds_row dvL_law_1159 dhL_law_1159 32 (q := 46) rfl
theorem dL_law_1206 : decode cL_law 1206 = .ok (.aload_n 0, 1) := ds_row dvL_law_1159 dhL_law_1159 33 (q := 47) rfl
theorem dL_law_1207 : decode cL_law 1207 = .ok (.iload 4, 2) := ds_row dvL_law_1159 dhL_law_1159 34 (q := 48) rfl
theorem dL_law_1209 : decode cL_law 1209 = .ok (.iconst 1, 1) := ds_row dvL_law_1159 dhL_law_1159 35 (q := 50) rfl
theorem dL_law_1210 : decode cL_law 1210 = .ok (.iadd, 1) := ds_row dvL_law_1159 dhL_law_1159 36 (q := 51) rfl
theorem dL_law_1211 : decode cL_law 1211 = .ok (.iaload, 1) := ds_row dvL_law_1159 dhL_law_1159 37 (q := 52) rfl
theorem dL_law_1212 : decode cL_law 1212 = .ok (.aload_n 0, 1) := ds_row dvL_law_1159 dhL_law_1159 38 (q := 53) rfl
theorem dL_law_1213 : decode cL_law 1213 = .ok (.iload 4, 2) := ds_row dvL_law_1159 dhL_law_1159 39 (q := 54) rfl
abbrev dBL_law_1215 : List UInt8 := [5, 96, 46, 182, 0, 131, 87, 44, 42, 21, 4, 4, 96, 46, 42, 21, 4, 5, 96, 46, 182, 0, 134, 87, 167, 2, 140, 43, 42, 21, 4, 4, 96, 46, 42, 21, 4, 5, 96, 46, 45, 184, 0, 135, 54, 5, 44, 42, 21, 4, 4, 96, 46, 42, 21, 4]
abbrev dRL_law_1215 : List (Nat × Jvm.ClassFile.Instr × Nat) := [(0, .iconst 2, 1), (1, .iadd, 1), (2, .iaload, 1), (3, .invokevirtual 131, 3), (6, .pop, 1), (7, .aload_n 2, 1), (8, .aload_n 0, 1), (9, .iload 4, 2), (11, .iconst 1, 1), (12, .iadd, 1), (13, .iaload, 1), (14, .aload_n 0, 1), (15, .iload 4, 2), (17, .iconst 2, 1), (18, .iadd, 1), (19, .iaload, 1), (20, .invokevirtual 134, 3), (23, .pop, 1), (24, .goto 652, 3), (27, .aload_n 1, 1), (28, .aload_n 0, 1), (29, .iload 4, 2), (31, .iconst 1, 1), (32, .iadd, 1), (33, .iaload, 1), (34, .aload_n 0, 1), (35, .iload 4, 2), (37, .iconst 2, 1), (38, .iadd, 1), (39, .iaload, 1), (40, .aload_n 3, 1), (41, .invokestatic 135, 3), (44, .istore 5, 2), (46, .aload_n 2, 1), (47, .aload_n 0, 1), (48, .iload 4, 2), (50, .iconst 1, 1), (51, .iadd, 1), (52, .iaload, 1), (53, .aload_n 0, 1), (54, .iload 4, 2)]
theorem dvL_law_1215 : ds_V cL_law (.mk (List.toArray dBL_law_1215)) 1215 := ds_at cL_law 1215 dBL_law_1215 (by decide +kernel)
theorem dhL_law_1215 : ds_all (.mk (List.toArray dBL_law_1215)) dRL_law_1215 = true := by decide +kernel
theorem dL_law_1215 : decode cL_law 1215 = .ok (.iconst 2, 1) := ds_row dvL_law_1215 dhL_law_1215 0 (q := 0) rfl
theorem dL_law_1216 : decode cL_law 1216 = .ok (.iadd, 1) := ds_row dvL_law_1215 dhL_law_1215 1 (q := 1) rfl
theorem dL_law_1217 : decode cL_law 1217 = .ok (.iaload, 1) := ds_row dvL_law_1215 dhL_law_1215 2 (q := 2) rfl
theorem dL_law_1218 : decode cL_law 1218 = .ok (.invokevirtual 131, 3) := ds_row dvL_law_1215 dhL_law_1215 3 (q := 3) rfl
theorem dL_law_1221 : decode cL_law 1221 = .ok (.pop, 1) := ds_row dvL_law_1215 dhL_law_1215 4 (q := 6) rfl
theorem dL_law_1222 : decode cL_law 1222 = .ok (.aload_n 2, 1) := ds_row dvL_law_1215 dhL_law_1215 5 (q := 7) rfl
theorem dL_law_1223 : decode cL_law 1223 = .ok (.aload_n 0, 1) := ds_row dvL_law_1215 dhL_law_1215 6 (q := 8) rfl
theorem dL_law_1224 : decode cL_law 1224 = .ok (.iload 4, 2) := ds_row dvL_law_1215 dhL_law_1215 7 (q := 9) rfl
theorem dL_law_1226 : decode cL_law 1226 = .ok (.iconst 1, 1) := ds_row dvL_law_1215 dhL_law_1215 8 (q := 11) rfl
theorem dL_law_1227 : decode cL_law 1227 = .ok (.iadd, 1) := ds_row dvL_law_1215 dhL_law_1215 9 (q := 12) rfl
theorem dL_law_1228 : decode cL_law 1228 = .ok (.iaload, 1) := ds_row dvL_law_1215 dhL_law_1215 10 (q := 13) rfl
theorem dL_law_1229 : decode cL_law 1229 = .ok (.aload_n 0, 1) := ds_row dvL_law_1215 dhL_law_1215 11 (q := 14) rfl
theorem dL_law_1230 : decode cL_law 1230 = .ok (.iload 4, 2) := ds_row dvL_law_1215 dhL_law_1215 12 (q := 15) rfl
theorem dL_law_1232 : decode cL_law 1232 = .ok (.iconst 2, 1) := ds_row dvL_law_1215 dhL_law_1215 13 (q := 17) rfl
theorem dL_law_1233 : decode cL_law 1233 = .ok (.iadd, 1) := ds_row dvL_law_1215 dhL_law_1215 14 (q := 18) rfl
theorem dL_law_1234 : decode cL_law 1234 = .ok (.iaload, 1) := ds_row dvL_law_1215 dhL_law_1215 15 (q := 19) rfl
theorem dL_law_1235 : decode cL_law 1235 = .ok (.invokevirtual 134, 3) := ds_row dvL_law_1215 dhL_law_1215 16 (q := 20) rfl
theorem dL_law_1238 : decode cL_law 1238 = .ok (.pop, 1) := ds_row dvL_law_1215 dhL_law_1215 17 (q := 23) rfl
theorem dL_law_1239 : decode cL_law 1239 = .ok (.goto 652, 3) := ds_row dvL_law_1215 dhL_law_1215 18 (q := 24) rfl
theorem dL_law_1242 : decode cL_law 1242 = .ok (.aload_n 1, 1) := ds_row dvL_law_1215 dhL_law_1215 19 (q := 27) rfl
theorem dL_law_1243 : decode cL_law 1243 = .ok (.aload_n 0, 1) := ds_row dvL_law_1215 dhL_law_1215 20 (q := 28) rfl
theorem dL_law_1244 : decode cL_law 1244 = .ok (.iload 4, 2) := ds_row dvL_law_1215 dhL_law_1215 21 (q := 29) rfl
theorem dL_law_1246 : decode cL_law 1246 = .ok (.iconst 1, 1) := ds_row dvL_law_1215 dhL_law_1215 22 (q := 31) rfl
theorem dL_law_1247 : decode cL_law 1247 = .ok (.iadd, 1) := ds_row dvL_law_1215 dhL_law_1215 23 (q := 32) rfl
theorem dL_law_1248 : decode cL_law 1248 = .ok (.iaload, 1) := ds_row dvL_law_1215 dhL_law_1215 24 (q := 33) rfl
theorem dL_law_1249 : decode cL_law 1249 = .ok (.aload_n 0, 1) := ds_row dvL_law_1215 dhL_law_1215 25 (q := 34) rfl
theorem dL_law_1250 : decode cL_law 1250 = .ok (.iload 4, 2) := ds_row dvL_law_1215 dhL_law_1215 26 (q := 35) rfl
theorem dL_law_1252 : decode cL_law 1252 = .ok (.iconst 2, 1) := ds_row dvL_law_1215 dhL_law_1215 27 (q := 37) rfl
theorem dL_law_1253 : decode cL_law 1253 = .ok (.iadd, 1) := ds_row dvL_law_1215 dhL_law_1215 28 (q := 38) rfl
theorem dL_law_1254 : decode cL_law 1254 = .ok (.iaload, 1) := ds_row dvL_law_1215 dhL_law_1215 29 (q := 39) rfl
theorem dL_law_1255 : decode cL_law 1255 = .ok (.aload_n 3, 1) := ds_row dvL_law_1215 dhL_law_1215 30 (q := 40) rfl
theorem dL_law_1256 : decode cL_law 1256 = .ok (.invokestatic 135, 3) := ds_row dvL_law_1215 dhL_law_1215 31 (q := 41) rfl
theorem dL_law_1259 : decode cL_law 1259 = .ok (.istore 5, 2) := ds_row dvL_law_1215 dhL_law_1215 32 (q := 44) rfl
theorem dL_law_1261 : decode cL_law 1261 = .ok (.aload_n 2, 1) := ds_row dvL_law_1215 dhL_law_1215 33 (q := 46) rfl
theorem dL_law_1262 : decode cL_law 1262 = .ok (.aload_n 0, 1) := ds_row dvL_law_1215 dhL_law_1215 34 (q := 47) rfl
theorem dL_law_1263 : decode cL_law 1263 = .ok (.iload 4, 2) := ds_row dvL_law_1215 dhL_law_1215 35 (q := 48) rfl
theorem dL_law_1265 : decode cL_law 1265 = .ok (.iconst 1, 1) := ds_row dvL_law_1215 dhL_law_1215 36 (q := 50) rfl
theorem dL_law_1266 : decode cL_law 1266 = .ok (.iadd, 1) := ds_row dvL_law_1215 dhL_law_1215 37 (q := 51) rfl
theorem dL_law_1267 : decode cL_law 1267 = .ok (.iaload, 1) := ds_row dvL_law_1215 dhL_law_1215 38 (q := 52) rfl
theorem dL_law_1268 : decode cL_law 1268 = .ok (.aload_n 0, 1) := ds_row dvL_law_1215 dhL_law_1215 39 (q := 53) rfl
theorem dL_law_1269 : decode cL_law 1269 = .ok (.iload 4, 2) := ds_row dvL_law_1215 dhL_law_1215 40 (q := 54) rfl
abbrev dBL_law_1271 : List UInt8 := [5, 96, 46, 182, 0, 137, 54, 6, 167, 2, 100, 43, 42, 21, 4, 4, 96, 46, 42, 21, 4, 5, 96, 46, 182, 0, 138, 87, 44, 42, 21, 4, 4, 96, 46, 42, 21, 4, 5, 96, 46, 182, 0, 141, 87, 167, 2, 63, 43, 42, 21, 4, 4, 96, 46]
abbrev dRL_law_1271 : List (Nat × Jvm.ClassFile.Instr × Nat) := [(0, .iconst 2, 1), (1, .iadd, 1), (2, .iaload, 1), (3, .invokevirtual 137, 3), (6, .istore 6, 2), (8, .goto 612, 3), (11, .aload_n 1, 1), (12, .aload_n 0, 1), (13, .iload 4, 2), (15, .iconst 1, 1), (16, .iadd, 1), (17, .iaload, 1), (18, .aload_n 0, 1), (19, .iload 4, 2), (21, .iconst 2, 1), (22, .iadd, 1), (23, .iaload, 1), (24, .invokevirtual 138, 3), (27, .pop, 1), (28, .aload_n 2, 1), (29, .aload_n 0, 1), (30, .iload 4, 2), (32, .iconst 1, 1), (33, .iadd, 1), (34, .iaload, 1), (35, .aload_n 0, 1), (36, .iload 4, 2), (38, .iconst 2, 1), (39, .iadd, 1), (40, .iaload, 1), (41, .invokevirtual 141, 3), (44, .pop, 1), (45, .goto 575, 3), (48, .aload_n 1, 1), (49, .aload_n 0, 1), (50, .iload 4, 2), (52, .iconst 1, 1), (53, .iadd, 1), (54, .iaload, 1)]
theorem dvL_law_1271 : ds_V cL_law (.mk (List.toArray dBL_law_1271)) 1271 := ds_at cL_law 1271 dBL_law_1271 (by decide +kernel)
theorem dhL_law_1271 : ds_all (.mk (List.toArray dBL_law_1271)) dRL_law_1271 = true := by decide +kernel
theorem dL_law_1271 : decode cL_law 1271 = .ok (.iconst 2, 1) := ds_row dvL_law_1271 dhL_law_1271 0 (q := 0) rfl
theorem dL_law_1272 : decode cL_law 1272 = .ok (.iadd, 1) := ds_row dvL_law_1271 dhL_law_1271 1 (q := 1) rfl
theorem dL_law_1273 : decode cL_law 1273 = .ok (.iaload, 1) := ds_row dvL_law_1271 dhL_law_1271 2 (q := 2) rfl
theorem dL_law_1274 : decode cL_law 1274 = .ok (.invokevirtual 137, 3) := ds_row dvL_law_1271 dhL_law_1271 3 (q := 3) rfl
theorem dL_law_1277 : decode cL_law 1277 = .ok (.istore 6, 2) := ds_row dvL_law_1271 dhL_law_1271 4 (q := 6) rfl
theorem dL_law_1279 : decode cL_law 1279 = .ok (.goto 612, 3) := ds_row dvL_law_1271 dhL_law_1271 5 (q := 8) rfl
theorem dL_law_1282 : decode cL_law 1282 = .ok (.aload_n 1, 1) := ds_row dvL_law_1271 dhL_law_1271 6 (q := 11) rfl
theorem dL_law_1283 : decode cL_law 1283 = .ok (.aload_n 0, 1) := ds_row dvL_law_1271 dhL_law_1271 7 (q := 12) rfl
theorem dL_law_1284 : decode cL_law 1284 = .ok (.iload 4, 2) := ds_row dvL_law_1271 dhL_law_1271 8 (q := 13) rfl
theorem dL_law_1286 : decode cL_law 1286 = .ok (.iconst 1, 1) := ds_row dvL_law_1271 dhL_law_1271 9 (q := 15) rfl
theorem dL_law_1287 : decode cL_law 1287 = .ok (.iadd, 1) := ds_row dvL_law_1271 dhL_law_1271 10 (q := 16) rfl
theorem dL_law_1288 : decode cL_law 1288 = .ok (.iaload, 1) := ds_row dvL_law_1271 dhL_law_1271 11 (q := 17) rfl
theorem dL_law_1289 : decode cL_law 1289 = .ok (.aload_n 0, 1) := ds_row dvL_law_1271 dhL_law_1271 12 (q := 18) rfl
theorem dL_law_1290 : decode cL_law 1290 = .ok (.iload 4, 2) := ds_row dvL_law_1271 dhL_law_1271 13 (q := 19) rfl
theorem dL_law_1292 : decode cL_law 1292 = .ok (.iconst 2, 1) := ds_row dvL_law_1271 dhL_law_1271 14 (q := 21) rfl
theorem dL_law_1293 : decode cL_law 1293 = .ok (.iadd, 1) := ds_row dvL_law_1271 dhL_law_1271 15 (q := 22) rfl
theorem dL_law_1294 : decode cL_law 1294 = .ok (.iaload, 1) := ds_row dvL_law_1271 dhL_law_1271 16 (q := 23) rfl
theorem dL_law_1295 : decode cL_law 1295 = .ok (.invokevirtual 138, 3) := ds_row dvL_law_1271 dhL_law_1271 17 (q := 24) rfl
theorem dL_law_1298 : decode cL_law 1298 = .ok (.pop, 1) := ds_row dvL_law_1271 dhL_law_1271 18 (q := 27) rfl
theorem dL_law_1299 : decode cL_law 1299 = .ok (.aload_n 2, 1) := ds_row dvL_law_1271 dhL_law_1271 19 (q := 28) rfl
theorem dL_law_1300 : decode cL_law 1300 = .ok (.aload_n 0, 1) := ds_row dvL_law_1271 dhL_law_1271 20 (q := 29) rfl
theorem dL_law_1301 : decode cL_law 1301 = .ok (.iload 4, 2) := ds_row dvL_law_1271 dhL_law_1271 21 (q := 30) rfl
theorem dL_law_1303 : decode cL_law 1303 = .ok (.iconst 1, 1) := ds_row dvL_law_1271 dhL_law_1271 22 (q := 32) rfl
theorem dL_law_1304 : decode cL_law 1304 = .ok (.iadd, 1) := ds_row dvL_law_1271 dhL_law_1271 23 (q := 33) rfl
theorem dL_law_1305 : decode cL_law 1305 = .ok (.iaload, 1) := ds_row dvL_law_1271 dhL_law_1271 24 (q := 34) rfl
theorem dL_law_1306 : decode cL_law 1306 = .ok (.aload_n 0, 1) := ds_row dvL_law_1271 dhL_law_1271 25 (q := 35) rfl
theorem dL_law_1307 : decode cL_law 1307 = .ok (.iload 4, 2) := ds_row dvL_law_1271 dhL_law_1271 26 (q := 36) rfl
theorem dL_law_1309 : decode cL_law 1309 = .ok (.iconst 2, 1) := ds_row dvL_law_1271 dhL_law_1271 27 (q := 38) rfl
theorem dL_law_1310 : decode cL_law 1310 = .ok (.iadd, 1) := ds_row dvL_law_1271 dhL_law_1271 28 (q := 39) rfl
theorem dL_law_1311 : decode cL_law 1311 = .ok (.iaload, 1) := ds_row dvL_law_1271 dhL_law_1271 29 (q := 40) rfl
theorem dL_law_1312 : decode cL_law 1312 = .ok (.invokevirtual 141, 3) := ds_row dvL_law_1271 dhL_law_1271 30 (q := 41) rfl
theorem dL_law_1315 : decode cL_law 1315 = .ok (.pop, 1) := ds_row dvL_law_1271 dhL_law_1271 31 (q := 44) rfl
theorem dL_law_1316 : decode cL_law 1316 = .ok (.goto 575, 3) := ds_row dvL_law_1271 dhL_law_1271 32 (q := 45) rfl
theorem dL_law_1319 : decode cL_law 1319 = .ok (.aload_n 1, 1) := ds_row dvL_law_1271 dhL_law_1271 33 (q := 48) rfl
theorem dL_law_1320 : decode cL_law 1320 = .ok (.aload_n 0, 1) := ds_row dvL_law_1271 dhL_law_1271 34 (q := 49) rfl
theorem dL_law_1321 : decode cL_law 1321 = .ok (.iload 4, 2) := ds_row dvL_law_1271 dhL_law_1271 35 (q := 50) rfl
theorem dL_law_1323 : decode cL_law 1323 = .ok (.iconst 1, 1) := ds_row dvL_law_1271 dhL_law_1271 36 (q := 52) rfl
theorem dL_law_1324 : decode cL_law 1324 = .ok (.iadd, 1) := ds_row dvL_law_1271 dhL_law_1271 37 (q := 53) rfl
theorem dL_law_1325 : decode cL_law 1325 = .ok (.iaload, 1) := ds_row dvL_law_1271 dhL_law_1271 38 (q := 54) rfl
abbrev dBL_law_1326 : List UInt8 := [182, 0, 142, 87, 44, 42, 21, 4, 4, 96, 46, 182, 0, 145, 87, 167, 2, 38, 43, 42, 21, 4, 4, 96, 46, 42, 21, 4, 5, 96, 46, 42, 21, 4, 6, 96, 46, 42, 21, 4, 7, 96, 46, 182, 0, 146, 87, 44, 42, 21, 4, 4, 96, 46, 42]
abbrev dRL_law_1326 : List (Nat × Jvm.ClassFile.Instr × Nat) := [(0, .invokevirtual 142, 3), (3, .pop, 1), (4, .aload_n 2, 1), (5, .aload_n 0, 1), (6, .iload 4, 2), (8, .iconst 1, 1), (9, .iadd, 1), (10, .iaload, 1), (11, .invokevirtual 145, 3), (14, .pop, 1), (15, .goto 550, 3), (18, .aload_n 1, 1), (19, .aload_n 0, 1), (20, .iload 4, 2), (22, .iconst 1, 1), (23, .iadd, 1), (24, .iaload, 1), (25, .aload_n 0, 1), (26, .iload 4, 2), (28, .iconst 2, 1), (29, .iadd, 1), (30, .iaload, 1), (31, .aload_n 0, 1), (32, .iload 4, 2), (34, .iconst 3, 1), (35, .iadd, 1), (36, .iaload, 1), (37, .aload_n 0, 1), (38, .iload 4, 2), (40, .iconst 4, 1), (41, .iadd, 1), (42, .iaload, 1), (43, .invokevirtual 146, 3), (46, .pop, 1), (47, .aload_n 2, 1), (48, .aload_n 0, 1), (49, .iload 4, 2), (51, .iconst 1, 1), (52, .iadd, 1), (53, .iaload, 1), (54, .aload_n 0, 1)]
theorem dvL_law_1326 : ds_V cL_law (.mk (List.toArray dBL_law_1326)) 1326 := ds_at cL_law 1326 dBL_law_1326 (by decide +kernel)
theorem dhL_law_1326 : ds_all (.mk (List.toArray dBL_law_1326)) dRL_law_1326 = true := by decide +kernel
theorem dL_law_1326 : decode cL_law 1326 = .ok (.invokevirtual 142, 3) := ds_row dvL_law_1326 dhL_law_1326 0 (q := 0) rfl
theorem dL_law_1329 : decode cL_law 1329 = .ok (.pop, 1) := ds_row dvL_law_1326 dhL_law_1326 1 (q := 3) rfl
theorem dL_law_1330 : decode cL_law 1330 = .ok (.aload_n 2, 1) := ds_row dvL_law_1326 dhL_law_1326 2 (q := 4) rfl
theorem dL_law_1331 : decode cL_law 1331 = .ok (.aload_n 0, 1) := ds_row dvL_law_1326 dhL_law_1326 3 (q := 5) rfl
theorem dL_law_1332 : decode cL_law 1332 = .ok (.iload 4, 2) := ds_row dvL_law_1326 dhL_law_1326 4 (q := 6) rfl
theorem dL_law_1334 : decode cL_law 1334 = .ok (.iconst 1, 1) := ds_row dvL_law_1326 dhL_law_1326 5 (q := 8) rfl
theorem dL_law_1335 : decode cL_law 1335 = .ok (.iadd, 1) := ds_row dvL_law_1326 dhL_law_1326 6 (q := 9) rfl
theorem dL_law_1336 : decode cL_law 1336 = .ok (.iaload, 1) := ds_row dvL_law_1326 dhL_law_1326 7 (q := 10) rfl
theorem dL_law_1337 : decode cL_law 1337 = .ok (.invokevirtual 145, 3) := ds_row dvL_law_1326 dhL_law_1326 8 (q := 11) rfl
theorem dL_law_1340 : decode cL_law 1340 = .ok (.pop, 1) := ds_row dvL_law_1326 dhL_law_1326 9 (q := 14) rfl
theorem dL_law_1341 : decode cL_law 1341 = .ok (.goto 550, 3) := ds_row dvL_law_1326 dhL_law_1326 10 (q := 15) rfl
theorem dL_law_1344 : decode cL_law 1344 = .ok (.aload_n 1, 1) := ds_row dvL_law_1326 dhL_law_1326 11 (q := 18) rfl
theorem dL_law_1345 : decode cL_law 1345 = .ok (.aload_n 0, 1) := ds_row dvL_law_1326 dhL_law_1326 12 (q := 19) rfl
theorem dL_law_1346 : decode cL_law 1346 = .ok (.iload 4, 2) := ds_row dvL_law_1326 dhL_law_1326 13 (q := 20) rfl
theorem dL_law_1348 : decode cL_law 1348 = .ok (.iconst 1, 1) := ds_row dvL_law_1326 dhL_law_1326 14 (q := 22) rfl
theorem dL_law_1349 : decode cL_law 1349 = .ok (.iadd, 1) := ds_row dvL_law_1326 dhL_law_1326 15 (q := 23) rfl
theorem dL_law_1350 : decode cL_law 1350 = .ok (.iaload, 1) := ds_row dvL_law_1326 dhL_law_1326 16 (q := 24) rfl
theorem dL_law_1351 : decode cL_law 1351 = .ok (.aload_n 0, 1) := ds_row dvL_law_1326 dhL_law_1326 17 (q := 25) rfl
theorem dL_law_1352 : decode cL_law 1352 = .ok (.iload 4, 2) := ds_row dvL_law_1326 dhL_law_1326 18 (q := 26) rfl
theorem dL_law_1354 : decode cL_law 1354 = .ok (.iconst 2, 1) := ds_row dvL_law_1326 dhL_law_1326 19 (q := 28) rfl
theorem dL_law_1355 : decode cL_law 1355 = .ok (.iadd, 1) := ds_row dvL_law_1326 dhL_law_1326 20 (q := 29) rfl
theorem dL_law_1356 : decode cL_law 1356 = .ok (.iaload, 1) := ds_row dvL_law_1326 dhL_law_1326 21 (q := 30) rfl
theorem dL_law_1357 : decode cL_law 1357 = .ok (.aload_n 0, 1) := ds_row dvL_law_1326 dhL_law_1326 22 (q := 31) rfl
theorem dL_law_1358 : decode cL_law 1358 = .ok (.iload 4, 2) := ds_row dvL_law_1326 dhL_law_1326 23 (q := 32) rfl
theorem dL_law_1360 : decode cL_law 1360 = .ok (.iconst 3, 1) := ds_row dvL_law_1326 dhL_law_1326 24 (q := 34) rfl
theorem dL_law_1361 : decode cL_law 1361 = .ok (.iadd, 1) := ds_row dvL_law_1326 dhL_law_1326 25 (q := 35) rfl
theorem dL_law_1362 : decode cL_law 1362 = .ok (.iaload, 1) := ds_row dvL_law_1326 dhL_law_1326 26 (q := 36) rfl
theorem dL_law_1363 : decode cL_law 1363 = .ok (.aload_n 0, 1) := ds_row dvL_law_1326 dhL_law_1326 27 (q := 37) rfl
theorem dL_law_1364 : decode cL_law 1364 = .ok (.iload 4, 2) := ds_row dvL_law_1326 dhL_law_1326 28 (q := 38) rfl
theorem dL_law_1366 : decode cL_law 1366 = .ok (.iconst 4, 1) := ds_row dvL_law_1326 dhL_law_1326 29 (q := 40) rfl
theorem dL_law_1367 : decode cL_law 1367 = .ok (.iadd, 1) := ds_row dvL_law_1326 dhL_law_1326 30 (q := 41) rfl
theorem dL_law_1368 : decode cL_law 1368 = .ok (.iaload, 1) := ds_row dvL_law_1326 dhL_law_1326 31 (q := 42) rfl
theorem dL_law_1369 : decode cL_law 1369 = .ok (.invokevirtual 146, 3) := ds_row dvL_law_1326 dhL_law_1326 32 (q := 43) rfl
theorem dL_law_1372 : decode cL_law 1372 = .ok (.pop, 1) := ds_row dvL_law_1326 dhL_law_1326 33 (q := 46) rfl
theorem dL_law_1373 : decode cL_law 1373 = .ok (.aload_n 2, 1) := ds_row dvL_law_1326 dhL_law_1326 34 (q := 47) rfl
theorem dL_law_1374 : decode cL_law 1374 = .ok (.aload_n 0, 1) := ds_row dvL_law_1326 dhL_law_1326 35 (q := 48) rfl
theorem dL_law_1375 : decode cL_law 1375 = .ok (.iload 4, 2) := ds_row dvL_law_1326 dhL_law_1326 36 (q := 49) rfl
theorem dL_law_1377 : decode cL_law 1377 = .ok (.iconst 1, 1) := ds_row dvL_law_1326 dhL_law_1326 37 (q := 51) rfl
theorem dL_law_1378 : decode cL_law 1378 = .ok (.iadd, 1) := ds_row dvL_law_1326 dhL_law_1326 38 (q := 52) rfl
theorem dL_law_1379 : decode cL_law 1379 = .ok (.iaload, 1) := ds_row dvL_law_1326 dhL_law_1326 39 (q := 53) rfl
theorem dL_law_1380 : decode cL_law 1380 = .ok (.aload_n 0, 1) := ds_row dvL_law_1326 dhL_law_1326 40 (q := 54) rfl
abbrev dBL_law_1381 : List UInt8 := [21, 4, 5, 96, 46, 42, 21, 4, 6, 96, 46, 42, 21, 4, 7, 96, 46, 182, 0, 149, 87, 167, 1, 233, 43, 42, 21, 4, 4, 96, 46, 42, 21, 4, 5, 96, 46, 42, 21, 4, 6, 96, 46, 182, 0, 150, 87, 44, 42, 21, 4, 4, 96, 46, 42]
abbrev dRL_law_1381 : List (Nat × Jvm.ClassFile.Instr × Nat) := [(0, .iload 4, 2), (2, .iconst 2, 1), (3, .iadd, 1), (4, .iaload, 1), (5, .aload_n 0, 1), (6, .iload 4, 2), (8, .iconst 3, 1), (9, .iadd, 1), (10, .iaload, 1), (11, .aload_n 0, 1), (12, .iload 4, 2), (14, .iconst 4, 1), (15, .iadd, 1), (16, .iaload, 1), (17, .invokevirtual 149, 3), (20, .pop, 1), (21, .goto 489, 3), (24, .aload_n 1, 1), (25, .aload_n 0, 1), (26, .iload 4, 2), (28, .iconst 1, 1), (29, .iadd, 1), (30, .iaload, 1), (31, .aload_n 0, 1), (32, .iload 4, 2), (34, .iconst 2, 1), (35, .iadd, 1), (36, .iaload, 1), (37, .aload_n 0, 1), (38, .iload 4, 2), (40, .iconst 3, 1), (41, .iadd, 1), (42, .iaload, 1), (43, .invokevirtual 150, 3), (46, .pop, 1), (47, .aload_n 2, 1), (48, .aload_n 0, 1), (49, .iload 4, 2), (51, .iconst 1, 1), (52, .iadd, 1), (53, .iaload, 1), (54, .aload_n 0, 1)]
theorem dvL_law_1381 : ds_V cL_law (.mk (List.toArray dBL_law_1381)) 1381 := ds_at cL_law 1381 dBL_law_1381 (by decide +kernel)
theorem dhL_law_1381 : ds_all (.mk (List.toArray dBL_law_1381)) dRL_law_1381 = true := by decide +kernel
theorem dL_law_1381 : decode cL_law 1381 = .ok (.iload 4, 2) := ds_row dvL_law_1381 dhL_law_1381 0 (q := 0) rfl
theorem dL_law_1383 : decode cL_law 1383 = .ok (.iconst 2, 1) := ds_row dvL_law_1381 dhL_law_1381 1 (q := 2) rfl
theorem dL_law_1384 : decode cL_law 1384 = .ok (.iadd, 1) := ds_row dvL_law_1381 dhL_law_1381 2 (q := 3) rfl
theorem dL_law_1385 : decode cL_law 1385 = .ok (.iaload, 1) := ds_row dvL_law_1381 dhL_law_1381 3 (q := 4) rfl
theorem dL_law_1386 : decode cL_law 1386 = .ok (.aload_n 0, 1) := ds_row dvL_law_1381 dhL_law_1381 4 (q := 5) rfl
theorem dL_law_1387 : decode cL_law 1387 = .ok (.iload 4, 2) := ds_row dvL_law_1381 dhL_law_1381 5 (q := 6) rfl
theorem dL_law_1389 : decode cL_law 1389 = .ok (.iconst 3, 1) := ds_row dvL_law_1381 dhL_law_1381 6 (q := 8) rfl
theorem dL_law_1390 : decode cL_law 1390 = .ok (.iadd, 1) := ds_row dvL_law_1381 dhL_law_1381 7 (q := 9) rfl
theorem dL_law_1391 : decode cL_law 1391 = .ok (.iaload, 1) := ds_row dvL_law_1381 dhL_law_1381 8 (q := 10) rfl
theorem dL_law_1392 : decode cL_law 1392 = .ok (.aload_n 0, 1) := ds_row dvL_law_1381 dhL_law_1381 9 (q := 11) rfl
theorem dL_law_1393 : decode cL_law 1393 = .ok (.iload 4, 2) := ds_row dvL_law_1381 dhL_law_1381 10 (q := 12) rfl
theorem dL_law_1395 : decode cL_law 1395 = .ok (.iconst 4, 1) := ds_row dvL_law_1381 dhL_law_1381 11 (q := 14) rfl
theorem dL_law_1396 : decode cL_law 1396 = .ok (.iadd, 1) := ds_row dvL_law_1381 dhL_law_1381 12 (q := 15) rfl
theorem dL_law_1397 : decode cL_law 1397 = .ok (.iaload, 1) := ds_row dvL_law_1381 dhL_law_1381 13 (q := 16) rfl
theorem dL_law_1398 : decode cL_law 1398 = .ok (.invokevirtual 149, 3) := ds_row dvL_law_1381 dhL_law_1381 14 (q := 17) rfl
theorem dL_law_1401 : decode cL_law 1401 = .ok (.pop, 1) := ds_row dvL_law_1381 dhL_law_1381 15 (q := 20) rfl
theorem dL_law_1402 : decode cL_law 1402 = .ok (.goto 489, 3) := ds_row dvL_law_1381 dhL_law_1381 16 (q := 21) rfl
theorem dL_law_1405 : decode cL_law 1405 = .ok (.aload_n 1, 1) := ds_row dvL_law_1381 dhL_law_1381 17 (q := 24) rfl
theorem dL_law_1406 : decode cL_law 1406 = .ok (.aload_n 0, 1) := ds_row dvL_law_1381 dhL_law_1381 18 (q := 25) rfl
theorem dL_law_1407 : decode cL_law 1407 = .ok (.iload 4, 2) := ds_row dvL_law_1381 dhL_law_1381 19 (q := 26) rfl
theorem dL_law_1409 : decode cL_law 1409 = .ok (.iconst 1, 1) := ds_row dvL_law_1381 dhL_law_1381 20 (q := 28) rfl
theorem dL_law_1410 : decode cL_law 1410 = .ok (.iadd, 1) := ds_row dvL_law_1381 dhL_law_1381 21 (q := 29) rfl
theorem dL_law_1411 : decode cL_law 1411 = .ok (.iaload, 1) := ds_row dvL_law_1381 dhL_law_1381 22 (q := 30) rfl
theorem dL_law_1412 : decode cL_law 1412 = .ok (.aload_n 0, 1) := ds_row dvL_law_1381 dhL_law_1381 23 (q := 31) rfl
theorem dL_law_1413 : decode cL_law 1413 = .ok (.iload 4, 2) := ds_row dvL_law_1381 dhL_law_1381 24 (q := 32) rfl
theorem dL_law_1415 : decode cL_law 1415 = .ok (.iconst 2, 1) := ds_row dvL_law_1381 dhL_law_1381 25 (q := 34) rfl
theorem dL_law_1416 : decode cL_law 1416 = .ok (.iadd, 1) := ds_row dvL_law_1381 dhL_law_1381 26 (q := 35) rfl
theorem dL_law_1417 : decode cL_law 1417 = .ok (.iaload, 1) := ds_row dvL_law_1381 dhL_law_1381 27 (q := 36) rfl
theorem dL_law_1418 : decode cL_law 1418 = .ok (.aload_n 0, 1) := ds_row dvL_law_1381 dhL_law_1381 28 (q := 37) rfl
theorem dL_law_1419 : decode cL_law 1419 = .ok (.iload 4, 2) := ds_row dvL_law_1381 dhL_law_1381 29 (q := 38) rfl
theorem dL_law_1421 : decode cL_law 1421 = .ok (.iconst 3, 1) := ds_row dvL_law_1381 dhL_law_1381 30 (q := 40) rfl
theorem dL_law_1422 : decode cL_law 1422 = .ok (.iadd, 1) := ds_row dvL_law_1381 dhL_law_1381 31 (q := 41) rfl
theorem dL_law_1423 : decode cL_law 1423 = .ok (.iaload, 1) := ds_row dvL_law_1381 dhL_law_1381 32 (q := 42) rfl
theorem dL_law_1424 : decode cL_law 1424 = .ok (.invokevirtual 150, 3) := ds_row dvL_law_1381 dhL_law_1381 33 (q := 43) rfl
theorem dL_law_1427 : decode cL_law 1427 = .ok (.pop, 1) := ds_row dvL_law_1381 dhL_law_1381 34 (q := 46) rfl
theorem dL_law_1428 : decode cL_law 1428 = .ok (.aload_n 2, 1) := ds_row dvL_law_1381 dhL_law_1381 35 (q := 47) rfl
theorem dL_law_1429 : decode cL_law 1429 = .ok (.aload_n 0, 1) := ds_row dvL_law_1381 dhL_law_1381 36 (q := 48) rfl
theorem dL_law_1430 : decode cL_law 1430 = .ok (.iload 4, 2) := ds_row dvL_law_1381 dhL_law_1381 37 (q := 49) rfl
theorem dL_law_1432 : decode cL_law 1432 = .ok (.iconst 1, 1) := ds_row dvL_law_1381 dhL_law_1381 38 (q := 51) rfl
theorem dL_law_1433 : decode cL_law 1433 = .ok (.iadd, 1) := ds_row dvL_law_1381 dhL_law_1381 39 (q := 52) rfl
theorem dL_law_1434 : decode cL_law 1434 = .ok (.iaload, 1) := ds_row dvL_law_1381 dhL_law_1381 40 (q := 53) rfl
theorem dL_law_1435 : decode cL_law 1435 = .ok (.aload_n 0, 1) := ds_row dvL_law_1381 dhL_law_1381 41 (q := 54) rfl
abbrev dBL_law_1436 : List UInt8 := [21, 4, 5, 96, 46, 42, 21, 4, 6, 96, 46, 182, 0, 153, 87, 167, 1, 184, 43, 42, 21, 4, 4, 96, 46, 42, 21, 4, 5, 96, 46, 42, 21, 4, 6, 96, 46, 182, 0, 154, 87, 44, 42, 21, 4, 4, 96, 46, 42, 21, 4, 5, 96, 46, 42]
abbrev dRL_law_1436 : List (Nat × Jvm.ClassFile.Instr × Nat) := [(0, .iload 4, 2), (2, .iconst 2, 1), (3, .iadd, 1), (4, .iaload, 1), (5, .aload_n 0, 1), (6, .iload 4, 2), (8, .iconst 3, 1), (9, .iadd, 1), (10, .iaload, 1), (11, .invokevirtual 153, 3), (14, .pop, 1), (15, .goto 440, 3), (18, .aload_n 1, 1), (19, .aload_n 0, 1), (20, .iload 4, 2), (22, .iconst 1, 1), (23, .iadd, 1), (24, .iaload, 1), (25, .aload_n 0, 1), (26, .iload 4, 2), (28, .iconst 2, 1), (29, .iadd, 1), (30, .iaload, 1), (31, .aload_n 0, 1), (32, .iload 4, 2), (34, .iconst 3, 1), (35, .iadd, 1), (36, .iaload, 1), (37, .invokevirtual 154, 3), (40, .pop, 1), (41, .aload_n 2, 1), (42, .aload_n 0, 1), (43, .iload 4, 2), (45, .iconst 1, 1), (46, .iadd, 1), (47, .iaload, 1), (48, .aload_n 0, 1), (49, .iload 4, 2), (51, .iconst 2, 1), (52, .iadd, 1), (53, .iaload, 1), (54, .aload_n 0, 1)]
theorem dvL_law_1436 : ds_V cL_law (.mk (List.toArray dBL_law_1436)) 1436 := ds_at cL_law 1436 dBL_law_1436 (by decide +kernel)
theorem dhL_law_1436 : ds_all (.mk (List.toArray dBL_law_1436)) dRL_law_1436 = true := by decide +kernel
theorem dL_law_1436 : decode cL_law 1436 = .ok (.iload 4, 2) := ds_row dvL_law_1436 dhL_law_1436 0 (q := 0) rfl
theorem dL_law_1438 : decode cL_law 1438 = .ok (.iconst 2, 1) := ds_row dvL_law_1436 dhL_law_1436 1 (q := 2) rfl
theorem dL_law_1439 : decode cL_law 1439 = .ok (.iadd, 1) := ds_row dvL_law_1436 dhL_law_1436 2 (q := 3) rfl
theorem dL_law_1440 : decode cL_law 1440 = .ok (.iaload, 1) := ds_row dvL_law_1436 dhL_law_1436 3 (q := 4) rfl
theorem dL_law_1441 : decode cL_law 1441 = .ok (.aload_n 0, 1) := ds_row dvL_law_1436 dhL_law_1436 4 (q := 5) rfl
theorem dL_law_1442 : decode cL_law 1442 = .ok (.iload 4, 2) := ds_row dvL_law_1436 dhL_law_1436 5 (q := 6) rfl
theorem dL_law_1444 : decode cL_law 1444 = .ok (.iconst 3, 1) := ds_row dvL_law_1436 dhL_law_1436 6 (q := 8) rfl
theorem dL_law_1445 : decode cL_law 1445 = .ok (.iadd, 1) := ds_row dvL_law_1436 dhL_law_1436 7 (q := 9) rfl
theorem dL_law_1446 : decode cL_law 1446 = .ok (.iaload, 1) := ds_row dvL_law_1436 dhL_law_1436 8 (q := 10) rfl
theorem dL_law_1447 : decode cL_law 1447 = .ok (.invokevirtual 153, 3) := ds_row dvL_law_1436 dhL_law_1436 9 (q := 11) rfl
theorem dL_law_1450 : decode cL_law 1450 = .ok (.pop, 1) := ds_row dvL_law_1436 dhL_law_1436 10 (q := 14) rfl
theorem dL_law_1451 : decode cL_law 1451 = .ok (.goto 440, 3) := ds_row dvL_law_1436 dhL_law_1436 11 (q := 15) rfl
theorem dL_law_1454 : decode cL_law 1454 = .ok (.aload_n 1, 1) := ds_row dvL_law_1436 dhL_law_1436 12 (q := 18) rfl
theorem dL_law_1455 : decode cL_law 1455 = .ok (.aload_n 0, 1) := ds_row dvL_law_1436 dhL_law_1436 13 (q := 19) rfl
theorem dL_law_1456 : decode cL_law 1456 = .ok (.iload 4, 2) := ds_row dvL_law_1436 dhL_law_1436 14 (q := 20) rfl
theorem dL_law_1458 : decode cL_law 1458 = .ok (.iconst 1, 1) := ds_row dvL_law_1436 dhL_law_1436 15 (q := 22) rfl
theorem dL_law_1459 : decode cL_law 1459 = .ok (.iadd, 1) := ds_row dvL_law_1436 dhL_law_1436 16 (q := 23) rfl
theorem dL_law_1460 : decode cL_law 1460 = .ok (.iaload, 1) := ds_row dvL_law_1436 dhL_law_1436 17 (q := 24) rfl
theorem dL_law_1461 : decode cL_law 1461 = .ok (.aload_n 0, 1) := ds_row dvL_law_1436 dhL_law_1436 18 (q := 25) rfl
theorem dL_law_1462 : decode cL_law 1462 = .ok (.iload 4, 2) := ds_row dvL_law_1436 dhL_law_1436 19 (q := 26) rfl
theorem dL_law_1464 : decode cL_law 1464 = .ok (.iconst 2, 1) := ds_row dvL_law_1436 dhL_law_1436 20 (q := 28) rfl
theorem dL_law_1465 : decode cL_law 1465 = .ok (.iadd, 1) := ds_row dvL_law_1436 dhL_law_1436 21 (q := 29) rfl
theorem dL_law_1466 : decode cL_law 1466 = .ok (.iaload, 1) := ds_row dvL_law_1436 dhL_law_1436 22 (q := 30) rfl
theorem dL_law_1467 : decode cL_law 1467 = .ok (.aload_n 0, 1) := ds_row dvL_law_1436 dhL_law_1436 23 (q := 31) rfl
theorem dL_law_1468 : decode cL_law 1468 = .ok (.iload 4, 2) := ds_row dvL_law_1436 dhL_law_1436 24 (q := 32) rfl
theorem dL_law_1470 : decode cL_law 1470 = .ok (.iconst 3, 1) := ds_row dvL_law_1436 dhL_law_1436 25 (q := 34) rfl
theorem dL_law_1471 : decode cL_law 1471 = .ok (.iadd, 1) := ds_row dvL_law_1436 dhL_law_1436 26 (q := 35) rfl
theorem dL_law_1472 : decode cL_law 1472 = .ok (.iaload, 1) := ds_row dvL_law_1436 dhL_law_1436 27 (q := 36) rfl
theorem dL_law_1473 : decode cL_law 1473 = .ok (.invokevirtual 154, 3) := ds_row dvL_law_1436 dhL_law_1436 28 (q := 37) rfl
theorem dL_law_1476 : decode cL_law 1476 = .ok (.pop, 1) := ds_row dvL_law_1436 dhL_law_1436 29 (q := 40) rfl
theorem dL_law_1477 : decode cL_law 1477 = .ok (.aload_n 2, 1) := ds_row dvL_law_1436 dhL_law_1436 30 (q := 41) rfl
theorem dL_law_1478 : decode cL_law 1478 = .ok (.aload_n 0, 1) := ds_row dvL_law_1436 dhL_law_1436 31 (q := 42) rfl
theorem dL_law_1479 : decode cL_law 1479 = .ok (.iload 4, 2) := ds_row dvL_law_1436 dhL_law_1436 32 (q := 43) rfl
theorem dL_law_1481 : decode cL_law 1481 = .ok (.iconst 1, 1) := ds_row dvL_law_1436 dhL_law_1436 33 (q := 45) rfl
theorem dL_law_1482 : decode cL_law 1482 = .ok (.iadd, 1) := ds_row dvL_law_1436 dhL_law_1436 34 (q := 46) rfl
theorem dL_law_1483 : decode cL_law 1483 = .ok (.iaload, 1) := ds_row dvL_law_1436 dhL_law_1436 35 (q := 47) rfl
theorem dL_law_1484 : decode cL_law 1484 = .ok (.aload_n 0, 1) := ds_row dvL_law_1436 dhL_law_1436 36 (q := 48) rfl
theorem dL_law_1485 : decode cL_law 1485 = .ok (.iload 4, 2) := ds_row dvL_law_1436 dhL_law_1436 37 (q := 49) rfl
theorem dL_law_1487 : decode cL_law 1487 = .ok (.iconst 2, 1) := ds_row dvL_law_1436 dhL_law_1436 38 (q := 51) rfl
theorem dL_law_1488 : decode cL_law 1488 = .ok (.iadd, 1) := ds_row dvL_law_1436 dhL_law_1436 39 (q := 52) rfl
theorem dL_law_1489 : decode cL_law 1489 = .ok (.iaload, 1) := ds_row dvL_law_1436 dhL_law_1436 40 (q := 53) rfl
theorem dL_law_1490 : decode cL_law 1490 = .ok (.aload_n 0, 1) := ds_row dvL_law_1436 dhL_law_1436 41 (q := 54) rfl
abbrev dBL_law_1491 : List UInt8 := [21, 4, 6, 96, 46, 182, 0, 157, 87, 167, 1, 135, 43, 42, 21, 4, 4, 96, 46, 42, 21, 4, 5, 96, 46, 42, 21, 4, 6, 96, 46, 182, 0, 158, 87, 44, 42, 21, 4, 4, 96, 46, 42, 21, 4, 5, 96, 46, 42, 21, 4, 6, 96, 46]
abbrev dRL_law_1491 : List (Nat × Jvm.ClassFile.Instr × Nat) := [(0, .iload 4, 2), (2, .iconst 3, 1), (3, .iadd, 1), (4, .iaload, 1), (5, .invokevirtual 157, 3), (8, .pop, 1), (9, .goto 391, 3), (12, .aload_n 1, 1), (13, .aload_n 0, 1), (14, .iload 4, 2), (16, .iconst 1, 1), (17, .iadd, 1), (18, .iaload, 1), (19, .aload_n 0, 1), (20, .iload 4, 2), (22, .iconst 2, 1), (23, .iadd, 1), (24, .iaload, 1), (25, .aload_n 0, 1), (26, .iload 4, 2), (28, .iconst 3, 1), (29, .iadd, 1), (30, .iaload, 1), (31, .invokevirtual 158, 3), (34, .pop, 1), (35, .aload_n 2, 1), (36, .aload_n 0, 1), (37, .iload 4, 2), (39, .iconst 1, 1), (40, .iadd, 1), (41, .iaload, 1), (42, .aload_n 0, 1), (43, .iload 4, 2), (45, .iconst 2, 1), (46, .iadd, 1), (47, .iaload, 1), (48, .aload_n 0, 1), (49, .iload 4, 2), (51, .iconst 3, 1), (52, .iadd, 1), (53, .iaload, 1)]
theorem dvL_law_1491 : ds_V cL_law (.mk (List.toArray dBL_law_1491)) 1491 := ds_at cL_law 1491 dBL_law_1491 (by decide +kernel)
theorem dhL_law_1491 : ds_all (.mk (List.toArray dBL_law_1491)) dRL_law_1491 = true := by decide +kernel
theorem dL_law_1491 : decode cL_law 1491 = .ok (.iload 4, 2) := ds_row dvL_law_1491 dhL_law_1491 0 (q := 0) rfl
theorem dL_law_1493 : decode cL_law 1493 = .ok (.iconst 3, 1) := ds_row dvL_law_1491 dhL_law_1491 1 (q := 2) rfl
theorem dL_law_1494 : decode cL_law 1494 = .ok (.iadd, 1) := ds_row dvL_law_1491 dhL_law_1491 2 (q := 3) rfl
theorem dL_law_1495 : decode cL_law 1495 = .ok (.iaload, 1) := ds_row dvL_law_1491 dhL_law_1491 3 (q := 4) rfl
theorem dL_law_1496 : decode cL_law 1496 = .ok (.invokevirtual 157, 3) := ds_row dvL_law_1491 dhL_law_1491 4 (q := 5) rfl
theorem dL_law_1499 : decode cL_law 1499 = .ok (.pop, 1) := ds_row dvL_law_1491 dhL_law_1491 5 (q := 8) rfl
theorem dL_law_1500 : decode cL_law 1500 = .ok (.goto 391, 3) := ds_row dvL_law_1491 dhL_law_1491 6 (q := 9) rfl
theorem dL_law_1503 : decode cL_law 1503 = .ok (.aload_n 1, 1) := ds_row dvL_law_1491 dhL_law_1491 7 (q := 12) rfl
theorem dL_law_1504 : decode cL_law 1504 = .ok (.aload_n 0, 1) := ds_row dvL_law_1491 dhL_law_1491 8 (q := 13) rfl
theorem dL_law_1505 : decode cL_law 1505 = .ok (.iload 4, 2) := ds_row dvL_law_1491 dhL_law_1491 9 (q := 14) rfl
theorem dL_law_1507 : decode cL_law 1507 = .ok (.iconst 1, 1) := ds_row dvL_law_1491 dhL_law_1491 10 (q := 16) rfl
theorem dL_law_1508 : decode cL_law 1508 = .ok (.iadd, 1) := ds_row dvL_law_1491 dhL_law_1491 11 (q := 17) rfl
theorem dL_law_1509 : decode cL_law 1509 = .ok (.iaload, 1) := ds_row dvL_law_1491 dhL_law_1491 12 (q := 18) rfl
theorem dL_law_1510 : decode cL_law 1510 = .ok (.aload_n 0, 1) := ds_row dvL_law_1491 dhL_law_1491 13 (q := 19) rfl
theorem dL_law_1511 : decode cL_law 1511 = .ok (.iload 4, 2) := ds_row dvL_law_1491 dhL_law_1491 14 (q := 20) rfl
theorem dL_law_1513 : decode cL_law 1513 = .ok (.iconst 2, 1) := ds_row dvL_law_1491 dhL_law_1491 15 (q := 22) rfl
theorem dL_law_1514 : decode cL_law 1514 = .ok (.iadd, 1) := ds_row dvL_law_1491 dhL_law_1491 16 (q := 23) rfl
theorem dL_law_1515 : decode cL_law 1515 = .ok (.iaload, 1) := ds_row dvL_law_1491 dhL_law_1491 17 (q := 24) rfl
theorem dL_law_1516 : decode cL_law 1516 = .ok (.aload_n 0, 1) := ds_row dvL_law_1491 dhL_law_1491 18 (q := 25) rfl
theorem dL_law_1517 : decode cL_law 1517 = .ok (.iload 4, 2) := ds_row dvL_law_1491 dhL_law_1491 19 (q := 26) rfl
theorem dL_law_1519 : decode cL_law 1519 = .ok (.iconst 3, 1) := ds_row dvL_law_1491 dhL_law_1491 20 (q := 28) rfl
theorem dL_law_1520 : decode cL_law 1520 = .ok (.iadd, 1) := ds_row dvL_law_1491 dhL_law_1491 21 (q := 29) rfl
theorem dL_law_1521 : decode cL_law 1521 = .ok (.iaload, 1) := ds_row dvL_law_1491 dhL_law_1491 22 (q := 30) rfl
theorem dL_law_1522 : decode cL_law 1522 = .ok (.invokevirtual 158, 3) := ds_row dvL_law_1491 dhL_law_1491 23 (q := 31) rfl
theorem dL_law_1525 : decode cL_law 1525 = .ok (.pop, 1) := ds_row dvL_law_1491 dhL_law_1491 24 (q := 34) rfl
theorem dL_law_1526 : decode cL_law 1526 = .ok (.aload_n 2, 1) := ds_row dvL_law_1491 dhL_law_1491 25 (q := 35) rfl
theorem dL_law_1527 : decode cL_law 1527 = .ok (.aload_n 0, 1) := ds_row dvL_law_1491 dhL_law_1491 26 (q := 36) rfl
theorem dL_law_1528 : decode cL_law 1528 = .ok (.iload 4, 2) := ds_row dvL_law_1491 dhL_law_1491 27 (q := 37) rfl
theorem dL_law_1530 : decode cL_law 1530 = .ok (.iconst 1, 1) := ds_row dvL_law_1491 dhL_law_1491 28 (q := 39) rfl
theorem dL_law_1531 : decode cL_law 1531 = .ok (.iadd, 1) := ds_row dvL_law_1491 dhL_law_1491 29 (q := 40) rfl
theorem dL_law_1532 : decode cL_law 1532 = .ok (.iaload, 1) := ds_row dvL_law_1491 dhL_law_1491 30 (q := 41) rfl
theorem dL_law_1533 : decode cL_law 1533 = .ok (.aload_n 0, 1) := ds_row dvL_law_1491 dhL_law_1491 31 (q := 42) rfl
theorem dL_law_1534 : decode cL_law 1534 = .ok (.iload 4, 2) := ds_row dvL_law_1491 dhL_law_1491 32 (q := 43) rfl
theorem dL_law_1536 : decode cL_law 1536 = .ok (.iconst 2, 1) := ds_row dvL_law_1491 dhL_law_1491 33 (q := 45) rfl
theorem dL_law_1537 : decode cL_law 1537 = .ok (.iadd, 1) := ds_row dvL_law_1491 dhL_law_1491 34 (q := 46) rfl
theorem dL_law_1538 : decode cL_law 1538 = .ok (.iaload, 1) := ds_row dvL_law_1491 dhL_law_1491 35 (q := 47) rfl
theorem dL_law_1539 : decode cL_law 1539 = .ok (.aload_n 0, 1) := ds_row dvL_law_1491 dhL_law_1491 36 (q := 48) rfl
theorem dL_law_1540 : decode cL_law 1540 = .ok (.iload 4, 2) := ds_row dvL_law_1491 dhL_law_1491 37 (q := 49) rfl
theorem dL_law_1542 : decode cL_law 1542 = .ok (.iconst 3, 1) := ds_row dvL_law_1491 dhL_law_1491 38 (q := 51) rfl
theorem dL_law_1543 : decode cL_law 1543 = .ok (.iadd, 1) := ds_row dvL_law_1491 dhL_law_1491 39 (q := 52) rfl
theorem dL_law_1544 : decode cL_law 1544 = .ok (.iaload, 1) := ds_row dvL_law_1491 dhL_law_1491 40 (q := 53) rfl
abbrev dBL_law_1545 : List UInt8 := [182, 0, 161, 87, 167, 1, 86, 43, 182, 0, 162, 87, 44, 182, 0, 165, 87, 167, 1, 73, 43, 42, 21, 4, 4, 96, 46, 42, 21, 4, 5, 96, 46, 42, 21, 4, 6, 96, 46, 182, 0, 166, 87, 44, 42, 21, 4, 4, 96, 46, 42, 21, 4, 5, 96, 46]
abbrev dRL_law_1545 : List (Nat × Jvm.ClassFile.Instr × Nat) := [(0, .invokevirtual 161, 3), (3, .pop, 1), (4, .goto 342, 3), (7, .aload_n 1, 1), (8, .invokevirtual 162, 3), (11, .pop, 1), (12, .aload_n 2, 1), (13, .invokevirtual 165, 3), (16, .pop, 1), (17, .goto 329, 3), (20, .aload_n 1, 1), (21, .aload_n 0, 1), (22, .iload 4, 2), (24, .iconst 1, 1), (25, .iadd, 1), (26, .iaload, 1), (27, .aload_n 0, 1), (28, .iload 4, 2), (30, .iconst 2, 1), (31, .iadd, 1), (32, .iaload, 1), (33, .aload_n 0, 1), (34, .iload 4, 2), (36, .iconst 3, 1), (37, .iadd, 1), (38, .iaload, 1), (39, .invokevirtual 166, 3), (42, .pop, 1), (43, .aload_n 2, 1), (44, .aload_n 0, 1), (45, .iload 4, 2), (47, .iconst 1, 1), (48, .iadd, 1), (49, .iaload, 1), (50, .aload_n 0, 1), (51, .iload 4, 2), (53, .iconst 2, 1), (54, .iadd, 1), (55, .iaload, 1)]
theorem dvL_law_1545 : ds_V cL_law (.mk (List.toArray dBL_law_1545)) 1545 := ds_at cL_law 1545 dBL_law_1545 (by decide +kernel)
theorem dhL_law_1545 : ds_all (.mk (List.toArray dBL_law_1545)) dRL_law_1545 = true := by decide +kernel
theorem dL_law_1545 : decode cL_law 1545 = .ok (.invokevirtual 161, 3) := ds_row dvL_law_1545 dhL_law_1545 0 (q := 0) rfl
theorem dL_law_1548 : decode cL_law 1548 = .ok (.pop, 1) := ds_row dvL_law_1545 dhL_law_1545 1 (q := 3) rfl
theorem dL_law_1549 : decode cL_law 1549 = .ok (.goto 342, 3) := ds_row dvL_law_1545 dhL_law_1545 2 (q := 4) rfl
theorem dL_law_1552 : decode cL_law 1552 = .ok (.aload_n 1, 1) := ds_row dvL_law_1545 dhL_law_1545 3 (q := 7) rfl
theorem dL_law_1553 : decode cL_law 1553 = .ok (.invokevirtual 162, 3) := ds_row dvL_law_1545 dhL_law_1545 4 (q := 8) rfl
theorem dL_law_1556 : decode cL_law 1556 = .ok (.pop, 1) := ds_row dvL_law_1545 dhL_law_1545 5 (q := 11) rfl
theorem dL_law_1557 : decode cL_law 1557 = .ok (.aload_n 2, 1) := ds_row dvL_law_1545 dhL_law_1545 6 (q := 12) rfl
theorem dL_law_1558 : decode cL_law 1558 = .ok (.invokevirtual 165, 3) := ds_row dvL_law_1545 dhL_law_1545 7 (q := 13) rfl
theorem dL_law_1561 : decode cL_law 1561 = .ok (.pop, 1) := ds_row dvL_law_1545 dhL_law_1545 8 (q := 16) rfl
theorem dL_law_1562 : decode cL_law 1562 = .ok (.goto 329, 3) := ds_row dvL_law_1545 dhL_law_1545 9 (q := 17) rfl
theorem dL_law_1565 : decode cL_law 1565 = .ok (.aload_n 1, 1) := ds_row dvL_law_1545 dhL_law_1545 10 (q := 20) rfl
theorem dL_law_1566 : decode cL_law 1566 = .ok (.aload_n 0, 1) := ds_row dvL_law_1545 dhL_law_1545 11 (q := 21) rfl
theorem dL_law_1567 : decode cL_law 1567 = .ok (.iload 4, 2) := ds_row dvL_law_1545 dhL_law_1545 12 (q := 22) rfl
theorem dL_law_1569 : decode cL_law 1569 = .ok (.iconst 1, 1) := ds_row dvL_law_1545 dhL_law_1545 13 (q := 24) rfl
theorem dL_law_1570 : decode cL_law 1570 = .ok (.iadd, 1) := ds_row dvL_law_1545 dhL_law_1545 14 (q := 25) rfl
theorem dL_law_1571 : decode cL_law 1571 = .ok (.iaload, 1) := ds_row dvL_law_1545 dhL_law_1545 15 (q := 26) rfl
theorem dL_law_1572 : decode cL_law 1572 = .ok (.aload_n 0, 1) := ds_row dvL_law_1545 dhL_law_1545 16 (q := 27) rfl
theorem dL_law_1573 : decode cL_law 1573 = .ok (.iload 4, 2) := ds_row dvL_law_1545 dhL_law_1545 17 (q := 28) rfl
theorem dL_law_1575 : decode cL_law 1575 = .ok (.iconst 2, 1) := ds_row dvL_law_1545 dhL_law_1545 18 (q := 30) rfl
theorem dL_law_1576 : decode cL_law 1576 = .ok (.iadd, 1) := ds_row dvL_law_1545 dhL_law_1545 19 (q := 31) rfl
theorem dL_law_1577 : decode cL_law 1577 = .ok (.iaload, 1) := ds_row dvL_law_1545 dhL_law_1545 20 (q := 32) rfl
theorem dL_law_1578 : decode cL_law 1578 = .ok (.aload_n 0, 1) := ds_row dvL_law_1545 dhL_law_1545 21 (q := 33) rfl
theorem dL_law_1579 : decode cL_law 1579 = .ok (.iload 4, 2) := ds_row dvL_law_1545 dhL_law_1545 22 (q := 34) rfl
theorem dL_law_1581 : decode cL_law 1581 = .ok (.iconst 3, 1) := ds_row dvL_law_1545 dhL_law_1545 23 (q := 36) rfl
theorem dL_law_1582 : decode cL_law 1582 = .ok (.iadd, 1) := ds_row dvL_law_1545 dhL_law_1545 24 (q := 37) rfl
theorem dL_law_1583 : decode cL_law 1583 = .ok (.iaload, 1) := ds_row dvL_law_1545 dhL_law_1545 25 (q := 38) rfl
theorem dL_law_1584 : decode cL_law 1584 = .ok (.invokevirtual 166, 3) := ds_row dvL_law_1545 dhL_law_1545 26 (q := 39) rfl
theorem dL_law_1587 : decode cL_law 1587 = .ok (.pop, 1) := ds_row dvL_law_1545 dhL_law_1545 27 (q := 42) rfl
theorem dL_law_1588 : decode cL_law 1588 = .ok (.aload_n 2, 1) := ds_row dvL_law_1545 dhL_law_1545 28 (q := 43) rfl
theorem dL_law_1589 : decode cL_law 1589 = .ok (.aload_n 0, 1) := ds_row dvL_law_1545 dhL_law_1545 29 (q := 44) rfl
theorem dL_law_1590 : decode cL_law 1590 = .ok (.iload 4, 2) := ds_row dvL_law_1545 dhL_law_1545 30 (q := 45) rfl
theorem dL_law_1592 : decode cL_law 1592 = .ok (.iconst 1, 1) := ds_row dvL_law_1545 dhL_law_1545 31 (q := 47) rfl
theorem dL_law_1593 : decode cL_law 1593 = .ok (.iadd, 1) := ds_row dvL_law_1545 dhL_law_1545 32 (q := 48) rfl
theorem dL_law_1594 : decode cL_law 1594 = .ok (.iaload, 1) := ds_row dvL_law_1545 dhL_law_1545 33 (q := 49) rfl
theorem dL_law_1595 : decode cL_law 1595 = .ok (.aload_n 0, 1) := ds_row dvL_law_1545 dhL_law_1545 34 (q := 50) rfl
theorem dL_law_1596 : decode cL_law 1596 = .ok (.iload 4, 2) := ds_row dvL_law_1545 dhL_law_1545 35 (q := 51) rfl
theorem dL_law_1598 : decode cL_law 1598 = .ok (.iconst 2, 1) := ds_row dvL_law_1545 dhL_law_1545 36 (q := 53) rfl
theorem dL_law_1599 : decode cL_law 1599 = .ok (.iadd, 1) := ds_row dvL_law_1545 dhL_law_1545 37 (q := 54) rfl
theorem dL_law_1600 : decode cL_law 1600 = .ok (.iaload, 1) := ds_row dvL_law_1545 dhL_law_1545 38 (q := 55) rfl
abbrev dBL_law_1601 : List UInt8 := [42, 21, 4, 6, 96, 46, 182, 0, 169, 87, 167, 1, 24, 43, 42, 21, 4, 4, 96, 46, 42, 21, 4, 5, 96, 46, 153, 0, 7, 4, 167, 0, 4, 3, 182, 0, 170, 87, 44, 42, 21, 4, 4, 96, 46, 42, 21, 4, 5, 96, 46, 153, 0, 7, 4]
abbrev dRL_law_1601 : List (Nat × Jvm.ClassFile.Instr × Nat) := [(0, .aload_n 0, 1), (1, .iload 4, 2), (3, .iconst 3, 1), (4, .iadd, 1), (5, .iaload, 1), (6, .invokevirtual 169, 3), (9, .pop, 1), (10, .goto 280, 3), (13, .aload_n 1, 1), (14, .aload_n 0, 1), (15, .iload 4, 2), (17, .iconst 1, 1), (18, .iadd, 1), (19, .iaload, 1), (20, .aload_n 0, 1), (21, .iload 4, 2), (23, .iconst 2, 1), (24, .iadd, 1), (25, .iaload, 1), (26, .ifCond .eq 7, 3), (29, .iconst 1, 1), (30, .goto 4, 3), (33, .iconst 0, 1), (34, .invokevirtual 170, 3), (37, .pop, 1), (38, .aload_n 2, 1), (39, .aload_n 0, 1), (40, .iload 4, 2), (42, .iconst 1, 1), (43, .iadd, 1), (44, .iaload, 1), (45, .aload_n 0, 1), (46, .iload 4, 2), (48, .iconst 2, 1), (49, .iadd, 1), (50, .iaload, 1), (51, .ifCond .eq 7, 3), (54, .iconst 1, 1)]
theorem dvL_law_1601 : ds_V cL_law (.mk (List.toArray dBL_law_1601)) 1601 := ds_at cL_law 1601 dBL_law_1601 (by decide +kernel)
theorem dhL_law_1601 : ds_all (.mk (List.toArray dBL_law_1601)) dRL_law_1601 = true := by decide +kernel
theorem dL_law_1601 : decode cL_law 1601 = .ok (.aload_n 0, 1) := ds_row dvL_law_1601 dhL_law_1601 0 (q := 0) rfl
theorem dL_law_1602 : decode cL_law 1602 = .ok (.iload 4, 2) := ds_row dvL_law_1601 dhL_law_1601 1 (q := 1) rfl
theorem dL_law_1604 : decode cL_law 1604 = .ok (.iconst 3, 1) := ds_row dvL_law_1601 dhL_law_1601 2 (q := 3) rfl
theorem dL_law_1605 : decode cL_law 1605 = .ok (.iadd, 1) := ds_row dvL_law_1601 dhL_law_1601 3 (q := 4) rfl
theorem dL_law_1606 : decode cL_law 1606 = .ok (.iaload, 1) := ds_row dvL_law_1601 dhL_law_1601 4 (q := 5) rfl
theorem dL_law_1607 : decode cL_law 1607 = .ok (.invokevirtual 169, 3) := ds_row dvL_law_1601 dhL_law_1601 5 (q := 6) rfl
theorem dL_law_1610 : decode cL_law 1610 = .ok (.pop, 1) := ds_row dvL_law_1601 dhL_law_1601 6 (q := 9) rfl
theorem dL_law_1611 : decode cL_law 1611 = .ok (.goto 280, 3) := ds_row dvL_law_1601 dhL_law_1601 7 (q := 10) rfl
theorem dL_law_1614 : decode cL_law 1614 = .ok (.aload_n 1, 1) := ds_row dvL_law_1601 dhL_law_1601 8 (q := 13) rfl
theorem dL_law_1615 : decode cL_law 1615 = .ok (.aload_n 0, 1) := ds_row dvL_law_1601 dhL_law_1601 9 (q := 14) rfl
theorem dL_law_1616 : decode cL_law 1616 = .ok (.iload 4, 2) := ds_row dvL_law_1601 dhL_law_1601 10 (q := 15) rfl
theorem dL_law_1618 : decode cL_law 1618 = .ok (.iconst 1, 1) := ds_row dvL_law_1601 dhL_law_1601 11 (q := 17) rfl
theorem dL_law_1619 : decode cL_law 1619 = .ok (.iadd, 1) := ds_row dvL_law_1601 dhL_law_1601 12 (q := 18) rfl
theorem dL_law_1620 : decode cL_law 1620 = .ok (.iaload, 1) := ds_row dvL_law_1601 dhL_law_1601 13 (q := 19) rfl
theorem dL_law_1621 : decode cL_law 1621 = .ok (.aload_n 0, 1) := ds_row dvL_law_1601 dhL_law_1601 14 (q := 20) rfl
theorem dL_law_1622 : decode cL_law 1622 = .ok (.iload 4, 2) := ds_row dvL_law_1601 dhL_law_1601 15 (q := 21) rfl
theorem dL_law_1624 : decode cL_law 1624 = .ok (.iconst 2, 1) := ds_row dvL_law_1601 dhL_law_1601 16 (q := 23) rfl
theorem dL_law_1625 : decode cL_law 1625 = .ok (.iadd, 1) := ds_row dvL_law_1601 dhL_law_1601 17 (q := 24) rfl
theorem dL_law_1626 : decode cL_law 1626 = .ok (.iaload, 1) := ds_row dvL_law_1601 dhL_law_1601 18 (q := 25) rfl
theorem dL_law_1627 : decode cL_law 1627 = .ok (.ifCond .eq 7, 3) := ds_row dvL_law_1601 dhL_law_1601 19 (q := 26) rfl
theorem dL_law_1630 : decode cL_law 1630 = .ok (.iconst 1, 1) := ds_row dvL_law_1601 dhL_law_1601 20 (q := 29) rfl
theorem dL_law_1631 : decode cL_law 1631 = .ok (.goto 4, 3) := ds_row dvL_law_1601 dhL_law_1601 21 (q := 30) rfl
theorem dL_law_1634 : decode cL_law 1634 = .ok (.iconst 0, 1) := ds_row dvL_law_1601 dhL_law_1601 22 (q := 33) rfl
theorem dL_law_1635 : decode cL_law 1635 = .ok (.invokevirtual 170, 3) := ds_row dvL_law_1601 dhL_law_1601 23 (q := 34) rfl
theorem dL_law_1638 : decode cL_law 1638 = .ok (.pop, 1) := ds_row dvL_law_1601 dhL_law_1601 24 (q := 37) rfl
theorem dL_law_1639 : decode cL_law 1639 = .ok (.aload_n 2, 1) := ds_row dvL_law_1601 dhL_law_1601 25 (q := 38) rfl
theorem dL_law_1640 : decode cL_law 1640 = .ok (.aload_n 0, 1) := ds_row dvL_law_1601 dhL_law_1601 26 (q := 39) rfl
theorem dL_law_1641 : decode cL_law 1641 = .ok (.iload 4, 2) := ds_row dvL_law_1601 dhL_law_1601 27 (q := 40) rfl
theorem dL_law_1643 : decode cL_law 1643 = .ok (.iconst 1, 1) := ds_row dvL_law_1601 dhL_law_1601 28 (q := 42) rfl
theorem dL_law_1644 : decode cL_law 1644 = .ok (.iadd, 1) := ds_row dvL_law_1601 dhL_law_1601 29 (q := 43) rfl
theorem dL_law_1645 : decode cL_law 1645 = .ok (.iaload, 1) := ds_row dvL_law_1601 dhL_law_1601 30 (q := 44) rfl
theorem dL_law_1646 : decode cL_law 1646 = .ok (.aload_n 0, 1) := ds_row dvL_law_1601 dhL_law_1601 31 (q := 45) rfl
theorem dL_law_1647 : decode cL_law 1647 = .ok (.iload 4, 2) := ds_row dvL_law_1601 dhL_law_1601 32 (q := 46) rfl
theorem dL_law_1649 : decode cL_law 1649 = .ok (.iconst 2, 1) := ds_row dvL_law_1601 dhL_law_1601 33 (q := 48) rfl
theorem dL_law_1650 : decode cL_law 1650 = .ok (.iadd, 1) := ds_row dvL_law_1601 dhL_law_1601 34 (q := 49) rfl
theorem dL_law_1651 : decode cL_law 1651 = .ok (.iaload, 1) := ds_row dvL_law_1601 dhL_law_1601 35 (q := 50) rfl
theorem dL_law_1652 : decode cL_law 1652 = .ok (.ifCond .eq 7, 3) := ds_row dvL_law_1601 dhL_law_1601 36 (q := 51) rfl
theorem dL_law_1655 : decode cL_law 1655 = .ok (.iconst 1, 1) := ds_row dvL_law_1601 dhL_law_1601 37 (q := 54) rfl
abbrev dBL_law_1656 : List UInt8 := [167, 0, 4, 3, 182, 0, 174, 87, 167, 0, 227, 43, 42, 21, 4, 4, 96, 46, 42, 21, 4, 5, 96, 46, 42, 21, 4, 6, 96, 46, 42, 21, 4, 7, 96, 46, 182, 0, 175, 87, 44, 42, 21, 4, 4, 96, 46, 42, 21, 4, 5, 96, 46, 42, 21, 4]
abbrev dRL_law_1656 : List (Nat × Jvm.ClassFile.Instr × Nat) := [(0, .goto 4, 3), (3, .iconst 0, 1), (4, .invokevirtual 174, 3), (7, .pop, 1), (8, .goto 227, 3), (11, .aload_n 1, 1), (12, .aload_n 0, 1), (13, .iload 4, 2), (15, .iconst 1, 1), (16, .iadd, 1), (17, .iaload, 1), (18, .aload_n 0, 1), (19, .iload 4, 2), (21, .iconst 2, 1), (22, .iadd, 1), (23, .iaload, 1), (24, .aload_n 0, 1), (25, .iload 4, 2), (27, .iconst 3, 1), (28, .iadd, 1), (29, .iaload, 1), (30, .aload_n 0, 1), (31, .iload 4, 2), (33, .iconst 4, 1), (34, .iadd, 1), (35, .iaload, 1), (36, .invokevirtual 175, 3), (39, .pop, 1), (40, .aload_n 2, 1), (41, .aload_n 0, 1), (42, .iload 4, 2), (44, .iconst 1, 1), (45, .iadd, 1), (46, .iaload, 1), (47, .aload_n 0, 1), (48, .iload 4, 2), (50, .iconst 2, 1), (51, .iadd, 1), (52, .iaload, 1), (53, .aload_n 0, 1), (54, .iload 4, 2)]
theorem dvL_law_1656 : ds_V cL_law (.mk (List.toArray dBL_law_1656)) 1656 := ds_at cL_law 1656 dBL_law_1656 (by decide +kernel)
theorem dhL_law_1656 : ds_all (.mk (List.toArray dBL_law_1656)) dRL_law_1656 = true := by decide +kernel
theorem dL_law_1656 : decode cL_law 1656 = .ok (.goto 4, 3) := ds_row dvL_law_1656 dhL_law_1656 0 (q := 0) rfl
theorem dL_law_1659 : decode cL_law 1659 = .ok (.iconst 0, 1) := ds_row dvL_law_1656 dhL_law_1656 1 (q := 3) rfl
theorem dL_law_1660 : decode cL_law 1660 = .ok (.invokevirtual 174, 3) := ds_row dvL_law_1656 dhL_law_1656 2 (q := 4) rfl
theorem dL_law_1663 : decode cL_law 1663 = .ok (.pop, 1) := ds_row dvL_law_1656 dhL_law_1656 3 (q := 7) rfl
theorem dL_law_1664 : decode cL_law 1664 = .ok (.goto 227, 3) := ds_row dvL_law_1656 dhL_law_1656 4 (q := 8) rfl
theorem dL_law_1667 : decode cL_law 1667 = .ok (.aload_n 1, 1) := ds_row dvL_law_1656 dhL_law_1656 5 (q := 11) rfl
theorem dL_law_1668 : decode cL_law 1668 = .ok (.aload_n 0, 1) := ds_row dvL_law_1656 dhL_law_1656 6 (q := 12) rfl
theorem dL_law_1669 : decode cL_law 1669 = .ok (.iload 4, 2) := ds_row dvL_law_1656 dhL_law_1656 7 (q := 13) rfl
theorem dL_law_1671 : decode cL_law 1671 = .ok (.iconst 1, 1) := ds_row dvL_law_1656 dhL_law_1656 8 (q := 15) rfl
theorem dL_law_1672 : decode cL_law 1672 = .ok (.iadd, 1) := ds_row dvL_law_1656 dhL_law_1656 9 (q := 16) rfl
theorem dL_law_1673 : decode cL_law 1673 = .ok (.iaload, 1) := ds_row dvL_law_1656 dhL_law_1656 10 (q := 17) rfl
theorem dL_law_1674 : decode cL_law 1674 = .ok (.aload_n 0, 1) := ds_row dvL_law_1656 dhL_law_1656 11 (q := 18) rfl
theorem dL_law_1675 : decode cL_law 1675 = .ok (.iload 4, 2) := ds_row dvL_law_1656 dhL_law_1656 12 (q := 19) rfl
theorem dL_law_1677 : decode cL_law 1677 = .ok (.iconst 2, 1) := ds_row dvL_law_1656 dhL_law_1656 13 (q := 21) rfl
theorem dL_law_1678 : decode cL_law 1678 = .ok (.iadd, 1) := ds_row dvL_law_1656 dhL_law_1656 14 (q := 22) rfl
theorem dL_law_1679 : decode cL_law 1679 = .ok (.iaload, 1) := ds_row dvL_law_1656 dhL_law_1656 15 (q := 23) rfl
theorem dL_law_1680 : decode cL_law 1680 = .ok (.aload_n 0, 1) := ds_row dvL_law_1656 dhL_law_1656 16 (q := 24) rfl
theorem dL_law_1681 : decode cL_law 1681 = .ok (.iload 4, 2) := ds_row dvL_law_1656 dhL_law_1656 17 (q := 25) rfl
theorem dL_law_1683 : decode cL_law 1683 = .ok (.iconst 3, 1) := ds_row dvL_law_1656 dhL_law_1656 18 (q := 27) rfl
theorem dL_law_1684 : decode cL_law 1684 = .ok (.iadd, 1) := ds_row dvL_law_1656 dhL_law_1656 19 (q := 28) rfl
theorem dL_law_1685 : decode cL_law 1685 = .ok (.iaload, 1) := ds_row dvL_law_1656 dhL_law_1656 20 (q := 29) rfl
theorem dL_law_1686 : decode cL_law 1686 = .ok (.aload_n 0, 1) := ds_row dvL_law_1656 dhL_law_1656 21 (q := 30) rfl
theorem dL_law_1687 : decode cL_law 1687 = .ok (.iload 4, 2) := ds_row dvL_law_1656 dhL_law_1656 22 (q := 31) rfl
theorem dL_law_1689 : decode cL_law 1689 = .ok (.iconst 4, 1) := ds_row dvL_law_1656 dhL_law_1656 23 (q := 33) rfl
theorem dL_law_1690 : decode cL_law 1690 = .ok (.iadd, 1) := ds_row dvL_law_1656 dhL_law_1656 24 (q := 34) rfl
theorem dL_law_1691 : decode cL_law 1691 = .ok (.iaload, 1) := ds_row dvL_law_1656 dhL_law_1656 25 (q := 35) rfl
theorem dL_law_1692 : decode cL_law 1692 = .ok (.invokevirtual 175, 3) := ds_row dvL_law_1656 dhL_law_1656 26 (q := 36) rfl
theorem dL_law_1695 : decode cL_law 1695 = .ok (.pop, 1) := ds_row dvL_law_1656 dhL_law_1656 27 (q := 39) rfl
theorem dL_law_1696 : decode cL_law 1696 = .ok (.aload_n 2, 1) := ds_row dvL_law_1656 dhL_law_1656 28 (q := 40) rfl
theorem dL_law_1697 : decode cL_law 1697 = .ok (.aload_n 0, 1) := ds_row dvL_law_1656 dhL_law_1656 29 (q := 41) rfl
theorem dL_law_1698 : decode cL_law 1698 = .ok (.iload 4, 2) := ds_row dvL_law_1656 dhL_law_1656 30 (q := 42) rfl
theorem dL_law_1700 : decode cL_law 1700 = .ok (.iconst 1, 1) := ds_row dvL_law_1656 dhL_law_1656 31 (q := 44) rfl
theorem dL_law_1701 : decode cL_law 1701 = .ok (.iadd, 1) := ds_row dvL_law_1656 dhL_law_1656 32 (q := 45) rfl
theorem dL_law_1702 : decode cL_law 1702 = .ok (.iaload, 1) := ds_row dvL_law_1656 dhL_law_1656 33 (q := 46) rfl
theorem dL_law_1703 : decode cL_law 1703 = .ok (.aload_n 0, 1) := ds_row dvL_law_1656 dhL_law_1656 34 (q := 47) rfl
theorem dL_law_1704 : decode cL_law 1704 = .ok (.iload 4, 2) := ds_row dvL_law_1656 dhL_law_1656 35 (q := 48) rfl
theorem dL_law_1706 : decode cL_law 1706 = .ok (.iconst 2, 1) := ds_row dvL_law_1656 dhL_law_1656 36 (q := 50) rfl
theorem dL_law_1707 : decode cL_law 1707 = .ok (.iadd, 1) := ds_row dvL_law_1656 dhL_law_1656 37 (q := 51) rfl
theorem dL_law_1708 : decode cL_law 1708 = .ok (.iaload, 1) := ds_row dvL_law_1656 dhL_law_1656 38 (q := 52) rfl
theorem dL_law_1709 : decode cL_law 1709 = .ok (.aload_n 0, 1) := ds_row dvL_law_1656 dhL_law_1656 39 (q := 53) rfl
theorem dL_law_1710 : decode cL_law 1710 = .ok (.iload 4, 2) := ds_row dvL_law_1656 dhL_law_1656 40 (q := 54) rfl
abbrev dBL_law_1712 : List UInt8 := [6, 96, 46, 42, 21, 4, 7, 96, 46, 182, 0, 178, 87, 167, 0, 166, 43, 42, 21, 4, 4, 96, 46, 42, 21, 4, 5, 96, 46, 42, 21, 4, 6, 96, 46, 42, 21, 4, 7, 96, 46, 182, 0, 179, 87, 44, 42, 21, 4, 4, 96, 46, 42, 21, 4, 5]
abbrev dRL_law_1712 : List (Nat × Jvm.ClassFile.Instr × Nat) := [(0, .iconst 3, 1), (1, .iadd, 1), (2, .iaload, 1), (3, .aload_n 0, 1), (4, .iload 4, 2), (6, .iconst 4, 1), (7, .iadd, 1), (8, .iaload, 1), (9, .invokevirtual 178, 3), (12, .pop, 1), (13, .goto 166, 3), (16, .aload_n 1, 1), (17, .aload_n 0, 1), (18, .iload 4, 2), (20, .iconst 1, 1), (21, .iadd, 1), (22, .iaload, 1), (23, .aload_n 0, 1), (24, .iload 4, 2), (26, .iconst 2, 1), (27, .iadd, 1), (28, .iaload, 1), (29, .aload_n 0, 1), (30, .iload 4, 2), (32, .iconst 3, 1), (33, .iadd, 1), (34, .iaload, 1), (35, .aload_n 0, 1), (36, .iload 4, 2), (38, .iconst 4, 1), (39, .iadd, 1), (40, .iaload, 1), (41, .invokevirtual 179, 3), (44, .pop, 1), (45, .aload_n 2, 1), (46, .aload_n 0, 1), (47, .iload 4, 2), (49, .iconst 1, 1), (50, .iadd, 1), (51, .iaload, 1), (52, .aload_n 0, 1), (53, .iload 4, 2), (55, .iconst 2, 1)]
theorem dvL_law_1712 : ds_V cL_law (.mk (List.toArray dBL_law_1712)) 1712 := ds_at cL_law 1712 dBL_law_1712 (by decide +kernel)
theorem dhL_law_1712 : ds_all (.mk (List.toArray dBL_law_1712)) dRL_law_1712 = true := by decide +kernel
theorem dL_law_1712 : decode cL_law 1712 = .ok (.iconst 3, 1) := ds_row dvL_law_1712 dhL_law_1712 0 (q := 0) rfl
theorem dL_law_1713 : decode cL_law 1713 = .ok (.iadd, 1) := ds_row dvL_law_1712 dhL_law_1712 1 (q := 1) rfl
theorem dL_law_1714 : decode cL_law 1714 = .ok (.iaload, 1) := ds_row dvL_law_1712 dhL_law_1712 2 (q := 2) rfl
theorem dL_law_1715 : decode cL_law 1715 = .ok (.aload_n 0, 1) := ds_row dvL_law_1712 dhL_law_1712 3 (q := 3) rfl
theorem dL_law_1716 : decode cL_law 1716 = .ok (.iload 4, 2) := ds_row dvL_law_1712 dhL_law_1712 4 (q := 4) rfl
theorem dL_law_1718 : decode cL_law 1718 = .ok (.iconst 4, 1) := ds_row dvL_law_1712 dhL_law_1712 5 (q := 6) rfl
theorem dL_law_1719 : decode cL_law 1719 = .ok (.iadd, 1) := ds_row dvL_law_1712 dhL_law_1712 6 (q := 7) rfl
theorem dL_law_1720 : decode cL_law 1720 = .ok (.iaload, 1) := ds_row dvL_law_1712 dhL_law_1712 7 (q := 8) rfl
theorem dL_law_1721 : decode cL_law 1721 = .ok (.invokevirtual 178, 3) := ds_row dvL_law_1712 dhL_law_1712 8 (q := 9) rfl
theorem dL_law_1724 : decode cL_law 1724 = .ok (.pop, 1) := ds_row dvL_law_1712 dhL_law_1712 9 (q := 12) rfl
theorem dL_law_1725 : decode cL_law 1725 = .ok (.goto 166, 3) := ds_row dvL_law_1712 dhL_law_1712 10 (q := 13) rfl
theorem dL_law_1728 : decode cL_law 1728 = .ok (.aload_n 1, 1) := ds_row dvL_law_1712 dhL_law_1712 11 (q := 16) rfl
theorem dL_law_1729 : decode cL_law 1729 = .ok (.aload_n 0, 1) := ds_row dvL_law_1712 dhL_law_1712 12 (q := 17) rfl
theorem dL_law_1730 : decode cL_law 1730 = .ok (.iload 4, 2) := ds_row dvL_law_1712 dhL_law_1712 13 (q := 18) rfl
theorem dL_law_1732 : decode cL_law 1732 = .ok (.iconst 1, 1) := ds_row dvL_law_1712 dhL_law_1712 14 (q := 20) rfl
theorem dL_law_1733 : decode cL_law 1733 = .ok (.iadd, 1) := ds_row dvL_law_1712 dhL_law_1712 15 (q := 21) rfl
theorem dL_law_1734 : decode cL_law 1734 = .ok (.iaload, 1) := ds_row dvL_law_1712 dhL_law_1712 16 (q := 22) rfl
theorem dL_law_1735 : decode cL_law 1735 = .ok (.aload_n 0, 1) := ds_row dvL_law_1712 dhL_law_1712 17 (q := 23) rfl
theorem dL_law_1736 : decode cL_law 1736 = .ok (.iload 4, 2) := ds_row dvL_law_1712 dhL_law_1712 18 (q := 24) rfl
theorem dL_law_1738 : decode cL_law 1738 = .ok (.iconst 2, 1) := ds_row dvL_law_1712 dhL_law_1712 19 (q := 26) rfl
theorem dL_law_1739 : decode cL_law 1739 = .ok (.iadd, 1) := ds_row dvL_law_1712 dhL_law_1712 20 (q := 27) rfl
theorem dL_law_1740 : decode cL_law 1740 = .ok (.iaload, 1) := ds_row dvL_law_1712 dhL_law_1712 21 (q := 28) rfl
theorem dL_law_1741 : decode cL_law 1741 = .ok (.aload_n 0, 1) := ds_row dvL_law_1712 dhL_law_1712 22 (q := 29) rfl
theorem dL_law_1742 : decode cL_law 1742 = .ok (.iload 4, 2) := ds_row dvL_law_1712 dhL_law_1712 23 (q := 30) rfl
theorem dL_law_1744 : decode cL_law 1744 = .ok (.iconst 3, 1) := ds_row dvL_law_1712 dhL_law_1712 24 (q := 32) rfl
theorem dL_law_1745 : decode cL_law 1745 = .ok (.iadd, 1) := ds_row dvL_law_1712 dhL_law_1712 25 (q := 33) rfl
theorem dL_law_1746 : decode cL_law 1746 = .ok (.iaload, 1) := ds_row dvL_law_1712 dhL_law_1712 26 (q := 34) rfl
theorem dL_law_1747 : decode cL_law 1747 = .ok (.aload_n 0, 1) := ds_row dvL_law_1712 dhL_law_1712 27 (q := 35) rfl
theorem dL_law_1748 : decode cL_law 1748 = .ok (.iload 4, 2) := ds_row dvL_law_1712 dhL_law_1712 28 (q := 36) rfl
theorem dL_law_1750 : decode cL_law 1750 = .ok (.iconst 4, 1) := ds_row dvL_law_1712 dhL_law_1712 29 (q := 38) rfl
theorem dL_law_1751 : decode cL_law 1751 = .ok (.iadd, 1) := ds_row dvL_law_1712 dhL_law_1712 30 (q := 39) rfl
theorem dL_law_1752 : decode cL_law 1752 = .ok (.iaload, 1) := ds_row dvL_law_1712 dhL_law_1712 31 (q := 40) rfl
theorem dL_law_1753 : decode cL_law 1753 = .ok (.invokevirtual 179, 3) := ds_row dvL_law_1712 dhL_law_1712 32 (q := 41) rfl
theorem dL_law_1756 : decode cL_law 1756 = .ok (.pop, 1) := ds_row dvL_law_1712 dhL_law_1712 33 (q := 44) rfl
theorem dL_law_1757 : decode cL_law 1757 = .ok (.aload_n 2, 1) := ds_row dvL_law_1712 dhL_law_1712 34 (q := 45) rfl
theorem dL_law_1758 : decode cL_law 1758 = .ok (.aload_n 0, 1) := ds_row dvL_law_1712 dhL_law_1712 35 (q := 46) rfl
theorem dL_law_1759 : decode cL_law 1759 = .ok (.iload 4, 2) := ds_row dvL_law_1712 dhL_law_1712 36 (q := 47) rfl
theorem dL_law_1761 : decode cL_law 1761 = .ok (.iconst 1, 1) := ds_row dvL_law_1712 dhL_law_1712 37 (q := 49) rfl
theorem dL_law_1762 : decode cL_law 1762 = .ok (.iadd, 1) := ds_row dvL_law_1712 dhL_law_1712 38 (q := 50) rfl
theorem dL_law_1763 : decode cL_law 1763 = .ok (.iaload, 1) := ds_row dvL_law_1712 dhL_law_1712 39 (q := 51) rfl
theorem dL_law_1764 : decode cL_law 1764 = .ok (.aload_n 0, 1) := ds_row dvL_law_1712 dhL_law_1712 40 (q := 52) rfl
theorem dL_law_1765 : decode cL_law 1765 = .ok (.iload 4, 2) := ds_row dvL_law_1712 dhL_law_1712 41 (q := 53) rfl
theorem dL_law_1767 : decode cL_law 1767 = .ok (.iconst 2, 1) := ds_row dvL_law_1712 dhL_law_1712 42 (q := 55) rfl
abbrev dBL_law_1768 : List UInt8 := [96, 46, 42, 21, 4, 6, 96, 46, 42, 21, 4, 7, 96, 46, 182, 0, 182, 87, 167, 0, 105, 43, 42, 21, 4, 4, 96, 46, 42, 21, 4, 5, 96, 46, 182, 0, 183, 87, 44, 42, 21, 4, 4, 96, 46, 42, 21, 4, 5, 96, 46, 182, 0, 186, 87]
abbrev dRL_law_1768 : List (Nat × Jvm.ClassFile.Instr × Nat) := [(0, .iadd, 1), (1, .iaload, 1), (2, .aload_n 0, 1), (3, .iload 4, 2), (5, .iconst 3, 1), (6, .iadd, 1), (7, .iaload, 1), (8, .aload_n 0, 1), (9, .iload 4, 2), (11, .iconst 4, 1), (12, .iadd, 1), (13, .iaload, 1), (14, .invokevirtual 182, 3), (17, .pop, 1), (18, .goto 105, 3), (21, .aload_n 1, 1), (22, .aload_n 0, 1), (23, .iload 4, 2), (25, .iconst 1, 1), (26, .iadd, 1), (27, .iaload, 1), (28, .aload_n 0, 1), (29, .iload 4, 2), (31, .iconst 2, 1), (32, .iadd, 1), (33, .iaload, 1), (34, .invokevirtual 183, 3), (37, .pop, 1), (38, .aload_n 2, 1), (39, .aload_n 0, 1), (40, .iload 4, 2), (42, .iconst 1, 1), (43, .iadd, 1), (44, .iaload, 1), (45, .aload_n 0, 1), (46, .iload 4, 2), (48, .iconst 2, 1), (49, .iadd, 1), (50, .iaload, 1), (51, .invokevirtual 186, 3), (54, .pop, 1)]
theorem dvL_law_1768 : ds_V cL_law (.mk (List.toArray dBL_law_1768)) 1768 := ds_at cL_law 1768 dBL_law_1768 (by decide +kernel)
theorem dhL_law_1768 : ds_all (.mk (List.toArray dBL_law_1768)) dRL_law_1768 = true := by decide +kernel
theorem dL_law_1768 : decode cL_law 1768 = .ok (.iadd, 1) := ds_row dvL_law_1768 dhL_law_1768 0 (q := 0) rfl
theorem dL_law_1769 : decode cL_law 1769 = .ok (.iaload, 1) := ds_row dvL_law_1768 dhL_law_1768 1 (q := 1) rfl
theorem dL_law_1770 : decode cL_law 1770 = .ok (.aload_n 0, 1) := ds_row dvL_law_1768 dhL_law_1768 2 (q := 2) rfl
theorem dL_law_1771 : decode cL_law 1771 = .ok (.iload 4, 2) := ds_row dvL_law_1768 dhL_law_1768 3 (q := 3) rfl
theorem dL_law_1773 : decode cL_law 1773 = .ok (.iconst 3, 1) := ds_row dvL_law_1768 dhL_law_1768 4 (q := 5) rfl
theorem dL_law_1774 : decode cL_law 1774 = .ok (.iadd, 1) := ds_row dvL_law_1768 dhL_law_1768 5 (q := 6) rfl
theorem dL_law_1775 : decode cL_law 1775 = .ok (.iaload, 1) := ds_row dvL_law_1768 dhL_law_1768 6 (q := 7) rfl
theorem dL_law_1776 : decode cL_law 1776 = .ok (.aload_n 0, 1) := ds_row dvL_law_1768 dhL_law_1768 7 (q := 8) rfl
theorem dL_law_1777 : decode cL_law 1777 = .ok (.iload 4, 2) := ds_row dvL_law_1768 dhL_law_1768 8 (q := 9) rfl
theorem dL_law_1779 : decode cL_law 1779 = .ok (.iconst 4, 1) := ds_row dvL_law_1768 dhL_law_1768 9 (q := 11) rfl
theorem dL_law_1780 : decode cL_law 1780 = .ok (.iadd, 1) := ds_row dvL_law_1768 dhL_law_1768 10 (q := 12) rfl
theorem dL_law_1781 : decode cL_law 1781 = .ok (.iaload, 1) := ds_row dvL_law_1768 dhL_law_1768 11 (q := 13) rfl
theorem dL_law_1782 : decode cL_law 1782 = .ok (.invokevirtual 182, 3) := ds_row dvL_law_1768 dhL_law_1768 12 (q := 14) rfl
theorem dL_law_1785 : decode cL_law 1785 = .ok (.pop, 1) := ds_row dvL_law_1768 dhL_law_1768 13 (q := 17) rfl
theorem dL_law_1786 : decode cL_law 1786 = .ok (.goto 105, 3) := ds_row dvL_law_1768 dhL_law_1768 14 (q := 18) rfl
theorem dL_law_1789 : decode cL_law 1789 = .ok (.aload_n 1, 1) := ds_row dvL_law_1768 dhL_law_1768 15 (q := 21) rfl
theorem dL_law_1790 : decode cL_law 1790 = .ok (.aload_n 0, 1) := ds_row dvL_law_1768 dhL_law_1768 16 (q := 22) rfl
theorem dL_law_1791 : decode cL_law 1791 = .ok (.iload 4, 2) := ds_row dvL_law_1768 dhL_law_1768 17 (q := 23) rfl
theorem dL_law_1793 : decode cL_law 1793 = .ok (.iconst 1, 1) := ds_row dvL_law_1768 dhL_law_1768 18 (q := 25) rfl
theorem dL_law_1794 : decode cL_law 1794 = .ok (.iadd, 1) := ds_row dvL_law_1768 dhL_law_1768 19 (q := 26) rfl
theorem dL_law_1795 : decode cL_law 1795 = .ok (.iaload, 1) := ds_row dvL_law_1768 dhL_law_1768 20 (q := 27) rfl
theorem dL_law_1796 : decode cL_law 1796 = .ok (.aload_n 0, 1) := ds_row dvL_law_1768 dhL_law_1768 21 (q := 28) rfl
theorem dL_law_1797 : decode cL_law 1797 = .ok (.iload 4, 2) := ds_row dvL_law_1768 dhL_law_1768 22 (q := 29) rfl
theorem dL_law_1799 : decode cL_law 1799 = .ok (.iconst 2, 1) := ds_row dvL_law_1768 dhL_law_1768 23 (q := 31) rfl
theorem dL_law_1800 : decode cL_law 1800 = .ok (.iadd, 1) := ds_row dvL_law_1768 dhL_law_1768 24 (q := 32) rfl
theorem dL_law_1801 : decode cL_law 1801 = .ok (.iaload, 1) := ds_row dvL_law_1768 dhL_law_1768 25 (q := 33) rfl
theorem dL_law_1802 : decode cL_law 1802 = .ok (.invokevirtual 183, 3) := ds_row dvL_law_1768 dhL_law_1768 26 (q := 34) rfl
theorem dL_law_1805 : decode cL_law 1805 = .ok (.pop, 1) := ds_row dvL_law_1768 dhL_law_1768 27 (q := 37) rfl
theorem dL_law_1806 : decode cL_law 1806 = .ok (.aload_n 2, 1) := ds_row dvL_law_1768 dhL_law_1768 28 (q := 38) rfl
theorem dL_law_1807 : decode cL_law 1807 = .ok (.aload_n 0, 1) := ds_row dvL_law_1768 dhL_law_1768 29 (q := 39) rfl
theorem dL_law_1808 : decode cL_law 1808 = .ok (.iload 4, 2) := ds_row dvL_law_1768 dhL_law_1768 30 (q := 40) rfl
theorem dL_law_1810 : decode cL_law 1810 = .ok (.iconst 1, 1) := ds_row dvL_law_1768 dhL_law_1768 31 (q := 42) rfl
theorem dL_law_1811 : decode cL_law 1811 = .ok (.iadd, 1) := ds_row dvL_law_1768 dhL_law_1768 32 (q := 43) rfl
theorem dL_law_1812 : decode cL_law 1812 = .ok (.iaload, 1) := ds_row dvL_law_1768 dhL_law_1768 33 (q := 44) rfl
theorem dL_law_1813 : decode cL_law 1813 = .ok (.aload_n 0, 1) := ds_row dvL_law_1768 dhL_law_1768 34 (q := 45) rfl
theorem dL_law_1814 : decode cL_law 1814 = .ok (.iload 4, 2) := ds_row dvL_law_1768 dhL_law_1768 35 (q := 46) rfl
theorem dL_law_1816 : decode cL_law 1816 = .ok (.iconst 2, 1) := ds_row dvL_law_1768 dhL_law_1768 36 (q := 48) rfl
theorem dL_law_1817 : decode cL_law 1817 = .ok (.iadd, 1) := ds_row dvL_law_1768 dhL_law_1768 37 (q := 49) rfl
theorem dL_law_1818 : decode cL_law 1818 = .ok (.iaload, 1) := ds_row dvL_law_1768 dhL_law_1768 38 (q := 50) rfl
theorem dL_law_1819 : decode cL_law 1819 = .ok (.invokevirtual 186, 3) := ds_row dvL_law_1768 dhL_law_1768 39 (q := 51) rfl
theorem dL_law_1822 : decode cL_law 1822 = .ok (.pop, 1) := ds_row dvL_law_1768 dhL_law_1768 40 (q := 54) rfl
abbrev dBL_law_1823 : List UInt8 := [167, 0, 68, 43, 42, 21, 4, 4, 96, 46, 42, 21, 4, 5, 96, 46, 182, 0, 187, 87, 44, 42, 21, 4, 4, 96, 46, 42, 21, 4, 5, 96, 46, 182, 0, 190, 87, 167, 0, 31, 43, 42, 21, 4, 4, 96, 46, 45, 184, 0, 191, 54, 5, 44, 42]
abbrev dRL_law_1823 : List (Nat × Jvm.ClassFile.Instr × Nat) := [(0, .goto 68, 3), (3, .aload_n 1, 1), (4, .aload_n 0, 1), (5, .iload 4, 2), (7, .iconst 1, 1), (8, .iadd, 1), (9, .iaload, 1), (10, .aload_n 0, 1), (11, .iload 4, 2), (13, .iconst 2, 1), (14, .iadd, 1), (15, .iaload, 1), (16, .invokevirtual 187, 3), (19, .pop, 1), (20, .aload_n 2, 1), (21, .aload_n 0, 1), (22, .iload 4, 2), (24, .iconst 1, 1), (25, .iadd, 1), (26, .iaload, 1), (27, .aload_n 0, 1), (28, .iload 4, 2), (30, .iconst 2, 1), (31, .iadd, 1), (32, .iaload, 1), (33, .invokevirtual 190, 3), (36, .pop, 1), (37, .goto 31, 3), (40, .aload_n 1, 1), (41, .aload_n 0, 1), (42, .iload 4, 2), (44, .iconst 1, 1), (45, .iadd, 1), (46, .iaload, 1), (47, .aload_n 3, 1), (48, .invokestatic 191, 3), (51, .istore 5, 2), (53, .aload_n 2, 1), (54, .aload_n 0, 1)]
theorem dvL_law_1823 : ds_V cL_law (.mk (List.toArray dBL_law_1823)) 1823 := ds_at cL_law 1823 dBL_law_1823 (by decide +kernel)
theorem dhL_law_1823 : ds_all (.mk (List.toArray dBL_law_1823)) dRL_law_1823 = true := by decide +kernel
theorem dL_law_1823 : decode cL_law 1823 = .ok (.goto 68, 3) := ds_row dvL_law_1823 dhL_law_1823 0 (q := 0) rfl
theorem dL_law_1826 : decode cL_law 1826 = .ok (.aload_n 1, 1) := ds_row dvL_law_1823 dhL_law_1823 1 (q := 3) rfl
theorem dL_law_1827 : decode cL_law 1827 = .ok (.aload_n 0, 1) := ds_row dvL_law_1823 dhL_law_1823 2 (q := 4) rfl
theorem dL_law_1828 : decode cL_law 1828 = .ok (.iload 4, 2) := ds_row dvL_law_1823 dhL_law_1823 3 (q := 5) rfl
theorem dL_law_1830 : decode cL_law 1830 = .ok (.iconst 1, 1) := ds_row dvL_law_1823 dhL_law_1823 4 (q := 7) rfl
theorem dL_law_1831 : decode cL_law 1831 = .ok (.iadd, 1) := ds_row dvL_law_1823 dhL_law_1823 5 (q := 8) rfl
theorem dL_law_1832 : decode cL_law 1832 = .ok (.iaload, 1) := ds_row dvL_law_1823 dhL_law_1823 6 (q := 9) rfl
theorem dL_law_1833 : decode cL_law 1833 = .ok (.aload_n 0, 1) := ds_row dvL_law_1823 dhL_law_1823 7 (q := 10) rfl
theorem dL_law_1834 : decode cL_law 1834 = .ok (.iload 4, 2) := ds_row dvL_law_1823 dhL_law_1823 8 (q := 11) rfl
theorem dL_law_1836 : decode cL_law 1836 = .ok (.iconst 2, 1) := ds_row dvL_law_1823 dhL_law_1823 9 (q := 13) rfl
theorem dL_law_1837 : decode cL_law 1837 = .ok (.iadd, 1) := ds_row dvL_law_1823 dhL_law_1823 10 (q := 14) rfl
theorem dL_law_1838 : decode cL_law 1838 = .ok (.iaload, 1) := ds_row dvL_law_1823 dhL_law_1823 11 (q := 15) rfl
theorem dL_law_1839 : decode cL_law 1839 = .ok (.invokevirtual 187, 3) := ds_row dvL_law_1823 dhL_law_1823 12 (q := 16) rfl
theorem dL_law_1842 : decode cL_law 1842 = .ok (.pop, 1) := ds_row dvL_law_1823 dhL_law_1823 13 (q := 19) rfl
theorem dL_law_1843 : decode cL_law 1843 = .ok (.aload_n 2, 1) := ds_row dvL_law_1823 dhL_law_1823 14 (q := 20) rfl
theorem dL_law_1844 : decode cL_law 1844 = .ok (.aload_n 0, 1) := ds_row dvL_law_1823 dhL_law_1823 15 (q := 21) rfl
theorem dL_law_1845 : decode cL_law 1845 = .ok (.iload 4, 2) := ds_row dvL_law_1823 dhL_law_1823 16 (q := 22) rfl
theorem dL_law_1847 : decode cL_law 1847 = .ok (.iconst 1, 1) := ds_row dvL_law_1823 dhL_law_1823 17 (q := 24) rfl
theorem dL_law_1848 : decode cL_law 1848 = .ok (.iadd, 1) := ds_row dvL_law_1823 dhL_law_1823 18 (q := 25) rfl
theorem dL_law_1849 : decode cL_law 1849 = .ok (.iaload, 1) := ds_row dvL_law_1823 dhL_law_1823 19 (q := 26) rfl
theorem dL_law_1850 : decode cL_law 1850 = .ok (.aload_n 0, 1) := ds_row dvL_law_1823 dhL_law_1823 20 (q := 27) rfl
theorem dL_law_1851 : decode cL_law 1851 = .ok (.iload 4, 2) := ds_row dvL_law_1823 dhL_law_1823 21 (q := 28) rfl
theorem dL_law_1853 : decode cL_law 1853 = .ok (.iconst 2, 1) := ds_row dvL_law_1823 dhL_law_1823 22 (q := 30) rfl
theorem dL_law_1854 : decode cL_law 1854 = .ok (.iadd, 1) := ds_row dvL_law_1823 dhL_law_1823 23 (q := 31) rfl
theorem dL_law_1855 : decode cL_law 1855 = .ok (.iaload, 1) := ds_row dvL_law_1823 dhL_law_1823 24 (q := 32) rfl
theorem dL_law_1856 : decode cL_law 1856 = .ok (.invokevirtual 190, 3) := ds_row dvL_law_1823 dhL_law_1823 25 (q := 33) rfl
theorem dL_law_1859 : decode cL_law 1859 = .ok (.pop, 1) := ds_row dvL_law_1823 dhL_law_1823 26 (q := 36) rfl
theorem dL_law_1860 : decode cL_law 1860 = .ok (.goto 31, 3) := ds_row dvL_law_1823 dhL_law_1823 27 (q := 37) rfl
theorem dL_law_1863 : decode cL_law 1863 = .ok (.aload_n 1, 1) := ds_row dvL_law_1823 dhL_law_1823 28 (q := 40) rfl
theorem dL_law_1864 : decode cL_law 1864 = .ok (.aload_n 0, 1) := ds_row dvL_law_1823 dhL_law_1823 29 (q := 41) rfl
theorem dL_law_1865 : decode cL_law 1865 = .ok (.iload 4, 2) := ds_row dvL_law_1823 dhL_law_1823 30 (q := 42) rfl
theorem dL_law_1867 : decode cL_law 1867 = .ok (.iconst 1, 1) := ds_row dvL_law_1823 dhL_law_1823 31 (q := 44) rfl
theorem dL_law_1868 : decode cL_law 1868 = .ok (.iadd, 1) := ds_row dvL_law_1823 dhL_law_1823 32 (q := 45) rfl
theorem dL_law_1869 : decode cL_law 1869 = .ok (.iaload, 1) := ds_row dvL_law_1823 dhL_law_1823 33 (q := 46) rfl
theorem dL_law_1870 : decode cL_law 1870 = .ok (.aload_n 3, 1) := ds_row dvL_law_1823 dhL_law_1823 34 (q := 47) rfl
theorem dL_law_1871 : decode cL_law 1871 = .ok (.invokestatic 191, 3) := ds_row dvL_law_1823 dhL_law_1823 35 (q := 48) rfl
theorem dL_law_1874 : decode cL_law 1874 = .ok (.istore 5, 2) := ds_row dvL_law_1823 dhL_law_1823 36 (q := 51) rfl
theorem dL_law_1876 : decode cL_law 1876 = .ok (.aload_n 2, 1) := ds_row dvL_law_1823 dhL_law_1823 37 (q := 53) rfl
theorem dL_law_1877 : decode cL_law 1877 = .ok (.aload_n 0, 1) := ds_row dvL_law_1823 dhL_law_1823 38 (q := 54) rfl
abbrev dBL_law_1878 : List UInt8 := [21, 4, 4, 96, 46, 182, 0, 194, 54, 6, 167, 0, 3, 132, 4, 7, 167, 248, 177, 4, 172]
abbrev dRL_law_1878 : List (Nat × Jvm.ClassFile.Instr × Nat) := [(0, .iload 4, 2), (2, .iconst 1, 1), (3, .iadd, 1), (4, .iaload, 1), (5, .invokevirtual 194, 3), (8, .istore 6, 2), (10, .goto 3, 3), (13, .iinc 4 7, 3), (16, .goto (-1871), 3), (19, .iconst 1, 1), (20, .ireturn, 1)]
theorem dvL_law_1878 : ds_V cL_law (.mk (List.toArray dBL_law_1878)) 1878 := ds_at cL_law 1878 dBL_law_1878 (by decide +kernel)
theorem dhL_law_1878 : ds_all (.mk (List.toArray dBL_law_1878)) dRL_law_1878 = true := by decide +kernel
theorem dL_law_1878 : decode cL_law 1878 = .ok (.iload 4, 2) := ds_row dvL_law_1878 dhL_law_1878 0 (q := 0) rfl
theorem dL_law_1880 : decode cL_law 1880 = .ok (.iconst 1, 1) := ds_row dvL_law_1878 dhL_law_1878 1 (q := 2) rfl
theorem dL_law_1881 : decode cL_law 1881 = .ok (.iadd, 1) := ds_row dvL_law_1878 dhL_law_1878 2 (q := 3) rfl
theorem dL_law_1882 : decode cL_law 1882 = .ok (.iaload, 1) := ds_row dvL_law_1878 dhL_law_1878 3 (q := 4) rfl
theorem dL_law_1883 : decode cL_law 1883 = .ok (.invokevirtual 194, 3) := ds_row dvL_law_1878 dhL_law_1878 4 (q := 5) rfl
theorem dL_law_1886 : decode cL_law 1886 = .ok (.istore 6, 2) := ds_row dvL_law_1878 dhL_law_1878 5 (q := 8) rfl
theorem dL_law_1888 : decode cL_law 1888 = .ok (.goto 3, 3) := ds_row dvL_law_1878 dhL_law_1878 6 (q := 10) rfl
theorem dL_law_1891 : decode cL_law 1891 = .ok (.iinc 4 7, 3) := ds_row dvL_law_1878 dhL_law_1878 7 (q := 13) rfl
theorem dL_law_1894 : decode cL_law 1894 = .ok (.goto (-1871), 3) := ds_row dvL_law_1878 dhL_law_1878 8 (q := 16) rfl
theorem dL_law_1897 : decode cL_law 1897 = .ok (.iconst 1, 1) := ds_row dvL_law_1878 dhL_law_1878 9 (q := 19) rfl
theorem dL_law_1898 : decode cL_law 1898 = .ok (.ireturn, 1) := ds_row dvL_law_1878 dhL_law_1878 10 (q := 20) rfl

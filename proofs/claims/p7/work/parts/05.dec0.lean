theorem dX0_takeRule_0 : decode cX0_takeRule 0 = .ok (.aload_n 0, 1) := by decide +kernel
theorem dX0_takeRule_1 : decode cX0_takeRule 1 = .ok (.getfield 35, 3) := by decide +kernel
theorem dX0_takeRule_4 : decode cX0_takeRule 4 = .ok (.bipush 10, 2) := by decide +kernel
theorem dX0_takeRule_6 : decode cX0_takeRule 6 = .ok (.invokestatic 39, 3) := by decide +kernel
theorem dX0_takeRule_9 : decode cX0_takeRule 9 = .ok (.ifCond .ne 5, 3) := by decide +kernel
theorem dX0_takeRule_12 : decode cX0_takeRule 12 = .ok (.aload_n 1, 1) := by decide +kernel
theorem dX0_takeRule_13 : decode cX0_takeRule 13 = .ok (.areturn, 1) := by decide +kernel
theorem dX0_takeRule_14 : decode cX0_takeRule 14 = .ok (.aload_n 0, 1) := by decide +kernel
theorem dX0_takeRule_15 : decode cX0_takeRule 15 = .ok (.getfield 17, 3) := by decide +kernel
theorem dX0_takeRule_18 : decode cX0_takeRule 18 = .ok (.aload_n 0, 1) := by decide +kernel
theorem dX0_takeRule_19 : decode cX0_takeRule 19 = .ok (.getfield 35, 3) := by decide +kernel
theorem dX0_takeRule_22 : decode cX0_takeRule 22 = .ok (.aaload, 1) := by decide +kernel
theorem dX0_takeRule_23 : decode cX0_takeRule 23 = .ok (.astore_n 3, 1) := by decide +kernel
theorem dX0_takeRule_24 : decode cX0_takeRule 24 = .ok (.aload_n 0, 1) := by decide +kernel
theorem dX0_takeRule_25 : decode cX0_takeRule 25 = .ok (.getfield 17, 3) := by decide +kernel
theorem dX0_takeRule_28 : decode cX0_takeRule 28 = .ok (.aload_n 0, 1) := by decide +kernel
theorem dX0_takeRule_29 : decode cX0_takeRule 29 = .ok (.getfield 35, 3) := by decide +kernel
theorem dX0_takeRule_32 : decode cX0_takeRule 32 = .ok (.aload_n 1, 1) := by decide +kernel
theorem dX0_takeRule_33 : decode cX0_takeRule 33 = .ok (.aastore, 1) := by decide +kernel
theorem dX0_takeRule_34 : decode cX0_takeRule 34 = .ok (.aload_n 0, 1) := by decide +kernel
theorem dX0_takeRule_35 : decode cX0_takeRule 35 = .ok (.getfield 21, 3) := by decide +kernel
theorem dX0_takeRule_38 : decode cX0_takeRule 38 = .ok (.aload_n 0, 1) := by decide +kernel
theorem dX0_takeRule_39 : decode cX0_takeRule 39 = .ok (.getfield 35, 3) := by decide +kernel
theorem dX0_takeRule_42 : decode cX0_takeRule 42 = .ok (.iload_n 2, 1) := by decide +kernel
theorem dX0_takeRule_43 : decode cX0_takeRule 43 = .ok (.iastore, 1) := by decide +kernel
theorem dX0_takeRule_44 : decode cX0_takeRule 44 = .ok (.aload_n 0, 1) := by decide +kernel
theorem dX0_takeRule_45 : decode cX0_takeRule 45 = .ok (.dup, 1) := by decide +kernel
theorem dX0_takeRule_46 : decode cX0_takeRule 46 = .ok (.getfield 35, 3) := by decide +kernel
theorem dX0_takeRule_49 : decode cX0_takeRule 49 = .ok (.iconst 1, 1) := by decide +kernel
theorem dX0_takeRule_50 : decode cX0_takeRule 50 = .ok (.iadd, 1) := by decide +kernel
theorem dX0_takeRule_51 : decode cX0_takeRule 51 = .ok (.putfield 35, 3) := by decide +kernel
theorem dX0_takeRule_54 : decode cX0_takeRule 54 = .ok (.aload_n 3, 1) := by decide +kernel
theorem dX0_takeRule_55 : decode cX0_takeRule 55 = .ok (.areturn, 1) := by decide +kernel
theorem dX0_weightBy_0 : decode cX0_weightBy 0 = .ok (.iconst 0, 1) := by decide +kernel
theorem dX0_weightBy_1 : decode cX0_weightBy 1 = .ok (.istore_n 3, 1) := by decide +kernel
theorem dX0_weightBy_2 : decode cX0_weightBy 2 = .ok (.iconst 0, 1) := by decide +kernel
theorem dX0_weightBy_3 : decode cX0_weightBy 3 = .ok (.istore 4, 2) := by decide +kernel
theorem dX0_weightBy_5 : decode cX0_weightBy 5 = .ok (.iconst 0, 1) := by decide +kernel
theorem dX0_weightBy_6 : decode cX0_weightBy 6 = .ok (.istore 5, 2) := by decide +kernel
theorem dX0_weightBy_8 : decode cX0_weightBy 8 = .ok (.iload 5, 2) := by decide +kernel
theorem dX0_weightBy_10 : decode cX0_weightBy 10 = .ok (.aload_n 0, 1) := by decide +kernel
theorem dX0_weightBy_11 : decode cX0_weightBy 11 = .ok (.getfield 30, 3) := by decide +kernel
theorem dX0_weightBy_14 : decode cX0_weightBy 14 = .ok (.getfield 43, 3) := by decide +kernel
theorem dX0_weightBy_17 : decode cX0_weightBy 17 = .ok (.if_icmp .ge 60, 3) := by decide +kernel
theorem dX0_weightBy_20 : decode cX0_weightBy 20 = .ok (.aload_n 0, 1) := by decide +kernel
theorem dX0_weightBy_21 : decode cX0_weightBy 21 = .ok (.getfield 30, 3) := by decide +kernel
theorem dX0_weightBy_24 : decode cX0_weightBy 24 = .ok (.iload 5, 2) := by decide +kernel
theorem dX0_weightBy_26 : decode cX0_weightBy 26 = .ok (.iconst 0, 1) := by decide +kernel
theorem dX0_weightBy_27 : decode cX0_weightBy 27 = .ok (.invokevirtual 46, 3) := by decide +kernel
theorem dX0_weightBy_30 : decode cX0_weightBy 30 = .ok (.istore 6, 2) := by decide +kernel
theorem dX0_weightBy_32 : decode cX0_weightBy 32 = .ok (.aload_n 0, 1) := by decide +kernel
theorem dX0_weightBy_33 : decode cX0_weightBy 33 = .ok (.iload 5, 2) := by decide +kernel
theorem dX0_weightBy_35 : decode cX0_weightBy 35 = .ok (.iload_n 1, 1) := by decide +kernel
theorem dX0_weightBy_36 : decode cX0_weightBy 36 = .ok (.iconst 0, 1) := by decide +kernel
theorem dX0_weightBy_37 : decode cX0_weightBy 37 = .ok (.invokevirtual 50, 3) := by decide +kernel
theorem dX0_weightBy_40 : decode cX0_weightBy 40 = .ok (.ifCond .eq 31, 3) := by decide +kernel
theorem dX0_weightBy_43 : decode cX0_weightBy 43 = .ok (.iload 6, 2) := by decide +kernel
theorem dX0_weightBy_45 : decode cX0_weightBy 45 = .ok (.iload_n 2, 1) := by decide +kernel
theorem dX0_weightBy_46 : decode cX0_weightBy 46 = .ok (.if_icmp .gt 25, 3) := by decide +kernel
theorem dX0_weightBy_49 : decode cX0_weightBy 49 = .ok (.iload 6, 2) := by decide +kernel
theorem dX0_weightBy_51 : decode cX0_weightBy 51 = .ok (.iload 4, 2) := by decide +kernel
theorem dX0_weightBy_53 : decode cX0_weightBy 53 = .ok (.if_icmp .lt 18, 3) := by decide +kernel
theorem dX0_weightBy_56 : decode cX0_weightBy 56 = .ok (.iload 6, 2) := by decide +kernel
theorem dX0_weightBy_58 : decode cX0_weightBy 58 = .ok (.istore 4, 2) := by decide +kernel
theorem dX0_weightBy_60 : decode cX0_weightBy 60 = .ok (.aload_n 0, 1) := by decide +kernel
theorem dX0_weightBy_61 : decode cX0_weightBy 61 = .ok (.getfield 30, 3) := by decide +kernel
theorem dX0_weightBy_64 : decode cX0_weightBy 64 = .ok (.iload 5, 2) := by decide +kernel
theorem dX0_weightBy_66 : decode cX0_weightBy 66 = .ok (.iconst 3, 1) := by decide +kernel
theorem dX0_weightBy_67 : decode cX0_weightBy 67 = .ok (.invokevirtual 46, 3) := by decide +kernel
theorem dX0_weightBy_70 : decode cX0_weightBy 70 = .ok (.istore_n 3, 1) := by decide +kernel
theorem dX0_weightBy_71 : decode cX0_weightBy 71 = .ok (.iinc 5 1, 3) := by decide +kernel
theorem dX0_weightBy_74 : decode cX0_weightBy 74 = .ok (.goto (-66), 3) := by decide +kernel
theorem dX0_weightBy_77 : decode cX0_weightBy 77 = .ok (.iload_n 3, 1) := by decide +kernel
theorem dX0_weightBy_78 : decode cX0_weightBy 78 = .ok (.ireturn, 1) := by decide +kernel
theorem dX0_timeBy_0 : decode cX0_timeBy 0 = .ok (.iconst 0, 1) := by decide +kernel
theorem dX0_timeBy_1 : decode cX0_timeBy 1 = .ok (.istore_n 3, 1) := by decide +kernel
theorem dX0_timeBy_2 : decode cX0_timeBy 2 = .ok (.iconst 0, 1) := by decide +kernel
theorem dX0_timeBy_3 : decode cX0_timeBy 3 = .ok (.istore 4, 2) := by decide +kernel
theorem dX0_timeBy_5 : decode cX0_timeBy 5 = .ok (.iload 4, 2) := by decide +kernel
theorem dX0_timeBy_7 : decode cX0_timeBy 7 = .ok (.aload_n 0, 1) := by decide +kernel
theorem dX0_timeBy_8 : decode cX0_timeBy 8 = .ok (.getfield 30, 3) := by decide +kernel
theorem dX0_timeBy_11 : decode cX0_timeBy 11 = .ok (.getfield 43, 3) := by decide +kernel
theorem dX0_timeBy_14 : decode cX0_timeBy 14 = .ok (.if_icmp .ge 47, 3) := by decide +kernel
theorem dX0_timeBy_17 : decode cX0_timeBy 17 = .ok (.aload_n 0, 1) := by decide +kernel
theorem dX0_timeBy_18 : decode cX0_timeBy 18 = .ok (.iload 4, 2) := by decide +kernel
theorem dX0_timeBy_20 : decode cX0_timeBy 20 = .ok (.iload_n 1, 1) := by decide +kernel
theorem dX0_timeBy_21 : decode cX0_timeBy 21 = .ok (.iconst 1, 1) := by decide +kernel
theorem dX0_timeBy_22 : decode cX0_timeBy 22 = .ok (.invokevirtual 50, 3) := by decide +kernel
theorem dX0_timeBy_25 : decode cX0_timeBy 25 = .ok (.ifCond .eq 30, 3) := by decide +kernel
theorem dX0_timeBy_28 : decode cX0_timeBy 28 = .ok (.aload_n 0, 1) := by decide +kernel
theorem dX0_timeBy_29 : decode cX0_timeBy 29 = .ok (.getfield 30, 3) := by decide +kernel
theorem dX0_timeBy_32 : decode cX0_timeBy 32 = .ok (.iload 4, 2) := by decide +kernel
theorem dX0_timeBy_34 : decode cX0_timeBy 34 = .ok (.iconst 0, 1) := by decide +kernel
theorem dX0_timeBy_35 : decode cX0_timeBy 35 = .ok (.invokevirtual 46, 3) := by decide +kernel
theorem dX0_timeBy_38 : decode cX0_timeBy 38 = .ok (.iload_n 2, 1) := by decide +kernel
theorem dX0_timeBy_39 : decode cX0_timeBy 39 = .ok (.if_icmp .gt 16, 3) := by decide +kernel
theorem dX0_timeBy_42 : decode cX0_timeBy 42 = .ok (.iload_n 3, 1) := by decide +kernel
theorem dX0_timeBy_43 : decode cX0_timeBy 43 = .ok (.aload_n 0, 1) := by decide +kernel
theorem dX0_timeBy_44 : decode cX0_timeBy 44 = .ok (.getfield 30, 3) := by decide +kernel
theorem dX0_timeBy_47 : decode cX0_timeBy 47 = .ok (.iload 4, 2) := by decide +kernel
theorem dX0_timeBy_49 : decode cX0_timeBy 49 = .ok (.iconst 3, 1) := by decide +kernel
theorem dX0_timeBy_50 : decode cX0_timeBy 50 = .ok (.invokevirtual 46, 3) := by decide +kernel
theorem dX0_timeBy_53 : decode cX0_timeBy 53 = .ok (.iadd, 1) := by decide +kernel
theorem dX0_timeBy_54 : decode cX0_timeBy 54 = .ok (.istore_n 3, 1) := by decide +kernel
theorem dX0_timeBy_55 : decode cX0_timeBy 55 = .ok (.iinc 4 1, 3) := by decide +kernel
theorem dX0_timeBy_58 : decode cX0_timeBy 58 = .ok (.goto (-53), 3) := by decide +kernel
theorem dX0_timeBy_61 : decode cX0_timeBy 61 = .ok (.iload_n 3, 1) := by decide +kernel
theorem dX0_timeBy_62 : decode cX0_timeBy 62 = .ok (.ireturn, 1) := by decide +kernel
theorem dX0_isOf_0 : decode cX0_isOf 0 = .ok (.aload_n 0, 1) := by decide +kernel
theorem dX0_isOf_1 : decode cX0_isOf 1 = .ok (.getfield 30, 3) := by decide +kernel
theorem dX0_isOf_4 : decode cX0_isOf 4 = .ok (.iload_n 1, 1) := by decide +kernel
theorem dX0_isOf_5 : decode cX0_isOf 5 = .ok (.iconst 1, 1) := by decide +kernel
theorem dX0_isOf_6 : decode cX0_isOf 6 = .ok (.invokevirtual 46, 3) := by decide +kernel
theorem dX0_isOf_9 : decode cX0_isOf 9 = .ok (.iload_n 2, 1) := by decide +kernel
theorem dX0_isOf_10 : decode cX0_isOf 10 = .ok (.if_icmp .ne 20, 3) := by decide +kernel
theorem dX0_isOf_13 : decode cX0_isOf 13 = .ok (.aload_n 0, 1) := by decide +kernel
theorem dX0_isOf_14 : decode cX0_isOf 14 = .ok (.getfield 30, 3) := by decide +kernel
theorem dX0_isOf_17 : decode cX0_isOf 17 = .ok (.iload_n 1, 1) := by decide +kernel
theorem dX0_isOf_18 : decode cX0_isOf 18 = .ok (.iconst 2, 1) := by decide +kernel
theorem dX0_isOf_19 : decode cX0_isOf 19 = .ok (.invokevirtual 46, 3) := by decide +kernel
theorem dX0_isOf_22 : decode cX0_isOf 22 = .ok (.iload_n 3, 1) := by decide +kernel
theorem dX0_isOf_23 : decode cX0_isOf 23 = .ok (.if_icmp .ne 7, 3) := by decide +kernel
theorem dX0_isOf_26 : decode cX0_isOf 26 = .ok (.iconst 1, 1) := by decide +kernel
theorem dX0_isOf_27 : decode cX0_isOf 27 = .ok (.goto 4, 3) := by decide +kernel
theorem dX0_isOf_30 : decode cX0_isOf 30 = .ok (.iconst 0, 1) := by decide +kernel
theorem dX0_isOf_31 : decode cX0_isOf 31 = .ok (.ireturn, 1) := by decide +kernel
theorem dX0_secondsBy_0 : decode cX0_secondsBy 0 = .ok (.aload_n 0, 1) := by decide +kernel
theorem dX0_secondsBy_1 : decode cX0_secondsBy 1 = .ok (.getfield 9, 3) := by decide +kernel
theorem dX0_secondsBy_4 : decode cX0_secondsBy 4 = .ok (.bipush 115, 2) := by decide +kernel
theorem dX0_secondsBy_6 : decode cX0_secondsBy 6 = .ok (.aload_n 2, 1) := by decide +kernel
theorem dX0_secondsBy_7 : decode cX0_secondsBy 7 = .ok (.getfield 54, 3) := by decide +kernel
theorem dX0_secondsBy_10 : decode cX0_secondsBy 10 = .ok (.invokevirtual 59, 3) := by decide +kernel
theorem dX0_secondsBy_13 : decode cX0_secondsBy 13 = .ok (.aload_n 0, 1) := by decide +kernel
theorem dX0_secondsBy_14 : decode cX0_secondsBy 14 = .ok (.getfield 9, 3) := by decide +kernel
theorem dX0_secondsBy_17 : decode cX0_secondsBy 17 = .ok (.bipush 107, 2) := by decide +kernel
theorem dX0_secondsBy_19 : decode cX0_secondsBy 19 = .ok (.aload_n 2, 1) := by decide +kernel
theorem dX0_secondsBy_20 : decode cX0_secondsBy 20 = .ok (.getfield 65, 3) := by decide +kernel
theorem dX0_secondsBy_23 : decode cX0_secondsBy 23 = .ok (.invokestatic 68, 3) := by decide +kernel
theorem dX0_secondsBy_26 : decode cX0_secondsBy 26 = .ok (.invokevirtual 59, 3) := by decide +kernel
theorem dX0_secondsBy_29 : decode cX0_secondsBy 29 = .ok (.aload_n 0, 1) := by decide +kernel
theorem dX0_secondsBy_30 : decode cX0_secondsBy 30 = .ok (.getfield 9, 3) := by decide +kernel
theorem dX0_secondsBy_33 : decode cX0_secondsBy 33 = .ok (.bipush 112, 2) := by decide +kernel
theorem dX0_secondsBy_35 : decode cX0_secondsBy 35 = .ok (.aload_n 2, 1) := by decide +kernel
theorem dX0_secondsBy_36 : decode cX0_secondsBy 36 = .ok (.getfield 74, 3) := by decide +kernel
theorem dX0_secondsBy_39 : decode cX0_secondsBy 39 = .ok (.invokevirtual 59, 3) := by decide +kernel
theorem dX0_secondsBy_42 : decode cX0_secondsBy 42 = .ok (.aload_n 0, 1) := by decide +kernel
theorem dX0_secondsBy_43 : decode cX0_secondsBy 43 = .ok (.getfield 9, 3) := by decide +kernel
theorem dX0_secondsBy_46 : decode cX0_secondsBy 46 = .ok (.bipush 108, 2) := by decide +kernel
theorem dX0_secondsBy_48 : decode cX0_secondsBy 48 = .ok (.iload_n 3, 1) := by decide +kernel
theorem dX0_secondsBy_49 : decode cX0_secondsBy 49 = .ok (.invokevirtual 59, 3) := by decide +kernel
theorem dX0_secondsBy_52 : decode cX0_secondsBy 52 = .ok (.aload_n 0, 1) := by decide +kernel
theorem dX0_secondsBy_53 : decode cX0_secondsBy 53 = .ok (.getfield 9, 3) := by decide +kernel
theorem dX0_secondsBy_56 : decode cX0_secondsBy 56 = .ok (.bipush 119, 2) := by decide +kernel
theorem dX0_secondsBy_58 : decode cX0_secondsBy 58 = .ok (.iload 4, 2) := by decide +kernel
theorem dX0_secondsBy_60 : decode cX0_secondsBy 60 = .ok (.invokevirtual 59, 3) := by decide +kernel
theorem dX0_secondsBy_63 : decode cX0_secondsBy 63 = .ok (.aload_n 0, 1) := by decide +kernel
theorem dX0_secondsBy_64 : decode cX0_secondsBy 64 = .ok (.getfield 9, 3) := by decide +kernel
theorem dX0_secondsBy_67 : decode cX0_secondsBy 67 = .ok (.bipush 99, 2) := by decide +kernel
theorem dX0_secondsBy_69 : decode cX0_secondsBy 69 = .ok (.aload_n 1, 1) := by decide +kernel
theorem dX0_secondsBy_70 : decode cX0_secondsBy 70 = .ok (.getfield 77, 3) := by decide +kernel
theorem dX0_secondsBy_73 : decode cX0_secondsBy 73 = .ok (.invokevirtual 59, 3) := by decide +kernel
theorem dX0_secondsBy_76 : decode cX0_secondsBy 76 = .ok (.aload_n 0, 1) := by decide +kernel
theorem dX0_secondsBy_77 : decode cX0_secondsBy 77 = .ok (.getfield 9, 3) := by decide +kernel
theorem dX0_secondsBy_80 : decode cX0_secondsBy 80 = .ok (.bipush 111, 2) := by decide +kernel
theorem dX0_secondsBy_82 : decode cX0_secondsBy 82 = .ok (.aload_n 2, 1) := by decide +kernel
theorem dX0_secondsBy_83 : decode cX0_secondsBy 83 = .ok (.getfield 82, 3) := by decide +kernel
theorem dX0_secondsBy_86 : decode cX0_secondsBy 86 = .ok (.iconst 2, 1) := by decide +kernel
theorem dX0_secondsBy_87 : decode cX0_secondsBy 87 = .ok (.if_icmp .ne 7, 3) := by decide +kernel
theorem dX0_secondsBy_90 : decode cX0_secondsBy 90 = .ok (.iconst 1, 1) := by decide +kernel
theorem dX0_secondsBy_91 : decode cX0_secondsBy 91 = .ok (.goto 4, 3) := by decide +kernel
theorem dX0_secondsBy_94 : decode cX0_secondsBy 94 = .ok (.iconst 0, 1) := by decide +kernel
theorem dX0_secondsBy_95 : decode cX0_secondsBy 95 = .ok (.invokevirtual 59, 3) := by decide +kernel
theorem dX0_secondsBy_98 : decode cX0_secondsBy 98 = .ok (.aload_n 0, 1) := by decide +kernel
theorem dX0_secondsBy_99 : decode cX0_secondsBy 99 = .ok (.getfield 9, 3) := by decide +kernel
theorem dX0_secondsBy_102 : decode cX0_secondsBy 102 = .ok (.bipush 102, 2) := by decide +kernel
theorem dX0_secondsBy_104 : decode cX0_secondsBy 104 = .ok (.aload_n 2, 1) := by decide +kernel
theorem dX0_secondsBy_105 : decode cX0_secondsBy 105 = .ok (.getfield 85, 3) := by decide +kernel
theorem dX0_secondsBy_108 : decode cX0_secondsBy 108 = .ok (.invokevirtual 59, 3) := by decide +kernel
theorem dX0_secondsBy_111 : decode cX0_secondsBy 111 = .ok (.aload_n 0, 1) := by decide +kernel
theorem dX0_secondsBy_112 : decode cX0_secondsBy 112 = .ok (.getfield 9, 3) := by decide +kernel
theorem dX0_secondsBy_115 : decode cX0_secondsBy 115 = .ok (.bipush 116, 2) := by decide +kernel
theorem dX0_secondsBy_117 : decode cX0_secondsBy 117 = .ok (.aload_n 1, 1) := by decide +kernel
theorem dX0_secondsBy_118 : decode cX0_secondsBy 118 = .ok (.getfield 88, 3) := by decide +kernel
theorem dX0_secondsBy_121 : decode cX0_secondsBy 121 = .ok (.invokevirtual 59, 3) := by decide +kernel
theorem dX0_secondsBy_124 : decode cX0_secondsBy 124 = .ok (.iconst 0, 1) := by decide +kernel
theorem dX0_secondsBy_125 : decode cX0_secondsBy 125 = .ok (.istore 6, 2) := by decide +kernel
theorem dX0_secondsBy_127 : decode cX0_secondsBy 127 = .ok (.iconst 0, 1) := by decide +kernel
theorem dX0_secondsBy_128 : decode cX0_secondsBy 128 = .ok (.istore 7, 2) := by decide +kernel
theorem dX0_secondsBy_130 : decode cX0_secondsBy 130 = .ok (.iload 7, 2) := by decide +kernel
theorem dX0_secondsBy_132 : decode cX0_secondsBy 132 = .ok (.aload_n 0, 1) := by decide +kernel
theorem dX0_secondsBy_133 : decode cX0_secondsBy 133 = .ok (.getfield 35, 3) := by decide +kernel
theorem dX0_secondsBy_136 : decode cX0_secondsBy 136 = .ok (.if_icmp .ge 79, 3) := by decide +kernel
theorem dX0_secondsBy_139 : decode cX0_secondsBy 139 = .ok (.iload 7, 2) := by decide +kernel
theorem dX0_secondsBy_141 : decode cX0_secondsBy 141 = .ok (.bipush 10, 2) := by decide +kernel
theorem dX0_secondsBy_143 : decode cX0_secondsBy 143 = .ok (.if_icmp .ge 72, 3) := by decide +kernel
theorem dX0_secondsBy_146 : decode cX0_secondsBy 146 = .ok (.aload_n 0, 1) := by decide +kernel
theorem dX0_secondsBy_147 : decode cX0_secondsBy 147 = .ok (.getfield 21, 3) := by decide +kernel
theorem dX0_secondsBy_150 : decode cX0_secondsBy 150 = .ok (.iload 7, 2) := by decide +kernel
theorem dX0_secondsBy_152 : decode cX0_secondsBy 152 = .ok (.iaload, 1) := by decide +kernel
theorem dX0_secondsBy_153 : decode cX0_secondsBy 153 = .ok (.iload 5, 2) := by decide +kernel
theorem dX0_secondsBy_155 : decode cX0_secondsBy 155 = .ok (.if_icmp .gt 54, 3) := by decide +kernel
theorem dX0_secondsBy_158 : decode cX0_secondsBy 158 = .ok (.aload_n 0, 1) := by decide +kernel
theorem dX0_secondsBy_159 : decode cX0_secondsBy 159 = .ok (.getfield 9, 3) := by decide +kernel
theorem dX0_secondsBy_162 : decode cX0_secondsBy 162 = .ok (.aload_n 0, 1) := by decide +kernel
theorem dX0_secondsBy_163 : decode cX0_secondsBy 163 = .ok (.getfield 17, 3) := by decide +kernel
theorem dX0_secondsBy_166 : decode cX0_secondsBy 166 = .ok (.iload 7, 2) := by decide +kernel
theorem dX0_secondsBy_168 : decode cX0_secondsBy 168 = .ok (.aaload, 1) := by decide +kernel
theorem dX0_secondsBy_169 : decode cX0_secondsBy 169 = .ok (.iconst 0, 1) := by decide +kernel
theorem dX0_secondsBy_170 : decode cX0_secondsBy 170 = .ok (.invokevirtual 91, 3) := by decide +kernel
theorem dX0_secondsBy_173 : decode cX0_secondsBy 173 = .ok (.ifCond .eq 36, 3) := by decide +kernel
theorem dX0_secondsBy_176 : decode cX0_secondsBy 176 = .ok (.aload_n 0, 1) := by decide +kernel
theorem dX0_secondsBy_177 : decode cX0_secondsBy 177 = .ok (.getfield 17, 3) := by decide +kernel
theorem dX0_secondsBy_180 : decode cX0_secondsBy 180 = .ok (.iload 7, 2) := by decide +kernel
theorem dX0_secondsBy_182 : decode cX0_secondsBy 182 = .ok (.aaload, 1) := by decide +kernel
theorem dX0_secondsBy_183 : decode cX0_secondsBy 183 = .ok (.getfield 95, 3) := by decide +kernel
theorem dX0_secondsBy_186 : decode cX0_secondsBy 186 = .ok (.bipush (-2), 2) := by decide +kernel
theorem dX0_secondsBy_188 : decode cX0_secondsBy 188 = .ok (.if_icmp .ne 6, 3) := by decide +kernel
theorem dX0_secondsBy_191 : decode cX0_secondsBy 191 = .ok (.bipush (-2), 2) := by decide +kernel
theorem dX0_secondsBy_193 : decode cX0_secondsBy 193 = .ok (.ireturn, 1) := by decide +kernel
theorem dX0_secondsBy_194 : decode cX0_secondsBy 194 = .ok (.iload 6, 2) := by decide +kernel
theorem dX0_secondsBy_196 : decode cX0_secondsBy 196 = .ok (.aload_n 0, 1) := by decide +kernel
theorem dX0_secondsBy_197 : decode cX0_secondsBy 197 = .ok (.getfield 17, 3) := by decide +kernel
theorem dX0_secondsBy_200 : decode cX0_secondsBy 200 = .ok (.iload 7, 2) := by decide +kernel
theorem dX0_secondsBy_202 : decode cX0_secondsBy 202 = .ok (.aaload, 1) := by decide +kernel
theorem dX0_secondsBy_203 : decode cX0_secondsBy 203 = .ok (.getfield 95, 3) := by decide +kernel
theorem dX0_secondsBy_206 : decode cX0_secondsBy 206 = .ok (.iadd, 1) := by decide +kernel
theorem dX0_secondsBy_207 : decode cX0_secondsBy 207 = .ok (.istore 6, 2) := by decide +kernel
theorem dX0_secondsBy_209 : decode cX0_secondsBy 209 = .ok (.iinc 7 1, 3) := by decide +kernel
theorem dX0_secondsBy_212 : decode cX0_secondsBy 212 = .ok (.goto (-82), 3) := by decide +kernel
theorem dX0_secondsBy_215 : decode cX0_secondsBy 215 = .ok (.iload 6, 2) := by decide +kernel
theorem dX0_secondsBy_217 : decode cX0_secondsBy 217 = .ok (.ireturn, 1) := by decide +kernel
theorem dX1_forget_0 : decode cX1_forget 0 = .ok (.aload_n 0, 1) := by decide +kernel
theorem dX1_forget_1 : decode cX1_forget 1 = .ok (.getfield 14, 3) := by decide +kernel
theorem dX1_forget_4 : decode cX1_forget 4 = .ok (.iconst 0, 1) := by decide +kernel
theorem dX1_forget_5 : decode cX1_forget 5 = .ok (.putfield 39, 3) := by decide +kernel
theorem dX1_forget_8 : decode cX1_forget 8 = .ok (.aload_n 0, 1) := by decide +kernel
theorem dX1_forget_9 : decode cX1_forget 9 = .ok (.getfield 20, 3) := by decide +kernel
theorem dX1_forget_12 : decode cX1_forget 12 = .ok (.iconst 0, 1) := by decide +kernel
theorem dX1_forget_13 : decode cX1_forget 13 = .ok (.putfield 39, 3) := by decide +kernel
theorem dX1_forget_16 : decode cX1_forget 16 = .ok (.aload_n 0, 1) := by decide +kernel
theorem dX1_forget_17 : decode cX1_forget 17 = .ok (.getfield 23, 3) := by decide +kernel
theorem dX1_forget_20 : decode cX1_forget 20 = .ok (.iconst 0, 1) := by decide +kernel
theorem dX1_forget_21 : decode cX1_forget 21 = .ok (.putfield 39, 3) := by decide +kernel
theorem dX1_forget_24 : decode cX1_forget 24 = .ok (.aload_n 0, 1) := by decide +kernel
theorem dX1_forget_25 : decode cX1_forget 25 = .ok (.getfield 26, 3) := by decide +kernel
theorem dX1_forget_28 : decode cX1_forget 28 = .ok (.iconst 0, 1) := by decide +kernel
theorem dX1_forget_29 : decode cX1_forget 29 = .ok (.putfield 39, 3) := by decide +kernel
theorem dX1_forget_32 : decode cX1_forget 32 = .ok (.aload_n 0, 1) := by decide +kernel
theorem dX1_forget_33 : decode cX1_forget 33 = .ok (.iconst 0, 1) := by decide +kernel
theorem dX1_forget_34 : decode cX1_forget 34 = .ok (.putfield 43, 3) := by decide +kernel
theorem dX1_forget_37 : decode cX1_forget 37 = .ok (.aload_n 0, 1) := by decide +kernel
theorem dX1_forget_38 : decode cX1_forget 38 = .ok (.iconst 0, 1) := by decide +kernel
theorem dX1_forget_39 : decode cX1_forget 39 = .ok (.putfield 47, 3) := by decide +kernel
theorem dX1_forget_42 : decode cX1_forget 42 = .ok (.return_, 1) := by decide +kernel
theorem dX1_stopsInForce_0 : decode cX1_stopsInForce 0 = .ok (.aload_n 0, 1) := by decide +kernel
theorem dX1_stopsInForce_1 : decode cX1_stopsInForce 1 = .ok (.getfield 47, 3) := by decide +kernel
theorem dX1_stopsInForce_4 : decode cX1_stopsInForce 4 = .ok (.ifCond .eq 10, 3) := by decide +kernel
theorem dX1_stopsInForce_7 : decode cX1_stopsInForce 7 = .ok (.aload_n 0, 1) := by decide +kernel
theorem dX1_stopsInForce_8 : decode cX1_stopsInForce 8 = .ok (.getfield 29, 3) := by decide +kernel
theorem dX1_stopsInForce_11 : decode cX1_stopsInForce 11 = .ok (.goto 7, 3) := by decide +kernel
theorem dX1_stopsInForce_14 : decode cX1_stopsInForce 14 = .ok (.aload_n 0, 1) := by decide +kernel
theorem dX1_stopsInForce_15 : decode cX1_stopsInForce 15 = .ok (.getfield 23, 3) := by decide +kernel
theorem dX1_stopsInForce_18 : decode cX1_stopsInForce 18 = .ok (.areturn, 1) := by decide +kernel
theorem dX1_isAsked_0 : decode cX1_isAsked 0 = .ok (.aload_n 0, 1) := by decide +kernel
theorem dX1_isAsked_1 : decode cX1_isAsked 1 = .ok (.getfield 43, 3) := by decide +kernel
theorem dX1_isAsked_4 : decode cX1_isAsked 4 = .ok (.ifCond .eq 14, 3) := by decide +kernel
theorem dX1_isAsked_7 : decode cX1_isAsked 7 = .ok (.aload_n 0, 1) := by decide +kernel
theorem dX1_isAsked_8 : decode cX1_isAsked 8 = .ok (.getfield 47, 3) := by decide +kernel
theorem dX1_isAsked_11 : decode cX1_isAsked 11 = .ok (.ifCond .ne 7, 3) := by decide +kernel
theorem dX1_isAsked_14 : decode cX1_isAsked 14 = .ok (.iconst 1, 1) := by decide +kernel
theorem dX1_isAsked_15 : decode cX1_isAsked 15 = .ok (.goto 4, 3) := by decide +kernel
theorem dX1_isAsked_18 : decode cX1_isAsked 18 = .ok (.iconst 0, 1) := by decide +kernel
theorem dX1_isAsked_19 : decode cX1_isAsked 19 = .ok (.ireturn, 1) := by decide +kernel
theorem dX1_stopBehind_0 : decode cX1_stopBehind 0 = .ok (.aload_n 0, 1) := by decide +kernel
theorem dX1_stopBehind_1 : decode cX1_stopBehind 1 = .ok (.invokevirtual 50, 3) := by decide +kernel
theorem dX1_stopBehind_4 : decode cX1_stopBehind 4 = .ok (.astore_n 2, 1) := by decide +kernel
theorem dX1_stopBehind_5 : decode cX1_stopBehind 5 = .ok (.aload_n 2, 1) := by decide +kernel
theorem dX1_stopBehind_6 : decode cX1_stopBehind 6 = .ok (.getfield 39, 3) := by decide +kernel
theorem dX1_stopBehind_9 : decode cX1_stopBehind 9 = .ok (.iconst 1, 1) := by decide +kernel
theorem dX1_stopBehind_10 : decode cX1_stopBehind 10 = .ok (.isub, 1) := by decide +kernel
theorem dX1_stopBehind_11 : decode cX1_stopBehind 11 = .ok (.istore_n 3, 1) := by decide +kernel
theorem dX1_stopBehind_12 : decode cX1_stopBehind 12 = .ok (.iload_n 3, 1) := by decide +kernel
theorem dX1_stopBehind_13 : decode cX1_stopBehind 13 = .ok (.ifCond .lt 21, 3) := by decide +kernel
theorem dX1_stopBehind_16 : decode cX1_stopBehind 16 = .ok (.aload_n 2, 1) := by decide +kernel
theorem dX1_stopBehind_17 : decode cX1_stopBehind 17 = .ok (.iload_n 3, 1) := by decide +kernel
theorem dX1_stopBehind_18 : decode cX1_stopBehind 18 = .ok (.iconst 0, 1) := by decide +kernel
theorem dX1_stopBehind_19 : decode cX1_stopBehind 19 = .ok (.invokevirtual 54, 3) := by decide +kernel
theorem dX1_stopBehind_22 : decode cX1_stopBehind 22 = .ok (.iload_n 1, 1) := by decide +kernel
theorem dX1_stopBehind_23 : decode cX1_stopBehind 23 = .ok (.if_icmp .ne 5, 3) := by decide +kernel
theorem dX1_stopBehind_26 : decode cX1_stopBehind 26 = .ok (.iload_n 3, 1) := by decide +kernel
theorem dX1_stopBehind_27 : decode cX1_stopBehind 27 = .ok (.ireturn, 1) := by decide +kernel
theorem dX1_stopBehind_28 : decode cX1_stopBehind 28 = .ok (.iinc 3 (-1), 3) := by decide +kernel
theorem dX1_stopBehind_31 : decode cX1_stopBehind 31 = .ok (.goto (-19), 3) := by decide +kernel
theorem dX1_stopBehind_34 : decode cX1_stopBehind 34 = .ok (.iconst (-1), 1) := by decide +kernel
theorem dX1_stopBehind_35 : decode cX1_stopBehind 35 = .ok (.ireturn, 1) := by decide +kernel
theorem dX1_tryOption_0 : decode cX1_tryOption 0 = .ok (.aload_n 0, 1) := by decide +kernel
theorem dX1_tryOption_1 : decode cX1_tryOption 1 = .ok (.iconst 1, 1) := by decide +kernel
theorem dX1_tryOption_2 : decode cX1_tryOption 2 = .ok (.putfield 47, 3) := by decide +kernel
theorem dX1_tryOption_5 : decode cX1_tryOption 5 = .ok (.aload_n 0, 1) := by decide +kernel
theorem dX1_tryOption_6 : decode cX1_tryOption 6 = .ok (.getfield 29, 3) := by decide +kernel
theorem dX1_tryOption_9 : decode cX1_tryOption 9 = .ok (.iconst 0, 1) := by decide +kernel
theorem dX1_tryOption_10 : decode cX1_tryOption 10 = .ok (.putfield 39, 3) := by decide +kernel
theorem dX1_tryOption_13 : decode cX1_tryOption 13 = .ok (.aload_n 0, 1) := by decide +kernel
theorem dX1_tryOption_14 : decode cX1_tryOption 14 = .ok (.getfield 26, 3) := by decide +kernel
theorem dX1_tryOption_17 : decode cX1_tryOption 17 = .ok (.iload_n 1, 1) := by decide +kernel
theorem dX1_tryOption_18 : decode cX1_tryOption 18 = .ok (.iconst 0, 1) := by decide +kernel
theorem dX1_tryOption_19 : decode cX1_tryOption 19 = .ok (.invokevirtual 54, 3) := by decide +kernel
theorem dX1_tryOption_22 : decode cX1_tryOption 22 = .ok (.iconst (-1), 1) := by decide +kernel
theorem dX1_tryOption_23 : decode cX1_tryOption 23 = .ok (.if_icmp .eq 33, 3) := by decide +kernel
theorem dX1_tryOption_26 : decode cX1_tryOption 26 = .ok (.aload_n 0, 1) := by decide +kernel
theorem dX1_tryOption_27 : decode cX1_tryOption 27 = .ok (.getfield 29, 3) := by decide +kernel
theorem dX1_tryOption_30 : decode cX1_tryOption 30 = .ok (.aload_n 0, 1) := by decide +kernel
theorem dX1_tryOption_31 : decode cX1_tryOption 31 = .ok (.getfield 26, 3) := by decide +kernel
theorem dX1_tryOption_34 : decode cX1_tryOption 34 = .ok (.iload_n 1, 1) := by decide +kernel
theorem dX1_tryOption_35 : decode cX1_tryOption 35 = .ok (.iconst 0, 1) := by decide +kernel
theorem dX1_tryOption_36 : decode cX1_tryOption 36 = .ok (.invokevirtual 54, 3) := by decide +kernel
theorem dX1_tryOption_39 : decode cX1_tryOption 39 = .ok (.aload_n 0, 1) := by decide +kernel
theorem dX1_tryOption_40 : decode cX1_tryOption 40 = .ok (.getfield 26, 3) := by decide +kernel
theorem dX1_tryOption_43 : decode cX1_tryOption 43 = .ok (.iload_n 1, 1) := by decide +kernel
theorem dX1_tryOption_44 : decode cX1_tryOption 44 = .ok (.iconst 1, 1) := by decide +kernel
theorem dX1_tryOption_45 : decode cX1_tryOption 45 = .ok (.invokevirtual 54, 3) := by decide +kernel
theorem dX1_tryOption_48 : decode cX1_tryOption 48 = .ok (.sipush 200, 3) := by decide +kernel
theorem dX1_tryOption_51 : decode cX1_tryOption 51 = .ok (.iconst 0, 1) := by decide +kernel
theorem dX1_tryOption_52 : decode cX1_tryOption 52 = .ok (.invokevirtual 58, 3) := by decide +kernel
theorem dX1_tryOption_55 : decode cX1_tryOption 55 = .ok (.pop, 1) := by decide +kernel
theorem dX1_tryOption_56 : decode cX1_tryOption 56 = .ok (.return_, 1) := by decide +kernel
theorem dX2_has_0 : decode cX2_has 0 = .ok (.iload_n 1, 1) := by decide +kernel
theorem dX2_has_1 : decode cX2_has 1 = .ok (.aload_n 0, 1) := by decide +kernel
theorem dX2_has_2 : decode cX2_has 2 = .ok (.getfield 37, 3) := by decide +kernel
theorem dX2_has_5 : decode cX2_has 5 = .ok (.invokestatic 41, 3) := by decide +kernel
theorem dX2_has_8 : decode cX2_has 8 = .ok (.ifCond .eq 13, 3) := by decide +kernel
theorem dX2_has_11 : decode cX2_has 11 = .ok (.iload_n 1, 1) := by decide +kernel
theorem dX2_has_12 : decode cX2_has 12 = .ok (.bipush 6, 2) := by decide +kernel
theorem dX2_has_14 : decode cX2_has 14 = .ok (.if_icmp .ge 7, 3) := by decide +kernel
theorem dX2_has_17 : decode cX2_has 17 = .ok (.iconst 1, 1) := by decide +kernel
theorem dX2_has_18 : decode cX2_has 18 = .ok (.goto 4, 3) := by decide +kernel
theorem dX2_has_21 : decode cX2_has 21 = .ok (.iconst 0, 1) := by decide +kernel
theorem dX2_has_22 : decode cX2_has 22 = .ok (.ireturn, 1) := by decide +kernel
theorem dX2_optionCount_0 : decode cX2_optionCount 0 = .ok (.iconst 0, 1) := by decide +kernel
theorem dX2_optionCount_1 : decode cX2_optionCount 1 = .ok (.istore_n 1, 1) := by decide +kernel
theorem dX2_optionCount_2 : decode cX2_optionCount 2 = .ok (.iconst 0, 1) := by decide +kernel
theorem dX2_optionCount_3 : decode cX2_optionCount 3 = .ok (.istore_n 2, 1) := by decide +kernel
theorem dX2_optionCount_4 : decode cX2_optionCount 4 = .ok (.iload_n 2, 1) := by decide +kernel
theorem dX2_optionCount_5 : decode cX2_optionCount 5 = .ok (.aload_n 0, 1) := by decide +kernel
theorem dX2_optionCount_6 : decode cX2_optionCount 6 = .ok (.getfield 37, 3) := by decide +kernel
theorem dX2_optionCount_9 : decode cX2_optionCount 9 = .ok (.if_icmp .ge 30, 3) := by decide +kernel
theorem dX2_optionCount_12 : decode cX2_optionCount 12 = .ok (.iload_n 2, 1) := by decide +kernel
theorem dX2_optionCount_13 : decode cX2_optionCount 13 = .ok (.bipush 6, 2) := by decide +kernel
theorem dX2_optionCount_15 : decode cX2_optionCount 15 = .ok (.if_icmp .ge 24, 3) := by decide +kernel
theorem dX2_optionCount_18 : decode cX2_optionCount 18 = .ok (.iload_n 1, 1) := by decide +kernel
theorem dX2_optionCount_19 : decode cX2_optionCount 19 = .ok (.aload_n 0, 1) := by decide +kernel
theorem dX2_optionCount_20 : decode cX2_optionCount 20 = .ok (.getfield 21, 3) := by decide +kernel
theorem dX2_optionCount_23 : decode cX2_optionCount 23 = .ok (.iload_n 2, 1) := by decide +kernel
theorem dX2_optionCount_24 : decode cX2_optionCount 24 = .ok (.aaload, 1) := by decide +kernel
theorem dX2_optionCount_25 : decode cX2_optionCount 25 = .ok (.getfield 45, 3) := by decide +kernel
theorem dX2_optionCount_28 : decode cX2_optionCount 28 = .ok (.getfield 49, 3) := by decide +kernel
theorem dX2_optionCount_31 : decode cX2_optionCount 31 = .ok (.iadd, 1) := by decide +kernel
theorem dX2_optionCount_32 : decode cX2_optionCount 32 = .ok (.istore_n 1, 1) := by decide +kernel
theorem dX2_optionCount_33 : decode cX2_optionCount 33 = .ok (.iinc 2 1, 3) := by decide +kernel
theorem dX2_optionCount_36 : decode cX2_optionCount 36 = .ok (.goto (-32), 3) := by decide +kernel
theorem dX2_optionCount_39 : decode cX2_optionCount 39 = .ok (.iload_n 1, 1) := by decide +kernel
theorem dX2_optionCount_40 : decode cX2_optionCount 40 = .ok (.ireturn, 1) := by decide +kernel
theorem dX2_reckon_0 : decode cX2_reckon 0 = .ok (.aload_n 0, 1) := by decide +kernel
theorem dX2_reckon_1 : decode cX2_reckon 1 = .ok (.getfield 54, 3) := by decide +kernel
theorem dX2_reckon_4 : decode cX2_reckon 4 = .ok (.ifCond .ne 12, 3) := by decide +kernel
theorem dX2_reckon_7 : decode cX2_reckon 7 = .ok (.aload_n 0, 1) := by decide +kernel
theorem dX2_reckon_8 : decode cX2_reckon 8 = .ok (.invokevirtual 58, 3) := by decide +kernel
theorem dX2_reckon_11 : decode cX2_reckon 11 = .ok (.aload_n 0, 1) := by decide +kernel
theorem dX2_reckon_12 : decode cX2_reckon 12 = .ok (.iconst 1, 1) := by decide +kernel
theorem dX2_reckon_13 : decode cX2_reckon 13 = .ok (.putfield 54, 3) := by decide +kernel
theorem dX2_reckon_16 : decode cX2_reckon 16 = .ok (.return_, 1) := by decide +kernel
theorem dX2_run_0 : decode cX2_run 0 = .ok (.aload_n 0, 1) := by decide +kernel
theorem dX2_run_1 : decode cX2_run 1 = .ok (.iconst 0, 1) := by decide +kernel
theorem dX2_run_2 : decode cX2_run 2 = .ok (.putfield 54, 3) := by decide +kernel
theorem dX2_run_5 : decode cX2_run 5 = .ok (.aload_n 0, 1) := by decide +kernel
theorem dX2_run_6 : decode cX2_run 6 = .ok (.iconst 0, 1) := by decide +kernel
theorem dX2_run_7 : decode cX2_run 7 = .ok (.putfield 61, 3) := by decide +kernel
theorem dX2_run_10 : decode cX2_run 10 = .ok (.aload_n 0, 1) := by decide +kernel
theorem dX2_run_11 : decode cX2_run 11 = .ok (.getfield 31, 3) := by decide +kernel
theorem dX2_run_14 : decode cX2_run 14 = .ok (.iconst 0, 1) := by decide +kernel
theorem dX2_run_15 : decode cX2_run 15 = .ok (.invokestatic 64, 3) := by decide +kernel
theorem dX2_run_18 : decode cX2_run 18 = .ok (.iconst 0, 1) := by decide +kernel
theorem dX2_run_19 : decode cX2_run 19 = .ok (.istore_n 1, 1) := by decide +kernel
theorem dX2_run_20 : decode cX2_run 20 = .ok (.iload_n 1, 1) := by decide +kernel
theorem dX2_run_21 : decode cX2_run 21 = .ok (.aload_n 0, 1) := by decide +kernel
theorem dX2_run_22 : decode cX2_run 22 = .ok (.getfield 37, 3) := by decide +kernel
theorem dX2_run_25 : decode cX2_run 25 = .ok (.if_icmp .ge 42, 3) := by decide +kernel
theorem dX2_run_28 : decode cX2_run 28 = .ok (.iload_n 1, 1) := by decide +kernel
theorem dX2_run_29 : decode cX2_run 29 = .ok (.bipush 6, 2) := by decide +kernel
theorem dX2_run_31 : decode cX2_run 31 = .ok (.if_icmp .ge 36, 3) := by decide +kernel
theorem dX2_run_34 : decode cX2_run 34 = .ok (.aload_n 0, 1) := by decide +kernel
theorem dX2_run_35 : decode cX2_run 35 = .ok (.getfield 27, 3) := by decide +kernel
theorem dX2_run_38 : decode cX2_run 38 = .ok (.iload_n 1, 1) := by decide +kernel
theorem dX2_run_39 : decode cX2_run 39 = .ok (.aaload, 1) := by decide +kernel
theorem dX2_run_40 : decode cX2_run 40 = .ok (.aload_n 0, 1) := by decide +kernel
theorem dX2_run_41 : decode cX2_run 41 = .ok (.getfield 21, 3) := by decide +kernel
theorem dX2_run_44 : decode cX2_run 44 = .ok (.iload_n 1, 1) := by decide +kernel
theorem dX2_run_45 : decode cX2_run 45 = .ok (.aaload, 1) := by decide +kernel
theorem dX2_run_46 : decode cX2_run 46 = .ok (.aload_n 0, 1) := by decide +kernel
theorem dX2_run_47 : decode cX2_run 47 = .ok (.getfield 9, 3) := by decide +kernel
theorem dX2_run_50 : decode cX2_run 50 = .ok (.getfield 70, 3) := by decide +kernel
theorem dX2_run_53 : decode cX2_run 53 = .ok (.bipush 6, 2) := by decide +kernel
theorem dX2_run_55 : decode cX2_run 55 = .ok (.iaload, 1) := by decide +kernel
theorem dX2_run_56 : decode cX2_run 56 = .ok (.iload_n 1, 1) := by decide +kernel
theorem dX2_run_57 : decode cX2_run 57 = .ok (.imul, 1) := by decide +kernel
theorem dX2_run_58 : decode cX2_run 58 = .ok (.invokevirtual 75, 3) := by decide +kernel
theorem dX2_run_61 : decode cX2_run 61 = .ok (.iinc 1 1, 3) := by decide +kernel
theorem dX2_run_64 : decode cX2_run 64 = .ok (.goto (-44), 3) := by decide +kernel
theorem dX2_run_67 : decode cX2_run 67 = .ok (.iconst 0, 1) := by decide +kernel
theorem dX2_run_68 : decode cX2_run 68 = .ok (.istore_n 1, 1) := by decide +kernel
theorem dX2_run_69 : decode cX2_run 69 = .ok (.iload_n 1, 1) := by decide +kernel
theorem dX2_run_70 : decode cX2_run 70 = .ok (.sipush 361, 3) := by decide +kernel
theorem dX2_run_73 : decode cX2_run 73 = .ok (.if_icmp .ge 40, 3) := by decide +kernel
theorem dX2_run_76 : decode cX2_run 76 = .ok (.aload_n 0, 1) := by decide +kernel
theorem dX2_run_77 : decode cX2_run 77 = .ok (.invokevirtual 79, 3) := by decide +kernel
theorem dX2_run_80 : decode cX2_run 80 = .ok (.istore_n 2, 1) := by decide +kernel
theorem dX2_run_81 : decode cX2_run 81 = .ok (.aload_n 0, 1) := by decide +kernel
theorem dX2_run_82 : decode cX2_run 82 = .ok (.iload_n 2, 1) := by decide +kernel
theorem dX2_run_83 : decode cX2_run 83 = .ok (.invokevirtual 83, 3) := by decide +kernel
theorem dX2_run_86 : decode cX2_run 86 = .ok (.ifCond .ne 4, 3) := by decide +kernel
theorem dX2_run_89 : decode cX2_run 89 = .ok (.return_, 1) := by decide +kernel
theorem dX2_run_90 : decode cX2_run 90 = .ok (.aload_n 0, 1) := by decide +kernel
theorem dX2_run_91 : decode cX2_run 91 = .ok (.iload_n 2, 1) := by decide +kernel
theorem dX2_run_92 : decode cX2_run 92 = .ok (.aload_n 0, 1) := by decide +kernel
theorem dX2_run_93 : decode cX2_run 93 = .ok (.getfield 21, 3) := by decide +kernel
theorem dX2_run_96 : decode cX2_run 96 = .ok (.iload_n 2, 1) := by decide +kernel
theorem dX2_run_97 : decode cX2_run 97 = .ok (.aaload, 1) := by decide +kernel
theorem dX2_run_98 : decode cX2_run 98 = .ok (.aload_n 0, 1) := by decide +kernel
theorem dX2_run_99 : decode cX2_run 99 = .ok (.getfield 27, 3) := by decide +kernel
theorem dX2_run_102 : decode cX2_run 102 = .ok (.iload_n 2, 1) := by decide +kernel
theorem dX2_run_103 : decode cX2_run 103 = .ok (.aaload, 1) := by decide +kernel
theorem dX2_run_104 : decode cX2_run 104 = .ok (.invokevirtual 87, 3) := by decide +kernel
theorem dX2_run_107 : decode cX2_run 107 = .ok (.iinc 1 1, 3) := by decide +kernel
theorem dX2_run_110 : decode cX2_run 110 = .ok (.goto (-41), 3) := by decide +kernel
theorem dX2_run_113 : decode cX2_run 113 = .ok (.return_, 1) := by decide +kernel
theorem dX2_nextToGo_0 : decode cX2_nextToGo 0 = .ok (.iconst (-1), 1) := by decide +kernel
theorem dX2_nextToGo_1 : decode cX2_nextToGo 1 = .ok (.istore_n 1, 1) := by decide +kernel
theorem dX2_nextToGo_2 : decode cX2_nextToGo 2 = .ok (.iconst 0, 1) := by decide +kernel
theorem dX2_nextToGo_3 : decode cX2_nextToGo 3 = .ok (.istore_n 2, 1) := by decide +kernel
theorem dX2_nextToGo_4 : decode cX2_nextToGo 4 = .ok (.iload_n 2, 1) := by decide +kernel
theorem dX2_nextToGo_5 : decode cX2_nextToGo 5 = .ok (.aload_n 0, 1) := by decide +kernel
theorem dX2_nextToGo_6 : decode cX2_nextToGo 6 = .ok (.getfield 37, 3) := by decide +kernel
theorem dX2_nextToGo_9 : decode cX2_nextToGo 9 = .ok (.if_icmp .ge 52, 3) := by decide +kernel
theorem dX2_nextToGo_12 : decode cX2_nextToGo 12 = .ok (.iload_n 2, 1) := by decide +kernel
theorem dX2_nextToGo_13 : decode cX2_nextToGo 13 = .ok (.bipush 6, 2) := by decide +kernel
theorem dX2_nextToGo_15 : decode cX2_nextToGo 15 = .ok (.if_icmp .ge 46, 3) := by decide +kernel
theorem dX2_nextToGo_18 : decode cX2_nextToGo 18 = .ok (.aload_n 0, 1) := by decide +kernel
theorem dX2_nextToGo_19 : decode cX2_nextToGo 19 = .ok (.getfield 27, 3) := by decide +kernel
theorem dX2_nextToGo_22 : decode cX2_nextToGo 22 = .ok (.iload_n 2, 1) := by decide +kernel
theorem dX2_nextToGo_23 : decode cX2_nextToGo 23 = .ok (.aaload, 1) := by decide +kernel
theorem dX2_nextToGo_24 : decode cX2_nextToGo 24 = .ok (.getfield 91, 3) := by decide +kernel
theorem dX2_nextToGo_27 : decode cX2_nextToGo 27 = .ok (.ifCond .ne 28, 3) := by decide +kernel
theorem dX2_nextToGo_30 : decode cX2_nextToGo 30 = .ok (.iload_n 1, 1) := by decide +kernel
theorem dX2_nextToGo_31 : decode cX2_nextToGo 31 = .ok (.iconst (-1), 1) := by decide +kernel
theorem dX2_nextToGo_32 : decode cX2_nextToGo 32 = .ok (.if_icmp .eq 21, 3) := by decide +kernel
theorem dX2_nextToGo_35 : decode cX2_nextToGo 35 = .ok (.aload_n 0, 1) := by decide +kernel
theorem dX2_nextToGo_36 : decode cX2_nextToGo 36 = .ok (.getfield 27, 3) := by decide +kernel
theorem dX2_nextToGo_39 : decode cX2_nextToGo 39 = .ok (.iload_n 2, 1) := by decide +kernel
theorem dX2_nextToGo_40 : decode cX2_nextToGo 40 = .ok (.aaload, 1) := by decide +kernel
theorem dX2_nextToGo_41 : decode cX2_nextToGo 41 = .ok (.aload_n 0, 1) := by decide +kernel
theorem dX2_nextToGo_42 : decode cX2_nextToGo 42 = .ok (.getfield 27, 3) := by decide +kernel
theorem dX2_nextToGo_45 : decode cX2_nextToGo 45 = .ok (.iload_n 1, 1) := by decide +kernel
theorem dX2_nextToGo_46 : decode cX2_nextToGo 46 = .ok (.aaload, 1) := by decide +kernel
theorem dX2_nextToGo_47 : decode cX2_nextToGo 47 = .ok (.invokestatic 94, 3) := by decide +kernel
theorem dX2_nextToGo_50 : decode cX2_nextToGo 50 = .ok (.ifCond .eq 5, 3) := by decide +kernel
theorem dX2_nextToGo_53 : decode cX2_nextToGo 53 = .ok (.iload_n 2, 1) := by decide +kernel
theorem dX2_nextToGo_54 : decode cX2_nextToGo 54 = .ok (.istore_n 1, 1) := by decide +kernel
theorem dX2_nextToGo_55 : decode cX2_nextToGo 55 = .ok (.iinc 2 1, 3) := by decide +kernel
theorem dX2_nextToGo_58 : decode cX2_nextToGo 58 = .ok (.goto (-54), 3) := by decide +kernel
theorem dX2_nextToGo_61 : decode cX2_nextToGo 61 = .ok (.iload_n 1, 1) := by decide +kernel
theorem dX2_nextToGo_62 : decode cX2_nextToGo 62 = .ok (.ireturn, 1) := by decide +kernel
theorem dX2_goesAhead_0 : decode cX2_goesAhead 0 = .ok (.aload_n 0, 1) := by decide +kernel
theorem dX2_goesAhead_1 : decode cX2_goesAhead 1 = .ok (.getfield 98, 3) := by decide +kernel
theorem dX2_goesAhead_4 : decode cX2_goesAhead 4 = .ok (.aload_n 1, 1) := by decide +kernel
theorem dX2_goesAhead_5 : decode cX2_goesAhead 5 = .ok (.getfield 98, 3) := by decide +kernel
theorem dX2_goesAhead_8 : decode cX2_goesAhead 8 = .ok (.if_icmp .lt 25, 3) := by decide +kernel
theorem dX2_goesAhead_11 : decode cX2_goesAhead 11 = .ok (.aload_n 0, 1) := by decide +kernel
theorem dX2_goesAhead_12 : decode cX2_goesAhead 12 = .ok (.getfield 98, 3) := by decide +kernel
theorem dX2_goesAhead_15 : decode cX2_goesAhead 15 = .ok (.aload_n 1, 1) := by decide +kernel
theorem dX2_goesAhead_16 : decode cX2_goesAhead 16 = .ok (.getfield 98, 3) := by decide +kernel
theorem dX2_goesAhead_19 : decode cX2_goesAhead 19 = .ok (.if_icmp .ne 18, 3) := by decide +kernel
theorem dX2_goesAhead_22 : decode cX2_goesAhead 22 = .ok (.aload_n 0, 1) := by decide +kernel
theorem dX2_goesAhead_23 : decode cX2_goesAhead 23 = .ok (.getfield 101, 3) := by decide +kernel
theorem dX2_goesAhead_26 : decode cX2_goesAhead 26 = .ok (.aload_n 1, 1) := by decide +kernel
theorem dX2_goesAhead_27 : decode cX2_goesAhead 27 = .ok (.getfield 101, 3) := by decide +kernel
theorem dX2_goesAhead_30 : decode cX2_goesAhead 30 = .ok (.if_icmp .le 7, 3) := by decide +kernel
theorem dX2_goesAhead_33 : decode cX2_goesAhead 33 = .ok (.iconst 1, 1) := by decide +kernel
theorem dX2_goesAhead_34 : decode cX2_goesAhead 34 = .ok (.goto 4, 3) := by decide +kernel
theorem dX2_goesAhead_37 : decode cX2_goesAhead 37 = .ok (.iconst 0, 1) := by decide +kernel
theorem dX2_goesAhead_38 : decode cX2_goesAhead 38 = .ok (.ireturn, 1) := by decide +kernel
theorem dX2_goOn_0 : decode cX2_goOn 0 = .ok (.aload_n 3, 1) := by decide +kernel
theorem dX2_goOn_1 : decode cX2_goOn 1 = .ok (.getfield 101, 3) := by decide +kernel
theorem dX2_goOn_4 : decode cX2_goOn 4 = .ok (.istore 4, 2) := by decide +kernel
theorem dX2_goOn_6 : decode cX2_goOn 6 = .ok (.aload_n 0, 1) := by decide +kernel
theorem dX2_goOn_7 : decode cX2_goOn 7 = .ok (.getfield 9, 3) := by decide +kernel
theorem dX2_goOn_10 : decode cX2_goOn 10 = .ok (.iload 4, 2) := by decide +kernel
theorem dX2_goOn_12 : decode cX2_goOn 12 = .ok (.invokevirtual 104, 3) := by decide +kernel
theorem dX2_goOn_15 : decode cX2_goOn 15 = .ok (.istore 5, 2) := by decide +kernel
theorem dX2_goOn_17 : decode cX2_goOn 17 = .ok (.aload_n 3, 1) := by decide +kernel
theorem dX2_goOn_18 : decode cX2_goOn 18 = .ok (.getfield 98, 3) := by decide +kernel
theorem dX2_goOn_21 : decode cX2_goOn 21 = .ok (.istore 6, 2) := by decide +kernel
theorem dX2_goOn_23 : decode cX2_goOn 23 = .ok (.aload_n 0, 1) := by decide +kernel
theorem dX2_goOn_24 : decode cX2_goOn 24 = .ok (.aload_n 2, 1) := by decide +kernel
theorem dX2_goOn_25 : decode cX2_goOn 25 = .ok (.aload_n 3, 1) := by decide +kernel
theorem dX2_goOn_26 : decode cX2_goOn 26 = .ok (.iload 4, 2) := by decide +kernel
theorem dX2_goOn_28 : decode cX2_goOn 28 = .ok (.invokevirtual 108, 3) := by decide +kernel
theorem dX2_goOn_31 : decode cX2_goOn 31 = .ok (.aload_n 3, 1) := by decide +kernel
theorem dX2_goOn_32 : decode cX2_goOn 32 = .ok (.dup, 1) := by decide +kernel
theorem dX2_goOn_33 : decode cX2_goOn 33 = .ok (.getfield 101, 3) := by decide +kernel
theorem dX2_goOn_36 : decode cX2_goOn 36 = .ok (.iconst 1, 1) := by decide +kernel
theorem dX2_goOn_37 : decode cX2_goOn 37 = .ok (.iadd, 1) := by decide +kernel
theorem dX2_goOn_38 : decode cX2_goOn 38 = .ok (.putfield 101, 3) := by decide +kernel
theorem dX2_goOn_41 : decode cX2_goOn 41 = .ok (.aload_n 3, 1) := by decide +kernel
theorem dX2_goOn_42 : decode cX2_goOn 42 = .ok (.dup, 1) := by decide +kernel
theorem dX2_goOn_43 : decode cX2_goOn 43 = .ok (.getfield 112, 3) := by decide +kernel
theorem dX2_goOn_46 : decode cX2_goOn 46 = .ok (.iconst 1, 1) := by decide +kernel
theorem dX2_goOn_47 : decode cX2_goOn 47 = .ok (.aload_n 2, 1) := by decide +kernel
theorem dX2_goOn_48 : decode cX2_goOn 48 = .ok (.getfield 115, 3) := by decide +kernel
theorem dX2_goOn_51 : decode cX2_goOn 51 = .ok (.aload_n 3, 1) := by decide +kernel
theorem dX2_goOn_52 : decode cX2_goOn 52 = .ok (.getfield 118, 3) := by decide +kernel
theorem dX2_goOn_55 : decode cX2_goOn 55 = .ok (.iconst 0, 1) := by decide +kernel
theorem dX2_goOn_56 : decode cX2_goOn 56 = .ok (.invokevirtual 121, 3) := by decide +kernel
theorem dX2_goOn_59 : decode cX2_goOn 59 = .ok (.ishl, 1) := by decide +kernel
theorem dX2_goOn_60 : decode cX2_goOn 60 = .ok (.ior, 1) := by decide +kernel
theorem dX2_goOn_61 : decode cX2_goOn 61 = .ok (.putfield 112, 3) := by decide +kernel
theorem dX2_goOn_64 : decode cX2_goOn 64 = .ok (.aload_n 2, 1) := by decide +kernel
theorem dX2_goOn_65 : decode cX2_goOn 65 = .ok (.getfield 125, 3) := by decide +kernel
theorem dX2_goOn_68 : decode cX2_goOn 68 = .ok (.aload_n 3, 1) := by decide +kernel
theorem dX2_goOn_69 : decode cX2_goOn 69 = .ok (.getfield 128, 3) := by decide +kernel
theorem dX2_goOn_72 : decode cX2_goOn 72 = .ok (.isub, 1) := by decide +kernel
theorem dX2_goOn_73 : decode cX2_goOn 73 = .ok (.istore 7, 2) := by decide +kernel
theorem dX2_goOn_75 : decode cX2_goOn 75 = .ok (.aload_n 3, 1) := by decide +kernel
theorem dX2_goOn_76 : decode cX2_goOn 76 = .ok (.getfield 131, 3) := by decide +kernel
theorem dX2_goOn_79 : decode cX2_goOn 79 = .ok (.iload 7, 2) := by decide +kernel
theorem dX2_goOn_81 : decode cX2_goOn 81 = .ok (.if_icmp .ge 11, 3) := by decide +kernel
theorem dX2_goOn_84 : decode cX2_goOn 84 = .ok (.aload_n 3, 1) := by decide +kernel
theorem dX2_goOn_85 : decode cX2_goOn 85 = .ok (.iconst 2, 1) := by decide +kernel
theorem dX2_goOn_86 : decode cX2_goOn 86 = .ok (.iload 6, 2) := by decide +kernel
theorem dX2_goOn_88 : decode cX2_goOn 88 = .ok (.invokevirtual 134, 3) := by decide +kernel
theorem dX2_goOn_91 : decode cX2_goOn 91 = .ok (.return_, 1) := by decide +kernel
theorem dX2_goOn_92 : decode cX2_goOn 92 = .ok (.aload_n 3, 1) := by decide +kernel
theorem dX2_goOn_93 : decode cX2_goOn 93 = .ok (.dup, 1) := by decide +kernel
theorem dX2_goOn_94 : decode cX2_goOn 94 = .ok (.getfield 131, 3) := by decide +kernel
theorem dX2_goOn_97 : decode cX2_goOn 97 = .ok (.iload 7, 2) := by decide +kernel
theorem dX2_goOn_99 : decode cX2_goOn 99 = .ok (.isub, 1) := by decide +kernel
theorem dX2_goOn_100 : decode cX2_goOn 100 = .ok (.putfield 131, 3) := by decide +kernel
theorem dX2_goOn_103 : decode cX2_goOn 103 = .ok (.aload_n 0, 1) := by decide +kernel
theorem dX2_goOn_104 : decode cX2_goOn 104 = .ok (.getfield 9, 3) := by decide +kernel
theorem dX2_goOn_107 : decode cX2_goOn 107 = .ok (.iload 6, 2) := by decide +kernel
theorem dX2_goOn_109 : decode cX2_goOn 109 = .ok (.invokevirtual 138, 3) := by decide +kernel
theorem dX2_goOn_112 : decode cX2_goOn 112 = .ok (.istore 8, 2) := by decide +kernel
theorem dX2_goOn_114 : decode cX2_goOn 114 = .ok (.iload 8, 2) := by decide +kernel
theorem dX2_goOn_116 : decode cX2_goOn 116 = .ok (.ifCond .eq 13, 3) := by decide +kernel
theorem dX2_goOn_119 : decode cX2_goOn 119 = .ok (.aload_n 0, 1) := by decide +kernel
theorem dX2_goOn_120 : decode cX2_goOn 120 = .ok (.iload_n 1, 1) := by decide +kernel
theorem dX2_goOn_121 : decode cX2_goOn 121 = .ok (.iload 5, 2) := by decide +kernel
theorem dX2_goOn_123 : decode cX2_goOn 123 = .ok (.invokevirtual 141, 3) := by decide +kernel
theorem dX2_goOn_126 : decode cX2_goOn 126 = .ok (.goto 13, 3) := by decide +kernel
theorem dX2_goOn_129 : decode cX2_goOn 129 = .ok (.aload_n 0, 1) := by decide +kernel
theorem dX2_goOn_130 : decode cX2_goOn 130 = .ok (.aload_n 2, 1) := by decide +kernel
theorem dX2_goOn_131 : decode cX2_goOn 131 = .ok (.aload_n 3, 1) := by decide +kernel
theorem dX2_goOn_132 : decode cX2_goOn 132 = .ok (.iload 5, 2) := by decide +kernel
theorem dX2_goOn_134 : decode cX2_goOn 134 = .ok (.iload 6, 2) := by decide +kernel
theorem dX2_goOn_136 : decode cX2_goOn 136 = .ok (.invokevirtual 144, 3) := by decide +kernel
theorem dX2_goOn_139 : decode cX2_goOn 139 = .ok (.istore 9, 2) := by decide +kernel
theorem dX2_goOn_141 : decode cX2_goOn 141 = .ok (.iload 8, 2) := by decide +kernel
theorem dX2_goOn_143 : decode cX2_goOn 143 = .ok (.ifCond .ne 7, 3) := by decide +kernel
theorem dX2_goOn_146 : decode cX2_goOn 146 = .ok (.aload_n 3, 1) := by decide +kernel
theorem dX2_goOn_147 : decode cX2_goOn 147 = .ok (.invokevirtual 148, 3) := by decide +kernel
theorem dX2_goOn_150 : decode cX2_goOn 150 = .ok (.aload_n 0, 1) := by decide +kernel
theorem dX2_goOn_151 : decode cX2_goOn 151 = .ok (.dup, 1) := by decide +kernel
theorem dX2_goOn_152 : decode cX2_goOn 152 = .ok (.getfield 61, 3) := by decide +kernel
theorem dX2_goOn_155 : decode cX2_goOn 155 = .ok (.iconst 1, 1) := by decide +kernel
theorem dX2_goOn_156 : decode cX2_goOn 156 = .ok (.iadd, 1) := by decide +kernel
theorem dX2_goOn_157 : decode cX2_goOn 157 = .ok (.putfield 61, 3) := by decide +kernel
theorem dX2_goOn_160 : decode cX2_goOn 160 = .ok (.aload_n 0, 1) := by decide +kernel
theorem dX2_goOn_161 : decode cX2_goOn 161 = .ok (.iload_n 1, 1) := by decide +kernel
theorem dX2_goOn_162 : decode cX2_goOn 162 = .ok (.iload 5, 2) := by decide +kernel
theorem dX2_goOn_164 : decode cX2_goOn 164 = .ok (.iload 6, 2) := by decide +kernel
theorem dX2_goOn_166 : decode cX2_goOn 166 = .ok (.iload 6, 2) := by decide +kernel
theorem dX2_goOn_168 : decode cX2_goOn 168 = .ok (.iload 9, 2) := by decide +kernel
theorem dX2_goOn_170 : decode cX2_goOn 170 = .ok (.iadd, 1) := by decide +kernel
theorem dX2_goOn_171 : decode cX2_goOn 171 = .ok (.invokevirtual 151, 3) := by decide +kernel
theorem dX2_goOn_174 : decode cX2_goOn 174 = .ok (.istore 10, 2) := by decide +kernel
theorem dX2_goOn_176 : decode cX2_goOn 176 = .ok (.aload_n 3, 1) := by decide +kernel
theorem dX2_goOn_177 : decode cX2_goOn 177 = .ok (.iload 4, 2) := by decide +kernel
theorem dX2_goOn_179 : decode cX2_goOn 179 = .ok (.iload 5, 2) := by decide +kernel
theorem dX2_goOn_181 : decode cX2_goOn 181 = .ok (.iload 10, 2) := by decide +kernel
theorem dX2_goOn_183 : decode cX2_goOn 183 = .ok (.aload_n 0, 1) := by decide +kernel
theorem dX2_goOn_184 : decode cX2_goOn 184 = .ok (.getfield 61, 3) := by decide +kernel
theorem dX2_goOn_187 : decode cX2_goOn 187 = .ok (.invokevirtual 155, 3) := by decide +kernel
theorem dX2_goOn_190 : decode cX2_goOn 190 = .ok (.iload 5, 2) := by decide +kernel
theorem dX2_goOn_192 : decode cX2_goOn 192 = .ok (.aload_n 0, 1) := by decide +kernel
theorem dX2_goOn_193 : decode cX2_goOn 193 = .ok (.getfield 9, 3) := by decide +kernel
theorem dX2_goOn_196 : decode cX2_goOn 196 = .ok (.getfield 159, 3) := by decide +kernel
theorem dX2_goOn_199 : decode cX2_goOn 199 = .ok (.iconst 1, 1) := by decide +kernel
theorem dX2_goOn_200 : decode cX2_goOn 200 = .ok (.isub, 1) := by decide +kernel
theorem dX2_goOn_201 : decode cX2_goOn 201 = .ok (.if_icmp .ne 21, 3) := by decide +kernel
theorem dX2_goOn_204 : decode cX2_goOn 204 = .ok (.aload_n 0, 1) := by decide +kernel
theorem dX2_goOn_205 : decode cX2_goOn 205 = .ok (.iload_n 1, 1) := by decide +kernel
theorem dX2_goOn_206 : decode cX2_goOn 206 = .ok (.aload_n 2, 1) := by decide +kernel
theorem dX2_goOn_207 : decode cX2_goOn 207 = .ok (.aload_n 3, 1) := by decide +kernel
theorem dX2_goOn_208 : decode cX2_goOn 208 = .ok (.aload_n 0, 1) := by decide +kernel
theorem dX2_goOn_209 : decode cX2_goOn 209 = .ok (.getfield 9, 3) := by decide +kernel
theorem dX2_goOn_212 : decode cX2_goOn 212 = .ok (.iload 4, 2) := by decide +kernel
theorem dX2_goOn_214 : decode cX2_goOn 214 = .ok (.invokevirtual 162, 3) := by decide +kernel
theorem dX2_goOn_217 : decode cX2_goOn 217 = .ok (.iload 10, 2) := by decide +kernel
theorem dX2_goOn_219 : decode cX2_goOn 219 = .ok (.invokevirtual 165, 3) := by decide +kernel
theorem dX2_goOn_222 : decode cX2_goOn 222 = .ok (.return_, 1) := by decide +kernel
theorem dX2_hear_0 : decode cX2_hear 0 = .ok (.iconst 0, 1) := by decide +kernel
theorem dX2_hear_1 : decode cX2_hear 1 = .ok (.istore 4, 2) := by decide +kernel
theorem dX2_hear_3 : decode cX2_hear 3 = .ok (.iload 4, 2) := by decide +kernel
theorem dX2_hear_5 : decode cX2_hear 5 = .ok (.aload_n 1, 1) := by decide +kernel
theorem dX2_hear_6 : decode cX2_hear 6 = .ok (.getfield 169, 3) := by decide +kernel
theorem dX2_hear_9 : decode cX2_hear 9 = .ok (.getfield 49, 3) := by decide +kernel
theorem dX2_hear_12 : decode cX2_hear 12 = .ok (.if_icmp .ge 89, 3) := by decide +kernel
theorem dX2_hear_15 : decode cX2_hear 15 = .ok (.aload_n 1, 1) := by decide +kernel
theorem dX2_hear_16 : decode cX2_hear 16 = .ok (.getfield 169, 3) := by decide +kernel
theorem dX2_hear_19 : decode cX2_hear 19 = .ok (.iload 4, 2) := by decide +kernel
theorem dX2_hear_21 : decode cX2_hear 21 = .ok (.iconst 0, 1) := by decide +kernel
theorem dX2_hear_22 : decode cX2_hear 22 = .ok (.invokevirtual 121, 3) := by decide +kernel
theorem dX2_hear_25 : decode cX2_hear 25 = .ok (.aload_n 0, 1) := by decide +kernel
theorem dX2_hear_26 : decode cX2_hear 26 = .ok (.getfield 9, 3) := by decide +kernel
theorem dX2_hear_29 : decode cX2_hear 29 = .ok (.getfield 159, 3) := by decide +kernel
theorem dX2_hear_32 : decode cX2_hear 32 = .ok (.imul, 1) := by decide +kernel
theorem dX2_hear_33 : decode cX2_hear 33 = .ok (.aload_n 0, 1) := by decide +kernel
theorem dX2_hear_34 : decode cX2_hear 34 = .ok (.getfield 9, 3) := by decide +kernel
theorem dX2_hear_37 : decode cX2_hear 37 = .ok (.getfield 70, 3) := by decide +kernel
theorem dX2_hear_40 : decode cX2_hear 40 = .ok (.bipush 7, 2) := by decide +kernel
theorem dX2_hear_42 : decode cX2_hear 42 = .ok (.iaload, 1) := by decide +kernel
theorem dX2_hear_43 : decode cX2_hear 43 = .ok (.iadd, 1) := by decide +kernel
theorem dX2_hear_44 : decode cX2_hear 44 = .ok (.iload_n 3, 1) := by decide +kernel
theorem dX2_hear_45 : decode cX2_hear 45 = .ok (.if_icmp .eq 6, 3) := by decide +kernel
theorem dX2_hear_48 : decode cX2_hear 48 = .ok (.goto 47, 3) := by decide +kernel
theorem dX2_hear_51 : decode cX2_hear 51 = .ok (.aload_n 1, 1) := by decide +kernel
theorem dX2_hear_52 : decode cX2_hear 52 = .ok (.getfield 169, 3) := by decide +kernel
theorem dX2_hear_55 : decode cX2_hear 55 = .ok (.iload 4, 2) := by decide +kernel
theorem dX2_hear_57 : decode cX2_hear 57 = .ok (.iconst 1, 1) := by decide +kernel
theorem dX2_hear_58 : decode cX2_hear 58 = .ok (.invokevirtual 121, 3) := by decide +kernel
theorem dX2_hear_61 : decode cX2_hear 61 = .ok (.ifCond .ne 20, 3) := by decide +kernel
theorem dX2_hear_64 : decode cX2_hear 64 = .ok (.aload_n 2, 1) := by decide +kernel
theorem dX2_hear_65 : decode cX2_hear 65 = .ok (.aload_n 1, 1) := by decide +kernel
theorem dX2_hear_66 : decode cX2_hear 66 = .ok (.getfield 169, 3) := by decide +kernel
theorem dX2_hear_69 : decode cX2_hear 69 = .ok (.iload 4, 2) := by decide +kernel
theorem dX2_hear_71 : decode cX2_hear 71 = .ok (.iconst 2, 1) := by decide +kernel
theorem dX2_hear_72 : decode cX2_hear 72 = .ok (.invokevirtual 121, 3) := by decide +kernel
theorem dX2_hear_75 : decode cX2_hear 75 = .ok (.putfield 128, 3) := by decide +kernel
theorem dX2_hear_78 : decode cX2_hear 78 = .ok (.goto 17, 3) := by decide +kernel
theorem dX2_hear_81 : decode cX2_hear 81 = .ok (.aload_n 2, 1) := by decide +kernel
theorem dX2_hear_82 : decode cX2_hear 82 = .ok (.aload_n 1, 1) := by decide +kernel
theorem dX2_hear_83 : decode cX2_hear 83 = .ok (.getfield 169, 3) := by decide +kernel
theorem dX2_hear_86 : decode cX2_hear 86 = .ok (.iload 4, 2) := by decide +kernel
theorem dX2_hear_88 : decode cX2_hear 88 = .ok (.iconst 2, 1) := by decide +kernel
theorem dX2_hear_89 : decode cX2_hear 89 = .ok (.invokevirtual 121, 3) := by decide +kernel
theorem dX2_hear_92 : decode cX2_hear 92 = .ok (.putfield 172, 3) := by decide +kernel
theorem dX2_hear_95 : decode cX2_hear 95 = .ok (.iinc 4 1, 3) := by decide +kernel
theorem dX2_hear_98 : decode cX2_hear 98 = .ok (.goto (-95), 3) := by decide +kernel
theorem dX2_hear_101 : decode cX2_hear 101 = .ok (.return_, 1) := by decide +kernel
theorem dX2_slowTime_0 : decode cX2_slowTime 0 = .ok (.iconst 1, 1) := by decide +kernel
theorem dX2_slowTime_1 : decode cX2_slowTime 1 = .ok (.istore_n 3, 1) := by decide +kernel
theorem dX2_slowTime_2 : decode cX2_slowTime 2 = .ok (.iconst 0, 1) := by decide +kernel
theorem dX2_slowTime_3 : decode cX2_slowTime 3 = .ok (.istore 4, 2) := by decide +kernel
theorem dX2_slowTime_5 : decode cX2_slowTime 5 = .ok (.iload 4, 2) := by decide +kernel
theorem dX2_slowTime_7 : decode cX2_slowTime 7 = .ok (.aload_n 0, 1) := by decide +kernel
theorem dX2_slowTime_8 : decode cX2_slowTime 8 = .ok (.getfield 37, 3) := by decide +kernel
theorem dX2_slowTime_11 : decode cX2_slowTime 11 = .ok (.if_icmp .ge 59, 3) := by decide +kernel
theorem dX2_slowTime_14 : decode cX2_slowTime 14 = .ok (.iload 4, 2) := by decide +kernel
theorem dX2_slowTime_16 : decode cX2_slowTime 16 = .ok (.bipush 6, 2) := by decide +kernel
theorem dX2_slowTime_18 : decode cX2_slowTime 18 = .ok (.if_icmp .ge 52, 3) := by decide +kernel
theorem dX2_slowTime_21 : decode cX2_slowTime 21 = .ok (.iload 4, 2) := by decide +kernel
theorem dX2_slowTime_23 : decode cX2_slowTime 23 = .ok (.iload_n 1, 1) := by decide +kernel
theorem dX2_slowTime_24 : decode cX2_slowTime 24 = .ok (.if_icmp .eq 40, 3) := by decide +kernel
theorem dX2_slowTime_27 : decode cX2_slowTime 27 = .ok (.aload_n 0, 1) := by decide +kernel
theorem dX2_slowTime_28 : decode cX2_slowTime 28 = .ok (.getfield 27, 3) := by decide +kernel
theorem dX2_slowTime_31 : decode cX2_slowTime 31 = .ok (.iload 4, 2) := by decide +kernel
theorem dX2_slowTime_33 : decode cX2_slowTime 33 = .ok (.aaload, 1) := by decide +kernel
theorem dX2_slowTime_34 : decode cX2_slowTime 34 = .ok (.getfield 91, 3) := by decide +kernel
theorem dX2_slowTime_37 : decode cX2_slowTime 37 = .ok (.ifCond .ne 27, 3) := by decide +kernel
theorem dX2_slowTime_40 : decode cX2_slowTime 40 = .ok (.aload_n 0, 1) := by decide +kernel
theorem dX2_slowTime_41 : decode cX2_slowTime 41 = .ok (.getfield 27, 3) := by decide +kernel
theorem dX2_slowTime_44 : decode cX2_slowTime 44 = .ok (.iload 4, 2) := by decide +kernel
theorem dX2_slowTime_46 : decode cX2_slowTime 46 = .ok (.aaload, 1) := by decide +kernel
theorem dX2_slowTime_47 : decode cX2_slowTime 47 = .ok (.getfield 101, 3) := by decide +kernel
theorem dX2_slowTime_50 : decode cX2_slowTime 50 = .ok (.aload_n 0, 1) := by decide +kernel
theorem dX2_slowTime_51 : decode cX2_slowTime 51 = .ok (.getfield 27, 3) := by decide +kernel
theorem dX2_slowTime_54 : decode cX2_slowTime 54 = .ok (.iload_n 1, 1) := by decide +kernel
theorem dX2_slowTime_55 : decode cX2_slowTime 55 = .ok (.aaload, 1) := by decide +kernel
theorem dX2_slowTime_56 : decode cX2_slowTime 56 = .ok (.getfield 101, 3) := by decide +kernel
theorem dX2_slowTime_59 : decode cX2_slowTime 59 = .ok (.if_icmp .lt 5, 3) := by decide +kernel
theorem dX2_slowTime_62 : decode cX2_slowTime 62 = .ok (.iconst 0, 1) := by decide +kernel
theorem dX2_slowTime_63 : decode cX2_slowTime 63 = .ok (.istore_n 3, 1) := by decide +kernel
theorem dX2_slowTime_64 : decode cX2_slowTime 64 = .ok (.iinc 4 1, 3) := by decide +kernel
theorem dX2_slowTime_67 : decode cX2_slowTime 67 = .ok (.goto (-62), 3) := by decide +kernel
theorem dX2_slowTime_70 : decode cX2_slowTime 70 = .ok (.aload_n 0, 1) := by decide +kernel
theorem dX2_slowTime_71 : decode cX2_slowTime 71 = .ok (.getfield 9, 3) := by decide +kernel
theorem dX2_slowTime_74 : decode cX2_slowTime 74 = .ok (.getfield 175, 3) := by decide +kernel
theorem dX2_slowTime_77 : decode cX2_slowTime 77 = .ok (.iload_n 2, 1) := by decide +kernel
theorem dX2_slowTime_78 : decode cX2_slowTime 78 = .ok (.iaload, 1) := by decide +kernel
theorem dX2_slowTime_79 : decode cX2_slowTime 79 = .ok (.iload_n 3, 1) := by decide +kernel
theorem dX2_slowTime_80 : decode cX2_slowTime 80 = .ok (.ifCond .eq 9, 3) := by decide +kernel
theorem dX2_slowTime_83 : decode cX2_slowTime 83 = .ok (.sipush 150, 3) := by decide +kernel
theorem dX2_slowTime_86 : decode cX2_slowTime 86 = .ok (.goto 5, 3) := by decide +kernel
theorem dX2_slowTime_89 : decode cX2_slowTime 89 = .ok (.bipush 120, 2) := by decide +kernel
theorem dX2_slowTime_91 : decode cX2_slowTime 91 = .ok (.imul, 1) := by decide +kernel
theorem dX2_slowTime_92 : decode cX2_slowTime 92 = .ok (.bipush 100, 2) := by decide +kernel
theorem dX2_slowTime_94 : decode cX2_slowTime 94 = .ok (.idiv, 1) := by decide +kernel
theorem dX2_slowTime_95 : decode cX2_slowTime 95 = .ok (.ireturn, 1) := by decide +kernel
theorem dX2_freeTime_0 : decode cX2_freeTime 0 = .ok (.aload_n 1, 1) := by decide +kernel
theorem dX2_freeTime_1 : decode cX2_freeTime 1 = .ok (.getfield 115, 3) := by decide +kernel
theorem dX2_freeTime_4 : decode cX2_freeTime 4 = .ok (.aload_n 2, 1) := by decide +kernel
theorem dX2_freeTime_5 : decode cX2_freeTime 5 = .ok (.getfield 118, 3) := by decide +kernel
theorem dX2_freeTime_8 : decode cX2_freeTime 8 = .ok (.iconst 0, 1) := by decide +kernel
theorem dX2_freeTime_9 : decode cX2_freeTime 9 = .ok (.invokevirtual 121, 3) := by decide +kernel
theorem dX2_freeTime_12 : decode cX2_freeTime 12 = .ok (.istore 5, 2) := by decide +kernel
theorem dX2_freeTime_14 : decode cX2_freeTime 14 = .ok (.aload_n 2, 1) := by decide +kernel
theorem dX2_freeTime_15 : decode cX2_freeTime 15 = .ok (.invokevirtual 178, 3) := by decide +kernel
theorem dX2_freeTime_18 : decode cX2_freeTime 18 = .ok (.istore 6, 2) := by decide +kernel
theorem dX2_freeTime_20 : decode cX2_freeTime 20 = .ok (.aload_n 0, 1) := by decide +kernel
theorem dX2_freeTime_21 : decode cX2_freeTime 21 = .ok (.getfield 9, 3) := by decide +kernel
theorem dX2_freeTime_24 : decode cX2_freeTime 24 = .ok (.iload_n 3, 1) := by decide +kernel
theorem dX2_freeTime_25 : decode cX2_freeTime 25 = .ok (.iload 4, 2) := by decide +kernel
theorem dX2_freeTime_27 : decode cX2_freeTime 27 = .ok (.invokevirtual 181, 3) := by decide +kernel
theorem dX2_freeTime_30 : decode cX2_freeTime 30 = .ok (.aload_n 0, 1) := by decide +kernel
theorem dX2_freeTime_31 : decode cX2_freeTime 31 = .ok (.getfield 9, 3) := by decide +kernel
theorem dX2_freeTime_34 : decode cX2_freeTime 34 = .ok (.iload 5, 2) := by decide +kernel
theorem dX2_freeTime_36 : decode cX2_freeTime 36 = .ok (.iconst 4, 1) := by decide +kernel
theorem dX2_freeTime_37 : decode cX2_freeTime 37 = .ok (.invokevirtual 184, 3) := by decide +kernel
theorem dX2_freeTime_40 : decode cX2_freeTime 40 = .ok (.isub, 1) := by decide +kernel
theorem dX2_freeTime_41 : decode cX2_freeTime 41 = .ok (.invokestatic 187, 3) := by decide +kernel
theorem dX2_freeTime_44 : decode cX2_freeTime 44 = .ok (.istore 7, 2) := by decide +kernel
theorem dX2_freeTime_46 : decode cX2_freeTime 46 = .ok (.aload_n 0, 1) := by decide +kernel
theorem dX2_freeTime_47 : decode cX2_freeTime 47 = .ok (.getfield 9, 3) := by decide +kernel
theorem dX2_freeTime_50 : decode cX2_freeTime 50 = .ok (.getfield 175, 3) := by decide +kernel
theorem dX2_freeTime_53 : decode cX2_freeTime 53 = .ok (.iload_n 3, 1) := by decide +kernel
theorem dX2_freeTime_54 : decode cX2_freeTime 54 = .ok (.iaload, 1) := by decide +kernel
theorem dX2_freeTime_55 : decode cX2_freeTime 55 = .ok (.aload_n 1, 1) := by decide +kernel
theorem dX2_freeTime_56 : decode cX2_freeTime 56 = .ok (.getfield 192, 3) := by decide +kernel
theorem dX2_freeTime_59 : decode cX2_freeTime 59 = .ok (.iadd, 1) := by decide +kernel
theorem dX2_freeTime_60 : decode cX2_freeTime 60 = .ok (.aload_n 0, 1) := by decide +kernel
theorem dX2_freeTime_61 : decode cX2_freeTime 61 = .ok (.getfield 9, 3) := by decide +kernel
theorem dX2_freeTime_64 : decode cX2_freeTime 64 = .ok (.getfield 70, 3) := by decide +kernel
theorem dX2_freeTime_67 : decode cX2_freeTime 67 = .ok (.iconst 1, 1) := by decide +kernel
theorem dX2_freeTime_68 : decode cX2_freeTime 68 = .ok (.iaload, 1) := by decide +kernel
theorem dX2_freeTime_69 : decode cX2_freeTime 69 = .ok (.aload_n 2, 1) := by decide +kernel
theorem dX2_freeTime_70 : decode cX2_freeTime 70 = .ok (.getfield 131, 3) := by decide +kernel
theorem dX2_freeTime_73 : decode cX2_freeTime 73 = .ok (.imul, 1) := by decide +kernel
theorem dX2_freeTime_74 : decode cX2_freeTime 74 = .ok (.iadd, 1) := by decide +kernel
theorem dX2_freeTime_75 : decode cX2_freeTime 75 = .ok (.istore 8, 2) := by decide +kernel
theorem dX2_freeTime_77 : decode cX2_freeTime 77 = .ok (.iload 8, 2) := by decide +kernel
theorem dX2_freeTime_79 : decode cX2_freeTime 79 = .ok (.aload_n 0, 1) := by decide +kernel
theorem dX2_freeTime_80 : decode cX2_freeTime 80 = .ok (.getfield 9, 3) := by decide +kernel
theorem dX2_freeTime_83 : decode cX2_freeTime 83 = .ok (.iload 5, 2) := by decide +kernel
theorem dX2_freeTime_85 : decode cX2_freeTime 85 = .ok (.iconst 0, 1) := by decide +kernel
theorem dX2_freeTime_86 : decode cX2_freeTime 86 = .ok (.invokevirtual 184, 3) := by decide +kernel
theorem dX2_freeTime_89 : decode cX2_freeTime 89 = .ok (.aload_n 0, 1) := by decide +kernel
theorem dX2_freeTime_90 : decode cX2_freeTime 90 = .ok (.getfield 9, 3) := by decide +kernel
theorem dX2_freeTime_93 : decode cX2_freeTime 93 = .ok (.iload 5, 2) := by decide +kernel
theorem dX2_freeTime_95 : decode cX2_freeTime 95 = .ok (.iconst 1, 1) := by decide +kernel
theorem dX2_freeTime_96 : decode cX2_freeTime 96 = .ok (.invokevirtual 184, 3) := by decide +kernel
theorem dX2_freeTime_99 : decode cX2_freeTime 99 = .ok (.iload 6, 2) := by decide +kernel
theorem dX2_freeTime_101 : decode cX2_freeTime 101 = .ok (.imul, 1) := by decide +kernel
theorem dX2_freeTime_102 : decode cX2_freeTime 102 = .ok (.iadd, 1) := by decide +kernel
theorem dX2_freeTime_103 : decode cX2_freeTime 103 = .ok (.iadd, 1) := by decide +kernel
theorem dX2_freeTime_104 : decode cX2_freeTime 104 = .ok (.istore 8, 2) := by decide +kernel
theorem dX2_freeTime_106 : decode cX2_freeTime 106 = .ok (.iload 6, 2) := by decide +kernel
theorem dX2_freeTime_108 : decode cX2_freeTime 108 = .ok (.aload_n 0, 1) := by decide +kernel
theorem dX2_freeTime_109 : decode cX2_freeTime 109 = .ok (.getfield 9, 3) := by decide +kernel
theorem dX2_freeTime_112 : decode cX2_freeTime 112 = .ok (.iload 5, 2) := by decide +kernel
theorem dX2_freeTime_114 : decode cX2_freeTime 114 = .ok (.iconst 2, 1) := by decide +kernel
theorem dX2_freeTime_115 : decode cX2_freeTime 115 = .ok (.invokevirtual 184, 3) := by decide +kernel
theorem dX2_freeTime_118 : decode cX2_freeTime 118 = .ok (.if_icmp .lt 18, 3) := by decide +kernel
theorem dX2_freeTime_121 : decode cX2_freeTime 121 = .ok (.iload 8, 2) := by decide +kernel
theorem dX2_freeTime_123 : decode cX2_freeTime 123 = .ok (.aload_n 0, 1) := by decide +kernel
theorem dX2_freeTime_124 : decode cX2_freeTime 124 = .ok (.getfield 9, 3) := by decide +kernel
theorem dX2_freeTime_127 : decode cX2_freeTime 127 = .ok (.iload 5, 2) := by decide +kernel
theorem dX2_freeTime_129 : decode cX2_freeTime 129 = .ok (.iconst 3, 1) := by decide +kernel
theorem dX2_freeTime_130 : decode cX2_freeTime 130 = .ok (.invokevirtual 184, 3) := by decide +kernel
theorem dX2_freeTime_133 : decode cX2_freeTime 133 = .ok (.iadd, 1) := by decide +kernel
theorem dX2_freeTime_134 : decode cX2_freeTime 134 = .ok (.istore 8, 2) := by decide +kernel
theorem dX2_freeTime_136 : decode cX2_freeTime 136 = .ok (.iload 8, 2) := by decide +kernel
theorem dX2_freeTime_138 : decode cX2_freeTime 138 = .ok (.aload_n 0, 1) := by decide +kernel
theorem dX2_freeTime_139 : decode cX2_freeTime 139 = .ok (.getfield 9, 3) := by decide +kernel
theorem dX2_freeTime_142 : decode cX2_freeTime 142 = .ok (.iload 5, 2) := by decide +kernel
theorem dX2_freeTime_144 : decode cX2_freeTime 144 = .ok (.iconst 5, 1) := by decide +kernel
theorem dX2_freeTime_145 : decode cX2_freeTime 145 = .ok (.invokevirtual 184, 3) := by decide +kernel
theorem dX2_freeTime_148 : decode cX2_freeTime 148 = .ok (.iload 7, 2) := by decide +kernel
theorem dX2_freeTime_150 : decode cX2_freeTime 150 = .ok (.imul, 1) := by decide +kernel
theorem dX2_freeTime_151 : decode cX2_freeTime 151 = .ok (.aload_n 0, 1) := by decide +kernel
theorem dX2_freeTime_152 : decode cX2_freeTime 152 = .ok (.getfield 9, 3) := by decide +kernel
theorem dX2_freeTime_155 : decode cX2_freeTime 155 = .ok (.getfield 70, 3) := by decide +kernel
theorem dX2_freeTime_158 : decode cX2_freeTime 158 = .ok (.iconst 2, 1) := by decide +kernel
theorem dX2_freeTime_159 : decode cX2_freeTime 159 = .ok (.iaload, 1) := by decide +kernel
theorem dX2_freeTime_160 : decode cX2_freeTime 160 = .ok (.aload_n 2, 1) := by decide +kernel
theorem dX2_freeTime_161 : decode cX2_freeTime 161 = .ok (.getfield 128, 3) := by decide +kernel
theorem dX2_freeTime_164 : decode cX2_freeTime 164 = .ok (.imul, 1) := by decide +kernel
theorem dX2_freeTime_165 : decode cX2_freeTime 165 = .ok (.iadd, 1) := by decide +kernel
theorem dX2_freeTime_166 : decode cX2_freeTime 166 = .ok (.iadd, 1) := by decide +kernel
theorem dX2_freeTime_167 : decode cX2_freeTime 167 = .ok (.istore 8, 2) := by decide +kernel
theorem dX2_freeTime_169 : decode cX2_freeTime 169 = .ok (.sipush 1000, 3) := by decide +kernel
theorem dX2_freeTime_172 : decode cX2_freeTime 172 = .ok (.iload 8, 2) := by decide +kernel
theorem dX2_freeTime_174 : decode cX2_freeTime 174 = .ok (.invokestatic 195, 3) := by decide +kernel
theorem dX2_freeTime_177 : decode cX2_freeTime 177 = .ok (.ireturn, 1) := by decide +kernel
theorem dX2_heldEnd_0 : decode cX2_heldEnd 0 = .ok (.aload_n 0, 1) := by decide +kernel
theorem dX2_heldEnd_1 : decode cX2_heldEnd 1 = .ok (.getfield 61, 3) := by decide +kernel
theorem dX2_heldEnd_4 : decode cX2_heldEnd 4 = .ok (.istore 5, 2) := by decide +kernel
theorem dX2_heldEnd_6 : decode cX2_heldEnd 6 = .ok (.iconst 0, 1) := by decide +kernel
theorem dX2_heldEnd_7 : decode cX2_heldEnd 7 = .ok (.istore 6, 2) := by decide +kernel
theorem dX2_heldEnd_9 : decode cX2_heldEnd 9 = .ok (.iload 6, 2) := by decide +kernel
theorem dX2_heldEnd_11 : decode cX2_heldEnd 11 = .ok (.bipush 6, 2) := by decide +kernel
theorem dX2_heldEnd_13 : decode cX2_heldEnd 13 = .ok (.if_icmp .ge 121, 3) := by decide +kernel
theorem dX2_heldEnd_16 : decode cX2_heldEnd 16 = .ok (.aload_n 0, 1) := by decide +kernel
theorem dX2_heldEnd_17 : decode cX2_heldEnd 17 = .ok (.iload_n 1, 1) := by decide +kernel
theorem dX2_heldEnd_18 : decode cX2_heldEnd 18 = .ok (.iload_n 2, 1) := by decide +kernel
theorem dX2_heldEnd_19 : decode cX2_heldEnd 19 = .ok (.iload 5, 2) := by decide +kernel
theorem dX2_heldEnd_21 : decode cX2_heldEnd 21 = .ok (.invokevirtual 198, 3) := by decide +kernel
theorem dX2_heldEnd_24 : decode cX2_heldEnd 24 = .ok (.istore 7, 2) := by decide +kernel
theorem dX2_heldEnd_26 : decode cX2_heldEnd 26 = .ok (.aload_n 0, 1) := by decide +kernel
theorem dX2_heldEnd_27 : decode cX2_heldEnd 27 = .ok (.iload 7, 2) := by decide +kernel
theorem dX2_heldEnd_29 : decode cX2_heldEnd 29 = .ok (.invokevirtual 83, 3) := by decide +kernel
theorem dX2_heldEnd_32 : decode cX2_heldEnd 32 = .ok (.ifCond .ne 6, 3) := by decide +kernel
theorem dX2_heldEnd_35 : decode cX2_heldEnd 35 = .ok (.iload 4, 2) := by decide +kernel
theorem dX2_heldEnd_37 : decode cX2_heldEnd 37 = .ok (.ireturn, 1) := by decide +kernel
theorem dX2_heldEnd_38 : decode cX2_heldEnd 38 = .ok (.aload_n 0, 1) := by decide +kernel
theorem dX2_heldEnd_39 : decode cX2_heldEnd 39 = .ok (.getfield 27, 3) := by decide +kernel
theorem dX2_heldEnd_42 : decode cX2_heldEnd 42 = .ok (.iload 7, 2) := by decide +kernel
theorem dX2_heldEnd_44 : decode cX2_heldEnd 44 = .ok (.aaload, 1) := by decide +kernel
theorem dX2_heldEnd_45 : decode cX2_heldEnd 45 = .ok (.getfield 202, 3) := by decide +kernel
theorem dX2_heldEnd_48 : decode cX2_heldEnd 48 = .ok (.iload_n 2, 1) := by decide +kernel
theorem dX2_heldEnd_49 : decode cX2_heldEnd 49 = .ok (.iaload, 1) := by decide +kernel
theorem dX2_heldEnd_50 : decode cX2_heldEnd 50 = .ok (.aload_n 0, 1) := by decide +kernel
theorem dX2_heldEnd_51 : decode cX2_heldEnd 51 = .ok (.getfield 9, 3) := by decide +kernel
theorem dX2_heldEnd_54 : decode cX2_heldEnd 54 = .ok (.getfield 70, 3) := by decide +kernel
theorem dX2_heldEnd_57 : decode cX2_heldEnd 57 = .ok (.iconst 0, 1) := by decide +kernel
theorem dX2_heldEnd_58 : decode cX2_heldEnd 58 = .ok (.iaload, 1) := by decide +kernel
theorem dX2_heldEnd_59 : decode cX2_heldEnd 59 = .ok (.iadd, 1) := by decide +kernel
theorem dX2_heldEnd_60 : decode cX2_heldEnd 60 = .ok (.istore 8, 2) := by decide +kernel
theorem dX2_heldEnd_62 : decode cX2_heldEnd 62 = .ok (.iload 4, 2) := by decide +kernel
theorem dX2_heldEnd_64 : decode cX2_heldEnd 64 = .ok (.iload 8, 2) := by decide +kernel
theorem dX2_heldEnd_66 : decode cX2_heldEnd 66 = .ok (.if_icmp .lt 6, 3) := by decide +kernel
theorem dX2_heldEnd_69 : decode cX2_heldEnd 69 = .ok (.iload 4, 2) := by decide +kernel
theorem dX2_heldEnd_71 : decode cX2_heldEnd 71 = .ok (.ireturn, 1) := by decide +kernel
theorem dX2_heldEnd_72 : decode cX2_heldEnd 72 = .ok (.aload_n 0, 1) := by decide +kernel
theorem dX2_heldEnd_73 : decode cX2_heldEnd 73 = .ok (.aload_n 0, 1) := by decide +kernel
theorem dX2_heldEnd_74 : decode cX2_heldEnd 74 = .ok (.getfield 27, 3) := by decide +kernel
theorem dX2_heldEnd_77 : decode cX2_heldEnd 77 = .ok (.iload_n 1, 1) := by decide +kernel
theorem dX2_heldEnd_78 : decode cX2_heldEnd 78 = .ok (.aaload, 1) := by decide +kernel
theorem dX2_heldEnd_79 : decode cX2_heldEnd 79 = .ok (.aload_n 0, 1) := by decide +kernel
theorem dX2_heldEnd_80 : decode cX2_heldEnd 80 = .ok (.getfield 27, 3) := by decide +kernel
theorem dX2_heldEnd_83 : decode cX2_heldEnd 83 = .ok (.iload 7, 2) := by decide +kernel
theorem dX2_heldEnd_85 : decode cX2_heldEnd 85 = .ok (.aaload, 1) := by decide +kernel
theorem dX2_heldEnd_86 : decode cX2_heldEnd 86 = .ok (.iload_n 2, 1) := by decide +kernel
theorem dX2_heldEnd_87 : decode cX2_heldEnd 87 = .ok (.iload_n 3, 1) := by decide +kernel
theorem dX2_heldEnd_88 : decode cX2_heldEnd 88 = .ok (.iload 4, 2) := by decide +kernel
theorem dX2_heldEnd_90 : decode cX2_heldEnd 90 = .ok (.invokevirtual 205, 3) := by decide +kernel
theorem dX2_heldEnd_93 : decode cX2_heldEnd 93 = .ok (.ifCond .ne 21, 3) := by decide +kernel
theorem dX2_heldEnd_96 : decode cX2_heldEnd 96 = .ok (.aload_n 0, 1) := by decide +kernel
theorem dX2_heldEnd_97 : decode cX2_heldEnd 97 = .ok (.getfield 27, 3) := by decide +kernel
theorem dX2_heldEnd_100 : decode cX2_heldEnd 100 = .ok (.iload_n 1, 1) := by decide +kernel
theorem dX2_heldEnd_101 : decode cX2_heldEnd 101 = .ok (.aaload, 1) := by decide +kernel
theorem dX2_heldEnd_102 : decode cX2_heldEnd 102 = .ok (.dup, 1) := by decide +kernel
theorem dX2_heldEnd_103 : decode cX2_heldEnd 103 = .ok (.getfield 209, 3) := by decide +kernel
theorem dX2_heldEnd_106 : decode cX2_heldEnd 106 = .ok (.iconst 1, 1) := by decide +kernel
theorem dX2_heldEnd_107 : decode cX2_heldEnd 107 = .ok (.iadd, 1) := by decide +kernel
theorem dX2_heldEnd_108 : decode cX2_heldEnd 108 = .ok (.putfield 209, 3) := by decide +kernel
theorem dX2_heldEnd_111 : decode cX2_heldEnd 111 = .ok (.iload 8, 2) := by decide +kernel
theorem dX2_heldEnd_113 : decode cX2_heldEnd 113 = .ok (.ireturn, 1) := by decide +kernel
theorem dX2_heldEnd_114 : decode cX2_heldEnd 114 = .ok (.aload_n 0, 1) := by decide +kernel
theorem dX2_heldEnd_115 : decode cX2_heldEnd 115 = .ok (.getfield 27, 3) := by decide +kernel
theorem dX2_heldEnd_118 : decode cX2_heldEnd 118 = .ok (.iload 7, 2) := by decide +kernel
theorem dX2_heldEnd_120 : decode cX2_heldEnd 120 = .ok (.aaload, 1) := by decide +kernel
theorem dX2_heldEnd_121 : decode cX2_heldEnd 121 = .ok (.getfield 212, 3) := by decide +kernel
theorem dX2_heldEnd_124 : decode cX2_heldEnd 124 = .ok (.iload_n 2, 1) := by decide +kernel
theorem dX2_heldEnd_125 : decode cX2_heldEnd 125 = .ok (.iaload, 1) := by decide +kernel
theorem dX2_heldEnd_126 : decode cX2_heldEnd 126 = .ok (.istore 5, 2) := by decide +kernel
theorem dX2_heldEnd_128 : decode cX2_heldEnd 128 = .ok (.iinc 6 1, 3) := by decide +kernel
theorem dX2_heldEnd_131 : decode cX2_heldEnd 131 = .ok (.goto (-122), 3) := by decide +kernel
theorem dX2_heldEnd_134 : decode cX2_heldEnd 134 = .ok (.iload 4, 2) := by decide +kernel
theorem dX2_heldEnd_136 : decode cX2_heldEnd 136 = .ok (.ireturn, 1) := by decide +kernel
theorem dX2_latestBefore_0 : decode cX2_latestBefore 0 = .ok (.iconst (-1), 1) := by decide +kernel
theorem dX2_latestBefore_1 : decode cX2_latestBefore 1 = .ok (.istore 4, 2) := by decide +kernel
theorem dX2_latestBefore_3 : decode cX2_latestBefore 3 = .ok (.iconst 0, 1) := by decide +kernel
theorem dX2_latestBefore_4 : decode cX2_latestBefore 4 = .ok (.istore 5, 2) := by decide +kernel
theorem dX2_latestBefore_6 : decode cX2_latestBefore 6 = .ok (.iconst 0, 1) := by decide +kernel
theorem dX2_latestBefore_7 : decode cX2_latestBefore 7 = .ok (.istore 6, 2) := by decide +kernel
theorem dX2_latestBefore_9 : decode cX2_latestBefore 9 = .ok (.iload 6, 2) := by decide +kernel
theorem dX2_latestBefore_11 : decode cX2_latestBefore 11 = .ok (.aload_n 0, 1) := by decide +kernel
theorem dX2_latestBefore_12 : decode cX2_latestBefore 12 = .ok (.getfield 37, 3) := by decide +kernel
theorem dX2_latestBefore_15 : decode cX2_latestBefore 15 = .ok (.if_icmp .ge 57, 3) := by decide +kernel
theorem dX2_latestBefore_18 : decode cX2_latestBefore 18 = .ok (.iload 6, 2) := by decide +kernel
theorem dX2_latestBefore_20 : decode cX2_latestBefore 20 = .ok (.bipush 6, 2) := by decide +kernel
theorem dX2_latestBefore_22 : decode cX2_latestBefore 22 = .ok (.if_icmp .ge 50, 3) := by decide +kernel
theorem dX2_latestBefore_25 : decode cX2_latestBefore 25 = .ok (.aload_n 0, 1) := by decide +kernel
theorem dX2_latestBefore_26 : decode cX2_latestBefore 26 = .ok (.getfield 27, 3) := by decide +kernel
theorem dX2_latestBefore_29 : decode cX2_latestBefore 29 = .ok (.iload 6, 2) := by decide +kernel
theorem dX2_latestBefore_31 : decode cX2_latestBefore 31 = .ok (.aaload, 1) := by decide +kernel
theorem dX2_latestBefore_32 : decode cX2_latestBefore 32 = .ok (.getfield 212, 3) := by decide +kernel
theorem dX2_latestBefore_35 : decode cX2_latestBefore 35 = .ok (.iload_n 2, 1) := by decide +kernel
theorem dX2_latestBefore_36 : decode cX2_latestBefore 36 = .ok (.iaload, 1) := by decide +kernel
theorem dX2_latestBefore_37 : decode cX2_latestBefore 37 = .ok (.istore 7, 2) := by decide +kernel
theorem dX2_latestBefore_39 : decode cX2_latestBefore 39 = .ok (.iload 6, 2) := by decide +kernel
theorem dX2_latestBefore_41 : decode cX2_latestBefore 41 = .ok (.iload_n 1, 1) := by decide +kernel
theorem dX2_latestBefore_42 : decode cX2_latestBefore 42 = .ok (.if_icmp .eq 24, 3) := by decide +kernel
theorem dX2_latestBefore_45 : decode cX2_latestBefore 45 = .ok (.iload 7, 2) := by decide +kernel
theorem dX2_latestBefore_47 : decode cX2_latestBefore 47 = .ok (.iload 5, 2) := by decide +kernel
theorem dX2_latestBefore_49 : decode cX2_latestBefore 49 = .ok (.if_icmp .le 17, 3) := by decide +kernel
theorem dX2_latestBefore_52 : decode cX2_latestBefore 52 = .ok (.iload 7, 2) := by decide +kernel
theorem dX2_latestBefore_54 : decode cX2_latestBefore 54 = .ok (.iload_n 3, 1) := by decide +kernel
theorem dX2_latestBefore_55 : decode cX2_latestBefore 55 = .ok (.if_icmp .ge 11, 3) := by decide +kernel
theorem dX2_latestBefore_58 : decode cX2_latestBefore 58 = .ok (.iload 7, 2) := by decide +kernel
theorem dX2_latestBefore_60 : decode cX2_latestBefore 60 = .ok (.istore 5, 2) := by decide +kernel
theorem dX2_latestBefore_62 : decode cX2_latestBefore 62 = .ok (.iload 6, 2) := by decide +kernel
theorem dX2_latestBefore_64 : decode cX2_latestBefore 64 = .ok (.istore 4, 2) := by decide +kernel
theorem dX2_latestBefore_66 : decode cX2_latestBefore 66 = .ok (.iinc 6 1, 3) := by decide +kernel
theorem dX2_latestBefore_69 : decode cX2_latestBefore 69 = .ok (.goto (-60), 3) := by decide +kernel
theorem dX2_latestBefore_72 : decode cX2_latestBefore 72 = .ok (.iload 4, 2) := by decide +kernel
theorem dX2_latestBefore_74 : decode cX2_latestBefore 74 = .ok (.ireturn, 1) := by decide +kernel
theorem dX2_passes_0 : decode cX2_passes 0 = .ok (.aload_n 1, 1) := by decide +kernel
theorem dX2_passes_1 : decode cX2_passes 1 = .ok (.getfield 101, 3) := by decide +kernel
theorem dX2_passes_4 : decode cX2_passes 4 = .ok (.aload_n 2, 1) := by decide +kernel
theorem dX2_passes_5 : decode cX2_passes 5 = .ok (.getfield 101, 3) := by decide +kernel
theorem dX2_passes_8 : decode cX2_passes 8 = .ok (.isub, 1) := by decide +kernel
theorem dX2_passes_9 : decode cX2_passes 9 = .ok (.aload_n 0, 1) := by decide +kernel
theorem dX2_passes_10 : decode cX2_passes 10 = .ok (.getfield 9, 3) := by decide +kernel
theorem dX2_passes_13 : decode cX2_passes 13 = .ok (.getfield 159, 3) := by decide +kernel
theorem dX2_passes_16 : decode cX2_passes 16 = .ok (.if_icmp .lt 7, 3) := by decide +kernel
theorem dX2_passes_19 : decode cX2_passes 19 = .ok (.iconst 1, 1) := by decide +kernel
theorem dX2_passes_20 : decode cX2_passes 20 = .ok (.goto 4, 3) := by decide +kernel
theorem dX2_passes_23 : decode cX2_passes 23 = .ok (.iconst 0, 1) := by decide +kernel
theorem dX2_passes_24 : decode cX2_passes 24 = .ok (.istore 6, 2) := by decide +kernel
theorem dX2_passes_26 : decode cX2_passes 26 = .ok (.iload 6, 2) := by decide +kernel
theorem dX2_passes_28 : decode cX2_passes 28 = .ok (.ifCond .eq 7, 3) := by decide +kernel
theorem dX2_passes_31 : decode cX2_passes 31 = .ok (.iconst 0, 1) := by decide +kernel
theorem dX2_passes_32 : decode cX2_passes 32 = .ok (.goto 12, 3) := by decide +kernel
theorem dX2_passes_35 : decode cX2_passes 35 = .ok (.aload_n 0, 1) := by decide +kernel
theorem dX2_passes_36 : decode cX2_passes 36 = .ok (.getfield 9, 3) := by decide +kernel
theorem dX2_passes_39 : decode cX2_passes 39 = .ok (.getfield 215, 3) := by decide +kernel
theorem dX2_passes_42 : decode cX2_passes 42 = .ok (.iload_n 3, 1) := by decide +kernel
theorem dX2_passes_43 : decode cX2_passes 43 = .ok (.iaload, 1) := by decide +kernel
theorem dX2_passes_44 : decode cX2_passes 44 = .ok (.istore 7, 2) := by decide +kernel
theorem dX2_passes_46 : decode cX2_passes 46 = .ok (.iload 7, 2) := by decide +kernel
theorem dX2_passes_48 : decode cX2_passes 48 = .ok (.iconst (-1), 1) := by decide +kernel
theorem dX2_passes_49 : decode cX2_passes 49 = .ok (.if_icmp .eq 17, 3) := by decide +kernel
theorem dX2_passes_52 : decode cX2_passes 52 = .ok (.iload 5, 2) := by decide +kernel
theorem dX2_passes_54 : decode cX2_passes 54 = .ok (.iload 7, 2) := by decide +kernel
theorem dX2_passes_56 : decode cX2_passes 56 = .ok (.iadd, 1) := by decide +kernel
theorem dX2_passes_57 : decode cX2_passes 57 = .ok (.aload_n 2, 1) := by decide +kernel
theorem dX2_passes_58 : decode cX2_passes 58 = .ok (.getfield 202, 3) := by decide +kernel
theorem dX2_passes_61 : decode cX2_passes 61 = .ok (.iload_n 3, 1) := by decide +kernel
theorem dX2_passes_62 : decode cX2_passes 62 = .ok (.iaload, 1) := by decide +kernel
theorem dX2_passes_63 : decode cX2_passes 63 = .ok (.if_icmp .le 5, 3) := by decide +kernel
theorem dX2_passes_66 : decode cX2_passes 66 = .ok (.iconst 0, 1) := by decide +kernel
theorem dX2_passes_67 : decode cX2_passes 67 = .ok (.ireturn, 1) := by decide +kernel
theorem dX2_passes_68 : decode cX2_passes 68 = .ok (.aload_n 0, 1) := by decide +kernel
theorem dX2_passes_69 : decode cX2_passes 69 = .ok (.getfield 9, 3) := by decide +kernel
theorem dX2_passes_72 : decode cX2_passes 72 = .ok (.iload_n 3, 1) := by decide +kernel
theorem dX2_passes_73 : decode cX2_passes 73 = .ok (.iload 4, 2) := by decide +kernel
theorem dX2_passes_75 : decode cX2_passes 75 = .ok (.invokevirtual 218, 3) := by decide +kernel
theorem dX2_passes_78 : decode cX2_passes 78 = .ok (.ifCond .ne 15, 3) := by decide +kernel
theorem dX2_passes_81 : decode cX2_passes 81 = .ok (.aload_n 0, 1) := by decide +kernel
theorem dX2_passes_82 : decode cX2_passes 82 = .ok (.getfield 9, 3) := by decide +kernel
theorem dX2_passes_85 : decode cX2_passes 85 = .ok (.iload 4, 2) := by decide +kernel
theorem dX2_passes_87 : decode cX2_passes 87 = .ok (.invokevirtual 138, 3) := by decide +kernel
theorem dX2_passes_90 : decode cX2_passes 90 = .ok (.ifCond .eq 22, 3) := by decide +kernel
theorem dX2_passes_93 : decode cX2_passes 93 = .ok (.aload_n 1, 1) := by decide +kernel
theorem dX2_passes_94 : decode cX2_passes 94 = .ok (.getfield 172, 3) := by decide +kernel
theorem dX2_passes_97 : decode cX2_passes 97 = .ok (.ifCond .ne 5, 3) := by decide +kernel
theorem dX2_passes_100 : decode cX2_passes 100 = .ok (.iconst 0, 1) := by decide +kernel
theorem dX2_passes_101 : decode cX2_passes 101 = .ok (.ireturn, 1) := by decide +kernel
theorem dX2_passes_102 : decode cX2_passes 102 = .ok (.aload_n 1, 1) := by decide +kernel
theorem dX2_passes_103 : decode cX2_passes 103 = .ok (.dup, 1) := by decide +kernel
theorem dX2_passes_104 : decode cX2_passes 104 = .ok (.getfield 221, 3) := by decide +kernel
theorem dX2_passes_107 : decode cX2_passes 107 = .ok (.iconst 1, 1) := by decide +kernel
theorem dX2_passes_108 : decode cX2_passes 108 = .ok (.iadd, 1) := by decide +kernel
theorem dX2_passes_109 : decode cX2_passes 109 = .ok (.putfield 221, 3) := by decide +kernel
theorem dX2_passes_112 : decode cX2_passes 112 = .ok (.aload_n 1, 1) := by decide +kernel
theorem dX2_passes_113 : decode cX2_passes 113 = .ok (.dup, 1) := by decide +kernel
theorem dX2_passes_114 : decode cX2_passes 114 = .ok (.getfield 224, 3) := by decide +kernel
theorem dX2_passes_117 : decode cX2_passes 117 = .ok (.iconst 1, 1) := by decide +kernel
theorem dX2_passes_118 : decode cX2_passes 118 = .ok (.iadd, 1) := by decide +kernel
theorem dX2_passes_119 : decode cX2_passes 119 = .ok (.putfield 224, 3) := by decide +kernel
theorem dX2_passes_122 : decode cX2_passes 122 = .ok (.iconst 1, 1) := by decide +kernel
theorem dX2_passes_123 : decode cX2_passes 123 = .ok (.ireturn, 1) := by decide +kernel
theorem dX2_endLap_0 : decode cX2_endLap 0 = .ok (.iload 4, 2) := by decide +kernel
theorem dX2_endLap_2 : decode cX2_endLap 2 = .ok (.aload_n 0, 1) := by decide +kernel
theorem dX2_endLap_3 : decode cX2_endLap 3 = .ok (.getfield 9, 3) := by decide +kernel
theorem dX2_endLap_6 : decode cX2_endLap 6 = .ok (.getfield 227, 3) := by decide +kernel
theorem dX2_endLap_9 : decode cX2_endLap 9 = .ok (.iconst 1, 1) := by decide +kernel
theorem dX2_endLap_10 : decode cX2_endLap 10 = .ok (.isub, 1) := by decide +kernel
theorem dX2_endLap_11 : decode cX2_endLap 11 = .ok (.if_icmp .eq 13, 3) := by decide +kernel
theorem dX2_endLap_14 : decode cX2_endLap 14 = .ok (.aload_n 0, 1) := by decide +kernel
theorem dX2_endLap_15 : decode cX2_endLap 15 = .ok (.iload_n 1, 1) := by decide +kernel
theorem dX2_endLap_16 : decode cX2_endLap 16 = .ok (.iload 5, 2) := by decide +kernel
theorem dX2_endLap_18 : decode cX2_endLap 18 = .ok (.invokevirtual 230, 3) := by decide +kernel
theorem dX2_endLap_21 : decode cX2_endLap 21 = .ok (.ifCond .eq 11, 3) := by decide +kernel
theorem dX2_endLap_24 : decode cX2_endLap 24 = .ok (.aload_n 3, 1) := by decide +kernel
theorem dX2_endLap_25 : decode cX2_endLap 25 = .ok (.iconst 1, 1) := by decide +kernel
theorem dX2_endLap_26 : decode cX2_endLap 26 = .ok (.iload 5, 2) := by decide +kernel
theorem dX2_endLap_28 : decode cX2_endLap 28 = .ok (.invokevirtual 134, 3) := by decide +kernel
theorem dX2_endLap_31 : decode cX2_endLap 31 = .ok (.return_, 1) := by decide +kernel
theorem dX2_endLap_32 : decode cX2_endLap 32 = .ok (.iconst (-1), 1) := by decide +kernel
theorem dX2_endLap_33 : decode cX2_endLap 33 = .ok (.istore 6, 2) := by decide +kernel
theorem dX2_endLap_35 : decode cX2_endLap 35 = .ok (.aload_n 2, 1) := by decide +kernel
theorem dX2_endLap_36 : decode cX2_endLap 36 = .ok (.invokevirtual 233, 3) := by decide +kernel
theorem dX2_endLap_39 : decode cX2_endLap 39 = .ok (.ifCond .eq 37, 3) := by decide +kernel
theorem dX2_endLap_42 : decode cX2_endLap 42 = .ok (.aload_n 0, 1) := by decide +kernel
theorem dX2_endLap_43 : decode cX2_endLap 43 = .ok (.iload_n 1, 1) := by decide +kernel
theorem dX2_endLap_44 : decode cX2_endLap 44 = .ok (.aload_n 2, 1) := by decide +kernel
theorem dX2_endLap_45 : decode cX2_endLap 45 = .ok (.aload_n 3, 1) := by decide +kernel
theorem dX2_endLap_46 : decode cX2_endLap 46 = .ok (.iload 4, 2) := by decide +kernel
theorem dX2_endLap_48 : decode cX2_endLap 48 = .ok (.iload 5, 2) := by decide +kernel
theorem dX2_endLap_50 : decode cX2_endLap 50 = .ok (.invokevirtual 237, 3) := by decide +kernel
theorem dX2_endLap_53 : decode cX2_endLap 53 = .ok (.aload_n 2, 1) := by decide +kernel
theorem dX2_endLap_54 : decode cX2_endLap 54 = .ok (.getfield 240, 3) := by decide +kernel
theorem dX2_endLap_57 : decode cX2_endLap 57 = .ok (.aload_n 0, 1) := by decide +kernel
theorem dX2_endLap_58 : decode cX2_endLap 58 = .ok (.getfield 15, 3) := by decide +kernel
theorem dX2_endLap_61 : decode cX2_endLap 61 = .ok (.aload_n 2, 1) := by decide +kernel
theorem dX2_endLap_62 : decode cX2_endLap 62 = .ok (.getfield 240, 3) := by decide +kernel
theorem dX2_endLap_65 : decode cX2_endLap 65 = .ok (.invokevirtual 244, 3) := by decide +kernel
theorem dX2_endLap_68 : decode cX2_endLap 68 = .ok (.aload_n 3, 1) := by decide +kernel
theorem dX2_endLap_69 : decode cX2_endLap 69 = .ok (.iload 4, 2) := by decide +kernel
theorem dX2_endLap_71 : decode cX2_endLap 71 = .ok (.invokestatic 250, 3) := by decide +kernel
theorem dX2_endLap_74 : decode cX2_endLap 74 = .ok (.istore 6, 2) := by decide +kernel
theorem dX2_endLap_76 : decode cX2_endLap 76 = .ok (.aload_n 2, 1) := by decide +kernel
theorem dX2_endLap_77 : decode cX2_endLap 77 = .ok (.iload 4, 2) := by decide +kernel
theorem dX2_endLap_79 : decode cX2_endLap 79 = .ok (.invokevirtual 254, 3) := by decide +kernel
theorem dX2_endLap_82 : decode cX2_endLap 82 = .ok (.istore 7, 2) := by decide +kernel
theorem dX2_endLap_84 : decode cX2_endLap 84 = .ok (.iload 7, 2) := by decide +kernel
theorem dX2_endLap_86 : decode cX2_endLap 86 = .ok (.iconst (-1), 1) := by decide +kernel
theorem dX2_endLap_87 : decode cX2_endLap 87 = .ok (.if_icmp .eq 36, 3) := by decide +kernel
theorem dX2_endLap_90 : decode cX2_endLap 90 = .ok (.aload_n 2, 1) := by decide +kernel
theorem dX2_endLap_91 : decode cX2_endLap 91 = .ok (.invokevirtual 257, 3) := by decide +kernel
theorem dX2_endLap_94 : decode cX2_endLap 94 = .ok (.astore 8, 2) := by decide +kernel
theorem dX2_endLap_96 : decode cX2_endLap 96 = .ok (.aload_n 0, 1) := by decide +kernel
theorem dX2_endLap_97 : decode cX2_endLap 97 = .ok (.aload_n 2, 1) := by decide +kernel
theorem dX2_endLap_98 : decode cX2_endLap 98 = .ok (.aload_n 3, 1) := by decide +kernel
theorem dX2_endLap_99 : decode cX2_endLap 99 = .ok (.iload 5, 2) := by decide +kernel
theorem dX2_endLap_101 : decode cX2_endLap 101 = .ok (.aload 8, 2) := by decide +kernel
theorem dX2_endLap_103 : decode cX2_endLap 103 = .ok (.iload 7, 2) := by decide +kernel
theorem dX2_endLap_105 : decode cX2_endLap 105 = .ok (.iconst 1, 1) := by decide +kernel
theorem dX2_endLap_106 : decode cX2_endLap 106 = .ok (.invokevirtual 121, 3) := by decide +kernel
theorem dX2_endLap_109 : decode cX2_endLap 109 = .ok (.aload 8, 2) := by decide +kernel
theorem dX2_endLap_111 : decode cX2_endLap 111 = .ok (.iload 7, 2) := by decide +kernel
theorem dX2_endLap_113 : decode cX2_endLap 113 = .ok (.iconst 2, 1) := by decide +kernel
theorem dX2_endLap_114 : decode cX2_endLap 114 = .ok (.invokevirtual 121, 3) := by decide +kernel
theorem dX2_endLap_117 : decode cX2_endLap 117 = .ok (.invokevirtual 261, 3) := by decide +kernel
theorem dX2_endLap_120 : decode cX2_endLap 120 = .ok (.goto 22, 3) := by decide +kernel
theorem dX2_endLap_123 : decode cX2_endLap 123 = .ok (.iload 6, 2) := by decide +kernel
theorem dX2_endLap_125 : decode cX2_endLap 125 = .ok (.iconst (-1), 1) := by decide +kernel
theorem dX2_endLap_126 : decode cX2_endLap 126 = .ok (.if_icmp .eq 16, 3) := by decide +kernel
theorem dX2_endLap_129 : decode cX2_endLap 129 = .ok (.aload_n 0, 1) := by decide +kernel
theorem dX2_endLap_130 : decode cX2_endLap 130 = .ok (.aload_n 2, 1) := by decide +kernel
theorem dX2_endLap_131 : decode cX2_endLap 131 = .ok (.aload_n 3, 1) := by decide +kernel
theorem dX2_endLap_132 : decode cX2_endLap 132 = .ok (.iload 5, 2) := by decide +kernel
theorem dX2_endLap_134 : decode cX2_endLap 134 = .ok (.iload 6, 2) := by decide +kernel
theorem dX2_endLap_136 : decode cX2_endLap 136 = .ok (.sipush 200, 3) := by decide +kernel
theorem dX2_endLap_139 : decode cX2_endLap 139 = .ok (.invokevirtual 261, 3) := by decide +kernel
theorem dX2_endLap_142 : decode cX2_endLap 142 = .ok (.return_, 1) := by decide +kernel
theorem dX2_isRaceWon_0 : decode cX2_isRaceWon 0 = .ok (.aload_n 0, 1) := by decide +kernel
theorem dX2_isRaceWon_1 : decode cX2_isRaceWon 1 = .ok (.getfield 9, 3) := by decide +kernel
theorem dX2_isRaceWon_4 : decode cX2_isRaceWon 4 = .ok (.aload_n 0, 1) := by decide +kernel
theorem dX2_isRaceWon_5 : decode cX2_isRaceWon 5 = .ok (.getfield 9, 3) := by decide +kernel
theorem dX2_isRaceWon_8 : decode cX2_isRaceWon 8 = .ok (.getfield 227, 3) := by decide +kernel
theorem dX2_isRaceWon_11 : decode cX2_isRaceWon 11 = .ok (.iconst 1, 1) := by decide +kernel
theorem dX2_isRaceWon_12 : decode cX2_isRaceWon 12 = .ok (.isub, 1) := by decide +kernel
theorem dX2_isRaceWon_13 : decode cX2_isRaceWon 13 = .ok (.aload_n 0, 1) := by decide +kernel
theorem dX2_isRaceWon_14 : decode cX2_isRaceWon 14 = .ok (.getfield 9, 3) := by decide +kernel
theorem dX2_isRaceWon_17 : decode cX2_isRaceWon 17 = .ok (.getfield 159, 3) := by decide +kernel
theorem dX2_isRaceWon_20 : decode cX2_isRaceWon 20 = .ok (.iconst 1, 1) := by decide +kernel
theorem dX2_isRaceWon_21 : decode cX2_isRaceWon 21 = .ok (.isub, 1) := by decide +kernel
theorem dX2_isRaceWon_22 : decode cX2_isRaceWon 22 = .ok (.invokevirtual 265, 3) := by decide +kernel
theorem dX2_isRaceWon_25 : decode cX2_isRaceWon 25 = .ok (.istore_n 3, 1) := by decide +kernel
theorem dX2_isRaceWon_26 : decode cX2_isRaceWon 26 = .ok (.iconst 0, 1) := by decide +kernel
theorem dX2_isRaceWon_27 : decode cX2_isRaceWon 27 = .ok (.istore 4, 2) := by decide +kernel
theorem dX2_isRaceWon_29 : decode cX2_isRaceWon 29 = .ok (.iload 4, 2) := by decide +kernel
theorem dX2_isRaceWon_31 : decode cX2_isRaceWon 31 = .ok (.aload_n 0, 1) := by decide +kernel
theorem dX2_isRaceWon_32 : decode cX2_isRaceWon 32 = .ok (.getfield 37, 3) := by decide +kernel
theorem dX2_isRaceWon_35 : decode cX2_isRaceWon 35 = .ok (.if_icmp .ge 49, 3) := by decide +kernel
theorem dX2_isRaceWon_38 : decode cX2_isRaceWon 38 = .ok (.iload 4, 2) := by decide +kernel
theorem dX2_isRaceWon_40 : decode cX2_isRaceWon 40 = .ok (.bipush 6, 2) := by decide +kernel
theorem dX2_isRaceWon_42 : decode cX2_isRaceWon 42 = .ok (.if_icmp .ge 42, 3) := by decide +kernel
theorem dX2_isRaceWon_45 : decode cX2_isRaceWon 45 = .ok (.aload_n 0, 1) := by decide +kernel
theorem dX2_isRaceWon_46 : decode cX2_isRaceWon 46 = .ok (.getfield 27, 3) := by decide +kernel
theorem dX2_isRaceWon_49 : decode cX2_isRaceWon 49 = .ok (.iload 4, 2) := by decide +kernel
theorem dX2_isRaceWon_51 : decode cX2_isRaceWon 51 = .ok (.aaload, 1) := by decide +kernel
theorem dX2_isRaceWon_52 : decode cX2_isRaceWon 52 = .ok (.iload_n 3, 1) := by decide +kernel
theorem dX2_isRaceWon_53 : decode cX2_isRaceWon 53 = .ok (.invokevirtual 268, 3) := by decide +kernel
theorem dX2_isRaceWon_56 : decode cX2_isRaceWon 56 = .ok (.istore 5, 2) := by decide +kernel
theorem dX2_isRaceWon_58 : decode cX2_isRaceWon 58 = .ok (.iload 4, 2) := by decide +kernel
theorem dX2_isRaceWon_60 : decode cX2_isRaceWon 60 = .ok (.iload_n 1, 1) := by decide +kernel
theorem dX2_isRaceWon_61 : decode cX2_isRaceWon 61 = .ok (.if_icmp .eq 17, 3) := by decide +kernel
theorem dX2_isRaceWon_64 : decode cX2_isRaceWon 64 = .ok (.iload 5, 2) := by decide +kernel
theorem dX2_isRaceWon_66 : decode cX2_isRaceWon 66 = .ok (.iconst (-1), 1) := by decide +kernel
theorem dX2_isRaceWon_67 : decode cX2_isRaceWon 67 = .ok (.if_icmp .eq 11, 3) := by decide +kernel
theorem dX2_isRaceWon_70 : decode cX2_isRaceWon 70 = .ok (.iload 5, 2) := by decide +kernel
theorem dX2_isRaceWon_72 : decode cX2_isRaceWon 72 = .ok (.iload_n 2, 1) := by decide +kernel
theorem dX2_isRaceWon_73 : decode cX2_isRaceWon 73 = .ok (.if_icmp .gt 5, 3) := by decide +kernel
theorem dX2_isRaceWon_76 : decode cX2_isRaceWon 76 = .ok (.iconst 1, 1) := by decide +kernel
theorem dX2_isRaceWon_77 : decode cX2_isRaceWon 77 = .ok (.ireturn, 1) := by decide +kernel
theorem dX2_isRaceWon_78 : decode cX2_isRaceWon 78 = .ok (.iinc 4 1, 3) := by decide +kernel
theorem dX2_isRaceWon_81 : decode cX2_isRaceWon 81 = .ok (.goto (-52), 3) := by decide +kernel
theorem dX2_isRaceWon_84 : decode cX2_isRaceWon 84 = .ok (.iconst 0, 1) := by decide +kernel
theorem dX2_isRaceWon_85 : decode cX2_isRaceWon 85 = .ok (.ireturn, 1) := by decide +kernel
theorem dX2_setLetters_0 : decode cX2_setLetters 0 = .ok (.aload_n 0, 1) := by decide +kernel
theorem dX2_setLetters_1 : decode cX2_setLetters 1 = .ok (.getfield 9, 3) := by decide +kernel
theorem dX2_setLetters_4 : decode cX2_setLetters 4 = .ok (.iload 4, 2) := by decide +kernel
theorem dX2_setLetters_6 : decode cX2_setLetters 6 = .ok (.aload_n 0, 1) := by decide +kernel
theorem dX2_setLetters_7 : decode cX2_setLetters 7 = .ok (.getfield 9, 3) := by decide +kernel
theorem dX2_setLetters_10 : decode cX2_setLetters 10 = .ok (.getfield 159, 3) := by decide +kernel
theorem dX2_setLetters_13 : decode cX2_setLetters 13 = .ok (.iconst 1, 1) := by decide +kernel
theorem dX2_setLetters_14 : decode cX2_setLetters 14 = .ok (.isub, 1) := by decide +kernel
theorem dX2_setLetters_15 : decode cX2_setLetters 15 = .ok (.invokevirtual 265, 3) := by decide +kernel
theorem dX2_setLetters_18 : decode cX2_setLetters 18 = .ok (.istore 6, 2) := by decide +kernel
theorem dX2_setLetters_20 : decode cX2_setLetters 20 = .ok (.iconst 0, 1) := by decide +kernel
theorem dX2_setLetters_21 : decode cX2_setLetters 21 = .ok (.istore 7, 2) := by decide +kernel
theorem dX2_setLetters_23 : decode cX2_setLetters 23 = .ok (.iconst (-1), 1) := by decide +kernel
theorem dX2_setLetters_24 : decode cX2_setLetters 24 = .ok (.istore 8, 2) := by decide +kernel
theorem dX2_setLetters_26 : decode cX2_setLetters 26 = .ok (.iconst 0, 1) := by decide +kernel
theorem dX2_setLetters_27 : decode cX2_setLetters 27 = .ok (.istore 9, 2) := by decide +kernel
theorem dX2_setLetters_29 : decode cX2_setLetters 29 = .ok (.iload 9, 2) := by decide +kernel
theorem dX2_setLetters_31 : decode cX2_setLetters 31 = .ok (.aload_n 0, 1) := by decide +kernel
theorem dX2_setLetters_32 : decode cX2_setLetters 32 = .ok (.getfield 37, 3) := by decide +kernel
theorem dX2_setLetters_35 : decode cX2_setLetters 35 = .ok (.if_icmp .ge 61, 3) := by decide +kernel
theorem dX2_setLetters_38 : decode cX2_setLetters 38 = .ok (.iload 9, 2) := by decide +kernel
theorem dX2_setLetters_40 : decode cX2_setLetters 40 = .ok (.bipush 6, 2) := by decide +kernel
theorem dX2_setLetters_42 : decode cX2_setLetters 42 = .ok (.if_icmp .ge 54, 3) := by decide +kernel
theorem dX2_setLetters_45 : decode cX2_setLetters 45 = .ok (.aload_n 0, 1) := by decide +kernel
theorem dX2_setLetters_46 : decode cX2_setLetters 46 = .ok (.getfield 27, 3) := by decide +kernel
theorem dX2_setLetters_49 : decode cX2_setLetters 49 = .ok (.iload 9, 2) := by decide +kernel
theorem dX2_setLetters_51 : decode cX2_setLetters 51 = .ok (.aaload, 1) := by decide +kernel
theorem dX2_setLetters_52 : decode cX2_setLetters 52 = .ok (.iload 6, 2) := by decide +kernel
theorem dX2_setLetters_54 : decode cX2_setLetters 54 = .ok (.invokevirtual 268, 3) := by decide +kernel
theorem dX2_setLetters_57 : decode cX2_setLetters 57 = .ok (.istore 10, 2) := by decide +kernel
theorem dX2_setLetters_59 : decode cX2_setLetters 59 = .ok (.iload 9, 2) := by decide +kernel
theorem dX2_setLetters_61 : decode cX2_setLetters 61 = .ok (.iload_n 1, 1) := by decide +kernel
theorem dX2_setLetters_62 : decode cX2_setLetters 62 = .ok (.if_icmp .eq 28, 3) := by decide +kernel
theorem dX2_setLetters_65 : decode cX2_setLetters 65 = .ok (.iload 10, 2) := by decide +kernel
theorem dX2_setLetters_67 : decode cX2_setLetters 67 = .ok (.iconst (-1), 1) := by decide +kernel
theorem dX2_setLetters_68 : decode cX2_setLetters 68 = .ok (.if_icmp .eq 22, 3) := by decide +kernel
theorem dX2_setLetters_71 : decode cX2_setLetters 71 = .ok (.iload 10, 2) := by decide +kernel
theorem dX2_setLetters_73 : decode cX2_setLetters 73 = .ok (.iload 5, 2) := by decide +kernel
theorem dX2_setLetters_75 : decode cX2_setLetters 75 = .ok (.if_icmp .gt 15, 3) := by decide +kernel
theorem dX2_setLetters_78 : decode cX2_setLetters 78 = .ok (.iinc 7 1, 3) := by decide +kernel
theorem dX2_setLetters_81 : decode cX2_setLetters 81 = .ok (.iload 8, 2) := by decide +kernel
theorem dX2_setLetters_83 : decode cX2_setLetters 83 = .ok (.iload 10, 2) := by decide +kernel
theorem dX2_setLetters_85 : decode cX2_setLetters 85 = .ok (.invokestatic 195, 3) := by decide +kernel
theorem dX2_setLetters_88 : decode cX2_setLetters 88 = .ok (.istore 8, 2) := by decide +kernel
theorem dX2_setLetters_90 : decode cX2_setLetters 90 = .ok (.iinc 9 1, 3) := by decide +kernel
theorem dX2_setLetters_93 : decode cX2_setLetters 93 = .ok (.goto (-64), 3) := by decide +kernel
theorem dX2_setLetters_96 : decode cX2_setLetters 96 = .ok (.aload_n 0, 1) := by decide +kernel
theorem dX2_setLetters_97 : decode cX2_setLetters 97 = .ok (.getfield 15, 3) := by decide +kernel
theorem dX2_setLetters_100 : decode cX2_setLetters 100 = .ok (.bipush 108, 2) := by decide +kernel
theorem dX2_setLetters_102 : decode cX2_setLetters 102 = .ok (.iload 4, 2) := by decide +kernel
theorem dX2_setLetters_104 : decode cX2_setLetters 104 = .ok (.iconst 1, 1) := by decide +kernel
theorem dX2_setLetters_105 : decode cX2_setLetters 105 = .ok (.iadd, 1) := by decide +kernel
theorem dX2_setLetters_106 : decode cX2_setLetters 106 = .ok (.invokevirtual 271, 3) := by decide +kernel
theorem dX2_setLetters_109 : decode cX2_setLetters 109 = .ok (.aload_n 0, 1) := by decide +kernel
theorem dX2_setLetters_110 : decode cX2_setLetters 110 = .ok (.getfield 15, 3) := by decide +kernel
theorem dX2_setLetters_113 : decode cX2_setLetters 113 = .ok (.bipush 114, 2) := by decide +kernel
theorem dX2_setLetters_115 : decode cX2_setLetters 115 = .ok (.aload_n 0, 1) := by decide +kernel
theorem dX2_setLetters_116 : decode cX2_setLetters 116 = .ok (.getfield 9, 3) := by decide +kernel
theorem dX2_setLetters_119 : decode cX2_setLetters 119 = .ok (.getfield 227, 3) := by decide +kernel
theorem dX2_setLetters_122 : decode cX2_setLetters 122 = .ok (.iload 4, 2) := by decide +kernel
theorem dX2_setLetters_124 : decode cX2_setLetters 124 = .ok (.isub, 1) := by decide +kernel
theorem dX2_setLetters_125 : decode cX2_setLetters 125 = .ok (.iconst 1, 1) := by decide +kernel
theorem dX2_setLetters_126 : decode cX2_setLetters 126 = .ok (.isub, 1) := by decide +kernel
theorem dX2_setLetters_127 : decode cX2_setLetters 127 = .ok (.invokevirtual 271, 3) := by decide +kernel
theorem dX2_setLetters_130 : decode cX2_setLetters 130 = .ok (.aload_n 0, 1) := by decide +kernel
theorem dX2_setLetters_131 : decode cX2_setLetters 131 = .ok (.getfield 15, 3) := by decide +kernel
theorem dX2_setLetters_134 : decode cX2_setLetters 134 = .ok (.bipush 112, 2) := by decide +kernel
theorem dX2_setLetters_136 : decode cX2_setLetters 136 = .ok (.iload 7, 2) := by decide +kernel
theorem dX2_setLetters_138 : decode cX2_setLetters 138 = .ok (.iconst 1, 1) := by decide +kernel
theorem dX2_setLetters_139 : decode cX2_setLetters 139 = .ok (.iadd, 1) := by decide +kernel
theorem dX2_setLetters_140 : decode cX2_setLetters 140 = .ok (.invokevirtual 271, 3) := by decide +kernel
theorem dX2_setLetters_143 : decode cX2_setLetters 143 = .ok (.aload_n 0, 1) := by decide +kernel
theorem dX2_setLetters_144 : decode cX2_setLetters 144 = .ok (.getfield 15, 3) := by decide +kernel
theorem dX2_setLetters_147 : decode cX2_setLetters 147 = .ok (.bipush 97, 2) := by decide +kernel
theorem dX2_setLetters_149 : decode cX2_setLetters 149 = .ok (.iload 7, 2) := by decide +kernel
theorem dX2_setLetters_151 : decode cX2_setLetters 151 = .ok (.ifCond .ne 9, 3) := by decide +kernel
theorem dX2_setLetters_154 : decode cX2_setLetters 154 = .ok (.sipush 999, 3) := by decide +kernel
theorem dX2_setLetters_157 : decode cX2_setLetters 157 = .ok (.goto 11, 3) := by decide +kernel
theorem dX2_setLetters_160 : decode cX2_setLetters 160 = .ok (.iload 5, 2) := by decide +kernel
theorem dX2_setLetters_162 : decode cX2_setLetters 162 = .ok (.iload 8, 2) := by decide +kernel
theorem dX2_setLetters_164 : decode cX2_setLetters 164 = .ok (.isub, 1) := by decide +kernel
theorem dX2_setLetters_165 : decode cX2_setLetters 165 = .ok (.bipush 100, 2) := by decide +kernel
theorem dX2_setLetters_167 : decode cX2_setLetters 167 = .ok (.idiv, 1) := by decide +kernel
theorem dX2_setLetters_168 : decode cX2_setLetters 168 = .ok (.invokevirtual 271, 3) := by decide +kernel
theorem dX2_setLetters_171 : decode cX2_setLetters 171 = .ok (.aload_n 0, 1) := by decide +kernel
theorem dX2_setLetters_172 : decode cX2_setLetters 172 = .ok (.getfield 15, 3) := by decide +kernel
theorem dX2_setLetters_175 : decode cX2_setLetters 175 = .ok (.bipush 102, 2) := by decide +kernel
theorem dX2_setLetters_177 : decode cX2_setLetters 177 = .ok (.aload_n 3, 1) := by decide +kernel
theorem dX2_setLetters_178 : decode cX2_setLetters 178 = .ok (.getfield 131, 3) := by decide +kernel
theorem dX2_setLetters_181 : decode cX2_setLetters 181 = .ok (.invokevirtual 271, 3) := by decide +kernel
theorem dX2_setLetters_184 : decode cX2_setLetters 184 = .ok (.aload_n 0, 1) := by decide +kernel
theorem dX2_setLetters_185 : decode cX2_setLetters 185 = .ok (.getfield 15, 3) := by decide +kernel
theorem dX2_setLetters_188 : decode cX2_setLetters 188 = .ok (.bipush 110, 2) := by decide +kernel
theorem dX2_setLetters_190 : decode cX2_setLetters 190 = .ok (.aload_n 2, 1) := by decide +kernel
theorem dX2_setLetters_191 : decode cX2_setLetters 191 = .ok (.getfield 125, 3) := by decide +kernel
theorem dX2_setLetters_194 : decode cX2_setLetters 194 = .ok (.aload_n 0, 1) := by decide +kernel
theorem dX2_setLetters_195 : decode cX2_setLetters 195 = .ok (.getfield 9, 3) := by decide +kernel
theorem dX2_setLetters_198 : decode cX2_setLetters 198 = .ok (.getfield 227, 3) := by decide +kernel
theorem dX2_setLetters_201 : decode cX2_setLetters 201 = .ok (.aload_n 0, 1) := by decide +kernel
theorem dX2_setLetters_202 : decode cX2_setLetters 202 = .ok (.getfield 9, 3) := by decide +kernel
theorem dX2_setLetters_205 : decode cX2_setLetters 205 = .ok (.getfield 159, 3) := by decide +kernel
theorem dX2_setLetters_208 : decode cX2_setLetters 208 = .ok (.imul, 1) := by decide +kernel
theorem dX2_setLetters_209 : decode cX2_setLetters 209 = .ok (.aload_n 3, 1) := by decide +kernel
theorem dX2_setLetters_210 : decode cX2_setLetters 210 = .ok (.getfield 275, 3) := by decide +kernel
theorem dX2_setLetters_213 : decode cX2_setLetters 213 = .ok (.isub, 1) := by decide +kernel
theorem dX2_setLetters_214 : decode cX2_setLetters 214 = .ok (.imul, 1) := by decide +kernel
theorem dX2_setLetters_215 : decode cX2_setLetters 215 = .ok (.invokevirtual 271, 3) := by decide +kernel
theorem dX2_setLetters_218 : decode cX2_setLetters 218 = .ok (.aload_n 0, 1) := by decide +kernel
theorem dX2_setLetters_219 : decode cX2_setLetters 219 = .ok (.getfield 15, 3) := by decide +kernel
theorem dX2_setLetters_222 : decode cX2_setLetters 222 = .ok (.bipush 111, 2) := by decide +kernel
theorem dX2_setLetters_224 : decode cX2_setLetters 224 = .ok (.aload_n 3, 1) := by decide +kernel
theorem dX2_setLetters_225 : decode cX2_setLetters 225 = .ok (.invokevirtual 178, 3) := by decide +kernel
theorem dX2_setLetters_228 : decode cX2_setLetters 228 = .ok (.invokevirtual 271, 3) := by decide +kernel
theorem dX2_setLetters_231 : decode cX2_setLetters 231 = .ok (.aload_n 0, 1) := by decide +kernel
theorem dX2_setLetters_232 : decode cX2_setLetters 232 = .ok (.getfield 15, 3) := by decide +kernel
theorem dX2_setLetters_235 : decode cX2_setLetters 235 = .ok (.bipush 107, 2) := by decide +kernel
theorem dX2_setLetters_237 : decode cX2_setLetters 237 = .ok (.aload_n 2, 1) := by decide +kernel
theorem dX2_setLetters_238 : decode cX2_setLetters 238 = .ok (.getfield 115, 3) := by decide +kernel
theorem dX2_setLetters_241 : decode cX2_setLetters 241 = .ok (.aload_n 3, 1) := by decide +kernel
theorem dX2_setLetters_242 : decode cX2_setLetters 242 = .ok (.getfield 118, 3) := by decide +kernel
theorem dX2_setLetters_245 : decode cX2_setLetters 245 = .ok (.iconst 0, 1) := by decide +kernel
theorem dX2_setLetters_246 : decode cX2_setLetters 246 = .ok (.invokevirtual 121, 3) := by decide +kernel
theorem dX2_setLetters_249 : decode cX2_setLetters 249 = .ok (.invokevirtual 271, 3) := by decide +kernel
theorem dX2_setLetters_252 : decode cX2_setLetters 252 = .ok (.aload_n 0, 1) := by decide +kernel
theorem dX2_setLetters_253 : decode cX2_setLetters 253 = .ok (.getfield 15, 3) := by decide +kernel
theorem dX2_setLetters_256 : decode cX2_setLetters 256 = .ok (.bipush 119, 2) := by decide +kernel
theorem dX2_setLetters_258 : decode cX2_setLetters 258 = .ok (.aload_n 0, 1) := by decide +kernel
theorem dX2_setLetters_259 : decode cX2_setLetters 259 = .ok (.getfield 9, 3) := by decide +kernel
theorem dX2_setLetters_262 : decode cX2_setLetters 262 = .ok (.iconst 0, 1) := by decide +kernel
theorem dX2_setLetters_263 : decode cX2_setLetters 263 = .ok (.iload 5, 2) := by decide +kernel
theorem dX2_setLetters_265 : decode cX2_setLetters 265 = .ok (.invokevirtual 181, 3) := by decide +kernel
theorem dX2_setLetters_268 : decode cX2_setLetters 268 = .ok (.invokevirtual 271, 3) := by decide +kernel
theorem dX2_setLetters_271 : decode cX2_setLetters 271 = .ok (.aload_n 0, 1) := by decide +kernel
theorem dX2_setLetters_272 : decode cX2_setLetters 272 = .ok (.getfield 15, 3) := by decide +kernel
theorem dX2_setLetters_275 : decode cX2_setLetters 275 = .ok (.bipush 118, 2) := by decide +kernel
theorem dX2_setLetters_277 : decode cX2_setLetters 277 = .ok (.aload_n 0, 1) := by decide +kernel
theorem dX2_setLetters_278 : decode cX2_setLetters 278 = .ok (.getfield 9, 3) := by decide +kernel
theorem dX2_setLetters_281 : decode cX2_setLetters 281 = .ok (.iload 5, 2) := by decide +kernel
theorem dX2_setLetters_283 : decode cX2_setLetters 283 = .ok (.invokevirtual 138, 3) := by decide +kernel
theorem dX2_setLetters_286 : decode cX2_setLetters 286 = .ok (.ifCond .eq 7, 3) := by decide +kernel
theorem dX2_setLetters_289 : decode cX2_setLetters 289 = .ok (.iconst 1, 1) := by decide +kernel
theorem dX2_setLetters_290 : decode cX2_setLetters 290 = .ok (.goto 4, 3) := by decide +kernel
theorem dX2_setLetters_293 : decode cX2_setLetters 293 = .ok (.iconst 0, 1) := by decide +kernel
theorem dX2_setLetters_294 : decode cX2_setLetters 294 = .ok (.invokevirtual 271, 3) := by decide +kernel
theorem dX2_setLetters_297 : decode cX2_setLetters 297 = .ok (.aload_n 0, 1) := by decide +kernel
theorem dX2_setLetters_298 : decode cX2_setLetters 298 = .ok (.getfield 15, 3) := by decide +kernel
theorem dX2_setLetters_301 : decode cX2_setLetters 301 = .ok (.bipush 121, 2) := by decide +kernel
theorem dX2_setLetters_303 : decode cX2_setLetters 303 = .ok (.aload_n 0, 1) := by decide +kernel
theorem dX2_setLetters_304 : decode cX2_setLetters 304 = .ok (.getfield 9, 3) := by decide +kernel
theorem dX2_setLetters_307 : decode cX2_setLetters 307 = .ok (.iconst (-1), 1) := by decide +kernel
theorem dX2_setLetters_308 : decode cX2_setLetters 308 = .ok (.iload 5, 2) := by decide +kernel
theorem dX2_setLetters_310 : decode cX2_setLetters 310 = .ok (.invokevirtual 218, 3) := by decide +kernel
theorem dX2_setLetters_313 : decode cX2_setLetters 313 = .ok (.ifCond .eq 7, 3) := by decide +kernel
theorem dX2_setLetters_316 : decode cX2_setLetters 316 = .ok (.iconst 1, 1) := by decide +kernel
theorem dX2_setLetters_317 : decode cX2_setLetters 317 = .ok (.goto 4, 3) := by decide +kernel
theorem dX2_setLetters_320 : decode cX2_setLetters 320 = .ok (.iconst 0, 1) := by decide +kernel
theorem dX2_setLetters_321 : decode cX2_setLetters 321 = .ok (.invokevirtual 271, 3) := by decide +kernel
theorem dX2_setLetters_324 : decode cX2_setLetters 324 = .ok (.aload_n 0, 1) := by decide +kernel
theorem dX2_setLetters_325 : decode cX2_setLetters 325 = .ok (.getfield 15, 3) := by decide +kernel
theorem dX2_setLetters_328 : decode cX2_setLetters 328 = .ok (.bipush 116, 2) := by decide +kernel
theorem dX2_setLetters_330 : decode cX2_setLetters 330 = .ok (.aload_n 3, 1) := by decide +kernel
theorem dX2_setLetters_331 : decode cX2_setLetters 331 = .ok (.getfield 278, 3) := by decide +kernel
theorem dX2_setLetters_334 : decode cX2_setLetters 334 = .ok (.invokevirtual 271, 3) := by decide +kernel
theorem dX2_setLetters_337 : decode cX2_setLetters 337 = .ok (.aload_n 0, 1) := by decide +kernel
theorem dX2_setLetters_338 : decode cX2_setLetters 338 = .ok (.getfield 15, 3) := by decide +kernel
theorem dX2_setLetters_341 : decode cX2_setLetters 341 = .ok (.bipush 104, 2) := by decide +kernel
theorem dX2_setLetters_343 : decode cX2_setLetters 343 = .ok (.aload_n 0, 1) := by decide +kernel
theorem dX2_setLetters_344 : decode cX2_setLetters 344 = .ok (.aload_n 2, 1) := by decide +kernel
theorem dX2_setLetters_345 : decode cX2_setLetters 345 = .ok (.getfield 281, 3) := by decide +kernel
theorem dX2_setLetters_348 : decode cX2_setLetters 348 = .ok (.invokevirtual 284, 3) := by decide +kernel
theorem dX2_setLetters_351 : decode cX2_setLetters 351 = .ok (.iload 5, 2) := by decide +kernel
theorem dX2_setLetters_353 : decode cX2_setLetters 353 = .ok (.aload_n 0, 1) := by decide +kernel
theorem dX2_setLetters_354 : decode cX2_setLetters 354 = .ok (.getfield 9, 3) := by decide +kernel
theorem dX2_setLetters_357 : decode cX2_setLetters 357 = .ok (.getfield 70, 3) := by decide +kernel
theorem dX2_setLetters_360 : decode cX2_setLetters 360 = .ok (.iconst 3, 1) := by decide +kernel
theorem dX2_setLetters_361 : decode cX2_setLetters 361 = .ok (.iaload, 1) := by decide +kernel
theorem dX2_setLetters_362 : decode cX2_setLetters 362 = .ok (.iadd, 1) := by decide +kernel
theorem dX2_setLetters_363 : decode cX2_setLetters 363 = .ok (.if_icmp .gt 7, 3) := by decide +kernel
theorem dX2_setLetters_366 : decode cX2_setLetters 366 = .ok (.iconst 1, 1) := by decide +kernel
theorem dX2_setLetters_367 : decode cX2_setLetters 367 = .ok (.goto 4, 3) := by decide +kernel
theorem dX2_setLetters_370 : decode cX2_setLetters 370 = .ok (.iconst 0, 1) := by decide +kernel
theorem dX2_setLetters_371 : decode cX2_setLetters 371 = .ok (.invokevirtual 271, 3) := by decide +kernel
theorem dX2_setLetters_374 : decode cX2_setLetters 374 = .ok (.return_, 1) := by decide +kernel
theorem dX2_follow_0 : decode cX2_follow 0 = .ok (.iload_n 1, 1) := by decide +kernel
theorem dX2_follow_1 : decode cX2_follow 1 = .ok (.bipush 21, 2) := by decide +kernel
theorem dX2_follow_3 : decode cX2_follow 3 = .ok (.invokestatic 41, 3) := by decide +kernel
theorem dX2_follow_6 : decode cX2_follow 6 = .ok (.ifCond .eq 12, 3) := by decide +kernel
theorem dX2_follow_9 : decode cX2_follow 9 = .ok (.iload_n 3, 1) := by decide +kernel
theorem dX2_follow_10 : decode cX2_follow 10 = .ok (.bipush 12, 2) := by decide +kernel
theorem dX2_follow_12 : decode cX2_follow 12 = .ok (.invokestatic 41, 3) := by decide +kernel
theorem dX2_follow_15 : decode cX2_follow 15 = .ok (.ifCond .ne 5, 3) := by decide +kernel
theorem dX2_follow_18 : decode cX2_follow 18 = .ok (.iconst (-1), 1) := by decide +kernel
theorem dX2_follow_19 : decode cX2_follow 19 = .ok (.ireturn, 1) := by decide +kernel
theorem dX2_follow_20 : decode cX2_follow 20 = .ok (.aload_n 2, 1) := by decide +kernel
theorem dX2_follow_21 : decode cX2_follow 21 = .ok (.getfield 287, 3) := by decide +kernel
theorem dX2_follow_24 : decode cX2_follow 24 = .ok (.iload_n 3, 1) := by decide +kernel
theorem dX2_follow_25 : decode cX2_follow 25 = .ok (.iload_n 1, 1) := by decide +kernel
theorem dX2_follow_26 : decode cX2_follow 26 = .ok (.iastore, 1) := by decide +kernel
theorem dX2_follow_27 : decode cX2_follow 27 = .ok (.aload_n 0, 1) := by decide +kernel
theorem dX2_follow_28 : decode cX2_follow 28 = .ok (.getfield 290, 3) := by decide +kernel
theorem dX2_follow_31 : decode cX2_follow 31 = .ok (.iload_n 1, 1) := by decide +kernel
theorem dX2_follow_32 : decode cX2_follow 32 = .ok (.iaload, 1) := by decide +kernel
theorem dX2_follow_33 : decode cX2_follow 33 = .ok (.bipush 9, 2) := by decide +kernel
theorem dX2_follow_35 : decode cX2_follow 35 = .ok (.if_icmp .eq 13, 3) := by decide +kernel
theorem dX2_follow_38 : decode cX2_follow 38 = .ok (.aload_n 2, 1) := by decide +kernel
theorem dX2_follow_39 : decode cX2_follow 39 = .ok (.aload_n 0, 1) := by decide +kernel
theorem dX2_follow_40 : decode cX2_follow 40 = .ok (.getfield 290, 3) := by decide +kernel
theorem dX2_follow_43 : decode cX2_follow 43 = .ok (.iload_n 1, 1) := by decide +kernel
theorem dX2_follow_44 : decode cX2_follow 44 = .ok (.iaload, 1) := by decide +kernel
theorem dX2_follow_45 : decode cX2_follow 45 = .ok (.putfield 128, 3) := by decide +kernel
theorem dX2_follow_48 : decode cX2_follow 48 = .ok (.aload_n 0, 1) := by decide +kernel
theorem dX2_follow_49 : decode cX2_follow 49 = .ok (.getfield 294, 3) := by decide +kernel
theorem dX2_follow_52 : decode cX2_follow 52 = .ok (.iload_n 1, 1) := by decide +kernel
theorem dX2_follow_53 : decode cX2_follow 53 = .ok (.iaload, 1) := by decide +kernel
theorem dX2_follow_54 : decode cX2_follow 54 = .ok (.bipush 9, 2) := by decide +kernel
theorem dX2_follow_56 : decode cX2_follow 56 = .ok (.if_icmp .eq 13, 3) := by decide +kernel
theorem dX2_follow_59 : decode cX2_follow 59 = .ok (.aload_n 2, 1) := by decide +kernel
theorem dX2_follow_60 : decode cX2_follow 60 = .ok (.aload_n 0, 1) := by decide +kernel
theorem dX2_follow_61 : decode cX2_follow 61 = .ok (.getfield 294, 3) := by decide +kernel
theorem dX2_follow_64 : decode cX2_follow 64 = .ok (.iload_n 1, 1) := by decide +kernel
theorem dX2_follow_65 : decode cX2_follow 65 = .ok (.iaload, 1) := by decide +kernel
theorem dX2_follow_66 : decode cX2_follow 66 = .ok (.putfield 172, 3) := by decide +kernel
theorem dX2_follow_69 : decode cX2_follow 69 = .ok (.aload_n 0, 1) := by decide +kernel
theorem dX2_follow_70 : decode cX2_follow 70 = .ok (.getfield 296, 3) := by decide +kernel
theorem dX2_follow_73 : decode cX2_follow 73 = .ok (.iload_n 1, 1) := by decide +kernel
theorem dX2_follow_74 : decode cX2_follow 74 = .ok (.iaload, 1) := by decide +kernel
theorem dX2_follow_75 : decode cX2_follow 75 = .ok (.ireturn, 1) := by decide +kernel
theorem dX2_freeFrom_0 : decode cX2_freeFrom 0 = .ok (.iload_n 1, 1) := by decide +kernel
theorem dX2_freeFrom_1 : decode cX2_freeFrom 1 = .ok (.iconst 4, 1) := by decide +kernel
theorem dX2_freeFrom_2 : decode cX2_freeFrom 2 = .ok (.invokestatic 41, 3) := by decide +kernel
theorem dX2_freeFrom_5 : decode cX2_freeFrom 5 = .ok (.ifCond .eq 12, 3) := by decide +kernel
theorem dX2_freeFrom_8 : decode cX2_freeFrom 8 = .ok (.aload_n 0, 1) := by decide +kernel
theorem dX2_freeFrom_9 : decode cX2_freeFrom 9 = .ok (.getfield 31, 3) := by decide +kernel
theorem dX2_freeFrom_12 : decode cX2_freeFrom 12 = .ok (.iload_n 1, 1) := by decide +kernel
theorem dX2_freeFrom_13 : decode cX2_freeFrom 13 = .ok (.iaload, 1) := by decide +kernel
theorem dX2_freeFrom_14 : decode cX2_freeFrom 14 = .ok (.goto 4, 3) := by decide +kernel
theorem dX2_freeFrom_17 : decode cX2_freeFrom 17 = .ok (.iconst 0, 1) := by decide +kernel
theorem dX2_freeFrom_18 : decode cX2_freeFrom 18 = .ok (.ireturn, 1) := by decide +kernel
theorem dX2_atBox_0 : decode cX2_atBox 0 = .ok (.iload_n 3, 1) := by decide +kernel
theorem dX2_atBox_1 : decode cX2_atBox 1 = .ok (.aload_n 0, 1) := by decide +kernel
theorem dX2_atBox_2 : decode cX2_atBox 2 = .ok (.getfield 9, 3) := by decide +kernel
theorem dX2_atBox_5 : decode cX2_atBox 5 = .ok (.getfield 70, 3) := by decide +kernel
theorem dX2_atBox_8 : decode cX2_atBox 8 = .ok (.iconst 3, 1) := by decide +kernel
theorem dX2_atBox_9 : decode cX2_atBox 9 = .ok (.iaload, 1) := by decide +kernel
theorem dX2_atBox_10 : decode cX2_atBox 10 = .ok (.iadd, 1) := by decide +kernel
theorem dX2_atBox_11 : decode cX2_atBox 11 = .ok (.istore 6, 2) := by decide +kernel
theorem dX2_atBox_13 : decode cX2_atBox 13 = .ok (.iload 6, 2) := by decide +kernel
theorem dX2_atBox_15 : decode cX2_atBox 15 = .ok (.aload_n 0, 1) := by decide +kernel
theorem dX2_atBox_16 : decode cX2_atBox 16 = .ok (.aload_n 1, 1) := by decide +kernel
theorem dX2_atBox_17 : decode cX2_atBox 17 = .ok (.getfield 281, 3) := by decide +kernel
theorem dX2_atBox_20 : decode cX2_atBox 20 = .ok (.invokevirtual 284, 3) := by decide +kernel
theorem dX2_atBox_23 : decode cX2_atBox 23 = .ok (.invokestatic 195, 3) := by decide +kernel
theorem dX2_atBox_26 : decode cX2_atBox 26 = .ok (.istore 7, 2) := by decide +kernel
theorem dX2_atBox_28 : decode cX2_atBox 28 = .ok (.iconst 0, 1) := by decide +kernel
theorem dX2_atBox_29 : decode cX2_atBox 29 = .ok (.istore 8, 2) := by decide +kernel
theorem dX2_atBox_31 : decode cX2_atBox 31 = .ok (.iload 4, 2) := by decide +kernel
theorem dX2_atBox_33 : decode cX2_atBox 33 = .ok (.aload_n 1, 1) := by decide +kernel
theorem dX2_atBox_34 : decode cX2_atBox 34 = .ok (.getfield 115, 3) := by decide +kernel
theorem dX2_atBox_37 : decode cX2_atBox 37 = .ok (.getfield 49, 3) := by decide +kernel
theorem dX2_atBox_40 : decode cX2_atBox 40 = .ok (.invokestatic 41, 3) := by decide +kernel
theorem dX2_atBox_43 : decode cX2_atBox 43 = .ok (.ifCond .eq 32, 3) := by decide +kernel
theorem dX2_atBox_46 : decode cX2_atBox 46 = .ok (.iload 4, 2) := by decide +kernel
theorem dX2_atBox_48 : decode cX2_atBox 48 = .ok (.aload_n 2, 1) := by decide +kernel
theorem dX2_atBox_49 : decode cX2_atBox 49 = .ok (.getfield 118, 3) := by decide +kernel
theorem dX2_atBox_52 : decode cX2_atBox 52 = .ok (.if_icmp .eq 23, 3) := by decide +kernel
theorem dX2_atBox_55 : decode cX2_atBox 55 = .ok (.iload 8, 2) := by decide +kernel
theorem dX2_atBox_57 : decode cX2_atBox 57 = .ok (.aload_n 0, 1) := by decide +kernel
theorem dX2_atBox_58 : decode cX2_atBox 58 = .ok (.getfield 9, 3) := by decide +kernel
theorem dX2_atBox_61 : decode cX2_atBox 61 = .ok (.getfield 70, 3) := by decide +kernel
theorem dX2_atBox_64 : decode cX2_atBox 64 = .ok (.iconst 4, 1) := by decide +kernel
theorem dX2_atBox_65 : decode cX2_atBox 65 = .ok (.iaload, 1) := by decide +kernel
theorem dX2_atBox_66 : decode cX2_atBox 66 = .ok (.iadd, 1) := by decide +kernel
theorem dX2_atBox_67 : decode cX2_atBox 67 = .ok (.istore 8, 2) := by decide +kernel
theorem dX2_atBox_69 : decode cX2_atBox 69 = .ok (.aload_n 2, 1) := by decide +kernel
theorem dX2_atBox_70 : decode cX2_atBox 70 = .ok (.iload 4, 2) := by decide +kernel
theorem dX2_atBox_72 : decode cX2_atBox 72 = .ok (.putfield 118, 3) := by decide +kernel
theorem dX2_atBox_75 : decode cX2_atBox 75 = .ok (.iload 5, 2) := by decide +kernel
theorem dX2_atBox_77 : decode cX2_atBox 77 = .ok (.aload_n 1, 1) := by decide +kernel
theorem dX2_atBox_78 : decode cX2_atBox 78 = .ok (.getfield 299, 3) := by decide +kernel
theorem dX2_atBox_81 : decode cX2_atBox 81 = .ok (.aload_n 2, 1) := by decide +kernel
theorem dX2_atBox_82 : decode cX2_atBox 82 = .ok (.getfield 131, 3) := by decide +kernel
theorem dX2_atBox_85 : decode cX2_atBox 85 = .ok (.isub, 1) := by decide +kernel
theorem dX2_atBox_86 : decode cX2_atBox 86 = .ok (.invokestatic 302, 3) := by decide +kernel
theorem dX2_atBox_89 : decode cX2_atBox 89 = .ok (.istore 9, 2) := by decide +kernel
theorem dX2_atBox_91 : decode cX2_atBox 91 = .ok (.iload 8, 2) := by decide +kernel
theorem dX2_atBox_93 : decode cX2_atBox 93 = .ok (.aload_n 0, 1) := by decide +kernel
theorem dX2_atBox_94 : decode cX2_atBox 94 = .ok (.getfield 9, 3) := by decide +kernel
theorem dX2_atBox_97 : decode cX2_atBox 97 = .ok (.getfield 70, 3) := by decide +kernel
theorem dX2_atBox_100 : decode cX2_atBox 100 = .ok (.iconst 5, 1) := by decide +kernel
theorem dX2_atBox_101 : decode cX2_atBox 101 = .ok (.iaload, 1) := by decide +kernel
theorem dX2_atBox_102 : decode cX2_atBox 102 = .ok (.iload 9, 2) := by decide +kernel
theorem dX2_atBox_104 : decode cX2_atBox 104 = .ok (.imul, 1) := by decide +kernel
theorem dX2_atBox_105 : decode cX2_atBox 105 = .ok (.iadd, 1) := by decide +kernel
theorem dX2_atBox_106 : decode cX2_atBox 106 = .ok (.istore 8, 2) := by decide +kernel
theorem dX2_atBox_108 : decode cX2_atBox 108 = .ok (.aload_n 2, 1) := by decide +kernel
theorem dX2_atBox_109 : decode cX2_atBox 109 = .ok (.dup, 1) := by decide +kernel
theorem dX2_atBox_110 : decode cX2_atBox 110 = .ok (.getfield 131, 3) := by decide +kernel
theorem dX2_atBox_113 : decode cX2_atBox 113 = .ok (.iload 9, 2) := by decide +kernel
theorem dX2_atBox_115 : decode cX2_atBox 115 = .ok (.iadd, 1) := by decide +kernel
theorem dX2_atBox_116 : decode cX2_atBox 116 = .ok (.putfield 131, 3) := by decide +kernel
theorem dX2_atBox_119 : decode cX2_atBox 119 = .ok (.aload_n 2, 1) := by decide +kernel
theorem dX2_atBox_120 : decode cX2_atBox 120 = .ok (.dup, 1) := by decide +kernel
theorem dX2_atBox_121 : decode cX2_atBox 121 = .ok (.getfield 305, 3) := by decide +kernel
theorem dX2_atBox_124 : decode cX2_atBox 124 = .ok (.iload 7, 2) := by decide +kernel
theorem dX2_atBox_126 : decode cX2_atBox 126 = .ok (.iload 6, 2) := by decide +kernel
theorem dX2_atBox_128 : decode cX2_atBox 128 = .ok (.isub, 1) := by decide +kernel
theorem dX2_atBox_129 : decode cX2_atBox 129 = .ok (.iadd, 1) := by decide +kernel
theorem dX2_atBox_130 : decode cX2_atBox 130 = .ok (.putfield 305, 3) := by decide +kernel
theorem dX2_atBox_133 : decode cX2_atBox 133 = .ok (.aload_n 2, 1) := by decide +kernel
theorem dX2_atBox_134 : decode cX2_atBox 134 = .ok (.dup, 1) := by decide +kernel
theorem dX2_atBox_135 : decode cX2_atBox 135 = .ok (.getfield 278, 3) := by decide +kernel
theorem dX2_atBox_138 : decode cX2_atBox 138 = .ok (.iconst 1, 1) := by decide +kernel
theorem dX2_atBox_139 : decode cX2_atBox 139 = .ok (.iadd, 1) := by decide +kernel
theorem dX2_atBox_140 : decode cX2_atBox 140 = .ok (.putfield 278, 3) := by decide +kernel
theorem dX2_atBox_143 : decode cX2_atBox 143 = .ok (.aload_n 2, 1) := by decide +kernel
theorem dX2_atBox_144 : decode cX2_atBox 144 = .ok (.iload 7, 2) := by decide +kernel
theorem dX2_atBox_146 : decode cX2_atBox 146 = .ok (.iload 8, 2) := by decide +kernel
theorem dX2_atBox_148 : decode cX2_atBox 148 = .ok (.iadd, 1) := by decide +kernel
theorem dX2_atBox_149 : decode cX2_atBox 149 = .ok (.putfield 98, 3) := by decide +kernel
theorem dX2_atBox_152 : decode cX2_atBox 152 = .ok (.aload_n 1, 1) := by decide +kernel
theorem dX2_atBox_153 : decode cX2_atBox 153 = .ok (.getfield 281, 3) := by decide +kernel
theorem dX2_atBox_156 : decode cX2_atBox 156 = .ok (.iconst 4, 1) := by decide +kernel
theorem dX2_atBox_157 : decode cX2_atBox 157 = .ok (.invokestatic 41, 3) := by decide +kernel
theorem dX2_atBox_160 : decode cX2_atBox 160 = .ok (.ifCond .eq 17, 3) := by decide +kernel
theorem dX2_atBox_163 : decode cX2_atBox 163 = .ok (.aload_n 0, 1) := by decide +kernel
theorem dX2_atBox_164 : decode cX2_atBox 164 = .ok (.getfield 31, 3) := by decide +kernel
theorem dX2_atBox_167 : decode cX2_atBox 167 = .ok (.aload_n 1, 1) := by decide +kernel
theorem dX2_atBox_168 : decode cX2_atBox 168 = .ok (.getfield 281, 3) := by decide +kernel
theorem dX2_atBox_171 : decode cX2_atBox 171 = .ok (.iload 7, 2) := by decide +kernel
theorem dX2_atBox_173 : decode cX2_atBox 173 = .ok (.iload 8, 2) := by decide +kernel
theorem dX2_atBox_175 : decode cX2_atBox 175 = .ok (.iadd, 1) := by decide +kernel
theorem dX2_atBox_176 : decode cX2_atBox 176 = .ok (.iastore, 1) := by decide +kernel
theorem dX2_atBox_177 : decode cX2_atBox 177 = .ok (.return_, 1) := by decide +kernel
theorem dX2_lapsEnded_0 : decode cX2_lapsEnded 0 = .ok (.aload_n 0, 1) := by decide +kernel
theorem dX2_lapsEnded_1 : decode cX2_lapsEnded 1 = .ok (.iload_n 1, 1) := by decide +kernel
theorem dX2_lapsEnded_2 : decode cX2_lapsEnded 2 = .ok (.invokevirtual 83, 3) := by decide +kernel
theorem dX2_lapsEnded_5 : decode cX2_lapsEnded 5 = .ok (.ifCond .eq 22, 3) := by decide +kernel
theorem dX2_lapsEnded_8 : decode cX2_lapsEnded 8 = .ok (.aload_n 0, 1) := by decide +kernel
theorem dX2_lapsEnded_9 : decode cX2_lapsEnded 9 = .ok (.getfield 9, 3) := by decide +kernel
theorem dX2_lapsEnded_12 : decode cX2_lapsEnded 12 = .ok (.aload_n 0, 1) := by decide +kernel
theorem dX2_lapsEnded_13 : decode cX2_lapsEnded 13 = .ok (.getfield 27, 3) := by decide +kernel
theorem dX2_lapsEnded_16 : decode cX2_lapsEnded 16 = .ok (.iload_n 1, 1) := by decide +kernel
theorem dX2_lapsEnded_17 : decode cX2_lapsEnded 17 = .ok (.aaload, 1) := by decide +kernel
theorem dX2_lapsEnded_18 : decode cX2_lapsEnded 18 = .ok (.getfield 275, 3) := by decide +kernel
theorem dX2_lapsEnded_21 : decode cX2_lapsEnded 21 = .ok (.invokevirtual 162, 3) := by decide +kernel
theorem dX2_lapsEnded_24 : decode cX2_lapsEnded 24 = .ok (.goto 4, 3) := by decide +kernel
theorem dX2_lapsEnded_27 : decode cX2_lapsEnded 27 = .ok (.iconst 0, 1) := by decide +kernel
theorem dX2_lapsEnded_28 : decode cX2_lapsEnded 28 = .ok (.ireturn, 1) := by decide +kernel
theorem dX2_inOrder_0 : decode cX2_inOrder 0 = .ok (.iconst 0, 1) := by decide +kernel
theorem dX2_inOrder_1 : decode cX2_inOrder 1 = .ok (.istore_n 3, 1) := by decide +kernel
theorem dX2_inOrder_2 : decode cX2_inOrder 2 = .ok (.iload_n 3, 1) := by decide +kernel
theorem dX2_inOrder_3 : decode cX2_inOrder 3 = .ok (.aload_n 0, 1) := by decide +kernel
theorem dX2_inOrder_4 : decode cX2_inOrder 4 = .ok (.getfield 37, 3) := by decide +kernel
theorem dX2_inOrder_7 : decode cX2_inOrder 7 = .ok (.if_icmp .ge 47, 3) := by decide +kernel
theorem dX2_inOrder_10 : decode cX2_inOrder 10 = .ok (.iload_n 3, 1) := by decide +kernel
theorem dX2_inOrder_11 : decode cX2_inOrder 11 = .ok (.bipush 6, 2) := by decide +kernel
theorem dX2_inOrder_13 : decode cX2_inOrder 13 = .ok (.if_icmp .ge 41, 3) := by decide +kernel
theorem dX2_inOrder_16 : decode cX2_inOrder 16 = .ok (.aload_n 0, 1) := by decide +kernel
theorem dX2_inOrder_17 : decode cX2_inOrder 17 = .ok (.getfield 27, 3) := by decide +kernel
theorem dX2_inOrder_20 : decode cX2_inOrder 20 = .ok (.iload_n 3, 1) := by decide +kernel
theorem dX2_inOrder_21 : decode cX2_inOrder 21 = .ok (.aaload, 1) := by decide +kernel
theorem dX2_inOrder_22 : decode cX2_inOrder 22 = .ok (.iload_n 1, 1) := by decide +kernel
theorem dX2_inOrder_23 : decode cX2_inOrder 23 = .ok (.invokevirtual 268, 3) := by decide +kernel
theorem dX2_inOrder_26 : decode cX2_inOrder 26 = .ok (.istore 4, 2) := by decide +kernel
theorem dX2_inOrder_28 : decode cX2_inOrder 28 = .ok (.iload 4, 2) := by decide +kernel
theorem dX2_inOrder_30 : decode cX2_inOrder 30 = .ok (.iconst (-1), 1) := by decide +kernel
theorem dX2_inOrder_31 : decode cX2_inOrder 31 = .ok (.if_icmp .eq 17, 3) := by decide +kernel
theorem dX2_inOrder_34 : decode cX2_inOrder 34 = .ok (.aload_n 0, 1) := by decide +kernel
theorem dX2_inOrder_35 : decode cX2_inOrder 35 = .ok (.iload_n 1, 1) := by decide +kernel
theorem dX2_inOrder_36 : decode cX2_inOrder 36 = .ok (.iload_n 3, 1) := by decide +kernel
theorem dX2_inOrder_37 : decode cX2_inOrder 37 = .ok (.iload 4, 2) := by decide +kernel
theorem dX2_inOrder_39 : decode cX2_inOrder 39 = .ok (.invokevirtual 308, 3) := by decide +kernel
theorem dX2_inOrder_42 : decode cX2_inOrder 42 = .ok (.iload_n 2, 1) := by decide +kernel
theorem dX2_inOrder_43 : decode cX2_inOrder 43 = .ok (.if_icmp .ne 5, 3) := by decide +kernel
theorem dX2_inOrder_46 : decode cX2_inOrder 46 = .ok (.iload_n 3, 1) := by decide +kernel
theorem dX2_inOrder_47 : decode cX2_inOrder 47 = .ok (.ireturn, 1) := by decide +kernel
theorem dX2_inOrder_48 : decode cX2_inOrder 48 = .ok (.iinc 3 1, 3) := by decide +kernel
theorem dX2_inOrder_51 : decode cX2_inOrder 51 = .ok (.goto (-49), 3) := by decide +kernel
theorem dX2_inOrder_54 : decode cX2_inOrder 54 = .ok (.iconst (-1), 1) := by decide +kernel
theorem dX2_inOrder_55 : decode cX2_inOrder 55 = .ok (.ireturn, 1) := by decide +kernel
theorem dX2_aheadAt_0 : decode cX2_aheadAt 0 = .ok (.iconst 0, 1) := by decide +kernel
theorem dX2_aheadAt_1 : decode cX2_aheadAt 1 = .ok (.istore 4, 2) := by decide +kernel
theorem dX2_aheadAt_3 : decode cX2_aheadAt 3 = .ok (.iconst 0, 1) := by decide +kernel
theorem dX2_aheadAt_4 : decode cX2_aheadAt 4 = .ok (.istore 5, 2) := by decide +kernel
theorem dX2_aheadAt_6 : decode cX2_aheadAt 6 = .ok (.iload 5, 2) := by decide +kernel
theorem dX2_aheadAt_8 : decode cX2_aheadAt 8 = .ok (.aload_n 0, 1) := by decide +kernel
theorem dX2_aheadAt_9 : decode cX2_aheadAt 9 = .ok (.getfield 37, 3) := by decide +kernel
theorem dX2_aheadAt_12 : decode cX2_aheadAt 12 = .ok (.if_icmp .ge 56, 3) := by decide +kernel
theorem dX2_aheadAt_15 : decode cX2_aheadAt 15 = .ok (.iload 5, 2) := by decide +kernel
theorem dX2_aheadAt_17 : decode cX2_aheadAt 17 = .ok (.bipush 6, 2) := by decide +kernel
theorem dX2_aheadAt_19 : decode cX2_aheadAt 19 = .ok (.if_icmp .ge 49, 3) := by decide +kernel
theorem dX2_aheadAt_22 : decode cX2_aheadAt 22 = .ok (.aload_n 0, 1) := by decide +kernel
theorem dX2_aheadAt_23 : decode cX2_aheadAt 23 = .ok (.getfield 27, 3) := by decide +kernel
theorem dX2_aheadAt_26 : decode cX2_aheadAt 26 = .ok (.iload 5, 2) := by decide +kernel
theorem dX2_aheadAt_28 : decode cX2_aheadAt 28 = .ok (.aaload, 1) := by decide +kernel
theorem dX2_aheadAt_29 : decode cX2_aheadAt 29 = .ok (.iload_n 1, 1) := by decide +kernel
theorem dX2_aheadAt_30 : decode cX2_aheadAt 30 = .ok (.invokevirtual 268, 3) := by decide +kernel
theorem dX2_aheadAt_33 : decode cX2_aheadAt 33 = .ok (.istore 6, 2) := by decide +kernel
theorem dX2_aheadAt_35 : decode cX2_aheadAt 35 = .ok (.iload 6, 2) := by decide +kernel
theorem dX2_aheadAt_37 : decode cX2_aheadAt 37 = .ok (.iconst (-1), 1) := by decide +kernel
theorem dX2_aheadAt_38 : decode cX2_aheadAt 38 = .ok (.if_icmp .eq 24, 3) := by decide +kernel
theorem dX2_aheadAt_41 : decode cX2_aheadAt 41 = .ok (.iload 6, 2) := by decide +kernel
theorem dX2_aheadAt_43 : decode cX2_aheadAt 43 = .ok (.iload_n 3, 1) := by decide +kernel
theorem dX2_aheadAt_44 : decode cX2_aheadAt 44 = .ok (.if_icmp .lt 15, 3) := by decide +kernel
theorem dX2_aheadAt_47 : decode cX2_aheadAt 47 = .ok (.iload 6, 2) := by decide +kernel
theorem dX2_aheadAt_49 : decode cX2_aheadAt 49 = .ok (.iload_n 3, 1) := by decide +kernel
theorem dX2_aheadAt_50 : decode cX2_aheadAt 50 = .ok (.if_icmp .ne 12, 3) := by decide +kernel
theorem dX2_aheadAt_53 : decode cX2_aheadAt 53 = .ok (.iload 5, 2) := by decide +kernel
theorem dX2_aheadAt_55 : decode cX2_aheadAt 55 = .ok (.iload_n 2, 1) := by decide +kernel
theorem dX2_aheadAt_56 : decode cX2_aheadAt 56 = .ok (.if_icmp .ge 6, 3) := by decide +kernel
theorem dX2_aheadAt_59 : decode cX2_aheadAt 59 = .ok (.iinc 4 1, 3) := by decide +kernel
theorem dX2_aheadAt_62 : decode cX2_aheadAt 62 = .ok (.iinc 5 1, 3) := by decide +kernel
theorem dX2_aheadAt_65 : decode cX2_aheadAt 65 = .ok (.goto (-59), 3) := by decide +kernel
theorem dX2_aheadAt_68 : decode cX2_aheadAt 68 = .ok (.iload 4, 2) := by decide +kernel
theorem dX2_aheadAt_70 : decode cX2_aheadAt 70 = .ok (.ireturn, 1) := by decide +kernel
theorem dX2_spanAt_0 : decode cX2_spanAt 0 = .ok (.aload_n 0, 1) := by decide +kernel
theorem dX2_spanAt_1 : decode cX2_spanAt 1 = .ok (.iload_n 1, 1) := by decide +kernel
theorem dX2_spanAt_2 : decode cX2_spanAt 2 = .ok (.invokevirtual 83, 3) := by decide +kernel
theorem dX2_spanAt_5 : decode cX2_spanAt 5 = .ok (.ifCond .ne 5, 3) := by decide +kernel
theorem dX2_spanAt_8 : decode cX2_spanAt 8 = .ok (.iconst (-1), 1) := by decide +kernel
theorem dX2_spanAt_9 : decode cX2_spanAt 9 = .ok (.ireturn, 1) := by decide +kernel
theorem dX2_spanAt_10 : decode cX2_spanAt 10 = .ok (.aload_n 0, 1) := by decide +kernel
theorem dX2_spanAt_11 : decode cX2_spanAt 11 = .ok (.getfield 27, 3) := by decide +kernel
theorem dX2_spanAt_14 : decode cX2_spanAt 14 = .ok (.iload_n 1, 1) := by decide +kernel
theorem dX2_spanAt_15 : decode cX2_spanAt 15 = .ok (.aaload, 1) := by decide +kernel
theorem dX2_spanAt_16 : decode cX2_spanAt 16 = .ok (.astore 4, 2) := by decide +kernel
theorem dX2_spanAt_18 : decode cX2_spanAt 18 = .ok (.aload 4, 2) := by decide +kernel
theorem dX2_spanAt_20 : decode cX2_spanAt 20 = .ok (.iload_n 2, 1) := by decide +kernel
theorem dX2_spanAt_21 : decode cX2_spanAt 21 = .ok (.invokevirtual 268, 3) := by decide +kernel
theorem dX2_spanAt_24 : decode cX2_spanAt 24 = .ok (.istore 5, 2) := by decide +kernel
theorem dX2_spanAt_26 : decode cX2_spanAt 26 = .ok (.iload 5, 2) := by decide +kernel
theorem dX2_spanAt_28 : decode cX2_spanAt 28 = .ok (.iconst (-1), 1) := by decide +kernel
theorem dX2_spanAt_29 : decode cX2_spanAt 29 = .ok (.if_icmp .eq 14, 3) := by decide +kernel
theorem dX2_spanAt_32 : decode cX2_spanAt 32 = .ok (.aload_n 0, 1) := by decide +kernel
theorem dX2_spanAt_33 : decode cX2_spanAt 33 = .ok (.getfield 9, 3) := by decide +kernel
theorem dX2_spanAt_36 : decode cX2_spanAt 36 = .ok (.iload_n 2, 1) := by decide +kernel
theorem dX2_spanAt_37 : decode cX2_spanAt 37 = .ok (.invokevirtual 311, 3) := by decide +kernel
theorem dX2_spanAt_40 : decode cX2_spanAt 40 = .ok (.ifCond .eq 6, 3) := by decide +kernel
theorem dX2_spanAt_43 : decode cX2_spanAt 43 = .ok (.iload 5, 2) := by decide +kernel
theorem dX2_spanAt_45 : decode cX2_spanAt 45 = .ok (.ireturn, 1) := by decide +kernel
theorem dX2_spanAt_46 : decode cX2_spanAt 46 = .ok (.iload_n 2, 1) := by decide +kernel
theorem dX2_spanAt_47 : decode cX2_spanAt 47 = .ok (.iconst 1, 1) := by decide +kernel
theorem dX2_spanAt_48 : decode cX2_spanAt 48 = .ok (.iadd, 1) := by decide +kernel
theorem dX2_spanAt_49 : decode cX2_spanAt 49 = .ok (.istore 6, 2) := by decide +kernel
theorem dX2_spanAt_51 : decode cX2_spanAt 51 = .ok (.iload 6, 2) := by decide +kernel
theorem dX2_spanAt_53 : decode cX2_spanAt 53 = .ok (.bipush 60, 2) := by decide +kernel
theorem dX2_spanAt_55 : decode cX2_spanAt 55 = .ok (.if_icmp .ge 21, 3) := by decide +kernel
theorem dX2_spanAt_58 : decode cX2_spanAt 58 = .ok (.aload_n 0, 1) := by decide +kernel
theorem dX2_spanAt_59 : decode cX2_spanAt 59 = .ok (.getfield 9, 3) := by decide +kernel
theorem dX2_spanAt_62 : decode cX2_spanAt 62 = .ok (.iload 6, 2) := by decide +kernel
theorem dX2_spanAt_64 : decode cX2_spanAt 64 = .ok (.invokevirtual 311, 3) := by decide +kernel
theorem dX2_spanAt_67 : decode cX2_spanAt 67 = .ok (.ifCond .ne 9, 3) := by decide +kernel
theorem dX2_spanAt_70 : decode cX2_spanAt 70 = .ok (.iinc 6 1, 3) := by decide +kernel
theorem dX2_spanAt_73 : decode cX2_spanAt 73 = .ok (.goto (-22), 3) := by decide +kernel
theorem dX2_spanAt_76 : decode cX2_spanAt 76 = .ok (.aload 4, 2) := by decide +kernel
theorem dX2_spanAt_78 : decode cX2_spanAt 78 = .ok (.iload 6, 2) := by decide +kernel
theorem dX2_spanAt_80 : decode cX2_spanAt 80 = .ok (.invokevirtual 268, 3) := by decide +kernel
theorem dX2_spanAt_83 : decode cX2_spanAt 83 = .ok (.istore 7, 2) := by decide +kernel
theorem dX2_spanAt_85 : decode cX2_spanAt 85 = .ok (.iload 7, 2) := by decide +kernel
theorem dX2_spanAt_87 : decode cX2_spanAt 87 = .ok (.iconst (-1), 1) := by decide +kernel
theorem dX2_spanAt_88 : decode cX2_spanAt 88 = .ok (.if_icmp .ne 5, 3) := by decide +kernel
theorem dX2_spanAt_91 : decode cX2_spanAt 91 = .ok (.iconst (-1), 1) := by decide +kernel
theorem dX2_spanAt_92 : decode cX2_spanAt 92 = .ok (.ireturn, 1) := by decide +kernel
theorem dX2_spanAt_93 : decode cX2_spanAt 93 = .ok (.iload_n 3, 1) := by decide +kernel
theorem dX2_spanAt_94 : decode cX2_spanAt 94 = .ok (.ifCond .ne 15, 3) := by decide +kernel
theorem dX2_spanAt_97 : decode cX2_spanAt 97 = .ok (.iload 7, 2) := by decide +kernel
theorem dX2_spanAt_99 : decode cX2_spanAt 99 = .ok (.sipush 1000, 3) := by decide +kernel
theorem dX2_spanAt_102 : decode cX2_spanAt 102 = .ok (.iload 6, 2) := by decide +kernel
theorem dX2_spanAt_104 : decode cX2_spanAt 104 = .ok (.iload_n 2, 1) := by decide +kernel
theorem dX2_spanAt_105 : decode cX2_spanAt 105 = .ok (.isub, 1) := by decide +kernel
theorem dX2_spanAt_106 : decode cX2_spanAt 106 = .ok (.imul, 1) := by decide +kernel
theorem dX2_spanAt_107 : decode cX2_spanAt 107 = .ok (.isub, 1) := by decide +kernel
theorem dX2_spanAt_108 : decode cX2_spanAt 108 = .ok (.ireturn, 1) := by decide +kernel
theorem dX2_spanAt_109 : decode cX2_spanAt 109 = .ok (.iload_n 2, 1) := by decide +kernel
theorem dX2_spanAt_110 : decode cX2_spanAt 110 = .ok (.iconst 1, 1) := by decide +kernel
theorem dX2_spanAt_111 : decode cX2_spanAt 111 = .ok (.isub, 1) := by decide +kernel
theorem dX2_spanAt_112 : decode cX2_spanAt 112 = .ok (.istore 8, 2) := by decide +kernel
theorem dX2_spanAt_114 : decode cX2_spanAt 114 = .ok (.iload 8, 2) := by decide +kernel
theorem dX2_spanAt_116 : decode cX2_spanAt 116 = .ok (.ifCond .lt 21, 3) := by decide +kernel
theorem dX2_spanAt_119 : decode cX2_spanAt 119 = .ok (.aload_n 0, 1) := by decide +kernel
theorem dX2_spanAt_120 : decode cX2_spanAt 120 = .ok (.getfield 9, 3) := by decide +kernel
theorem dX2_spanAt_123 : decode cX2_spanAt 123 = .ok (.iload 8, 2) := by decide +kernel
theorem dX2_spanAt_125 : decode cX2_spanAt 125 = .ok (.invokevirtual 311, 3) := by decide +kernel
theorem dX2_spanAt_128 : decode cX2_spanAt 128 = .ok (.ifCond .ne 9, 3) := by decide +kernel
theorem dX2_spanAt_131 : decode cX2_spanAt 131 = .ok (.iinc 8 (-1), 3) := by decide +kernel
theorem dX2_spanAt_134 : decode cX2_spanAt 134 = .ok (.goto (-20), 3) := by decide +kernel
theorem dX2_spanAt_137 : decode cX2_spanAt 137 = .ok (.iload 8, 2) := by decide +kernel
theorem dX2_spanAt_139 : decode cX2_spanAt 139 = .ok (.ifCond .ge 18, 3) := by decide +kernel
theorem dX2_spanAt_142 : decode cX2_spanAt 142 = .ok (.aload_n 0, 1) := by decide +kernel
theorem dX2_spanAt_143 : decode cX2_spanAt 143 = .ok (.getfield 9, 3) := by decide +kernel
theorem dX2_spanAt_146 : decode cX2_spanAt 146 = .ok (.getfield 70, 3) := by decide +kernel
theorem dX2_spanAt_149 : decode cX2_spanAt 149 = .ok (.bipush 6, 2) := by decide +kernel
theorem dX2_spanAt_151 : decode cX2_spanAt 151 = .ok (.iaload, 1) := by decide +kernel
theorem dX2_spanAt_152 : decode cX2_spanAt 152 = .ok (.iload_n 1, 1) := by decide +kernel
theorem dX2_spanAt_153 : decode cX2_spanAt 153 = .ok (.imul, 1) := by decide +kernel
theorem dX2_spanAt_154 : decode cX2_spanAt 154 = .ok (.goto 10, 3) := by decide +kernel
theorem dX2_spanAt_157 : decode cX2_spanAt 157 = .ok (.aload 4, 2) := by decide +kernel
theorem dX2_spanAt_159 : decode cX2_spanAt 159 = .ok (.iload 8, 2) := by decide +kernel
theorem dX2_spanAt_161 : decode cX2_spanAt 161 = .ok (.invokevirtual 268, 3) := by decide +kernel
theorem dX2_spanAt_164 : decode cX2_spanAt 164 = .ok (.istore 9, 2) := by decide +kernel
theorem dX2_spanAt_166 : decode cX2_spanAt 166 = .ok (.iload 9, 2) := by decide +kernel
theorem dX2_spanAt_168 : decode cX2_spanAt 168 = .ok (.sipush 1000, 3) := by decide +kernel
theorem dX2_spanAt_171 : decode cX2_spanAt 171 = .ok (.iload_n 2, 1) := by decide +kernel
theorem dX2_spanAt_172 : decode cX2_spanAt 172 = .ok (.iload 8, 2) := by decide +kernel
theorem dX2_spanAt_174 : decode cX2_spanAt 174 = .ok (.isub, 1) := by decide +kernel
theorem dX2_spanAt_175 : decode cX2_spanAt 175 = .ok (.imul, 1) := by decide +kernel
theorem dX2_spanAt_176 : decode cX2_spanAt 176 = .ok (.iadd, 1) := by decide +kernel
theorem dX2_spanAt_177 : decode cX2_spanAt 177 = .ok (.ireturn, 1) := by decide +kernel
theorem dX2_endedByWall_0 : decode cX2_endedByWall 0 = .ok (.aload_n 0, 1) := by decide +kernel
theorem dX2_endedByWall_1 : decode cX2_endedByWall 1 = .ok (.iload_n 1, 1) := by decide +kernel
theorem dX2_endedByWall_2 : decode cX2_endedByWall 2 = .ok (.invokevirtual 83, 3) := by decide +kernel
theorem dX2_endedByWall_5 : decode cX2_endedByWall 5 = .ok (.ifCond .ne 5, 3) := by decide +kernel
theorem dX2_endedByWall_8 : decode cX2_endedByWall 8 = .ok (.iconst 0, 1) := by decide +kernel
theorem dX2_endedByWall_9 : decode cX2_endedByWall 9 = .ok (.ireturn, 1) := by decide +kernel
theorem dX2_endedByWall_10 : decode cX2_endedByWall 10 = .ok (.aload_n 0, 1) := by decide +kernel
theorem dX2_endedByWall_11 : decode cX2_endedByWall 11 = .ok (.getfield 27, 3) := by decide +kernel
theorem dX2_endedByWall_14 : decode cX2_endedByWall 14 = .ok (.iload_n 1, 1) := by decide +kernel
theorem dX2_endedByWall_15 : decode cX2_endedByWall 15 = .ok (.aaload, 1) := by decide +kernel
theorem dX2_endedByWall_16 : decode cX2_endedByWall 16 = .ok (.getfield 275, 3) := by decide +kernel
theorem dX2_endedByWall_19 : decode cX2_endedByWall 19 = .ok (.iconst 1, 1) := by decide +kernel
theorem dX2_endedByWall_20 : decode cX2_endedByWall 20 = .ok (.isub, 1) := by decide +kernel
theorem dX2_endedByWall_21 : decode cX2_endedByWall 21 = .ok (.istore_n 3, 1) := by decide +kernel
theorem dX2_endedByWall_22 : decode cX2_endedByWall 22 = .ok (.iload_n 3, 1) := by decide +kernel
theorem dX2_endedByWall_23 : decode cX2_endedByWall 23 = .ok (.ifCond .lt 38, 3) := by decide +kernel
theorem dX2_endedByWall_26 : decode cX2_endedByWall 26 = .ok (.aload_n 0, 1) := by decide +kernel
theorem dX2_endedByWall_27 : decode cX2_endedByWall 27 = .ok (.getfield 9, 3) := by decide +kernel
theorem dX2_endedByWall_30 : decode cX2_endedByWall 30 = .ok (.iload_n 3, 1) := by decide +kernel
theorem dX2_endedByWall_31 : decode cX2_endedByWall 31 = .ok (.invokevirtual 311, 3) := by decide +kernel
theorem dX2_endedByWall_34 : decode cX2_endedByWall 34 = .ok (.ifCond .eq 21, 3) := by decide +kernel
theorem dX2_endedByWall_37 : decode cX2_endedByWall 37 = .ok (.aload_n 0, 1) := by decide +kernel
theorem dX2_endedByWall_38 : decode cX2_endedByWall 38 = .ok (.getfield 27, 3) := by decide +kernel
theorem dX2_endedByWall_41 : decode cX2_endedByWall 41 = .ok (.iload_n 1, 1) := by decide +kernel
theorem dX2_endedByWall_42 : decode cX2_endedByWall 42 = .ok (.aaload, 1) := by decide +kernel
theorem dX2_endedByWall_43 : decode cX2_endedByWall 43 = .ok (.iload_n 3, 1) := by decide +kernel
theorem dX2_endedByWall_44 : decode cX2_endedByWall 44 = .ok (.invokevirtual 268, 3) := by decide +kernel
theorem dX2_endedByWall_47 : decode cX2_endedByWall 47 = .ok (.iload_n 2, 1) := by decide +kernel
theorem dX2_endedByWall_48 : decode cX2_endedByWall 48 = .ok (.if_icmp .gt 7, 3) := by decide +kernel
theorem dX2_endedByWall_51 : decode cX2_endedByWall 51 = .ok (.iload_n 3, 1) := by decide +kernel
theorem dX2_endedByWall_52 : decode cX2_endedByWall 52 = .ok (.iconst 1, 1) := by decide +kernel
theorem dX2_endedByWall_53 : decode cX2_endedByWall 53 = .ok (.iadd, 1) := by decide +kernel
theorem dX2_endedByWall_54 : decode cX2_endedByWall 54 = .ok (.ireturn, 1) := by decide +kernel
theorem dX2_endedByWall_55 : decode cX2_endedByWall 55 = .ok (.iinc 3 (-1), 3) := by decide +kernel
theorem dX2_endedByWall_58 : decode cX2_endedByWall 58 = .ok (.goto (-36), 3) := by decide +kernel
theorem dX2_endedByWall_61 : decode cX2_endedByWall 61 = .ok (.iconst 0, 1) := by decide +kernel
theorem dX2_endedByWall_62 : decode cX2_endedByWall 62 = .ok (.ireturn, 1) := by decide +kernel
theorem dX3_firstWrong_0 : decode cX3_firstWrong 0 = .ok (.aload_n 0, 1) := by decide +kernel
theorem dX3_firstWrong_1 : decode cX3_firstWrong 1 = .ok (.iload 4, 2) := by decide +kernel
theorem dX3_firstWrong_3 : decode cX3_firstWrong 3 = .ok (.putfield 19, 3) := by decide +kernel
theorem dX3_firstWrong_6 : decode cX3_firstWrong 6 = .ok (.aload_n 0, 1) := by decide +kernel
theorem dX3_firstWrong_7 : decode cX3_firstWrong 7 = .ok (.aload_n 3, 1) := by decide +kernel
theorem dX3_firstWrong_8 : decode cX3_firstWrong 8 = .ok (.putfield 23, 3) := by decide +kernel
theorem dX3_firstWrong_11 : decode cX3_firstWrong 11 = .ok (.aload_n 0, 1) := by decide +kernel
theorem dX3_firstWrong_12 : decode cX3_firstWrong 12 = .ok (.getfield 23, 3) := by decide +kernel
theorem dX3_firstWrong_15 : decode cX3_firstWrong 15 = .ok (.invokevirtual 27, 3) := by decide +kernel
theorem dX3_firstWrong_18 : decode cX3_firstWrong 18 = .ok (.aload_n 0, 1) := by decide +kernel
theorem dX3_firstWrong_19 : decode cX3_firstWrong 19 = .ok (.invokevirtual 32, 3) := by decide +kernel
theorem dX3_firstWrong_22 : decode cX3_firstWrong 22 = .ok (.iconst 0, 1) := by decide +kernel
theorem dX3_firstWrong_23 : decode cX3_firstWrong 23 = .ok (.istore 5, 2) := by decide +kernel
theorem dX3_firstWrong_25 : decode cX3_firstWrong 25 = .ok (.iload 5, 2) := by decide +kernel
theorem dX3_firstWrong_27 : decode cX3_firstWrong 27 = .ok (.iload_n 2, 1) := by decide +kernel
theorem dX3_firstWrong_28 : decode cX3_firstWrong 28 = .ok (.if_icmp .ge 37, 3) := by decide +kernel
theorem dX3_firstWrong_31 : decode cX3_firstWrong 31 = .ok (.iload 5, 2) := by decide +kernel
theorem dX3_firstWrong_33 : decode cX3_firstWrong 33 = .ok (.bipush 60, 2) := by decide +kernel
theorem dX3_firstWrong_35 : decode cX3_firstWrong 35 = .ok (.if_icmp .ge 30, 3) := by decide +kernel
theorem dX3_firstWrong_38 : decode cX3_firstWrong 38 = .ok (.iload 5, 2) := by decide +kernel
theorem dX3_firstWrong_40 : decode cX3_firstWrong 40 = .ok (.aload_n 1, 1) := by decide +kernel
theorem dX3_firstWrong_41 : decode cX3_firstWrong 41 = .ok (.arraylength, 1) := by decide +kernel
theorem dX3_firstWrong_42 : decode cX3_firstWrong 42 = .ok (.if_icmp .ge 23, 3) := by decide +kernel
theorem dX3_firstWrong_45 : decode cX3_firstWrong 45 = .ok (.aload_n 0, 1) := by decide +kernel
theorem dX3_firstWrong_46 : decode cX3_firstWrong 46 = .ok (.aload_n 1, 1) := by decide +kernel
theorem dX3_firstWrong_47 : decode cX3_firstWrong 47 = .ok (.iload 5, 2) := by decide +kernel
theorem dX3_firstWrong_49 : decode cX3_firstWrong 49 = .ok (.iaload, 1) := by decide +kernel
theorem dX3_firstWrong_50 : decode cX3_firstWrong 50 = .ok (.invokevirtual 35, 3) := by decide +kernel
theorem dX3_firstWrong_53 : decode cX3_firstWrong 53 = .ok (.ifCond .ne 6, 3) := by decide +kernel
theorem dX3_firstWrong_56 : decode cX3_firstWrong 56 = .ok (.iload 5, 2) := by decide +kernel
theorem dX3_firstWrong_58 : decode cX3_firstWrong 58 = .ok (.ireturn, 1) := by decide +kernel
theorem dX3_firstWrong_59 : decode cX3_firstWrong 59 = .ok (.iinc 5 1, 3) := by decide +kernel
theorem dX3_firstWrong_62 : decode cX3_firstWrong 62 = .ok (.goto (-37), 3) := by decide +kernel
theorem dX3_firstWrong_65 : decode cX3_firstWrong 65 = .ok (.iload_n 2, 1) := by decide +kernel
theorem dX3_firstWrong_66 : decode cX3_firstWrong 66 = .ok (.bipush 60, 2) := by decide +kernel
theorem dX3_firstWrong_68 : decode cX3_firstWrong 68 = .ok (.if_icmp .le 6, 3) := by decide +kernel
theorem dX3_firstWrong_71 : decode cX3_firstWrong 71 = .ok (.bipush 60, 2) := by decide +kernel
theorem dX3_firstWrong_73 : decode cX3_firstWrong 73 = .ok (.ireturn, 1) := by decide +kernel
theorem dX3_firstWrong_74 : decode cX3_firstWrong 74 = .ok (.aload_n 0, 1) := by decide +kernel
theorem dX3_firstWrong_75 : decode cX3_firstWrong 75 = .ok (.getfield 19, 3) := by decide +kernel
theorem dX3_firstWrong_78 : decode cX3_firstWrong 78 = .ok (.ifCond .eq 20, 3) := by decide +kernel
theorem dX3_firstWrong_81 : decode cX3_firstWrong 81 = .ok (.aload_n 0, 1) := by decide +kernel
theorem dX3_firstWrong_82 : decode cX3_firstWrong 82 = .ok (.getfield 39, 3) := by decide +kernel
theorem dX3_firstWrong_85 : decode cX3_firstWrong 85 = .ok (.bipush 7, 2) := by decide +kernel
theorem dX3_firstWrong_87 : decode cX3_firstWrong 87 = .ok (.if_icmp .ne 7, 3) := by decide +kernel
theorem dX3_firstWrong_90 : decode cX3_firstWrong 90 = .ok (.iconst 1, 1) := by decide +kernel
theorem dX3_firstWrong_91 : decode cX3_firstWrong 91 = .ok (.goto 35, 3) := by decide +kernel
theorem dX3_firstWrong_94 : decode cX3_firstWrong 94 = .ok (.iconst 0, 1) := by decide +kernel
theorem dX3_firstWrong_95 : decode cX3_firstWrong 95 = .ok (.goto 31, 3) := by decide +kernel
theorem dX3_firstWrong_98 : decode cX3_firstWrong 98 = .ok (.aload_n 0, 1) := by decide +kernel
theorem dX3_firstWrong_99 : decode cX3_firstWrong 99 = .ok (.getfield 39, 3) := by decide +kernel
theorem dX3_firstWrong_102 : decode cX3_firstWrong 102 = .ok (.iconst 5, 1) := by decide +kernel
theorem dX3_firstWrong_103 : decode cX3_firstWrong 103 = .ok (.if_icmp .eq 18, 3) := by decide +kernel
theorem dX3_firstWrong_106 : decode cX3_firstWrong 106 = .ok (.aload_n 0, 1) := by decide +kernel
theorem dX3_firstWrong_107 : decode cX3_firstWrong 107 = .ok (.getfield 39, 3) := by decide +kernel
theorem dX3_firstWrong_110 : decode cX3_firstWrong 110 = .ok (.iconst 4, 1) := by decide +kernel
theorem dX3_firstWrong_111 : decode cX3_firstWrong 111 = .ok (.if_icmp .ne 14, 3) := by decide +kernel
theorem dX3_firstWrong_114 : decode cX3_firstWrong 114 = .ok (.aload_n 0, 1) := by decide +kernel
theorem dX3_firstWrong_115 : decode cX3_firstWrong 115 = .ok (.getfield 43, 3) := by decide +kernel
theorem dX3_firstWrong_118 : decode cX3_firstWrong 118 = .ok (.ifCond .le 7, 3) := by decide +kernel
theorem dX3_firstWrong_121 : decode cX3_firstWrong 121 = .ok (.iconst 1, 1) := by decide +kernel
theorem dX3_firstWrong_122 : decode cX3_firstWrong 122 = .ok (.goto 4, 3) := by decide +kernel
theorem dX3_firstWrong_125 : decode cX3_firstWrong 125 = .ok (.iconst 0, 1) := by decide +kernel
theorem dX3_firstWrong_126 : decode cX3_firstWrong 126 = .ok (.istore 5, 2) := by decide +kernel
theorem dX3_firstWrong_128 : decode cX3_firstWrong 128 = .ok (.iload 5, 2) := by decide +kernel
theorem dX3_firstWrong_130 : decode cX3_firstWrong 130 = .ok (.ifCond .eq 7, 3) := by decide +kernel
theorem dX3_firstWrong_133 : decode cX3_firstWrong 133 = .ok (.iconst (-1), 1) := by decide +kernel
theorem dX3_firstWrong_134 : decode cX3_firstWrong 134 = .ok (.goto 4, 3) := by decide +kernel
theorem dX3_firstWrong_137 : decode cX3_firstWrong 137 = .ok (.iload_n 2, 1) := by decide +kernel
theorem dX3_firstWrong_138 : decode cX3_firstWrong 138 = .ok (.ireturn, 1) := by decide +kernel
theorem dX3_beginLine_0 : decode cX3_beginLine 0 = .ok (.aload_n 0, 1) := by decide +kernel
theorem dX3_beginLine_1 : decode cX3_beginLine 1 = .ok (.iconst 0, 1) := by decide +kernel
theorem dX3_beginLine_2 : decode cX3_beginLine 2 = .ok (.putfield 39, 3) := by decide +kernel
theorem dX3_beginLine_5 : decode cX3_beginLine 5 = .ok (.aload_n 0, 1) := by decide +kernel
theorem dX3_beginLine_6 : decode cX3_beginLine 6 = .ok (.iconst 0, 1) := by decide +kernel
theorem dX3_beginLine_7 : decode cX3_beginLine 7 = .ok (.putfield 46, 3) := by decide +kernel
theorem dX3_beginLine_10 : decode cX3_beginLine 10 = .ok (.aload_n 0, 1) := by decide +kernel
theorem dX3_beginLine_11 : decode cX3_beginLine 11 = .ok (.iconst 0, 1) := by decide +kernel
theorem dX3_beginLine_12 : decode cX3_beginLine 12 = .ok (.putfield 49, 3) := by decide +kernel
theorem dX3_beginLine_15 : decode cX3_beginLine 15 = .ok (.aload_n 0, 1) := by decide +kernel
theorem dX3_beginLine_16 : decode cX3_beginLine 16 = .ok (.iconst 0, 1) := by decide +kernel
theorem dX3_beginLine_17 : decode cX3_beginLine 17 = .ok (.putfield 43, 3) := by decide +kernel
theorem dX3_beginLine_20 : decode cX3_beginLine 20 = .ok (.aload_n 0, 1) := by decide +kernel
theorem dX3_beginLine_21 : decode cX3_beginLine 21 = .ok (.iconst 0, 1) := by decide +kernel
theorem dX3_beginLine_22 : decode cX3_beginLine 22 = .ok (.putfield 52, 3) := by decide +kernel
theorem dX3_beginLine_25 : decode cX3_beginLine 25 = .ok (.return_, 1) := by decide +kernel
theorem dX3_takes_0 : decode cX3_takes 0 = .ok (.aload_n 0, 1) := by decide +kernel
theorem dX3_takes_1 : decode cX3_takes 1 = .ok (.getfield 39, 3) := by decide +kernel
theorem dX3_takes_4 : decode cX3_takes 4 = .ok (.tableswitch 88 0 8 #[52, 52, 58, 64, 70, 88, 76, 76, 82], 52) := by decide +kernel
theorem dX3_takes_56 : decode cX3_takes 56 = .ok (.aload_n 0, 1) := by decide +kernel
theorem dX3_takes_57 : decode cX3_takes 57 = .ok (.iload_n 1, 1) := by decide +kernel
theorem dX3_takes_58 : decode cX3_takes 58 = .ok (.invokevirtual 55, 3) := by decide +kernel
theorem dX3_takes_61 : decode cX3_takes 61 = .ok (.ireturn, 1) := by decide +kernel
theorem dX3_takes_62 : decode cX3_takes 62 = .ok (.aload_n 0, 1) := by decide +kernel
theorem dX3_takes_63 : decode cX3_takes 63 = .ok (.iload_n 1, 1) := by decide +kernel
theorem dX3_takes_64 : decode cX3_takes 64 = .ok (.invokevirtual 58, 3) := by decide +kernel
theorem dX3_takes_67 : decode cX3_takes 67 = .ok (.ireturn, 1) := by decide +kernel
theorem dX3_takes_68 : decode cX3_takes 68 = .ok (.aload_n 0, 1) := by decide +kernel
theorem dX3_takes_69 : decode cX3_takes 69 = .ok (.iload_n 1, 1) := by decide +kernel
theorem dX3_takes_70 : decode cX3_takes 70 = .ok (.invokevirtual 61, 3) := by decide +kernel
theorem dX3_takes_73 : decode cX3_takes 73 = .ok (.ireturn, 1) := by decide +kernel
theorem dX3_takes_74 : decode cX3_takes 74 = .ok (.aload_n 0, 1) := by decide +kernel
theorem dX3_takes_75 : decode cX3_takes 75 = .ok (.iload_n 1, 1) := by decide +kernel
theorem dX3_takes_76 : decode cX3_takes 76 = .ok (.invokevirtual 64, 3) := by decide +kernel
theorem dX3_takes_79 : decode cX3_takes 79 = .ok (.ireturn, 1) := by decide +kernel
theorem dX3_takes_80 : decode cX3_takes 80 = .ok (.aload_n 0, 1) := by decide +kernel
theorem dX3_takes_81 : decode cX3_takes 81 = .ok (.iload_n 1, 1) := by decide +kernel
theorem dX3_takes_82 : decode cX3_takes 82 = .ok (.invokevirtual 67, 3) := by decide +kernel
theorem dX3_takes_85 : decode cX3_takes 85 = .ok (.ireturn, 1) := by decide +kernel
theorem dX3_takes_86 : decode cX3_takes 86 = .ok (.aload_n 0, 1) := by decide +kernel
theorem dX3_takes_87 : decode cX3_takes 87 = .ok (.iload_n 1, 1) := by decide +kernel
theorem dX3_takes_88 : decode cX3_takes 88 = .ok (.invokevirtual 70, 3) := by decide +kernel
theorem dX3_takes_91 : decode cX3_takes 91 = .ok (.ireturn, 1) := by decide +kernel
theorem dX3_takes_92 : decode cX3_takes 92 = .ok (.iconst 0, 1) := by decide +kernel
theorem dX3_takes_93 : decode cX3_takes 93 = .ok (.ireturn, 1) := by decide +kernel
theorem dX3_takesOperand_0 : decode cX3_takesOperand 0 = .ok (.iload_n 1, 1) := by decide +kernel
theorem dX3_takesOperand_1 : decode cX3_takesOperand 1 = .ok (.invokestatic 73, 3) := by decide +kernel
theorem dX3_takesOperand_4 : decode cX3_takesOperand 4 = .ok (.ifCond .eq 26, 3) := by decide +kernel
theorem dX3_takesOperand_7 : decode cX3_takesOperand 7 = .ok (.aload_n 0, 1) := by decide +kernel
theorem dX3_takesOperand_8 : decode cX3_takesOperand 8 = .ok (.getfield 23, 3) := by decide +kernel
theorem dX3_takesOperand_11 : decode cX3_takesOperand 11 = .ok (.iload_n 1, 1) := by decide +kernel
theorem dX3_takesOperand_12 : decode cX3_takesOperand 12 = .ok (.bipush 48, 2) := by decide +kernel
theorem dX3_takesOperand_14 : decode cX3_takesOperand 14 = .ok (.isub, 1) := by decide +kernel
theorem dX3_takesOperand_15 : decode cX3_takesOperand 15 = .ok (.invokevirtual 76, 3) := by decide +kernel
theorem dX3_takesOperand_18 : decode cX3_takesOperand 18 = .ok (.aload_n 0, 1) := by decide +kernel
theorem dX3_takesOperand_19 : decode cX3_takesOperand 19 = .ok (.iconst 1, 1) := by decide +kernel
theorem dX3_takesOperand_20 : decode cX3_takesOperand 20 = .ok (.putfield 43, 3) := by decide +kernel
theorem dX3_takesOperand_23 : decode cX3_takesOperand 23 = .ok (.aload_n 0, 1) := by decide +kernel
theorem dX3_takesOperand_24 : decode cX3_takesOperand 24 = .ok (.iconst 2, 1) := by decide +kernel
theorem dX3_takesOperand_25 : decode cX3_takesOperand 25 = .ok (.putfield 39, 3) := by decide +kernel
theorem dX3_takesOperand_28 : decode cX3_takesOperand 28 = .ok (.iconst 1, 1) := by decide +kernel
theorem dX3_takesOperand_29 : decode cX3_takesOperand 29 = .ok (.ireturn, 1) := by decide +kernel
theorem dX3_takesOperand_30 : decode cX3_takesOperand 30 = .ok (.aload_n 0, 1) := by decide +kernel
theorem dX3_takesOperand_31 : decode cX3_takesOperand 31 = .ok (.iload_n 1, 1) := by decide +kernel
theorem dX3_takesOperand_32 : decode cX3_takesOperand 32 = .ok (.invokevirtual 80, 3) := by decide +kernel
theorem dX3_takesOperand_35 : decode cX3_takesOperand 35 = .ok (.ifCond .eq 30, 3) := by decide +kernel
theorem dX3_takesOperand_38 : decode cX3_takesOperand 38 = .ok (.aload_n 0, 1) := by decide +kernel
theorem dX3_takesOperand_39 : decode cX3_takesOperand 39 = .ok (.getfield 23, 3) := by decide +kernel
theorem dX3_takesOperand_42 : decode cX3_takesOperand 42 = .ok (.sipush 1000, 3) := by decide +kernel
theorem dX3_takesOperand_45 : decode cX3_takesOperand 45 = .ok (.iload_n 1, 1) := by decide +kernel
theorem dX3_takesOperand_46 : decode cX3_takesOperand 46 = .ok (.iadd, 1) := by decide +kernel
theorem dX3_takesOperand_47 : decode cX3_takesOperand 47 = .ok (.bipush 97, 2) := by decide +kernel
theorem dX3_takesOperand_49 : decode cX3_takesOperand 49 = .ok (.isub, 1) := by decide +kernel
theorem dX3_takesOperand_50 : decode cX3_takesOperand 50 = .ok (.invokevirtual 76, 3) := by decide +kernel
theorem dX3_takesOperand_53 : decode cX3_takesOperand 53 = .ok (.aload_n 0, 1) := by decide +kernel
theorem dX3_takesOperand_54 : decode cX3_takesOperand 54 = .ok (.iconst 0, 1) := by decide +kernel
theorem dX3_takesOperand_55 : decode cX3_takesOperand 55 = .ok (.putfield 43, 3) := by decide +kernel
theorem dX3_takesOperand_58 : decode cX3_takesOperand 58 = .ok (.aload_n 0, 1) := by decide +kernel
theorem dX3_takesOperand_59 : decode cX3_takesOperand 59 = .ok (.iconst 2, 1) := by decide +kernel
theorem dX3_takesOperand_60 : decode cX3_takesOperand 60 = .ok (.putfield 39, 3) := by decide +kernel
theorem dX3_takesOperand_63 : decode cX3_takesOperand 63 = .ok (.iconst 1, 1) := by decide +kernel
theorem dX3_takesOperand_64 : decode cX3_takesOperand 64 = .ok (.ireturn, 1) := by decide +kernel
theorem dX3_takesOperand_65 : decode cX3_takesOperand 65 = .ok (.iload_n 1, 1) := by decide +kernel
theorem dX3_takesOperand_66 : decode cX3_takesOperand 66 = .ok (.bipush 58, 2) := by decide +kernel
theorem dX3_takesOperand_68 : decode cX3_takesOperand 68 = .ok (.if_icmp .ne 22, 3) := by decide +kernel
theorem dX3_takesOperand_71 : decode cX3_takesOperand 71 = .ok (.aload_n 0, 1) := by decide +kernel
theorem dX3_takesOperand_72 : decode cX3_takesOperand 72 = .ok (.getfield 19, 3) := by decide +kernel
theorem dX3_takesOperand_75 : decode cX3_takesOperand 75 = .ok (.ifCond .eq 15, 3) := by decide +kernel
theorem dX3_takesOperand_78 : decode cX3_takesOperand 78 = .ok (.aload_n 0, 1) := by decide +kernel
theorem dX3_takesOperand_79 : decode cX3_takesOperand 79 = .ok (.getfield 39, 3) := by decide +kernel
theorem dX3_takesOperand_82 : decode cX3_takesOperand 82 = .ok (.ifCond .ne 8, 3) := by decide +kernel
theorem dX3_takesOperand_85 : decode cX3_takesOperand 85 = .ok (.aload_n 0, 1) := by decide +kernel
theorem dX3_takesOperand_86 : decode cX3_takesOperand 86 = .ok (.invokevirtual 83, 3) := by decide +kernel
theorem dX3_takesOperand_89 : decode cX3_takesOperand 89 = .ok (.ireturn, 1) := by decide +kernel
theorem dX3_takesOperand_90 : decode cX3_takesOperand 90 = .ok (.iload_n 1, 1) := by decide +kernel
theorem dX3_takesOperand_91 : decode cX3_takesOperand 91 = .ok (.bipush 40, 2) := by decide +kernel
theorem dX3_takesOperand_93 : decode cX3_takesOperand 93 = .ok (.if_icmp .ne 8, 3) := by decide +kernel
theorem dX3_takesOperand_96 : decode cX3_takesOperand 96 = .ok (.aload_n 0, 1) := by decide +kernel
theorem dX3_takesOperand_97 : decode cX3_takesOperand 97 = .ok (.invokevirtual 87, 3) := by decide +kernel
theorem dX3_takesOperand_100 : decode cX3_takesOperand 100 = .ok (.ireturn, 1) := by decide +kernel
theorem dX3_takesOperand_101 : decode cX3_takesOperand 101 = .ok (.iload_n 1, 1) := by decide +kernel
theorem dX3_takesOperand_102 : decode cX3_takesOperand 102 = .ok (.bipush 33, 2) := by decide +kernel
theorem dX3_takesOperand_104 : decode cX3_takesOperand 104 = .ok (.if_icmp .eq 9, 3) := by decide +kernel
theorem dX3_takesOperand_107 : decode cX3_takesOperand 107 = .ok (.iload_n 1, 1) := by decide +kernel
theorem dX3_takesOperand_108 : decode cX3_takesOperand 108 = .ok (.bipush 45, 2) := by decide +kernel
theorem dX3_takesOperand_110 : decode cX3_takesOperand 110 = .ok (.if_icmp .ne 26, 3) := by decide +kernel
theorem dX3_takesOperand_113 : decode cX3_takesOperand 113 = .ok (.aload_n 0, 1) := by decide +kernel
theorem dX3_takesOperand_114 : decode cX3_takesOperand 114 = .ok (.iload_n 1, 1) := by decide +kernel
theorem dX3_takesOperand_115 : decode cX3_takesOperand 115 = .ok (.bipush 45, 2) := by decide +kernel
theorem dX3_takesOperand_117 : decode cX3_takesOperand 117 = .ok (.if_icmp .ne 8, 3) := by decide +kernel
theorem dX3_takesOperand_120 : decode cX3_takesOperand 120 = .ok (.bipush 126, 2) := by decide +kernel
theorem dX3_takesOperand_122 : decode cX3_takesOperand 122 = .ok (.goto 4, 3) := by decide +kernel
theorem dX3_takesOperand_125 : decode cX3_takesOperand 125 = .ok (.iload_n 1, 1) := by decide +kernel
theorem dX3_takesOperand_126 : decode cX3_takesOperand 126 = .ok (.invokevirtual 90, 3) := by decide +kernel
theorem dX3_takesOperand_129 : decode cX3_takesOperand 129 = .ok (.aload_n 0, 1) := by decide +kernel
theorem dX3_takesOperand_130 : decode cX3_takesOperand 130 = .ok (.iconst 1, 1) := by decide +kernel
theorem dX3_takesOperand_131 : decode cX3_takesOperand 131 = .ok (.putfield 39, 3) := by decide +kernel
theorem dX3_takesOperand_134 : decode cX3_takesOperand 134 = .ok (.iconst 1, 1) := by decide +kernel
theorem dX3_takesOperand_135 : decode cX3_takesOperand 135 = .ok (.ireturn, 1) := by decide +kernel
theorem dX3_takesOperand_136 : decode cX3_takesOperand 136 = .ok (.iconst 0, 1) := by decide +kernel
theorem dX3_takesOperand_137 : decode cX3_takesOperand 137 = .ok (.ireturn, 1) := by decide +kernel
theorem dX3_takesBehindOperand_0 : decode cX3_takesBehindOperand 0 = .ok (.iload_n 1, 1) := by decide +kernel
theorem dX3_takesBehindOperand_1 : decode cX3_takesBehindOperand 1 = .ok (.invokestatic 73, 3) := by decide +kernel
theorem dX3_takesBehindOperand_4 : decode cX3_takesBehindOperand 4 = .ok (.ifCond .eq 44, 3) := by decide +kernel
theorem dX3_takesBehindOperand_7 : decode cX3_takesBehindOperand 7 = .ok (.aload_n 0, 1) := by decide +kernel
theorem dX3_takesBehindOperand_8 : decode cX3_takesBehindOperand 8 = .ok (.getfield 43, 3) := by decide +kernel
theorem dX3_takesBehindOperand_11 : decode cX3_takesBehindOperand 11 = .ok (.iconst 1, 1) := by decide +kernel
theorem dX3_takesBehindOperand_12 : decode cX3_takesBehindOperand 12 = .ok (.if_icmp .lt 11, 3) := by decide +kernel
theorem dX3_takesBehindOperand_15 : decode cX3_takesBehindOperand 15 = .ok (.aload_n 0, 1) := by decide +kernel
theorem dX3_takesBehindOperand_16 : decode cX3_takesBehindOperand 16 = .ok (.getfield 43, 3) := by decide +kernel
theorem dX3_takesBehindOperand_19 : decode cX3_takesBehindOperand 19 = .ok (.iconst 2, 1) := by decide +kernel
theorem dX3_takesBehindOperand_20 : decode cX3_takesBehindOperand 20 = .ok (.if_icmp .le 5, 3) := by decide +kernel
theorem dX3_takesBehindOperand_23 : decode cX3_takesBehindOperand 23 = .ok (.iconst 0, 1) := by decide +kernel
theorem dX3_takesBehindOperand_24 : decode cX3_takesBehindOperand 24 = .ok (.ireturn, 1) := by decide +kernel
theorem dX3_takesBehindOperand_25 : decode cX3_takesBehindOperand 25 = .ok (.aload_n 0, 1) := by decide +kernel
theorem dX3_takesBehindOperand_26 : decode cX3_takesBehindOperand 26 = .ok (.getfield 23, 3) := by decide +kernel
theorem dX3_takesBehindOperand_29 : decode cX3_takesBehindOperand 29 = .ok (.iload_n 1, 1) := by decide +kernel
theorem dX3_takesBehindOperand_30 : decode cX3_takesBehindOperand 30 = .ok (.bipush 48, 2) := by decide +kernel
theorem dX3_takesBehindOperand_32 : decode cX3_takesBehindOperand 32 = .ok (.isub, 1) := by decide +kernel
theorem dX3_takesBehindOperand_33 : decode cX3_takesBehindOperand 33 = .ok (.invokevirtual 93, 3) := by decide +kernel
theorem dX3_takesBehindOperand_36 : decode cX3_takesBehindOperand 36 = .ok (.aload_n 0, 1) := by decide +kernel
theorem dX3_takesBehindOperand_37 : decode cX3_takesBehindOperand 37 = .ok (.dup, 1) := by decide +kernel
theorem dX3_takesBehindOperand_38 : decode cX3_takesBehindOperand 38 = .ok (.getfield 43, 3) := by decide +kernel
theorem dX3_takesBehindOperand_41 : decode cX3_takesBehindOperand 41 = .ok (.iconst 1, 1) := by decide +kernel
theorem dX3_takesBehindOperand_42 : decode cX3_takesBehindOperand 42 = .ok (.iadd, 1) := by decide +kernel
theorem dX3_takesBehindOperand_43 : decode cX3_takesBehindOperand 43 = .ok (.putfield 43, 3) := by decide +kernel
theorem dX3_takesBehindOperand_46 : decode cX3_takesBehindOperand 46 = .ok (.iconst 1, 1) := by decide +kernel
theorem dX3_takesBehindOperand_47 : decode cX3_takesBehindOperand 47 = .ok (.ireturn, 1) := by decide +kernel
theorem dX3_takesBehindOperand_48 : decode cX3_takesBehindOperand 48 = .ok (.aload_n 0, 1) := by decide +kernel
theorem dX3_takesBehindOperand_49 : decode cX3_takesBehindOperand 49 = .ok (.iconst 0, 1) := by decide +kernel
theorem dX3_takesBehindOperand_50 : decode cX3_takesBehindOperand 50 = .ok (.putfield 43, 3) := by decide +kernel
theorem dX3_takesBehindOperand_53 : decode cX3_takesBehindOperand 53 = .ok (.iload_n 1, 1) := by decide +kernel
theorem dX3_takesBehindOperand_54 : decode cX3_takesBehindOperand 54 = .ok (.bipush 58, 2) := by decide +kernel
theorem dX3_takesBehindOperand_56 : decode cX3_takesBehindOperand 56 = .ok (.if_icmp .ne 23, 3) := by decide +kernel
theorem dX3_takesBehindOperand_59 : decode cX3_takesBehindOperand 59 = .ok (.aload_n 0, 1) := by decide +kernel
theorem dX3_takesBehindOperand_60 : decode cX3_takesBehindOperand 60 = .ok (.getfield 49, 3) := by decide +kernel
theorem dX3_takesBehindOperand_63 : decode cX3_takesBehindOperand 63 = .ok (.ifCond .ne 14, 3) := by decide +kernel
theorem dX3_takesBehindOperand_66 : decode cX3_takesBehindOperand 66 = .ok (.aload_n 0, 1) := by decide +kernel
theorem dX3_takesBehindOperand_67 : decode cX3_takesBehindOperand 67 = .ok (.invokevirtual 83, 3) := by decide +kernel
theorem dX3_takesBehindOperand_70 : decode cX3_takesBehindOperand 70 = .ok (.ifCond .eq 7, 3) := by decide +kernel
theorem dX3_takesBehindOperand_73 : decode cX3_takesBehindOperand 73 = .ok (.iconst 1, 1) := by decide +kernel
theorem dX3_takesBehindOperand_74 : decode cX3_takesBehindOperand 74 = .ok (.goto 4, 3) := by decide +kernel
theorem dX3_takesBehindOperand_77 : decode cX3_takesBehindOperand 77 = .ok (.iconst 0, 1) := by decide +kernel
theorem dX3_takesBehindOperand_78 : decode cX3_takesBehindOperand 78 = .ok (.ireturn, 1) := by decide +kernel
theorem dX3_takesBehindOperand_79 : decode cX3_takesBehindOperand 79 = .ok (.iload_n 1, 1) := by decide +kernel
theorem dX3_takesBehindOperand_80 : decode cX3_takesBehindOperand 80 = .ok (.bipush 41, 2) := by decide +kernel
theorem dX3_takesBehindOperand_82 : decode cX3_takesBehindOperand 82 = .ok (.if_icmp .ne 8, 3) := by decide +kernel
theorem dX3_takesBehindOperand_85 : decode cX3_takesBehindOperand 85 = .ok (.aload_n 0, 1) := by decide +kernel
theorem dX3_takesBehindOperand_86 : decode cX3_takesBehindOperand 86 = .ok (.invokevirtual 96, 3) := by decide +kernel
theorem dX3_takesBehindOperand_89 : decode cX3_takesBehindOperand 89 = .ok (.ireturn, 1) := by decide +kernel
theorem dX3_takesBehindOperand_90 : decode cX3_takesBehindOperand 90 = .ok (.aload_n 0, 1) := by decide +kernel
theorem dX3_takesBehindOperand_91 : decode cX3_takesBehindOperand 91 = .ok (.iload_n 1, 1) := by decide +kernel
theorem dX3_takesBehindOperand_92 : decode cX3_takesBehindOperand 92 = .ok (.invokevirtual 99, 3) := by decide +kernel
theorem dX3_takesBehindOperand_95 : decode cX3_takesBehindOperand 95 = .ok (.ireturn, 1) := by decide +kernel
theorem dX3_joins_0 : decode cX3_joins 0 = .ok (.iload_n 1, 1) := by decide +kernel
theorem dX3_joins_1 : decode cX3_joins 1 = .ok (.invokestatic 102, 3) := by decide +kernel
theorem dX3_joins_4 : decode cX3_joins 4 = .ok (.istore_n 2, 1) := by decide +kernel
theorem dX3_joins_5 : decode cX3_joins 5 = .ok (.iload_n 2, 1) := by decide +kernel
theorem dX3_joins_6 : decode cX3_joins 6 = .ok (.ifCond .eq 21, 3) := by decide +kernel
theorem dX3_joins_9 : decode cX3_joins 9 = .ok (.iload_n 2, 1) := by decide +kernel
theorem dX3_joins_10 : decode cX3_joins 10 = .ok (.bipush 6, 2) := by decide +kernel
theorem dX3_joins_12 : decode cX3_joins 12 = .ok (.if_icmp .eq 15, 3) := by decide +kernel
theorem dX3_joins_15 : decode cX3_joins 15 = .ok (.iload_n 2, 1) := by decide +kernel
theorem dX3_joins_16 : decode cX3_joins 16 = .ok (.iconst 3, 1) := by decide +kernel
theorem dX3_joins_17 : decode cX3_joins 17 = .ok (.if_icmp .ne 12, 3) := by decide +kernel
theorem dX3_joins_20 : decode cX3_joins 20 = .ok (.aload_n 0, 1) := by decide +kernel
theorem dX3_joins_21 : decode cX3_joins 21 = .ok (.getfield 52, 3) := by decide +kernel
theorem dX3_joins_24 : decode cX3_joins 24 = .ok (.ifCond .eq 5, 3) := by decide +kernel
theorem dX3_joins_27 : decode cX3_joins 27 = .ok (.iconst 0, 1) := by decide +kernel
theorem dX3_joins_28 : decode cX3_joins 28 = .ok (.ireturn, 1) := by decide +kernel
theorem dX3_joins_29 : decode cX3_joins 29 = .ok (.iload_n 2, 1) := by decide +kernel
theorem dX3_joins_30 : decode cX3_joins 30 = .ok (.iconst 3, 1) := by decide +kernel
theorem dX3_joins_31 : decode cX3_joins 31 = .ok (.if_icmp .gt 17, 3) := by decide +kernel
theorem dX3_joins_34 : decode cX3_joins 34 = .ok (.aload_n 0, 1) := by decide +kernel
theorem dX3_joins_35 : decode cX3_joins 35 = .ok (.iload_n 2, 1) := by decide +kernel
theorem dX3_joins_36 : decode cX3_joins 36 = .ok (.iconst 3, 1) := by decide +kernel
theorem dX3_joins_37 : decode cX3_joins 37 = .ok (.if_icmp .ne 7, 3) := by decide +kernel
theorem dX3_joins_40 : decode cX3_joins 40 = .ok (.iconst 1, 1) := by decide +kernel
theorem dX3_joins_41 : decode cX3_joins 41 = .ok (.goto 4, 3) := by decide +kernel
theorem dX3_joins_44 : decode cX3_joins 44 = .ok (.iconst 0, 1) := by decide +kernel
theorem dX3_joins_45 : decode cX3_joins 45 = .ok (.putfield 52, 3) := by decide +kernel
theorem dX3_joins_48 : decode cX3_joins 48 = .ok (.aload_n 0, 1) := by decide +kernel
theorem dX3_joins_49 : decode cX3_joins 49 = .ok (.iload_n 2, 1) := by decide +kernel
theorem dX3_joins_50 : decode cX3_joins 50 = .ok (.invokevirtual 106, 3) := by decide +kernel
theorem dX3_joins_53 : decode cX3_joins 53 = .ok (.aload_n 0, 1) := by decide +kernel
theorem dX3_joins_54 : decode cX3_joins 54 = .ok (.iload_n 1, 1) := by decide +kernel
theorem dX3_joins_55 : decode cX3_joins 55 = .ok (.invokevirtual 90, 3) := by decide +kernel
theorem dX3_joins_58 : decode cX3_joins 58 = .ok (.aload_n 0, 1) := by decide +kernel
theorem dX3_joins_59 : decode cX3_joins 59 = .ok (.iconst 1, 1) := by decide +kernel
theorem dX3_joins_60 : decode cX3_joins 60 = .ok (.putfield 39, 3) := by decide +kernel
theorem dX3_joins_63 : decode cX3_joins 63 = .ok (.iconst 1, 1) := by decide +kernel
theorem dX3_joins_64 : decode cX3_joins 64 = .ok (.ireturn, 1) := by decide +kernel
theorem dX3_opens_0 : decode cX3_opens 0 = .ok (.aload_n 0, 1) := by decide +kernel
theorem dX3_opens_1 : decode cX3_opens 1 = .ok (.getfield 49, 3) := by decide +kernel
theorem dX3_opens_4 : decode cX3_opens 4 = .ok (.bipush 60, 2) := by decide +kernel
theorem dX3_opens_6 : decode cX3_opens 6 = .ok (.invokestatic 109, 3) := by decide +kernel
theorem dX3_opens_9 : decode cX3_opens 9 = .ok (.ifCond .ne 5, 3) := by decide +kernel
theorem dX3_opens_12 : decode cX3_opens 12 = .ok (.iconst 0, 1) := by decide +kernel
theorem dX3_opens_13 : decode cX3_opens 13 = .ok (.ireturn, 1) := by decide +kernel
theorem dX3_opens_14 : decode cX3_opens 14 = .ok (.aload_n 0, 1) := by decide +kernel
theorem dX3_opens_15 : decode cX3_opens 15 = .ok (.getfield 15, 3) := by decide +kernel
theorem dX3_opens_18 : decode cX3_opens 18 = .ok (.aload_n 0, 1) := by decide +kernel
theorem dX3_opens_19 : decode cX3_opens 19 = .ok (.getfield 49, 3) := by decide +kernel
theorem dX3_opens_22 : decode cX3_opens 22 = .ok (.aload_n 0, 1) := by decide +kernel
theorem dX3_opens_23 : decode cX3_opens 23 = .ok (.getfield 52, 3) := by decide +kernel
theorem dX3_opens_26 : decode cX3_opens 26 = .ok (.bastore, 1) := by decide +kernel
theorem dX3_opens_27 : decode cX3_opens 27 = .ok (.aload_n 0, 1) := by decide +kernel
theorem dX3_opens_28 : decode cX3_opens 28 = .ok (.dup, 1) := by decide +kernel
theorem dX3_opens_29 : decode cX3_opens 29 = .ok (.getfield 49, 3) := by decide +kernel
theorem dX3_opens_32 : decode cX3_opens 32 = .ok (.iconst 1, 1) := by decide +kernel
theorem dX3_opens_33 : decode cX3_opens 33 = .ok (.iadd, 1) := by decide +kernel
theorem dX3_opens_34 : decode cX3_opens 34 = .ok (.putfield 49, 3) := by decide +kernel
theorem dX3_opens_37 : decode cX3_opens 37 = .ok (.aload_n 0, 1) := by decide +kernel
theorem dX3_opens_38 : decode cX3_opens 38 = .ok (.iconst 0, 1) := by decide +kernel
theorem dX3_opens_39 : decode cX3_opens 39 = .ok (.putfield 52, 3) := by decide +kernel
theorem dX3_opens_42 : decode cX3_opens 42 = .ok (.aload_n 0, 1) := by decide +kernel
theorem dX3_opens_43 : decode cX3_opens 43 = .ok (.bipush 40, 2) := by decide +kernel
theorem dX3_opens_45 : decode cX3_opens 45 = .ok (.invokevirtual 90, 3) := by decide +kernel
theorem dX3_opens_48 : decode cX3_opens 48 = .ok (.aload_n 0, 1) := by decide +kernel
theorem dX3_opens_49 : decode cX3_opens 49 = .ok (.iconst 1, 1) := by decide +kernel
theorem dX3_opens_50 : decode cX3_opens 50 = .ok (.putfield 39, 3) := by decide +kernel
theorem dX3_opens_53 : decode cX3_opens 53 = .ok (.iconst 1, 1) := by decide +kernel
theorem dX3_opens_54 : decode cX3_opens 54 = .ok (.ireturn, 1) := by decide +kernel
theorem dX3_closes_0 : decode cX3_closes 0 = .ok (.aload_n 0, 1) := by decide +kernel
theorem dX3_closes_1 : decode cX3_closes 1 = .ok (.getfield 49, 3) := by decide +kernel
theorem dX3_closes_4 : decode cX3_closes 4 = .ok (.iconst 1, 1) := by decide +kernel
theorem dX3_closes_5 : decode cX3_closes 5 = .ok (.isub, 1) := by decide +kernel
theorem dX3_closes_6 : decode cX3_closes 6 = .ok (.bipush 60, 2) := by decide +kernel
theorem dX3_closes_8 : decode cX3_closes 8 = .ok (.invokestatic 109, 3) := by decide +kernel
theorem dX3_closes_11 : decode cX3_closes 11 = .ok (.ifCond .ne 5, 3) := by decide +kernel
theorem dX3_closes_14 : decode cX3_closes 14 = .ok (.iconst 0, 1) := by decide +kernel
theorem dX3_closes_15 : decode cX3_closes 15 = .ok (.ireturn, 1) := by decide +kernel
theorem dX3_closes_16 : decode cX3_closes 16 = .ok (.aload_n 0, 1) := by decide +kernel
theorem dX3_closes_17 : decode cX3_closes 17 = .ok (.iconst 1, 1) := by decide +kernel
theorem dX3_closes_18 : decode cX3_closes 18 = .ok (.invokevirtual 106, 3) := by decide +kernel
theorem dX3_closes_21 : decode cX3_closes 21 = .ok (.aload_n 0, 1) := by decide +kernel
theorem dX3_closes_22 : decode cX3_closes 22 = .ok (.dup, 1) := by decide +kernel
theorem dX3_closes_23 : decode cX3_closes 23 = .ok (.getfield 46, 3) := by decide +kernel
theorem dX3_closes_26 : decode cX3_closes 26 = .ok (.iconst 1, 1) := by decide +kernel
theorem dX3_closes_27 : decode cX3_closes 27 = .ok (.isub, 1) := by decide +kernel
theorem dX3_closes_28 : decode cX3_closes 28 = .ok (.putfield 46, 3) := by decide +kernel
theorem dX3_closes_31 : decode cX3_closes 31 = .ok (.aload_n 0, 1) := by decide +kernel
theorem dX3_closes_32 : decode cX3_closes 32 = .ok (.dup, 1) := by decide +kernel
theorem dX3_closes_33 : decode cX3_closes 33 = .ok (.getfield 49, 3) := by decide +kernel
theorem dX3_closes_36 : decode cX3_closes 36 = .ok (.iconst 1, 1) := by decide +kernel
theorem dX3_closes_37 : decode cX3_closes 37 = .ok (.isub, 1) := by decide +kernel
theorem dX3_closes_38 : decode cX3_closes 38 = .ok (.putfield 49, 3) := by decide +kernel
theorem dX3_closes_41 : decode cX3_closes 41 = .ok (.aload_n 0, 1) := by decide +kernel
theorem dX3_closes_42 : decode cX3_closes 42 = .ok (.aload_n 0, 1) := by decide +kernel
theorem dX3_closes_43 : decode cX3_closes 43 = .ok (.getfield 15, 3) := by decide +kernel
theorem dX3_closes_46 : decode cX3_closes 46 = .ok (.aload_n 0, 1) := by decide +kernel
theorem dX3_closes_47 : decode cX3_closes 47 = .ok (.getfield 49, 3) := by decide +kernel
theorem dX3_closes_50 : decode cX3_closes 50 = .ok (.baload, 1) := by decide +kernel
theorem dX3_closes_51 : decode cX3_closes 51 = .ok (.putfield 52, 3) := by decide +kernel
theorem dX3_closes_54 : decode cX3_closes 54 = .ok (.iconst 1, 1) := by decide +kernel
theorem dX3_closes_55 : decode cX3_closes 55 = .ok (.ireturn, 1) := by decide +kernel
theorem dX3_endsCondition_0 : decode cX3_endsCondition 0 = .ok (.aload_n 0, 1) := by decide +kernel
theorem dX3_endsCondition_1 : decode cX3_endsCondition 1 = .ok (.iconst 1, 1) := by decide +kernel
theorem dX3_endsCondition_2 : decode cX3_endsCondition 2 = .ok (.invokevirtual 106, 3) := by decide +kernel
theorem dX3_endsCondition_5 : decode cX3_endsCondition 5 = .ok (.aload_n 0, 1) := by decide +kernel
theorem dX3_endsCondition_6 : decode cX3_endsCondition 6 = .ok (.getfield 23, 3) := by decide +kernel
theorem dX3_endsCondition_9 : decode cX3_endsCondition 9 = .ok (.invokevirtual 113, 3) := by decide +kernel
theorem dX3_endsCondition_12 : decode cX3_endsCondition 12 = .ok (.aload_n 0, 1) := by decide +kernel
theorem dX3_endsCondition_13 : decode cX3_endsCondition 13 = .ok (.aload_n 0, 1) := by decide +kernel
theorem dX3_endsCondition_14 : decode cX3_endsCondition 14 = .ok (.getfield 19, 3) := by decide +kernel
theorem dX3_endsCondition_17 : decode cX3_endsCondition 17 = .ok (.ifCond .eq 8, 3) := by decide +kernel
theorem dX3_endsCondition_20 : decode cX3_endsCondition 20 = .ok (.bipush 6, 2) := by decide +kernel
theorem dX3_endsCondition_22 : decode cX3_endsCondition 22 = .ok (.goto 4, 3) := by decide +kernel
theorem dX3_endsCondition_25 : decode cX3_endsCondition 25 = .ok (.iconst 3, 1) := by decide +kernel
theorem dX3_endsCondition_26 : decode cX3_endsCondition 26 = .ok (.putfield 39, 3) := by decide +kernel
theorem dX3_endsCondition_29 : decode cX3_endsCondition 29 = .ok (.iconst 1, 1) := by decide +kernel
theorem dX3_endsCondition_30 : decode cX3_endsCondition 30 = .ok (.ireturn, 1) := by decide +kernel
theorem dX3_takesVerdict_0 : decode cX3_takesVerdict 0 = .ok (.iload_n 1, 1) := by decide +kernel
theorem dX3_takesVerdict_1 : decode cX3_takesVerdict 1 = .ok (.bipush 88, 2) := by decide +kernel
theorem dX3_takesVerdict_3 : decode cX3_takesVerdict 3 = .ok (.if_icmp .ne 19, 3) := by decide +kernel
theorem dX3_takesVerdict_6 : decode cX3_takesVerdict 6 = .ok (.aload_n 0, 1) := by decide +kernel
theorem dX3_takesVerdict_7 : decode cX3_takesVerdict 7 = .ok (.getfield 23, 3) := by decide +kernel
theorem dX3_takesVerdict_10 : decode cX3_takesVerdict 10 = .ok (.bipush (-2), 2) := by decide +kernel
theorem dX3_takesVerdict_12 : decode cX3_takesVerdict 12 = .ok (.putfield 116, 3) := by decide +kernel
theorem dX3_takesVerdict_15 : decode cX3_takesVerdict 15 = .ok (.aload_n 0, 1) := by decide +kernel
theorem dX3_takesVerdict_16 : decode cX3_takesVerdict 16 = .ok (.iconst 5, 1) := by decide +kernel
theorem dX3_takesVerdict_17 : decode cX3_takesVerdict 17 = .ok (.putfield 39, 3) := by decide +kernel
theorem dX3_takesVerdict_20 : decode cX3_takesVerdict 20 = .ok (.iconst 1, 1) := by decide +kernel
theorem dX3_takesVerdict_21 : decode cX3_takesVerdict 21 = .ok (.ireturn, 1) := by decide +kernel
theorem dX3_takesVerdict_22 : decode cX3_takesVerdict 22 = .ok (.aload_n 0, 1) := by decide +kernel
theorem dX3_takesVerdict_23 : decode cX3_takesVerdict 23 = .ok (.iconst 0, 1) := by decide +kernel
theorem dX3_takesVerdict_24 : decode cX3_takesVerdict 24 = .ok (.putfield 43, 3) := by decide +kernel
theorem dX3_takesVerdict_27 : decode cX3_takesVerdict 27 = .ok (.aload_n 0, 1) := by decide +kernel
theorem dX3_takesVerdict_28 : decode cX3_takesVerdict 28 = .ok (.iconst 4, 1) := by decide +kernel
theorem dX3_takesVerdict_29 : decode cX3_takesVerdict 29 = .ok (.putfield 39, 3) := by decide +kernel
theorem dX3_takesVerdict_32 : decode cX3_takesVerdict 32 = .ok (.iload_n 1, 1) := by decide +kernel
theorem dX3_takesVerdict_33 : decode cX3_takesVerdict 33 = .ok (.bipush 43, 2) := by decide +kernel
theorem dX3_takesVerdict_35 : decode cX3_takesVerdict 35 = .ok (.if_icmp .ne 7, 3) := by decide +kernel
theorem dX3_takesVerdict_38 : decode cX3_takesVerdict 38 = .ok (.iconst 1, 1) := by decide +kernel
theorem dX3_takesVerdict_39 : decode cX3_takesVerdict 39 = .ok (.goto 4, 3) := by decide +kernel
theorem dX3_takesVerdict_42 : decode cX3_takesVerdict 42 = .ok (.iconst 0, 1) := by decide +kernel
theorem dX3_takesVerdict_43 : decode cX3_takesVerdict 43 = .ok (.ireturn, 1) := by decide +kernel
theorem dX3_takesSeconds_0 : decode cX3_takesSeconds 0 = .ok (.iload_n 1, 1) := by decide +kernel
theorem dX3_takesSeconds_1 : decode cX3_takesSeconds 1 = .ok (.invokestatic 73, 3) := by decide +kernel
theorem dX3_takesSeconds_4 : decode cX3_takesSeconds 4 = .ok (.ifCond .eq 11, 3) := by decide +kernel
theorem dX3_takesSeconds_7 : decode cX3_takesSeconds 7 = .ok (.aload_n 0, 1) := by decide +kernel
theorem dX3_takesSeconds_8 : decode cX3_takesSeconds 8 = .ok (.getfield 43, 3) := by decide +kernel
theorem dX3_takesSeconds_11 : decode cX3_takesSeconds 11 = .ok (.iconst 2, 1) := by decide +kernel
theorem dX3_takesSeconds_12 : decode cX3_takesSeconds 12 = .ok (.if_icmp .le 5, 3) := by decide +kernel
theorem dX3_takesSeconds_15 : decode cX3_takesSeconds 15 = .ok (.iconst 0, 1) := by decide +kernel
theorem dX3_takesSeconds_16 : decode cX3_takesSeconds 16 = .ok (.ireturn, 1) := by decide +kernel
theorem dX3_takesSeconds_17 : decode cX3_takesSeconds 17 = .ok (.aload_n 0, 1) := by decide +kernel
theorem dX3_takesSeconds_18 : decode cX3_takesSeconds 18 = .ok (.getfield 23, 3) := by decide +kernel
theorem dX3_takesSeconds_21 : decode cX3_takesSeconds 21 = .ok (.aload_n 0, 1) := by decide +kernel
theorem dX3_takesSeconds_22 : decode cX3_takesSeconds 22 = .ok (.getfield 23, 3) := by decide +kernel
theorem dX3_takesSeconds_25 : decode cX3_takesSeconds 25 = .ok (.getfield 116, 3) := by decide +kernel
theorem dX3_takesSeconds_28 : decode cX3_takesSeconds 28 = .ok (.bipush 10, 2) := by decide +kernel
theorem dX3_takesSeconds_30 : decode cX3_takesSeconds 30 = .ok (.imul, 1) := by decide +kernel
theorem dX3_takesSeconds_31 : decode cX3_takesSeconds 31 = .ok (.iload_n 1, 1) := by decide +kernel
theorem dX3_takesSeconds_32 : decode cX3_takesSeconds 32 = .ok (.iadd, 1) := by decide +kernel
theorem dX3_takesSeconds_33 : decode cX3_takesSeconds 33 = .ok (.bipush 48, 2) := by decide +kernel
theorem dX3_takesSeconds_35 : decode cX3_takesSeconds 35 = .ok (.isub, 1) := by decide +kernel
theorem dX3_takesSeconds_36 : decode cX3_takesSeconds 36 = .ok (.putfield 116, 3) := by decide +kernel
theorem dX3_takesSeconds_39 : decode cX3_takesSeconds 39 = .ok (.aload_n 0, 1) := by decide +kernel
theorem dX3_takesSeconds_40 : decode cX3_takesSeconds 40 = .ok (.dup, 1) := by decide +kernel
theorem dX3_takesSeconds_41 : decode cX3_takesSeconds 41 = .ok (.getfield 43, 3) := by decide +kernel
theorem dX3_takesSeconds_44 : decode cX3_takesSeconds 44 = .ok (.iconst 1, 1) := by decide +kernel
theorem dX3_takesSeconds_45 : decode cX3_takesSeconds 45 = .ok (.iadd, 1) := by decide +kernel
theorem dX3_takesSeconds_46 : decode cX3_takesSeconds 46 = .ok (.putfield 43, 3) := by decide +kernel
theorem dX3_takesSeconds_49 : decode cX3_takesSeconds 49 = .ok (.iconst 1, 1) := by decide +kernel
theorem dX3_takesSeconds_50 : decode cX3_takesSeconds 50 = .ok (.ireturn, 1) := by decide +kernel
theorem dX3_takesAct_0 : decode cX3_takesAct 0 = .ok (.iload_n 1, 1) := by decide +kernel
theorem dX3_takesAct_1 : decode cX3_takesAct 1 = .ok (.lookupswitch 116 #[(43, 100), (45, 100), (46, 100), (59, 75), (61, 100), (98, 92), (103, 100), (104, 100)], 75) := by decide +kernel
theorem dX3_takesAct_76 : decode cX3_takesAct 76 = .ok (.aload_n 0, 1) := by decide +kernel
theorem dX3_takesAct_77 : decode cX3_takesAct 77 = .ok (.getfield 39, 3) := by decide +kernel
theorem dX3_takesAct_80 : decode cX3_takesAct 80 = .ok (.bipush 7, 2) := by decide +kernel
theorem dX3_takesAct_82 : decode cX3_takesAct 82 = .ok (.if_icmp .eq 5, 3) := by decide +kernel
theorem dX3_takesAct_85 : decode cX3_takesAct 85 = .ok (.iconst 0, 1) := by decide +kernel
theorem dX3_takesAct_86 : decode cX3_takesAct 86 = .ok (.ireturn, 1) := by decide +kernel
theorem dX3_takesAct_87 : decode cX3_takesAct 87 = .ok (.aload_n 0, 1) := by decide +kernel
theorem dX3_takesAct_88 : decode cX3_takesAct 88 = .ok (.invokevirtual 32, 3) := by decide +kernel
theorem dX3_takesAct_91 : decode cX3_takesAct 91 = .ok (.iconst 1, 1) := by decide +kernel
theorem dX3_takesAct_92 : decode cX3_takesAct 92 = .ok (.ireturn, 1) := by decide +kernel
theorem dX3_takesAct_93 : decode cX3_takesAct 93 = .ok (.aload_n 0, 1) := by decide +kernel
theorem dX3_takesAct_94 : decode cX3_takesAct 94 = .ok (.bipush 8, 2) := by decide +kernel
theorem dX3_takesAct_96 : decode cX3_takesAct 96 = .ok (.putfield 39, 3) := by decide +kernel
theorem dX3_takesAct_99 : decode cX3_takesAct 99 = .ok (.iconst 1, 1) := by decide +kernel
theorem dX3_takesAct_100 : decode cX3_takesAct 100 = .ok (.ireturn, 1) := by decide +kernel
theorem dX3_takesAct_101 : decode cX3_takesAct 101 = .ok (.aload_n 0, 1) := by decide +kernel
theorem dX3_takesAct_102 : decode cX3_takesAct 102 = .ok (.getfield 23, 3) := by decide +kernel
theorem dX3_takesAct_105 : decode cX3_takesAct 105 = .ok (.iload_n 1, 1) := by decide +kernel
theorem dX3_takesAct_106 : decode cX3_takesAct 106 = .ok (.invokevirtual 119, 3) := by decide +kernel
theorem dX3_takesAct_109 : decode cX3_takesAct 109 = .ok (.aload_n 0, 1) := by decide +kernel
theorem dX3_takesAct_110 : decode cX3_takesAct 110 = .ok (.bipush 7, 2) := by decide +kernel
theorem dX3_takesAct_112 : decode cX3_takesAct 112 = .ok (.putfield 39, 3) := by decide +kernel
theorem dX3_takesAct_115 : decode cX3_takesAct 115 = .ok (.iconst 1, 1) := by decide +kernel
theorem dX3_takesAct_116 : decode cX3_takesAct 116 = .ok (.ireturn, 1) := by decide +kernel
theorem dX3_takesAct_117 : decode cX3_takesAct 117 = .ok (.iconst 0, 1) := by decide +kernel
theorem dX3_takesAct_118 : decode cX3_takesAct 118 = .ok (.ireturn, 1) := by decide +kernel
theorem dX3_takesBox_0 : decode cX3_takesBox 0 = .ok (.iload_n 1, 1) := by decide +kernel
theorem dX3_takesBox_1 : decode cX3_takesBox 1 = .ok (.bipush 48, 2) := by decide +kernel
theorem dX3_takesBox_3 : decode cX3_takesBox 3 = .ok (.if_icmp .lt 9, 3) := by decide +kernel
theorem dX3_takesBox_6 : decode cX3_takesBox 6 = .ok (.iload_n 1, 1) := by decide +kernel
theorem dX3_takesBox_7 : decode cX3_takesBox 7 = .ok (.bipush 51, 2) := by decide +kernel
theorem dX3_takesBox_9 : decode cX3_takesBox 9 = .ok (.if_icmp .le 5, 3) := by decide +kernel
theorem dX3_takesBox_12 : decode cX3_takesBox 12 = .ok (.iconst 0, 1) := by decide +kernel
theorem dX3_takesBox_13 : decode cX3_takesBox 13 = .ok (.ireturn, 1) := by decide +kernel
theorem dX3_takesBox_14 : decode cX3_takesBox 14 = .ok (.aload_n 0, 1) := by decide +kernel
theorem dX3_takesBox_15 : decode cX3_takesBox 15 = .ok (.getfield 23, 3) := by decide +kernel
theorem dX3_takesBox_18 : decode cX3_takesBox 18 = .ok (.iload_n 1, 1) := by decide +kernel
theorem dX3_takesBox_19 : decode cX3_takesBox 19 = .ok (.bipush 48, 2) := by decide +kernel
theorem dX3_takesBox_21 : decode cX3_takesBox 21 = .ok (.isub, 1) := by decide +kernel
theorem dX3_takesBox_22 : decode cX3_takesBox 22 = .ok (.invokevirtual 122, 3) := by decide +kernel
theorem dX3_takesBox_25 : decode cX3_takesBox 25 = .ok (.aload_n 0, 1) := by decide +kernel
theorem dX3_takesBox_26 : decode cX3_takesBox 26 = .ok (.bipush 7, 2) := by decide +kernel
theorem dX3_takesBox_28 : decode cX3_takesBox 28 = .ok (.putfield 39, 3) := by decide +kernel
theorem dX3_takesBox_31 : decode cX3_takesBox 31 = .ok (.iconst 1, 1) := by decide +kernel
theorem dX3_takesBox_32 : decode cX3_takesBox 32 = .ok (.ireturn, 1) := by decide +kernel
theorem dX3_hold_0 : decode cX3_hold 0 = .ok (.aload_n 0, 1) := by decide +kernel
theorem dX3_hold_1 : decode cX3_hold 1 = .ok (.getfield 46, 3) := by decide +kernel
theorem dX3_hold_4 : decode cX3_hold 4 = .ok (.bipush 60, 2) := by decide +kernel
theorem dX3_hold_6 : decode cX3_hold 6 = .ok (.invokestatic 109, 3) := by decide +kernel
theorem dX3_hold_9 : decode cX3_hold 9 = .ok (.ifCond .eq 23, 3) := by decide +kernel
theorem dX3_hold_12 : decode cX3_hold 12 = .ok (.aload_n 0, 1) := by decide +kernel
theorem dX3_hold_13 : decode cX3_hold 13 = .ok (.getfield 9, 3) := by decide +kernel
theorem dX3_hold_16 : decode cX3_hold 16 = .ok (.aload_n 0, 1) := by decide +kernel
theorem dX3_hold_17 : decode cX3_hold 17 = .ok (.getfield 46, 3) := by decide +kernel
theorem dX3_hold_20 : decode cX3_hold 20 = .ok (.iload_n 1, 1) := by decide +kernel
theorem dX3_hold_21 : decode cX3_hold 21 = .ok (.iastore, 1) := by decide +kernel
theorem dX3_hold_22 : decode cX3_hold 22 = .ok (.aload_n 0, 1) := by decide +kernel
theorem dX3_hold_23 : decode cX3_hold 23 = .ok (.dup, 1) := by decide +kernel
theorem dX3_hold_24 : decode cX3_hold 24 = .ok (.getfield 46, 3) := by decide +kernel
theorem dX3_hold_27 : decode cX3_hold 27 = .ok (.iconst 1, 1) := by decide +kernel
theorem dX3_hold_28 : decode cX3_hold 28 = .ok (.iadd, 1) := by decide +kernel
theorem dX3_hold_29 : decode cX3_hold 29 = .ok (.putfield 46, 3) := by decide +kernel
theorem dX3_hold_32 : decode cX3_hold 32 = .ok (.return_, 1) := by decide +kernel
theorem dX3_release_0 : decode cX3_release 0 = .ok (.aload_n 0, 1) := by decide +kernel
theorem dX3_release_1 : decode cX3_release 1 = .ok (.getfield 46, 3) := by decide +kernel
theorem dX3_release_4 : decode cX3_release 4 = .ok (.iconst 1, 1) := by decide +kernel
theorem dX3_release_5 : decode cX3_release 5 = .ok (.isub, 1) := by decide +kernel
theorem dX3_release_6 : decode cX3_release 6 = .ok (.istore_n 2, 1) := by decide +kernel
theorem dX3_release_7 : decode cX3_release 7 = .ok (.iload_n 2, 1) := by decide +kernel
theorem dX3_release_8 : decode cX3_release 8 = .ok (.ifCond .lt 44, 3) := by decide +kernel
theorem dX3_release_11 : decode cX3_release 11 = .ok (.aload_n 0, 1) := by decide +kernel
theorem dX3_release_12 : decode cX3_release 12 = .ok (.getfield 9, 3) := by decide +kernel
theorem dX3_release_15 : decode cX3_release 15 = .ok (.iload_n 2, 1) := by decide +kernel
theorem dX3_release_16 : decode cX3_release 16 = .ok (.iaload, 1) := by decide +kernel
theorem dX3_release_17 : decode cX3_release 17 = .ok (.invokestatic 102, 3) := by decide +kernel
theorem dX3_release_20 : decode cX3_release 20 = .ok (.iload_n 1, 1) := by decide +kernel
theorem dX3_release_21 : decode cX3_release 21 = .ok (.if_icmp .lt 31, 3) := by decide +kernel
theorem dX3_release_24 : decode cX3_release 24 = .ok (.aload_n 0, 1) := by decide +kernel
theorem dX3_release_25 : decode cX3_release 25 = .ok (.getfield 23, 3) := by decide +kernel
theorem dX3_release_28 : decode cX3_release 28 = .ok (.sipush 2000, 3) := by decide +kernel
theorem dX3_release_31 : decode cX3_release 31 = .ok (.aload_n 0, 1) := by decide +kernel
theorem dX3_release_32 : decode cX3_release 32 = .ok (.getfield 9, 3) := by decide +kernel
theorem dX3_release_35 : decode cX3_release 35 = .ok (.iload_n 2, 1) := by decide +kernel
theorem dX3_release_36 : decode cX3_release 36 = .ok (.iaload, 1) := by decide +kernel
theorem dX3_release_37 : decode cX3_release 37 = .ok (.iadd, 1) := by decide +kernel
theorem dX3_release_38 : decode cX3_release 38 = .ok (.invokevirtual 76, 3) := by decide +kernel
theorem dX3_release_41 : decode cX3_release 41 = .ok (.aload_n 0, 1) := by decide +kernel
theorem dX3_release_42 : decode cX3_release 42 = .ok (.iload_n 2, 1) := by decide +kernel
theorem dX3_release_43 : decode cX3_release 43 = .ok (.putfield 46, 3) := by decide +kernel
theorem dX3_release_46 : decode cX3_release 46 = .ok (.iinc 2 (-1), 3) := by decide +kernel
theorem dX3_release_49 : decode cX3_release 49 = .ok (.goto (-42), 3) := by decide +kernel
theorem dX3_release_52 : decode cX3_release 52 = .ok (.return_, 1) := by decide +kernel
theorem dX3_isLetter_0 : decode cX3_isLetter 0 = .ok (.aload_n 0, 1) := by decide +kernel
theorem dX3_isLetter_1 : decode cX3_isLetter 1 = .ok (.getfield 19, 3) := by decide +kernel
theorem dX3_isLetter_4 : decode cX3_isLetter 4 = .ok (.ifCond .eq 8, 3) := by decide +kernel
theorem dX3_isLetter_7 : decode cX3_isLetter 7 = .ok (.ldc 125, 2) := by decide +kernel
theorem dX3_isLetter_9 : decode cX3_isLetter 9 = .ok (.goto 5, 3) := by decide +kernel
theorem dX3_isLetter_12 : decode cX3_isLetter 12 = .ok (.ldc 127, 2) := by decide +kernel
theorem dX3_isLetter_14 : decode cX3_isLetter 14 = .ok (.astore_n 2, 1) := by decide +kernel
theorem dX3_isLetter_15 : decode cX3_isLetter 15 = .ok (.iload_n 1, 1) := by decide +kernel
theorem dX3_isLetter_16 : decode cX3_isLetter 16 = .ok (.bipush 97, 2) := by decide +kernel
theorem dX3_isLetter_18 : decode cX3_isLetter 18 = .ok (.if_icmp .lt 22, 3) := by decide +kernel
theorem dX3_isLetter_21 : decode cX3_isLetter 21 = .ok (.iload_n 1, 1) := by decide +kernel
theorem dX3_isLetter_22 : decode cX3_isLetter 22 = .ok (.bipush 122, 2) := by decide +kernel
theorem dX3_isLetter_24 : decode cX3_isLetter 24 = .ok (.if_icmp .gt 16, 3) := by decide +kernel
theorem dX3_isLetter_27 : decode cX3_isLetter 27 = .ok (.aload_n 2, 1) := by decide +kernel
theorem dX3_isLetter_28 : decode cX3_isLetter 28 = .ok (.iload_n 1, 1) := by decide +kernel
theorem dX3_isLetter_29 : decode cX3_isLetter 29 = .ok (.i2c, 1) := by decide +kernel
theorem dX3_isLetter_30 : decode cX3_isLetter 30 = .ok (.invokevirtual 129, 3) := by decide +kernel
theorem dX3_isLetter_33 : decode cX3_isLetter 33 = .ok (.ifCond .lt 7, 3) := by decide +kernel
theorem dX3_isLetter_36 : decode cX3_isLetter 36 = .ok (.iconst 1, 1) := by decide +kernel
theorem dX3_isLetter_37 : decode cX3_isLetter 37 = .ok (.goto 4, 3) := by decide +kernel
theorem dX3_isLetter_40 : decode cX3_isLetter 40 = .ok (.iconst 0, 1) := by decide +kernel
theorem dX3_isLetter_41 : decode cX3_isLetter 41 = .ok (.ireturn, 1) := by decide +kernel
theorem dX3_isDigit_0 : decode cX3_isDigit 0 = .ok (.iload_n 0, 1) := by decide +kernel
theorem dX3_isDigit_1 : decode cX3_isDigit 1 = .ok (.bipush 48, 2) := by decide +kernel
theorem dX3_isDigit_3 : decode cX3_isDigit 3 = .ok (.if_icmp .lt 13, 3) := by decide +kernel
theorem dX3_isDigit_6 : decode cX3_isDigit 6 = .ok (.iload_n 0, 1) := by decide +kernel
theorem dX3_isDigit_7 : decode cX3_isDigit 7 = .ok (.bipush 57, 2) := by decide +kernel
theorem dX3_isDigit_9 : decode cX3_isDigit 9 = .ok (.if_icmp .gt 7, 3) := by decide +kernel
theorem dX3_isDigit_12 : decode cX3_isDigit 12 = .ok (.iconst 1, 1) := by decide +kernel
theorem dX3_isDigit_13 : decode cX3_isDigit 13 = .ok (.goto 4, 3) := by decide +kernel
theorem dX3_isDigit_16 : decode cX3_isDigit 16 = .ok (.iconst 0, 1) := by decide +kernel
theorem dX3_isDigit_17 : decode cX3_isDigit 17 = .ok (.ireturn, 1) := by decide +kernel
theorem dX3_levelOf_0 : decode cX3_levelOf 0 = .ok (.iload_n 0, 1) := by decide +kernel
theorem dX3_levelOf_1 : decode cX3_levelOf 1 = .ok (.lookupswitch 104 #[(33, 101), (38, 93), (42, 99), (43, 97), (45, 97), (60, 95), (61, 95), (62, 95), (124, 91), (126, 101)], 91) := by decide +kernel
theorem dX3_levelOf_92 : decode cX3_levelOf 92 = .ok (.iconst 1, 1) := by decide +kernel
theorem dX3_levelOf_93 : decode cX3_levelOf 93 = .ok (.ireturn, 1) := by decide +kernel
theorem dX3_levelOf_94 : decode cX3_levelOf 94 = .ok (.iconst 2, 1) := by decide +kernel
theorem dX3_levelOf_95 : decode cX3_levelOf 95 = .ok (.ireturn, 1) := by decide +kernel
theorem dX3_levelOf_96 : decode cX3_levelOf 96 = .ok (.iconst 3, 1) := by decide +kernel
theorem dX3_levelOf_97 : decode cX3_levelOf 97 = .ok (.ireturn, 1) := by decide +kernel
theorem dX3_levelOf_98 : decode cX3_levelOf 98 = .ok (.iconst 4, 1) := by decide +kernel
theorem dX3_levelOf_99 : decode cX3_levelOf 99 = .ok (.ireturn, 1) := by decide +kernel
theorem dX3_levelOf_100 : decode cX3_levelOf 100 = .ok (.iconst 5, 1) := by decide +kernel
theorem dX3_levelOf_101 : decode cX3_levelOf 101 = .ok (.ireturn, 1) := by decide +kernel
theorem dX3_levelOf_102 : decode cX3_levelOf 102 = .ok (.bipush 6, 2) := by decide +kernel
theorem dX3_levelOf_104 : decode cX3_levelOf 104 = .ok (.ireturn, 1) := by decide +kernel
theorem dX3_levelOf_105 : decode cX3_levelOf 105 = .ok (.iconst 0, 1) := by decide +kernel
theorem dX3_levelOf_106 : decode cX3_levelOf 106 = .ok (.ireturn, 1) := by decide +kernel
theorem dX4_let_0 : decode cX4_let 0 = .ok (.iload_n 1, 1) := by decide +kernel
theorem dX4_let_1 : decode cX4_let 1 = .ok (.bipush 97, 2) := by decide +kernel
theorem dX4_let_3 : decode cX4_let 3 = .ok (.isub, 1) := by decide +kernel
theorem dX4_let_4 : decode cX4_let 4 = .ok (.bipush 26, 2) := by decide +kernel
theorem dX4_let_6 : decode cX4_let 6 = .ok (.invokestatic 18, 3) := by decide +kernel
theorem dX4_let_9 : decode cX4_let 9 = .ok (.ifCond .eq 13, 3) := by decide +kernel
theorem dX4_let_12 : decode cX4_let 12 = .ok (.aload_n 0, 1) := by decide +kernel
theorem dX4_let_13 : decode cX4_let 13 = .ok (.getfield 11, 3) := by decide +kernel
theorem dX4_let_16 : decode cX4_let 16 = .ok (.iload_n 1, 1) := by decide +kernel
theorem dX4_let_17 : decode cX4_let 17 = .ok (.bipush 97, 2) := by decide +kernel
theorem dX4_let_19 : decode cX4_let 19 = .ok (.isub, 1) := by decide +kernel
theorem dX4_let_20 : decode cX4_let 20 = .ok (.iload_n 2, 1) := by decide +kernel
theorem dX4_let_21 : decode cX4_let 21 = .ok (.iastore, 1) := by decide +kernel
theorem dX4_let_22 : decode cX4_let 22 = .ok (.return_, 1) := by decide +kernel
theorem dX4_firstTrue_0 : decode cX4_firstTrue 0 = .ok (.iconst 0, 1) := by decide +kernel
theorem dX4_firstTrue_1 : decode cX4_firstTrue 1 = .ok (.istore_n 2, 1) := by decide +kernel
theorem dX4_firstTrue_2 : decode cX4_firstTrue 2 = .ok (.iload_n 2, 1) := by decide +kernel
theorem dX4_firstTrue_3 : decode cX4_firstTrue 3 = .ok (.aload_n 1, 1) := by decide +kernel
theorem dX4_firstTrue_4 : decode cX4_firstTrue 4 = .ok (.getfield 22, 3) := by decide +kernel
theorem dX4_firstTrue_7 : decode cX4_firstTrue 7 = .ok (.if_icmp .ge 20, 3) := by decide +kernel
theorem dX4_firstTrue_10 : decode cX4_firstTrue 10 = .ok (.aload_n 0, 1) := by decide +kernel
theorem dX4_firstTrue_11 : decode cX4_firstTrue 11 = .ok (.aload_n 1, 1) := by decide +kernel
theorem dX4_firstTrue_12 : decode cX4_firstTrue 12 = .ok (.iload_n 2, 1) := by decide +kernel
theorem dX4_firstTrue_13 : decode cX4_firstTrue 13 = .ok (.invokevirtual 28, 3) := by decide +kernel
theorem dX4_firstTrue_16 : decode cX4_firstTrue 16 = .ok (.ifCond .eq 5, 3) := by decide +kernel
theorem dX4_firstTrue_19 : decode cX4_firstTrue 19 = .ok (.iload_n 2, 1) := by decide +kernel
theorem dX4_firstTrue_20 : decode cX4_firstTrue 20 = .ok (.ireturn, 1) := by decide +kernel
theorem dX4_firstTrue_21 : decode cX4_firstTrue 21 = .ok (.iinc 2 1, 3) := by decide +kernel
theorem dX4_firstTrue_24 : decode cX4_firstTrue 24 = .ok (.goto (-22), 3) := by decide +kernel
theorem dX4_firstTrue_27 : decode cX4_firstTrue 27 = .ok (.iconst (-1), 1) := by decide +kernel
theorem dX4_firstTrue_28 : decode cX4_firstTrue 28 = .ok (.ireturn, 1) := by decide +kernel
theorem dX4_holds_0 : decode cX4_holds 0 = .ok (.iload_n 2, 1) := by decide +kernel
theorem dX4_holds_1 : decode cX4_holds 1 = .ok (.bipush 21, 2) := by decide +kernel
theorem dX4_holds_3 : decode cX4_holds 3 = .ok (.invokestatic 18, 3) := by decide +kernel
theorem dX4_holds_6 : decode cX4_holds 6 = .ok (.ifCond .ne 5, 3) := by decide +kernel
theorem dX4_holds_9 : decode cX4_holds 9 = .ok (.iconst 0, 1) := by decide +kernel
theorem dX4_holds_10 : decode cX4_holds 10 = .ok (.ireturn, 1) := by decide +kernel
theorem dX4_holds_11 : decode cX4_holds 11 = .ok (.iload_n 2, 1) := by decide +kernel
theorem dX4_holds_12 : decode cX4_holds 12 = .ok (.ifCond .ne 7, 3) := by decide +kernel
theorem dX4_holds_15 : decode cX4_holds 15 = .ok (.iconst 0, 1) := by decide +kernel
theorem dX4_holds_16 : decode cX4_holds 16 = .ok (.goto 11, 3) := by decide +kernel
theorem dX4_holds_19 : decode cX4_holds 19 = .ok (.aload_n 1, 1) := by decide +kernel
theorem dX4_holds_20 : decode cX4_holds 20 = .ok (.getfield 32, 3) := by decide +kernel
theorem dX4_holds_23 : decode cX4_holds 23 = .ok (.iload_n 2, 1) := by decide +kernel
theorem dX4_holds_24 : decode cX4_holds 24 = .ok (.iconst 1, 1) := by decide +kernel
theorem dX4_holds_25 : decode cX4_holds 25 = .ok (.isub, 1) := by decide +kernel
theorem dX4_holds_26 : decode cX4_holds 26 = .ok (.iaload, 1) := by decide +kernel
theorem dX4_holds_27 : decode cX4_holds 27 = .ok (.istore_n 3, 1) := by decide +kernel
theorem dX4_holds_28 : decode cX4_holds 28 = .ok (.aload_n 1, 1) := by decide +kernel
theorem dX4_holds_29 : decode cX4_holds 29 = .ok (.getfield 32, 3) := by decide +kernel
theorem dX4_holds_32 : decode cX4_holds 32 = .ok (.iload_n 2, 1) := by decide +kernel
theorem dX4_holds_33 : decode cX4_holds 33 = .ok (.iaload, 1) := by decide +kernel
theorem dX4_holds_34 : decode cX4_holds 34 = .ok (.bipush 60, 2) := by decide +kernel
theorem dX4_holds_36 : decode cX4_holds 36 = .ok (.invokestatic 35, 3) := by decide +kernel
theorem dX4_holds_39 : decode cX4_holds 39 = .ok (.istore 4, 2) := by decide +kernel
theorem dX4_holds_41 : decode cX4_holds 41 = .ok (.iconst (-1), 1) := by decide +kernel
theorem dX4_holds_42 : decode cX4_holds 42 = .ok (.istore 5, 2) := by decide +kernel
theorem dX4_holds_44 : decode cX4_holds 44 = .ok (.iload_n 3, 1) := by decide +kernel
theorem dX4_holds_45 : decode cX4_holds 45 = .ok (.istore 6, 2) := by decide +kernel
theorem dX4_holds_47 : decode cX4_holds 47 = .ok (.iload 6, 2) := by decide +kernel
theorem dX4_holds_49 : decode cX4_holds 49 = .ok (.iload 4, 2) := by decide +kernel
theorem dX4_holds_51 : decode cX4_holds 51 = .ok (.if_icmp .ge 159, 3) := by decide +kernel
theorem dX4_holds_54 : decode cX4_holds 54 = .ok (.aload_n 1, 1) := by decide +kernel
theorem dX4_holds_55 : decode cX4_holds 55 = .ok (.getfield 41, 3) := by decide +kernel
theorem dX4_holds_58 : decode cX4_holds 58 = .ok (.iload 6, 2) := by decide +kernel
theorem dX4_holds_60 : decode cX4_holds 60 = .ok (.iaload, 1) := by decide +kernel
theorem dX4_holds_61 : decode cX4_holds 61 = .ok (.istore 7, 2) := by decide +kernel
theorem dX4_holds_63 : decode cX4_holds 63 = .ok (.iload 7, 2) := by decide +kernel
theorem dX4_holds_65 : decode cX4_holds 65 = .ok (.sipush 2000, 3) := by decide +kernel
theorem dX4_holds_68 : decode cX4_holds 68 = .ok (.if_icmp .ge 30, 3) := by decide +kernel
theorem dX4_holds_71 : decode cX4_holds 71 = .ok (.iload 5, 2) := by decide +kernel
theorem dX4_holds_73 : decode cX4_holds 73 = .ok (.iconst 1, 1) := by decide +kernel
theorem dX4_holds_74 : decode cX4_holds 74 = .ok (.iadd, 1) := by decide +kernel
theorem dX4_holds_75 : decode cX4_holds 75 = .ok (.bipush 59, 2) := by decide +kernel
theorem dX4_holds_77 : decode cX4_holds 77 = .ok (.invokestatic 35, 3) := by decide +kernel
theorem dX4_holds_80 : decode cX4_holds 80 = .ok (.istore 5, 2) := by decide +kernel
theorem dX4_holds_82 : decode cX4_holds 82 = .ok (.aload_n 0, 1) := by decide +kernel
theorem dX4_holds_83 : decode cX4_holds 83 = .ok (.getfield 15, 3) := by decide +kernel
theorem dX4_holds_86 : decode cX4_holds 86 = .ok (.iload 5, 2) := by decide +kernel
theorem dX4_holds_88 : decode cX4_holds 88 = .ok (.aload_n 0, 1) := by decide +kernel
theorem dX4_holds_89 : decode cX4_holds 89 = .ok (.iload 7, 2) := by decide +kernel
theorem dX4_holds_91 : decode cX4_holds 91 = .ok (.invokevirtual 44, 3) := by decide +kernel
theorem dX4_holds_94 : decode cX4_holds 94 = .ok (.iastore, 1) := by decide +kernel
theorem dX4_holds_95 : decode cX4_holds 95 = .ok (.goto 109, 3) := by decide +kernel
theorem dX4_holds_98 : decode cX4_holds 98 = .ok (.iload 5, 2) := by decide +kernel
theorem dX4_holds_100 : decode cX4_holds 100 = .ok (.ifCond .lt 63, 3) := by decide +kernel
theorem dX4_holds_103 : decode cX4_holds 103 = .ok (.iload 7, 2) := by decide +kernel
theorem dX4_holds_105 : decode cX4_holds 105 = .ok (.sipush 2033, 3) := by decide +kernel
theorem dX4_holds_108 : decode cX4_holds 108 = .ok (.if_icmp .eq 11, 3) := by decide +kernel
theorem dX4_holds_111 : decode cX4_holds 111 = .ok (.iload 7, 2) := by decide +kernel
theorem dX4_holds_113 : decode cX4_holds 113 = .ok (.sipush 2126, 3) := by decide +kernel
theorem dX4_holds_116 : decode cX4_holds 116 = .ok (.if_icmp .ne 47, 3) := by decide +kernel
theorem dX4_holds_119 : decode cX4_holds 119 = .ok (.aload_n 0, 1) := by decide +kernel
theorem dX4_holds_120 : decode cX4_holds 120 = .ok (.getfield 15, 3) := by decide +kernel
theorem dX4_holds_123 : decode cX4_holds 123 = .ok (.iload 5, 2) := by decide +kernel
theorem dX4_holds_125 : decode cX4_holds 125 = .ok (.iload 7, 2) := by decide +kernel
theorem dX4_holds_127 : decode cX4_holds 127 = .ok (.sipush 2126, 3) := by decide +kernel
theorem dX4_holds_130 : decode cX4_holds 130 = .ok (.if_icmp .ne 14, 3) := by decide +kernel
theorem dX4_holds_133 : decode cX4_holds 133 = .ok (.aload_n 0, 1) := by decide +kernel
theorem dX4_holds_134 : decode cX4_holds 134 = .ok (.getfield 15, 3) := by decide +kernel
theorem dX4_holds_137 : decode cX4_holds 137 = .ok (.iload 5, 2) := by decide +kernel
theorem dX4_holds_139 : decode cX4_holds 139 = .ok (.iaload, 1) := by decide +kernel
theorem dX4_holds_140 : decode cX4_holds 140 = .ok (.ineg, 1) := by decide +kernel
theorem dX4_holds_141 : decode cX4_holds 141 = .ok (.goto 18, 3) := by decide +kernel
theorem dX4_holds_144 : decode cX4_holds 144 = .ok (.aload_n 0, 1) := by decide +kernel
theorem dX4_holds_145 : decode cX4_holds 145 = .ok (.getfield 15, 3) := by decide +kernel
theorem dX4_holds_148 : decode cX4_holds 148 = .ok (.iload 5, 2) := by decide +kernel
theorem dX4_holds_150 : decode cX4_holds 150 = .ok (.iaload, 1) := by decide +kernel
theorem dX4_holds_151 : decode cX4_holds 151 = .ok (.ifCond .ne 7, 3) := by decide +kernel
theorem dX4_holds_154 : decode cX4_holds 154 = .ok (.iconst 1, 1) := by decide +kernel
theorem dX4_holds_155 : decode cX4_holds 155 = .ok (.goto 4, 3) := by decide +kernel
theorem dX4_holds_158 : decode cX4_holds 158 = .ok (.iconst 0, 1) := by decide +kernel
theorem dX4_holds_159 : decode cX4_holds 159 = .ok (.iastore, 1) := by decide +kernel
theorem dX4_holds_160 : decode cX4_holds 160 = .ok (.goto 44, 3) := by decide +kernel
theorem dX4_holds_163 : decode cX4_holds 163 = .ok (.iload 5, 2) := by decide +kernel
theorem dX4_holds_165 : decode cX4_holds 165 = .ok (.iconst 1, 1) := by decide +kernel
theorem dX4_holds_166 : decode cX4_holds 166 = .ok (.if_icmp .lt 38, 3) := by decide +kernel
theorem dX4_holds_169 : decode cX4_holds 169 = .ok (.iinc 5 (-1), 3) := by decide +kernel
theorem dX4_holds_172 : decode cX4_holds 172 = .ok (.aload_n 0, 1) := by decide +kernel
theorem dX4_holds_173 : decode cX4_holds 173 = .ok (.getfield 15, 3) := by decide +kernel
theorem dX4_holds_176 : decode cX4_holds 176 = .ok (.iload 5, 2) := by decide +kernel
theorem dX4_holds_178 : decode cX4_holds 178 = .ok (.iload 7, 2) := by decide +kernel
theorem dX4_holds_180 : decode cX4_holds 180 = .ok (.sipush 2000, 3) := by decide +kernel
theorem dX4_holds_183 : decode cX4_holds 183 = .ok (.isub, 1) := by decide +kernel
theorem dX4_holds_184 : decode cX4_holds 184 = .ok (.aload_n 0, 1) := by decide +kernel
theorem dX4_holds_185 : decode cX4_holds 185 = .ok (.getfield 15, 3) := by decide +kernel
theorem dX4_holds_188 : decode cX4_holds 188 = .ok (.iload 5, 2) := by decide +kernel
theorem dX4_holds_190 : decode cX4_holds 190 = .ok (.iaload, 1) := by decide +kernel
theorem dX4_holds_191 : decode cX4_holds 191 = .ok (.aload_n 0, 1) := by decide +kernel
theorem dX4_holds_192 : decode cX4_holds 192 = .ok (.getfield 15, 3) := by decide +kernel
theorem dX4_holds_195 : decode cX4_holds 195 = .ok (.iload 5, 2) := by decide +kernel
theorem dX4_holds_197 : decode cX4_holds 197 = .ok (.iconst 1, 1) := by decide +kernel
theorem dX4_holds_198 : decode cX4_holds 198 = .ok (.iadd, 1) := by decide +kernel
theorem dX4_holds_199 : decode cX4_holds 199 = .ok (.iaload, 1) := by decide +kernel
theorem dX4_holds_200 : decode cX4_holds 200 = .ok (.invokestatic 48, 3) := by decide +kernel
theorem dX4_holds_203 : decode cX4_holds 203 = .ok (.iastore, 1) := by decide +kernel
theorem dX4_holds_204 : decode cX4_holds 204 = .ok (.iinc 6 1, 3) := by decide +kernel
theorem dX4_holds_207 : decode cX4_holds 207 = .ok (.goto (-160), 3) := by decide +kernel
theorem dX4_holds_210 : decode cX4_holds 210 = .ok (.iload_n 3, 1) := by decide +kernel
theorem dX4_holds_211 : decode cX4_holds 211 = .ok (.iload 4, 2) := by decide +kernel
theorem dX4_holds_213 : decode cX4_holds 213 = .ok (.if_icmp .eq 12, 3) := by decide +kernel
theorem dX4_holds_216 : decode cX4_holds 216 = .ok (.aload_n 0, 1) := by decide +kernel
theorem dX4_holds_217 : decode cX4_holds 217 = .ok (.getfield 15, 3) := by decide +kernel
theorem dX4_holds_220 : decode cX4_holds 220 = .ok (.iconst 0, 1) := by decide +kernel
theorem dX4_holds_221 : decode cX4_holds 221 = .ok (.iaload, 1) := by decide +kernel
theorem dX4_holds_222 : decode cX4_holds 222 = .ok (.ifCond .eq 7, 3) := by decide +kernel
theorem dX4_holds_225 : decode cX4_holds 225 = .ok (.iconst 1, 1) := by decide +kernel
theorem dX4_holds_226 : decode cX4_holds 226 = .ok (.goto 4, 3) := by decide +kernel
theorem dX4_holds_229 : decode cX4_holds 229 = .ok (.iconst 0, 1) := by decide +kernel
theorem dX4_holds_230 : decode cX4_holds 230 = .ok (.ireturn, 1) := by decide +kernel
theorem dX4_valueOf_0 : decode cX4_valueOf 0 = .ok (.iload_n 1, 1) := by decide +kernel
theorem dX4_valueOf_1 : decode cX4_valueOf 1 = .ok (.sipush 1000, 3) := by decide +kernel
theorem dX4_valueOf_4 : decode cX4_valueOf 4 = .ok (.if_icmp .ge 5, 3) := by decide +kernel
theorem dX4_valueOf_7 : decode cX4_valueOf 7 = .ok (.iload_n 1, 1) := by decide +kernel
theorem dX4_valueOf_8 : decode cX4_valueOf 8 = .ok (.ireturn, 1) := by decide +kernel
theorem dX4_valueOf_9 : decode cX4_valueOf 9 = .ok (.iload_n 1, 1) := by decide +kernel
theorem dX4_valueOf_10 : decode cX4_valueOf 10 = .ok (.sipush 1000, 3) := by decide +kernel
theorem dX4_valueOf_13 : decode cX4_valueOf 13 = .ok (.isub, 1) := by decide +kernel
theorem dX4_valueOf_14 : decode cX4_valueOf 14 = .ok (.istore_n 2, 1) := by decide +kernel
theorem dX4_valueOf_15 : decode cX4_valueOf 15 = .ok (.iload_n 2, 1) := by decide +kernel
theorem dX4_valueOf_16 : decode cX4_valueOf 16 = .ok (.bipush 26, 2) := by decide +kernel
theorem dX4_valueOf_18 : decode cX4_valueOf 18 = .ok (.if_icmp .ge 12, 3) := by decide +kernel
theorem dX4_valueOf_21 : decode cX4_valueOf 21 = .ok (.aload_n 0, 1) := by decide +kernel
theorem dX4_valueOf_22 : decode cX4_valueOf 22 = .ok (.getfield 11, 3) := by decide +kernel
theorem dX4_valueOf_25 : decode cX4_valueOf 25 = .ok (.iload_n 2, 1) := by decide +kernel
theorem dX4_valueOf_26 : decode cX4_valueOf 26 = .ok (.iaload, 1) := by decide +kernel
theorem dX4_valueOf_27 : decode cX4_valueOf 27 = .ok (.goto 4, 3) := by decide +kernel
theorem dX4_valueOf_30 : decode cX4_valueOf 30 = .ok (.iconst 0, 1) := by decide +kernel
theorem dX4_valueOf_31 : decode cX4_valueOf 31 = .ok (.ireturn, 1) := by decide +kernel
theorem dX4_join_0 : decode cX4_join 0 = .ok (.iload_n 0, 1) := by decide +kernel
theorem dX4_join_1 : decode cX4_join 1 = .ok (.lookupswitch 136 #[(38, 81), (43, 128), (45, 132), (60, 95), (61, 117), (62, 106), (124, 67)], 67) := by decide +kernel
theorem dX4_join_68 : decode cX4_join 68 = .ok (.iload_n 1, 1) := by decide +kernel
theorem dX4_join_69 : decode cX4_join 69 = .ok (.ifCond .ne 7, 3) := by decide +kernel
theorem dX4_join_72 : decode cX4_join 72 = .ok (.iload_n 2, 1) := by decide +kernel
theorem dX4_join_73 : decode cX4_join 73 = .ok (.ifCond .eq 7, 3) := by decide +kernel
theorem dX4_join_76 : decode cX4_join 76 = .ok (.iconst 1, 1) := by decide +kernel
theorem dX4_join_77 : decode cX4_join 77 = .ok (.goto 4, 3) := by decide +kernel
theorem dX4_join_80 : decode cX4_join 80 = .ok (.iconst 0, 1) := by decide +kernel
theorem dX4_join_81 : decode cX4_join 81 = .ok (.ireturn, 1) := by decide +kernel
theorem dX4_join_82 : decode cX4_join 82 = .ok (.iload_n 1, 1) := by decide +kernel
theorem dX4_join_83 : decode cX4_join 83 = .ok (.ifCond .eq 11, 3) := by decide +kernel
theorem dX4_join_86 : decode cX4_join 86 = .ok (.iload_n 2, 1) := by decide +kernel
theorem dX4_join_87 : decode cX4_join 87 = .ok (.ifCond .eq 7, 3) := by decide +kernel
theorem dX4_join_90 : decode cX4_join 90 = .ok (.iconst 1, 1) := by decide +kernel
theorem dX4_join_91 : decode cX4_join 91 = .ok (.goto 4, 3) := by decide +kernel
theorem dX4_join_94 : decode cX4_join 94 = .ok (.iconst 0, 1) := by decide +kernel
theorem dX4_join_95 : decode cX4_join 95 = .ok (.ireturn, 1) := by decide +kernel
theorem dX4_join_96 : decode cX4_join 96 = .ok (.iload_n 1, 1) := by decide +kernel
theorem dX4_join_97 : decode cX4_join 97 = .ok (.iload_n 2, 1) := by decide +kernel
theorem dX4_join_98 : decode cX4_join 98 = .ok (.if_icmp .ge 7, 3) := by decide +kernel
theorem dX4_join_101 : decode cX4_join 101 = .ok (.iconst 1, 1) := by decide +kernel
theorem dX4_join_102 : decode cX4_join 102 = .ok (.goto 4, 3) := by decide +kernel
theorem dX4_join_105 : decode cX4_join 105 = .ok (.iconst 0, 1) := by decide +kernel
theorem dX4_join_106 : decode cX4_join 106 = .ok (.ireturn, 1) := by decide +kernel
theorem dX4_join_107 : decode cX4_join 107 = .ok (.iload_n 1, 1) := by decide +kernel
theorem dX4_join_108 : decode cX4_join 108 = .ok (.iload_n 2, 1) := by decide +kernel
theorem dX4_join_109 : decode cX4_join 109 = .ok (.if_icmp .le 7, 3) := by decide +kernel
theorem dX4_join_112 : decode cX4_join 112 = .ok (.iconst 1, 1) := by decide +kernel
theorem dX4_join_113 : decode cX4_join 113 = .ok (.goto 4, 3) := by decide +kernel
theorem dX4_join_116 : decode cX4_join 116 = .ok (.iconst 0, 1) := by decide +kernel
theorem dX4_join_117 : decode cX4_join 117 = .ok (.ireturn, 1) := by decide +kernel
theorem dX4_join_118 : decode cX4_join 118 = .ok (.iload_n 1, 1) := by decide +kernel
theorem dX4_join_119 : decode cX4_join 119 = .ok (.iload_n 2, 1) := by decide +kernel
theorem dX4_join_120 : decode cX4_join 120 = .ok (.if_icmp .ne 7, 3) := by decide +kernel
theorem dX4_join_123 : decode cX4_join 123 = .ok (.iconst 1, 1) := by decide +kernel
theorem dX4_join_124 : decode cX4_join 124 = .ok (.goto 4, 3) := by decide +kernel
theorem dX4_join_127 : decode cX4_join 127 = .ok (.iconst 0, 1) := by decide +kernel
theorem dX4_join_128 : decode cX4_join 128 = .ok (.ireturn, 1) := by decide +kernel
theorem dX4_join_129 : decode cX4_join 129 = .ok (.iload_n 1, 1) := by decide +kernel
theorem dX4_join_130 : decode cX4_join 130 = .ok (.iload_n 2, 1) := by decide +kernel
theorem dX4_join_131 : decode cX4_join 131 = .ok (.iadd, 1) := by decide +kernel
theorem dX4_join_132 : decode cX4_join 132 = .ok (.ireturn, 1) := by decide +kernel
theorem dX4_join_133 : decode cX4_join 133 = .ok (.iload_n 1, 1) := by decide +kernel
theorem dX4_join_134 : decode cX4_join 134 = .ok (.iload_n 2, 1) := by decide +kernel
theorem dX4_join_135 : decode cX4_join 135 = .ok (.isub, 1) := by decide +kernel
theorem dX4_join_136 : decode cX4_join 136 = .ok (.ireturn, 1) := by decide +kernel
theorem dX4_join_137 : decode cX4_join 137 = .ok (.iload_n 1, 1) := by decide +kernel
theorem dX4_join_138 : decode cX4_join 138 = .ok (.iload_n 2, 1) := by decide +kernel
theorem dX4_join_139 : decode cX4_join 139 = .ok (.imul, 1) := by decide +kernel
theorem dX4_join_140 : decode cX4_join 140 = .ok (.ireturn, 1) := by decide +kernel
theorem dX5_reckonFor_0 : decode cX5_reckonFor 0 = .ok (.iconst 0, 1) := by decide +kernel
theorem dX5_reckonFor_1 : decode cX5_reckonFor 1 = .ok (.istore_n 2, 1) := by decide +kernel
theorem dX5_reckonFor_2 : decode cX5_reckonFor 2 = .ok (.iload_n 2, 1) := by decide +kernel
theorem dX5_reckonFor_3 : decode cX5_reckonFor 3 = .ok (.aload_n 0, 1) := by decide +kernel
theorem dX5_reckonFor_4 : decode cX5_reckonFor 4 = .ok (.getfield 9, 3) := by decide +kernel
theorem dX5_reckonFor_7 : decode cX5_reckonFor 7 = .ok (.getfield 30, 3) := by decide +kernel
theorem dX5_reckonFor_10 : decode cX5_reckonFor 10 = .ok (.if_icmp .ge 127, 3) := by decide +kernel
theorem dX5_reckonFor_13 : decode cX5_reckonFor 13 = .ok (.iload_n 2, 1) := by decide +kernel
theorem dX5_reckonFor_14 : decode cX5_reckonFor 14 = .ok (.bipush 6, 2) := by decide +kernel
theorem dX5_reckonFor_16 : decode cX5_reckonFor 16 = .ok (.if_icmp .ge 121, 3) := by decide +kernel
theorem dX5_reckonFor_19 : decode cX5_reckonFor 19 = .ok (.aload_n 0, 1) := by decide +kernel
theorem dX5_reckonFor_20 : decode cX5_reckonFor 20 = .ok (.getfield 9, 3) := by decide +kernel
theorem dX5_reckonFor_23 : decode cX5_reckonFor 23 = .ok (.getfield 36, 3) := by decide +kernel
theorem dX5_reckonFor_26 : decode cX5_reckonFor 26 = .ok (.iload_n 2, 1) := by decide +kernel
theorem dX5_reckonFor_27 : decode cX5_reckonFor 27 = .ok (.aaload, 1) := by decide +kernel
theorem dX5_reckonFor_28 : decode cX5_reckonFor 28 = .ok (.astore_n 3, 1) := by decide +kernel
theorem dX5_reckonFor_29 : decode cX5_reckonFor 29 = .ok (.aload_n 0, 1) := by decide +kernel
theorem dX5_reckonFor_30 : decode cX5_reckonFor 30 = .ok (.getfield 23, 3) := by decide +kernel
theorem dX5_reckonFor_33 : decode cX5_reckonFor 33 = .ok (.iload_n 2, 1) := by decide +kernel
theorem dX5_reckonFor_34 : decode cX5_reckonFor 34 = .ok (.aload_n 0, 1) := by decide +kernel
theorem dX5_reckonFor_35 : decode cX5_reckonFor 35 = .ok (.getfield 9, 3) := by decide +kernel
theorem dX5_reckonFor_38 : decode cX5_reckonFor 38 = .ok (.iload_n 2, 1) := by decide +kernel
theorem dX5_reckonFor_39 : decode cX5_reckonFor 39 = .ok (.invokevirtual 40, 3) := by decide +kernel
theorem dX5_reckonFor_42 : decode cX5_reckonFor 42 = .ok (.iastore, 1) := by decide +kernel
theorem dX5_reckonFor_43 : decode cX5_reckonFor 43 = .ok (.aload_n 0, 1) := by decide +kernel
theorem dX5_reckonFor_44 : decode cX5_reckonFor 44 = .ok (.getfield 15, 3) := by decide +kernel
theorem dX5_reckonFor_47 : decode cX5_reckonFor 47 = .ok (.aload_n 0, 1) := by decide +kernel
theorem dX5_reckonFor_48 : decode cX5_reckonFor 48 = .ok (.getfield 9, 3) := by decide +kernel
theorem dX5_reckonFor_51 : decode cX5_reckonFor 51 = .ok (.getfield 44, 3) := by decide +kernel
theorem dX5_reckonFor_54 : decode cX5_reckonFor 54 = .ok (.iload_n 2, 1) := by decide +kernel
theorem dX5_reckonFor_55 : decode cX5_reckonFor 55 = .ok (.aaload, 1) := by decide +kernel
theorem dX5_reckonFor_56 : decode cX5_reckonFor 56 = .ok (.aload_n 3, 1) := by decide +kernel
theorem dX5_reckonFor_57 : decode cX5_reckonFor 57 = .ok (.aload_n 0, 1) := by decide +kernel
theorem dX5_reckonFor_58 : decode cX5_reckonFor 58 = .ok (.getfield 23, 3) := by decide +kernel
theorem dX5_reckonFor_61 : decode cX5_reckonFor 61 = .ok (.iload_n 2, 1) := by decide +kernel
theorem dX5_reckonFor_62 : decode cX5_reckonFor 62 = .ok (.iaload, 1) := by decide +kernel
theorem dX5_reckonFor_63 : decode cX5_reckonFor 63 = .ok (.aload_n 0, 1) := by decide +kernel
theorem dX5_reckonFor_64 : decode cX5_reckonFor 64 = .ok (.getfield 15, 3) := by decide +kernel
theorem dX5_reckonFor_67 : decode cX5_reckonFor 67 = .ok (.iload_n 2, 1) := by decide +kernel
theorem dX5_reckonFor_68 : decode cX5_reckonFor 68 = .ok (.iload_n 1, 1) := by decide +kernel
theorem dX5_reckonFor_69 : decode cX5_reckonFor 69 = .ok (.invokevirtual 48, 3) := by decide +kernel
theorem dX5_reckonFor_72 : decode cX5_reckonFor 72 = .ok (.iload_n 1, 1) := by decide +kernel
theorem dX5_reckonFor_73 : decode cX5_reckonFor 73 = .ok (.invokevirtual 54, 3) := by decide +kernel
theorem dX5_reckonFor_76 : decode cX5_reckonFor 76 = .ok (.istore 4, 2) := by decide +kernel
theorem dX5_reckonFor_78 : decode cX5_reckonFor 78 = .ok (.aload_n 0, 1) := by decide +kernel
theorem dX5_reckonFor_79 : decode cX5_reckonFor 79 = .ok (.getfield 19, 3) := by decide +kernel
theorem dX5_reckonFor_82 : decode cX5_reckonFor 82 = .ok (.iload_n 2, 1) := by decide +kernel
theorem dX5_reckonFor_83 : decode cX5_reckonFor 83 = .ok (.aload_n 3, 1) := by decide +kernel
theorem dX5_reckonFor_84 : decode cX5_reckonFor 84 = .ok (.getfield 58, 3) := by decide +kernel
theorem dX5_reckonFor_87 : decode cX5_reckonFor 87 = .ok (.iconst 2, 1) := by decide +kernel
theorem dX5_reckonFor_88 : decode cX5_reckonFor 88 = .ok (.if_icmp .eq 14, 3) := by decide +kernel
theorem dX5_reckonFor_91 : decode cX5_reckonFor 91 = .ok (.iload 4, 2) := by decide +kernel
theorem dX5_reckonFor_93 : decode cX5_reckonFor 93 = .ok (.bipush (-2), 2) := by decide +kernel
theorem dX5_reckonFor_95 : decode cX5_reckonFor 95 = .ok (.if_icmp .eq 7, 3) := by decide +kernel
theorem dX5_reckonFor_98 : decode cX5_reckonFor 98 = .ok (.iconst 1, 1) := by decide +kernel
theorem dX5_reckonFor_99 : decode cX5_reckonFor 99 = .ok (.goto 4, 3) := by decide +kernel
theorem dX5_reckonFor_102 : decode cX5_reckonFor 102 = .ok (.iconst 0, 1) := by decide +kernel
theorem dX5_reckonFor_103 : decode cX5_reckonFor 103 = .ok (.bastore, 1) := by decide +kernel
theorem dX5_reckonFor_104 : decode cX5_reckonFor 104 = .ok (.aload_n 0, 1) := by decide +kernel
theorem dX5_reckonFor_105 : decode cX5_reckonFor 105 = .ok (.getfield 27, 3) := by decide +kernel
theorem dX5_reckonFor_108 : decode cX5_reckonFor 108 = .ok (.iload_n 2, 1) := by decide +kernel
theorem dX5_reckonFor_109 : decode cX5_reckonFor 109 = .ok (.aload_n 3, 1) := by decide +kernel
theorem dX5_reckonFor_110 : decode cX5_reckonFor 110 = .ok (.getfield 63, 3) := by decide +kernel
theorem dX5_reckonFor_113 : decode cX5_reckonFor 113 = .ok (.sipush 1000, 3) := by decide +kernel
theorem dX5_reckonFor_116 : decode cX5_reckonFor 116 = .ok (.iload 4, 2) := by decide +kernel
theorem dX5_reckonFor_118 : decode cX5_reckonFor 118 = .ok (.imul, 1) := by decide +kernel
theorem dX5_reckonFor_119 : decode cX5_reckonFor 119 = .ok (.iadd, 1) := by decide +kernel
theorem dX5_reckonFor_120 : decode cX5_reckonFor 120 = .ok (.aload_n 0, 1) := by decide +kernel
theorem dX5_reckonFor_121 : decode cX5_reckonFor 121 = .ok (.getfield 15, 3) := by decide +kernel
theorem dX5_reckonFor_124 : decode cX5_reckonFor 124 = .ok (.iload_n 2, 1) := by decide +kernel
theorem dX5_reckonFor_125 : decode cX5_reckonFor 125 = .ok (.iload_n 1, 1) := by decide +kernel
theorem dX5_reckonFor_126 : decode cX5_reckonFor 126 = .ok (.invokevirtual 66, 3) := by decide +kernel
theorem dX5_reckonFor_129 : decode cX5_reckonFor 129 = .ok (.iadd, 1) := by decide +kernel
theorem dX5_reckonFor_130 : decode cX5_reckonFor 130 = .ok (.iastore, 1) := by decide +kernel
theorem dX5_reckonFor_131 : decode cX5_reckonFor 131 = .ok (.iinc 2 1, 3) := by decide +kernel
theorem dX5_reckonFor_134 : decode cX5_reckonFor 134 = .ok (.goto (-132), 3) := by decide +kernel
theorem dX5_reckonFor_137 : decode cX5_reckonFor 137 = .ok (.return_, 1) := by decide +kernel
theorem dX5_placeAmong_0 : decode cX5_placeAmong 0 = .ok (.aload_n 0, 1) := by decide +kernel
theorem dX5_placeAmong_1 : decode cX5_placeAmong 1 = .ok (.getfield 9, 3) := by decide +kernel
theorem dX5_placeAmong_4 : decode cX5_placeAmong 4 = .ok (.iload_n 1, 1) := by decide +kernel
theorem dX5_placeAmong_5 : decode cX5_placeAmong 5 = .ok (.invokevirtual 69, 3) := by decide +kernel
theorem dX5_placeAmong_8 : decode cX5_placeAmong 8 = .ok (.ifCond .eq 12, 3) := by decide +kernel
theorem dX5_placeAmong_11 : decode cX5_placeAmong 11 = .ok (.aload_n 0, 1) := by decide +kernel
theorem dX5_placeAmong_12 : decode cX5_placeAmong 12 = .ok (.getfield 19, 3) := by decide +kernel
theorem dX5_placeAmong_15 : decode cX5_placeAmong 15 = .ok (.iload_n 1, 1) := by decide +kernel
theorem dX5_placeAmong_16 : decode cX5_placeAmong 16 = .ok (.baload, 1) := by decide +kernel
theorem dX5_placeAmong_17 : decode cX5_placeAmong 17 = .ok (.ifCond .ne 5, 3) := by decide +kernel
theorem dX5_placeAmong_20 : decode cX5_placeAmong 20 = .ok (.iconst (-1), 1) := by decide +kernel
theorem dX5_placeAmong_21 : decode cX5_placeAmong 21 = .ok (.ireturn, 1) := by decide +kernel
theorem dX5_placeAmong_22 : decode cX5_placeAmong 22 = .ok (.iconst 0, 1) := by decide +kernel
theorem dX5_placeAmong_23 : decode cX5_placeAmong 23 = .ok (.istore_n 3, 1) := by decide +kernel
theorem dX5_placeAmong_24 : decode cX5_placeAmong 24 = .ok (.iconst 0, 1) := by decide +kernel
theorem dX5_placeAmong_25 : decode cX5_placeAmong 25 = .ok (.istore 4, 2) := by decide +kernel
theorem dX5_placeAmong_27 : decode cX5_placeAmong 27 = .ok (.iload 4, 2) := by decide +kernel
theorem dX5_placeAmong_29 : decode cX5_placeAmong 29 = .ok (.aload_n 0, 1) := by decide +kernel
theorem dX5_placeAmong_30 : decode cX5_placeAmong 30 = .ok (.getfield 9, 3) := by decide +kernel
theorem dX5_placeAmong_33 : decode cX5_placeAmong 33 = .ok (.getfield 30, 3) := by decide +kernel
theorem dX5_placeAmong_36 : decode cX5_placeAmong 36 = .ok (.if_icmp .ge 73, 3) := by decide +kernel
theorem dX5_placeAmong_39 : decode cX5_placeAmong 39 = .ok (.iload 4, 2) := by decide +kernel
theorem dX5_placeAmong_41 : decode cX5_placeAmong 41 = .ok (.bipush 6, 2) := by decide +kernel
theorem dX5_placeAmong_43 : decode cX5_placeAmong 43 = .ok (.if_icmp .ge 66, 3) := by decide +kernel
theorem dX5_placeAmong_46 : decode cX5_placeAmong 46 = .ok (.aload_n 0, 1) := by decide +kernel
theorem dX5_placeAmong_47 : decode cX5_placeAmong 47 = .ok (.getfield 19, 3) := by decide +kernel
theorem dX5_placeAmong_50 : decode cX5_placeAmong 50 = .ok (.iload 4, 2) := by decide +kernel
theorem dX5_placeAmong_52 : decode cX5_placeAmong 52 = .ok (.baload, 1) := by decide +kernel
theorem dX5_placeAmong_53 : decode cX5_placeAmong 53 = .ok (.ifCond .eq 29, 3) := by decide +kernel
theorem dX5_placeAmong_56 : decode cX5_placeAmong 56 = .ok (.iload_n 2, 1) := by decide +kernel
theorem dX5_placeAmong_57 : decode cX5_placeAmong 57 = .ok (.iconst (-1), 1) := by decide +kernel
theorem dX5_placeAmong_58 : decode cX5_placeAmong 58 = .ok (.if_icmp .eq 20, 3) := by decide +kernel
theorem dX5_placeAmong_61 : decode cX5_placeAmong 61 = .ok (.aload_n 0, 1) := by decide +kernel
theorem dX5_placeAmong_62 : decode cX5_placeAmong 62 = .ok (.getfield 9, 3) := by decide +kernel
theorem dX5_placeAmong_65 : decode cX5_placeAmong 65 = .ok (.getfield 44, 3) := by decide +kernel
theorem dX5_placeAmong_68 : decode cX5_placeAmong 68 = .ok (.iload 4, 2) := by decide +kernel
theorem dX5_placeAmong_70 : decode cX5_placeAmong 70 = .ok (.aaload, 1) := by decide +kernel
theorem dX5_placeAmong_71 : decode cX5_placeAmong 71 = .ok (.getfield 73, 3) := by decide +kernel
theorem dX5_placeAmong_74 : decode cX5_placeAmong 74 = .ok (.iload_n 2, 1) := by decide +kernel
theorem dX5_placeAmong_75 : decode cX5_placeAmong 75 = .ok (.if_icmp .ne 7, 3) := by decide +kernel
theorem dX5_placeAmong_78 : decode cX5_placeAmong 78 = .ok (.iconst 1, 1) := by decide +kernel
theorem dX5_placeAmong_79 : decode cX5_placeAmong 79 = .ok (.goto 4, 3) := by decide +kernel
theorem dX5_placeAmong_82 : decode cX5_placeAmong 82 = .ok (.iconst 0, 1) := by decide +kernel
theorem dX5_placeAmong_83 : decode cX5_placeAmong 83 = .ok (.istore 5, 2) := by decide +kernel
theorem dX5_placeAmong_85 : decode cX5_placeAmong 85 = .ok (.iload 5, 2) := by decide +kernel
theorem dX5_placeAmong_87 : decode cX5_placeAmong 87 = .ok (.ifCond .eq 16, 3) := by decide +kernel
theorem dX5_placeAmong_90 : decode cX5_placeAmong 90 = .ok (.aload_n 0, 1) := by decide +kernel
theorem dX5_placeAmong_91 : decode cX5_placeAmong 91 = .ok (.iload 4, 2) := by decide +kernel
theorem dX5_placeAmong_93 : decode cX5_placeAmong 93 = .ok (.iload_n 1, 1) := by decide +kernel
theorem dX5_placeAmong_94 : decode cX5_placeAmong 94 = .ok (.invokevirtual 78, 3) := by decide +kernel
theorem dX5_placeAmong_97 : decode cX5_placeAmong 97 = .ok (.ifCond .eq 6, 3) := by decide +kernel
theorem dX5_placeAmong_100 : decode cX5_placeAmong 100 = .ok (.iinc 3 1, 3) := by decide +kernel
theorem dX5_placeAmong_103 : decode cX5_placeAmong 103 = .ok (.iinc 4 1, 3) := by decide +kernel
theorem dX5_placeAmong_106 : decode cX5_placeAmong 106 = .ok (.goto (-79), 3) := by decide +kernel
theorem dX5_placeAmong_109 : decode cX5_placeAmong 109 = .ok (.iload_n 3, 1) := by decide +kernel
theorem dX5_placeAmong_110 : decode cX5_placeAmong 110 = .ok (.ireturn, 1) := by decide +kernel
theorem dX5_isAhead_0 : decode cX5_isAhead 0 = .ok (.aload_n 0, 1) := by decide +kernel
theorem dX5_isAhead_1 : decode cX5_isAhead 1 = .ok (.getfield 23, 3) := by decide +kernel
theorem dX5_isAhead_4 : decode cX5_isAhead 4 = .ok (.iload_n 1, 1) := by decide +kernel
theorem dX5_isAhead_5 : decode cX5_isAhead 5 = .ok (.iaload, 1) := by decide +kernel
theorem dX5_isAhead_6 : decode cX5_isAhead 6 = .ok (.aload_n 0, 1) := by decide +kernel
theorem dX5_isAhead_7 : decode cX5_isAhead 7 = .ok (.getfield 23, 3) := by decide +kernel
theorem dX5_isAhead_10 : decode cX5_isAhead 10 = .ok (.iload_n 2, 1) := by decide +kernel
theorem dX5_isAhead_11 : decode cX5_isAhead 11 = .ok (.iaload, 1) := by decide +kernel
theorem dX5_isAhead_12 : decode cX5_isAhead 12 = .ok (.if_icmp .eq 24, 3) := by decide +kernel
theorem dX5_isAhead_15 : decode cX5_isAhead 15 = .ok (.aload_n 0, 1) := by decide +kernel
theorem dX5_isAhead_16 : decode cX5_isAhead 16 = .ok (.getfield 23, 3) := by decide +kernel
theorem dX5_isAhead_19 : decode cX5_isAhead 19 = .ok (.iload_n 1, 1) := by decide +kernel
theorem dX5_isAhead_20 : decode cX5_isAhead 20 = .ok (.iaload, 1) := by decide +kernel
theorem dX5_isAhead_21 : decode cX5_isAhead 21 = .ok (.aload_n 0, 1) := by decide +kernel
theorem dX5_isAhead_22 : decode cX5_isAhead 22 = .ok (.getfield 23, 3) := by decide +kernel
theorem dX5_isAhead_25 : decode cX5_isAhead 25 = .ok (.iload_n 2, 1) := by decide +kernel
theorem dX5_isAhead_26 : decode cX5_isAhead 26 = .ok (.iaload, 1) := by decide +kernel
theorem dX5_isAhead_27 : decode cX5_isAhead 27 = .ok (.if_icmp .le 7, 3) := by decide +kernel
theorem dX5_isAhead_30 : decode cX5_isAhead 30 = .ok (.iconst 1, 1) := by decide +kernel
theorem dX5_isAhead_31 : decode cX5_isAhead 31 = .ok (.goto 4, 3) := by decide +kernel
theorem dX5_isAhead_34 : decode cX5_isAhead 34 = .ok (.iconst 0, 1) := by decide +kernel
theorem dX5_isAhead_35 : decode cX5_isAhead 35 = .ok (.ireturn, 1) := by decide +kernel
theorem dX5_isAhead_36 : decode cX5_isAhead 36 = .ok (.aload_n 0, 1) := by decide +kernel
theorem dX5_isAhead_37 : decode cX5_isAhead 37 = .ok (.getfield 27, 3) := by decide +kernel
theorem dX5_isAhead_40 : decode cX5_isAhead 40 = .ok (.iload_n 1, 1) := by decide +kernel
theorem dX5_isAhead_41 : decode cX5_isAhead 41 = .ok (.iaload, 1) := by decide +kernel
theorem dX5_isAhead_42 : decode cX5_isAhead 42 = .ok (.aload_n 0, 1) := by decide +kernel
theorem dX5_isAhead_43 : decode cX5_isAhead 43 = .ok (.getfield 27, 3) := by decide +kernel
theorem dX5_isAhead_46 : decode cX5_isAhead 46 = .ok (.iload_n 2, 1) := by decide +kernel
theorem dX5_isAhead_47 : decode cX5_isAhead 47 = .ok (.iaload, 1) := by decide +kernel
theorem dX5_isAhead_48 : decode cX5_isAhead 48 = .ok (.if_icmp .lt 23, 3) := by decide +kernel
theorem dX5_isAhead_51 : decode cX5_isAhead 51 = .ok (.aload_n 0, 1) := by decide +kernel
theorem dX5_isAhead_52 : decode cX5_isAhead 52 = .ok (.getfield 27, 3) := by decide +kernel
theorem dX5_isAhead_55 : decode cX5_isAhead 55 = .ok (.iload_n 1, 1) := by decide +kernel
theorem dX5_isAhead_56 : decode cX5_isAhead 56 = .ok (.iaload, 1) := by decide +kernel
theorem dX5_isAhead_57 : decode cX5_isAhead 57 = .ok (.aload_n 0, 1) := by decide +kernel
theorem dX5_isAhead_58 : decode cX5_isAhead 58 = .ok (.getfield 27, 3) := by decide +kernel
theorem dX5_isAhead_61 : decode cX5_isAhead 61 = .ok (.iload_n 2, 1) := by decide +kernel
theorem dX5_isAhead_62 : decode cX5_isAhead 62 = .ok (.iaload, 1) := by decide +kernel
theorem dX5_isAhead_63 : decode cX5_isAhead 63 = .ok (.if_icmp .ne 12, 3) := by decide +kernel
theorem dX5_isAhead_66 : decode cX5_isAhead 66 = .ok (.iload_n 1, 1) := by decide +kernel
theorem dX5_isAhead_67 : decode cX5_isAhead 67 = .ok (.iload_n 2, 1) := by decide +kernel
theorem dX5_isAhead_68 : decode cX5_isAhead 68 = .ok (.if_icmp .ge 7, 3) := by decide +kernel
theorem dX5_isAhead_71 : decode cX5_isAhead 71 = .ok (.iconst 1, 1) := by decide +kernel
theorem dX5_isAhead_72 : decode cX5_isAhead 72 = .ok (.goto 4, 3) := by decide +kernel
theorem dX5_isAhead_75 : decode cX5_isAhead 75 = .ok (.iconst 0, 1) := by decide +kernel
theorem dX5_isAhead_76 : decode cX5_isAhead 76 = .ok (.ireturn, 1) := by decide +kernel
theorem dX5_triedPlace_0 : decode cX5_triedPlace 0 = .ok (.aload_n 0, 1) := by decide +kernel
theorem dX5_triedPlace_1 : decode cX5_triedPlace 1 = .ok (.iload_n 1, 1) := by decide +kernel
theorem dX5_triedPlace_2 : decode cX5_triedPlace 2 = .ok (.iconst (-1), 1) := by decide +kernel
theorem dX5_triedPlace_3 : decode cX5_triedPlace 3 = .ok (.invokevirtual 82, 3) := by decide +kernel
theorem dX5_triedPlace_6 : decode cX5_triedPlace 6 = .ok (.istore_n 2, 1) := by decide +kernel
theorem dX5_triedPlace_7 : decode cX5_triedPlace 7 = .ok (.iload_n 2, 1) := by decide +kernel
theorem dX5_triedPlace_8 : decode cX5_triedPlace 8 = .ok (.iconst (-1), 1) := by decide +kernel
theorem dX5_triedPlace_9 : decode cX5_triedPlace 9 = .ok (.if_icmp .ne 8, 3) := by decide +kernel
theorem dX5_triedPlace_12 : decode cX5_triedPlace 12 = .ok (.bipush 99, 2) := by decide +kernel
theorem dX5_triedPlace_14 : decode cX5_triedPlace 14 = .ok (.goto 4, 3) := by decide +kernel
theorem dX5_triedPlace_17 : decode cX5_triedPlace 17 = .ok (.iload_n 2, 1) := by decide +kernel
theorem dX5_triedPlace_18 : decode cX5_triedPlace 18 = .ok (.ireturn, 1) := by decide +kernel
theorem dX5_triedSum_0 : decode cX5_triedSum 0 = .ok (.iload_n 1, 1) := by decide +kernel
theorem dX5_triedSum_1 : decode cX5_triedSum 1 = .ok (.bipush 6, 2) := by decide +kernel
theorem dX5_triedSum_3 : decode cX5_triedSum 3 = .ok (.invokestatic 85, 3) := by decide +kernel
theorem dX5_triedSum_6 : decode cX5_triedSum 6 = .ok (.ifCond .eq 21, 3) := by decide +kernel
theorem dX5_triedSum_9 : decode cX5_triedSum 9 = .ok (.aload_n 0, 1) := by decide +kernel
theorem dX5_triedSum_10 : decode cX5_triedSum 10 = .ok (.getfield 19, 3) := by decide +kernel
theorem dX5_triedSum_13 : decode cX5_triedSum 13 = .ok (.iload_n 1, 1) := by decide +kernel
theorem dX5_triedSum_14 : decode cX5_triedSum 14 = .ok (.baload, 1) := by decide +kernel
theorem dX5_triedSum_15 : decode cX5_triedSum 15 = .ok (.ifCond .eq 12, 3) := by decide +kernel
theorem dX5_triedSum_18 : decode cX5_triedSum 18 = .ok (.aload_n 0, 1) := by decide +kernel
theorem dX5_triedSum_19 : decode cX5_triedSum 19 = .ok (.getfield 27, 3) := by decide +kernel
theorem dX5_triedSum_22 : decode cX5_triedSum 22 = .ok (.iload_n 1, 1) := by decide +kernel
theorem dX5_triedSum_23 : decode cX5_triedSum 23 = .ok (.iaload, 1) := by decide +kernel
theorem dX5_triedSum_24 : decode cX5_triedSum 24 = .ok (.goto 4, 3) := by decide +kernel
theorem dX5_triedSum_27 : decode cX5_triedSum 27 = .ok (.iconst 0, 1) := by decide +kernel
theorem dX5_triedSum_28 : decode cX5_triedSum 28 = .ok (.ireturn, 1) := by decide +kernel
theorem dX6_start_0 : decode cX6_start 0 = .ok (.aload_n 0, 1) := by decide +kernel
theorem dX6_start_1 : decode cX6_start 1 = .ok (.iload_n 2, 1) := by decide +kernel
theorem dX6_start_2 : decode cX6_start 2 = .ok (.putfield 27, 3) := by decide +kernel
theorem dX6_start_5 : decode cX6_start 5 = .ok (.aload_n 0, 1) := by decide +kernel
theorem dX6_start_6 : decode cX6_start 6 = .ok (.iconst 0, 1) := by decide +kernel
theorem dX6_start_7 : decode cX6_start 7 = .ok (.putfield 31, 3) := by decide +kernel
theorem dX6_start_10 : decode cX6_start 10 = .ok (.aload_n 0, 1) := by decide +kernel
theorem dX6_start_11 : decode cX6_start 11 = .ok (.iconst 0, 1) := by decide +kernel
theorem dX6_start_12 : decode cX6_start 12 = .ok (.putfield 34, 3) := by decide +kernel
theorem dX6_start_15 : decode cX6_start 15 = .ok (.aload_n 1, 1) := by decide +kernel
theorem dX6_start_16 : decode cX6_start 16 = .ok (.getfield 37, 3) := by decide +kernel
theorem dX6_start_19 : decode cX6_start 19 = .ok (.getfield 43, 3) := by decide +kernel
theorem dX6_start_22 : decode cX6_start 22 = .ok (.ifCond .le 7, 3) := by decide +kernel
theorem dX6_start_25 : decode cX6_start 25 = .ok (.iconst 1, 1) := by decide +kernel
theorem dX6_start_26 : decode cX6_start 26 = .ok (.goto 4, 3) := by decide +kernel
theorem dX6_start_29 : decode cX6_start 29 = .ok (.iconst 0, 1) := by decide +kernel
theorem dX6_start_30 : decode cX6_start 30 = .ok (.istore_n 3, 1) := by decide +kernel
theorem dX6_start_31 : decode cX6_start 31 = .ok (.aload_n 0, 1) := by decide +kernel
theorem dX6_start_32 : decode cX6_start 32 = .ok (.iload_n 3, 1) := by decide +kernel
theorem dX6_start_33 : decode cX6_start 33 = .ok (.ifCond .eq 7, 3) := by decide +kernel
theorem dX6_start_36 : decode cX6_start 36 = .ok (.iconst 0, 1) := by decide +kernel
theorem dX6_start_37 : decode cX6_start 37 = .ok (.goto 4, 3) := by decide +kernel
theorem dX6_start_40 : decode cX6_start 40 = .ok (.iconst 2, 1) := by decide +kernel
theorem dX6_start_41 : decode cX6_start 41 = .ok (.putfield 48, 3) := by decide +kernel
theorem dX6_start_44 : decode cX6_start 44 = .ok (.aload_n 0, 1) := by decide +kernel
theorem dX6_start_45 : decode cX6_start 45 = .ok (.iconst 0, 1) := by decide +kernel
theorem dX6_start_46 : decode cX6_start 46 = .ok (.putfield 51, 3) := by decide +kernel
theorem dX6_start_49 : decode cX6_start 49 = .ok (.aload_n 0, 1) := by decide +kernel
theorem dX6_start_50 : decode cX6_start 50 = .ok (.iconst 0, 1) := by decide +kernel
theorem dX6_start_51 : decode cX6_start 51 = .ok (.putfield 54, 3) := by decide +kernel
theorem dX6_start_54 : decode cX6_start 54 = .ok (.aload_n 0, 1) := by decide +kernel
theorem dX6_start_55 : decode cX6_start 55 = .ok (.iconst 0, 1) := by decide +kernel
theorem dX6_start_56 : decode cX6_start 56 = .ok (.putfield 57, 3) := by decide +kernel
theorem dX6_start_59 : decode cX6_start 59 = .ok (.aload_n 0, 1) := by decide +kernel
theorem dX6_start_60 : decode cX6_start 60 = .ok (.iconst 0, 1) := by decide +kernel
theorem dX6_start_61 : decode cX6_start 61 = .ok (.putfield 60, 3) := by decide +kernel
theorem dX6_start_64 : decode cX6_start 64 = .ok (.aload_n 0, 1) := by decide +kernel
theorem dX6_start_65 : decode cX6_start 65 = .ok (.aload_n 1, 1) := by decide +kernel
theorem dX6_start_66 : decode cX6_start 66 = .ok (.getfield 63, 3) := by decide +kernel
theorem dX6_start_69 : decode cX6_start 69 = .ok (.putfield 66, 3) := by decide +kernel
theorem dX6_start_72 : decode cX6_start 72 = .ok (.aload_n 0, 1) := by decide +kernel
theorem dX6_start_73 : decode cX6_start 73 = .ok (.iload_n 3, 1) := by decide +kernel
theorem dX6_start_74 : decode cX6_start 74 = .ok (.ifCond .eq 7, 3) := by decide +kernel
theorem dX6_start_77 : decode cX6_start 77 = .ok (.iconst 0, 1) := by decide +kernel
theorem dX6_start_78 : decode cX6_start 78 = .ok (.goto 4, 3) := by decide +kernel
theorem dX6_start_81 : decode cX6_start 81 = .ok (.iconst (-1), 1) := by decide +kernel
theorem dX6_start_82 : decode cX6_start 82 = .ok (.putfield 67, 3) := by decide +kernel
theorem dX6_start_85 : decode cX6_start 85 = .ok (.aload_n 0, 1) := by decide +kernel
theorem dX6_start_86 : decode cX6_start 86 = .ok (.iconst 0, 1) := by decide +kernel
theorem dX6_start_87 : decode cX6_start 87 = .ok (.putfield 70, 3) := by decide +kernel
theorem dX6_start_90 : decode cX6_start 90 = .ok (.aload_n 0, 1) := by decide +kernel
theorem dX6_start_91 : decode cX6_start 91 = .ok (.iconst 0, 1) := by decide +kernel
theorem dX6_start_92 : decode cX6_start 92 = .ok (.putfield 73, 3) := by decide +kernel
theorem dX6_start_95 : decode cX6_start 95 = .ok (.aload_n 0, 1) := by decide +kernel
theorem dX6_start_96 : decode cX6_start 96 = .ok (.iconst 0, 1) := by decide +kernel
theorem dX6_start_97 : decode cX6_start 97 = .ok (.putfield 76, 3) := by decide +kernel
theorem dX6_start_100 : decode cX6_start 100 = .ok (.aload_n 0, 1) := by decide +kernel
theorem dX6_start_101 : decode cX6_start 101 = .ok (.iconst 0, 1) := by decide +kernel
theorem dX6_start_102 : decode cX6_start 102 = .ok (.putfield 79, 3) := by decide +kernel
theorem dX6_start_105 : decode cX6_start 105 = .ok (.aload_n 0, 1) := by decide +kernel
theorem dX6_start_106 : decode cX6_start 106 = .ok (.iconst 0, 1) := by decide +kernel
theorem dX6_start_107 : decode cX6_start 107 = .ok (.putfield 82, 3) := by decide +kernel
theorem dX6_start_110 : decode cX6_start 110 = .ok (.iconst 0, 1) := by decide +kernel
theorem dX6_start_111 : decode cX6_start 111 = .ok (.istore 4, 2) := by decide +kernel
theorem dX6_start_113 : decode cX6_start 113 = .ok (.iload 4, 2) := by decide +kernel
theorem dX6_start_115 : decode cX6_start 115 = .ok (.iconst 4, 1) := by decide +kernel
theorem dX6_start_116 : decode cX6_start 116 = .ok (.if_icmp .ge 26, 3) := by decide +kernel
theorem dX6_start_119 : decode cX6_start 119 = .ok (.aload_n 0, 1) := by decide +kernel
theorem dX6_start_120 : decode cX6_start 120 = .ok (.getfield 9, 3) := by decide +kernel
theorem dX6_start_123 : decode cX6_start 123 = .ok (.iload 4, 2) := by decide +kernel
theorem dX6_start_125 : decode cX6_start 125 = .ok (.aload_n 1, 1) := by decide +kernel
theorem dX6_start_126 : decode cX6_start 126 = .ok (.getfield 37, 3) := by decide +kernel
theorem dX6_start_129 : decode cX6_start 129 = .ok (.iload 4, 2) := by decide +kernel
theorem dX6_start_131 : decode cX6_start 131 = .ok (.iconst 1, 1) := by decide +kernel
theorem dX6_start_132 : decode cX6_start 132 = .ok (.invokevirtual 85, 3) := by decide +kernel
theorem dX6_start_135 : decode cX6_start 135 = .ok (.iastore, 1) := by decide +kernel
theorem dX6_start_136 : decode cX6_start 136 = .ok (.iinc 4 1, 3) := by decide +kernel
theorem dX6_start_139 : decode cX6_start 139 = .ok (.goto (-26), 3) := by decide +kernel
theorem dX6_start_142 : decode cX6_start 142 = .ok (.aload_n 0, 1) := by decide +kernel
theorem dX6_start_143 : decode cX6_start 143 = .ok (.getfield 18, 3) := by decide +kernel
theorem dX6_start_146 : decode cX6_start 146 = .ok (.iconst (-1), 1) := by decide +kernel
theorem dX6_start_147 : decode cX6_start 147 = .ok (.invokestatic 89, 3) := by decide +kernel
theorem dX6_start_150 : decode cX6_start 150 = .ok (.aload_n 0, 1) := by decide +kernel
theorem dX6_start_151 : decode cX6_start 151 = .ok (.getfield 21, 3) := by decide +kernel
theorem dX6_start_154 : decode cX6_start 154 = .ok (.iconst 0, 1) := by decide +kernel
theorem dX6_start_155 : decode cX6_start 155 = .ok (.invokestatic 89, 3) := by decide +kernel
theorem dX6_start_158 : decode cX6_start 158 = .ok (.return_, 1) := by decide +kernel
theorem dX6_age_0 : decode cX6_age 0 = .ok (.aload_n 0, 1) := by decide +kernel
theorem dX6_age_1 : decode cX6_age 1 = .ok (.getfield 67, 3) := by decide +kernel
theorem dX6_age_4 : decode cX6_age 4 = .ok (.iconst 4, 1) := by decide +kernel
theorem dX6_age_5 : decode cX6_age 5 = .ok (.invokestatic 95, 3) := by decide +kernel
theorem dX6_age_8 : decode cX6_age 8 = .ok (.ifCond .eq 15, 3) := by decide +kernel
theorem dX6_age_11 : decode cX6_age 11 = .ok (.aload_n 0, 1) := by decide +kernel
theorem dX6_age_12 : decode cX6_age 12 = .ok (.getfield 9, 3) := by decide +kernel
theorem dX6_age_15 : decode cX6_age 15 = .ok (.aload_n 0, 1) := by decide +kernel
theorem dX6_age_16 : decode cX6_age 16 = .ok (.getfield 67, 3) := by decide +kernel
theorem dX6_age_19 : decode cX6_age 19 = .ok (.iaload, 1) := by decide +kernel
theorem dX6_age_20 : decode cX6_age 20 = .ok (.goto 4, 3) := by decide +kernel
theorem dX6_age_23 : decode cX6_age 23 = .ok (.iconst (-1), 1) := by decide +kernel
theorem dX6_age_24 : decode cX6_age 24 = .ok (.ireturn, 1) := by decide +kernel
theorem dX6_wear_0 : decode cX6_wear 0 = .ok (.aload_n 0, 1) := by decide +kernel
theorem dX6_wear_1 : decode cX6_wear 1 = .ok (.getfield 67, 3) := by decide +kernel
theorem dX6_wear_4 : decode cX6_wear 4 = .ok (.iconst 4, 1) := by decide +kernel
theorem dX6_wear_5 : decode cX6_wear 5 = .ok (.invokestatic 95, 3) := by decide +kernel
theorem dX6_wear_8 : decode cX6_wear 8 = .ok (.ifCond .eq 28, 3) := by decide +kernel
theorem dX6_wear_11 : decode cX6_wear 11 = .ok (.aload_n 0, 1) := by decide +kernel
theorem dX6_wear_12 : decode cX6_wear 12 = .ok (.getfield 9, 3) := by decide +kernel
theorem dX6_wear_15 : decode cX6_wear 15 = .ok (.aload_n 0, 1) := by decide +kernel
theorem dX6_wear_16 : decode cX6_wear 16 = .ok (.getfield 67, 3) := by decide +kernel
theorem dX6_wear_19 : decode cX6_wear 19 = .ok (.dup2, 1) := by decide +kernel
theorem dX6_wear_20 : decode cX6_wear 20 = .ok (.iaload, 1) := by decide +kernel
theorem dX6_wear_21 : decode cX6_wear 21 = .ok (.aload_n 0, 1) := by decide +kernel
theorem dX6_wear_22 : decode cX6_wear 22 = .ok (.getfield 79, 3) := by decide +kernel
theorem dX6_wear_25 : decode cX6_wear 25 = .ok (.iconst (-1), 1) := by decide +kernel
theorem dX6_wear_26 : decode cX6_wear 26 = .ok (.if_icmp .ne 7, 3) := by decide +kernel
theorem dX6_wear_29 : decode cX6_wear 29 = .ok (.iconst 2, 1) := by decide +kernel
theorem dX6_wear_30 : decode cX6_wear 30 = .ok (.goto 4, 3) := by decide +kernel
theorem dX6_wear_33 : decode cX6_wear 33 = .ok (.iconst 1, 1) := by decide +kernel
theorem dX6_wear_34 : decode cX6_wear 34 = .ok (.iadd, 1) := by decide +kernel
theorem dX6_wear_35 : decode cX6_wear 35 = .ok (.iastore, 1) := by decide +kernel
theorem dX6_wear_36 : decode cX6_wear 36 = .ok (.return_, 1) := by decide +kernel
theorem dX6_rest_0 : decode cX6_rest 0 = .ok (.aload_n 0, 1) := by decide +kernel
theorem dX6_rest_1 : decode cX6_rest 1 = .ok (.iload_n 1, 1) := by decide +kernel
theorem dX6_rest_2 : decode cX6_rest 2 = .ok (.putfield 48, 3) := by decide +kernel
theorem dX6_rest_5 : decode cX6_rest 5 = .ok (.aload_n 0, 1) := by decide +kernel
theorem dX6_rest_6 : decode cX6_rest 6 = .ok (.iload_n 2, 1) := by decide +kernel
theorem dX6_rest_7 : decode cX6_rest 7 = .ok (.putfield 51, 3) := by decide +kernel
theorem dX6_rest_10 : decode cX6_rest 10 = .ok (.return_, 1) := by decide +kernel
theorem dX6_endLine_0 : decode cX6_endLine 0 = .ok (.iload_n 1, 1) := by decide +kernel
theorem dX6_endLine_1 : decode cX6_endLine 1 = .ok (.bipush 60, 2) := by decide +kernel
theorem dX6_endLine_3 : decode cX6_endLine 3 = .ok (.invokestatic 95, 3) := by decide +kernel
theorem dX6_endLine_6 : decode cX6_endLine 6 = .ok (.ifCond .eq 45, 3) := by decide +kernel
theorem dX6_endLine_9 : decode cX6_endLine 9 = .ok (.iload_n 2, 1) := by decide +kernel
theorem dX6_endLine_10 : decode cX6_endLine 10 = .ok (.iconst 5, 1) := by decide +kernel
theorem dX6_endLine_11 : decode cX6_endLine 11 = .ok (.invokestatic 95, 3) := by decide +kernel
theorem dX6_endLine_14 : decode cX6_endLine 14 = .ok (.ifCond .eq 37, 3) := by decide +kernel
theorem dX6_endLine_17 : decode cX6_endLine 17 = .ok (.aload_n 0, 1) := by decide +kernel
theorem dX6_endLine_18 : decode cX6_endLine 18 = .ok (.getfield 15, 3) := by decide +kernel
theorem dX6_endLine_21 : decode cX6_endLine 21 = .ok (.iload_n 1, 1) := by decide +kernel
theorem dX6_endLine_22 : decode cX6_endLine 22 = .ok (.iload_n 3, 1) := by decide +kernel
theorem dX6_endLine_23 : decode cX6_endLine 23 = .ok (.iastore, 1) := by decide +kernel
theorem dX6_endLine_24 : decode cX6_endLine 24 = .ok (.aload_n 0, 1) := by decide +kernel
theorem dX6_endLine_25 : decode cX6_endLine 25 = .ok (.iload_n 1, 1) := by decide +kernel
theorem dX6_endLine_26 : decode cX6_endLine 26 = .ok (.iconst 1, 1) := by decide +kernel
theorem dX6_endLine_27 : decode cX6_endLine 27 = .ok (.iadd, 1) := by decide +kernel
theorem dX6_endLine_28 : decode cX6_endLine 28 = .ok (.putfield 34, 3) := by decide +kernel
theorem dX6_endLine_31 : decode cX6_endLine 31 = .ok (.aload_n 0, 1) := by decide +kernel
theorem dX6_endLine_32 : decode cX6_endLine 32 = .ok (.getfield 21, 3) := by decide +kernel
theorem dX6_endLine_35 : decode cX6_endLine 35 = .ok (.iload_n 2, 1) := by decide +kernel
theorem dX6_endLine_36 : decode cX6_endLine 36 = .ok (.iload 4, 2) := by decide +kernel
theorem dX6_endLine_38 : decode cX6_endLine 38 = .ok (.iastore, 1) := by decide +kernel
theorem dX6_endLine_39 : decode cX6_endLine 39 = .ok (.aload_n 0, 1) := by decide +kernel
theorem dX6_endLine_40 : decode cX6_endLine 40 = .ok (.getfield 24, 3) := by decide +kernel
theorem dX6_endLine_43 : decode cX6_endLine 43 = .ok (.iload_n 2, 1) := by decide +kernel
theorem dX6_endLine_44 : decode cX6_endLine 44 = .ok (.iload_n 3, 1) := by decide +kernel
theorem dX6_endLine_45 : decode cX6_endLine 45 = .ok (.iastore, 1) := by decide +kernel
theorem dX6_endLine_46 : decode cX6_endLine 46 = .ok (.aload_n 0, 1) := by decide +kernel
theorem dX6_endLine_47 : decode cX6_endLine 47 = .ok (.iload_n 3, 1) := by decide +kernel
theorem dX6_endLine_48 : decode cX6_endLine 48 = .ok (.putfield 27, 3) := by decide +kernel
theorem dX6_endLine_51 : decode cX6_endLine 51 = .ok (.return_, 1) := by decide +kernel
theorem dX6_timeAt_0 : decode cX6_timeAt 0 = .ok (.iload_n 1, 1) := by decide +kernel
theorem dX6_timeAt_1 : decode cX6_timeAt 1 = .ok (.aload_n 0, 1) := by decide +kernel
theorem dX6_timeAt_2 : decode cX6_timeAt 2 = .ok (.getfield 34, 3) := by decide +kernel
theorem dX6_timeAt_5 : decode cX6_timeAt 5 = .ok (.invokestatic 95, 3) := by decide +kernel
theorem dX6_timeAt_8 : decode cX6_timeAt 8 = .ok (.ifCond .eq 12, 3) := by decide +kernel
theorem dX6_timeAt_11 : decode cX6_timeAt 11 = .ok (.aload_n 0, 1) := by decide +kernel
theorem dX6_timeAt_12 : decode cX6_timeAt 12 = .ok (.getfield 15, 3) := by decide +kernel
theorem dX6_timeAt_15 : decode cX6_timeAt 15 = .ok (.iload_n 1, 1) := by decide +kernel
theorem dX6_timeAt_16 : decode cX6_timeAt 16 = .ok (.iaload, 1) := by decide +kernel
theorem dX6_timeAt_17 : decode cX6_timeAt 17 = .ok (.goto 4, 3) := by decide +kernel
theorem dX6_timeAt_20 : decode cX6_timeAt 20 = .ok (.iconst (-1), 1) := by decide +kernel
theorem dX6_timeAt_21 : decode cX6_timeAt 21 = .ok (.ireturn, 1) := by decide +kernel
theorem dX6_timeOrStart_0 : decode cX6_timeOrStart 0 = .ok (.iload_n 1, 1) := by decide +kernel
theorem dX6_timeOrStart_1 : decode cX6_timeOrStart 1 = .ok (.aload_n 0, 1) := by decide +kernel
theorem dX6_timeOrStart_2 : decode cX6_timeOrStart 2 = .ok (.getfield 34, 3) := by decide +kernel
theorem dX6_timeOrStart_5 : decode cX6_timeOrStart 5 = .ok (.invokestatic 95, 3) := by decide +kernel
theorem dX6_timeOrStart_8 : decode cX6_timeOrStart 8 = .ok (.ifCond .eq 12, 3) := by decide +kernel
theorem dX6_timeOrStart_11 : decode cX6_timeOrStart 11 = .ok (.aload_n 0, 1) := by decide +kernel
theorem dX6_timeOrStart_12 : decode cX6_timeOrStart 12 = .ok (.getfield 15, 3) := by decide +kernel
theorem dX6_timeOrStart_15 : decode cX6_timeOrStart 15 = .ok (.iload_n 1, 1) := by decide +kernel
theorem dX6_timeOrStart_16 : decode cX6_timeOrStart 16 = .ok (.iaload, 1) := by decide +kernel
theorem dX6_timeOrStart_17 : decode cX6_timeOrStart 17 = .ok (.goto 4, 3) := by decide +kernel
theorem dX6_timeOrStart_20 : decode cX6_timeOrStart 20 = .ok (.iconst 0, 1) := by decide +kernel
theorem dX6_timeOrStart_21 : decode cX6_timeOrStart 21 = .ok (.ireturn, 1) := by decide +kernel
theorem dX6_tell_0 : decode cX6_tell 0 = .ok (.iload_n 1, 1) := by decide +kernel
theorem dX6_tell_1 : decode cX6_tell 1 = .ok (.tableswitch 108 0 9 #[55, 60, 65, 70, 75, 83, 88, 93, 98, 103], 55) := by decide +kernel
theorem dX6_tell_56 : decode cX6_tell 56 = .ok (.aload_n 0, 1) := by decide +kernel
theorem dX6_tell_57 : decode cX6_tell 57 = .ok (.getfield 48, 3) := by decide +kernel
theorem dX6_tell_60 : decode cX6_tell 60 = .ok (.ireturn, 1) := by decide +kernel
theorem dX6_tell_61 : decode cX6_tell 61 = .ok (.aload_n 0, 1) := by decide +kernel
theorem dX6_tell_62 : decode cX6_tell 62 = .ok (.getfield 51, 3) := by decide +kernel
theorem dX6_tell_65 : decode cX6_tell 65 = .ok (.ireturn, 1) := by decide +kernel
theorem dX6_tell_66 : decode cX6_tell 66 = .ok (.aload_n 0, 1) := by decide +kernel
theorem dX6_tell_67 : decode cX6_tell 67 = .ok (.getfield 34, 3) := by decide +kernel
theorem dX6_tell_70 : decode cX6_tell 70 = .ok (.ireturn, 1) := by decide +kernel
theorem dX6_tell_71 : decode cX6_tell 71 = .ok (.aload_n 0, 1) := by decide +kernel
theorem dX6_tell_72 : decode cX6_tell 72 = .ok (.getfield 54, 3) := by decide +kernel
theorem dX6_tell_75 : decode cX6_tell 75 = .ok (.ireturn, 1) := by decide +kernel
theorem dX6_tell_76 : decode cX6_tell 76 = .ok (.aload_n 0, 1) := by decide +kernel
theorem dX6_tell_77 : decode cX6_tell 77 = .ok (.getfield 57, 3) := by decide +kernel
theorem dX6_tell_80 : decode cX6_tell 80 = .ok (.invokestatic 99, 3) := by decide +kernel
theorem dX6_tell_83 : decode cX6_tell 83 = .ok (.ireturn, 1) := by decide +kernel
theorem dX6_tell_84 : decode cX6_tell 84 = .ok (.aload_n 0, 1) := by decide +kernel
theorem dX6_tell_85 : decode cX6_tell 85 = .ok (.getfield 60, 3) := by decide +kernel
theorem dX6_tell_88 : decode cX6_tell 88 = .ok (.ireturn, 1) := by decide +kernel
theorem dX6_tell_89 : decode cX6_tell 89 = .ok (.aload_n 0, 1) := by decide +kernel
theorem dX6_tell_90 : decode cX6_tell 90 = .ok (.getfield 66, 3) := by decide +kernel
theorem dX6_tell_93 : decode cX6_tell 93 = .ok (.ireturn, 1) := by decide +kernel
theorem dX6_tell_94 : decode cX6_tell 94 = .ok (.aload_n 0, 1) := by decide +kernel
theorem dX6_tell_95 : decode cX6_tell 95 = .ok (.getfield 67, 3) := by decide +kernel
theorem dX6_tell_98 : decode cX6_tell 98 = .ok (.ireturn, 1) := by decide +kernel
theorem dX6_tell_99 : decode cX6_tell 99 = .ok (.aload_n 0, 1) := by decide +kernel
theorem dX6_tell_100 : decode cX6_tell 100 = .ok (.invokevirtual 105, 3) := by decide +kernel
theorem dX6_tell_103 : decode cX6_tell 103 = .ok (.ireturn, 1) := by decide +kernel
theorem dX6_tell_104 : decode cX6_tell 104 = .ok (.aload_n 0, 1) := by decide +kernel
theorem dX6_tell_105 : decode cX6_tell 105 = .ok (.getfield 70, 3) := by decide +kernel
theorem dX6_tell_108 : decode cX6_tell 108 = .ok (.ireturn, 1) := by decide +kernel
theorem dX6_tell_109 : decode cX6_tell 109 = .ok (.aload_n 0, 1) := by decide +kernel
theorem dX6_tell_110 : decode cX6_tell 110 = .ok (.getfield 73, 3) := by decide +kernel
theorem dX6_tell_113 : decode cX6_tell 113 = .ok (.ireturn, 1) := by decide +kernel
theorem dX7_isFull_0 : decode cX7_isFull 0 = .ok (.aload_n 0, 1) := by decide +kernel
theorem dX7_isFull_1 : decode cX7_isFull 1 = .ok (.getfield 28, 3) := by decide +kernel
theorem dX7_isFull_4 : decode cX7_isFull 4 = .ok (.aload_n 0, 1) := by decide +kernel
theorem dX7_isFull_5 : decode cX7_isFull 5 = .ok (.getfield 9, 3) := by decide +kernel
theorem dX7_isFull_8 : decode cX7_isFull 8 = .ok (.if_icmp .lt 7, 3) := by decide +kernel
theorem dX7_isFull_11 : decode cX7_isFull 11 = .ok (.iconst 1, 1) := by decide +kernel
theorem dX7_isFull_12 : decode cX7_isFull 12 = .ok (.goto 4, 3) := by decide +kernel
theorem dX7_isFull_15 : decode cX7_isFull 15 = .ok (.iconst 0, 1) := by decide +kernel
theorem dX7_isFull_16 : decode cX7_isFull 16 = .ok (.ireturn, 1) := by decide +kernel
theorem dX7_cell_0 : decode cX7_cell 0 = .ok (.iload_n 1, 1) := by decide +kernel
theorem dX7_cell_1 : decode cX7_cell 1 = .ok (.ifCond .lt 23, 3) := by decide +kernel
theorem dX7_cell_4 : decode cX7_cell 4 = .ok (.iload_n 1, 1) := by decide +kernel
theorem dX7_cell_5 : decode cX7_cell 5 = .ok (.aload_n 0, 1) := by decide +kernel
theorem dX7_cell_6 : decode cX7_cell 6 = .ok (.getfield 28, 3) := by decide +kernel
theorem dX7_cell_9 : decode cX7_cell 9 = .ok (.if_icmp .ge 15, 3) := by decide +kernel
theorem dX7_cell_12 : decode cX7_cell 12 = .ok (.iload_n 2, 1) := by decide +kernel
theorem dX7_cell_13 : decode cX7_cell 13 = .ok (.ifCond .lt 11, 3) := by decide +kernel
theorem dX7_cell_16 : decode cX7_cell 16 = .ok (.iload_n 2, 1) := by decide +kernel
theorem dX7_cell_17 : decode cX7_cell 17 = .ok (.aload_n 0, 1) := by decide +kernel
theorem dX7_cell_18 : decode cX7_cell 18 = .ok (.getfield 15, 3) := by decide +kernel
theorem dX7_cell_21 : decode cX7_cell 21 = .ok (.if_icmp .lt 5, 3) := by decide +kernel
theorem dX7_cell_24 : decode cX7_cell 24 = .ok (.iconst (-1), 1) := by decide +kernel
theorem dX7_cell_25 : decode cX7_cell 25 = .ok (.ireturn, 1) := by decide +kernel
theorem dX7_cell_26 : decode cX7_cell 26 = .ok (.aload_n 0, 1) := by decide +kernel
theorem dX7_cell_27 : decode cX7_cell 27 = .ok (.getfield 24, 3) := by decide +kernel
theorem dX7_cell_30 : decode cX7_cell 30 = .ok (.iload_n 1, 1) := by decide +kernel
theorem dX7_cell_31 : decode cX7_cell 31 = .ok (.aload_n 0, 1) := by decide +kernel
theorem dX7_cell_32 : decode cX7_cell 32 = .ok (.getfield 15, 3) := by decide +kernel
theorem dX7_cell_35 : decode cX7_cell 35 = .ok (.imul, 1) := by decide +kernel
theorem dX7_cell_36 : decode cX7_cell 36 = .ok (.iload_n 2, 1) := by decide +kernel
theorem dX7_cell_37 : decode cX7_cell 37 = .ok (.iadd, 1) := by decide +kernel
theorem dX7_cell_38 : decode cX7_cell 38 = .ok (.iaload, 1) := by decide +kernel
theorem dX7_cell_39 : decode cX7_cell 39 = .ok (.ireturn, 1) := by decide +kernel
theorem dX7_put_0 : decode cX7_put 0 = .ok (.iload_n 1, 1) := by decide +kernel
theorem dX7_put_1 : decode cX7_put 1 = .ok (.ifCond .lt 37, 3) := by decide +kernel
theorem dX7_put_4 : decode cX7_put 4 = .ok (.iload_n 1, 1) := by decide +kernel
theorem dX7_put_5 : decode cX7_put 5 = .ok (.aload_n 0, 1) := by decide +kernel
theorem dX7_put_6 : decode cX7_put 6 = .ok (.getfield 28, 3) := by decide +kernel
theorem dX7_put_9 : decode cX7_put 9 = .ok (.if_icmp .ge 29, 3) := by decide +kernel
theorem dX7_put_12 : decode cX7_put 12 = .ok (.iload_n 2, 1) := by decide +kernel
theorem dX7_put_13 : decode cX7_put 13 = .ok (.ifCond .lt 25, 3) := by decide +kernel
theorem dX7_put_16 : decode cX7_put 16 = .ok (.iload_n 2, 1) := by decide +kernel
theorem dX7_put_17 : decode cX7_put 17 = .ok (.aload_n 0, 1) := by decide +kernel
theorem dX7_put_18 : decode cX7_put 18 = .ok (.getfield 15, 3) := by decide +kernel
theorem dX7_put_21 : decode cX7_put 21 = .ok (.if_icmp .ge 17, 3) := by decide +kernel
theorem dX7_put_24 : decode cX7_put 24 = .ok (.aload_n 0, 1) := by decide +kernel
theorem dX7_put_25 : decode cX7_put 25 = .ok (.getfield 24, 3) := by decide +kernel
theorem dX7_put_28 : decode cX7_put 28 = .ok (.iload_n 1, 1) := by decide +kernel
theorem dX7_put_29 : decode cX7_put 29 = .ok (.aload_n 0, 1) := by decide +kernel
theorem dX7_put_30 : decode cX7_put 30 = .ok (.getfield 15, 3) := by decide +kernel
theorem dX7_put_33 : decode cX7_put 33 = .ok (.imul, 1) := by decide +kernel
theorem dX7_put_34 : decode cX7_put 34 = .ok (.iload_n 2, 1) := by decide +kernel
theorem dX7_put_35 : decode cX7_put 35 = .ok (.iadd, 1) := by decide +kernel
theorem dX7_put_36 : decode cX7_put 36 = .ok (.iload_n 3, 1) := by decide +kernel
theorem dX7_put_37 : decode cX7_put 37 = .ok (.iastore, 1) := by decide +kernel
theorem dX7_put_38 : decode cX7_put 38 = .ok (.return_, 1) := by decide +kernel
theorem dX7_push_0 : decode cX7_push 0 = .ok (.aload_n 0, 1) := by decide +kernel
theorem dX7_push_1 : decode cX7_push 1 = .ok (.invokevirtual 31, 3) := by decide +kernel
theorem dX7_push_4 : decode cX7_push 4 = .ok (.ifCond .eq 5, 3) := by decide +kernel
theorem dX7_push_7 : decode cX7_push 7 = .ok (.iconst (-1), 1) := by decide +kernel
theorem dX7_push_8 : decode cX7_push 8 = .ok (.ireturn, 1) := by decide +kernel
theorem dX7_push_9 : decode cX7_push 9 = .ok (.aload_n 0, 1) := by decide +kernel
theorem dX7_push_10 : decode cX7_push 10 = .ok (.dup, 1) := by decide +kernel
theorem dX7_push_11 : decode cX7_push 11 = .ok (.getfield 28, 3) := by decide +kernel
theorem dX7_push_14 : decode cX7_push 14 = .ok (.iconst 1, 1) := by decide +kernel
theorem dX7_push_15 : decode cX7_push 15 = .ok (.iadd, 1) := by decide +kernel
theorem dX7_push_16 : decode cX7_push 16 = .ok (.putfield 28, 3) := by decide +kernel
theorem dX7_push_19 : decode cX7_push 19 = .ok (.aload_n 0, 1) := by decide +kernel
theorem dX7_push_20 : decode cX7_push 20 = .ok (.aload_n 0, 1) := by decide +kernel
theorem dX7_push_21 : decode cX7_push 21 = .ok (.getfield 28, 3) := by decide +kernel
theorem dX7_push_24 : decode cX7_push 24 = .ok (.iconst 1, 1) := by decide +kernel
theorem dX7_push_25 : decode cX7_push 25 = .ok (.isub, 1) := by decide +kernel
theorem dX7_push_26 : decode cX7_push 26 = .ok (.iconst 0, 1) := by decide +kernel
theorem dX7_push_27 : decode cX7_push 27 = .ok (.iload_n 1, 1) := by decide +kernel
theorem dX7_push_28 : decode cX7_push 28 = .ok (.invokevirtual 35, 3) := by decide +kernel
theorem dX7_push_31 : decode cX7_push 31 = .ok (.aload_n 0, 1) := by decide +kernel
theorem dX7_push_32 : decode cX7_push 32 = .ok (.aload_n 0, 1) := by decide +kernel
theorem dX7_push_33 : decode cX7_push 33 = .ok (.getfield 28, 3) := by decide +kernel
theorem dX7_push_36 : decode cX7_push 36 = .ok (.iconst 1, 1) := by decide +kernel
theorem dX7_push_37 : decode cX7_push 37 = .ok (.isub, 1) := by decide +kernel
theorem dX7_push_38 : decode cX7_push 38 = .ok (.iconst 1, 1) := by decide +kernel
theorem dX7_push_39 : decode cX7_push 39 = .ok (.iload_n 2, 1) := by decide +kernel
theorem dX7_push_40 : decode cX7_push 40 = .ok (.invokevirtual 35, 3) := by decide +kernel
theorem dX7_push_43 : decode cX7_push 43 = .ok (.aload_n 0, 1) := by decide +kernel
theorem dX7_push_44 : decode cX7_push 44 = .ok (.aload_n 0, 1) := by decide +kernel
theorem dX7_push_45 : decode cX7_push 45 = .ok (.getfield 28, 3) := by decide +kernel
theorem dX7_push_48 : decode cX7_push 48 = .ok (.iconst 1, 1) := by decide +kernel
theorem dX7_push_49 : decode cX7_push 49 = .ok (.isub, 1) := by decide +kernel
theorem dX7_push_50 : decode cX7_push 50 = .ok (.iconst 2, 1) := by decide +kernel
theorem dX7_push_51 : decode cX7_push 51 = .ok (.iload_n 3, 1) := by decide +kernel
theorem dX7_push_52 : decode cX7_push 52 = .ok (.invokevirtual 35, 3) := by decide +kernel
theorem dX7_push_55 : decode cX7_push 55 = .ok (.aload_n 0, 1) := by decide +kernel
theorem dX7_push_56 : decode cX7_push 56 = .ok (.aload_n 0, 1) := by decide +kernel
theorem dX7_push_57 : decode cX7_push 57 = .ok (.getfield 28, 3) := by decide +kernel
theorem dX7_push_60 : decode cX7_push 60 = .ok (.iconst 1, 1) := by decide +kernel
theorem dX7_push_61 : decode cX7_push 61 = .ok (.isub, 1) := by decide +kernel
theorem dX7_push_62 : decode cX7_push 62 = .ok (.iconst 3, 1) := by decide +kernel
theorem dX7_push_63 : decode cX7_push 63 = .ok (.iload 4, 2) := by decide +kernel
theorem dX7_push_65 : decode cX7_push 65 = .ok (.invokevirtual 35, 3) := by decide +kernel
theorem dX7_push_68 : decode cX7_push 68 = .ok (.aload_n 0, 1) := by decide +kernel
theorem dX7_push_69 : decode cX7_push 69 = .ok (.getfield 28, 3) := by decide +kernel
theorem dX7_push_72 : decode cX7_push 72 = .ok (.ireturn, 1) := by decide +kernel
theorem dX7_removeAt_0 : decode cX7_removeAt 0 = .ok (.iload_n 1, 1) := by decide +kernel
theorem dX7_removeAt_1 : decode cX7_removeAt 1 = .ok (.istore_n 2, 1) := by decide +kernel
theorem dX7_removeAt_2 : decode cX7_removeAt 2 = .ok (.iload_n 2, 1) := by decide +kernel
theorem dX7_removeAt_3 : decode cX7_removeAt 3 = .ok (.aload_n 0, 1) := by decide +kernel
theorem dX7_removeAt_4 : decode cX7_removeAt 4 = .ok (.getfield 28, 3) := by decide +kernel
theorem dX7_removeAt_7 : decode cX7_removeAt 7 = .ok (.iconst 1, 1) := by decide +kernel
theorem dX7_removeAt_8 : decode cX7_removeAt 8 = .ok (.isub, 1) := by decide +kernel
theorem dX7_removeAt_9 : decode cX7_removeAt 9 = .ok (.if_icmp .ge 39, 3) := by decide +kernel
theorem dX7_removeAt_12 : decode cX7_removeAt 12 = .ok (.iconst 0, 1) := by decide +kernel
theorem dX7_removeAt_13 : decode cX7_removeAt 13 = .ok (.istore_n 3, 1) := by decide +kernel
theorem dX7_removeAt_14 : decode cX7_removeAt 14 = .ok (.iload_n 3, 1) := by decide +kernel
theorem dX7_removeAt_15 : decode cX7_removeAt 15 = .ok (.aload_n 0, 1) := by decide +kernel
theorem dX7_removeAt_16 : decode cX7_removeAt 16 = .ok (.getfield 15, 3) := by decide +kernel
theorem dX7_removeAt_19 : decode cX7_removeAt 19 = .ok (.if_icmp .ge 23, 3) := by decide +kernel
theorem dX7_removeAt_22 : decode cX7_removeAt 22 = .ok (.aload_n 0, 1) := by decide +kernel
theorem dX7_removeAt_23 : decode cX7_removeAt 23 = .ok (.iload_n 2, 1) := by decide +kernel
theorem dX7_removeAt_24 : decode cX7_removeAt 24 = .ok (.iload_n 3, 1) := by decide +kernel
theorem dX7_removeAt_25 : decode cX7_removeAt 25 = .ok (.aload_n 0, 1) := by decide +kernel
theorem dX7_removeAt_26 : decode cX7_removeAt 26 = .ok (.iload_n 2, 1) := by decide +kernel
theorem dX7_removeAt_27 : decode cX7_removeAt 27 = .ok (.iconst 1, 1) := by decide +kernel
theorem dX7_removeAt_28 : decode cX7_removeAt 28 = .ok (.iadd, 1) := by decide +kernel
theorem dX7_removeAt_29 : decode cX7_removeAt 29 = .ok (.iload_n 3, 1) := by decide +kernel
theorem dX7_removeAt_30 : decode cX7_removeAt 30 = .ok (.invokevirtual 39, 3) := by decide +kernel
theorem dX7_removeAt_33 : decode cX7_removeAt 33 = .ok (.invokevirtual 35, 3) := by decide +kernel
theorem dX7_removeAt_36 : decode cX7_removeAt 36 = .ok (.iinc 3 1, 3) := by decide +kernel
theorem dX7_removeAt_39 : decode cX7_removeAt 39 = .ok (.goto (-25), 3) := by decide +kernel
theorem dX7_removeAt_42 : decode cX7_removeAt 42 = .ok (.iinc 2 1, 3) := by decide +kernel
theorem dX7_removeAt_45 : decode cX7_removeAt 45 = .ok (.goto (-43), 3) := by decide +kernel
theorem dX7_removeAt_48 : decode cX7_removeAt 48 = .ok (.aload_n 0, 1) := by decide +kernel
theorem dX7_removeAt_49 : decode cX7_removeAt 49 = .ok (.dup, 1) := by decide +kernel
theorem dX7_removeAt_50 : decode cX7_removeAt 50 = .ok (.getfield 28, 3) := by decide +kernel
theorem dX7_removeAt_53 : decode cX7_removeAt 53 = .ok (.iconst 1, 1) := by decide +kernel
theorem dX7_removeAt_54 : decode cX7_removeAt 54 = .ok (.isub, 1) := by decide +kernel
theorem dX7_removeAt_55 : decode cX7_removeAt 55 = .ok (.putfield 28, 3) := by decide +kernel
theorem dX7_removeAt_58 : decode cX7_removeAt 58 = .ok (.aload_n 0, 1) := by decide +kernel
theorem dX7_removeAt_59 : decode cX7_removeAt 59 = .ok (.getfield 28, 3) := by decide +kernel
theorem dX7_removeAt_62 : decode cX7_removeAt 62 = .ok (.ireturn, 1) := by decide +kernel
theorem dX8_empty_0 : decode cX8_empty 0 = .ok (.aload_n 0, 1) := by decide +kernel
theorem dX8_empty_1 : decode cX8_empty 1 = .ok (.iconst 0, 1) := by decide +kernel
theorem dX8_empty_2 : decode cX8_empty 2 = .ok (.putfield 27, 3) := by decide +kernel
theorem dX8_empty_5 : decode cX8_empty 5 = .ok (.aload_n 0, 1) := by decide +kernel
theorem dX8_empty_6 : decode cX8_empty 6 = .ok (.iconst 0, 1) := by decide +kernel
theorem dX8_empty_7 : decode cX8_empty 7 = .ok (.putfield 31, 3) := by decide +kernel
theorem dX8_empty_10 : decode cX8_empty 10 = .ok (.aload_n 0, 1) := by decide +kernel
theorem dX8_empty_11 : decode cX8_empty 11 = .ok (.iconst 0, 1) := by decide +kernel
theorem dX8_empty_12 : decode cX8_empty 12 = .ok (.putfield 34, 3) := by decide +kernel
theorem dX8_empty_15 : decode cX8_empty 15 = .ok (.return_, 1) := by decide +kernel
theorem dX8_emit_0 : decode cX8_emit 0 = .ok (.aload_n 0, 1) := by decide +kernel
theorem dX8_emit_1 : decode cX8_emit 1 = .ok (.getfield 27, 3) := by decide +kernel
theorem dX8_emit_4 : decode cX8_emit 4 = .ok (.bipush 60, 2) := by decide +kernel
theorem dX8_emit_6 : decode cX8_emit 6 = .ok (.invokestatic 37, 3) := by decide +kernel
theorem dX8_emit_9 : decode cX8_emit 9 = .ok (.ifCond .eq 23, 3) := by decide +kernel
theorem dX8_emit_12 : decode cX8_emit 12 = .ok (.aload_n 0, 1) := by decide +kernel
theorem dX8_emit_13 : decode cX8_emit 13 = .ok (.getfield 9, 3) := by decide +kernel
theorem dX8_emit_16 : decode cX8_emit 16 = .ok (.aload_n 0, 1) := by decide +kernel
theorem dX8_emit_17 : decode cX8_emit 17 = .ok (.getfield 27, 3) := by decide +kernel
theorem dX8_emit_20 : decode cX8_emit 20 = .ok (.iload_n 1, 1) := by decide +kernel
theorem dX8_emit_21 : decode cX8_emit 21 = .ok (.iastore, 1) := by decide +kernel
theorem dX8_emit_22 : decode cX8_emit 22 = .ok (.aload_n 0, 1) := by decide +kernel
theorem dX8_emit_23 : decode cX8_emit 23 = .ok (.dup, 1) := by decide +kernel
theorem dX8_emit_24 : decode cX8_emit 24 = .ok (.getfield 27, 3) := by decide +kernel
theorem dX8_emit_27 : decode cX8_emit 27 = .ok (.iconst 1, 1) := by decide +kernel
theorem dX8_emit_28 : decode cX8_emit 28 = .ok (.iadd, 1) := by decide +kernel
theorem dX8_emit_29 : decode cX8_emit 29 = .ok (.putfield 27, 3) := by decide +kernel
theorem dX8_emit_32 : decode cX8_emit 32 = .ok (.return_, 1) := by decide +kernel
theorem dX8_addDigit_0 : decode cX8_addDigit 0 = .ok (.aload_n 0, 1) := by decide +kernel
theorem dX8_addDigit_1 : decode cX8_addDigit 1 = .ok (.getfield 27, 3) := by decide +kernel
theorem dX8_addDigit_4 : decode cX8_addDigit 4 = .ok (.iconst 1, 1) := by decide +kernel
theorem dX8_addDigit_5 : decode cX8_addDigit 5 = .ok (.isub, 1) := by decide +kernel
theorem dX8_addDigit_6 : decode cX8_addDigit 6 = .ok (.bipush 60, 2) := by decide +kernel
theorem dX8_addDigit_8 : decode cX8_addDigit 8 = .ok (.invokestatic 37, 3) := by decide +kernel
theorem dX8_addDigit_11 : decode cX8_addDigit 11 = .ok (.ifCond .eq 30, 3) := by decide +kernel
theorem dX8_addDigit_14 : decode cX8_addDigit 14 = .ok (.aload_n 0, 1) := by decide +kernel
theorem dX8_addDigit_15 : decode cX8_addDigit 15 = .ok (.getfield 9, 3) := by decide +kernel
theorem dX8_addDigit_18 : decode cX8_addDigit 18 = .ok (.aload_n 0, 1) := by decide +kernel
theorem dX8_addDigit_19 : decode cX8_addDigit 19 = .ok (.getfield 27, 3) := by decide +kernel
theorem dX8_addDigit_22 : decode cX8_addDigit 22 = .ok (.iconst 1, 1) := by decide +kernel
theorem dX8_addDigit_23 : decode cX8_addDigit 23 = .ok (.isub, 1) := by decide +kernel
theorem dX8_addDigit_24 : decode cX8_addDigit 24 = .ok (.aload_n 0, 1) := by decide +kernel
theorem dX8_addDigit_25 : decode cX8_addDigit 25 = .ok (.getfield 9, 3) := by decide +kernel
theorem dX8_addDigit_28 : decode cX8_addDigit 28 = .ok (.aload_n 0, 1) := by decide +kernel
theorem dX8_addDigit_29 : decode cX8_addDigit 29 = .ok (.getfield 27, 3) := by decide +kernel
theorem dX8_addDigit_32 : decode cX8_addDigit 32 = .ok (.iconst 1, 1) := by decide +kernel
theorem dX8_addDigit_33 : decode cX8_addDigit 33 = .ok (.isub, 1) := by decide +kernel
theorem dX8_addDigit_34 : decode cX8_addDigit 34 = .ok (.iaload, 1) := by decide +kernel
theorem dX8_addDigit_35 : decode cX8_addDigit 35 = .ok (.bipush 10, 2) := by decide +kernel
theorem dX8_addDigit_37 : decode cX8_addDigit 37 = .ok (.imul, 1) := by decide +kernel
theorem dX8_addDigit_38 : decode cX8_addDigit 38 = .ok (.iload_n 1, 1) := by decide +kernel
theorem dX8_addDigit_39 : decode cX8_addDigit 39 = .ok (.iadd, 1) := by decide +kernel
theorem dX8_addDigit_40 : decode cX8_addDigit 40 = .ok (.iastore, 1) := by decide +kernel
theorem dX8_addDigit_41 : decode cX8_addDigit 41 = .ok (.return_, 1) := by decide +kernel
theorem dX8_endCondition_0 : decode cX8_endCondition 0 = .ok (.aload_n 0, 1) := by decide +kernel
theorem dX8_endCondition_1 : decode cX8_endCondition 1 = .ok (.getfield 31, 3) := by decide +kernel
theorem dX8_endCondition_4 : decode cX8_endCondition 4 = .ok (.bipush 21, 2) := by decide +kernel
theorem dX8_endCondition_6 : decode cX8_endCondition 6 = .ok (.invokestatic 37, 3) := by decide +kernel
theorem dX8_endCondition_9 : decode cX8_endCondition 9 = .ok (.ifCond .eq 58, 3) := by decide +kernel
theorem dX8_endCondition_12 : decode cX8_endCondition 12 = .ok (.aload_n 0, 1) := by decide +kernel
theorem dX8_endCondition_13 : decode cX8_endCondition 13 = .ok (.getfield 15, 3) := by decide +kernel
theorem dX8_endCondition_16 : decode cX8_endCondition 16 = .ok (.aload_n 0, 1) := by decide +kernel
theorem dX8_endCondition_17 : decode cX8_endCondition 17 = .ok (.getfield 31, 3) := by decide +kernel
theorem dX8_endCondition_20 : decode cX8_endCondition 20 = .ok (.aload_n 0, 1) := by decide +kernel
theorem dX8_endCondition_21 : decode cX8_endCondition 21 = .ok (.getfield 27, 3) := by decide +kernel
theorem dX8_endCondition_24 : decode cX8_endCondition 24 = .ok (.iastore, 1) := by decide +kernel
theorem dX8_endCondition_25 : decode cX8_endCondition 25 = .ok (.aload_n 0, 1) := by decide +kernel
theorem dX8_endCondition_26 : decode cX8_endCondition 26 = .ok (.getfield 18, 3) := by decide +kernel
theorem dX8_endCondition_29 : decode cX8_endCondition 29 = .ok (.aload_n 0, 1) := by decide +kernel
theorem dX8_endCondition_30 : decode cX8_endCondition 30 = .ok (.getfield 31, 3) := by decide +kernel
theorem dX8_endCondition_33 : decode cX8_endCondition 33 = .ok (.bipush 9, 2) := by decide +kernel
theorem dX8_endCondition_35 : decode cX8_endCondition 35 = .ok (.iastore, 1) := by decide +kernel
theorem dX8_endCondition_36 : decode cX8_endCondition 36 = .ok (.aload_n 0, 1) := by decide +kernel
theorem dX8_endCondition_37 : decode cX8_endCondition 37 = .ok (.getfield 21, 3) := by decide +kernel
theorem dX8_endCondition_40 : decode cX8_endCondition 40 = .ok (.aload_n 0, 1) := by decide +kernel
theorem dX8_endCondition_41 : decode cX8_endCondition 41 = .ok (.getfield 31, 3) := by decide +kernel
theorem dX8_endCondition_44 : decode cX8_endCondition 44 = .ok (.bipush 9, 2) := by decide +kernel
theorem dX8_endCondition_46 : decode cX8_endCondition 46 = .ok (.iastore, 1) := by decide +kernel
theorem dX8_endCondition_47 : decode cX8_endCondition 47 = .ok (.aload_n 0, 1) := by decide +kernel
theorem dX8_endCondition_48 : decode cX8_endCondition 48 = .ok (.getfield 24, 3) := by decide +kernel
theorem dX8_endCondition_51 : decode cX8_endCondition 51 = .ok (.aload_n 0, 1) := by decide +kernel
theorem dX8_endCondition_52 : decode cX8_endCondition 52 = .ok (.getfield 31, 3) := by decide +kernel
theorem dX8_endCondition_55 : decode cX8_endCondition 55 = .ok (.iconst (-1), 1) := by decide +kernel
theorem dX8_endCondition_56 : decode cX8_endCondition 56 = .ok (.iastore, 1) := by decide +kernel
theorem dX8_endCondition_57 : decode cX8_endCondition 57 = .ok (.aload_n 0, 1) := by decide +kernel
theorem dX8_endCondition_58 : decode cX8_endCondition 58 = .ok (.dup, 1) := by decide +kernel
theorem dX8_endCondition_59 : decode cX8_endCondition 59 = .ok (.getfield 31, 3) := by decide +kernel
theorem dX8_endCondition_62 : decode cX8_endCondition 62 = .ok (.iconst 1, 1) := by decide +kernel
theorem dX8_endCondition_63 : decode cX8_endCondition 63 = .ok (.iadd, 1) := by decide +kernel
theorem dX8_endCondition_64 : decode cX8_endCondition 64 = .ok (.putfield 31, 3) := by decide +kernel
theorem dX8_endCondition_67 : decode cX8_endCondition 67 = .ok (.return_, 1) := by decide +kernel
theorem dX8_act_0 : decode cX8_act 0 = .ok (.aload_n 0, 1) := by decide +kernel
theorem dX8_act_1 : decode cX8_act 1 = .ok (.getfield 31, 3) := by decide +kernel
theorem dX8_act_4 : decode cX8_act 4 = .ok (.iconst 1, 1) := by decide +kernel
theorem dX8_act_5 : decode cX8_act 5 = .ok (.isub, 1) := by decide +kernel
theorem dX8_act_6 : decode cX8_act 6 = .ok (.istore_n 2, 1) := by decide +kernel
theorem dX8_act_7 : decode cX8_act 7 = .ok (.iload_n 2, 1) := by decide +kernel
theorem dX8_act_8 : decode cX8_act 8 = .ok (.bipush 21, 2) := by decide +kernel
theorem dX8_act_10 : decode cX8_act 10 = .ok (.invokestatic 37, 3) := by decide +kernel
theorem dX8_act_13 : decode cX8_act 13 = .ok (.ifCond .ne 4, 3) := by decide +kernel
theorem dX8_act_16 : decode cX8_act 16 = .ok (.return_, 1) := by decide +kernel
theorem dX8_act_17 : decode cX8_act 17 = .ok (.iload_n 1, 1) := by decide +kernel
theorem dX8_act_18 : decode cX8_act 18 = .ok (.lookupswitch 100 #[(43, 50), (45, 70), (61, 60), (103, 80), (104, 90)], 50) := by decide +kernel
theorem dX8_act_68 : decode cX8_act 68 = .ok (.aload_n 0, 1) := by decide +kernel
theorem dX8_act_69 : decode cX8_act 69 = .ok (.getfield 18, 3) := by decide +kernel
theorem dX8_act_72 : decode cX8_act 72 = .ok (.iload_n 2, 1) := by decide +kernel
theorem dX8_act_73 : decode cX8_act 73 = .ok (.iconst 1, 1) := by decide +kernel
theorem dX8_act_74 : decode cX8_act 74 = .ok (.iastore, 1) := by decide +kernel
theorem dX8_act_75 : decode cX8_act 75 = .ok (.goto 43, 3) := by decide +kernel
theorem dX8_act_78 : decode cX8_act 78 = .ok (.aload_n 0, 1) := by decide +kernel
theorem dX8_act_79 : decode cX8_act 79 = .ok (.getfield 18, 3) := by decide +kernel
theorem dX8_act_82 : decode cX8_act 82 = .ok (.iload_n 2, 1) := by decide +kernel
theorem dX8_act_83 : decode cX8_act 83 = .ok (.iconst 0, 1) := by decide +kernel
theorem dX8_act_84 : decode cX8_act 84 = .ok (.iastore, 1) := by decide +kernel
theorem dX8_act_85 : decode cX8_act 85 = .ok (.goto 33, 3) := by decide +kernel
theorem dX8_act_88 : decode cX8_act 88 = .ok (.aload_n 0, 1) := by decide +kernel
theorem dX8_act_89 : decode cX8_act 89 = .ok (.getfield 18, 3) := by decide +kernel
theorem dX8_act_92 : decode cX8_act 92 = .ok (.iload_n 2, 1) := by decide +kernel
theorem dX8_act_93 : decode cX8_act 93 = .ok (.iconst (-1), 1) := by decide +kernel
theorem dX8_act_94 : decode cX8_act 94 = .ok (.iastore, 1) := by decide +kernel
theorem dX8_act_95 : decode cX8_act 95 = .ok (.goto 23, 3) := by decide +kernel
theorem dX8_act_98 : decode cX8_act 98 = .ok (.aload_n 0, 1) := by decide +kernel
theorem dX8_act_99 : decode cX8_act 99 = .ok (.getfield 21, 3) := by decide +kernel
theorem dX8_act_102 : decode cX8_act 102 = .ok (.iload_n 2, 1) := by decide +kernel
theorem dX8_act_103 : decode cX8_act 103 = .ok (.iconst 1, 1) := by decide +kernel
theorem dX8_act_104 : decode cX8_act 104 = .ok (.iastore, 1) := by decide +kernel
theorem dX8_act_105 : decode cX8_act 105 = .ok (.goto 13, 3) := by decide +kernel
theorem dX8_act_108 : decode cX8_act 108 = .ok (.aload_n 0, 1) := by decide +kernel
theorem dX8_act_109 : decode cX8_act 109 = .ok (.getfield 21, 3) := by decide +kernel
theorem dX8_act_112 : decode cX8_act 112 = .ok (.iload_n 2, 1) := by decide +kernel
theorem dX8_act_113 : decode cX8_act 113 = .ok (.iconst 0, 1) := by decide +kernel
theorem dX8_act_114 : decode cX8_act 114 = .ok (.iastore, 1) := by decide +kernel
theorem dX8_act_115 : decode cX8_act 115 = .ok (.goto 3, 3) := by decide +kernel
theorem dX8_act_118 : decode cX8_act 118 = .ok (.return_, 1) := by decide +kernel
theorem dX8_actBox_0 : decode cX8_actBox 0 = .ok (.aload_n 0, 1) := by decide +kernel
theorem dX8_actBox_1 : decode cX8_actBox 1 = .ok (.getfield 31, 3) := by decide +kernel
theorem dX8_actBox_4 : decode cX8_actBox 4 = .ok (.iconst 1, 1) := by decide +kernel
theorem dX8_actBox_5 : decode cX8_actBox 5 = .ok (.isub, 1) := by decide +kernel
theorem dX8_actBox_6 : decode cX8_actBox 6 = .ok (.bipush 21, 2) := by decide +kernel
theorem dX8_actBox_8 : decode cX8_actBox 8 = .ok (.invokestatic 37, 3) := by decide +kernel
theorem dX8_actBox_11 : decode cX8_actBox 11 = .ok (.ifCond .eq 15, 3) := by decide +kernel
theorem dX8_actBox_14 : decode cX8_actBox 14 = .ok (.aload_n 0, 1) := by decide +kernel
theorem dX8_actBox_15 : decode cX8_actBox 15 = .ok (.getfield 24, 3) := by decide +kernel
theorem dX8_actBox_18 : decode cX8_actBox 18 = .ok (.aload_n 0, 1) := by decide +kernel
theorem dX8_actBox_19 : decode cX8_actBox 19 = .ok (.getfield 31, 3) := by decide +kernel
theorem dX8_actBox_22 : decode cX8_actBox 22 = .ok (.iconst 1, 1) := by decide +kernel
theorem dX8_actBox_23 : decode cX8_actBox 23 = .ok (.isub, 1) := by decide +kernel
theorem dX8_actBox_24 : decode cX8_actBox 24 = .ok (.iload_n 1, 1) := by decide +kernel
theorem dX8_actBox_25 : decode cX8_actBox 25 = .ok (.iastore, 1) := by decide +kernel
theorem dX8_actBox_26 : decode cX8_actBox 26 = .ok (.return_, 1) := by decide +kernel
theorem dX9_layAnew_0 : decode cX9_layAnew 0 = .ok (.aload_n 0, 1) := by decide +kernel
theorem dX9_layAnew_1 : decode cX9_layAnew 1 = .ok (.iload_n 1, 1) := by decide +kernel
theorem dX9_layAnew_2 : decode cX9_layAnew 2 = .ok (.putfield 49, 3) := by decide +kernel
theorem dX9_layAnew_5 : decode cX9_layAnew 5 = .ok (.aload_n 0, 1) := by decide +kernel
theorem dX9_layAnew_6 : decode cX9_layAnew 6 = .ok (.iload_n 2, 1) := by decide +kernel
theorem dX9_layAnew_7 : decode cX9_layAnew 7 = .ok (.putfield 53, 3) := by decide +kernel
theorem dX9_layAnew_10 : decode cX9_layAnew 10 = .ok (.iconst 0, 1) := by decide +kernel
theorem dX9_layAnew_11 : decode cX9_layAnew 11 = .ok (.istore_n 3, 1) := by decide +kernel
theorem dX9_layAnew_12 : decode cX9_layAnew 12 = .ok (.iload_n 3, 1) := by decide +kernel
theorem dX9_layAnew_13 : decode cX9_layAnew 13 = .ok (.iconst 5, 1) := by decide +kernel
theorem dX9_layAnew_14 : decode cX9_layAnew 14 = .ok (.if_icmp .ge 34, 3) := by decide +kernel
theorem dX9_layAnew_17 : decode cX9_layAnew 17 = .ok (.aload_n 0, 1) := by decide +kernel
theorem dX9_layAnew_18 : decode cX9_layAnew 18 = .ok (.getfield 9, 3) := by decide +kernel
theorem dX9_layAnew_21 : decode cX9_layAnew 21 = .ok (.iload_n 3, 1) := by decide +kernel
theorem dX9_layAnew_22 : decode cX9_layAnew 22 = .ok (.sipush 20000, 3) := by decide +kernel
theorem dX9_layAnew_25 : decode cX9_layAnew 25 = .ok (.iastore, 1) := by decide +kernel
theorem dX9_layAnew_26 : decode cX9_layAnew 26 = .ok (.aload_n 0, 1) := by decide +kernel
theorem dX9_layAnew_27 : decode cX9_layAnew 27 = .ok (.getfield 15, 3) := by decide +kernel
theorem dX9_layAnew_30 : decode cX9_layAnew 30 = .ok (.iload_n 3, 1) := by decide +kernel
theorem dX9_layAnew_31 : decode cX9_layAnew 31 = .ok (.sipush 300, 3) := by decide +kernel
theorem dX9_layAnew_34 : decode cX9_layAnew 34 = .ok (.iastore, 1) := by decide +kernel
theorem dX9_layAnew_35 : decode cX9_layAnew 35 = .ok (.aload_n 0, 1) := by decide +kernel
theorem dX9_layAnew_36 : decode cX9_layAnew 36 = .ok (.getfield 18, 3) := by decide +kernel
theorem dX9_layAnew_39 : decode cX9_layAnew 39 = .ok (.iload_n 3, 1) := by decide +kernel
theorem dX9_layAnew_40 : decode cX9_layAnew 40 = .ok (.iconst 0, 1) := by decide +kernel
theorem dX9_layAnew_41 : decode cX9_layAnew 41 = .ok (.bastore, 1) := by decide +kernel
theorem dX9_layAnew_42 : decode cX9_layAnew 42 = .ok (.iinc 3 1, 3) := by decide +kernel
theorem dX9_layAnew_45 : decode cX9_layAnew 45 = .ok (.goto (-33), 3) := by decide +kernel
theorem dX9_layAnew_48 : decode cX9_layAnew 48 = .ok (.aload_n 0, 1) := by decide +kernel
theorem dX9_layAnew_49 : decode cX9_layAnew 49 = .ok (.getfield 33, 3) := by decide +kernel
theorem dX9_layAnew_52 : decode cX9_layAnew 52 = .ok (.iconst 0, 1) := by decide +kernel
theorem dX9_layAnew_53 : decode cX9_layAnew 53 = .ok (.putfield 56, 3) := by decide +kernel
theorem dX9_layAnew_56 : decode cX9_layAnew 56 = .ok (.aload_n 0, 1) := by decide +kernel
theorem dX9_layAnew_57 : decode cX9_layAnew 57 = .ok (.getfield 37, 3) := by decide +kernel
theorem dX9_layAnew_60 : decode cX9_layAnew 60 = .ok (.iconst 0, 1) := by decide +kernel
theorem dX9_layAnew_61 : decode cX9_layAnew 61 = .ok (.putfield 56, 3) := by decide +kernel
theorem dX9_layAnew_64 : decode cX9_layAnew 64 = .ok (.return_, 1) := by decide +kernel
theorem dX9_hasSector_0 : decode cX9_hasSector 0 = .ok (.iload_n 1, 1) := by decide +kernel
theorem dX9_hasSector_1 : decode cX9_hasSector 1 = .ok (.aload_n 0, 1) := by decide +kernel
theorem dX9_hasSector_2 : decode cX9_hasSector 2 = .ok (.getfield 49, 3) := by decide +kernel
theorem dX9_hasSector_5 : decode cX9_hasSector 5 = .ok (.invokestatic 59, 3) := by decide +kernel
theorem dX9_hasSector_8 : decode cX9_hasSector 8 = .ok (.ireturn, 1) := by decide +kernel
theorem dX9_hasLine_0 : decode cX9_hasLine 0 = .ok (.iload_n 1, 1) := by decide +kernel
theorem dX9_hasLine_1 : decode cX9_hasLine 1 = .ok (.aload_n 0, 1) := by decide +kernel
theorem dX9_hasLine_2 : decode cX9_hasLine 2 = .ok (.getfield 53, 3) := by decide +kernel
theorem dX9_hasLine_5 : decode cX9_hasLine 5 = .ok (.invokestatic 59, 3) := by decide +kernel
theorem dX9_hasLine_8 : decode cX9_hasLine 8 = .ok (.ifCond .eq 15, 3) := by decide +kernel
theorem dX9_hasLine_11 : decode cX9_hasLine 11 = .ok (.aload_n 0, 1) := by decide +kernel
theorem dX9_hasLine_12 : decode cX9_hasLine 12 = .ok (.iload_n 2, 1) := by decide +kernel
theorem dX9_hasLine_13 : decode cX9_hasLine 13 = .ok (.invokevirtual 63, 3) := by decide +kernel
theorem dX9_hasLine_16 : decode cX9_hasLine 16 = .ok (.ifCond .eq 7, 3) := by decide +kernel
theorem dX9_hasLine_19 : decode cX9_hasLine 19 = .ok (.iconst 1, 1) := by decide +kernel
theorem dX9_hasLine_20 : decode cX9_hasLine 20 = .ok (.goto 4, 3) := by decide +kernel
theorem dX9_hasLine_23 : decode cX9_hasLine 23 = .ok (.iconst 0, 1) := by decide +kernel
theorem dX9_hasLine_24 : decode cX9_hasLine 24 = .ok (.ireturn, 1) := by decide +kernel
theorem dX9_lineOf_0 : decode cX9_lineOf 0 = .ok (.iload_n 1, 1) := by decide +kernel
theorem dX9_lineOf_1 : decode cX9_lineOf 1 = .ok (.aload_n 0, 1) := by decide +kernel
theorem dX9_lineOf_2 : decode cX9_lineOf 2 = .ok (.getfield 49, 3) := by decide +kernel
theorem dX9_lineOf_5 : decode cX9_lineOf 5 = .ok (.imul, 1) := by decide +kernel
theorem dX9_lineOf_6 : decode cX9_lineOf 6 = .ok (.iload_n 2, 1) := by decide +kernel
theorem dX9_lineOf_7 : decode cX9_lineOf 7 = .ok (.iadd, 1) := by decide +kernel
theorem dX9_lineOf_8 : decode cX9_lineOf 8 = .ok (.ireturn, 1) := by decide +kernel
theorem dX9_sectorOf_0 : decode cX9_sectorOf 0 = .ok (.aload_n 0, 1) := by decide +kernel
theorem dX9_sectorOf_1 : decode cX9_sectorOf 1 = .ok (.getfield 49, 3) := by decide +kernel
theorem dX9_sectorOf_4 : decode cX9_sectorOf 4 = .ok (.ifCond .le 12, 3) := by decide +kernel
theorem dX9_sectorOf_7 : decode cX9_sectorOf 7 = .ok (.iload_n 1, 1) := by decide +kernel
theorem dX9_sectorOf_8 : decode cX9_sectorOf 8 = .ok (.aload_n 0, 1) := by decide +kernel
theorem dX9_sectorOf_9 : decode cX9_sectorOf 9 = .ok (.getfield 49, 3) := by decide +kernel
theorem dX9_sectorOf_12 : decode cX9_sectorOf 12 = .ok (.irem, 1) := by decide +kernel
theorem dX9_sectorOf_13 : decode cX9_sectorOf 13 = .ok (.goto 4, 3) := by decide +kernel
theorem dX9_sectorOf_16 : decode cX9_sectorOf 16 = .ok (.iconst 0, 1) := by decide +kernel
theorem dX9_sectorOf_17 : decode cX9_sectorOf 17 = .ok (.ireturn, 1) := by decide +kernel
theorem dX9_lapOf_0 : decode cX9_lapOf 0 = .ok (.aload_n 0, 1) := by decide +kernel
theorem dX9_lapOf_1 : decode cX9_lapOf 1 = .ok (.getfield 49, 3) := by decide +kernel
theorem dX9_lapOf_4 : decode cX9_lapOf 4 = .ok (.ifCond .le 12, 3) := by decide +kernel
theorem dX9_lapOf_7 : decode cX9_lapOf 7 = .ok (.iload_n 1, 1) := by decide +kernel
theorem dX9_lapOf_8 : decode cX9_lapOf 8 = .ok (.aload_n 0, 1) := by decide +kernel
theorem dX9_lapOf_9 : decode cX9_lapOf 9 = .ok (.getfield 49, 3) := by decide +kernel
theorem dX9_lapOf_12 : decode cX9_lapOf 12 = .ok (.idiv, 1) := by decide +kernel
theorem dX9_lapOf_13 : decode cX9_lapOf 13 = .ok (.goto 4, 3) := by decide +kernel
theorem dX9_lapOf_16 : decode cX9_lapOf 16 = .ok (.iconst 0, 1) := by decide +kernel
theorem dX9_lapOf_17 : decode cX9_lapOf 17 = .ok (.ireturn, 1) := by decide +kernel
theorem dX9_tells_0 : decode cX9_tells 0 = .ok (.aload_n 0, 1) := by decide +kernel
theorem dX9_tells_1 : decode cX9_tells 1 = .ok (.getfield 18, 3) := by decide +kernel
theorem dX9_tells_4 : decode cX9_tells 4 = .ok (.aload_n 0, 1) := by decide +kernel
theorem dX9_tells_5 : decode cX9_tells 5 = .ok (.iload_n 1, 1) := by decide +kernel
theorem dX9_tells_6 : decode cX9_tells 6 = .ok (.invokevirtual 67, 3) := by decide +kernel
theorem dX9_tells_9 : decode cX9_tells 9 = .ok (.baload, 1) := by decide +kernel
theorem dX9_tells_10 : decode cX9_tells 10 = .ok (.ifCond .ne 7, 3) := by decide +kernel
theorem dX9_tells_13 : decode cX9_tells 13 = .ok (.iconst 1, 1) := by decide +kernel
theorem dX9_tells_14 : decode cX9_tells 14 = .ok (.goto 4, 3) := by decide +kernel
theorem dX9_tells_17 : decode cX9_tells 17 = .ok (.iconst 0, 1) := by decide +kernel
theorem dX9_tells_18 : decode cX9_tells 18 = .ok (.ireturn, 1) := by decide +kernel
theorem dX9_tyreNumber_0 : decode cX9_tyreNumber 0 = .ok (.iload_n 1, 1) := by decide +kernel
theorem dX9_tyreNumber_1 : decode cX9_tyreNumber 1 = .ok (.iconst 4, 1) := by decide +kernel
theorem dX9_tyreNumber_2 : decode cX9_tyreNumber 2 = .ok (.invokestatic 59, 3) := by decide +kernel
theorem dX9_tyreNumber_5 : decode cX9_tyreNumber 5 = .ok (.ifCond .eq 12, 3) := by decide +kernel
theorem dX9_tyreNumber_8 : decode cX9_tyreNumber 8 = .ok (.iload_n 2, 1) := by decide +kernel
theorem dX9_tyreNumber_9 : decode cX9_tyreNumber 9 = .ok (.bipush 6, 2) := by decide +kernel
theorem dX9_tyreNumber_11 : decode cX9_tyreNumber 11 = .ok (.invokestatic 59, 3) := by decide +kernel
theorem dX9_tyreNumber_14 : decode cX9_tyreNumber 14 = .ok (.ifCond .ne 5, 3) := by decide +kernel
theorem dX9_tyreNumber_17 : decode cX9_tyreNumber 17 = .ok (.iconst 0, 1) := by decide +kernel
theorem dX9_tyreNumber_18 : decode cX9_tyreNumber 18 = .ok (.ireturn, 1) := by decide +kernel
theorem dX9_tyreNumber_19 : decode cX9_tyreNumber 19 = .ok (.aload_n 0, 1) := by decide +kernel
theorem dX9_tyreNumber_20 : decode cX9_tyreNumber 20 = .ok (.getfield 22, 3) := by decide +kernel
theorem dX9_tyreNumber_23 : decode cX9_tyreNumber 23 = .ok (.iload_n 1, 1) := by decide +kernel
theorem dX9_tyreNumber_24 : decode cX9_tyreNumber 24 = .ok (.bipush 6, 2) := by decide +kernel
theorem dX9_tyreNumber_26 : decode cX9_tyreNumber 26 = .ok (.imul, 1) := by decide +kernel
theorem dX9_tyreNumber_27 : decode cX9_tyreNumber 27 = .ok (.iload_n 2, 1) := by decide +kernel
theorem dX9_tyreNumber_28 : decode cX9_tyreNumber 28 = .ok (.iadd, 1) := by decide +kernel
theorem dX9_tyreNumber_29 : decode cX9_tyreNumber 29 = .ok (.iaload, 1) := by decide +kernel
theorem dX9_tyreNumber_30 : decode cX9_tyreNumber 30 = .ok (.ireturn, 1) := by decide +kernel
theorem dX9_wetAt_0 : decode cX9_wetAt 0 = .ok (.iconst 0, 1) := by decide +kernel
theorem dX9_wetAt_1 : decode cX9_wetAt 1 = .ok (.istore_n 3, 1) := by decide +kernel
theorem dX9_wetAt_2 : decode cX9_wetAt 2 = .ok (.iconst 0, 1) := by decide +kernel
theorem dX9_wetAt_3 : decode cX9_wetAt 3 = .ok (.istore 4, 2) := by decide +kernel
theorem dX9_wetAt_5 : decode cX9_wetAt 5 = .ok (.iconst 0, 1) := by decide +kernel
theorem dX9_wetAt_6 : decode cX9_wetAt 6 = .ok (.istore 5, 2) := by decide +kernel
theorem dX9_wetAt_8 : decode cX9_wetAt 8 = .ok (.iload 5, 2) := by decide +kernel
theorem dX9_wetAt_10 : decode cX9_wetAt 10 = .ok (.aload_n 0, 1) := by decide +kernel
theorem dX9_wetAt_11 : decode cX9_wetAt 11 = .ok (.getfield 33, 3) := by decide +kernel
theorem dX9_wetAt_14 : decode cX9_wetAt 14 = .ok (.getfield 56, 3) := by decide +kernel
theorem dX9_wetAt_17 : decode cX9_wetAt 17 = .ok (.if_icmp .ge 63, 3) := by decide +kernel
theorem dX9_wetAt_20 : decode cX9_wetAt 20 = .ok (.aload_n 0, 1) := by decide +kernel
theorem dX9_wetAt_21 : decode cX9_wetAt 21 = .ok (.getfield 33, 3) := by decide +kernel
theorem dX9_wetAt_24 : decode cX9_wetAt 24 = .ok (.iload 5, 2) := by decide +kernel
theorem dX9_wetAt_26 : decode cX9_wetAt 26 = .ok (.iconst 1, 1) := by decide +kernel
theorem dX9_wetAt_27 : decode cX9_wetAt 27 = .ok (.invokevirtual 71, 3) := by decide +kernel
theorem dX9_wetAt_30 : decode cX9_wetAt 30 = .ok (.istore 6, 2) := by decide +kernel
theorem dX9_wetAt_32 : decode cX9_wetAt 32 = .ok (.aload_n 0, 1) := by decide +kernel
theorem dX9_wetAt_33 : decode cX9_wetAt 33 = .ok (.getfield 33, 3) := by decide +kernel
theorem dX9_wetAt_36 : decode cX9_wetAt 36 = .ok (.iload 5, 2) := by decide +kernel
theorem dX9_wetAt_38 : decode cX9_wetAt 38 = .ok (.iconst 0, 1) := by decide +kernel
theorem dX9_wetAt_39 : decode cX9_wetAt 39 = .ok (.invokevirtual 71, 3) := by decide +kernel
theorem dX9_wetAt_42 : decode cX9_wetAt 42 = .ok (.iload_n 1, 1) := by decide +kernel
theorem dX9_wetAt_43 : decode cX9_wetAt 43 = .ok (.if_icmp .ne 31, 3) := by decide +kernel
theorem dX9_wetAt_46 : decode cX9_wetAt 46 = .ok (.iload 6, 2) := by decide +kernel
theorem dX9_wetAt_48 : decode cX9_wetAt 48 = .ok (.iload_n 2, 1) := by decide +kernel
theorem dX9_wetAt_49 : decode cX9_wetAt 49 = .ok (.if_icmp .gt 25, 3) := by decide +kernel
theorem dX9_wetAt_52 : decode cX9_wetAt 52 = .ok (.iload 6, 2) := by decide +kernel
theorem dX9_wetAt_54 : decode cX9_wetAt 54 = .ok (.iload 4, 2) := by decide +kernel
theorem dX9_wetAt_56 : decode cX9_wetAt 56 = .ok (.if_icmp .lt 18, 3) := by decide +kernel
theorem dX9_wetAt_59 : decode cX9_wetAt 59 = .ok (.iload 6, 2) := by decide +kernel
theorem dX9_wetAt_61 : decode cX9_wetAt 61 = .ok (.istore 4, 2) := by decide +kernel
theorem dX9_wetAt_63 : decode cX9_wetAt 63 = .ok (.aload_n 0, 1) := by decide +kernel
theorem dX9_wetAt_64 : decode cX9_wetAt 64 = .ok (.getfield 33, 3) := by decide +kernel
theorem dX9_wetAt_67 : decode cX9_wetAt 67 = .ok (.iload 5, 2) := by decide +kernel
theorem dX9_wetAt_69 : decode cX9_wetAt 69 = .ok (.iconst 2, 1) := by decide +kernel
theorem dX9_wetAt_70 : decode cX9_wetAt 70 = .ok (.invokevirtual 71, 3) := by decide +kernel
theorem dX9_wetAt_73 : decode cX9_wetAt 73 = .ok (.istore_n 3, 1) := by decide +kernel
theorem dX9_wetAt_74 : decode cX9_wetAt 74 = .ok (.iinc 5 1, 3) := by decide +kernel
theorem dX9_wetAt_77 : decode cX9_wetAt 77 = .ok (.goto (-69), 3) := by decide +kernel
theorem dX9_wetAt_80 : decode cX9_wetAt 80 = .ok (.iload_n 3, 1) := by decide +kernel
theorem dX9_wetAt_81 : decode cX9_wetAt 81 = .ok (.ireturn, 1) := by decide +kernel
theorem dX9_slowAt_0 : decode cX9_slowAt 0 = .ok (.iconst 0, 1) := by decide +kernel
theorem dX9_slowAt_1 : decode cX9_slowAt 1 = .ok (.istore_n 2, 1) := by decide +kernel
theorem dX9_slowAt_2 : decode cX9_slowAt 2 = .ok (.iload_n 2, 1) := by decide +kernel
theorem dX9_slowAt_3 : decode cX9_slowAt 3 = .ok (.aload_n 0, 1) := by decide +kernel
theorem dX9_slowAt_4 : decode cX9_slowAt 4 = .ok (.getfield 37, 3) := by decide +kernel
theorem dX9_slowAt_7 : decode cX9_slowAt 7 = .ok (.getfield 56, 3) := by decide +kernel
theorem dX9_slowAt_10 : decode cX9_slowAt 10 = .ok (.if_icmp .ge 50, 3) := by decide +kernel
theorem dX9_slowAt_13 : decode cX9_slowAt 13 = .ok (.aload_n 0, 1) := by decide +kernel
theorem dX9_slowAt_14 : decode cX9_slowAt 14 = .ok (.getfield 37, 3) := by decide +kernel
theorem dX9_slowAt_17 : decode cX9_slowAt 17 = .ok (.iload_n 2, 1) := by decide +kernel
theorem dX9_slowAt_18 : decode cX9_slowAt 18 = .ok (.iconst 3, 1) := by decide +kernel
theorem dX9_slowAt_19 : decode cX9_slowAt 19 = .ok (.invokevirtual 71, 3) := by decide +kernel
theorem dX9_slowAt_22 : decode cX9_slowAt 22 = .ok (.iconst 1, 1) := by decide +kernel
theorem dX9_slowAt_23 : decode cX9_slowAt 23 = .ok (.if_icmp .ne 31, 3) := by decide +kernel
theorem dX9_slowAt_26 : decode cX9_slowAt 26 = .ok (.aload_n 0, 1) := by decide +kernel
theorem dX9_slowAt_27 : decode cX9_slowAt 27 = .ok (.getfield 37, 3) := by decide +kernel
theorem dX9_slowAt_30 : decode cX9_slowAt 30 = .ok (.iload_n 2, 1) := by decide +kernel
theorem dX9_slowAt_31 : decode cX9_slowAt 31 = .ok (.iconst 1, 1) := by decide +kernel
theorem dX9_slowAt_32 : decode cX9_slowAt 32 = .ok (.invokevirtual 71, 3) := by decide +kernel
theorem dX9_slowAt_35 : decode cX9_slowAt 35 = .ok (.iload_n 1, 1) := by decide +kernel
theorem dX9_slowAt_36 : decode cX9_slowAt 36 = .ok (.if_icmp .gt 18, 3) := by decide +kernel
theorem dX9_slowAt_39 : decode cX9_slowAt 39 = .ok (.iload_n 1, 1) := by decide +kernel
theorem dX9_slowAt_40 : decode cX9_slowAt 40 = .ok (.aload_n 0, 1) := by decide +kernel
theorem dX9_slowAt_41 : decode cX9_slowAt 41 = .ok (.getfield 37, 3) := by decide +kernel
theorem dX9_slowAt_44 : decode cX9_slowAt 44 = .ok (.iload_n 2, 1) := by decide +kernel
theorem dX9_slowAt_45 : decode cX9_slowAt 45 = .ok (.iconst 2, 1) := by decide +kernel
theorem dX9_slowAt_46 : decode cX9_slowAt 46 = .ok (.invokevirtual 71, 3) := by decide +kernel
theorem dX9_slowAt_49 : decode cX9_slowAt 49 = .ok (.if_icmp .ge 5, 3) := by decide +kernel
theorem dX9_slowAt_52 : decode cX9_slowAt 52 = .ok (.iconst 1, 1) := by decide +kernel
theorem dX9_slowAt_53 : decode cX9_slowAt 53 = .ok (.ireturn, 1) := by decide +kernel
theorem dX9_slowAt_54 : decode cX9_slowAt 54 = .ok (.iinc 2 1, 3) := by decide +kernel
theorem dX9_slowAt_57 : decode cX9_slowAt 57 = .ok (.goto (-55), 3) := by decide +kernel
theorem dX9_slowAt_60 : decode cX9_slowAt 60 = .ok (.iconst 0, 1) := by decide +kernel
theorem dX9_slowAt_61 : decode cX9_slowAt 61 = .ok (.ireturn, 1) := by decide +kernel
theorem dX9_yellowAt_0 : decode cX9_yellowAt 0 = .ok (.iconst 0, 1) := by decide +kernel
theorem dX9_yellowAt_1 : decode cX9_yellowAt 1 = .ok (.istore_n 3, 1) := by decide +kernel
theorem dX9_yellowAt_2 : decode cX9_yellowAt 2 = .ok (.iload_n 3, 1) := by decide +kernel
theorem dX9_yellowAt_3 : decode cX9_yellowAt 3 = .ok (.aload_n 0, 1) := by decide +kernel
theorem dX9_yellowAt_4 : decode cX9_yellowAt 4 = .ok (.getfield 37, 3) := by decide +kernel
theorem dX9_yellowAt_7 : decode cX9_yellowAt 7 = .ok (.getfield 56, 3) := by decide +kernel
theorem dX9_yellowAt_10 : decode cX9_yellowAt 10 = .ok (.if_icmp .ge 89, 3) := by decide +kernel
theorem dX9_yellowAt_13 : decode cX9_yellowAt 13 = .ok (.aload_n 0, 1) := by decide +kernel
theorem dX9_yellowAt_14 : decode cX9_yellowAt 14 = .ok (.getfield 37, 3) := by decide +kernel
theorem dX9_yellowAt_17 : decode cX9_yellowAt 17 = .ok (.iload_n 3, 1) := by decide +kernel
theorem dX9_yellowAt_18 : decode cX9_yellowAt 18 = .ok (.iconst 0, 1) := by decide +kernel
theorem dX9_yellowAt_19 : decode cX9_yellowAt 19 = .ok (.invokevirtual 71, 3) := by decide +kernel
theorem dX9_yellowAt_22 : decode cX9_yellowAt 22 = .ok (.istore 4, 2) := by decide +kernel
theorem dX9_yellowAt_24 : decode cX9_yellowAt 24 = .ok (.iload 4, 2) := by decide +kernel
theorem dX9_yellowAt_26 : decode cX9_yellowAt 26 = .ok (.iconst (-1), 1) := by decide +kernel
theorem dX9_yellowAt_27 : decode cX9_yellowAt 27 = .ok (.if_icmp .eq 14, 3) := by decide +kernel
theorem dX9_yellowAt_30 : decode cX9_yellowAt 30 = .ok (.iload_n 1, 1) := by decide +kernel
theorem dX9_yellowAt_31 : decode cX9_yellowAt 31 = .ok (.iconst (-1), 1) := by decide +kernel
theorem dX9_yellowAt_32 : decode cX9_yellowAt 32 = .ok (.if_icmp .eq 9, 3) := by decide +kernel
theorem dX9_yellowAt_35 : decode cX9_yellowAt 35 = .ok (.iload 4, 2) := by decide +kernel
theorem dX9_yellowAt_37 : decode cX9_yellowAt 37 = .ok (.iload_n 1, 1) := by decide +kernel
theorem dX9_yellowAt_38 : decode cX9_yellowAt 38 = .ok (.if_icmp .ne 7, 3) := by decide +kernel
theorem dX9_yellowAt_41 : decode cX9_yellowAt 41 = .ok (.iconst 1, 1) := by decide +kernel
theorem dX9_yellowAt_42 : decode cX9_yellowAt 42 = .ok (.goto 4, 3) := by decide +kernel
theorem dX9_yellowAt_45 : decode cX9_yellowAt 45 = .ok (.iconst 0, 1) := by decide +kernel
theorem dX9_yellowAt_46 : decode cX9_yellowAt 46 = .ok (.istore 5, 2) := by decide +kernel
theorem dX9_yellowAt_48 : decode cX9_yellowAt 48 = .ok (.iload 5, 2) := by decide +kernel
theorem dX9_yellowAt_50 : decode cX9_yellowAt 50 = .ok (.ifCond .eq 43, 3) := by decide +kernel
theorem dX9_yellowAt_53 : decode cX9_yellowAt 53 = .ok (.aload_n 0, 1) := by decide +kernel
theorem dX9_yellowAt_54 : decode cX9_yellowAt 54 = .ok (.getfield 37, 3) := by decide +kernel
theorem dX9_yellowAt_57 : decode cX9_yellowAt 57 = .ok (.iload_n 3, 1) := by decide +kernel
theorem dX9_yellowAt_58 : decode cX9_yellowAt 58 = .ok (.iconst 3, 1) := by decide +kernel
theorem dX9_yellowAt_59 : decode cX9_yellowAt 59 = .ok (.invokevirtual 71, 3) := by decide +kernel
theorem dX9_yellowAt_62 : decode cX9_yellowAt 62 = .ok (.ifCond .ne 31, 3) := by decide +kernel
theorem dX9_yellowAt_65 : decode cX9_yellowAt 65 = .ok (.aload_n 0, 1) := by decide +kernel
theorem dX9_yellowAt_66 : decode cX9_yellowAt 66 = .ok (.getfield 37, 3) := by decide +kernel
theorem dX9_yellowAt_69 : decode cX9_yellowAt 69 = .ok (.iload_n 3, 1) := by decide +kernel
theorem dX9_yellowAt_70 : decode cX9_yellowAt 70 = .ok (.iconst 1, 1) := by decide +kernel
theorem dX9_yellowAt_71 : decode cX9_yellowAt 71 = .ok (.invokevirtual 71, 3) := by decide +kernel
theorem dX9_yellowAt_74 : decode cX9_yellowAt 74 = .ok (.iload_n 2, 1) := by decide +kernel
theorem dX9_yellowAt_75 : decode cX9_yellowAt 75 = .ok (.if_icmp .gt 18, 3) := by decide +kernel
theorem dX9_yellowAt_78 : decode cX9_yellowAt 78 = .ok (.iload_n 2, 1) := by decide +kernel
theorem dX9_yellowAt_79 : decode cX9_yellowAt 79 = .ok (.aload_n 0, 1) := by decide +kernel
theorem dX9_yellowAt_80 : decode cX9_yellowAt 80 = .ok (.getfield 37, 3) := by decide +kernel
theorem dX9_yellowAt_83 : decode cX9_yellowAt 83 = .ok (.iload_n 3, 1) := by decide +kernel
theorem dX9_yellowAt_84 : decode cX9_yellowAt 84 = .ok (.iconst 2, 1) := by decide +kernel
theorem dX9_yellowAt_85 : decode cX9_yellowAt 85 = .ok (.invokevirtual 71, 3) := by decide +kernel
theorem dX9_yellowAt_88 : decode cX9_yellowAt 88 = .ok (.if_icmp .ge 5, 3) := by decide +kernel
theorem dX9_yellowAt_91 : decode cX9_yellowAt 91 = .ok (.iconst 1, 1) := by decide +kernel
theorem dX9_yellowAt_92 : decode cX9_yellowAt 92 = .ok (.ireturn, 1) := by decide +kernel
theorem dX9_yellowAt_93 : decode cX9_yellowAt 93 = .ok (.iinc 3 1, 3) := by decide +kernel
theorem dX9_yellowAt_96 : decode cX9_yellowAt 96 = .ok (.goto (-94), 3) := by decide +kernel
theorem dX9_yellowAt_99 : decode cX9_yellowAt 99 = .ok (.iconst 0, 1) := by decide +kernel
theorem dX9_yellowAt_100 : decode cX9_yellowAt 100 = .ok (.ireturn, 1) := by decide +kernel
theorem dX10_search_0 : decode cX10_search 0 = .ok (.aload_n 0, 1) := by decide +kernel
theorem dX10_search_1 : decode cX10_search 1 = .ok (.getfield 9, 3) := by decide +kernel
theorem dX10_search_4 : decode cX10_search 4 = .ok (.iload_n 1, 1) := by decide +kernel
theorem dX10_search_5 : decode cX10_search 5 = .ok (.invokevirtual 41, 3) := by decide +kernel
theorem dX10_search_8 : decode cX10_search 8 = .ok (.ifCond .eq 12, 3) := by decide +kernel
theorem dX10_search_11 : decode cX10_search 11 = .ok (.iload_n 2, 1) := by decide +kernel
theorem dX10_search_12 : decode cX10_search 12 = .ok (.iconst 0, 1) := by decide +kernel
theorem dX10_search_13 : decode cX10_search 13 = .ok (.iconst 2, 1) := by decide +kernel
theorem dX10_search_14 : decode cX10_search 14 = .ok (.invokestatic 47, 3) := by decide +kernel
theorem dX10_search_17 : decode cX10_search 17 = .ok (.ifCond .ne 5, 3) := by decide +kernel
theorem dX10_search_20 : decode cX10_search 20 = .ok (.iconst 0, 1) := by decide +kernel
theorem dX10_search_21 : decode cX10_search 21 = .ok (.ireturn, 1) := by decide +kernel
theorem dX10_search_22 : decode cX10_search 22 = .ok (.aload_n 0, 1) := by decide +kernel
theorem dX10_search_23 : decode cX10_search 23 = .ok (.getfield 9, 3) := by decide +kernel
theorem dX10_search_26 : decode cX10_search 26 = .ok (.getfield 51, 3) := by decide +kernel
theorem dX10_search_29 : decode cX10_search 29 = .ok (.iload_n 1, 1) := by decide +kernel
theorem dX10_search_30 : decode cX10_search 30 = .ok (.aaload, 1) := by decide +kernel
theorem dX10_search_31 : decode cX10_search 31 = .ok (.astore 4, 2) := by decide +kernel
theorem dX10_search_33 : decode cX10_search 33 = .ok (.aload_n 0, 1) := by decide +kernel
theorem dX10_search_34 : decode cX10_search 34 = .ok (.getfield 9, 3) := by decide +kernel
theorem dX10_search_37 : decode cX10_search 37 = .ok (.getfield 55, 3) := by decide +kernel
theorem dX10_search_40 : decode cX10_search 40 = .ok (.getfield 59, 3) := by decide +kernel
theorem dX10_search_43 : decode cX10_search 43 = .ok (.iconst 2, 1) := by decide +kernel
theorem dX10_search_44 : decode cX10_search 44 = .ok (.isub, 1) := by decide +kernel
theorem dX10_search_45 : decode cX10_search 45 = .ok (.istore 5, 2) := by decide +kernel
theorem dX10_search_47 : decode cX10_search 47 = .ok (.iload_n 2, 1) := by decide +kernel
theorem dX10_search_48 : decode cX10_search 48 = .ok (.ifCond .le 24, 3) := by decide +kernel
theorem dX10_search_51 : decode cX10_search 51 = .ok (.aload 4, 2) := by decide +kernel
theorem dX10_search_53 : decode cX10_search 53 = .ok (.getfield 65, 3) := by decide +kernel
theorem dX10_search_56 : decode cX10_search 56 = .ok (.getfield 71, 3) := by decide +kernel
theorem dX10_search_59 : decode cX10_search 59 = .ok (.ifCond .eq 11, 3) := by decide +kernel
theorem dX10_search_62 : decode cX10_search 62 = .ok (.iload_n 2, 1) := by decide +kernel
theorem dX10_search_63 : decode cX10_search 63 = .ok (.iconst 1, 1) := by decide +kernel
theorem dX10_search_64 : decode cX10_search 64 = .ok (.isub, 1) := by decide +kernel
theorem dX10_search_65 : decode cX10_search 65 = .ok (.iload 5, 2) := by decide +kernel
theorem dX10_search_67 : decode cX10_search 67 = .ok (.if_icmp .le 5, 3) := by decide +kernel
theorem dX10_search_70 : decode cX10_search 70 = .ok (.iconst 0, 1) := by decide +kernel
theorem dX10_search_71 : decode cX10_search 71 = .ok (.ireturn, 1) := by decide +kernel
theorem dX10_search_72 : decode cX10_search 72 = .ok (.iconst 0, 1) := by decide +kernel
theorem dX10_search_73 : decode cX10_search 73 = .ok (.istore 6, 2) := by decide +kernel
theorem dX10_search_75 : decode cX10_search 75 = .ok (.iload 6, 2) := by decide +kernel
theorem dX10_search_77 : decode cX10_search 77 = .ok (.iload_n 2, 1) := by decide +kernel
theorem dX10_search_78 : decode cX10_search 78 = .ok (.if_icmp .ge 26, 3) := by decide +kernel
theorem dX10_search_81 : decode cX10_search 81 = .ok (.aload_n 0, 1) := by decide +kernel
theorem dX10_search_82 : decode cX10_search 82 = .ok (.getfield 19, 3) := by decide +kernel
theorem dX10_search_85 : decode cX10_search 85 = .ok (.iload 6, 2) := by decide +kernel
theorem dX10_search_87 : decode cX10_search 87 = .ok (.iload 6, 2) := by decide +kernel
theorem dX10_search_89 : decode cX10_search 89 = .ok (.iastore, 1) := by decide +kernel
theorem dX10_search_90 : decode cX10_search 90 = .ok (.aload_n 0, 1) := by decide +kernel
theorem dX10_search_91 : decode cX10_search 91 = .ok (.getfield 23, 3) := by decide +kernel
theorem dX10_search_94 : decode cX10_search 94 = .ok (.iload 6, 2) := by decide +kernel
theorem dX10_search_96 : decode cX10_search 96 = .ok (.iconst 0, 1) := by decide +kernel
theorem dX10_search_97 : decode cX10_search 97 = .ok (.iastore, 1) := by decide +kernel
theorem dX10_search_98 : decode cX10_search 98 = .ok (.iinc 6 1, 3) := by decide +kernel
theorem dX10_search_101 : decode cX10_search 101 = .ok (.goto (-26), 3) := by decide +kernel
theorem dX10_search_104 : decode cX10_search 104 = .ok (.aload 4, 2) := by decide +kernel
theorem dX10_search_106 : decode cX10_search 106 = .ok (.iconst 1, 1) := by decide +kernel
theorem dX10_search_107 : decode cX10_search 107 = .ok (.putfield 76, 3) := by decide +kernel
theorem dX10_search_110 : decode cX10_search 110 = .ok (.iconst 1, 1) := by decide +kernel
theorem dX10_search_111 : decode cX10_search 111 = .ok (.istore 6, 2) := by decide +kernel
theorem dX10_search_113 : decode cX10_search 113 = .ok (.iconst 0, 1) := by decide +kernel
theorem dX10_search_114 : decode cX10_search 114 = .ok (.istore 7, 2) := by decide +kernel
theorem dX10_search_116 : decode cX10_search 116 = .ok (.iload 7, 2) := by decide +kernel
theorem dX10_search_118 : decode cX10_search 118 = .ok (.sipush 1000, 3) := by decide +kernel
theorem dX10_search_121 : decode cX10_search 121 = .ok (.if_icmp .ge 110, 3) := by decide +kernel
theorem dX10_search_124 : decode cX10_search 124 = .ok (.iload 6, 2) := by decide +kernel
theorem dX10_search_126 : decode cX10_search 126 = .ok (.ifCond .eq 105, 3) := by decide +kernel
theorem dX10_search_129 : decode cX10_search 129 = .ok (.aload_n 0, 1) := by decide +kernel
theorem dX10_search_130 : decode cX10_search 130 = .ok (.aload 4, 2) := by decide +kernel
theorem dX10_search_132 : decode cX10_search 132 = .ok (.iload_n 2, 1) := by decide +kernel
theorem dX10_search_133 : decode cX10_search 133 = .ok (.invokevirtual 80, 3) := by decide +kernel
theorem dX10_search_136 : decode cX10_search 136 = .ok (.aload_n 0, 1) := by decide +kernel
theorem dX10_search_137 : decode cX10_search 137 = .ok (.getfield 9, 3) := by decide +kernel
theorem dX10_search_140 : decode cX10_search 140 = .ok (.invokevirtual 84, 3) := by decide +kernel
theorem dX10_search_143 : decode cX10_search 143 = .ok (.aload_n 0, 1) := by decide +kernel
theorem dX10_search_144 : decode cX10_search 144 = .ok (.getfield 15, 3) := by decide +kernel
theorem dX10_search_147 : decode cX10_search 147 = .ok (.iload_n 3, 1) := by decide +kernel
theorem dX10_search_148 : decode cX10_search 148 = .ok (.invokevirtual 87, 3) := by decide +kernel
theorem dX10_search_151 : decode cX10_search 151 = .ok (.iload 7, 2) := by decide +kernel
theorem dX10_search_153 : decode cX10_search 153 = .ok (.ifCond .eq 33, 3) := by decide +kernel
theorem dX10_search_156 : decode cX10_search 156 = .ok (.aload_n 0, 1) := by decide +kernel
theorem dX10_search_157 : decode cX10_search 157 = .ok (.getfield 15, 3) := by decide +kernel
theorem dX10_search_160 : decode cX10_search 160 = .ok (.iload_n 1, 1) := by decide +kernel
theorem dX10_search_161 : decode cX10_search 161 = .ok (.invokevirtual 93, 3) := by decide +kernel
theorem dX10_search_164 : decode cX10_search 164 = .ok (.aload_n 0, 1) := by decide +kernel
theorem dX10_search_165 : decode cX10_search 165 = .ok (.getfield 15, 3) := by decide +kernel
theorem dX10_search_168 : decode cX10_search 168 = .ok (.iload_n 1, 1) := by decide +kernel
theorem dX10_search_169 : decode cX10_search 169 = .ok (.invokevirtual 97, 3) := by decide +kernel
theorem dX10_search_172 : decode cX10_search 172 = .ok (.aload_n 0, 1) := by decide +kernel
theorem dX10_search_173 : decode cX10_search 173 = .ok (.getfield 100, 3) := by decide +kernel
theorem dX10_search_176 : decode cX10_search 176 = .ok (.aload_n 0, 1) := by decide +kernel
theorem dX10_search_177 : decode cX10_search 177 = .ok (.getfield 103, 3) := by decide +kernel
theorem dX10_search_180 : decode cX10_search 180 = .ok (.invokestatic 106, 3) := by decide +kernel
theorem dX10_search_183 : decode cX10_search 183 = .ok (.ifCond .eq 9, 3) := by decide +kernel
theorem dX10_search_186 : decode cX10_search 186 = .ok (.aload_n 0, 1) := by decide +kernel
theorem dX10_search_187 : decode cX10_search 187 = .ok (.iload_n 1, 1) := by decide +kernel
theorem dX10_search_188 : decode cX10_search 188 = .ok (.iload_n 2, 1) := by decide +kernel
theorem dX10_search_189 : decode cX10_search 189 = .ok (.invokevirtual 110, 3) := by decide +kernel
theorem dX10_search_192 : decode cX10_search 192 = .ok (.aload_n 0, 1) := by decide +kernel
theorem dX10_search_193 : decode cX10_search 193 = .ok (.iload_n 2, 1) := by decide +kernel
theorem dX10_search_194 : decode cX10_search 194 = .ok (.aload 4, 2) := by decide +kernel
theorem dX10_search_196 : decode cX10_search 196 = .ok (.getfield 65, 3) := by decide +kernel
theorem dX10_search_199 : decode cX10_search 199 = .ok (.getfield 71, 3) := by decide +kernel
theorem dX10_search_202 : decode cX10_search 202 = .ok (.invokevirtual 114, 3) := by decide +kernel
theorem dX10_search_205 : decode cX10_search 205 = .ok (.ifCond .ne 13, 3) := by decide +kernel
theorem dX10_search_208 : decode cX10_search 208 = .ok (.aload_n 0, 1) := by decide +kernel
theorem dX10_search_209 : decode cX10_search 209 = .ok (.iload_n 2, 1) := by decide +kernel
theorem dX10_search_210 : decode cX10_search 210 = .ok (.iload 5, 2) := by decide +kernel
theorem dX10_search_212 : decode cX10_search 212 = .ok (.invokevirtual 118, 3) := by decide +kernel
theorem dX10_search_215 : decode cX10_search 215 = .ok (.ifCond .eq 7, 3) := by decide +kernel
theorem dX10_search_218 : decode cX10_search 218 = .ok (.iconst 1, 1) := by decide +kernel
theorem dX10_search_219 : decode cX10_search 219 = .ok (.goto 4, 3) := by decide +kernel
theorem dX10_search_222 : decode cX10_search 222 = .ok (.iconst 0, 1) := by decide +kernel
theorem dX10_search_223 : decode cX10_search 223 = .ok (.istore 6, 2) := by decide +kernel
theorem dX10_search_225 : decode cX10_search 225 = .ok (.iinc 7 1, 3) := by decide +kernel
theorem dX10_search_228 : decode cX10_search 228 = .ok (.goto (-112), 3) := by decide +kernel
theorem dX10_search_231 : decode cX10_search 231 = .ok (.aload 4, 2) := by decide +kernel
theorem dX10_search_233 : decode cX10_search 233 = .ok (.iconst 0, 1) := by decide +kernel
theorem dX10_search_234 : decode cX10_search 234 = .ok (.putfield 76, 3) := by decide +kernel
theorem dX10_search_237 : decode cX10_search 237 = .ok (.iconst 1, 1) := by decide +kernel
theorem dX10_search_238 : decode cX10_search 238 = .ok (.ireturn, 1) := by decide +kernel
theorem dX10_takeWay_0 : decode cX10_takeWay 0 = .ok (.aload_n 1, 1) := by decide +kernel
theorem dX10_takeWay_1 : decode cX10_takeWay 1 = .ok (.getfield 121, 3) := by decide +kernel
theorem dX10_takeWay_4 : decode cX10_takeWay 4 = .ok (.iconst 0, 1) := by decide +kernel
theorem dX10_takeWay_5 : decode cX10_takeWay 5 = .ok (.putfield 71, 3) := by decide +kernel
theorem dX10_takeWay_8 : decode cX10_takeWay 8 = .ok (.iconst 0, 1) := by decide +kernel
theorem dX10_takeWay_9 : decode cX10_takeWay 9 = .ok (.istore_n 3, 1) := by decide +kernel
theorem dX10_takeWay_10 : decode cX10_takeWay 10 = .ok (.iload_n 3, 1) := by decide +kernel
theorem dX10_takeWay_11 : decode cX10_takeWay 11 = .ok (.iload_n 2, 1) := by decide +kernel
theorem dX10_takeWay_12 : decode cX10_takeWay 12 = .ok (.if_icmp .ge 38, 3) := by decide +kernel
theorem dX10_takeWay_15 : decode cX10_takeWay 15 = .ok (.iload_n 3, 1) := by decide +kernel
theorem dX10_takeWay_16 : decode cX10_takeWay 16 = .ok (.iconst 2, 1) := by decide +kernel
theorem dX10_takeWay_17 : decode cX10_takeWay 17 = .ok (.if_icmp .ge 33, 3) := by decide +kernel
theorem dX10_takeWay_20 : decode cX10_takeWay 20 = .ok (.aload_n 1, 1) := by decide +kernel
theorem dX10_takeWay_21 : decode cX10_takeWay 21 = .ok (.getfield 121, 3) := by decide +kernel
theorem dX10_takeWay_24 : decode cX10_takeWay 24 = .ok (.aload_n 0, 1) := by decide +kernel
theorem dX10_takeWay_25 : decode cX10_takeWay 25 = .ok (.getfield 19, 3) := by decide +kernel
theorem dX10_takeWay_28 : decode cX10_takeWay 28 = .ok (.iload_n 3, 1) := by decide +kernel
theorem dX10_takeWay_29 : decode cX10_takeWay 29 = .ok (.iaload, 1) := by decide +kernel
theorem dX10_takeWay_30 : decode cX10_takeWay 30 = .ok (.aload_n 0, 1) := by decide +kernel
theorem dX10_takeWay_31 : decode cX10_takeWay 31 = .ok (.getfield 23, 3) := by decide +kernel
theorem dX10_takeWay_34 : decode cX10_takeWay 34 = .ok (.iload_n 3, 1) := by decide +kernel
theorem dX10_takeWay_35 : decode cX10_takeWay 35 = .ok (.iaload, 1) := by decide +kernel
theorem dX10_takeWay_36 : decode cX10_takeWay 36 = .ok (.sipush 200, 3) := by decide +kernel
theorem dX10_takeWay_39 : decode cX10_takeWay 39 = .ok (.iconst 0, 1) := by decide +kernel
theorem dX10_takeWay_40 : decode cX10_takeWay 40 = .ok (.invokevirtual 124, 3) := by decide +kernel
theorem dX10_takeWay_43 : decode cX10_takeWay 43 = .ok (.pop, 1) := by decide +kernel
theorem dX10_takeWay_44 : decode cX10_takeWay 44 = .ok (.iinc 3 1, 3) := by decide +kernel
theorem dX10_takeWay_47 : decode cX10_takeWay 47 = .ok (.goto (-37), 3) := by decide +kernel
theorem dX10_takeWay_50 : decode cX10_takeWay 50 = .ok (.return_, 1) := by decide +kernel
theorem dX10_keepWay_0 : decode cX10_keepWay 0 = .ok (.aload_n 0, 1) := by decide +kernel
theorem dX10_keepWay_1 : decode cX10_keepWay 1 = .ok (.aload_n 0, 1) := by decide +kernel
theorem dX10_keepWay_2 : decode cX10_keepWay 2 = .ok (.getfield 15, 3) := by decide +kernel
theorem dX10_keepWay_5 : decode cX10_keepWay 5 = .ok (.iload_n 1, 1) := by decide +kernel
theorem dX10_keepWay_6 : decode cX10_keepWay 6 = .ok (.invokevirtual 93, 3) := by decide +kernel
theorem dX10_keepWay_9 : decode cX10_keepWay 9 = .ok (.putfield 100, 3) := by decide +kernel
theorem dX10_keepWay_12 : decode cX10_keepWay 12 = .ok (.aload_n 0, 1) := by decide +kernel
theorem dX10_keepWay_13 : decode cX10_keepWay 13 = .ok (.aload_n 0, 1) := by decide +kernel
theorem dX10_keepWay_14 : decode cX10_keepWay 14 = .ok (.getfield 15, 3) := by decide +kernel
theorem dX10_keepWay_17 : decode cX10_keepWay 17 = .ok (.iload_n 1, 1) := by decide +kernel
theorem dX10_keepWay_18 : decode cX10_keepWay 18 = .ok (.invokevirtual 97, 3) := by decide +kernel
theorem dX10_keepWay_21 : decode cX10_keepWay 21 = .ok (.putfield 103, 3) := by decide +kernel
theorem dX10_keepWay_24 : decode cX10_keepWay 24 = .ok (.iconst 0, 1) := by decide +kernel
theorem dX10_keepWay_25 : decode cX10_keepWay 25 = .ok (.istore_n 3, 1) := by decide +kernel
theorem dX10_keepWay_26 : decode cX10_keepWay 26 = .ok (.iload_n 3, 1) := by decide +kernel
theorem dX10_keepWay_27 : decode cX10_keepWay 27 = .ok (.iload_n 2, 1) := by decide +kernel
theorem dX10_keepWay_28 : decode cX10_keepWay 28 = .ok (.if_icmp .ge 44, 3) := by decide +kernel
theorem dX10_keepWay_31 : decode cX10_keepWay 31 = .ok (.iload_n 3, 1) := by decide +kernel
theorem dX10_keepWay_32 : decode cX10_keepWay 32 = .ok (.iconst 2, 1) := by decide +kernel
theorem dX10_keepWay_33 : decode cX10_keepWay 33 = .ok (.if_icmp .ge 39, 3) := by decide +kernel
theorem dX10_keepWay_36 : decode cX10_keepWay 36 = .ok (.aload_n 0, 1) := by decide +kernel
theorem dX10_keepWay_37 : decode cX10_keepWay 37 = .ok (.getfield 26, 3) := by decide +kernel
theorem dX10_keepWay_40 : decode cX10_keepWay 40 = .ok (.iconst 2, 1) := by decide +kernel
theorem dX10_keepWay_41 : decode cX10_keepWay 41 = .ok (.iload_n 3, 1) := by decide +kernel
theorem dX10_keepWay_42 : decode cX10_keepWay 42 = .ok (.imul, 1) := by decide +kernel
theorem dX10_keepWay_43 : decode cX10_keepWay 43 = .ok (.aload_n 0, 1) := by decide +kernel
theorem dX10_keepWay_44 : decode cX10_keepWay 44 = .ok (.getfield 19, 3) := by decide +kernel
theorem dX10_keepWay_47 : decode cX10_keepWay 47 = .ok (.iload_n 3, 1) := by decide +kernel
theorem dX10_keepWay_48 : decode cX10_keepWay 48 = .ok (.iaload, 1) := by decide +kernel
theorem dX10_keepWay_49 : decode cX10_keepWay 49 = .ok (.iastore, 1) := by decide +kernel
theorem dX10_keepWay_50 : decode cX10_keepWay 50 = .ok (.aload_n 0, 1) := by decide +kernel
theorem dX10_keepWay_51 : decode cX10_keepWay 51 = .ok (.getfield 26, 3) := by decide +kernel
theorem dX10_keepWay_54 : decode cX10_keepWay 54 = .ok (.iconst 2, 1) := by decide +kernel
theorem dX10_keepWay_55 : decode cX10_keepWay 55 = .ok (.iload_n 3, 1) := by decide +kernel
theorem dX10_keepWay_56 : decode cX10_keepWay 56 = .ok (.imul, 1) := by decide +kernel
theorem dX10_keepWay_57 : decode cX10_keepWay 57 = .ok (.iconst 1, 1) := by decide +kernel
theorem dX10_keepWay_58 : decode cX10_keepWay 58 = .ok (.iadd, 1) := by decide +kernel
theorem dX10_keepWay_59 : decode cX10_keepWay 59 = .ok (.aload_n 0, 1) := by decide +kernel
theorem dX10_keepWay_60 : decode cX10_keepWay 60 = .ok (.getfield 23, 3) := by decide +kernel
theorem dX10_keepWay_63 : decode cX10_keepWay 63 = .ok (.iload_n 3, 1) := by decide +kernel
theorem dX10_keepWay_64 : decode cX10_keepWay 64 = .ok (.iaload, 1) := by decide +kernel
theorem dX10_keepWay_65 : decode cX10_keepWay 65 = .ok (.iastore, 1) := by decide +kernel
theorem dX10_keepWay_66 : decode cX10_keepWay 66 = .ok (.iinc 3 1, 3) := by decide +kernel
theorem dX10_keepWay_69 : decode cX10_keepWay 69 = .ok (.goto (-43), 3) := by decide +kernel
theorem dX10_keepWay_72 : decode cX10_keepWay 72 = .ok (.return_, 1) := by decide +kernel
theorem dX10_nextSets_0 : decode cX10_nextSets 0 = .ok (.iload_n 1, 1) := by decide +kernel
theorem dX10_nextSets_1 : decode cX10_nextSets 1 = .ok (.iconst 1, 1) := by decide +kernel
theorem dX10_nextSets_2 : decode cX10_nextSets 2 = .ok (.isub, 1) := by decide +kernel
theorem dX10_nextSets_3 : decode cX10_nextSets 3 = .ok (.istore_n 3, 1) := by decide +kernel
theorem dX10_nextSets_4 : decode cX10_nextSets 4 = .ok (.iload_n 3, 1) := by decide +kernel
theorem dX10_nextSets_5 : decode cX10_nextSets 5 = .ok (.ifCond .lt 43, 3) := by decide +kernel
theorem dX10_nextSets_8 : decode cX10_nextSets 8 = .ok (.iload_n 3, 1) := by decide +kernel
theorem dX10_nextSets_9 : decode cX10_nextSets 9 = .ok (.iconst 2, 1) := by decide +kernel
theorem dX10_nextSets_10 : decode cX10_nextSets 10 = .ok (.if_icmp .ge 38, 3) := by decide +kernel
theorem dX10_nextSets_13 : decode cX10_nextSets 13 = .ok (.aload_n 0, 1) := by decide +kernel
theorem dX10_nextSets_14 : decode cX10_nextSets 14 = .ok (.getfield 23, 3) := by decide +kernel
theorem dX10_nextSets_17 : decode cX10_nextSets 17 = .ok (.iload_n 3, 1) := by decide +kernel
theorem dX10_nextSets_18 : decode cX10_nextSets 18 = .ok (.dup2, 1) := by decide +kernel
theorem dX10_nextSets_19 : decode cX10_nextSets 19 = .ok (.iaload, 1) := by decide +kernel
theorem dX10_nextSets_20 : decode cX10_nextSets 20 = .ok (.iconst 1, 1) := by decide +kernel
theorem dX10_nextSets_21 : decode cX10_nextSets 21 = .ok (.iadd, 1) := by decide +kernel
theorem dX10_nextSets_22 : decode cX10_nextSets 22 = .ok (.iastore, 1) := by decide +kernel
theorem dX10_nextSets_23 : decode cX10_nextSets 23 = .ok (.aload_n 0, 1) := by decide +kernel
theorem dX10_nextSets_24 : decode cX10_nextSets 24 = .ok (.getfield 23, 3) := by decide +kernel
theorem dX10_nextSets_27 : decode cX10_nextSets 27 = .ok (.iload_n 3, 1) := by decide +kernel
theorem dX10_nextSets_28 : decode cX10_nextSets 28 = .ok (.iaload, 1) := by decide +kernel
theorem dX10_nextSets_29 : decode cX10_nextSets 29 = .ok (.iload_n 2, 1) := by decide +kernel
theorem dX10_nextSets_30 : decode cX10_nextSets 30 = .ok (.if_icmp .ge 5, 3) := by decide +kernel
theorem dX10_nextSets_33 : decode cX10_nextSets 33 = .ok (.iconst 1, 1) := by decide +kernel
theorem dX10_nextSets_34 : decode cX10_nextSets 34 = .ok (.ireturn, 1) := by decide +kernel
theorem dX10_nextSets_35 : decode cX10_nextSets 35 = .ok (.aload_n 0, 1) := by decide +kernel
theorem dX10_nextSets_36 : decode cX10_nextSets 36 = .ok (.getfield 23, 3) := by decide +kernel
theorem dX10_nextSets_39 : decode cX10_nextSets 39 = .ok (.iload_n 3, 1) := by decide +kernel
theorem dX10_nextSets_40 : decode cX10_nextSets 40 = .ok (.iconst 0, 1) := by decide +kernel
theorem dX10_nextSets_41 : decode cX10_nextSets 41 = .ok (.iastore, 1) := by decide +kernel
theorem dX10_nextSets_42 : decode cX10_nextSets 42 = .ok (.iinc 3 (-1), 3) := by decide +kernel
theorem dX10_nextSets_45 : decode cX10_nextSets 45 = .ok (.goto (-41), 3) := by decide +kernel
theorem dX10_nextSets_48 : decode cX10_nextSets 48 = .ok (.iconst 0, 1) := by decide +kernel
theorem dX10_nextSets_49 : decode cX10_nextSets 49 = .ok (.ireturn, 1) := by decide +kernel
theorem dX10_nextLaps_0 : decode cX10_nextLaps 0 = .ok (.iload_n 1, 1) := by decide +kernel
theorem dX10_nextLaps_1 : decode cX10_nextLaps 1 = .ok (.iconst 1, 1) := by decide +kernel
theorem dX10_nextLaps_2 : decode cX10_nextLaps 2 = .ok (.isub, 1) := by decide +kernel
theorem dX10_nextLaps_3 : decode cX10_nextLaps 3 = .ok (.istore_n 3, 1) := by decide +kernel
theorem dX10_nextLaps_4 : decode cX10_nextLaps 4 = .ok (.iload_n 3, 1) := by decide +kernel
theorem dX10_nextLaps_5 : decode cX10_nextLaps 5 = .ok (.ifCond .lt 73, 3) := by decide +kernel
theorem dX10_nextLaps_8 : decode cX10_nextLaps 8 = .ok (.iload_n 3, 1) := by decide +kernel
theorem dX10_nextLaps_9 : decode cX10_nextLaps 9 = .ok (.iconst 2, 1) := by decide +kernel
theorem dX10_nextLaps_10 : decode cX10_nextLaps 10 = .ok (.if_icmp .ge 68, 3) := by decide +kernel
theorem dX10_nextLaps_13 : decode cX10_nextLaps 13 = .ok (.aload_n 0, 1) := by decide +kernel
theorem dX10_nextLaps_14 : decode cX10_nextLaps 14 = .ok (.getfield 19, 3) := by decide +kernel
theorem dX10_nextLaps_17 : decode cX10_nextLaps 17 = .ok (.iload_n 3, 1) := by decide +kernel
theorem dX10_nextLaps_18 : decode cX10_nextLaps 18 = .ok (.iaload, 1) := by decide +kernel
theorem dX10_nextLaps_19 : decode cX10_nextLaps 19 = .ok (.iconst 1, 1) := by decide +kernel
theorem dX10_nextLaps_20 : decode cX10_nextLaps 20 = .ok (.iadd, 1) := by decide +kernel
theorem dX10_nextLaps_21 : decode cX10_nextLaps 21 = .ok (.istore 4, 2) := by decide +kernel
theorem dX10_nextLaps_23 : decode cX10_nextLaps 23 = .ok (.iload 4, 2) := by decide +kernel
theorem dX10_nextLaps_25 : decode cX10_nextLaps 25 = .ok (.iload_n 1, 1) := by decide +kernel
theorem dX10_nextLaps_26 : decode cX10_nextLaps 26 = .ok (.iadd, 1) := by decide +kernel
theorem dX10_nextLaps_27 : decode cX10_nextLaps 27 = .ok (.iconst 1, 1) := by decide +kernel
theorem dX10_nextLaps_28 : decode cX10_nextLaps 28 = .ok (.isub, 1) := by decide +kernel
theorem dX10_nextLaps_29 : decode cX10_nextLaps 29 = .ok (.iload_n 3, 1) := by decide +kernel
theorem dX10_nextLaps_30 : decode cX10_nextLaps 30 = .ok (.isub, 1) := by decide +kernel
theorem dX10_nextLaps_31 : decode cX10_nextLaps 31 = .ok (.iload_n 2, 1) := by decide +kernel
theorem dX10_nextLaps_32 : decode cX10_nextLaps 32 = .ok (.if_icmp .gt 40, 3) := by decide +kernel
theorem dX10_nextLaps_35 : decode cX10_nextLaps 35 = .ok (.iload_n 3, 1) := by decide +kernel
theorem dX10_nextLaps_36 : decode cX10_nextLaps 36 = .ok (.istore 5, 2) := by decide +kernel
theorem dX10_nextLaps_38 : decode cX10_nextLaps 38 = .ok (.iload 5, 2) := by decide +kernel
theorem dX10_nextLaps_40 : decode cX10_nextLaps 40 = .ok (.iload_n 1, 1) := by decide +kernel
theorem dX10_nextLaps_41 : decode cX10_nextLaps 41 = .ok (.if_icmp .ge 29, 3) := by decide +kernel
theorem dX10_nextLaps_44 : decode cX10_nextLaps 44 = .ok (.iload 5, 2) := by decide +kernel
theorem dX10_nextLaps_46 : decode cX10_nextLaps 46 = .ok (.iconst 2, 1) := by decide +kernel
theorem dX10_nextLaps_47 : decode cX10_nextLaps 47 = .ok (.if_icmp .ge 23, 3) := by decide +kernel
theorem dX10_nextLaps_50 : decode cX10_nextLaps 50 = .ok (.aload_n 0, 1) := by decide +kernel
theorem dX10_nextLaps_51 : decode cX10_nextLaps 51 = .ok (.getfield 19, 3) := by decide +kernel
theorem dX10_nextLaps_54 : decode cX10_nextLaps 54 = .ok (.iload 5, 2) := by decide +kernel
theorem dX10_nextLaps_56 : decode cX10_nextLaps 56 = .ok (.iload 4, 2) := by decide +kernel
theorem dX10_nextLaps_58 : decode cX10_nextLaps 58 = .ok (.iload 5, 2) := by decide +kernel
theorem dX10_nextLaps_60 : decode cX10_nextLaps 60 = .ok (.iadd, 1) := by decide +kernel
theorem dX10_nextLaps_61 : decode cX10_nextLaps 61 = .ok (.iload_n 3, 1) := by decide +kernel
theorem dX10_nextLaps_62 : decode cX10_nextLaps 62 = .ok (.isub, 1) := by decide +kernel
theorem dX10_nextLaps_63 : decode cX10_nextLaps 63 = .ok (.iastore, 1) := by decide +kernel
theorem dX10_nextLaps_64 : decode cX10_nextLaps 64 = .ok (.iinc 5 1, 3) := by decide +kernel
theorem dX10_nextLaps_67 : decode cX10_nextLaps 67 = .ok (.goto (-29), 3) := by decide +kernel
theorem dX10_nextLaps_70 : decode cX10_nextLaps 70 = .ok (.iconst 1, 1) := by decide +kernel
theorem dX10_nextLaps_71 : decode cX10_nextLaps 71 = .ok (.ireturn, 1) := by decide +kernel
theorem dX10_nextLaps_72 : decode cX10_nextLaps 72 = .ok (.iinc 3 (-1), 3) := by decide +kernel
theorem dX10_nextLaps_75 : decode cX10_nextLaps 75 = .ok (.goto (-71), 3) := by decide +kernel
theorem dX10_nextLaps_78 : decode cX10_nextLaps 78 = .ok (.iconst 0, 1) := by decide +kernel
theorem dX10_nextLaps_79 : decode cX10_nextLaps 79 = .ok (.ireturn, 1) := by decide +kernel
theorem dX10_isBetter_0 : decode cX10_isBetter 0 = .ok (.iload_n 0, 1) := by decide +kernel
theorem dX10_isBetter_1 : decode cX10_isBetter 1 = .ok (.iload_n 2, 1) := by decide +kernel
theorem dX10_isBetter_2 : decode cX10_isBetter 2 = .ok (.if_icmp .lt 13, 3) := by decide +kernel
theorem dX10_isBetter_5 : decode cX10_isBetter 5 = .ok (.iload_n 0, 1) := by decide +kernel
theorem dX10_isBetter_6 : decode cX10_isBetter 6 = .ok (.iload_n 2, 1) := by decide +kernel
theorem dX10_isBetter_7 : decode cX10_isBetter 7 = .ok (.if_icmp .ne 12, 3) := by decide +kernel
theorem dX10_isBetter_10 : decode cX10_isBetter 10 = .ok (.iload_n 1, 1) := by decide +kernel
theorem dX10_isBetter_11 : decode cX10_isBetter 11 = .ok (.iload_n 3, 1) := by decide +kernel
theorem dX10_isBetter_12 : decode cX10_isBetter 12 = .ok (.if_icmp .ge 7, 3) := by decide +kernel
theorem dX10_isBetter_15 : decode cX10_isBetter 15 = .ok (.iconst 1, 1) := by decide +kernel
theorem dX10_isBetter_16 : decode cX10_isBetter 16 = .ok (.goto 4, 3) := by decide +kernel
theorem dX10_isBetter_19 : decode cX10_isBetter 19 = .ok (.iconst 0, 1) := by decide +kernel
theorem dX10_isBetter_20 : decode cX10_isBetter 20 = .ok (.ireturn, 1) := by decide +kernel
theorem dX10_firstSettled_0 : decode cX10_firstSettled 0 = .ok (.aload_n 0, 1) := by decide +kernel
theorem dX10_firstSettled_1 : decode cX10_firstSettled 1 = .ok (.getfield 9, 3) := by decide +kernel
theorem dX10_firstSettled_4 : decode cX10_firstSettled 4 = .ok (.iload_n 1, 1) := by decide +kernel
theorem dX10_firstSettled_5 : decode cX10_firstSettled 5 = .ok (.invokevirtual 41, 3) := by decide +kernel
theorem dX10_firstSettled_8 : decode cX10_firstSettled 8 = .ok (.ifCond .eq 14, 3) := by decide +kernel
theorem dX10_firstSettled_11 : decode cX10_firstSettled 11 = .ok (.aload_n 0, 1) := by decide +kernel
theorem dX10_firstSettled_12 : decode cX10_firstSettled 12 = .ok (.getfield 9, 3) := by decide +kernel
theorem dX10_firstSettled_15 : decode cX10_firstSettled 15 = .ok (.iload_n 2, 1) := by decide +kernel
theorem dX10_firstSettled_16 : decode cX10_firstSettled 16 = .ok (.invokevirtual 41, 3) := by decide +kernel
theorem dX10_firstSettled_19 : decode cX10_firstSettled 19 = .ok (.ifCond .ne 5, 3) := by decide +kernel
theorem dX10_firstSettled_22 : decode cX10_firstSettled 22 = .ok (.iconst (-1), 1) := by decide +kernel
theorem dX10_firstSettled_23 : decode cX10_firstSettled 23 = .ok (.ireturn, 1) := by decide +kernel
theorem dX10_firstSettled_24 : decode cX10_firstSettled 24 = .ok (.aload_n 0, 1) := by decide +kernel
theorem dX10_firstSettled_25 : decode cX10_firstSettled 25 = .ok (.getfield 9, 3) := by decide +kernel
theorem dX10_firstSettled_28 : decode cX10_firstSettled 28 = .ok (.getfield 51, 3) := by decide +kernel
theorem dX10_firstSettled_31 : decode cX10_firstSettled 31 = .ok (.iload_n 1, 1) := by decide +kernel
theorem dX10_firstSettled_32 : decode cX10_firstSettled 32 = .ok (.aaload, 1) := by decide +kernel
theorem dX10_firstSettled_33 : decode cX10_firstSettled 33 = .ok (.getfield 128, 3) := by decide +kernel
theorem dX10_firstSettled_36 : decode cX10_firstSettled 36 = .ok (.getfield 71, 3) := by decide +kernel
theorem dX10_firstSettled_39 : decode cX10_firstSettled 39 = .ok (.iconst 4, 1) := by decide +kernel
theorem dX10_firstSettled_40 : decode cX10_firstSettled 40 = .ok (.invokestatic 131, 3) := by decide +kernel
theorem dX10_firstSettled_43 : decode cX10_firstSettled 43 = .ok (.istore 4, 2) := by decide +kernel
theorem dX10_firstSettled_45 : decode cX10_firstSettled 45 = .ok (.aload_n 0, 1) := by decide +kernel
theorem dX10_firstSettled_46 : decode cX10_firstSettled 46 = .ok (.getfield 9, 3) := by decide +kernel
theorem dX10_firstSettled_49 : decode cX10_firstSettled 49 = .ok (.getfield 51, 3) := by decide +kernel
theorem dX10_firstSettled_52 : decode cX10_firstSettled 52 = .ok (.iload_n 2, 1) := by decide +kernel
theorem dX10_firstSettled_53 : decode cX10_firstSettled 53 = .ok (.aaload, 1) := by decide +kernel
theorem dX10_firstSettled_54 : decode cX10_firstSettled 54 = .ok (.getfield 128, 3) := by decide +kernel
theorem dX10_firstSettled_57 : decode cX10_firstSettled 57 = .ok (.getfield 71, 3) := by decide +kernel
theorem dX10_firstSettled_60 : decode cX10_firstSettled 60 = .ok (.iconst 4, 1) := by decide +kernel
theorem dX10_firstSettled_61 : decode cX10_firstSettled 61 = .ok (.invokestatic 131, 3) := by decide +kernel

theorem dX10_firstSettled_64 : decode cX10_firstSettled 64 = .ok (.istore 5, 2) := by decide +kernel
theorem dX10_firstSettled_66 : decode cX10_firstSettled 66 = .ok (.iconst 0, 1) := by decide +kernel
theorem dX10_firstSettled_67 : decode cX10_firstSettled 67 = .ok (.istore 6, 2) := by decide +kernel
theorem dX10_firstSettled_69 : decode cX10_firstSettled 69 = .ok (.iload 6, 2) := by decide +kernel
theorem dX10_firstSettled_71 : decode cX10_firstSettled 71 = .ok (.iload 4, 2) := by decide +kernel
theorem dX10_firstSettled_73 : decode cX10_firstSettled 73 = .ok (.if_icmp .ge 81, 3) := by decide +kernel
theorem dX10_firstSettled_76 : decode cX10_firstSettled 76 = .ok (.iconst 0, 1) := by decide +kernel
theorem dX10_firstSettled_77 : decode cX10_firstSettled 77 = .ok (.istore 7, 2) := by decide +kernel
theorem dX10_firstSettled_79 : decode cX10_firstSettled 79 = .ok (.iload 7, 2) := by decide +kernel
theorem dX10_firstSettled_81 : decode cX10_firstSettled 81 = .ok (.iload 5, 2) := by decide +kernel
theorem dX10_firstSettled_83 : decode cX10_firstSettled 83 = .ok (.if_icmp .ge 65, 3) := by decide +kernel
theorem dX10_firstSettled_86 : decode cX10_firstSettled 86 = .ok (.aload_n 0, 1) := by decide +kernel
theorem dX10_firstSettled_87 : decode cX10_firstSettled 87 = .ok (.getfield 9, 3) := by decide +kernel
theorem dX10_firstSettled_90 : decode cX10_firstSettled 90 = .ok (.getfield 51, 3) := by decide +kernel
theorem dX10_firstSettled_93 : decode cX10_firstSettled 93 = .ok (.iload_n 1, 1) := by decide +kernel
theorem dX10_firstSettled_94 : decode cX10_firstSettled 94 = .ok (.aaload, 1) := by decide +kernel
theorem dX10_firstSettled_95 : decode cX10_firstSettled 95 = .ok (.iload 6, 2) := by decide +kernel
theorem dX10_firstSettled_97 : decode cX10_firstSettled 97 = .ok (.invokevirtual 137, 3) := by decide +kernel
theorem dX10_firstSettled_100 : decode cX10_firstSettled 100 = .ok (.aload_n 0, 1) := by decide +kernel
theorem dX10_firstSettled_101 : decode cX10_firstSettled 101 = .ok (.getfield 9, 3) := by decide +kernel
theorem dX10_firstSettled_104 : decode cX10_firstSettled 104 = .ok (.getfield 51, 3) := by decide +kernel
theorem dX10_firstSettled_107 : decode cX10_firstSettled 107 = .ok (.iload_n 2, 1) := by decide +kernel
theorem dX10_firstSettled_108 : decode cX10_firstSettled 108 = .ok (.aaload, 1) := by decide +kernel
theorem dX10_firstSettled_109 : decode cX10_firstSettled 109 = .ok (.iload 7, 2) := by decide +kernel
theorem dX10_firstSettled_111 : decode cX10_firstSettled 111 = .ok (.invokevirtual 137, 3) := by decide +kernel
theorem dX10_firstSettled_114 : decode cX10_firstSettled 114 = .ok (.aload_n 0, 1) := by decide +kernel
theorem dX10_firstSettled_115 : decode cX10_firstSettled 115 = .ok (.getfield 9, 3) := by decide +kernel
theorem dX10_firstSettled_118 : decode cX10_firstSettled 118 = .ok (.invokevirtual 84, 3) := by decide +kernel
theorem dX10_firstSettled_121 : decode cX10_firstSettled 121 = .ok (.aload_n 0, 1) := by decide +kernel
theorem dX10_firstSettled_122 : decode cX10_firstSettled 122 = .ok (.getfield 15, 3) := by decide +kernel
theorem dX10_firstSettled_125 : decode cX10_firstSettled 125 = .ok (.iload_n 3, 1) := by decide +kernel
theorem dX10_firstSettled_126 : decode cX10_firstSettled 126 = .ok (.invokevirtual 87, 3) := by decide +kernel
theorem dX10_firstSettled_129 : decode cX10_firstSettled 129 = .ok (.aload_n 0, 1) := by decide +kernel
theorem dX10_firstSettled_130 : decode cX10_firstSettled 130 = .ok (.iload_n 1, 1) := by decide +kernel
theorem dX10_firstSettled_131 : decode cX10_firstSettled 131 = .ok (.iload_n 2, 1) := by decide +kernel
theorem dX10_firstSettled_132 : decode cX10_firstSettled 132 = .ok (.iload 6, 2) := by decide +kernel
theorem dX10_firstSettled_134 : decode cX10_firstSettled 134 = .ok (.iconst 4, 1) := by decide +kernel
theorem dX10_firstSettled_135 : decode cX10_firstSettled 135 = .ok (.imul, 1) := by decide +kernel
theorem dX10_firstSettled_136 : decode cX10_firstSettled 136 = .ok (.iload 7, 2) := by decide +kernel
theorem dX10_firstSettled_138 : decode cX10_firstSettled 138 = .ok (.iadd, 1) := by decide +kernel
theorem dX10_firstSettled_139 : decode cX10_firstSettled 139 = .ok (.invokevirtual 140, 3) := by decide +kernel
theorem dX10_firstSettled_142 : decode cX10_firstSettled 142 = .ok (.iinc 7 1, 3) := by decide +kernel
theorem dX10_firstSettled_145 : decode cX10_firstSettled 145 = .ok (.goto (-66), 3) := by decide +kernel
theorem dX10_firstSettled_148 : decode cX10_firstSettled 148 = .ok (.iinc 6 1, 3) := by decide +kernel
theorem dX10_firstSettled_151 : decode cX10_firstSettled 151 = .ok (.goto (-82), 3) := by decide +kernel
theorem dX10_firstSettled_154 : decode cX10_firstSettled 154 = .ok (.aload_n 0, 1) := by decide +kernel
theorem dX10_firstSettled_155 : decode cX10_firstSettled 155 = .ok (.getfield 9, 3) := by decide +kernel
theorem dX10_firstSettled_158 : decode cX10_firstSettled 158 = .ok (.getfield 51, 3) := by decide +kernel
theorem dX10_firstSettled_161 : decode cX10_firstSettled 161 = .ok (.iload_n 1, 1) := by decide +kernel
theorem dX10_firstSettled_162 : decode cX10_firstSettled 162 = .ok (.aaload, 1) := by decide +kernel
theorem dX10_firstSettled_163 : decode cX10_firstSettled 163 = .ok (.iconst 0, 1) := by decide +kernel
theorem dX10_firstSettled_164 : decode cX10_firstSettled 164 = .ok (.putfield 76, 3) := by decide +kernel
theorem dX10_firstSettled_167 : decode cX10_firstSettled 167 = .ok (.aload_n 0, 1) := by decide +kernel
theorem dX10_firstSettled_168 : decode cX10_firstSettled 168 = .ok (.getfield 9, 3) := by decide +kernel
theorem dX10_firstSettled_171 : decode cX10_firstSettled 171 = .ok (.getfield 51, 3) := by decide +kernel
theorem dX10_firstSettled_174 : decode cX10_firstSettled 174 = .ok (.iload_n 2, 1) := by decide +kernel
theorem dX10_firstSettled_175 : decode cX10_firstSettled 175 = .ok (.aaload, 1) := by decide +kernel
theorem dX10_firstSettled_176 : decode cX10_firstSettled 176 = .ok (.iconst 0, 1) := by decide +kernel
theorem dX10_firstSettled_177 : decode cX10_firstSettled 177 = .ok (.putfield 76, 3) := by decide +kernel
theorem dX10_firstSettled_180 : decode cX10_firstSettled 180 = .ok (.iconst 0, 1) := by decide +kernel
theorem dX10_firstSettled_181 : decode cX10_firstSettled 181 = .ok (.istore 6, 2) := by decide +kernel
theorem dX10_firstSettled_183 : decode cX10_firstSettled 183 = .ok (.iload 6, 2) := by decide +kernel
theorem dX10_firstSettled_185 : decode cX10_firstSettled 185 = .ok (.iload 4, 2) := by decide +kernel
theorem dX10_firstSettled_187 : decode cX10_firstSettled 187 = .ok (.if_icmp .ge 49, 3) := by decide +kernel
theorem dX10_firstSettled_190 : decode cX10_firstSettled 190 = .ok (.iconst 0, 1) := by decide +kernel
theorem dX10_firstSettled_191 : decode cX10_firstSettled 191 = .ok (.istore 7, 2) := by decide +kernel
theorem dX10_firstSettled_193 : decode cX10_firstSettled 193 = .ok (.iload 7, 2) := by decide +kernel
theorem dX10_firstSettled_195 : decode cX10_firstSettled 195 = .ok (.iload 5, 2) := by decide +kernel
theorem dX10_firstSettled_197 : decode cX10_firstSettled 197 = .ok (.if_icmp .ge 33, 3) := by decide +kernel
theorem dX10_firstSettled_200 : decode cX10_firstSettled 200 = .ok (.aload_n 0, 1) := by decide +kernel
theorem dX10_firstSettled_201 : decode cX10_firstSettled 201 = .ok (.iload 6, 2) := by decide +kernel
theorem dX10_firstSettled_203 : decode cX10_firstSettled 203 = .ok (.iload 7, 2) := by decide +kernel
theorem dX10_firstSettled_205 : decode cX10_firstSettled 205 = .ok (.iload 4, 2) := by decide +kernel
theorem dX10_firstSettled_207 : decode cX10_firstSettled 207 = .ok (.iload 5, 2) := by decide +kernel
theorem dX10_firstSettled_209 : decode cX10_firstSettled 209 = .ok (.invokevirtual 144, 3) := by decide +kernel
theorem dX10_firstSettled_212 : decode cX10_firstSettled 212 = .ok (.ifCond .eq 12, 3) := by decide +kernel
theorem dX10_firstSettled_215 : decode cX10_firstSettled 215 = .ok (.bipush 10, 2) := by decide +kernel
theorem dX10_firstSettled_217 : decode cX10_firstSettled 217 = .ok (.iload 6, 2) := by decide +kernel
theorem dX10_firstSettled_219 : decode cX10_firstSettled 219 = .ok (.imul, 1) := by decide +kernel
theorem dX10_firstSettled_220 : decode cX10_firstSettled 220 = .ok (.iload 7, 2) := by decide +kernel
theorem dX10_firstSettled_222 : decode cX10_firstSettled 222 = .ok (.iadd, 1) := by decide +kernel
theorem dX10_firstSettled_223 : decode cX10_firstSettled 223 = .ok (.ireturn, 1) := by decide +kernel
theorem dX10_firstSettled_224 : decode cX10_firstSettled 224 = .ok (.iinc 7 1, 3) := by decide +kernel
theorem dX10_firstSettled_227 : decode cX10_firstSettled 227 = .ok (.goto (-34), 3) := by decide +kernel
theorem dX10_firstSettled_230 : decode cX10_firstSettled 230 = .ok (.iinc 6 1, 3) := by decide +kernel
theorem dX10_firstSettled_233 : decode cX10_firstSettled 233 = .ok (.goto (-50), 3) := by decide +kernel
theorem dX10_firstSettled_236 : decode cX10_firstSettled 236 = .ok (.bipush (-2), 2) := by decide +kernel
theorem dX10_firstSettled_238 : decode cX10_firstSettled 238 = .ok (.ireturn, 1) := by decide +kernel
theorem dX10_keepPair_0 : decode cX10_keepPair 0 = .ok (.iload_n 3, 1) := by decide +kernel
theorem dX10_keepPair_1 : decode cX10_keepPair 1 = .ok (.bipush 16, 2) := by decide +kernel
theorem dX10_keepPair_3 : decode cX10_keepPair 3 = .ok (.invokestatic 147, 3) := by decide +kernel
theorem dX10_keepPair_6 : decode cX10_keepPair 6 = .ok (.ifCond .ne 4, 3) := by decide +kernel
theorem dX10_keepPair_9 : decode cX10_keepPair 9 = .ok (.return_, 1) := by decide +kernel
theorem dX10_keepPair_10 : decode cX10_keepPair 10 = .ok (.aload_n 0, 1) := by decide +kernel
theorem dX10_keepPair_11 : decode cX10_keepPair 11 = .ok (.getfield 29, 3) := by decide +kernel
theorem dX10_keepPair_14 : decode cX10_keepPair 14 = .ok (.iload_n 3, 1) := by decide +kernel
theorem dX10_keepPair_15 : decode cX10_keepPair 15 = .ok (.aload_n 0, 1) := by decide +kernel
theorem dX10_keepPair_16 : decode cX10_keepPair 16 = .ok (.getfield 15, 3) := by decide +kernel
theorem dX10_keepPair_19 : decode cX10_keepPair 19 = .ok (.iload_n 1, 1) := by decide +kernel
theorem dX10_keepPair_20 : decode cX10_keepPair 20 = .ok (.invokevirtual 93, 3) := by decide +kernel
theorem dX10_keepPair_23 : decode cX10_keepPair 23 = .ok (.iastore, 1) := by decide +kernel
theorem dX10_keepPair_24 : decode cX10_keepPair 24 = .ok (.aload_n 0, 1) := by decide +kernel
theorem dX10_keepPair_25 : decode cX10_keepPair 25 = .ok (.getfield 32, 3) := by decide +kernel
theorem dX10_keepPair_28 : decode cX10_keepPair 28 = .ok (.iload_n 3, 1) := by decide +kernel
theorem dX10_keepPair_29 : decode cX10_keepPair 29 = .ok (.aload_n 0, 1) := by decide +kernel
theorem dX10_keepPair_30 : decode cX10_keepPair 30 = .ok (.getfield 15, 3) := by decide +kernel
theorem dX10_keepPair_33 : decode cX10_keepPair 33 = .ok (.iload_n 1, 1) := by decide +kernel
theorem dX10_keepPair_34 : decode cX10_keepPair 34 = .ok (.invokevirtual 97, 3) := by decide +kernel
theorem dX10_keepPair_37 : decode cX10_keepPair 37 = .ok (.iastore, 1) := by decide +kernel
theorem dX10_keepPair_38 : decode cX10_keepPair 38 = .ok (.aload_n 0, 1) := by decide +kernel
theorem dX10_keepPair_39 : decode cX10_keepPair 39 = .ok (.getfield 35, 3) := by decide +kernel
theorem dX10_keepPair_42 : decode cX10_keepPair 42 = .ok (.iload_n 3, 1) := by decide +kernel
theorem dX10_keepPair_43 : decode cX10_keepPair 43 = .ok (.aload_n 0, 1) := by decide +kernel
theorem dX10_keepPair_44 : decode cX10_keepPair 44 = .ok (.getfield 15, 3) := by decide +kernel
theorem dX10_keepPair_47 : decode cX10_keepPair 47 = .ok (.iload_n 2, 1) := by decide +kernel
theorem dX10_keepPair_48 : decode cX10_keepPair 48 = .ok (.invokevirtual 93, 3) := by decide +kernel
theorem dX10_keepPair_51 : decode cX10_keepPair 51 = .ok (.iastore, 1) := by decide +kernel
theorem dX10_keepPair_52 : decode cX10_keepPair 52 = .ok (.aload_n 0, 1) := by decide +kernel
theorem dX10_keepPair_53 : decode cX10_keepPair 53 = .ok (.getfield 38, 3) := by decide +kernel
theorem dX10_keepPair_56 : decode cX10_keepPair 56 = .ok (.iload_n 3, 1) := by decide +kernel
theorem dX10_keepPair_57 : decode cX10_keepPair 57 = .ok (.aload_n 0, 1) := by decide +kernel
theorem dX10_keepPair_58 : decode cX10_keepPair 58 = .ok (.getfield 15, 3) := by decide +kernel
theorem dX10_keepPair_61 : decode cX10_keepPair 61 = .ok (.iload_n 2, 1) := by decide +kernel
theorem dX10_keepPair_62 : decode cX10_keepPair 62 = .ok (.invokevirtual 97, 3) := by decide +kernel
theorem dX10_keepPair_65 : decode cX10_keepPair 65 = .ok (.iastore, 1) := by decide +kernel
theorem dX10_keepPair_66 : decode cX10_keepPair 66 = .ok (.return_, 1) := by decide +kernel
theorem dX10_isSettled_0 : decode cX10_isSettled 0 = .ok (.iload_n 1, 1) := by decide +kernel
theorem dX10_isSettled_1 : decode cX10_isSettled 1 = .ok (.iconst 4, 1) := by decide +kernel
theorem dX10_isSettled_2 : decode cX10_isSettled 2 = .ok (.imul, 1) := by decide +kernel
theorem dX10_isSettled_3 : decode cX10_isSettled 3 = .ok (.iload_n 2, 1) := by decide +kernel
theorem dX10_isSettled_4 : decode cX10_isSettled 4 = .ok (.iadd, 1) := by decide +kernel
theorem dX10_isSettled_5 : decode cX10_isSettled 5 = .ok (.istore 5, 2) := by decide +kernel
theorem dX10_isSettled_7 : decode cX10_isSettled 7 = .ok (.iconst 0, 1) := by decide +kernel
theorem dX10_isSettled_8 : decode cX10_isSettled 8 = .ok (.istore 6, 2) := by decide +kernel
theorem dX10_isSettled_10 : decode cX10_isSettled 10 = .ok (.iload 6, 2) := by decide +kernel
theorem dX10_isSettled_12 : decode cX10_isSettled 12 = .ok (.iload_n 3, 1) := by decide +kernel
theorem dX10_isSettled_13 : decode cX10_isSettled 13 = .ok (.if_icmp .ge 53, 3) := by decide +kernel
theorem dX10_isSettled_16 : decode cX10_isSettled 16 = .ok (.iload 6, 2) := by decide +kernel
theorem dX10_isSettled_18 : decode cX10_isSettled 18 = .ok (.iconst 4, 1) := by decide +kernel
theorem dX10_isSettled_19 : decode cX10_isSettled 19 = .ok (.imul, 1) := by decide +kernel
theorem dX10_isSettled_20 : decode cX10_isSettled 20 = .ok (.iload_n 2, 1) := by decide +kernel
theorem dX10_isSettled_21 : decode cX10_isSettled 21 = .ok (.iadd, 1) := by decide +kernel
theorem dX10_isSettled_22 : decode cX10_isSettled 22 = .ok (.istore 7, 2) := by decide +kernel
theorem dX10_isSettled_24 : decode cX10_isSettled 24 = .ok (.aload_n 0, 1) := by decide +kernel
theorem dX10_isSettled_25 : decode cX10_isSettled 25 = .ok (.getfield 29, 3) := by decide +kernel
theorem dX10_isSettled_28 : decode cX10_isSettled 28 = .ok (.iload 7, 2) := by decide +kernel
theorem dX10_isSettled_30 : decode cX10_isSettled 30 = .ok (.iaload, 1) := by decide +kernel
theorem dX10_isSettled_31 : decode cX10_isSettled 31 = .ok (.aload_n 0, 1) := by decide +kernel
theorem dX10_isSettled_32 : decode cX10_isSettled 32 = .ok (.getfield 32, 3) := by decide +kernel
theorem dX10_isSettled_35 : decode cX10_isSettled 35 = .ok (.iload 7, 2) := by decide +kernel
theorem dX10_isSettled_37 : decode cX10_isSettled 37 = .ok (.iaload, 1) := by decide +kernel
theorem dX10_isSettled_38 : decode cX10_isSettled 38 = .ok (.aload_n 0, 1) := by decide +kernel
theorem dX10_isSettled_39 : decode cX10_isSettled 39 = .ok (.getfield 29, 3) := by decide +kernel
theorem dX10_isSettled_42 : decode cX10_isSettled 42 = .ok (.iload 5, 2) := by decide +kernel
theorem dX10_isSettled_44 : decode cX10_isSettled 44 = .ok (.iaload, 1) := by decide +kernel
theorem dX10_isSettled_45 : decode cX10_isSettled 45 = .ok (.aload_n 0, 1) := by decide +kernel
theorem dX10_isSettled_46 : decode cX10_isSettled 46 = .ok (.getfield 32, 3) := by decide +kernel
theorem dX10_isSettled_49 : decode cX10_isSettled 49 = .ok (.iload 5, 2) := by decide +kernel
theorem dX10_isSettled_51 : decode cX10_isSettled 51 = .ok (.iaload, 1) := by decide +kernel
theorem dX10_isSettled_52 : decode cX10_isSettled 52 = .ok (.invokestatic 106, 3) := by decide +kernel
theorem dX10_isSettled_55 : decode cX10_isSettled 55 = .ok (.ifCond .eq 5, 3) := by decide +kernel
theorem dX10_isSettled_58 : decode cX10_isSettled 58 = .ok (.iconst 0, 1) := by decide +kernel
theorem dX10_isSettled_59 : decode cX10_isSettled 59 = .ok (.ireturn, 1) := by decide +kernel
theorem dX10_isSettled_60 : decode cX10_isSettled 60 = .ok (.iinc 6 1, 3) := by decide +kernel
theorem dX10_isSettled_63 : decode cX10_isSettled 63 = .ok (.goto (-53), 3) := by decide +kernel
theorem dX10_isSettled_66 : decode cX10_isSettled 66 = .ok (.iconst 0, 1) := by decide +kernel
theorem dX10_isSettled_67 : decode cX10_isSettled 67 = .ok (.istore 6, 2) := by decide +kernel
theorem dX10_isSettled_69 : decode cX10_isSettled 69 = .ok (.iload 6, 2) := by decide +kernel
theorem dX10_isSettled_71 : decode cX10_isSettled 71 = .ok (.iload 4, 2) := by decide +kernel
theorem dX10_isSettled_73 : decode cX10_isSettled 73 = .ok (.if_icmp .ge 53, 3) := by decide +kernel
theorem dX10_isSettled_76 : decode cX10_isSettled 76 = .ok (.iload_n 1, 1) := by decide +kernel
theorem dX10_isSettled_77 : decode cX10_isSettled 77 = .ok (.iconst 4, 1) := by decide +kernel
theorem dX10_isSettled_78 : decode cX10_isSettled 78 = .ok (.imul, 1) := by decide +kernel
theorem dX10_isSettled_79 : decode cX10_isSettled 79 = .ok (.iload 6, 2) := by decide +kernel
theorem dX10_isSettled_81 : decode cX10_isSettled 81 = .ok (.iadd, 1) := by decide +kernel
theorem dX10_isSettled_82 : decode cX10_isSettled 82 = .ok (.istore 7, 2) := by decide +kernel
theorem dX10_isSettled_84 : decode cX10_isSettled 84 = .ok (.aload_n 0, 1) := by decide +kernel
theorem dX10_isSettled_85 : decode cX10_isSettled 85 = .ok (.getfield 35, 3) := by decide +kernel
theorem dX10_isSettled_88 : decode cX10_isSettled 88 = .ok (.iload 7, 2) := by decide +kernel
theorem dX10_isSettled_90 : decode cX10_isSettled 90 = .ok (.iaload, 1) := by decide +kernel
theorem dX10_isSettled_91 : decode cX10_isSettled 91 = .ok (.aload_n 0, 1) := by decide +kernel
theorem dX10_isSettled_92 : decode cX10_isSettled 92 = .ok (.getfield 38, 3) := by decide +kernel
theorem dX10_isSettled_95 : decode cX10_isSettled 95 = .ok (.iload 7, 2) := by decide +kernel
theorem dX10_isSettled_97 : decode cX10_isSettled 97 = .ok (.iaload, 1) := by decide +kernel
theorem dX10_isSettled_98 : decode cX10_isSettled 98 = .ok (.aload_n 0, 1) := by decide +kernel
theorem dX10_isSettled_99 : decode cX10_isSettled 99 = .ok (.getfield 35, 3) := by decide +kernel
theorem dX10_isSettled_102 : decode cX10_isSettled 102 = .ok (.iload 5, 2) := by decide +kernel
theorem dX10_isSettled_104 : decode cX10_isSettled 104 = .ok (.iaload, 1) := by decide +kernel
theorem dX10_isSettled_105 : decode cX10_isSettled 105 = .ok (.aload_n 0, 1) := by decide +kernel
theorem dX10_isSettled_106 : decode cX10_isSettled 106 = .ok (.getfield 38, 3) := by decide +kernel
theorem dX10_isSettled_109 : decode cX10_isSettled 109 = .ok (.iload 5, 2) := by decide +kernel
theorem dX10_isSettled_111 : decode cX10_isSettled 111 = .ok (.iaload, 1) := by decide +kernel
theorem dX10_isSettled_112 : decode cX10_isSettled 112 = .ok (.invokestatic 106, 3) := by decide +kernel
theorem dX10_isSettled_115 : decode cX10_isSettled 115 = .ok (.ifCond .eq 5, 3) := by decide +kernel
theorem dX10_isSettled_118 : decode cX10_isSettled 118 = .ok (.iconst 0, 1) := by decide +kernel
theorem dX10_isSettled_119 : decode cX10_isSettled 119 = .ok (.ireturn, 1) := by decide +kernel
theorem dX10_isSettled_120 : decode cX10_isSettled 120 = .ok (.iinc 6 1, 3) := by decide +kernel
theorem dX10_isSettled_123 : decode cX10_isSettled 123 = .ok (.goto (-54), 3) := by decide +kernel
theorem dX10_isSettled_126 : decode cX10_isSettled 126 = .ok (.iconst 1, 1) := by decide +kernel
theorem dX10_isSettled_127 : decode cX10_isSettled 127 = .ok (.ireturn, 1) := by decide +kernel
theorem dX11_track_0 : decode cX11_track 0 = .ok (.iload_n 1, 1) := by decide +kernel
theorem dX11_track_1 : decode cX11_track 1 = .ok (.iconst 2, 1) := by decide +kernel
theorem dX11_track_2 : decode cX11_track 2 = .ok (.if_icmp .lt 19, 3) := by decide +kernel
theorem dX11_track_5 : decode cX11_track 5 = .ok (.iload_n 1, 1) := by decide +kernel
theorem dX11_track_6 : decode cX11_track 6 = .ok (.iconst 5, 1) := by decide +kernel
theorem dX11_track_7 : decode cX11_track 7 = .ok (.if_icmp .gt 14, 3) := by decide +kernel
theorem dX11_track_10 : decode cX11_track 10 = .ok (.iload_n 2, 1) := by decide +kernel
theorem dX11_track_11 : decode cX11_track 11 = .ok (.iconst 1, 1) := by decide +kernel
theorem dX11_track_12 : decode cX11_track 12 = .ok (.if_icmp .lt 9, 3) := by decide +kernel
theorem dX11_track_15 : decode cX11_track 15 = .ok (.iload_n 2, 1) := by decide +kernel
theorem dX11_track_16 : decode cX11_track 16 = .ok (.bipush 12, 2) := by decide +kernel
theorem dX11_track_18 : decode cX11_track 18 = .ok (.if_icmp .le 5, 3) := by decide +kernel
theorem dX11_track_21 : decode cX11_track 21 = .ok (.iconst 0, 1) := by decide +kernel
theorem dX11_track_22 : decode cX11_track 22 = .ok (.ireturn, 1) := by decide +kernel
theorem dX11_track_23 : decode cX11_track 23 = .ok (.aload_n 0, 1) := by decide +kernel
theorem dX11_track_24 : decode cX11_track 24 = .ok (.getfield 15, 3) := by decide +kernel
theorem dX11_track_27 : decode cX11_track 27 = .ok (.iload_n 1, 1) := by decide +kernel
theorem dX11_track_28 : decode cX11_track 28 = .ok (.iload_n 2, 1) := by decide +kernel
theorem dX11_track_29 : decode cX11_track 29 = .ok (.invokevirtual 76, 3) := by decide +kernel
theorem dX11_track_32 : decode cX11_track 32 = .ok (.aload_n 0, 1) := by decide +kernel
theorem dX11_track_33 : decode cX11_track 33 = .ok (.getfield 24, 3) := by decide +kernel
theorem dX11_track_36 : decode cX11_track 36 = .ok (.iconst 0, 1) := by decide +kernel
theorem dX11_track_37 : decode cX11_track 37 = .ok (.putfield 80, 3) := by decide +kernel
theorem dX11_track_40 : decode cX11_track 40 = .ok (.aload_n 0, 1) := by decide +kernel
theorem dX11_track_41 : decode cX11_track 41 = .ok (.getfield 24, 3) := by decide +kernel
theorem dX11_track_44 : decode cX11_track 44 = .ok (.iconst 0, 1) := by decide +kernel
theorem dX11_track_45 : decode cX11_track 45 = .ok (.putfield 84, 3) := by decide +kernel
theorem dX11_track_48 : decode cX11_track 48 = .ok (.aload_n 0, 1) := by decide +kernel
theorem dX11_track_49 : decode cX11_track 49 = .ok (.getfield 33, 3) := by decide +kernel
theorem dX11_track_52 : decode cX11_track 52 = .ok (.iconst 0, 1) := by decide +kernel
theorem dX11_track_53 : decode cX11_track 53 = .ok (.putfield 88, 3) := by decide +kernel
theorem dX11_track_56 : decode cX11_track 56 = .ok (.aload_n 0, 1) := by decide +kernel
theorem dX11_track_57 : decode cX11_track 57 = .ok (.getfield 33, 3) := by decide +kernel
theorem dX11_track_60 : decode cX11_track 60 = .ok (.getfield 91, 3) := by decide +kernel
theorem dX11_track_63 : decode cX11_track 63 = .ok (.iconst 0, 1) := by decide +kernel
theorem dX11_track_64 : decode cX11_track 64 = .ok (.putfield 95, 3) := by decide +kernel
theorem dX11_track_67 : decode cX11_track 67 = .ok (.iconst 1, 1) := by decide +kernel
theorem dX11_track_68 : decode cX11_track 68 = .ok (.ireturn, 1) := by decide +kernel
theorem dX11_sector_0 : decode cX11_sector 0 = .ok (.aload_n 0, 1) := by decide +kernel
theorem dX11_sector_1 : decode cX11_sector 1 = .ok (.getfield 15, 3) := by decide +kernel
theorem dX11_sector_4 : decode cX11_sector 4 = .ok (.iload_n 1, 1) := by decide +kernel
theorem dX11_sector_5 : decode cX11_sector 5 = .ok (.invokevirtual 100, 3) := by decide +kernel
theorem dX11_sector_8 : decode cX11_sector 8 = .ok (.ifCond .eq 26, 3) := by decide +kernel
theorem dX11_sector_11 : decode cX11_sector 11 = .ok (.iload_n 2, 1) := by decide +kernel
theorem dX11_sector_12 : decode cX11_sector 12 = .ok (.sipush 5000, 3) := by decide +kernel
theorem dX11_sector_15 : decode cX11_sector 15 = .ok (.ldc 104, 2) := by decide +kernel
theorem dX11_sector_17 : decode cX11_sector 17 = .ok (.invokestatic 105, 3) := by decide +kernel
theorem dX11_sector_20 : decode cX11_sector 20 = .ok (.ifCond .eq 14, 3) := by decide +kernel
theorem dX11_sector_23 : decode cX11_sector 23 = .ok (.iload_n 3, 1) := by decide +kernel
theorem dX11_sector_24 : decode cX11_sector 24 = .ok (.iconst (-1), 1) := by decide +kernel
theorem dX11_sector_25 : decode cX11_sector 25 = .ok (.sipush 5000, 3) := by decide +kernel
theorem dX11_sector_28 : decode cX11_sector 28 = .ok (.invokestatic 105, 3) := by decide +kernel
theorem dX11_sector_31 : decode cX11_sector 31 = .ok (.ifCond .ne 5, 3) := by decide +kernel
theorem dX11_sector_34 : decode cX11_sector 34 = .ok (.iconst 0, 1) := by decide +kernel
theorem dX11_sector_35 : decode cX11_sector 35 = .ok (.ireturn, 1) := by decide +kernel
theorem dX11_sector_36 : decode cX11_sector 36 = .ok (.aload_n 0, 1) := by decide +kernel
theorem dX11_sector_37 : decode cX11_sector 37 = .ok (.getfield 15, 3) := by decide +kernel
theorem dX11_sector_40 : decode cX11_sector 40 = .ok (.getfield 109, 3) := by decide +kernel
theorem dX11_sector_43 : decode cX11_sector 43 = .ok (.iload_n 1, 1) := by decide +kernel
theorem dX11_sector_44 : decode cX11_sector 44 = .ok (.iload_n 2, 1) := by decide +kernel
theorem dX11_sector_45 : decode cX11_sector 45 = .ok (.iastore, 1) := by decide +kernel
theorem dX11_sector_46 : decode cX11_sector 46 = .ok (.aload_n 0, 1) := by decide +kernel
theorem dX11_sector_47 : decode cX11_sector 47 = .ok (.getfield 15, 3) := by decide +kernel
theorem dX11_sector_50 : decode cX11_sector 50 = .ok (.getfield 112, 3) := by decide +kernel
theorem dX11_sector_53 : decode cX11_sector 53 = .ok (.iload_n 1, 1) := by decide +kernel
theorem dX11_sector_54 : decode cX11_sector 54 = .ok (.iload_n 3, 1) := by decide +kernel
theorem dX11_sector_55 : decode cX11_sector 55 = .ok (.iastore, 1) := by decide +kernel
theorem dX11_sector_56 : decode cX11_sector 56 = .ok (.aload_n 0, 1) := by decide +kernel
theorem dX11_sector_57 : decode cX11_sector 57 = .ok (.getfield 24, 3) := by decide +kernel
theorem dX11_sector_60 : decode cX11_sector 60 = .ok (.iconst 0, 1) := by decide +kernel
theorem dX11_sector_61 : decode cX11_sector 61 = .ok (.putfield 84, 3) := by decide +kernel
theorem dX11_sector_64 : decode cX11_sector 64 = .ok (.iconst 1, 1) := by decide +kernel
theorem dX11_sector_65 : decode cX11_sector 65 = .ok (.ireturn, 1) := by decide +kernel
theorem dX11_tyres_0 : decode cX11_tyres 0 = .ok (.iload_n 1, 1) := by decide +kernel
theorem dX11_tyres_1 : decode cX11_tyres 1 = .ok (.iconst 4, 1) := by decide +kernel
theorem dX11_tyres_2 : decode cX11_tyres 2 = .ok (.invokestatic 115, 3) := by decide +kernel
theorem dX11_tyres_5 : decode cX11_tyres 5 = .ok (.ifCond .eq 25, 3) := by decide +kernel
theorem dX11_tyres_8 : decode cX11_tyres 8 = .ok (.iload_n 2, 1) := by decide +kernel
theorem dX11_tyres_9 : decode cX11_tyres 9 = .ok (.bipush 6, 2) := by decide +kernel
theorem dX11_tyres_11 : decode cX11_tyres 11 = .ok (.invokestatic 115, 3) := by decide +kernel
theorem dX11_tyres_14 : decode cX11_tyres 14 = .ok (.ifCond .eq 16, 3) := by decide +kernel
theorem dX11_tyres_17 : decode cX11_tyres 17 = .ok (.iload_n 3, 1) := by decide +kernel
theorem dX11_tyres_18 : decode cX11_tyres 18 = .ok (.iconst 0, 1) := by decide +kernel
theorem dX11_tyres_19 : decode cX11_tyres 19 = .ok (.getstatic 119, 3) := by decide +kernel
theorem dX11_tyres_22 : decode cX11_tyres 22 = .ok (.iload_n 2, 1) := by decide +kernel
theorem dX11_tyres_23 : decode cX11_tyres 23 = .ok (.iaload, 1) := by decide +kernel
theorem dX11_tyres_24 : decode cX11_tyres 24 = .ok (.invokestatic 105, 3) := by decide +kernel
theorem dX11_tyres_27 : decode cX11_tyres 27 = .ok (.ifCond .ne 5, 3) := by decide +kernel
theorem dX11_tyres_30 : decode cX11_tyres 30 = .ok (.iconst (-1), 1) := by decide +kernel
theorem dX11_tyres_31 : decode cX11_tyres 31 = .ok (.ireturn, 1) := by decide +kernel
theorem dX11_tyres_32 : decode cX11_tyres 32 = .ok (.aload_n 0, 1) := by decide +kernel
theorem dX11_tyres_33 : decode cX11_tyres 33 = .ok (.getfield 15, 3) := by decide +kernel
theorem dX11_tyres_36 : decode cX11_tyres 36 = .ok (.iload_n 1, 1) := by decide +kernel
theorem dX11_tyres_37 : decode cX11_tyres 37 = .ok (.iload_n 2, 1) := by decide +kernel
theorem dX11_tyres_38 : decode cX11_tyres 38 = .ok (.invokevirtual 122, 3) := by decide +kernel
theorem dX11_tyres_41 : decode cX11_tyres 41 = .ok (.istore 4, 2) := by decide +kernel
theorem dX11_tyres_43 : decode cX11_tyres 43 = .ok (.aload_n 0, 1) := by decide +kernel
theorem dX11_tyres_44 : decode cX11_tyres 44 = .ok (.getfield 15, 3) := by decide +kernel
theorem dX11_tyres_47 : decode cX11_tyres 47 = .ok (.getfield 126, 3) := by decide +kernel
theorem dX11_tyres_50 : decode cX11_tyres 50 = .ok (.iload_n 1, 1) := by decide +kernel
theorem dX11_tyres_51 : decode cX11_tyres 51 = .ok (.bipush 6, 2) := by decide +kernel
theorem dX11_tyres_53 : decode cX11_tyres 53 = .ok (.imul, 1) := by decide +kernel
theorem dX11_tyres_54 : decode cX11_tyres 54 = .ok (.iload_n 2, 1) := by decide +kernel
theorem dX11_tyres_55 : decode cX11_tyres 55 = .ok (.iadd, 1) := by decide +kernel
theorem dX11_tyres_56 : decode cX11_tyres 56 = .ok (.iload_n 3, 1) := by decide +kernel
theorem dX11_tyres_57 : decode cX11_tyres 57 = .ok (.iastore, 1) := by decide +kernel
theorem dX11_tyres_58 : decode cX11_tyres 58 = .ok (.aload_n 0, 1) := by decide +kernel
theorem dX11_tyres_59 : decode cX11_tyres 59 = .ok (.getfield 24, 3) := by decide +kernel
theorem dX11_tyres_62 : decode cX11_tyres 62 = .ok (.iconst 0, 1) := by decide +kernel
theorem dX11_tyres_63 : decode cX11_tyres 63 = .ok (.putfield 84, 3) := by decide +kernel
theorem dX11_tyres_66 : decode cX11_tyres 66 = .ok (.iload 4, 2) := by decide +kernel
theorem dX11_tyres_68 : decode cX11_tyres 68 = .ok (.ireturn, 1) := by decide +kernel
theorem dX11_set_0 : decode cX11_set 0 = .ok (.iload_n 1, 1) := by decide +kernel
theorem dX11_set_1 : decode cX11_set 1 = .ok (.bipush 8, 2) := by decide +kernel
theorem dX11_set_3 : decode cX11_set 3 = .ok (.invokestatic 115, 3) := by decide +kernel
theorem dX11_set_6 : decode cX11_set 6 = .ok (.ifCond .eq 20, 3) := by decide +kernel
theorem dX11_set_9 : decode cX11_set 9 = .ok (.iload_n 2, 1) := by decide +kernel
theorem dX11_set_10 : decode cX11_set 10 = .ok (.getstatic 129, 3) := by decide +kernel
theorem dX11_set_13 : decode cX11_set 13 = .ok (.iload_n 1, 1) := by decide +kernel
theorem dX11_set_14 : decode cX11_set 14 = .ok (.iaload, 1) := by decide +kernel
theorem dX11_set_15 : decode cX11_set 15 = .ok (.getstatic 132, 3) := by decide +kernel
theorem dX11_set_18 : decode cX11_set 18 = .ok (.iload_n 1, 1) := by decide +kernel
theorem dX11_set_19 : decode cX11_set 19 = .ok (.iaload, 1) := by decide +kernel
theorem dX11_set_20 : decode cX11_set 20 = .ok (.invokestatic 105, 3) := by decide +kernel
theorem dX11_set_23 : decode cX11_set 23 = .ok (.ifCond .ne 5, 3) := by decide +kernel
theorem dX11_set_26 : decode cX11_set 26 = .ok (.iconst (-1), 1) := by decide +kernel
theorem dX11_set_27 : decode cX11_set 27 = .ok (.ireturn, 1) := by decide +kernel
theorem dX11_set_28 : decode cX11_set 28 = .ok (.aload_n 0, 1) := by decide +kernel
theorem dX11_set_29 : decode cX11_set 29 = .ok (.getfield 15, 3) := by decide +kernel
theorem dX11_set_32 : decode cX11_set 32 = .ok (.getfield 135, 3) := by decide +kernel
theorem dX11_set_35 : decode cX11_set 35 = .ok (.iload_n 1, 1) := by decide +kernel
theorem dX11_set_36 : decode cX11_set 36 = .ok (.iaload, 1) := by decide +kernel
theorem dX11_set_37 : decode cX11_set 37 = .ok (.istore_n 3, 1) := by decide +kernel
theorem dX11_set_38 : decode cX11_set 38 = .ok (.aload_n 0, 1) := by decide +kernel
theorem dX11_set_39 : decode cX11_set 39 = .ok (.getfield 15, 3) := by decide +kernel
theorem dX11_set_42 : decode cX11_set 42 = .ok (.getfield 135, 3) := by decide +kernel
theorem dX11_set_45 : decode cX11_set 45 = .ok (.iload_n 1, 1) := by decide +kernel
theorem dX11_set_46 : decode cX11_set 46 = .ok (.iload_n 2, 1) := by decide +kernel
theorem dX11_set_47 : decode cX11_set 47 = .ok (.iastore, 1) := by decide +kernel
theorem dX11_set_48 : decode cX11_set 48 = .ok (.aload_n 0, 1) := by decide +kernel
theorem dX11_set_49 : decode cX11_set 49 = .ok (.getfield 24, 3) := by decide +kernel
theorem dX11_set_52 : decode cX11_set 52 = .ok (.iconst 0, 1) := by decide +kernel
theorem dX11_set_53 : decode cX11_set 53 = .ok (.putfield 84, 3) := by decide +kernel
theorem dX11_set_56 : decode cX11_set 56 = .ok (.iload_n 3, 1) := by decide +kernel
theorem dX11_set_57 : decode cX11_set 57 = .ok (.ireturn, 1) := by decide +kernel
theorem dX11_rain_0 : decode cX11_rain 0 = .ok (.aload_n 0, 1) := by decide +kernel
theorem dX11_rain_1 : decode cX11_rain 1 = .ok (.getfield 15, 3) := by decide +kernel
theorem dX11_rain_4 : decode cX11_rain 4 = .ok (.iload_n 1, 1) := by decide +kernel
theorem dX11_rain_5 : decode cX11_rain 5 = .ok (.invokevirtual 100, 3) := by decide +kernel
theorem dX11_rain_8 : decode cX11_rain 8 = .ok (.ifCond .eq 17, 3) := by decide +kernel
theorem dX11_rain_11 : decode cX11_rain 11 = .ok (.iload_n 2, 1) := by decide +kernel
theorem dX11_rain_12 : decode cX11_rain 12 = .ok (.ifCond .lt 13, 3) := by decide +kernel
theorem dX11_rain_15 : decode cX11_rain 15 = .ok (.iload_n 3, 1) := by decide +kernel
theorem dX11_rain_16 : decode cX11_rain 16 = .ok (.iconst 0, 1) := by decide +kernel
theorem dX11_rain_17 : decode cX11_rain 17 = .ok (.bipush 100, 2) := by decide +kernel
theorem dX11_rain_19 : decode cX11_rain 19 = .ok (.invokestatic 105, 3) := by decide +kernel
theorem dX11_rain_22 : decode cX11_rain 22 = .ok (.ifCond .ne 5, 3) := by decide +kernel
theorem dX11_rain_25 : decode cX11_rain 25 = .ok (.iconst (-1), 1) := by decide +kernel
theorem dX11_rain_26 : decode cX11_rain 26 = .ok (.ireturn, 1) := by decide +kernel
theorem dX11_rain_27 : decode cX11_rain 27 = .ok (.aload_n 0, 1) := by decide +kernel
theorem dX11_rain_28 : decode cX11_rain 28 = .ok (.getfield 24, 3) := by decide +kernel
theorem dX11_rain_31 : decode cX11_rain 31 = .ok (.iconst 0, 1) := by decide +kernel
theorem dX11_rain_32 : decode cX11_rain 32 = .ok (.putfield 84, 3) := by decide +kernel
theorem dX11_rain_35 : decode cX11_rain 35 = .ok (.aload_n 0, 1) := by decide +kernel
theorem dX11_rain_36 : decode cX11_rain 36 = .ok (.getfield 15, 3) := by decide +kernel
theorem dX11_rain_39 : decode cX11_rain 39 = .ok (.getfield 138, 3) := by decide +kernel
theorem dX11_rain_42 : decode cX11_rain 42 = .ok (.iload_n 1, 1) := by decide +kernel
theorem dX11_rain_43 : decode cX11_rain 43 = .ok (.iload_n 2, 1) := by decide +kernel
theorem dX11_rain_44 : decode cX11_rain 44 = .ok (.iload_n 3, 1) := by decide +kernel
theorem dX11_rain_45 : decode cX11_rain 45 = .ok (.iconst 0, 1) := by decide +kernel
theorem dX11_rain_46 : decode cX11_rain 46 = .ok (.invokevirtual 141, 3) := by decide +kernel
theorem dX11_rain_49 : decode cX11_rain 49 = .ok (.ireturn, 1) := by decide +kernel
theorem dX11_flag_0 : decode cX11_flag 0 = .ok (.iload_n 1, 1) := by decide +kernel
theorem dX11_flag_1 : decode cX11_flag 1 = .ok (.iconst (-1), 1) := by decide +kernel
theorem dX11_flag_2 : decode cX11_flag 2 = .ok (.if_icmp .eq 16, 3) := by decide +kernel
theorem dX11_flag_5 : decode cX11_flag 5 = .ok (.aload_n 0, 1) := by decide +kernel
theorem dX11_flag_6 : decode cX11_flag 6 = .ok (.getfield 15, 3) := by decide +kernel
theorem dX11_flag_9 : decode cX11_flag 9 = .ok (.iload_n 1, 1) := by decide +kernel
theorem dX11_flag_10 : decode cX11_flag 10 = .ok (.invokevirtual 100, 3) := by decide +kernel
theorem dX11_flag_13 : decode cX11_flag 13 = .ok (.ifCond .ne 5, 3) := by decide +kernel
theorem dX11_flag_16 : decode cX11_flag 16 = .ok (.iconst (-1), 1) := by decide +kernel
theorem dX11_flag_17 : decode cX11_flag 17 = .ok (.ireturn, 1) := by decide +kernel
theorem dX11_flag_18 : decode cX11_flag 18 = .ok (.iload_n 2, 1) := by decide +kernel
theorem dX11_flag_19 : decode cX11_flag 19 = .ok (.ifCond .lt 18, 3) := by decide +kernel
theorem dX11_flag_22 : decode cX11_flag 22 = .ok (.iload_n 3, 1) := by decide +kernel
theorem dX11_flag_23 : decode cX11_flag 23 = .ok (.iload_n 2, 1) := by decide +kernel
theorem dX11_flag_24 : decode cX11_flag 24 = .ok (.if_icmp .lt 13, 3) := by decide +kernel
theorem dX11_flag_27 : decode cX11_flag 27 = .ok (.iload 4, 2) := by decide +kernel
theorem dX11_flag_29 : decode cX11_flag 29 = .ok (.iconst 0, 1) := by decide +kernel
theorem dX11_flag_30 : decode cX11_flag 30 = .ok (.iconst 1, 1) := by decide +kernel
theorem dX11_flag_31 : decode cX11_flag 31 = .ok (.invokestatic 105, 3) := by decide +kernel
theorem dX11_flag_34 : decode cX11_flag 34 = .ok (.ifCond .ne 5, 3) := by decide +kernel
theorem dX11_flag_37 : decode cX11_flag 37 = .ok (.iconst (-1), 1) := by decide +kernel
theorem dX11_flag_38 : decode cX11_flag 38 = .ok (.ireturn, 1) := by decide +kernel
theorem dX11_flag_39 : decode cX11_flag 39 = .ok (.aload_n 0, 1) := by decide +kernel
theorem dX11_flag_40 : decode cX11_flag 40 = .ok (.getfield 24, 3) := by decide +kernel
theorem dX11_flag_43 : decode cX11_flag 43 = .ok (.iconst 0, 1) := by decide +kernel
theorem dX11_flag_44 : decode cX11_flag 44 = .ok (.putfield 84, 3) := by decide +kernel
theorem dX11_flag_47 : decode cX11_flag 47 = .ok (.aload_n 0, 1) := by decide +kernel
theorem dX11_flag_48 : decode cX11_flag 48 = .ok (.getfield 15, 3) := by decide +kernel
theorem dX11_flag_51 : decode cX11_flag 51 = .ok (.getfield 145, 3) := by decide +kernel
theorem dX11_flag_54 : decode cX11_flag 54 = .ok (.iload_n 1, 1) := by decide +kernel
theorem dX11_flag_55 : decode cX11_flag 55 = .ok (.iload_n 2, 1) := by decide +kernel
theorem dX11_flag_56 : decode cX11_flag 56 = .ok (.iload_n 3, 1) := by decide +kernel
theorem dX11_flag_57 : decode cX11_flag 57 = .ok (.iload 4, 2) := by decide +kernel
theorem dX11_flag_59 : decode cX11_flag 59 = .ok (.invokevirtual 141, 3) := by decide +kernel
theorem dX11_flag_62 : decode cX11_flag 62 = .ok (.ireturn, 1) := by decide +kernel
theorem dX11_car_0 : decode cX11_car 0 = .ok (.iload_n 1, 1) := by decide +kernel
theorem dX11_car_1 : decode cX11_car 1 = .ok (.sipush (-2000), 3) := by decide +kernel
theorem dX11_car_4 : decode cX11_car 4 = .ok (.sipush 2000, 3) := by decide +kernel
theorem dX11_car_7 : decode cX11_car 7 = .ok (.invokestatic 105, 3) := by decide +kernel
theorem dX11_car_10 : decode cX11_car 10 = .ok (.ifCond .eq 24, 3) := by decide +kernel
theorem dX11_car_13 : decode cX11_car 13 = .ok (.iload_n 2, 1) := by decide +kernel
theorem dX11_car_14 : decode cX11_car 14 = .ok (.iconst 1, 1) := by decide +kernel
theorem dX11_car_15 : decode cX11_car 15 = .ok (.sipush 200, 3) := by decide +kernel
theorem dX11_car_18 : decode cX11_car 18 = .ok (.invokestatic 105, 3) := by decide +kernel
theorem dX11_car_21 : decode cX11_car 21 = .ok (.ifCond .eq 13, 3) := by decide +kernel
theorem dX11_car_24 : decode cX11_car 24 = .ok (.iload_n 3, 1) := by decide +kernel
theorem dX11_car_25 : decode cX11_car 25 = .ok (.iconst 1, 1) := by decide +kernel
theorem dX11_car_26 : decode cX11_car 26 = .ok (.bipush 9, 2) := by decide +kernel
theorem dX11_car_28 : decode cX11_car 28 = .ok (.invokestatic 105, 3) := by decide +kernel
theorem dX11_car_31 : decode cX11_car 31 = .ok (.ifCond .ne 5, 3) := by decide +kernel
theorem dX11_car_34 : decode cX11_car 34 = .ok (.iconst (-1), 1) := by decide +kernel
theorem dX11_car_35 : decode cX11_car 35 = .ok (.ireturn, 1) := by decide +kernel
theorem dX11_car_36 : decode cX11_car 36 = .ok (.iload 4, 2) := by decide +kernel
theorem dX11_car_38 : decode cX11_car 38 = .ok (.iconst 4, 1) := by decide +kernel
theorem dX11_car_39 : decode cX11_car 39 = .ok (.invokestatic 115, 3) := by decide +kernel
theorem dX11_car_42 : decode cX11_car 42 = .ok (.ifCond .eq 22, 3) := by decide +kernel
theorem dX11_car_45 : decode cX11_car 45 = .ok (.iload 5, 2) := by decide +kernel
theorem dX11_car_47 : decode cX11_car 47 = .ok (.iconst 2, 1) := by decide +kernel
theorem dX11_car_48 : decode cX11_car 48 = .ok (.invokestatic 115, 3) := by decide +kernel
theorem dX11_car_51 : decode cX11_car 51 = .ok (.ifCond .eq 13, 3) := by decide +kernel
theorem dX11_car_54 : decode cX11_car 54 = .ok (.iload 6, 2) := by decide +kernel
theorem dX11_car_56 : decode cX11_car 56 = .ok (.iconst 0, 1) := by decide +kernel
theorem dX11_car_57 : decode cX11_car 57 = .ok (.iload_n 2, 1) := by decide +kernel
theorem dX11_car_58 : decode cX11_car 58 = .ok (.invokestatic 105, 3) := by decide +kernel
theorem dX11_car_61 : decode cX11_car 61 = .ok (.ifCond .ne 5, 3) := by decide +kernel
theorem dX11_car_64 : decode cX11_car 64 = .ok (.iconst (-1), 1) := by decide +kernel
theorem dX11_car_65 : decode cX11_car 65 = .ok (.ireturn, 1) := by decide +kernel
theorem dX11_car_66 : decode cX11_car 66 = .ok (.aload_n 0, 1) := by decide +kernel
theorem dX11_car_67 : decode cX11_car 67 = .ok (.getfield 24, 3) := by decide +kernel
theorem dX11_car_70 : decode cX11_car 70 = .ok (.getfield 80, 3) := by decide +kernel
theorem dX11_car_73 : decode cX11_car 73 = .ok (.bipush 6, 2) := by decide +kernel
theorem dX11_car_75 : decode cX11_car 75 = .ok (.invokestatic 115, 3) := by decide +kernel
theorem dX11_car_78 : decode cX11_car 78 = .ok (.ifCond .ne 5, 3) := by decide +kernel
theorem dX11_car_81 : decode cX11_car 81 = .ok (.iconst (-1), 1) := by decide +kernel
theorem dX11_car_82 : decode cX11_car 82 = .ok (.ireturn, 1) := by decide +kernel
theorem dX11_car_83 : decode cX11_car 83 = .ok (.aload_n 0, 1) := by decide +kernel
theorem dX11_car_84 : decode cX11_car 84 = .ok (.getfield 24, 3) := by decide +kernel
theorem dX11_car_87 : decode cX11_car 87 = .ok (.getfield 148, 3) := by decide +kernel
theorem dX11_car_90 : decode cX11_car 90 = .ok (.aload_n 0, 1) := by decide +kernel
theorem dX11_car_91 : decode cX11_car 91 = .ok (.getfield 24, 3) := by decide +kernel
theorem dX11_car_94 : decode cX11_car 94 = .ok (.getfield 80, 3) := by decide +kernel
theorem dX11_car_97 : decode cX11_car 97 = .ok (.aaload, 1) := by decide +kernel
theorem dX11_car_98 : decode cX11_car 98 = .ok (.astore 7, 2) := by decide +kernel
theorem dX11_car_100 : decode cX11_car 100 = .ok (.aload 7, 2) := by decide +kernel
theorem dX11_car_102 : decode cX11_car 102 = .ok (.invokevirtual 152, 3) := by decide +kernel
theorem dX11_car_105 : decode cX11_car 105 = .ok (.aload 7, 2) := by decide +kernel
theorem dX11_car_107 : decode cX11_car 107 = .ok (.iload_n 1, 1) := by decide +kernel
theorem dX11_car_108 : decode cX11_car 108 = .ok (.putfield 157, 3) := by decide +kernel
theorem dX11_car_111 : decode cX11_car 111 = .ok (.aload 7, 2) := by decide +kernel
theorem dX11_car_113 : decode cX11_car 113 = .ok (.iload_n 2, 1) := by decide +kernel
theorem dX11_car_114 : decode cX11_car 114 = .ok (.putfield 160, 3) := by decide +kernel
theorem dX11_car_117 : decode cX11_car 117 = .ok (.aload 7, 2) := by decide +kernel
theorem dX11_car_119 : decode cX11_car 119 = .ok (.iload_n 3, 1) := by decide +kernel
theorem dX11_car_120 : decode cX11_car 120 = .ok (.putfield 163, 3) := by decide +kernel
theorem dX11_car_123 : decode cX11_car 123 = .ok (.aload 7, 2) := by decide +kernel
theorem dX11_car_125 : decode cX11_car 125 = .ok (.iload 4, 2) := by decide +kernel
theorem dX11_car_127 : decode cX11_car 127 = .ok (.putfield 166, 3) := by decide +kernel
theorem dX11_car_130 : decode cX11_car 130 = .ok (.aload 7, 2) := by decide +kernel
theorem dX11_car_132 : decode cX11_car 132 = .ok (.iload 5, 2) := by decide +kernel
theorem dX11_car_134 : decode cX11_car 134 = .ok (.putfield 169, 3) := by decide +kernel
theorem dX11_car_137 : decode cX11_car 137 = .ok (.aload 7, 2) := by decide +kernel
theorem dX11_car_139 : decode cX11_car 139 = .ok (.iload 6, 2) := by decide +kernel
theorem dX11_car_141 : decode cX11_car 141 = .ok (.putfield 172, 3) := by decide +kernel
theorem dX11_car_144 : decode cX11_car 144 = .ok (.aload_n 0, 1) := by decide +kernel
theorem dX11_car_145 : decode cX11_car 145 = .ok (.getfield 24, 3) := by decide +kernel
theorem dX11_car_148 : decode cX11_car 148 = .ok (.dup, 1) := by decide +kernel
theorem dX11_car_149 : decode cX11_car 149 = .ok (.getfield 80, 3) := by decide +kernel
theorem dX11_car_152 : decode cX11_car 152 = .ok (.iconst 1, 1) := by decide +kernel
theorem dX11_car_153 : decode cX11_car 153 = .ok (.iadd, 1) := by decide +kernel
theorem dX11_car_154 : decode cX11_car 154 = .ok (.putfield 80, 3) := by decide +kernel
theorem dX11_car_157 : decode cX11_car 157 = .ok (.aload_n 0, 1) := by decide +kernel
theorem dX11_car_158 : decode cX11_car 158 = .ok (.getfield 24, 3) := by decide +kernel
theorem dX11_car_161 : decode cX11_car 161 = .ok (.iconst 0, 1) := by decide +kernel
theorem dX11_car_162 : decode cX11_car 162 = .ok (.putfield 84, 3) := by decide +kernel
theorem dX11_car_165 : decode cX11_car 165 = .ok (.aload_n 0, 1) := by decide +kernel
theorem dX11_car_166 : decode cX11_car 166 = .ok (.getfield 24, 3) := by decide +kernel
theorem dX11_car_169 : decode cX11_car 169 = .ok (.getfield 80, 3) := by decide +kernel
theorem dX11_car_172 : decode cX11_car 172 = .ok (.iconst 1, 1) := by decide +kernel
theorem dX11_car_173 : decode cX11_car 173 = .ok (.isub, 1) := by decide +kernel
theorem dX11_car_174 : decode cX11_car 174 = .ok (.ireturn, 1) := by decide +kernel
theorem dX11_tyre_0 : decode cX11_tyre 0 = .ok (.aload_n 0, 1) := by decide +kernel
theorem dX11_tyre_1 : decode cX11_tyre 1 = .ok (.getfield 24, 3) := by decide +kernel
theorem dX11_tyre_4 : decode cX11_tyre 4 = .ok (.iload_n 1, 1) := by decide +kernel
theorem dX11_tyre_5 : decode cX11_tyre 5 = .ok (.invokevirtual 175, 3) := by decide +kernel
theorem dX11_tyre_8 : decode cX11_tyre 8 = .ok (.ifCond .eq 21, 3) := by decide +kernel
theorem dX11_tyre_11 : decode cX11_tyre 11 = .ok (.iload_n 2, 1) := by decide +kernel
theorem dX11_tyre_12 : decode cX11_tyre 12 = .ok (.iconst 4, 1) := by decide +kernel
theorem dX11_tyre_13 : decode cX11_tyre 13 = .ok (.invokestatic 115, 3) := by decide +kernel
theorem dX11_tyre_16 : decode cX11_tyre 16 = .ok (.ifCond .eq 13, 3) := by decide +kernel
theorem dX11_tyre_19 : decode cX11_tyre 19 = .ok (.iload_n 3, 1) := by decide +kernel
theorem dX11_tyre_20 : decode cX11_tyre 20 = .ok (.iconst 0, 1) := by decide +kernel
theorem dX11_tyre_21 : decode cX11_tyre 21 = .ok (.bipush 100, 2) := by decide +kernel
theorem dX11_tyre_23 : decode cX11_tyre 23 = .ok (.invokestatic 105, 3) := by decide +kernel
theorem dX11_tyre_26 : decode cX11_tyre 26 = .ok (.ifCond .ne 5, 3) := by decide +kernel
theorem dX11_tyre_29 : decode cX11_tyre 29 = .ok (.iconst (-1), 1) := by decide +kernel
theorem dX11_tyre_30 : decode cX11_tyre 30 = .ok (.ireturn, 1) := by decide +kernel
theorem dX11_tyre_31 : decode cX11_tyre 31 = .ok (.aload_n 0, 1) := by decide +kernel
theorem dX11_tyre_32 : decode cX11_tyre 32 = .ok (.getfield 24, 3) := by decide +kernel
theorem dX11_tyre_35 : decode cX11_tyre 35 = .ok (.getfield 148, 3) := by decide +kernel
theorem dX11_tyre_38 : decode cX11_tyre 38 = .ok (.iload_n 1, 1) := by decide +kernel
theorem dX11_tyre_39 : decode cX11_tyre 39 = .ok (.aaload, 1) := by decide +kernel
theorem dX11_tyre_40 : decode cX11_tyre 40 = .ok (.getfield 178, 3) := by decide +kernel
theorem dX11_tyre_43 : decode cX11_tyre 43 = .ok (.astore 4, 2) := by decide +kernel
theorem dX11_tyre_45 : decode cX11_tyre 45 = .ok (.aload 4, 2) := by decide +kernel
theorem dX11_tyre_47 : decode cX11_tyre 47 = .ok (.invokevirtual 181, 3) := by decide +kernel
theorem dX11_tyre_50 : decode cX11_tyre 50 = .ok (.ifCond .eq 5, 3) := by decide +kernel
theorem dX11_tyre_53 : decode cX11_tyre 53 = .ok (.iconst (-1), 1) := by decide +kernel
theorem dX11_tyre_54 : decode cX11_tyre 54 = .ok (.ireturn, 1) := by decide +kernel
theorem dX11_tyre_55 : decode cX11_tyre 55 = .ok (.aload_n 0, 1) := by decide +kernel
theorem dX11_tyre_56 : decode cX11_tyre 56 = .ok (.getfield 24, 3) := by decide +kernel
theorem dX11_tyre_59 : decode cX11_tyre 59 = .ok (.iconst 0, 1) := by decide +kernel
theorem dX11_tyre_60 : decode cX11_tyre 60 = .ok (.putfield 84, 3) := by decide +kernel
theorem dX11_tyre_63 : decode cX11_tyre 63 = .ok (.aload 4, 2) := by decide +kernel
theorem dX11_tyre_65 : decode cX11_tyre 65 = .ok (.iload_n 2, 1) := by decide +kernel
theorem dX11_tyre_66 : decode cX11_tyre 66 = .ok (.iload_n 3, 1) := by decide +kernel
theorem dX11_tyre_67 : decode cX11_tyre 67 = .ok (.iconst 0, 1) := by decide +kernel
theorem dX11_tyre_68 : decode cX11_tyre 68 = .ok (.iconst 0, 1) := by decide +kernel
theorem dX11_tyre_69 : decode cX11_tyre 69 = .ok (.invokevirtual 141, 3) := by decide +kernel
theorem dX11_tyre_72 : decode cX11_tyre 72 = .ok (.iconst 1, 1) := by decide +kernel
theorem dX11_tyre_73 : decode cX11_tyre 73 = .ok (.isub, 1) := by decide +kernel
theorem dX11_tyre_74 : decode cX11_tyre 74 = .ok (.ireturn, 1) := by decide +kernel
theorem dX11_order_0 : decode cX11_order 0 = .ok (.aload_n 0, 1) := by decide +kernel
theorem dX11_order_1 : decode cX11_order 1 = .ok (.getfield 24, 3) := by decide +kernel
theorem dX11_order_4 : decode cX11_order 4 = .ok (.iload_n 1, 1) := by decide +kernel
theorem dX11_order_5 : decode cX11_order 5 = .ok (.invokevirtual 175, 3) := by decide +kernel
theorem dX11_order_8 : decode cX11_order 8 = .ok (.ifCond .eq 26, 3) := by decide +kernel
theorem dX11_order_11 : decode cX11_order 11 = .ok (.iload_n 2, 1) := by decide +kernel
theorem dX11_order_12 : decode cX11_order 12 = .ok (.aload_n 0, 1) := by decide +kernel
theorem dX11_order_13 : decode cX11_order 13 = .ok (.getfield 15, 3) := by decide +kernel
theorem dX11_order_16 : decode cX11_order 16 = .ok (.getfield 185, 3) := by decide +kernel
theorem dX11_order_19 : decode cX11_order 19 = .ok (.invokestatic 115, 3) := by decide +kernel
theorem dX11_order_22 : decode cX11_order 22 = .ok (.ifCond .eq 12, 3) := by decide +kernel
theorem dX11_order_25 : decode cX11_order 25 = .ok (.iload_n 3, 1) := by decide +kernel
theorem dX11_order_26 : decode cX11_order 26 = .ok (.iconst 0, 1) := by decide +kernel
theorem dX11_order_27 : decode cX11_order 27 = .ok (.iconst 1, 1) := by decide +kernel
theorem dX11_order_28 : decode cX11_order 28 = .ok (.invokestatic 105, 3) := by decide +kernel
theorem dX11_order_31 : decode cX11_order 31 = .ok (.ifCond .ne 5, 3) := by decide +kernel
theorem dX11_order_34 : decode cX11_order 34 = .ok (.iconst (-1), 1) := by decide +kernel
theorem dX11_order_35 : decode cX11_order 35 = .ok (.ireturn, 1) := by decide +kernel
theorem dX11_order_36 : decode cX11_order 36 = .ok (.iload 4, 2) := by decide +kernel
theorem dX11_order_38 : decode cX11_order 38 = .ok (.iload_n 3, 1) := by decide +kernel
theorem dX11_order_39 : decode cX11_order 39 = .ok (.ifCond .ne 7, 3) := by decide +kernel
theorem dX11_order_42 : decode cX11_order 42 = .ok (.iconst (-1), 1) := by decide +kernel
theorem dX11_order_43 : decode cX11_order 43 = .ok (.goto 4, 3) := by decide +kernel
theorem dX11_order_46 : decode cX11_order 46 = .ok (.iconst 0, 1) := by decide +kernel
theorem dX11_order_47 : decode cX11_order 47 = .ok (.iconst 1, 1) := by decide +kernel
theorem dX11_order_48 : decode cX11_order 48 = .ok (.invokestatic 105, 3) := by decide +kernel
theorem dX11_order_51 : decode cX11_order 51 = .ok (.ifCond .ne 5, 3) := by decide +kernel
theorem dX11_order_54 : decode cX11_order 54 = .ok (.iconst (-1), 1) := by decide +kernel
theorem dX11_order_55 : decode cX11_order 55 = .ok (.ireturn, 1) := by decide +kernel
theorem dX11_order_56 : decode cX11_order 56 = .ok (.aload_n 0, 1) := by decide +kernel
theorem dX11_order_57 : decode cX11_order 57 = .ok (.getfield 24, 3) := by decide +kernel
theorem dX11_order_60 : decode cX11_order 60 = .ok (.iconst 0, 1) := by decide +kernel
theorem dX11_order_61 : decode cX11_order 61 = .ok (.putfield 84, 3) := by decide +kernel
theorem dX11_order_64 : decode cX11_order 64 = .ok (.aload_n 0, 1) := by decide +kernel
theorem dX11_order_65 : decode cX11_order 65 = .ok (.getfield 24, 3) := by decide +kernel
theorem dX11_order_68 : decode cX11_order 68 = .ok (.getfield 148, 3) := by decide +kernel
theorem dX11_order_71 : decode cX11_order 71 = .ok (.iload_n 1, 1) := by decide +kernel
theorem dX11_order_72 : decode cX11_order 72 = .ok (.aaload, 1) := by decide +kernel
theorem dX11_order_73 : decode cX11_order 73 = .ok (.getfield 188, 3) := by decide +kernel
theorem dX11_order_76 : decode cX11_order 76 = .ok (.iload_n 2, 1) := by decide +kernel
theorem dX11_order_77 : decode cX11_order 77 = .ok (.iload_n 3, 1) := by decide +kernel
theorem dX11_order_78 : decode cX11_order 78 = .ok (.iload 4, 2) := by decide +kernel
theorem dX11_order_80 : decode cX11_order 80 = .ok (.iconst 0, 1) := by decide +kernel
theorem dX11_order_81 : decode cX11_order 81 = .ok (.invokevirtual 141, 3) := by decide +kernel
theorem dX11_order_84 : decode cX11_order 84 = .ok (.ireturn, 1) := by decide +kernel
theorem dX11_stop_0 : decode cX11_stop 0 = .ok (.aload_n 0, 1) := by decide +kernel
theorem dX11_stop_1 : decode cX11_stop 1 = .ok (.getfield 24, 3) := by decide +kernel
theorem dX11_stop_4 : decode cX11_stop 4 = .ok (.iload_n 1, 1) := by decide +kernel
theorem dX11_stop_5 : decode cX11_stop 5 = .ok (.invokevirtual 175, 3) := by decide +kernel
theorem dX11_stop_8 : decode cX11_stop 8 = .ok (.ifCond .eq 20, 3) := by decide +kernel
theorem dX11_stop_11 : decode cX11_stop 11 = .ok (.iload_n 2, 1) := by decide +kernel
theorem dX11_stop_12 : decode cX11_stop 12 = .ok (.iconst 0, 1) := by decide +kernel
theorem dX11_stop_13 : decode cX11_stop 13 = .ok (.aload_n 0, 1) := by decide +kernel
theorem dX11_stop_14 : decode cX11_stop 14 = .ok (.getfield 15, 3) := by decide +kernel
theorem dX11_stop_17 : decode cX11_stop 17 = .ok (.getfield 185, 3) := by decide +kernel
theorem dX11_stop_20 : decode cX11_stop 20 = .ok (.iconst 2, 1) := by decide +kernel
theorem dX11_stop_21 : decode cX11_stop 21 = .ok (.isub, 1) := by decide +kernel
theorem dX11_stop_22 : decode cX11_stop 22 = .ok (.invokestatic 105, 3) := by decide +kernel
theorem dX11_stop_25 : decode cX11_stop 25 = .ok (.ifCond .ne 5, 3) := by decide +kernel
theorem dX11_stop_28 : decode cX11_stop 28 = .ok (.iconst (-1), 1) := by decide +kernel
theorem dX11_stop_29 : decode cX11_stop 29 = .ok (.ireturn, 1) := by decide +kernel
theorem dX11_stop_30 : decode cX11_stop 30 = .ok (.iload_n 3, 1) := by decide +kernel
theorem dX11_stop_31 : decode cX11_stop 31 = .ok (.iconst (-1), 1) := by decide +kernel
theorem dX11_stop_32 : decode cX11_stop 32 = .ok (.iconst 3, 1) := by decide +kernel
theorem dX11_stop_33 : decode cX11_stop 33 = .ok (.invokestatic 105, 3) := by decide +kernel
theorem dX11_stop_36 : decode cX11_stop 36 = .ok (.ifCond .eq 15, 3) := by decide +kernel
theorem dX11_stop_39 : decode cX11_stop 39 = .ok (.iload 4, 2) := by decide +kernel
theorem dX11_stop_41 : decode cX11_stop 41 = .ok (.iconst 0, 1) := by decide +kernel
theorem dX11_stop_42 : decode cX11_stop 42 = .ok (.sipush 200, 3) := by decide +kernel
theorem dX11_stop_45 : decode cX11_stop 45 = .ok (.invokestatic 105, 3) := by decide +kernel
theorem dX11_stop_48 : decode cX11_stop 48 = .ok (.ifCond .ne 5, 3) := by decide +kernel
theorem dX11_stop_51 : decode cX11_stop 51 = .ok (.iconst (-1), 1) := by decide +kernel
theorem dX11_stop_52 : decode cX11_stop 52 = .ok (.ireturn, 1) := by decide +kernel
theorem dX11_stop_53 : decode cX11_stop 53 = .ok (.aload_n 0, 1) := by decide +kernel
theorem dX11_stop_54 : decode cX11_stop 54 = .ok (.getfield 24, 3) := by decide +kernel
theorem dX11_stop_57 : decode cX11_stop 57 = .ok (.iconst 0, 1) := by decide +kernel
theorem dX11_stop_58 : decode cX11_stop 58 = .ok (.putfield 84, 3) := by decide +kernel
theorem dX11_stop_61 : decode cX11_stop 61 = .ok (.aload_n 0, 1) := by decide +kernel
theorem dX11_stop_62 : decode cX11_stop 62 = .ok (.getfield 24, 3) := by decide +kernel
theorem dX11_stop_65 : decode cX11_stop 65 = .ok (.getfield 148, 3) := by decide +kernel
theorem dX11_stop_68 : decode cX11_stop 68 = .ok (.iload_n 1, 1) := by decide +kernel
theorem dX11_stop_69 : decode cX11_stop 69 = .ok (.aaload, 1) := by decide +kernel
theorem dX11_stop_70 : decode cX11_stop 70 = .ok (.getfield 191, 3) := by decide +kernel
theorem dX11_stop_73 : decode cX11_stop 73 = .ok (.iload_n 2, 1) := by decide +kernel
theorem dX11_stop_74 : decode cX11_stop 74 = .ok (.iload_n 3, 1) := by decide +kernel
theorem dX11_stop_75 : decode cX11_stop 75 = .ok (.iload 4, 2) := by decide +kernel
theorem dX11_stop_77 : decode cX11_stop 77 = .ok (.iconst 0, 1) := by decide +kernel
theorem dX11_stop_78 : decode cX11_stop 78 = .ok (.invokevirtual 141, 3) := by decide +kernel
theorem dX11_stop_81 : decode cX11_stop 81 = .ok (.ireturn, 1) := by decide +kernel
theorem dX11_drop_0 : decode cX11_drop 0 = .ok (.aload_n 0, 1) := by decide +kernel
theorem dX11_drop_1 : decode cX11_drop 1 = .ok (.getfield 24, 3) := by decide +kernel
theorem dX11_drop_4 : decode cX11_drop 4 = .ok (.iload_n 1, 1) := by decide +kernel
theorem dX11_drop_5 : decode cX11_drop 5 = .ok (.invokevirtual 175, 3) := by decide +kernel
theorem dX11_drop_8 : decode cX11_drop 8 = .ok (.ifCond .eq 25, 3) := by decide +kernel
theorem dX11_drop_11 : decode cX11_drop 11 = .ok (.iload_n 2, 1) := by decide +kernel
theorem dX11_drop_12 : decode cX11_drop 12 = .ok (.aload_n 0, 1) := by decide +kernel
theorem dX11_drop_13 : decode cX11_drop 13 = .ok (.getfield 24, 3) := by decide +kernel
theorem dX11_drop_16 : decode cX11_drop 16 = .ok (.getfield 148, 3) := by decide +kernel
theorem dX11_drop_19 : decode cX11_drop 19 = .ok (.iload_n 1, 1) := by decide +kernel
theorem dX11_drop_20 : decode cX11_drop 20 = .ok (.aaload, 1) := by decide +kernel
theorem dX11_drop_21 : decode cX11_drop 21 = .ok (.getfield 191, 3) := by decide +kernel
theorem dX11_drop_24 : decode cX11_drop 24 = .ok (.getfield 95, 3) := by decide +kernel
theorem dX11_drop_27 : decode cX11_drop 27 = .ok (.invokestatic 115, 3) := by decide +kernel
theorem dX11_drop_30 : decode cX11_drop 30 = .ok (.ifCond .ne 5, 3) := by decide +kernel
theorem dX11_drop_33 : decode cX11_drop 33 = .ok (.iconst (-1), 1) := by decide +kernel
theorem dX11_drop_34 : decode cX11_drop 34 = .ok (.ireturn, 1) := by decide +kernel
theorem dX11_drop_35 : decode cX11_drop 35 = .ok (.aload_n 0, 1) := by decide +kernel
theorem dX11_drop_36 : decode cX11_drop 36 = .ok (.getfield 24, 3) := by decide +kernel
theorem dX11_drop_39 : decode cX11_drop 39 = .ok (.iconst 0, 1) := by decide +kernel
theorem dX11_drop_40 : decode cX11_drop 40 = .ok (.putfield 84, 3) := by decide +kernel
theorem dX11_drop_43 : decode cX11_drop 43 = .ok (.aload_n 0, 1) := by decide +kernel
theorem dX11_drop_44 : decode cX11_drop 44 = .ok (.getfield 24, 3) := by decide +kernel
theorem dX11_drop_47 : decode cX11_drop 47 = .ok (.getfield 148, 3) := by decide +kernel
theorem dX11_drop_50 : decode cX11_drop 50 = .ok (.iload_n 1, 1) := by decide +kernel
theorem dX11_drop_51 : decode cX11_drop 51 = .ok (.aaload, 1) := by decide +kernel
theorem dX11_drop_52 : decode cX11_drop 52 = .ok (.getfield 191, 3) := by decide +kernel
theorem dX11_drop_55 : decode cX11_drop 55 = .ok (.iload_n 2, 1) := by decide +kernel
theorem dX11_drop_56 : decode cX11_drop 56 = .ok (.invokevirtual 194, 3) := by decide +kernel
theorem dX11_drop_59 : decode cX11_drop 59 = .ok (.ireturn, 1) := by decide +kernel
theorem dX11_plan_0 : decode cX11_plan 0 = .ok (.aload_n 0, 1) := by decide +kernel
theorem dX11_plan_1 : decode cX11_plan 1 = .ok (.invokevirtual 198, 3) := by decide +kernel
theorem dX11_plan_4 : decode cX11_plan 4 = .ok (.istore_n 2, 1) := by decide +kernel
theorem dX11_plan_5 : decode cX11_plan 5 = .ok (.aload_n 0, 1) := by decide +kernel
theorem dX11_plan_6 : decode cX11_plan 6 = .ok (.getfield 24, 3) := by decide +kernel
theorem dX11_plan_9 : decode cX11_plan 9 = .ok (.iload_n 1, 1) := by decide +kernel
theorem dX11_plan_10 : decode cX11_plan 10 = .ok (.invokevirtual 175, 3) := by decide +kernel
theorem dX11_plan_13 : decode cX11_plan 13 = .ok (.ifCond .ne 6, 3) := by decide +kernel
theorem dX11_plan_16 : decode cX11_plan 16 = .ok (.bipush (-100), 2) := by decide +kernel
theorem dX11_plan_18 : decode cX11_plan 18 = .ok (.ireturn, 1) := by decide +kernel
theorem dX11_plan_19 : decode cX11_plan 19 = .ok (.aload_n 0, 1) := by decide +kernel
theorem dX11_plan_20 : decode cX11_plan 20 = .ok (.getfield 58, 3) := by decide +kernel
theorem dX11_plan_23 : decode cX11_plan 23 = .ok (.aload_n 0, 1) := by decide +kernel
theorem dX11_plan_24 : decode cX11_plan 24 = .ok (.getfield 62, 3) := by decide +kernel
theorem dX11_plan_27 : decode cX11_plan 27 = .ok (.iload_n 2, 1) := by decide +kernel
theorem dX11_plan_28 : decode cX11_plan 28 = .ok (.aload_n 0, 1) := by decide +kernel
theorem dX11_plan_29 : decode cX11_plan 29 = .ok (.getfield 72, 3) := by decide +kernel
theorem dX11_plan_32 : decode cX11_plan 32 = .ok (.iconst 1, 1) := by decide +kernel
theorem dX11_plan_33 : decode cX11_plan 33 = .ok (.invokevirtual 202, 3) := by decide +kernel
theorem dX11_plan_36 : decode cX11_plan 36 = .ok (.istore_n 3, 1) := by decide +kernel
theorem dX11_plan_37 : decode cX11_plan 37 = .ok (.iload_n 3, 1) := by decide +kernel
theorem dX11_plan_38 : decode cX11_plan 38 = .ok (.iconst (-1), 1) := by decide +kernel
theorem dX11_plan_39 : decode cX11_plan 39 = .ok (.if_icmp .eq 7, 3) := by decide +kernel
theorem dX11_plan_42 : decode cX11_plan 42 = .ok (.iconst (-1), 1) := by decide +kernel
theorem dX11_plan_43 : decode cX11_plan 43 = .ok (.iload_n 3, 1) := by decide +kernel
theorem dX11_plan_44 : decode cX11_plan 44 = .ok (.isub, 1) := by decide +kernel
theorem dX11_plan_45 : decode cX11_plan 45 = .ok (.ireturn, 1) := by decide +kernel
theorem dX11_plan_46 : decode cX11_plan 46 = .ok (.aload_n 0, 1) := by decide +kernel
theorem dX11_plan_47 : decode cX11_plan 47 = .ok (.getfield 24, 3) := by decide +kernel
theorem dX11_plan_50 : decode cX11_plan 50 = .ok (.getfield 148, 3) := by decide +kernel
theorem dX11_plan_53 : decode cX11_plan 53 = .ok (.iload_n 1, 1) := by decide +kernel
theorem dX11_plan_54 : decode cX11_plan 54 = .ok (.aaload, 1) := by decide +kernel
theorem dX11_plan_55 : decode cX11_plan 55 = .ok (.getfield 206, 3) := by decide +kernel
theorem dX11_plan_58 : decode cX11_plan 58 = .ok (.astore 4, 2) := by decide +kernel
theorem dX11_plan_60 : decode cX11_plan 60 = .ok (.aload_n 0, 1) := by decide +kernel
theorem dX11_plan_61 : decode cX11_plan 61 = .ok (.getfield 24, 3) := by decide +kernel
theorem dX11_plan_64 : decode cX11_plan 64 = .ok (.getfield 148, 3) := by decide +kernel
theorem dX11_plan_67 : decode cX11_plan 67 = .ok (.iload_n 1, 1) := by decide +kernel
theorem dX11_plan_68 : decode cX11_plan 68 = .ok (.aaload, 1) := by decide +kernel
theorem dX11_plan_69 : decode cX11_plan 69 = .ok (.aload_n 0, 1) := by decide +kernel
theorem dX11_plan_70 : decode cX11_plan 70 = .ok (.getfield 72, 3) := by decide +kernel
theorem dX11_plan_73 : decode cX11_plan 73 = .ok (.putfield 206, 3) := by decide +kernel
theorem dX11_plan_76 : decode cX11_plan 76 = .ok (.aload_n 0, 1) := by decide +kernel
theorem dX11_plan_77 : decode cX11_plan 77 = .ok (.getfield 24, 3) := by decide +kernel
theorem dX11_plan_80 : decode cX11_plan 80 = .ok (.getfield 148, 3) := by decide +kernel
theorem dX11_plan_83 : decode cX11_plan 83 = .ok (.iload_n 1, 1) := by decide +kernel
theorem dX11_plan_84 : decode cX11_plan 84 = .ok (.aaload, 1) := by decide +kernel
theorem dX11_plan_85 : decode cX11_plan 85 = .ok (.iconst 1, 1) := by decide +kernel
theorem dX11_plan_86 : decode cX11_plan 86 = .ok (.putfield 209, 3) := by decide +kernel
theorem dX11_plan_89 : decode cX11_plan 89 = .ok (.aload_n 0, 1) := by decide +kernel
theorem dX11_plan_90 : decode cX11_plan 90 = .ok (.aload 4, 2) := by decide +kernel
theorem dX11_plan_92 : decode cX11_plan 92 = .ok (.putfield 72, 3) := by decide +kernel
theorem dX11_plan_95 : decode cX11_plan 95 = .ok (.aload_n 0, 1) := by decide +kernel
theorem dX11_plan_96 : decode cX11_plan 96 = .ok (.getfield 24, 3) := by decide +kernel
theorem dX11_plan_99 : decode cX11_plan 99 = .ok (.iconst 0, 1) := by decide +kernel
theorem dX11_plan_100 : decode cX11_plan 100 = .ok (.putfield 84, 3) := by decide +kernel
theorem dX11_plan_103 : decode cX11_plan 103 = .ok (.iconst 1, 1) := by decide +kernel
theorem dX11_plan_104 : decode cX11_plan 104 = .ok (.ireturn, 1) := by decide +kernel
theorem dX11_unplan_0 : decode cX11_unplan 0 = .ok (.aload_n 0, 1) := by decide +kernel
theorem dX11_unplan_1 : decode cX11_unplan 1 = .ok (.getfield 24, 3) := by decide +kernel
theorem dX11_unplan_4 : decode cX11_unplan 4 = .ok (.iload_n 1, 1) := by decide +kernel
theorem dX11_unplan_5 : decode cX11_unplan 5 = .ok (.invokevirtual 175, 3) := by decide +kernel
theorem dX11_unplan_8 : decode cX11_unplan 8 = .ok (.ifCond .eq 18, 3) := by decide +kernel
theorem dX11_unplan_11 : decode cX11_unplan 11 = .ok (.aload_n 0, 1) := by decide +kernel
theorem dX11_unplan_12 : decode cX11_unplan 12 = .ok (.getfield 24, 3) := by decide +kernel
theorem dX11_unplan_15 : decode cX11_unplan 15 = .ok (.getfield 148, 3) := by decide +kernel
theorem dX11_unplan_18 : decode cX11_unplan 18 = .ok (.iload_n 1, 1) := by decide +kernel
theorem dX11_unplan_19 : decode cX11_unplan 19 = .ok (.aaload, 1) := by decide +kernel
theorem dX11_unplan_20 : decode cX11_unplan 20 = .ok (.getfield 209, 3) := by decide +kernel
theorem dX11_unplan_23 : decode cX11_unplan 23 = .ok (.ifCond .ne 5, 3) := by decide +kernel
theorem dX11_unplan_26 : decode cX11_unplan 26 = .ok (.iconst 0, 1) := by decide +kernel
theorem dX11_unplan_27 : decode cX11_unplan 27 = .ok (.ireturn, 1) := by decide +kernel
theorem dX11_unplan_28 : decode cX11_unplan 28 = .ok (.aload_n 0, 1) := by decide +kernel
theorem dX11_unplan_29 : decode cX11_unplan 29 = .ok (.getfield 24, 3) := by decide +kernel
theorem dX11_unplan_32 : decode cX11_unplan 32 = .ok (.getfield 148, 3) := by decide +kernel
theorem dX11_unplan_35 : decode cX11_unplan 35 = .ok (.iload_n 1, 1) := by decide +kernel
theorem dX11_unplan_36 : decode cX11_unplan 36 = .ok (.aaload, 1) := by decide +kernel
theorem dX11_unplan_37 : decode cX11_unplan 37 = .ok (.iconst 0, 1) := by decide +kernel
theorem dX11_unplan_38 : decode cX11_unplan 38 = .ok (.putfield 209, 3) := by decide +kernel
theorem dX11_unplan_41 : decode cX11_unplan 41 = .ok (.aload_n 0, 1) := by decide +kernel
theorem dX11_unplan_42 : decode cX11_unplan 42 = .ok (.getfield 24, 3) := by decide +kernel
theorem dX11_unplan_45 : decode cX11_unplan 45 = .ok (.iconst 0, 1) := by decide +kernel
theorem dX11_unplan_46 : decode cX11_unplan 46 = .ok (.putfield 84, 3) := by decide +kernel
theorem dX11_unplan_49 : decode cX11_unplan 49 = .ok (.iconst 1, 1) := by decide +kernel
theorem dX11_unplan_50 : decode cX11_unplan 50 = .ok (.ireturn, 1) := by decide +kernel
theorem dX11_count_0 : decode cX11_count 0 = .ok (.iload_n 1, 1) := by decide +kernel
theorem dX11_count_1 : decode cX11_count 1 = .ok (.tableswitch 138 0 9 #[55, 63, 71, 79, 90, 101, 109, 120, 125, 130], 55) := by decide +kernel
theorem dX11_count_56 : decode cX11_count 56 = .ok (.aload_n 0, 1) := by decide +kernel
theorem dX11_count_57 : decode cX11_count 57 = .ok (.getfield 15, 3) := by decide +kernel
theorem dX11_count_60 : decode cX11_count 60 = .ok (.getfield 212, 3) := by decide +kernel
theorem dX11_count_63 : decode cX11_count 63 = .ok (.ireturn, 1) := by decide +kernel
theorem dX11_count_64 : decode cX11_count 64 = .ok (.aload_n 0, 1) := by decide +kernel
theorem dX11_count_65 : decode cX11_count 65 = .ok (.getfield 15, 3) := by decide +kernel
theorem dX11_count_68 : decode cX11_count 68 = .ok (.getfield 185, 3) := by decide +kernel
theorem dX11_count_71 : decode cX11_count 71 = .ok (.ireturn, 1) := by decide +kernel
theorem dX11_count_72 : decode cX11_count 72 = .ok (.aload_n 0, 1) := by decide +kernel
theorem dX11_count_73 : decode cX11_count 73 = .ok (.getfield 24, 3) := by decide +kernel
theorem dX11_count_76 : decode cX11_count 76 = .ok (.getfield 80, 3) := by decide +kernel
theorem dX11_count_79 : decode cX11_count 79 = .ok (.ireturn, 1) := by decide +kernel
theorem dX11_count_80 : decode cX11_count 80 = .ok (.aload_n 0, 1) := by decide +kernel
theorem dX11_count_81 : decode cX11_count 81 = .ok (.getfield 15, 3) := by decide +kernel
theorem dX11_count_84 : decode cX11_count 84 = .ok (.getfield 138, 3) := by decide +kernel
theorem dX11_count_87 : decode cX11_count 87 = .ok (.getfield 95, 3) := by decide +kernel
theorem dX11_count_90 : decode cX11_count 90 = .ok (.ireturn, 1) := by decide +kernel
theorem dX11_count_91 : decode cX11_count 91 = .ok (.aload_n 0, 1) := by decide +kernel
theorem dX11_count_92 : decode cX11_count 92 = .ok (.getfield 15, 3) := by decide +kernel
theorem dX11_count_95 : decode cX11_count 95 = .ok (.getfield 145, 3) := by decide +kernel
theorem dX11_count_98 : decode cX11_count 98 = .ok (.getfield 95, 3) := by decide +kernel
theorem dX11_count_101 : decode cX11_count 101 = .ok (.ireturn, 1) := by decide +kernel
theorem dX11_count_102 : decode cX11_count 102 = .ok (.aload_n 0, 1) := by decide +kernel
theorem dX11_count_103 : decode cX11_count 103 = .ok (.getfield 33, 3) := by decide +kernel
theorem dX11_count_106 : decode cX11_count 106 = .ok (.getfield 88, 3) := by decide +kernel
theorem dX11_count_109 : decode cX11_count 109 = .ok (.ireturn, 1) := by decide +kernel
theorem dX11_count_110 : decode cX11_count 110 = .ok (.aload_n 0, 1) := by decide +kernel
theorem dX11_count_111 : decode cX11_count 111 = .ok (.getfield 33, 3) := by decide +kernel
theorem dX11_count_114 : decode cX11_count 114 = .ok (.getfield 91, 3) := by decide +kernel
theorem dX11_count_117 : decode cX11_count 117 = .ok (.getfield 95, 3) := by decide +kernel
theorem dX11_count_120 : decode cX11_count 120 = .ok (.ireturn, 1) := by decide +kernel
theorem dX11_count_121 : decode cX11_count 121 = .ok (.aload_n 0, 1) := by decide +kernel
theorem dX11_count_122 : decode cX11_count 122 = .ok (.getfield 215, 3) := by decide +kernel
theorem dX11_count_125 : decode cX11_count 125 = .ok (.ireturn, 1) := by decide +kernel
theorem dX11_count_126 : decode cX11_count 126 = .ok (.aload_n 0, 1) := by decide +kernel
theorem dX11_count_127 : decode cX11_count 127 = .ok (.getfield 218, 3) := by decide +kernel
theorem dX11_count_130 : decode cX11_count 130 = .ok (.ireturn, 1) := by decide +kernel
theorem dX11_count_131 : decode cX11_count 131 = .ok (.aload_n 0, 1) := by decide +kernel
theorem dX11_count_132 : decode cX11_count 132 = .ok (.getfield 24, 3) := by decide +kernel
theorem dX11_count_135 : decode cX11_count 135 = .ok (.invokevirtual 221, 3) := by decide +kernel
theorem dX11_count_138 : decode cX11_count 138 = .ok (.ireturn, 1) := by decide +kernel
theorem dX11_count_139 : decode cX11_count 139 = .ok (.iconst (-1), 1) := by decide +kernel
theorem dX11_count_140 : decode cX11_count 140 = .ok (.ireturn, 1) := by decide +kernel
theorem dX11_of_0 : decode cX11_of 0 = .ok (.aload_n 0, 1) := by decide +kernel
theorem dX11_of_1 : decode cX11_of 1 = .ok (.getfield 24, 3) := by decide +kernel
theorem dX11_of_4 : decode cX11_of 4 = .ok (.iload_n 1, 1) := by decide +kernel
theorem dX11_of_5 : decode cX11_of 5 = .ok (.invokevirtual 175, 3) := by decide +kernel
theorem dX11_of_8 : decode cX11_of 8 = .ok (.ifCond .eq 13, 3) := by decide +kernel
theorem dX11_of_11 : decode cX11_of 11 = .ok (.iload_n 2, 1) := by decide +kernel
theorem dX11_of_12 : decode cX11_of 12 = .ok (.iconst 0, 1) := by decide +kernel
theorem dX11_of_13 : decode cX11_of 13 = .ok (.bipush 10, 2) := by decide +kernel
theorem dX11_of_15 : decode cX11_of 15 = .ok (.invokestatic 105, 3) := by decide +kernel
theorem dX11_of_18 : decode cX11_of 18 = .ok (.ifCond .ne 11, 3) := by decide +kernel
theorem dX11_of_21 : decode cX11_of 21 = .ok (.new 224, 3) := by decide +kernel
theorem dX11_of_24 : decode cX11_of 24 = .ok (.dup, 1) := by decide +kernel
theorem dX11_of_25 : decode cX11_of 25 = .ok (.invokespecial 226, 3) := by decide +kernel
theorem dX11_of_28 : decode cX11_of 28 = .ok (.athrow, 1) := by decide +kernel
theorem dX11_of_29 : decode cX11_of 29 = .ok (.aload_n 0, 1) := by decide +kernel
theorem dX11_of_30 : decode cX11_of 30 = .ok (.getfield 24, 3) := by decide +kernel
theorem dX11_of_33 : decode cX11_of 33 = .ok (.invokevirtual 227, 3) := by decide +kernel
theorem dX11_of_36 : decode cX11_of 36 = .ok (.aload_n 0, 1) := by decide +kernel
theorem dX11_of_37 : decode cX11_of 37 = .ok (.getfield 24, 3) := by decide +kernel
theorem dX11_of_40 : decode cX11_of 40 = .ok (.getfield 230, 3) := by decide +kernel
theorem dX11_of_43 : decode cX11_of 43 = .ok (.iload_n 1, 1) := by decide +kernel
theorem dX11_of_44 : decode cX11_of 44 = .ok (.aaload, 1) := by decide +kernel
theorem dX11_of_45 : decode cX11_of 45 = .ok (.iload_n 2, 1) := by decide +kernel
theorem dX11_of_46 : decode cX11_of 46 = .ok (.invokevirtual 234, 3) := by decide +kernel
theorem dX11_of_49 : decode cX11_of 49 = .ok (.ireturn, 1) := by decide +kernel
theorem dX11_at_0 : decode cX11_at 0 = .ok (.aload_n 0, 1) := by decide +kernel
theorem dX11_at_1 : decode cX11_at 1 = .ok (.getfield 24, 3) := by decide +kernel
theorem dX11_at_4 : decode cX11_at 4 = .ok (.iload_n 1, 1) := by decide +kernel
theorem dX11_at_5 : decode cX11_at 5 = .ok (.invokevirtual 175, 3) := by decide +kernel
theorem dX11_at_8 : decode cX11_at 8 = .ok (.ifCond .eq 15, 3) := by decide +kernel
theorem dX11_at_11 : decode cX11_at 11 = .ok (.aload_n 0, 1) := by decide +kernel
theorem dX11_at_12 : decode cX11_at 12 = .ok (.getfield 15, 3) := by decide +kernel
theorem dX11_at_15 : decode cX11_at 15 = .ok (.iload_n 2, 1) := by decide +kernel
theorem dX11_at_16 : decode cX11_at 16 = .ok (.iload_n 3, 1) := by decide +kernel
theorem dX11_at_17 : decode cX11_at 17 = .ok (.invokevirtual 239, 3) := by decide +kernel
theorem dX11_at_20 : decode cX11_at 20 = .ok (.ifCond .ne 5, 3) := by decide +kernel
theorem dX11_at_23 : decode cX11_at 23 = .ok (.iconst (-1), 1) := by decide +kernel
theorem dX11_at_24 : decode cX11_at 24 = .ok (.ireturn, 1) := by decide +kernel
theorem dX11_at_25 : decode cX11_at 25 = .ok (.aload_n 0, 1) := by decide +kernel
theorem dX11_at_26 : decode cX11_at 26 = .ok (.getfield 24, 3) := by decide +kernel
theorem dX11_at_29 : decode cX11_at 29 = .ok (.invokevirtual 227, 3) := by decide +kernel
theorem dX11_at_32 : decode cX11_at 32 = .ok (.aload_n 0, 1) := by decide +kernel
theorem dX11_at_33 : decode cX11_at 33 = .ok (.getfield 24, 3) := by decide +kernel
theorem dX11_at_36 : decode cX11_at 36 = .ok (.getfield 230, 3) := by decide +kernel
theorem dX11_at_39 : decode cX11_at 39 = .ok (.iload_n 1, 1) := by decide +kernel
theorem dX11_at_40 : decode cX11_at 40 = .ok (.aaload, 1) := by decide +kernel
theorem dX11_at_41 : decode cX11_at 41 = .ok (.aload_n 0, 1) := by decide +kernel
theorem dX11_at_42 : decode cX11_at 42 = .ok (.getfield 15, 3) := by decide +kernel
theorem dX11_at_45 : decode cX11_at 45 = .ok (.iload_n 2, 1) := by decide +kernel
theorem dX11_at_46 : decode cX11_at 46 = .ok (.iload_n 3, 1) := by decide +kernel
theorem dX11_at_47 : decode cX11_at 47 = .ok (.invokevirtual 242, 3) := by decide +kernel
theorem dX11_at_50 : decode cX11_at 50 = .ok (.invokevirtual 245, 3) := by decide +kernel
theorem dX11_at_53 : decode cX11_at 53 = .ok (.ireturn, 1) := by decide +kernel
theorem dX11_led_0 : decode cX11_led 0 = .ok (.iload_n 1, 1) := by decide +kernel
theorem dX11_led_1 : decode cX11_led 1 = .ok (.aload_n 0, 1) := by decide +kernel
theorem dX11_led_2 : decode cX11_led 2 = .ok (.getfield 15, 3) := by decide +kernel
theorem dX11_led_5 : decode cX11_led 5 = .ok (.getfield 185, 3) := by decide +kernel
theorem dX11_led_8 : decode cX11_led 8 = .ok (.invokestatic 115, 3) := by decide +kernel
theorem dX11_led_11 : decode cX11_led 11 = .ok (.ifCond .eq 17, 3) := by decide +kernel
theorem dX11_led_14 : decode cX11_led 14 = .ok (.iload_n 2, 1) := by decide +kernel
theorem dX11_led_15 : decode cX11_led 15 = .ok (.aload_n 0, 1) := by decide +kernel
theorem dX11_led_16 : decode cX11_led 16 = .ok (.getfield 24, 3) := by decide +kernel
theorem dX11_led_19 : decode cX11_led 19 = .ok (.getfield 80, 3) := by decide +kernel
theorem dX11_led_22 : decode cX11_led 22 = .ok (.invokestatic 115, 3) := by decide +kernel
theorem dX11_led_25 : decode cX11_led 25 = .ok (.ifCond .ne 5, 3) := by decide +kernel
theorem dX11_led_28 : decode cX11_led 28 = .ok (.iconst (-1), 1) := by decide +kernel
theorem dX11_led_29 : decode cX11_led 29 = .ok (.ireturn, 1) := by decide +kernel
theorem dX11_led_30 : decode cX11_led 30 = .ok (.aload_n 0, 1) := by decide +kernel
theorem dX11_led_31 : decode cX11_led 31 = .ok (.getfield 24, 3) := by decide +kernel
theorem dX11_led_34 : decode cX11_led 34 = .ok (.invokevirtual 227, 3) := by decide +kernel
theorem dX11_led_37 : decode cX11_led 37 = .ok (.aload_n 0, 1) := by decide +kernel
theorem dX11_led_38 : decode cX11_led 38 = .ok (.getfield 24, 3) := by decide +kernel
theorem dX11_led_41 : decode cX11_led 41 = .ok (.aload_n 0, 1) := by decide +kernel
theorem dX11_led_42 : decode cX11_led 42 = .ok (.getfield 15, 3) := by decide +kernel
theorem dX11_led_45 : decode cX11_led 45 = .ok (.iload_n 1, 1) := by decide +kernel
theorem dX11_led_46 : decode cX11_led 46 = .ok (.aload_n 0, 1) := by decide +kernel
theorem dX11_led_47 : decode cX11_led 47 = .ok (.getfield 15, 3) := by decide +kernel
theorem dX11_led_50 : decode cX11_led 50 = .ok (.getfield 212, 3) := by decide +kernel
theorem dX11_led_53 : decode cX11_led 53 = .ok (.iconst 1, 1) := by decide +kernel
theorem dX11_led_54 : decode cX11_led 54 = .ok (.isub, 1) := by decide +kernel
theorem dX11_led_55 : decode cX11_led 55 = .ok (.invokevirtual 242, 3) := by decide +kernel
theorem dX11_led_58 : decode cX11_led 58 = .ok (.iload_n 2, 1) := by decide +kernel
theorem dX11_led_59 : decode cX11_led 59 = .ok (.invokevirtual 248, 3) := by decide +kernel
theorem dX11_led_62 : decode cX11_led 62 = .ok (.ireturn, 1) := by decide +kernel
theorem dX11_waited_0 : decode cX11_waited 0 = .ok (.aload_n 0, 1) := by decide +kernel
theorem dX11_waited_1 : decode cX11_waited 1 = .ok (.getfield 24, 3) := by decide +kernel
theorem dX11_waited_4 : decode cX11_waited 4 = .ok (.iload_n 1, 1) := by decide +kernel
theorem dX11_waited_5 : decode cX11_waited 5 = .ok (.invokevirtual 175, 3) := by decide +kernel
theorem dX11_waited_8 : decode cX11_waited 8 = .ok (.ifCond .ne 5, 3) := by decide +kernel
theorem dX11_waited_11 : decode cX11_waited 11 = .ok (.iconst (-1), 1) := by decide +kernel
theorem dX11_waited_12 : decode cX11_waited 12 = .ok (.ireturn, 1) := by decide +kernel
theorem dX11_waited_13 : decode cX11_waited 13 = .ok (.aload_n 0, 1) := by decide +kernel
theorem dX11_waited_14 : decode cX11_waited 14 = .ok (.getfield 24, 3) := by decide +kernel
theorem dX11_waited_17 : decode cX11_waited 17 = .ok (.invokevirtual 227, 3) := by decide +kernel
theorem dX11_waited_20 : decode cX11_waited 20 = .ok (.aload_n 0, 1) := by decide +kernel
theorem dX11_waited_21 : decode cX11_waited 21 = .ok (.getfield 24, 3) := by decide +kernel
theorem dX11_waited_24 : decode cX11_waited 24 = .ok (.getfield 230, 3) := by decide +kernel
theorem dX11_waited_27 : decode cX11_waited 27 = .ok (.iload_n 1, 1) := by decide +kernel
theorem dX11_waited_28 : decode cX11_waited 28 = .ok (.aaload, 1) := by decide +kernel
theorem dX11_waited_29 : decode cX11_waited 29 = .ok (.getfield 251, 3) := by decide +kernel
theorem dX11_waited_32 : decode cX11_waited 32 = .ok (.ireturn, 1) := by decide +kernel
theorem dX11_leads_0 : decode cX11_leads 0 = .ok (.aload_n 0, 1) := by decide +kernel
theorem dX11_leads_1 : decode cX11_leads 1 = .ok (.getfield 24, 3) := by decide +kernel
theorem dX11_leads_4 : decode cX11_leads 4 = .ok (.invokevirtual 227, 3) := by decide +kernel
theorem dX11_leads_7 : decode cX11_leads 7 = .ok (.iconst 0, 1) := by decide +kernel
theorem dX11_leads_8 : decode cX11_leads 8 = .ok (.istore_n 1, 1) := by decide +kernel
theorem dX11_leads_9 : decode cX11_leads 9 = .ok (.aload_n 0, 1) := by decide +kernel
theorem dX11_leads_10 : decode cX11_leads 10 = .ok (.getfield 24, 3) := by decide +kernel
theorem dX11_leads_13 : decode cX11_leads 13 = .ok (.aload_n 0, 1) := by decide +kernel
theorem dX11_leads_14 : decode cX11_leads 14 = .ok (.getfield 15, 3) := by decide +kernel
theorem dX11_leads_17 : decode cX11_leads 17 = .ok (.iconst 0, 1) := by decide +kernel
theorem dX11_leads_18 : decode cX11_leads 18 = .ok (.aload_n 0, 1) := by decide +kernel
theorem dX11_leads_19 : decode cX11_leads 19 = .ok (.getfield 15, 3) := by decide +kernel
theorem dX11_leads_22 : decode cX11_leads 22 = .ok (.getfield 212, 3) := by decide +kernel
theorem dX11_leads_25 : decode cX11_leads 25 = .ok (.iconst 1, 1) := by decide +kernel
theorem dX11_leads_26 : decode cX11_leads 26 = .ok (.isub, 1) := by decide +kernel
theorem dX11_leads_27 : decode cX11_leads 27 = .ok (.invokevirtual 242, 3) := by decide +kernel
theorem dX11_leads_30 : decode cX11_leads 30 = .ok (.iconst 0, 1) := by decide +kernel
theorem dX11_leads_31 : decode cX11_leads 31 = .ok (.invokevirtual 248, 3) := by decide +kernel
theorem dX11_leads_34 : decode cX11_leads 34 = .ok (.istore_n 2, 1) := by decide +kernel
theorem dX11_leads_35 : decode cX11_leads 35 = .ok (.iconst 1, 1) := by decide +kernel
theorem dX11_leads_36 : decode cX11_leads 36 = .ok (.istore_n 3, 1) := by decide +kernel
theorem dX11_leads_37 : decode cX11_leads 37 = .ok (.iload_n 3, 1) := by decide +kernel
theorem dX11_leads_38 : decode cX11_leads 38 = .ok (.aload_n 0, 1) := by decide +kernel
theorem dX11_leads_39 : decode cX11_leads 39 = .ok (.getfield 15, 3) := by decide +kernel
theorem dX11_leads_42 : decode cX11_leads 42 = .ok (.getfield 185, 3) := by decide +kernel
theorem dX11_leads_45 : decode cX11_leads 45 = .ok (.if_icmp .ge 56, 3) := by decide +kernel
theorem dX11_leads_48 : decode cX11_leads 48 = .ok (.aload_n 0, 1) := by decide +kernel
theorem dX11_leads_49 : decode cX11_leads 49 = .ok (.getfield 24, 3) := by decide +kernel
theorem dX11_leads_52 : decode cX11_leads 52 = .ok (.aload_n 0, 1) := by decide +kernel
theorem dX11_leads_53 : decode cX11_leads 53 = .ok (.getfield 15, 3) := by decide +kernel
theorem dX11_leads_56 : decode cX11_leads 56 = .ok (.iload_n 3, 1) := by decide +kernel
theorem dX11_leads_57 : decode cX11_leads 57 = .ok (.aload_n 0, 1) := by decide +kernel
theorem dX11_leads_58 : decode cX11_leads 58 = .ok (.getfield 15, 3) := by decide +kernel
theorem dX11_leads_61 : decode cX11_leads 61 = .ok (.getfield 212, 3) := by decide +kernel
theorem dX11_leads_64 : decode cX11_leads 64 = .ok (.iconst 1, 1) := by decide +kernel
theorem dX11_leads_65 : decode cX11_leads 65 = .ok (.isub, 1) := by decide +kernel
theorem dX11_leads_66 : decode cX11_leads 66 = .ok (.invokevirtual 242, 3) := by decide +kernel
theorem dX11_leads_69 : decode cX11_leads 69 = .ok (.iconst 0, 1) := by decide +kernel
theorem dX11_leads_70 : decode cX11_leads 70 = .ok (.invokevirtual 248, 3) := by decide +kernel
theorem dX11_leads_73 : decode cX11_leads 73 = .ok (.istore 4, 2) := by decide +kernel
theorem dX11_leads_75 : decode cX11_leads 75 = .ok (.iload 4, 2) := by decide +kernel
theorem dX11_leads_77 : decode cX11_leads 77 = .ok (.iconst (-1), 1) := by decide +kernel
theorem dX11_leads_78 : decode cX11_leads 78 = .ok (.if_icmp .ne 5, 3) := by decide +kernel
theorem dX11_leads_81 : decode cX11_leads 81 = .ok (.iload_n 1, 1) := by decide +kernel
theorem dX11_leads_82 : decode cX11_leads 82 = .ok (.ireturn, 1) := by decide +kernel
theorem dX11_leads_83 : decode cX11_leads 83 = .ok (.iload 4, 2) := by decide +kernel
theorem dX11_leads_85 : decode cX11_leads 85 = .ok (.iload_n 2, 1) := by decide +kernel
theorem dX11_leads_86 : decode cX11_leads 86 = .ok (.if_icmp .eq 6, 3) := by decide +kernel
theorem dX11_leads_89 : decode cX11_leads 89 = .ok (.iinc 1 1, 3) := by decide +kernel
theorem dX11_leads_92 : decode cX11_leads 92 = .ok (.iload 4, 2) := by decide +kernel
theorem dX11_leads_94 : decode cX11_leads 94 = .ok (.istore_n 2, 1) := by decide +kernel
theorem dX11_leads_95 : decode cX11_leads 95 = .ok (.iinc 3 1, 3) := by decide +kernel
theorem dX11_leads_98 : decode cX11_leads 98 = .ok (.goto (-61), 3) := by decide +kernel
theorem dX11_leads_101 : decode cX11_leads 101 = .ok (.iload_n 1, 1) := by decide +kernel
theorem dX11_leads_102 : decode cX11_leads 102 = .ok (.ireturn, 1) := by decide +kernel
theorem dX11_sign_0 : decode cX11_sign 0 = .ok (.aload_n 0, 1) := by decide +kernel
theorem dX11_sign_1 : decode cX11_sign 1 = .ok (.getfield 218, 3) := by decide +kernel
theorem dX11_sign_4 : decode cX11_sign 4 = .ok (.iconst 4, 1) := by decide +kernel
theorem dX11_sign_5 : decode cX11_sign 5 = .ok (.iadd, 1) := by decide +kernel
theorem dX11_sign_6 : decode cX11_sign 6 = .ok (.bipush 100, 2) := by decide +kernel
theorem dX11_sign_8 : decode cX11_sign 8 = .ok (.if_icmp .le 5, 3) := by decide +kernel
theorem dX11_sign_11 : decode cX11_sign 11 = .ok (.iconst (-1), 1) := by decide +kernel
theorem dX11_sign_12 : decode cX11_sign 12 = .ok (.ireturn, 1) := by decide +kernel
theorem dX11_sign_13 : decode cX11_sign 13 = .ok (.bipush 24, 2) := by decide +kernel
theorem dX11_sign_15 : decode cX11_sign 15 = .ok (.istore_n 2, 1) := by decide +kernel
theorem dX11_sign_16 : decode cX11_sign 16 = .ok (.iload_n 2, 1) := by decide +kernel
theorem dX11_sign_17 : decode cX11_sign 17 = .ok (.ifCond .lt 35, 3) := by decide +kernel
theorem dX11_sign_20 : decode cX11_sign 20 = .ok (.aload_n 0, 1) := by decide +kernel
theorem dX11_sign_21 : decode cX11_sign 21 = .ok (.getfield 62, 3) := by decide +kernel
theorem dX11_sign_24 : decode cX11_sign 24 = .ok (.aload_n 0, 1) := by decide +kernel
theorem dX11_sign_25 : decode cX11_sign 25 = .ok (.getfield 218, 3) := by decide +kernel
theorem dX11_sign_28 : decode cX11_sign 28 = .ok (.iload_n 1, 1) := by decide +kernel
theorem dX11_sign_29 : decode cX11_sign 29 = .ok (.iload_n 2, 1) := by decide +kernel
theorem dX11_sign_30 : decode cX11_sign 30 = .ok (.iushr, 1) := by decide +kernel
theorem dX11_sign_31 : decode cX11_sign 31 = .ok (.sipush 255, 3) := by decide +kernel
theorem dX11_sign_34 : decode cX11_sign 34 = .ok (.iand, 1) := by decide +kernel
theorem dX11_sign_35 : decode cX11_sign 35 = .ok (.iastore, 1) := by decide +kernel
theorem dX11_sign_36 : decode cX11_sign 36 = .ok (.aload_n 0, 1) := by decide +kernel
theorem dX11_sign_37 : decode cX11_sign 37 = .ok (.dup, 1) := by decide +kernel
theorem dX11_sign_38 : decode cX11_sign 38 = .ok (.getfield 218, 3) := by decide +kernel
theorem dX11_sign_41 : decode cX11_sign 41 = .ok (.iconst 1, 1) := by decide +kernel
theorem dX11_sign_42 : decode cX11_sign 42 = .ok (.iadd, 1) := by decide +kernel
theorem dX11_sign_43 : decode cX11_sign 43 = .ok (.putfield 218, 3) := by decide +kernel
theorem dX11_sign_46 : decode cX11_sign 46 = .ok (.iinc 2 (-8), 3) := by decide +kernel
theorem dX11_sign_49 : decode cX11_sign 49 = .ok (.goto (-33), 3) := by decide +kernel
theorem dX11_sign_52 : decode cX11_sign 52 = .ok (.aload_n 0, 1) := by decide +kernel
theorem dX11_sign_53 : decode cX11_sign 53 = .ok (.getfield 218, 3) := by decide +kernel
theorem dX11_sign_56 : decode cX11_sign 56 = .ok (.ireturn, 1) := by decide +kernel
theorem dX11_end_0 : decode cX11_end 0 = .ok (.iload_n 1, 1) := by decide +kernel
theorem dX11_end_1 : decode cX11_end 1 = .ok (.ifCond .lt 11, 3) := by decide +kernel
theorem dX11_end_4 : decode cX11_end 4 = .ok (.iload_n 1, 1) := by decide +kernel
theorem dX11_end_5 : decode cX11_end 5 = .ok (.aload_n 0, 1) := by decide +kernel
theorem dX11_end_6 : decode cX11_end 6 = .ok (.getfield 218, 3) := by decide +kernel
theorem dX11_end_9 : decode cX11_end 9 = .ok (.if_icmp .le 5, 3) := by decide +kernel
theorem dX11_end_12 : decode cX11_end 12 = .ok (.iconst 0, 1) := by decide +kernel
theorem dX11_end_13 : decode cX11_end 13 = .ok (.ireturn, 1) := by decide +kernel
theorem dX11_end_14 : decode cX11_end 14 = .ok (.aload_n 0, 1) := by decide +kernel
theorem dX11_end_15 : decode cX11_end 15 = .ok (.iload_n 1, 1) := by decide +kernel
theorem dX11_end_16 : decode cX11_end 16 = .ok (.putfield 218, 3) := by decide +kernel
theorem dX11_end_19 : decode cX11_end 19 = .ok (.iconst 1, 1) := by decide +kernel
theorem dX11_end_20 : decode cX11_end 20 = .ok (.ireturn, 1) := by decide +kernel
theorem dX11_rule_0 : decode cX11_rule 0 = .ok (.aload_n 0, 1) := by decide +kernel
theorem dX11_rule_1 : decode cX11_rule 1 = .ok (.invokevirtual 198, 3) := by decide +kernel
theorem dX11_rule_4 : decode cX11_rule 4 = .ok (.istore_n 2, 1) := by decide +kernel
theorem dX11_rule_5 : decode cX11_rule 5 = .ok (.iload_n 1, 1) := by decide +kernel
theorem dX11_rule_6 : decode cX11_rule 6 = .ok (.invokestatic 254, 3) := by decide +kernel
theorem dX11_rule_9 : decode cX11_rule 9 = .ok (.ifCond .eq 18, 3) := by decide +kernel
theorem dX11_rule_12 : decode cX11_rule 12 = .ok (.aload_n 0, 1) := by decide +kernel
theorem dX11_rule_13 : decode cX11_rule 13 = .ok (.getfield 33, 3) := by decide +kernel
theorem dX11_rule_16 : decode cX11_rule 16 = .ok (.getfield 88, 3) := by decide +kernel
theorem dX11_rule_19 : decode cX11_rule 19 = .ok (.bipush 10, 2) := by decide +kernel
theorem dX11_rule_21 : decode cX11_rule 21 = .ok (.invokestatic 115, 3) := by decide +kernel
theorem dX11_rule_24 : decode cX11_rule 24 = .ok (.ifCond .ne 6, 3) := by decide +kernel
theorem dX11_rule_27 : decode cX11_rule 27 = .ok (.bipush (-100), 2) := by decide +kernel
theorem dX11_rule_29 : decode cX11_rule 29 = .ok (.ireturn, 1) := by decide +kernel
theorem dX11_rule_30 : decode cX11_rule 30 = .ok (.aload_n 0, 1) := by decide +kernel
theorem dX11_rule_31 : decode cX11_rule 31 = .ok (.getfield 58, 3) := by decide +kernel
theorem dX11_rule_34 : decode cX11_rule 34 = .ok (.aload_n 0, 1) := by decide +kernel
theorem dX11_rule_35 : decode cX11_rule 35 = .ok (.getfield 62, 3) := by decide +kernel
theorem dX11_rule_38 : decode cX11_rule 38 = .ok (.iload_n 2, 1) := by decide +kernel
theorem dX11_rule_39 : decode cX11_rule 39 = .ok (.aload_n 0, 1) := by decide +kernel
theorem dX11_rule_40 : decode cX11_rule 40 = .ok (.getfield 72, 3) := by decide +kernel
theorem dX11_rule_43 : decode cX11_rule 43 = .ok (.iconst 0, 1) := by decide +kernel
theorem dX11_rule_44 : decode cX11_rule 44 = .ok (.invokevirtual 202, 3) := by decide +kernel
theorem dX11_rule_47 : decode cX11_rule 47 = .ok (.istore_n 3, 1) := by decide +kernel
theorem dX11_rule_48 : decode cX11_rule 48 = .ok (.iload_n 3, 1) := by decide +kernel
theorem dX11_rule_49 : decode cX11_rule 49 = .ok (.iconst (-1), 1) := by decide +kernel
theorem dX11_rule_50 : decode cX11_rule 50 = .ok (.if_icmp .eq 7, 3) := by decide +kernel
theorem dX11_rule_53 : decode cX11_rule 53 = .ok (.iconst (-1), 1) := by decide +kernel
theorem dX11_rule_54 : decode cX11_rule 54 = .ok (.iload_n 3, 1) := by decide +kernel
theorem dX11_rule_55 : decode cX11_rule 55 = .ok (.isub, 1) := by decide +kernel
theorem dX11_rule_56 : decode cX11_rule 56 = .ok (.ireturn, 1) := by decide +kernel
theorem dX11_rule_57 : decode cX11_rule 57 = .ok (.aload_n 0, 1) := by decide +kernel
theorem dX11_rule_58 : decode cX11_rule 58 = .ok (.aload_n 0, 1) := by decide +kernel
theorem dX11_rule_59 : decode cX11_rule 59 = .ok (.getfield 33, 3) := by decide +kernel
theorem dX11_rule_62 : decode cX11_rule 62 = .ok (.aload_n 0, 1) := by decide +kernel
theorem dX11_rule_63 : decode cX11_rule 63 = .ok (.getfield 72, 3) := by decide +kernel
theorem dX11_rule_66 : decode cX11_rule 66 = .ok (.iload_n 1, 1) := by decide +kernel
theorem dX11_rule_67 : decode cX11_rule 67 = .ok (.invokevirtual 257, 3) := by decide +kernel
theorem dX11_rule_70 : decode cX11_rule 70 = .ok (.putfield 72, 3) := by decide +kernel
theorem dX11_rule_73 : decode cX11_rule 73 = .ok (.aload_n 0, 1) := by decide +kernel
theorem dX11_rule_74 : decode cX11_rule 74 = .ok (.getfield 33, 3) := by decide +kernel
theorem dX11_rule_77 : decode cX11_rule 77 = .ok (.getfield 88, 3) := by decide +kernel
theorem dX11_rule_80 : decode cX11_rule 80 = .ok (.ireturn, 1) := by decide +kernel
theorem dX11_finding_0 : decode cX11_finding 0 = .ok (.iload_n 1, 1) := by decide +kernel
theorem dX11_finding_1 : decode cX11_finding 1 = .ok (.invokestatic 254, 3) := by decide +kernel
theorem dX11_finding_4 : decode cX11_finding 4 = .ok (.ifCond .eq 23, 3) := by decide +kernel
theorem dX11_finding_7 : decode cX11_finding 7 = .ok (.aload_n 0, 1) := by decide +kernel
theorem dX11_finding_8 : decode cX11_finding 8 = .ok (.getfield 24, 3) := by decide +kernel
theorem dX11_finding_11 : decode cX11_finding 11 = .ok (.iload_n 2, 1) := by decide +kernel
theorem dX11_finding_12 : decode cX11_finding 12 = .ok (.invokevirtual 175, 3) := by decide +kernel
theorem dX11_finding_15 : decode cX11_finding 15 = .ok (.ifCond .eq 12, 3) := by decide +kernel
theorem dX11_finding_18 : decode cX11_finding 18 = .ok (.iload_n 3, 1) := by decide +kernel
theorem dX11_finding_19 : decode cX11_finding 19 = .ok (.iconst 0, 1) := by decide +kernel
theorem dX11_finding_20 : decode cX11_finding 20 = .ok (.iconst 1, 1) := by decide +kernel
theorem dX11_finding_21 : decode cX11_finding 21 = .ok (.invokestatic 105, 3) := by decide +kernel
theorem dX11_finding_24 : decode cX11_finding 24 = .ok (.ifCond .ne 5, 3) := by decide +kernel
theorem dX11_finding_27 : decode cX11_finding 27 = .ok (.iconst (-1), 1) := by decide +kernel
theorem dX11_finding_28 : decode cX11_finding 28 = .ok (.ireturn, 1) := by decide +kernel
theorem dX11_finding_29 : decode cX11_finding 29 = .ok (.iload_n 3, 1) := by decide +kernel
theorem dX11_finding_30 : decode cX11_finding 30 = .ok (.ifCond .ne 15, 3) := by decide +kernel
theorem dX11_finding_33 : decode cX11_finding 33 = .ok (.iload 4, 2) := by decide +kernel
theorem dX11_finding_35 : decode cX11_finding 35 = .ok (.iconst 0, 1) := by decide +kernel
theorem dX11_finding_36 : decode cX11_finding 36 = .ok (.sipush 999, 3) := by decide +kernel
theorem dX11_finding_39 : decode cX11_finding 39 = .ok (.invokestatic 105, 3) := by decide +kernel
theorem dX11_finding_42 : decode cX11_finding 42 = .ok (.goto 13, 3) := by decide +kernel
theorem dX11_finding_45 : decode cX11_finding 45 = .ok (.iload 4, 2) := by decide +kernel
theorem dX11_finding_47 : decode cX11_finding 47 = .ok (.ldc_w 261, 3) := by decide +kernel
theorem dX11_finding_50 : decode cX11_finding 50 = .ok (.ldc 104, 2) := by decide +kernel
theorem dX11_finding_52 : decode cX11_finding 52 = .ok (.invokestatic 105, 3) := by decide +kernel
theorem dX11_finding_55 : decode cX11_finding 55 = .ok (.istore 5, 2) := by decide +kernel
theorem dX11_finding_57 : decode cX11_finding 57 = .ok (.iload 5, 2) := by decide +kernel
theorem dX11_finding_59 : decode cX11_finding 59 = .ok (.ifCond .ne 5, 3) := by decide +kernel
theorem dX11_finding_62 : decode cX11_finding 62 = .ok (.iconst (-1), 1) := by decide +kernel
theorem dX11_finding_63 : decode cX11_finding 63 = .ok (.ireturn, 1) := by decide +kernel
theorem dX11_finding_64 : decode cX11_finding 64 = .ok (.aload_n 0, 1) := by decide +kernel
theorem dX11_finding_65 : decode cX11_finding 65 = .ok (.getfield 33, 3) := by decide +kernel
theorem dX11_finding_68 : decode cX11_finding 68 = .ok (.getfield 91, 3) := by decide +kernel
theorem dX11_finding_71 : decode cX11_finding 71 = .ok (.iload_n 1, 1) := by decide +kernel
theorem dX11_finding_72 : decode cX11_finding 72 = .ok (.iload_n 2, 1) := by decide +kernel
theorem dX11_finding_73 : decode cX11_finding 73 = .ok (.iload_n 3, 1) := by decide +kernel
theorem dX11_finding_74 : decode cX11_finding 74 = .ok (.iload 4, 2) := by decide +kernel
theorem dX11_finding_76 : decode cX11_finding 76 = .ok (.invokevirtual 141, 3) := by decide +kernel
theorem dX11_finding_79 : decode cX11_finding 79 = .ok (.ireturn, 1) := by decide +kernel
theorem dX11_seconds_0 : decode cX11_seconds 0 = .ok (.aload_n 0, 1) := by decide +kernel
theorem dX11_seconds_1 : decode cX11_seconds 1 = .ok (.getfield 24, 3) := by decide +kernel
theorem dX11_seconds_4 : decode cX11_seconds 4 = .ok (.iload_n 1, 1) := by decide +kernel
theorem dX11_seconds_5 : decode cX11_seconds 5 = .ok (.invokevirtual 175, 3) := by decide +kernel
theorem dX11_seconds_8 : decode cX11_seconds 8 = .ok (.ifCond .eq 10, 3) := by decide +kernel
theorem dX11_seconds_11 : decode cX11_seconds 11 = .ok (.iload_n 2, 1) := by decide +kernel
theorem dX11_seconds_12 : decode cX11_seconds 12 = .ok (.invokestatic 254, 3) := by decide +kernel
theorem dX11_seconds_15 : decode cX11_seconds 15 = .ok (.ifCond .ne 5, 3) := by decide +kernel
theorem dX11_seconds_18 : decode cX11_seconds 18 = .ok (.iconst (-1), 1) := by decide +kernel
theorem dX11_seconds_19 : decode cX11_seconds 19 = .ok (.ireturn, 1) := by decide +kernel
theorem dX11_seconds_20 : decode cX11_seconds 20 = .ok (.aload_n 0, 1) := by decide +kernel
theorem dX11_seconds_21 : decode cX11_seconds 21 = .ok (.getfield 24, 3) := by decide +kernel
theorem dX11_seconds_24 : decode cX11_seconds 24 = .ok (.invokevirtual 227, 3) := by decide +kernel
theorem dX11_seconds_27 : decode cX11_seconds 27 = .ok (.aload_n 0, 1) := by decide +kernel
theorem dX11_seconds_28 : decode cX11_seconds 28 = .ok (.getfield 33, 3) := by decide +kernel
theorem dX11_seconds_31 : decode cX11_seconds 31 = .ok (.aload_n 0, 1) := by decide +kernel
theorem dX11_seconds_32 : decode cX11_seconds 32 = .ok (.getfield 24, 3) := by decide +kernel
theorem dX11_seconds_35 : decode cX11_seconds 35 = .ok (.getfield 148, 3) := by decide +kernel
theorem dX11_seconds_38 : decode cX11_seconds 38 = .ok (.iload_n 1, 1) := by decide +kernel
theorem dX11_seconds_39 : decode cX11_seconds 39 = .ok (.aaload, 1) := by decide +kernel
theorem dX11_seconds_40 : decode cX11_seconds 40 = .ok (.aload_n 0, 1) := by decide +kernel
theorem dX11_seconds_41 : decode cX11_seconds 41 = .ok (.getfield 24, 3) := by decide +kernel
theorem dX11_seconds_44 : decode cX11_seconds 44 = .ok (.getfield 230, 3) := by decide +kernel
theorem dX11_seconds_47 : decode cX11_seconds 47 = .ok (.iload_n 1, 1) := by decide +kernel
theorem dX11_seconds_48 : decode cX11_seconds 48 = .ok (.aaload, 1) := by decide +kernel
theorem dX11_seconds_49 : decode cX11_seconds 49 = .ok (.aload_n 0, 1) := by decide +kernel
theorem dX11_seconds_50 : decode cX11_seconds 50 = .ok (.getfield 24, 3) := by decide +kernel
theorem dX11_seconds_53 : decode cX11_seconds 53 = .ok (.iload_n 1, 1) := by decide +kernel
theorem dX11_seconds_54 : decode cX11_seconds 54 = .ok (.invokevirtual 262, 3) := by decide +kernel
theorem dX11_seconds_57 : decode cX11_seconds 57 = .ok (.aload_n 0, 1) := by decide +kernel
theorem dX11_seconds_58 : decode cX11_seconds 58 = .ok (.getfield 33, 3) := by decide +kernel
theorem dX11_seconds_61 : decode cX11_seconds 61 = .ok (.iload_n 1, 1) := by decide +kernel
theorem dX11_seconds_62 : decode cX11_seconds 62 = .ok (.iload_n 2, 1) := by decide +kernel
theorem dX11_seconds_63 : decode cX11_seconds 63 = .ok (.invokevirtual 265, 3) := by decide +kernel
theorem dX11_seconds_66 : decode cX11_seconds 66 = .ok (.iload_n 2, 1) := by decide +kernel
theorem dX11_seconds_67 : decode cX11_seconds 67 = .ok (.invokevirtual 268, 3) := by decide +kernel
theorem dX11_seconds_70 : decode cX11_seconds 70 = .ok (.ireturn, 1) := by decide +kernel
theorem dX11_place_0 : decode cX11_place 0 = .ok (.aload_n 0, 1) := by decide +kernel
theorem dX11_place_1 : decode cX11_place 1 = .ok (.getfield 24, 3) := by decide +kernel
theorem dX11_place_4 : decode cX11_place 4 = .ok (.iload_n 1, 1) := by decide +kernel
theorem dX11_place_5 : decode cX11_place 5 = .ok (.invokevirtual 175, 3) := by decide +kernel
theorem dX11_place_8 : decode cX11_place 8 = .ok (.ifCond .eq 10, 3) := by decide +kernel
theorem dX11_place_11 : decode cX11_place 11 = .ok (.iload_n 2, 1) := by decide +kernel
theorem dX11_place_12 : decode cX11_place 12 = .ok (.invokestatic 254, 3) := by decide +kernel
theorem dX11_place_15 : decode cX11_place 15 = .ok (.ifCond .ne 5, 3) := by decide +kernel
theorem dX11_place_18 : decode cX11_place 18 = .ok (.iconst (-1), 1) := by decide +kernel
theorem dX11_place_19 : decode cX11_place 19 = .ok (.ireturn, 1) := by decide +kernel
theorem dX11_place_20 : decode cX11_place 20 = .ok (.aload_n 0, 1) := by decide +kernel
theorem dX11_place_21 : decode cX11_place 21 = .ok (.getfield 24, 3) := by decide +kernel
theorem dX11_place_24 : decode cX11_place 24 = .ok (.invokevirtual 227, 3) := by decide +kernel
theorem dX11_place_27 : decode cX11_place 27 = .ok (.aload_n 0, 1) := by decide +kernel
theorem dX11_place_28 : decode cX11_place 28 = .ok (.getfield 42, 3) := by decide +kernel
theorem dX11_place_31 : decode cX11_place 31 = .ok (.iload_n 2, 1) := by decide +kernel
theorem dX11_place_32 : decode cX11_place 32 = .ok (.invokevirtual 272, 3) := by decide +kernel
theorem dX11_place_35 : decode cX11_place 35 = .ok (.aload_n 0, 1) := by decide +kernel
theorem dX11_place_36 : decode cX11_place 36 = .ok (.getfield 42, 3) := by decide +kernel
theorem dX11_place_39 : decode cX11_place 39 = .ok (.iload_n 1, 1) := by decide +kernel
theorem dX11_place_40 : decode cX11_place 40 = .ok (.iconst (-1), 1) := by decide +kernel
theorem dX11_place_41 : decode cX11_place 41 = .ok (.invokevirtual 276, 3) := by decide +kernel
theorem dX11_place_44 : decode cX11_place 44 = .ok (.ireturn, 1) := by decide +kernel
theorem dX11_sum_0 : decode cX11_sum 0 = .ok (.aload_n 0, 1) := by decide +kernel
theorem dX11_sum_1 : decode cX11_sum 1 = .ok (.getfield 24, 3) := by decide +kernel
theorem dX11_sum_4 : decode cX11_sum 4 = .ok (.iload_n 1, 1) := by decide +kernel
theorem dX11_sum_5 : decode cX11_sum 5 = .ok (.invokevirtual 175, 3) := by decide +kernel
theorem dX11_sum_8 : decode cX11_sum 8 = .ok (.ifCond .eq 10, 3) := by decide +kernel
theorem dX11_sum_11 : decode cX11_sum 11 = .ok (.iload_n 2, 1) := by decide +kernel
theorem dX11_sum_12 : decode cX11_sum 12 = .ok (.invokestatic 254, 3) := by decide +kernel
theorem dX11_sum_15 : decode cX11_sum 15 = .ok (.ifCond .ne 11, 3) := by decide +kernel
theorem dX11_sum_18 : decode cX11_sum 18 = .ok (.new 224, 3) := by decide +kernel
theorem dX11_sum_21 : decode cX11_sum 21 = .ok (.dup, 1) := by decide +kernel
theorem dX11_sum_22 : decode cX11_sum 22 = .ok (.invokespecial 226, 3) := by decide +kernel
theorem dX11_sum_25 : decode cX11_sum 25 = .ok (.athrow, 1) := by decide +kernel
theorem dX11_sum_26 : decode cX11_sum 26 = .ok (.aload_n 0, 1) := by decide +kernel
theorem dX11_sum_27 : decode cX11_sum 27 = .ok (.getfield 24, 3) := by decide +kernel
theorem dX11_sum_30 : decode cX11_sum 30 = .ok (.invokevirtual 227, 3) := by decide +kernel
theorem dX11_sum_33 : decode cX11_sum 33 = .ok (.aload_n 0, 1) := by decide +kernel
theorem dX11_sum_34 : decode cX11_sum 34 = .ok (.getfield 42, 3) := by decide +kernel
theorem dX11_sum_37 : decode cX11_sum 37 = .ok (.iload_n 2, 1) := by decide +kernel
theorem dX11_sum_38 : decode cX11_sum 38 = .ok (.invokevirtual 272, 3) := by decide +kernel
theorem dX11_sum_41 : decode cX11_sum 41 = .ok (.aload_n 0, 1) := by decide +kernel
theorem dX11_sum_42 : decode cX11_sum 42 = .ok (.getfield 42, 3) := by decide +kernel
theorem dX11_sum_45 : decode cX11_sum 45 = .ok (.getfield 279, 3) := by decide +kernel
theorem dX11_sum_48 : decode cX11_sum 48 = .ok (.iload_n 1, 1) := by decide +kernel
theorem dX11_sum_49 : decode cX11_sum 49 = .ok (.baload, 1) := by decide +kernel
theorem dX11_sum_50 : decode cX11_sum 50 = .ok (.ifCond .ne 11, 3) := by decide +kernel
theorem dX11_sum_53 : decode cX11_sum 53 = .ok (.new 224, 3) := by decide +kernel
theorem dX11_sum_56 : decode cX11_sum 56 = .ok (.dup, 1) := by decide +kernel
theorem dX11_sum_57 : decode cX11_sum 57 = .ok (.invokespecial 226, 3) := by decide +kernel
theorem dX11_sum_60 : decode cX11_sum 60 = .ok (.athrow, 1) := by decide +kernel
theorem dX11_sum_61 : decode cX11_sum 61 = .ok (.aload_n 0, 1) := by decide +kernel
theorem dX11_sum_62 : decode cX11_sum 62 = .ok (.getfield 42, 3) := by decide +kernel
theorem dX11_sum_65 : decode cX11_sum 65 = .ok (.getfield 283, 3) := by decide +kernel
theorem dX11_sum_68 : decode cX11_sum 68 = .ok (.iload_n 1, 1) := by decide +kernel
theorem dX11_sum_69 : decode cX11_sum 69 = .ok (.iaload, 1) := by decide +kernel
theorem dX11_sum_70 : decode cX11_sum 70 = .ok (.ireturn, 1) := by decide +kernel
theorem dX11_within_0 : decode cX11_within 0 = .ok (.aload_n 0, 1) := by decide +kernel
theorem dX11_within_1 : decode cX11_within 1 = .ok (.getfield 24, 3) := by decide +kernel
theorem dX11_within_4 : decode cX11_within 4 = .ok (.iload_n 1, 1) := by decide +kernel
theorem dX11_within_5 : decode cX11_within 5 = .ok (.invokevirtual 175, 3) := by decide +kernel
theorem dX11_within_8 : decode cX11_within 8 = .ok (.ifCond .eq 10, 3) := by decide +kernel
theorem dX11_within_11 : decode cX11_within 11 = .ok (.iload_n 2, 1) := by decide +kernel
theorem dX11_within_12 : decode cX11_within 12 = .ok (.invokestatic 254, 3) := by decide +kernel
theorem dX11_within_15 : decode cX11_within 15 = .ok (.ifCond .ne 5, 3) := by decide +kernel
theorem dX11_within_18 : decode cX11_within 18 = .ok (.iconst (-1), 1) := by decide +kernel
theorem dX11_within_19 : decode cX11_within 19 = .ok (.ireturn, 1) := by decide +kernel
theorem dX11_within_20 : decode cX11_within 20 = .ok (.aload_n 0, 1) := by decide +kernel
theorem dX11_within_21 : decode cX11_within 21 = .ok (.getfield 24, 3) := by decide +kernel
theorem dX11_within_24 : decode cX11_within 24 = .ok (.invokevirtual 227, 3) := by decide +kernel
theorem dX11_within_27 : decode cX11_within 27 = .ok (.aload_n 0, 1) := by decide +kernel
theorem dX11_within_28 : decode cX11_within 28 = .ok (.getfield 42, 3) := by decide +kernel
theorem dX11_within_31 : decode cX11_within 31 = .ok (.iload_n 2, 1) := by decide +kernel
theorem dX11_within_32 : decode cX11_within 32 = .ok (.invokevirtual 272, 3) := by decide +kernel
theorem dX11_within_35 : decode cX11_within 35 = .ok (.aload_n 0, 1) := by decide +kernel
theorem dX11_within_36 : decode cX11_within 36 = .ok (.getfield 42, 3) := by decide +kernel
theorem dX11_within_39 : decode cX11_within 39 = .ok (.iload_n 1, 1) := by decide +kernel
theorem dX11_within_40 : decode cX11_within 40 = .ok (.aload_n 0, 1) := by decide +kernel
theorem dX11_within_41 : decode cX11_within 41 = .ok (.getfield 24, 3) := by decide +kernel
theorem dX11_within_44 : decode cX11_within 44 = .ok (.getfield 148, 3) := by decide +kernel
theorem dX11_within_47 : decode cX11_within 47 = .ok (.iload_n 1, 1) := by decide +kernel
theorem dX11_within_48 : decode cX11_within 48 = .ok (.aaload, 1) := by decide +kernel
theorem dX11_within_49 : decode cX11_within 49 = .ok (.getfield 169, 3) := by decide +kernel
theorem dX11_within_52 : decode cX11_within 52 = .ok (.invokevirtual 276, 3) := by decide +kernel
theorem dX11_within_55 : decode cX11_within 55 = .ok (.ireturn, 1) := by decide +kernel
theorem dX11_result_0 : decode cX11_result 0 = .ok (.iload_n 1, 1) := by decide +kernel
theorem dX11_result_1 : decode cX11_result 1 = .ok (.invokestatic 254, 3) := by decide +kernel
theorem dX11_result_4 : decode cX11_result 4 = .ok (.ifCond .ne 5, 3) := by decide +kernel
theorem dX11_result_7 : decode cX11_result 7 = .ok (.iconst (-1), 1) := by decide +kernel
theorem dX11_result_8 : decode cX11_result 8 = .ok (.ireturn, 1) := by decide +kernel
theorem dX11_result_9 : decode cX11_result 9 = .ok (.aload_n 0, 1) := by decide +kernel
theorem dX11_result_10 : decode cX11_result 10 = .ok (.getfield 24, 3) := by decide +kernel
theorem dX11_result_13 : decode cX11_result 13 = .ok (.invokevirtual 227, 3) := by decide +kernel
theorem dX11_result_16 : decode cX11_result 16 = .ok (.aload_n 0, 1) := by decide +kernel
theorem dX11_result_17 : decode cX11_result 17 = .ok (.getfield 42, 3) := by decide +kernel
theorem dX11_result_20 : decode cX11_result 20 = .ok (.iload_n 1, 1) := by decide +kernel
theorem dX11_result_21 : decode cX11_result 21 = .ok (.invokevirtual 272, 3) := by decide +kernel
theorem dX11_result_24 : decode cX11_result 24 = .ok (.iconst 0, 1) := by decide +kernel
theorem dX11_result_25 : decode cX11_result 25 = .ok (.istore_n 2, 1) := by decide +kernel
theorem dX11_result_26 : decode cX11_result 26 = .ok (.iconst 0, 1) := by decide +kernel
theorem dX11_result_27 : decode cX11_result 27 = .ok (.istore_n 3, 1) := by decide +kernel
theorem dX11_result_28 : decode cX11_result 28 = .ok (.iload_n 3, 1) := by decide +kernel
theorem dX11_result_29 : decode cX11_result 29 = .ok (.aload_n 0, 1) := by decide +kernel
theorem dX11_result_30 : decode cX11_result 30 = .ok (.getfield 24, 3) := by decide +kernel
theorem dX11_result_33 : decode cX11_result 33 = .ok (.getfield 80, 3) := by decide +kernel
theorem dX11_result_36 : decode cX11_result 36 = .ok (.if_icmp .ge 47, 3) := by decide +kernel
theorem dX11_result_39 : decode cX11_result 39 = .ok (.iload_n 3, 1) := by decide +kernel
theorem dX11_result_40 : decode cX11_result 40 = .ok (.bipush 6, 2) := by decide +kernel
theorem dX11_result_42 : decode cX11_result 42 = .ok (.if_icmp .ge 41, 3) := by decide +kernel
theorem dX11_result_45 : decode cX11_result 45 = .ok (.aload_n 0, 1) := by decide +kernel
theorem dX11_result_46 : decode cX11_result 46 = .ok (.getfield 42, 3) := by decide +kernel
theorem dX11_result_49 : decode cX11_result 49 = .ok (.iload_n 3, 1) := by decide +kernel
theorem dX11_result_50 : decode cX11_result 50 = .ok (.iconst (-1), 1) := by decide +kernel
theorem dX11_result_51 : decode cX11_result 51 = .ok (.invokevirtual 276, 3) := by decide +kernel
theorem dX11_result_54 : decode cX11_result 54 = .ok (.istore 4, 2) := by decide +kernel
theorem dX11_result_56 : decode cX11_result 56 = .ok (.iload 4, 2) := by decide +kernel
theorem dX11_result_58 : decode cX11_result 58 = .ok (.bipush 6, 2) := by decide +kernel
theorem dX11_result_60 : decode cX11_result 60 = .ok (.invokestatic 115, 3) := by decide +kernel
theorem dX11_result_63 : decode cX11_result 63 = .ok (.ifCond .eq 14, 3) := by decide +kernel
theorem dX11_result_66 : decode cX11_result 66 = .ok (.aload_n 0, 1) := by decide +kernel
theorem dX11_result_67 : decode cX11_result 67 = .ok (.getfield 66, 3) := by decide +kernel
theorem dX11_result_70 : decode cX11_result 70 = .ok (.iload 4, 2) := by decide +kernel
theorem dX11_result_72 : decode cX11_result 72 = .ok (.iload_n 3, 1) := by decide +kernel
theorem dX11_result_73 : decode cX11_result 73 = .ok (.iastore, 1) := by decide +kernel
theorem dX11_result_74 : decode cX11_result 74 = .ok (.iinc 2 1, 3) := by decide +kernel
theorem dX11_result_77 : decode cX11_result 77 = .ok (.iinc 3 1, 3) := by decide +kernel
theorem dX11_result_80 : decode cX11_result 80 = .ok (.goto (-52), 3) := by decide +kernel
theorem dX11_result_83 : decode cX11_result 83 = .ok (.aload_n 0, 1) := by decide +kernel
theorem dX11_result_84 : decode cX11_result 84 = .ok (.iload_n 2, 1) := by decide +kernel
theorem dX11_result_85 : decode cX11_result 85 = .ok (.putfield 215, 3) := by decide +kernel
theorem dX11_result_88 : decode cX11_result 88 = .ok (.iload_n 2, 1) := by decide +kernel
theorem dX11_result_89 : decode cX11_result 89 = .ok (.ireturn, 1) := by decide +kernel
theorem dX11_move_0 : decode cX11_move 0 = .ok (.aload_n 0, 1) := by decide +kernel
theorem dX11_move_1 : decode cX11_move 1 = .ok (.getfield 24, 3) := by decide +kernel
theorem dX11_move_4 : decode cX11_move 4 = .ok (.iload_n 1, 1) := by decide +kernel
theorem dX11_move_5 : decode cX11_move 5 = .ok (.invokevirtual 175, 3) := by decide +kernel
theorem dX11_move_8 : decode cX11_move 8 = .ok (.ifCond .eq 25, 3) := by decide +kernel
theorem dX11_move_11 : decode cX11_move 11 = .ok (.iload_n 2, 1) := by decide +kernel
theorem dX11_move_12 : decode cX11_move 12 = .ok (.aload_n 0, 1) := by decide +kernel
theorem dX11_move_13 : decode cX11_move 13 = .ok (.getfield 24, 3) := by decide +kernel
theorem dX11_move_16 : decode cX11_move 16 = .ok (.getfield 148, 3) := by decide +kernel
theorem dX11_move_19 : decode cX11_move 19 = .ok (.iload_n 1, 1) := by decide +kernel
theorem dX11_move_20 : decode cX11_move 20 = .ok (.aaload, 1) := by decide +kernel
theorem dX11_move_21 : decode cX11_move 21 = .ok (.getfield 191, 3) := by decide +kernel
theorem dX11_move_24 : decode cX11_move 24 = .ok (.getfield 95, 3) := by decide +kernel
theorem dX11_move_27 : decode cX11_move 27 = .ok (.invokestatic 115, 3) := by decide +kernel
theorem dX11_move_30 : decode cX11_move 30 = .ok (.ifCond .ne 5, 3) := by decide +kernel
theorem dX11_move_33 : decode cX11_move 33 = .ok (.iconst (-1), 1) := by decide +kernel
theorem dX11_move_34 : decode cX11_move 34 = .ok (.ireturn, 1) := by decide +kernel
theorem dX11_move_35 : decode cX11_move 35 = .ok (.iload_n 3, 1) := by decide +kernel
theorem dX11_move_36 : decode cX11_move 36 = .ok (.iconst 0, 1) := by decide +kernel
theorem dX11_move_37 : decode cX11_move 37 = .ok (.aload_n 0, 1) := by decide +kernel
theorem dX11_move_38 : decode cX11_move 38 = .ok (.getfield 15, 3) := by decide +kernel
theorem dX11_move_41 : decode cX11_move 41 = .ok (.getfield 185, 3) := by decide +kernel
theorem dX11_move_44 : decode cX11_move 44 = .ok (.iconst 2, 1) := by decide +kernel
theorem dX11_move_45 : decode cX11_move 45 = .ok (.isub, 1) := by decide +kernel
theorem dX11_move_46 : decode cX11_move 46 = .ok (.invokestatic 105, 3) := by decide +kernel
theorem dX11_move_49 : decode cX11_move 49 = .ok (.ifCond .eq 11, 3) := by decide +kernel
theorem dX11_move_52 : decode cX11_move 52 = .ok (.iload 4, 2) := by decide +kernel
theorem dX11_move_54 : decode cX11_move 54 = .ok (.invokestatic 254, 3) := by decide +kernel
theorem dX11_move_57 : decode cX11_move 57 = .ok (.ifCond .ne 5, 3) := by decide +kernel
theorem dX11_move_60 : decode cX11_move 60 = .ok (.iconst (-1), 1) := by decide +kernel
theorem dX11_move_61 : decode cX11_move 61 = .ok (.ireturn, 1) := by decide +kernel
theorem dX11_move_62 : decode cX11_move 62 = .ok (.aload_n 0, 1) := by decide +kernel
theorem dX11_move_63 : decode cX11_move 63 = .ok (.getfield 24, 3) := by decide +kernel
theorem dX11_move_66 : decode cX11_move 66 = .ok (.getfield 148, 3) := by decide +kernel
theorem dX11_move_69 : decode cX11_move 69 = .ok (.iload_n 1, 1) := by decide +kernel
theorem dX11_move_70 : decode cX11_move 70 = .ok (.aaload, 1) := by decide +kernel
theorem dX11_move_71 : decode cX11_move 71 = .ok (.getfield 191, 3) := by decide +kernel
theorem dX11_move_74 : decode cX11_move 74 = .ok (.astore 5, 2) := by decide +kernel
theorem dX11_move_76 : decode cX11_move 76 = .ok (.aload 5, 2) := by decide +kernel
theorem dX11_move_78 : decode cX11_move 78 = .ok (.iload_n 2, 1) := by decide +kernel
theorem dX11_move_79 : decode cX11_move 79 = .ok (.iconst 0, 1) := by decide +kernel
theorem dX11_move_80 : decode cX11_move 80 = .ok (.invokevirtual 286, 3) := by decide +kernel
theorem dX11_move_83 : decode cX11_move 83 = .ok (.istore 6, 2) := by decide +kernel
theorem dX11_move_85 : decode cX11_move 85 = .ok (.aload 5, 2) := by decide +kernel
theorem dX11_move_87 : decode cX11_move 87 = .ok (.iload_n 2, 1) := by decide +kernel
theorem dX11_move_88 : decode cX11_move 88 = .ok (.iconst 0, 1) := by decide +kernel
theorem dX11_move_89 : decode cX11_move 89 = .ok (.iload_n 3, 1) := by decide +kernel
theorem dX11_move_90 : decode cX11_move 90 = .ok (.invokevirtual 289, 3) := by decide +kernel
theorem dX11_move_93 : decode cX11_move 93 = .ok (.aload_n 0, 1) := by decide +kernel
theorem dX11_move_94 : decode cX11_move 94 = .ok (.getfield 24, 3) := by decide +kernel
theorem dX11_move_97 : decode cX11_move 97 = .ok (.invokevirtual 293, 3) := by decide +kernel
theorem dX11_move_100 : decode cX11_move 100 = .ok (.aload_n 0, 1) := by decide +kernel
theorem dX11_move_101 : decode cX11_move 101 = .ok (.getfield 42, 3) := by decide +kernel
theorem dX11_move_104 : decode cX11_move 104 = .ok (.iload 4, 2) := by decide +kernel
theorem dX11_move_106 : decode cX11_move 106 = .ok (.invokevirtual 272, 3) := by decide +kernel
theorem dX11_move_109 : decode cX11_move 109 = .ok (.aload 5, 2) := by decide +kernel
theorem dX11_move_111 : decode cX11_move 111 = .ok (.iload_n 2, 1) := by decide +kernel
theorem dX11_move_112 : decode cX11_move 112 = .ok (.iconst 0, 1) := by decide +kernel
theorem dX11_move_113 : decode cX11_move 113 = .ok (.iload 6, 2) := by decide +kernel
theorem dX11_move_115 : decode cX11_move 115 = .ok (.invokevirtual 289, 3) := by decide +kernel
theorem dX11_move_118 : decode cX11_move 118 = .ok (.aload_n 0, 1) := by decide +kernel
theorem dX11_move_119 : decode cX11_move 119 = .ok (.getfield 42, 3) := by decide +kernel
theorem dX11_move_122 : decode cX11_move 122 = .ok (.iload_n 1, 1) := by decide +kernel
theorem dX11_move_123 : decode cX11_move 123 = .ok (.iconst (-1), 1) := by decide +kernel
theorem dX11_move_124 : decode cX11_move 124 = .ok (.invokevirtual 276, 3) := by decide +kernel
theorem dX11_move_127 : decode cX11_move 127 = .ok (.istore 7, 2) := by decide +kernel
theorem dX11_move_129 : decode cX11_move 129 = .ok (.iload 7, 2) := by decide +kernel
theorem dX11_move_131 : decode cX11_move 131 = .ok (.iconst (-1), 1) := by decide +kernel
theorem dX11_move_132 : decode cX11_move 132 = .ok (.if_icmp .ne 8, 3) := by decide +kernel
theorem dX11_move_135 : decode cX11_move 135 = .ok (.bipush (-2), 2) := by decide +kernel
theorem dX11_move_137 : decode cX11_move 137 = .ok (.goto 5, 3) := by decide +kernel
theorem dX11_move_140 : decode cX11_move 140 = .ok (.iload 7, 2) := by decide +kernel
theorem dX11_move_142 : decode cX11_move 142 = .ok (.ireturn, 1) := by decide +kernel
theorem dX11_best_0 : decode cX11_best 0 = .ok (.aload_n 0, 1) := by decide +kernel
theorem dX11_best_1 : decode cX11_best 1 = .ok (.getfield 24, 3) := by decide +kernel
theorem dX11_best_4 : decode cX11_best 4 = .ok (.iload_n 1, 1) := by decide +kernel
theorem dX11_best_5 : decode cX11_best 5 = .ok (.invokevirtual 175, 3) := by decide +kernel
theorem dX11_best_8 : decode cX11_best 8 = .ok (.ifCond .eq 19, 3) := by decide +kernel
theorem dX11_best_11 : decode cX11_best 11 = .ok (.iload_n 2, 1) := by decide +kernel
theorem dX11_best_12 : decode cX11_best 12 = .ok (.iconst 0, 1) := by decide +kernel
theorem dX11_best_13 : decode cX11_best 13 = .ok (.iconst 2, 1) := by decide +kernel
theorem dX11_best_14 : decode cX11_best 14 = .ok (.invokestatic 105, 3) := by decide +kernel
theorem dX11_best_17 : decode cX11_best 17 = .ok (.ifCond .eq 10, 3) := by decide +kernel
theorem dX11_best_20 : decode cX11_best 20 = .ok (.iload_n 3, 1) := by decide +kernel
theorem dX11_best_21 : decode cX11_best 21 = .ok (.invokestatic 254, 3) := by decide +kernel
theorem dX11_best_24 : decode cX11_best 24 = .ok (.ifCond .ne 5, 3) := by decide +kernel
theorem dX11_best_27 : decode cX11_best 27 = .ok (.iconst (-1), 1) := by decide +kernel
theorem dX11_best_28 : decode cX11_best 28 = .ok (.ireturn, 1) := by decide +kernel
theorem dX11_best_29 : decode cX11_best 29 = .ok (.aload_n 0, 1) := by decide +kernel
theorem dX11_best_30 : decode cX11_best 30 = .ok (.getfield 51, 3) := by decide +kernel
theorem dX11_best_33 : decode cX11_best 33 = .ok (.iload_n 1, 1) := by decide +kernel
theorem dX11_best_34 : decode cX11_best 34 = .ok (.iload_n 2, 1) := by decide +kernel
theorem dX11_best_35 : decode cX11_best 35 = .ok (.iload_n 3, 1) := by decide +kernel
theorem dX11_best_36 : decode cX11_best 36 = .ok (.invokevirtual 296, 3) := by decide +kernel
theorem dX11_best_39 : decode cX11_best 39 = .ok (.ifCond .ne 5, 3) := by decide +kernel
theorem dX11_best_42 : decode cX11_best 42 = .ok (.iconst (-1), 1) := by decide +kernel
theorem dX11_best_43 : decode cX11_best 43 = .ok (.ireturn, 1) := by decide +kernel
theorem dX11_best_44 : decode cX11_best 44 = .ok (.iconst 0, 1) := by decide +kernel
theorem dX11_best_45 : decode cX11_best 45 = .ok (.istore 4, 2) := by decide +kernel
theorem dX11_best_47 : decode cX11_best 47 = .ok (.iload 4, 2) := by decide +kernel
theorem dX11_best_49 : decode cX11_best 49 = .ok (.iconst 2, 1) := by decide +kernel
theorem dX11_best_50 : decode cX11_best 50 = .ok (.iload_n 2, 1) := by decide +kernel
theorem dX11_best_51 : decode cX11_best 51 = .ok (.imul, 1) := by decide +kernel
theorem dX11_best_52 : decode cX11_best 52 = .ok (.if_icmp .ge 33, 3) := by decide +kernel
theorem dX11_best_55 : decode cX11_best 55 = .ok (.iload 4, 2) := by decide +kernel
theorem dX11_best_57 : decode cX11_best 57 = .ok (.bipush 6, 2) := by decide +kernel
theorem dX11_best_59 : decode cX11_best 59 = .ok (.if_icmp .ge 26, 3) := by decide +kernel
theorem dX11_best_62 : decode cX11_best 62 = .ok (.aload_n 0, 1) := by decide +kernel
theorem dX11_best_63 : decode cX11_best 63 = .ok (.getfield 66, 3) := by decide +kernel
theorem dX11_best_66 : decode cX11_best 66 = .ok (.iload 4, 2) := by decide +kernel
theorem dX11_best_68 : decode cX11_best 68 = .ok (.aload_n 0, 1) := by decide +kernel
theorem dX11_best_69 : decode cX11_best 69 = .ok (.getfield 51, 3) := by decide +kernel
theorem dX11_best_72 : decode cX11_best 72 = .ok (.getfield 299, 3) := by decide +kernel
theorem dX11_best_75 : decode cX11_best 75 = .ok (.iload 4, 2) := by decide +kernel
theorem dX11_best_77 : decode cX11_best 77 = .ok (.iaload, 1) := by decide +kernel
theorem dX11_best_78 : decode cX11_best 78 = .ok (.iastore, 1) := by decide +kernel
theorem dX11_best_79 : decode cX11_best 79 = .ok (.iinc 4 1, 3) := by decide +kernel
theorem dX11_best_82 : decode cX11_best 82 = .ok (.goto (-35), 3) := by decide +kernel
theorem dX11_best_85 : decode cX11_best 85 = .ok (.aload_n 0, 1) := by decide +kernel
theorem dX11_best_86 : decode cX11_best 86 = .ok (.iconst 2, 1) := by decide +kernel
theorem dX11_best_87 : decode cX11_best 87 = .ok (.iload_n 2, 1) := by decide +kernel
theorem dX11_best_88 : decode cX11_best 88 = .ok (.imul, 1) := by decide +kernel
theorem dX11_best_89 : decode cX11_best 89 = .ok (.putfield 215, 3) := by decide +kernel
theorem dX11_best_92 : decode cX11_best 92 = .ok (.aload_n 0, 1) := by decide +kernel
theorem dX11_best_93 : decode cX11_best 93 = .ok (.getfield 51, 3) := by decide +kernel
theorem dX11_best_96 : decode cX11_best 96 = .ok (.getfield 302, 3) := by decide +kernel
theorem dX11_best_99 : decode cX11_best 99 = .ok (.bipush 99, 2) := by decide +kernel
theorem dX11_best_101 : decode cX11_best 101 = .ok (.if_icmp .ne 8, 3) := by decide +kernel
theorem dX11_best_104 : decode cX11_best 104 = .ok (.bipush (-2), 2) := by decide +kernel
theorem dX11_best_106 : decode cX11_best 106 = .ok (.goto 10, 3) := by decide +kernel
theorem dX11_best_109 : decode cX11_best 109 = .ok (.aload_n 0, 1) := by decide +kernel
theorem dX11_best_110 : decode cX11_best 110 = .ok (.getfield 51, 3) := by decide +kernel
theorem dX11_best_113 : decode cX11_best 113 = .ok (.getfield 302, 3) := by decide +kernel
theorem dX11_best_116 : decode cX11_best 116 = .ok (.ireturn, 1) := by decide +kernel
theorem dX11_gain_0 : decode cX11_gain 0 = .ok (.aload_n 0, 1) := by decide +kernel
theorem dX11_gain_1 : decode cX11_gain 1 = .ok (.getfield 24, 3) := by decide +kernel
theorem dX11_gain_4 : decode cX11_gain 4 = .ok (.iload_n 1, 1) := by decide +kernel
theorem dX11_gain_5 : decode cX11_gain 5 = .ok (.invokevirtual 175, 3) := by decide +kernel
theorem dX11_gain_8 : decode cX11_gain 8 = .ok (.ifCond .eq 19, 3) := by decide +kernel
theorem dX11_gain_11 : decode cX11_gain 11 = .ok (.iload_n 2, 1) := by decide +kernel
theorem dX11_gain_12 : decode cX11_gain 12 = .ok (.iconst 0, 1) := by decide +kernel
theorem dX11_gain_13 : decode cX11_gain 13 = .ok (.iconst 2, 1) := by decide +kernel
theorem dX11_gain_14 : decode cX11_gain 14 = .ok (.invokestatic 105, 3) := by decide +kernel
theorem dX11_gain_17 : decode cX11_gain 17 = .ok (.ifCond .eq 10, 3) := by decide +kernel
theorem dX11_gain_20 : decode cX11_gain 20 = .ok (.iload_n 3, 1) := by decide +kernel
theorem dX11_gain_21 : decode cX11_gain 21 = .ok (.invokestatic 254, 3) := by decide +kernel
theorem dX11_gain_24 : decode cX11_gain 24 = .ok (.ifCond .ne 5, 3) := by decide +kernel
theorem dX11_gain_27 : decode cX11_gain 27 = .ok (.iconst (-1), 1) := by decide +kernel
theorem dX11_gain_28 : decode cX11_gain 28 = .ok (.ireturn, 1) := by decide +kernel
theorem dX11_gain_29 : decode cX11_gain 29 = .ok (.aload_n 0, 1) := by decide +kernel
theorem dX11_gain_30 : decode cX11_gain 30 = .ok (.getfield 24, 3) := by decide +kernel
theorem dX11_gain_33 : decode cX11_gain 33 = .ok (.invokevirtual 227, 3) := by decide +kernel
theorem dX11_gain_36 : decode cX11_gain 36 = .ok (.aload_n 0, 1) := by decide +kernel
theorem dX11_gain_37 : decode cX11_gain 37 = .ok (.getfield 42, 3) := by decide +kernel
theorem dX11_gain_40 : decode cX11_gain 40 = .ok (.iload_n 3, 1) := by decide +kernel
theorem dX11_gain_41 : decode cX11_gain 41 = .ok (.invokevirtual 272, 3) := by decide +kernel
theorem dX11_gain_44 : decode cX11_gain 44 = .ok (.aload_n 0, 1) := by decide +kernel
theorem dX11_gain_45 : decode cX11_gain 45 = .ok (.getfield 42, 3) := by decide +kernel
theorem dX11_gain_48 : decode cX11_gain 48 = .ok (.iload_n 1, 1) := by decide +kernel
theorem dX11_gain_49 : decode cX11_gain 49 = .ok (.iconst (-1), 1) := by decide +kernel
theorem dX11_gain_50 : decode cX11_gain 50 = .ok (.invokevirtual 276, 3) := by decide +kernel
theorem dX11_gain_53 : decode cX11_gain 53 = .ok (.istore 4, 2) := by decide +kernel
theorem dX11_gain_55 : decode cX11_gain 55 = .ok (.aload_n 0, 1) := by decide +kernel
theorem dX11_gain_56 : decode cX11_gain 56 = .ok (.getfield 51, 3) := by decide +kernel
theorem dX11_gain_59 : decode cX11_gain 59 = .ok (.iload_n 1, 1) := by decide +kernel
theorem dX11_gain_60 : decode cX11_gain 60 = .ok (.iload_n 2, 1) := by decide +kernel
theorem dX11_gain_61 : decode cX11_gain 61 = .ok (.iload_n 3, 1) := by decide +kernel
theorem dX11_gain_62 : decode cX11_gain 62 = .ok (.invokevirtual 296, 3) := by decide +kernel
theorem dX11_gain_65 : decode cX11_gain 65 = .ok (.ifCond .ne 5, 3) := by decide +kernel
theorem dX11_gain_68 : decode cX11_gain 68 = .ok (.iconst (-1), 1) := by decide +kernel
theorem dX11_gain_69 : decode cX11_gain 69 = .ok (.ireturn, 1) := by decide +kernel
theorem dX11_gain_70 : decode cX11_gain 70 = .ok (.iload 4, 2) := by decide +kernel
theorem dX11_gain_72 : decode cX11_gain 72 = .ok (.iconst (-1), 1) := by decide +kernel
theorem dX11_gain_73 : decode cX11_gain 73 = .ok (.if_icmp .ne 13, 3) := by decide +kernel
theorem dX11_gain_76 : decode cX11_gain 76 = .ok (.aload_n 0, 1) := by decide +kernel
theorem dX11_gain_77 : decode cX11_gain 77 = .ok (.getfield 24, 3) := by decide +kernel
theorem dX11_gain_80 : decode cX11_gain 80 = .ok (.getfield 80, 3) := by decide +kernel
theorem dX11_gain_83 : decode cX11_gain 83 = .ok (.goto 5, 3) := by decide +kernel
theorem dX11_gain_86 : decode cX11_gain 86 = .ok (.iload 4, 2) := by decide +kernel
theorem dX11_gain_88 : decode cX11_gain 88 = .ok (.istore 5, 2) := by decide +kernel
theorem dX11_gain_90 : decode cX11_gain 90 = .ok (.aload_n 0, 1) := by decide +kernel
theorem dX11_gain_91 : decode cX11_gain 91 = .ok (.getfield 51, 3) := by decide +kernel
theorem dX11_gain_94 : decode cX11_gain 94 = .ok (.getfield 302, 3) := by decide +kernel
theorem dX11_gain_97 : decode cX11_gain 97 = .ok (.aload_n 0, 1) := by decide +kernel
theorem dX11_gain_98 : decode cX11_gain 98 = .ok (.getfield 24, 3) := by decide +kernel
theorem dX11_gain_101 : decode cX11_gain 101 = .ok (.getfield 80, 3) := by decide +kernel
theorem dX11_gain_104 : decode cX11_gain 104 = .ok (.invokestatic 305, 3) := by decide +kernel
theorem dX11_gain_107 : decode cX11_gain 107 = .ok (.istore 6, 2) := by decide +kernel
theorem dX11_gain_109 : decode cX11_gain 109 = .ok (.iconst 0, 1) := by decide +kernel
theorem dX11_gain_110 : decode cX11_gain 110 = .ok (.iload 5, 2) := by decide +kernel
theorem dX11_gain_112 : decode cX11_gain 112 = .ok (.iload 6, 2) := by decide +kernel
theorem dX11_gain_114 : decode cX11_gain 114 = .ok (.isub, 1) := by decide +kernel
theorem dX11_gain_115 : decode cX11_gain 115 = .ok (.invokestatic 310, 3) := by decide +kernel
theorem dX11_gain_118 : decode cX11_gain 118 = .ok (.ireturn, 1) := by decide +kernel
theorem dX11_option_0 : decode cX11_option 0 = .ok (.aload_n 0, 1) := by decide +kernel
theorem dX11_option_1 : decode cX11_option 1 = .ok (.getfield 24, 3) := by decide +kernel
theorem dX11_option_4 : decode cX11_option 4 = .ok (.iload_n 1, 1) := by decide +kernel
theorem dX11_option_5 : decode cX11_option 5 = .ok (.invokevirtual 175, 3) := by decide +kernel
theorem dX11_option_8 : decode cX11_option 8 = .ok (.ifCond .eq 29, 3) := by decide +kernel
theorem dX11_option_11 : decode cX11_option 11 = .ok (.iload_n 2, 1) := by decide +kernel
theorem dX11_option_12 : decode cX11_option 12 = .ok (.iconst (-1), 1) := by decide +kernel
theorem dX11_option_13 : decode cX11_option 13 = .ok (.aload_n 0, 1) := by decide +kernel
theorem dX11_option_14 : decode cX11_option 14 = .ok (.getfield 15, 3) := by decide +kernel
theorem dX11_option_17 : decode cX11_option 17 = .ok (.getfield 185, 3) := by decide +kernel
theorem dX11_option_20 : decode cX11_option 20 = .ok (.iconst 2, 1) := by decide +kernel
theorem dX11_option_21 : decode cX11_option 21 = .ok (.isub, 1) := by decide +kernel
theorem dX11_option_22 : decode cX11_option 22 = .ok (.invokestatic 105, 3) := by decide +kernel
theorem dX11_option_25 : decode cX11_option 25 = .ok (.ifCond .eq 12, 3) := by decide +kernel
theorem dX11_option_28 : decode cX11_option 28 = .ok (.iload_n 3, 1) := by decide +kernel
theorem dX11_option_29 : decode cX11_option 29 = .ok (.iconst (-1), 1) := by decide +kernel
theorem dX11_option_30 : decode cX11_option 30 = .ok (.iconst 3, 1) := by decide +kernel
theorem dX11_option_31 : decode cX11_option 31 = .ok (.invokestatic 105, 3) := by decide +kernel
theorem dX11_option_34 : decode cX11_option 34 = .ok (.ifCond .ne 5, 3) := by decide +kernel
theorem dX11_option_37 : decode cX11_option 37 = .ok (.iconst (-1), 1) := by decide +kernel
theorem dX11_option_38 : decode cX11_option 38 = .ok (.ireturn, 1) := by decide +kernel
theorem dX11_option_39 : decode cX11_option 39 = .ok (.aload_n 0, 1) := by decide +kernel
theorem dX11_option_40 : decode cX11_option 40 = .ok (.getfield 24, 3) := by decide +kernel
theorem dX11_option_43 : decode cX11_option 43 = .ok (.getfield 148, 3) := by decide +kernel
theorem dX11_option_46 : decode cX11_option 46 = .ok (.iload_n 1, 1) := by decide +kernel
theorem dX11_option_47 : decode cX11_option 47 = .ok (.aaload, 1) := by decide +kernel
theorem dX11_option_48 : decode cX11_option 48 = .ok (.getfield 313, 3) := by decide +kernel
theorem dX11_option_51 : decode cX11_option 51 = .ok (.iload_n 2, 1) := by decide +kernel
theorem dX11_option_52 : decode cX11_option 52 = .ok (.iload_n 3, 1) := by decide +kernel
theorem dX11_option_53 : decode cX11_option 53 = .ok (.iconst 0, 1) := by decide +kernel
theorem dX11_option_54 : decode cX11_option 54 = .ok (.iconst 0, 1) := by decide +kernel
theorem dX11_option_55 : decode cX11_option 55 = .ok (.invokevirtual 141, 3) := by decide +kernel
theorem dX11_option_58 : decode cX11_option 58 = .ok (.ireturn, 1) := by decide +kernel
theorem dX11_clear_0 : decode cX11_clear 0 = .ok (.aload_n 0, 1) := by decide +kernel
theorem dX11_clear_1 : decode cX11_clear 1 = .ok (.getfield 24, 3) := by decide +kernel
theorem dX11_clear_4 : decode cX11_clear 4 = .ok (.invokevirtual 221, 3) := by decide +kernel
theorem dX11_clear_7 : decode cX11_clear 7 = .ok (.istore_n 1, 1) := by decide +kernel
theorem dX11_clear_8 : decode cX11_clear 8 = .ok (.iconst 0, 1) := by decide +kernel
theorem dX11_clear_9 : decode cX11_clear 9 = .ok (.istore_n 2, 1) := by decide +kernel
theorem dX11_clear_10 : decode cX11_clear 10 = .ok (.iload_n 2, 1) := by decide +kernel
theorem dX11_clear_11 : decode cX11_clear 11 = .ok (.aload_n 0, 1) := by decide +kernel
theorem dX11_clear_12 : decode cX11_clear 12 = .ok (.getfield 24, 3) := by decide +kernel
theorem dX11_clear_15 : decode cX11_clear 15 = .ok (.getfield 80, 3) := by decide +kernel
theorem dX11_clear_18 : decode cX11_clear 18 = .ok (.if_icmp .ge 31, 3) := by decide +kernel
theorem dX11_clear_21 : decode cX11_clear 21 = .ok (.iload_n 2, 1) := by decide +kernel
theorem dX11_clear_22 : decode cX11_clear 22 = .ok (.bipush 6, 2) := by decide +kernel
theorem dX11_clear_24 : decode cX11_clear 24 = .ok (.if_icmp .ge 25, 3) := by decide +kernel
theorem dX11_clear_27 : decode cX11_clear 27 = .ok (.aload_n 0, 1) := by decide +kernel
theorem dX11_clear_28 : decode cX11_clear 28 = .ok (.getfield 24, 3) := by decide +kernel
theorem dX11_clear_31 : decode cX11_clear 31 = .ok (.getfield 148, 3) := by decide +kernel
theorem dX11_clear_34 : decode cX11_clear 34 = .ok (.iload_n 2, 1) := by decide +kernel
theorem dX11_clear_35 : decode cX11_clear 35 = .ok (.aaload, 1) := by decide +kernel
theorem dX11_clear_36 : decode cX11_clear 36 = .ok (.getfield 313, 3) := by decide +kernel
theorem dX11_clear_39 : decode cX11_clear 39 = .ok (.iconst 0, 1) := by decide +kernel
theorem dX11_clear_40 : decode cX11_clear 40 = .ok (.putfield 95, 3) := by decide +kernel
theorem dX11_clear_43 : decode cX11_clear 43 = .ok (.iinc 2 1, 3) := by decide +kernel
theorem dX11_clear_46 : decode cX11_clear 46 = .ok (.goto (-36), 3) := by decide +kernel
theorem dX11_clear_49 : decode cX11_clear 49 = .ok (.iload_n 1, 1) := by decide +kernel
theorem dX11_clear_50 : decode cX11_clear 50 = .ok (.ireturn, 1) := by decide +kernel
theorem dX11_settle_0 : decode cX11_settle 0 = .ok (.aload_n 0, 1) := by decide +kernel
theorem dX11_settle_1 : decode cX11_settle 1 = .ok (.getfield 24, 3) := by decide +kernel
theorem dX11_settle_4 : decode cX11_settle 4 = .ok (.iload_n 1, 1) := by decide +kernel
theorem dX11_settle_5 : decode cX11_settle 5 = .ok (.invokevirtual 175, 3) := by decide +kernel
theorem dX11_settle_8 : decode cX11_settle 8 = .ok (.ifCond .eq 26, 3) := by decide +kernel
theorem dX11_settle_11 : decode cX11_settle 11 = .ok (.aload_n 0, 1) := by decide +kernel
theorem dX11_settle_12 : decode cX11_settle 12 = .ok (.getfield 24, 3) := by decide +kernel
theorem dX11_settle_15 : decode cX11_settle 15 = .ok (.iload_n 2, 1) := by decide +kernel
theorem dX11_settle_16 : decode cX11_settle 16 = .ok (.invokevirtual 175, 3) := by decide +kernel
theorem dX11_settle_19 : decode cX11_settle 19 = .ok (.ifCond .eq 15, 3) := by decide +kernel
theorem dX11_settle_22 : decode cX11_settle 22 = .ok (.iload_n 1, 1) := by decide +kernel
theorem dX11_settle_23 : decode cX11_settle 23 = .ok (.iload_n 2, 1) := by decide +kernel
theorem dX11_settle_24 : decode cX11_settle 24 = .ok (.if_icmp .eq 10, 3) := by decide +kernel
theorem dX11_settle_27 : decode cX11_settle 27 = .ok (.iload_n 3, 1) := by decide +kernel
theorem dX11_settle_28 : decode cX11_settle 28 = .ok (.invokestatic 254, 3) := by decide +kernel
theorem dX11_settle_31 : decode cX11_settle 31 = .ok (.ifCond .ne 5, 3) := by decide +kernel
theorem dX11_settle_34 : decode cX11_settle 34 = .ok (.iconst (-1), 1) := by decide +kernel
theorem dX11_settle_35 : decode cX11_settle 35 = .ok (.ireturn, 1) := by decide +kernel
theorem dX11_settle_36 : decode cX11_settle 36 = .ok (.aload_n 0, 1) := by decide +kernel
theorem dX11_settle_37 : decode cX11_settle 37 = .ok (.getfield 24, 3) := by decide +kernel
theorem dX11_settle_40 : decode cX11_settle 40 = .ok (.getfield 148, 3) := by decide +kernel
theorem dX11_settle_43 : decode cX11_settle 43 = .ok (.iload_n 1, 1) := by decide +kernel
theorem dX11_settle_44 : decode cX11_settle 44 = .ok (.aaload, 1) := by decide +kernel
theorem dX11_settle_45 : decode cX11_settle 45 = .ok (.getfield 313, 3) := by decide +kernel
theorem dX11_settle_48 : decode cX11_settle 48 = .ok (.getfield 95, 3) := by decide +kernel
theorem dX11_settle_51 : decode cX11_settle 51 = .ok (.ifCond .eq 21, 3) := by decide +kernel
theorem dX11_settle_54 : decode cX11_settle 54 = .ok (.aload_n 0, 1) := by decide +kernel
theorem dX11_settle_55 : decode cX11_settle 55 = .ok (.getfield 24, 3) := by decide +kernel
theorem dX11_settle_58 : decode cX11_settle 58 = .ok (.getfield 148, 3) := by decide +kernel
theorem dX11_settle_61 : decode cX11_settle 61 = .ok (.iload_n 2, 1) := by decide +kernel
theorem dX11_settle_62 : decode cX11_settle 62 = .ok (.aaload, 1) := by decide +kernel
theorem dX11_settle_63 : decode cX11_settle 63 = .ok (.getfield 313, 3) := by decide +kernel
theorem dX11_settle_66 : decode cX11_settle 66 = .ok (.getfield 95, 3) := by decide +kernel
theorem dX11_settle_69 : decode cX11_settle 69 = .ok (.ifCond .ne 5, 3) := by decide +kernel
theorem dX11_settle_72 : decode cX11_settle 72 = .ok (.iconst (-1), 1) := by decide +kernel
theorem dX11_settle_73 : decode cX11_settle 73 = .ok (.ireturn, 1) := by decide +kernel
theorem dX11_settle_74 : decode cX11_settle 74 = .ok (.aload_n 0, 1) := by decide +kernel
theorem dX11_settle_75 : decode cX11_settle 75 = .ok (.getfield 51, 3) := by decide +kernel
theorem dX11_settle_78 : decode cX11_settle 78 = .ok (.iload_n 1, 1) := by decide +kernel
theorem dX11_settle_79 : decode cX11_settle 79 = .ok (.iload_n 2, 1) := by decide +kernel
theorem dX11_settle_80 : decode cX11_settle 80 = .ok (.iload_n 3, 1) := by decide +kernel
theorem dX11_settle_81 : decode cX11_settle 81 = .ok (.invokevirtual 316, 3) := by decide +kernel
theorem dX11_settle_84 : decode cX11_settle 84 = .ok (.ireturn, 1) := by decide +kernel
theorem dX11_lost_0 : decode cX11_lost 0 = .ok (.aload_n 0, 1) := by decide +kernel
theorem dX11_lost_1 : decode cX11_lost 1 = .ok (.getfield 15, 3) := by decide +kernel
theorem dX11_lost_4 : decode cX11_lost 4 = .ok (.iload_n 1, 1) := by decide +kernel
theorem dX11_lost_5 : decode cX11_lost 5 = .ok (.invokevirtual 100, 3) := by decide +kernel
theorem dX11_lost_8 : decode cX11_lost 8 = .ok (.ifCond .eq 16, 3) := by decide +kernel
theorem dX11_lost_11 : decode cX11_lost 11 = .ok (.iload_n 1, 1) := by decide +kernel
theorem dX11_lost_12 : decode cX11_lost 12 = .ok (.aload_n 0, 1) := by decide +kernel
theorem dX11_lost_13 : decode cX11_lost 13 = .ok (.getfield 15, 3) := by decide +kernel
theorem dX11_lost_16 : decode cX11_lost 16 = .ok (.getfield 212, 3) := by decide +kernel
theorem dX11_lost_19 : decode cX11_lost 19 = .ok (.iconst 1, 1) := by decide +kernel
theorem dX11_lost_20 : decode cX11_lost 20 = .ok (.isub, 1) := by decide +kernel
theorem dX11_lost_21 : decode cX11_lost 21 = .ok (.if_icmp .ne 5, 3) := by decide +kernel
theorem dX11_lost_24 : decode cX11_lost 24 = .ok (.iconst 0, 1) := by decide +kernel
theorem dX11_lost_25 : decode cX11_lost 25 = .ok (.ireturn, 1) := by decide +kernel
theorem dX11_lost_26 : decode cX11_lost 26 = .ok (.aload_n 0, 1) := by decide +kernel
theorem dX11_lost_27 : decode cX11_lost 27 = .ok (.getfield 15, 3) := by decide +kernel
theorem dX11_lost_30 : decode cX11_lost 30 = .ok (.getfield 320, 3) := by decide +kernel
theorem dX11_lost_33 : decode cX11_lost 33 = .ok (.iload_n 1, 1) := by decide +kernel
theorem dX11_lost_34 : decode cX11_lost 34 = .ok (.iload_n 2, 1) := by decide +kernel
theorem dX11_lost_35 : decode cX11_lost 35 = .ok (.bastore, 1) := by decide +kernel
theorem dX11_lost_36 : decode cX11_lost 36 = .ok (.iconst 1, 1) := by decide +kernel
theorem dX11_lost_37 : decode cX11_lost 37 = .ok (.ireturn, 1) := by decide +kernel
theorem dX11_known_0 : decode cX11_known 0 = .ok (.aload_n 0, 1) := by decide +kernel
theorem dX11_known_1 : decode cX11_known 1 = .ok (.getfield 24, 3) := by decide +kernel
theorem dX11_known_4 : decode cX11_known 4 = .ok (.iload_n 1, 1) := by decide +kernel
theorem dX11_known_5 : decode cX11_known 5 = .ok (.invokevirtual 175, 3) := by decide +kernel
theorem dX11_known_8 : decode cX11_known 8 = .ok (.ifCond .eq 25, 3) := by decide +kernel
theorem dX11_known_11 : decode cX11_known 11 = .ok (.aload_n 0, 1) := by decide +kernel
theorem dX11_known_12 : decode cX11_known 12 = .ok (.getfield 15, 3) := by decide +kernel
theorem dX11_known_15 : decode cX11_known 15 = .ok (.iload_n 2, 1) := by decide +kernel
theorem dX11_known_16 : decode cX11_known 16 = .ok (.iload_n 3, 1) := by decide +kernel
theorem dX11_known_17 : decode cX11_known 17 = .ok (.invokevirtual 239, 3) := by decide +kernel
theorem dX11_known_20 : decode cX11_known 20 = .ok (.ifCond .eq 13, 3) := by decide +kernel
theorem dX11_known_23 : decode cX11_known 23 = .ok (.iload 4, 2) := by decide +kernel
theorem dX11_known_25 : decode cX11_known 25 = .ok (.iconst 0, 1) := by decide +kernel
theorem dX11_known_26 : decode cX11_known 26 = .ok (.iconst 1, 1) := by decide +kernel
theorem dX11_known_27 : decode cX11_known 27 = .ok (.invokestatic 105, 3) := by decide +kernel
theorem dX11_known_30 : decode cX11_known 30 = .ok (.ifCond .ne 5, 3) := by decide +kernel
theorem dX11_known_33 : decode cX11_known 33 = .ok (.iconst (-1), 1) := by decide +kernel
theorem dX11_known_34 : decode cX11_known 34 = .ok (.ireturn, 1) := by decide +kernel
theorem dX11_known_35 : decode cX11_known 35 = .ok (.aload_n 0, 1) := by decide +kernel
theorem dX11_known_36 : decode cX11_known 36 = .ok (.getfield 24, 3) := by decide +kernel
theorem dX11_known_39 : decode cX11_known 39 = .ok (.invokevirtual 227, 3) := by decide +kernel
theorem dX11_known_42 : decode cX11_known 42 = .ok (.aload_n 0, 1) := by decide +kernel
theorem dX11_known_43 : decode cX11_known 43 = .ok (.getfield 24, 3) := by decide +kernel
theorem dX11_known_46 : decode cX11_known 46 = .ok (.iload_n 1, 1) := by decide +kernel
theorem dX11_known_47 : decode cX11_known 47 = .ok (.aload_n 0, 1) := by decide +kernel
theorem dX11_known_48 : decode cX11_known 48 = .ok (.getfield 15, 3) := by decide +kernel
theorem dX11_known_51 : decode cX11_known 51 = .ok (.iload_n 2, 1) := by decide +kernel
theorem dX11_known_52 : decode cX11_known 52 = .ok (.iload_n 3, 1) := by decide +kernel
theorem dX11_known_53 : decode cX11_known 53 = .ok (.invokevirtual 242, 3) := by decide +kernel
theorem dX11_known_56 : decode cX11_known 56 = .ok (.iload 4, 2) := by decide +kernel
theorem dX11_known_58 : decode cX11_known 58 = .ok (.ifCond .ne 7, 3) := by decide +kernel
theorem dX11_known_61 : decode cX11_known 61 = .ok (.iconst 1, 1) := by decide +kernel
theorem dX11_known_62 : decode cX11_known 62 = .ok (.goto 4, 3) := by decide +kernel
theorem dX11_known_65 : decode cX11_known 65 = .ok (.iconst 0, 1) := by decide +kernel
theorem dX11_known_66 : decode cX11_known 66 = .ok (.invokevirtual 323, 3) := by decide +kernel
theorem dX11_known_69 : decode cX11_known 69 = .ok (.ireturn, 1) := by decide +kernel
theorem dX11_ahead_0 : decode cX11_ahead 0 = .ok (.aload_n 0, 1) := by decide +kernel
theorem dX11_ahead_1 : decode cX11_ahead 1 = .ok (.getfield 24, 3) := by decide +kernel
theorem dX11_ahead_4 : decode cX11_ahead 4 = .ok (.iload_n 1, 1) := by decide +kernel
theorem dX11_ahead_5 : decode cX11_ahead 5 = .ok (.invokevirtual 175, 3) := by decide +kernel
theorem dX11_ahead_8 : decode cX11_ahead 8 = .ok (.ifCond .eq 32, 3) := by decide +kernel
theorem dX11_ahead_11 : decode cX11_ahead 11 = .ok (.aload_n 0, 1) := by decide +kernel
theorem dX11_ahead_12 : decode cX11_ahead 12 = .ok (.getfield 24, 3) := by decide +kernel
theorem dX11_ahead_15 : decode cX11_ahead 15 = .ok (.iload_n 2, 1) := by decide +kernel
theorem dX11_ahead_16 : decode cX11_ahead 16 = .ok (.invokevirtual 175, 3) := by decide +kernel
theorem dX11_ahead_19 : decode cX11_ahead 19 = .ok (.ifCond .eq 21, 3) := by decide +kernel
theorem dX11_ahead_22 : decode cX11_ahead 22 = .ok (.iload_n 1, 1) := by decide +kernel
theorem dX11_ahead_23 : decode cX11_ahead 23 = .ok (.iload_n 2, 1) := by decide +kernel
theorem dX11_ahead_24 : decode cX11_ahead 24 = .ok (.if_icmp .eq 16, 3) := by decide +kernel
theorem dX11_ahead_27 : decode cX11_ahead 27 = .ok (.aload_n 0, 1) := by decide +kernel
theorem dX11_ahead_28 : decode cX11_ahead 28 = .ok (.getfield 15, 3) := by decide +kernel
theorem dX11_ahead_31 : decode cX11_ahead 31 = .ok (.iload_n 3, 1) := by decide +kernel
theorem dX11_ahead_32 : decode cX11_ahead 32 = .ok (.iload 4, 2) := by decide +kernel
theorem dX11_ahead_34 : decode cX11_ahead 34 = .ok (.invokevirtual 239, 3) := by decide +kernel
theorem dX11_ahead_37 : decode cX11_ahead 37 = .ok (.ifCond .ne 5, 3) := by decide +kernel
theorem dX11_ahead_40 : decode cX11_ahead 40 = .ok (.iconst (-1), 1) := by decide +kernel
theorem dX11_ahead_41 : decode cX11_ahead 41 = .ok (.ireturn, 1) := by decide +kernel
theorem dX11_ahead_42 : decode cX11_ahead 42 = .ok (.aload_n 0, 1) := by decide +kernel
theorem dX11_ahead_43 : decode cX11_ahead 43 = .ok (.getfield 24, 3) := by decide +kernel
theorem dX11_ahead_46 : decode cX11_ahead 46 = .ok (.invokevirtual 227, 3) := by decide +kernel
theorem dX11_ahead_49 : decode cX11_ahead 49 = .ok (.aload_n 0, 1) := by decide +kernel
theorem dX11_ahead_50 : decode cX11_ahead 50 = .ok (.getfield 15, 3) := by decide +kernel
theorem dX11_ahead_53 : decode cX11_ahead 53 = .ok (.iload_n 3, 1) := by decide +kernel
theorem dX11_ahead_54 : decode cX11_ahead 54 = .ok (.iload 4, 2) := by decide +kernel
theorem dX11_ahead_56 : decode cX11_ahead 56 = .ok (.invokevirtual 242, 3) := by decide +kernel
theorem dX11_ahead_59 : decode cX11_ahead 59 = .ok (.istore 5, 2) := by decide +kernel
theorem dX11_ahead_61 : decode cX11_ahead 61 = .ok (.aload_n 0, 1) := by decide +kernel
theorem dX11_ahead_62 : decode cX11_ahead 62 = .ok (.getfield 24, 3) := by decide +kernel
theorem dX11_ahead_65 : decode cX11_ahead 65 = .ok (.iload_n 1, 1) := by decide +kernel
theorem dX11_ahead_66 : decode cX11_ahead 66 = .ok (.iload 5, 2) := by decide +kernel
theorem dX11_ahead_68 : decode cX11_ahead 68 = .ok (.iconst 0, 1) := by decide +kernel
theorem dX11_ahead_69 : decode cX11_ahead 69 = .ok (.invokevirtual 323, 3) := by decide +kernel
theorem dX11_ahead_72 : decode cX11_ahead 72 = .ok (.istore 6, 2) := by decide +kernel
theorem dX11_ahead_74 : decode cX11_ahead 74 = .ok (.aload_n 0, 1) := by decide +kernel
theorem dX11_ahead_75 : decode cX11_ahead 75 = .ok (.getfield 24, 3) := by decide +kernel
theorem dX11_ahead_78 : decode cX11_ahead 78 = .ok (.iload_n 2, 1) := by decide +kernel
theorem dX11_ahead_79 : decode cX11_ahead 79 = .ok (.iload 5, 2) := by decide +kernel
theorem dX11_ahead_81 : decode cX11_ahead 81 = .ok (.iconst 1, 1) := by decide +kernel
theorem dX11_ahead_82 : decode cX11_ahead 82 = .ok (.invokevirtual 323, 3) := by decide +kernel
theorem dX11_ahead_85 : decode cX11_ahead 85 = .ok (.istore 7, 2) := by decide +kernel
theorem dX11_ahead_87 : decode cX11_ahead 87 = .ok (.iload 6, 2) := by decide +kernel
theorem dX11_ahead_89 : decode cX11_ahead 89 = .ok (.iconst (-1), 1) := by decide +kernel
theorem dX11_ahead_90 : decode cX11_ahead 90 = .ok (.if_icmp .eq 9, 3) := by decide +kernel
theorem dX11_ahead_93 : decode cX11_ahead 93 = .ok (.iload 7, 2) := by decide +kernel
theorem dX11_ahead_95 : decode cX11_ahead 95 = .ok (.iconst (-1), 1) := by decide +kernel
theorem dX11_ahead_96 : decode cX11_ahead 96 = .ok (.if_icmp .ne 5, 3) := by decide +kernel
theorem dX11_ahead_99 : decode cX11_ahead 99 = .ok (.iconst (-1), 1) := by decide +kernel
theorem dX11_ahead_100 : decode cX11_ahead 100 = .ok (.ireturn, 1) := by decide +kernel
theorem dX11_ahead_101 : decode cX11_ahead 101 = .ok (.iload 6, 2) := by decide +kernel
theorem dX11_ahead_103 : decode cX11_ahead 103 = .ok (.iload 7, 2) := by decide +kernel
theorem dX11_ahead_105 : decode cX11_ahead 105 = .ok (.if_icmp .ge 7, 3) := by decide +kernel
theorem dX11_ahead_108 : decode cX11_ahead 108 = .ok (.iconst 1, 1) := by decide +kernel
theorem dX11_ahead_109 : decode cX11_ahead 109 = .ok (.goto 4, 3) := by decide +kernel
theorem dX11_ahead_112 : decode cX11_ahead 112 = .ok (.iconst 0, 1) := by decide +kernel
theorem dX11_ahead_113 : decode cX11_ahead 113 = .ok (.ireturn, 1) := by decide +kernel
theorem dX11_wall_0 : decode cX11_wall 0 = .ok (.aload_n 0, 1) := by decide +kernel
theorem dX11_wall_1 : decode cX11_wall 1 = .ok (.getfield 24, 3) := by decide +kernel
theorem dX11_wall_4 : decode cX11_wall 4 = .ok (.iload_n 1, 1) := by decide +kernel
theorem dX11_wall_5 : decode cX11_wall 5 = .ok (.invokevirtual 175, 3) := by decide +kernel
theorem dX11_wall_8 : decode cX11_wall 8 = .ok (.ifCond .eq 7, 3) := by decide +kernel
theorem dX11_wall_11 : decode cX11_wall 11 = .ok (.iload_n 2, 1) := by decide +kernel
theorem dX11_wall_12 : decode cX11_wall 12 = .ok (.ifCond .ge 5, 3) := by decide +kernel
theorem dX11_wall_15 : decode cX11_wall 15 = .ok (.iconst (-1), 1) := by decide +kernel
theorem dX11_wall_16 : decode cX11_wall 16 = .ok (.ireturn, 1) := by decide +kernel
theorem dX11_wall_17 : decode cX11_wall 17 = .ok (.aload_n 0, 1) := by decide +kernel
theorem dX11_wall_18 : decode cX11_wall 18 = .ok (.getfield 24, 3) := by decide +kernel
theorem dX11_wall_21 : decode cX11_wall 21 = .ok (.invokevirtual 227, 3) := by decide +kernel
theorem dX11_wall_24 : decode cX11_wall 24 = .ok (.aload_n 0, 1) := by decide +kernel
theorem dX11_wall_25 : decode cX11_wall 25 = .ok (.getfield 24, 3) := by decide +kernel
theorem dX11_wall_28 : decode cX11_wall 28 = .ok (.iload_n 1, 1) := by decide +kernel
theorem dX11_wall_29 : decode cX11_wall 29 = .ok (.iload_n 2, 1) := by decide +kernel
theorem dX11_wall_30 : decode cX11_wall 30 = .ok (.invokevirtual 327, 3) := by decide +kernel
theorem dX11_wall_33 : decode cX11_wall 33 = .ok (.istore_n 3, 1) := by decide +kernel
theorem dX11_wall_34 : decode cX11_wall 34 = .ok (.aload_n 0, 1) := by decide +kernel
theorem dX11_wall_35 : decode cX11_wall 35 = .ok (.getfield 24, 3) := by decide +kernel
theorem dX11_wall_38 : decode cX11_wall 38 = .ok (.getfield 230, 3) := by decide +kernel
theorem dX11_wall_41 : decode cX11_wall 41 = .ok (.iload_n 1, 1) := by decide +kernel
theorem dX11_wall_42 : decode cX11_wall 42 = .ok (.aaload, 1) := by decide +kernel
theorem dX11_wall_43 : decode cX11_wall 43 = .ok (.iload_n 3, 1) := by decide +kernel
theorem dX11_wall_44 : decode cX11_wall 44 = .ok (.iconst 1, 1) := by decide +kernel
theorem dX11_wall_45 : decode cX11_wall 45 = .ok (.isub, 1) := by decide +kernel
theorem dX11_wall_46 : decode cX11_wall 46 = .ok (.invokevirtual 330, 3) := by decide +kernel
theorem dX11_wall_49 : decode cX11_wall 49 = .ok (.istore 4, 2) := by decide +kernel
theorem dX11_wall_51 : decode cX11_wall 51 = .ok (.iconst 0, 1) := by decide +kernel
theorem dX11_wall_52 : decode cX11_wall 52 = .ok (.istore 5, 2) := by decide +kernel
theorem dX11_wall_54 : decode cX11_wall 54 = .ok (.iconst 0, 1) := by decide +kernel
theorem dX11_wall_55 : decode cX11_wall 55 = .ok (.istore 6, 2) := by decide +kernel
theorem dX11_wall_57 : decode cX11_wall 57 = .ok (.iload 6, 2) := by decide +kernel
theorem dX11_wall_59 : decode cX11_wall 59 = .ok (.aload_n 0, 1) := by decide +kernel
theorem dX11_wall_60 : decode cX11_wall 60 = .ok (.getfield 24, 3) := by decide +kernel
theorem dX11_wall_63 : decode cX11_wall 63 = .ok (.getfield 80, 3) := by decide +kernel
theorem dX11_wall_66 : decode cX11_wall 66 = .ok (.if_icmp .ge 94, 3) := by decide +kernel
theorem dX11_wall_69 : decode cX11_wall 69 = .ok (.iload 6, 2) := by decide +kernel
theorem dX11_wall_71 : decode cX11_wall 71 = .ok (.bipush 6, 2) := by decide +kernel
theorem dX11_wall_73 : decode cX11_wall 73 = .ok (.if_icmp .ge 87, 3) := by decide +kernel
theorem dX11_wall_76 : decode cX11_wall 76 = .ok (.aload_n 0, 1) := by decide +kernel
theorem dX11_wall_77 : decode cX11_wall 77 = .ok (.getfield 24, 3) := by decide +kernel
theorem dX11_wall_80 : decode cX11_wall 80 = .ok (.iload 6, 2) := by decide +kernel
theorem dX11_wall_82 : decode cX11_wall 82 = .ok (.iload_n 2, 1) := by decide +kernel
theorem dX11_wall_83 : decode cX11_wall 83 = .ok (.invokevirtual 327, 3) := by decide +kernel
theorem dX11_wall_86 : decode cX11_wall 86 = .ok (.istore 7, 2) := by decide +kernel
theorem dX11_wall_88 : decode cX11_wall 88 = .ok (.aload_n 0, 1) := by decide +kernel
theorem dX11_wall_89 : decode cX11_wall 89 = .ok (.getfield 24, 3) := by decide +kernel
theorem dX11_wall_92 : decode cX11_wall 92 = .ok (.getfield 230, 3) := by decide +kernel
theorem dX11_wall_95 : decode cX11_wall 95 = .ok (.iload 6, 2) := by decide +kernel
theorem dX11_wall_97 : decode cX11_wall 97 = .ok (.aaload, 1) := by decide +kernel
theorem dX11_wall_98 : decode cX11_wall 98 = .ok (.iload 7, 2) := by decide +kernel
theorem dX11_wall_100 : decode cX11_wall 100 = .ok (.iconst 1, 1) := by decide +kernel
theorem dX11_wall_101 : decode cX11_wall 101 = .ok (.isub, 1) := by decide +kernel
theorem dX11_wall_102 : decode cX11_wall 102 = .ok (.invokevirtual 330, 3) := by decide +kernel
theorem dX11_wall_105 : decode cX11_wall 105 = .ok (.istore 8, 2) := by decide +kernel
theorem dX11_wall_107 : decode cX11_wall 107 = .ok (.iload 8, 2) := by decide +kernel
theorem dX11_wall_109 : decode cX11_wall 109 = .ok (.iload 4, 2) := by decide +kernel
theorem dX11_wall_111 : decode cX11_wall 111 = .ok (.if_icmp .lt 16, 3) := by decide +kernel
theorem dX11_wall_114 : decode cX11_wall 114 = .ok (.iload 8, 2) := by decide +kernel
theorem dX11_wall_116 : decode cX11_wall 116 = .ok (.iload 4, 2) := by decide +kernel
theorem dX11_wall_118 : decode cX11_wall 118 = .ok (.if_icmp .ne 13, 3) := by decide +kernel
theorem dX11_wall_121 : decode cX11_wall 121 = .ok (.iload 6, 2) := by decide +kernel
theorem dX11_wall_123 : decode cX11_wall 123 = .ok (.iload_n 1, 1) := by decide +kernel
theorem dX11_wall_124 : decode cX11_wall 124 = .ok (.if_icmp .ge 7, 3) := by decide +kernel
theorem dX11_wall_127 : decode cX11_wall 127 = .ok (.iconst 1, 1) := by decide +kernel
theorem dX11_wall_128 : decode cX11_wall 128 = .ok (.goto 4, 3) := by decide +kernel
theorem dX11_wall_131 : decode cX11_wall 131 = .ok (.iconst 0, 1) := by decide +kernel
theorem dX11_wall_132 : decode cX11_wall 132 = .ok (.istore 9, 2) := by decide +kernel
theorem dX11_wall_134 : decode cX11_wall 134 = .ok (.iload 7, 2) := by decide +kernel
theorem dX11_wall_136 : decode cX11_wall 136 = .ok (.iload_n 3, 1) := by decide +kernel
theorem dX11_wall_137 : decode cX11_wall 137 = .ok (.if_icmp .gt 14, 3) := by decide +kernel
theorem dX11_wall_140 : decode cX11_wall 140 = .ok (.iload 7, 2) := by decide +kernel
theorem dX11_wall_142 : decode cX11_wall 142 = .ok (.iload_n 3, 1) := by decide +kernel
theorem dX11_wall_143 : decode cX11_wall 143 = .ok (.if_icmp .ne 11, 3) := by decide +kernel
theorem dX11_wall_146 : decode cX11_wall 146 = .ok (.iload 9, 2) := by decide +kernel
theorem dX11_wall_148 : decode cX11_wall 148 = .ok (.ifCond .eq 6, 3) := by decide +kernel
theorem dX11_wall_151 : decode cX11_wall 151 = .ok (.iinc 5 1, 3) := by decide +kernel
theorem dX11_wall_154 : decode cX11_wall 154 = .ok (.iinc 6 1, 3) := by decide +kernel
theorem dX11_wall_157 : decode cX11_wall 157 = .ok (.goto (-100), 3) := by decide +kernel
theorem dX11_wall_160 : decode cX11_wall 160 = .ok (.iload 5, 2) := by decide +kernel
theorem dX11_wall_162 : decode cX11_wall 162 = .ok (.ireturn, 1) := by decide +kernel
theorem dX11_why_0 : decode cX11_why 0 = .ok (.aload_n 0, 1) := by decide +kernel
theorem dX11_why_1 : decode cX11_why 1 = .ok (.getfield 24, 3) := by decide +kernel
theorem dX11_why_4 : decode cX11_why 4 = .ok (.iload_n 1, 1) := by decide +kernel
theorem dX11_why_5 : decode cX11_why 5 = .ok (.invokevirtual 175, 3) := by decide +kernel
theorem dX11_why_8 : decode cX11_why 8 = .ok (.ifCond .eq 17, 3) := by decide +kernel
theorem dX11_why_11 : decode cX11_why 11 = .ok (.iload_n 2, 1) := by decide +kernel
theorem dX11_why_12 : decode cX11_why 12 = .ok (.aload_n 0, 1) := by decide +kernel
theorem dX11_why_13 : decode cX11_why 13 = .ok (.getfield 15, 3) := by decide +kernel
theorem dX11_why_16 : decode cX11_why 16 = .ok (.getfield 185, 3) := by decide +kernel
theorem dX11_why_19 : decode cX11_why 19 = .ok (.invokestatic 115, 3) := by decide +kernel
theorem dX11_why_22 : decode cX11_why 22 = .ok (.ifCond .ne 5, 3) := by decide +kernel
theorem dX11_why_25 : decode cX11_why 25 = .ok (.iconst (-1), 1) := by decide +kernel
theorem dX11_why_26 : decode cX11_why 26 = .ok (.ireturn, 1) := by decide +kernel
theorem dX11_why_27 : decode cX11_why 27 = .ok (.aload_n 0, 1) := by decide +kernel
theorem dX11_why_28 : decode cX11_why 28 = .ok (.getfield 24, 3) := by decide +kernel
theorem dX11_why_31 : decode cX11_why 31 = .ok (.invokevirtual 227, 3) := by decide +kernel
theorem dX11_why_34 : decode cX11_why 34 = .ok (.aload_n 0, 1) := by decide +kernel
theorem dX11_why_35 : decode cX11_why 35 = .ok (.getfield 24, 3) := by decide +kernel
theorem dX11_why_38 : decode cX11_why 38 = .ok (.getfield 230, 3) := by decide +kernel
theorem dX11_why_41 : decode cX11_why 41 = .ok (.iload_n 1, 1) := by decide +kernel
theorem dX11_why_42 : decode cX11_why 42 = .ok (.aaload, 1) := by decide +kernel
theorem dX11_why_43 : decode cX11_why 43 = .ok (.getfield 333, 3) := by decide +kernel
theorem dX11_why_46 : decode cX11_why 46 = .ok (.iload_n 2, 1) := by decide +kernel
theorem dX11_why_47 : decode cX11_why 47 = .ok (.iaload, 1) := by decide +kernel
theorem dX11_why_48 : decode cX11_why 48 = .ok (.ireturn, 1) := by decide +kernel
theorem dX11_row_0 : decode cX11_row 0 = .ok (.iload_n 1, 1) := by decide +kernel
theorem dX11_row_1 : decode cX11_row 1 = .ok (.aload_n 0, 1) := by decide +kernel
theorem dX11_row_2 : decode cX11_row 2 = .ok (.getfield 215, 3) := by decide +kernel
theorem dX11_row_5 : decode cX11_row 5 = .ok (.invokestatic 115, 3) := by decide +kernel
theorem dX11_row_8 : decode cX11_row 8 = .ok (.ifCond .eq 9, 3) := by decide +kernel
theorem dX11_row_11 : decode cX11_row 11 = .ok (.iload_n 1, 1) := by decide +kernel
theorem dX11_row_12 : decode cX11_row 12 = .ok (.bipush 6, 2) := by decide +kernel
theorem dX11_row_14 : decode cX11_row 14 = .ok (.if_icmp .lt 11, 3) := by decide +kernel
theorem dX11_row_17 : decode cX11_row 17 = .ok (.new 224, 3) := by decide +kernel
theorem dX11_row_20 : decode cX11_row 20 = .ok (.dup, 1) := by decide +kernel
theorem dX11_row_21 : decode cX11_row 21 = .ok (.invokespecial 226, 3) := by decide +kernel
theorem dX11_row_24 : decode cX11_row 24 = .ok (.athrow, 1) := by decide +kernel
theorem dX11_row_25 : decode cX11_row 25 = .ok (.aload_n 0, 1) := by decide +kernel
theorem dX11_row_26 : decode cX11_row 26 = .ok (.getfield 66, 3) := by decide +kernel
theorem dX11_row_29 : decode cX11_row 29 = .ok (.iload_n 1, 1) := by decide +kernel
theorem dX11_row_30 : decode cX11_row 30 = .ok (.iaload, 1) := by decide +kernel
theorem dX11_row_31 : decode cX11_row 31 = .ok (.ireturn, 1) := by decide +kernel
theorem dX11_takeTape_0 : decode cX11_takeTape 0 = .ok (.aload_n 0, 1) := by decide +kernel
theorem dX11_takeTape_1 : decode cX11_takeTape 1 = .ok (.getfield 218, 3) := by decide +kernel
theorem dX11_takeTape_4 : decode cX11_takeTape 4 = .ok (.istore_n 1, 1) := by decide +kernel
theorem dX11_takeTape_5 : decode cX11_takeTape 5 = .ok (.aload_n 0, 1) := by decide +kernel
theorem dX11_takeTape_6 : decode cX11_takeTape 6 = .ok (.iconst 0, 1) := by decide +kernel
theorem dX11_takeTape_7 : decode cX11_takeTape 7 = .ok (.putfield 218, 3) := by decide +kernel
theorem dX11_takeTape_10 : decode cX11_takeTape 10 = .ok (.iload_n 1, 1) := by decide +kernel
theorem dX11_takeTape_11 : decode cX11_takeTape 11 = .ok (.ireturn, 1) := by decide +kernel
theorem dX11_isWithin_0 : decode cX11_isWithin 0 = .ok (.iload_n 0, 1) := by decide +kernel
theorem dX11_isWithin_1 : decode cX11_isWithin 1 = .ok (.iload_n 1, 1) := by decide +kernel
theorem dX11_isWithin_2 : decode cX11_isWithin 2 = .ok (.if_icmp .lt 12, 3) := by decide +kernel
theorem dX11_isWithin_5 : decode cX11_isWithin 5 = .ok (.iload_n 0, 1) := by decide +kernel
theorem dX11_isWithin_6 : decode cX11_isWithin 6 = .ok (.iload_n 2, 1) := by decide +kernel
theorem dX11_isWithin_7 : decode cX11_isWithin 7 = .ok (.if_icmp .gt 7, 3) := by decide +kernel
theorem dX11_isWithin_10 : decode cX11_isWithin 10 = .ok (.iconst 1, 1) := by decide +kernel
theorem dX11_isWithin_11 : decode cX11_isWithin 11 = .ok (.goto 4, 3) := by decide +kernel
theorem dX11_isWithin_14 : decode cX11_isWithin 14 = .ok (.iconst 0, 1) := by decide +kernel
theorem dX11_isWithin_15 : decode cX11_isWithin 15 = .ok (.ireturn, 1) := by decide +kernel
theorem dX11_isIndex_0 : decode cX11_isIndex 0 = .ok (.iload_n 0, 1) := by decide +kernel
theorem dX11_isIndex_1 : decode cX11_isIndex 1 = .ok (.ifCond .lt 12, 3) := by decide +kernel
theorem dX11_isIndex_4 : decode cX11_isIndex 4 = .ok (.iload_n 0, 1) := by decide +kernel
theorem dX11_isIndex_5 : decode cX11_isIndex 5 = .ok (.iload_n 1, 1) := by decide +kernel
theorem dX11_isIndex_6 : decode cX11_isIndex 6 = .ok (.if_icmp .ge 7, 3) := by decide +kernel
theorem dX11_isIndex_9 : decode cX11_isIndex 9 = .ok (.iconst 1, 1) := by decide +kernel
theorem dX11_isIndex_10 : decode cX11_isIndex 10 = .ok (.goto 4, 3) := by decide +kernel
theorem dX11_isIndex_13 : decode cX11_isIndex 13 = .ok (.iconst 0, 1) := by decide +kernel
theorem dX11_isIndex_14 : decode cX11_isIndex 14 = .ok (.ireturn, 1) := by decide +kernel
theorem dX11_isDay_0 : decode cX11_isDay 0 = .ok (.iload_n 0, 1) := by decide +kernel
theorem dX11_isDay_1 : decode cX11_isDay 1 = .ok (.iconst 0, 1) := by decide +kernel
theorem dX11_isDay_2 : decode cX11_isDay 2 = .ok (.bipush 99, 2) := by decide +kernel
theorem dX11_isDay_4 : decode cX11_isDay 4 = .ok (.invokestatic 105, 3) := by decide +kernel
theorem dX11_isDay_7 : decode cX11_isDay 7 = .ok (.ireturn, 1) := by decide +kernel
theorem dX12_in_0 : decode cX12_in 0 = .ok (.lload_n 0, 1) := by decide +kernel
theorem dX12_in_1 : decode cX12_in 1 = .ok (.lload_n 2, 1) := by decide +kernel
theorem dX12_in_2 : decode cX12_in 2 = .ok (.lcmp, 1) := by decide +kernel
theorem dX12_in_3 : decode cX12_in 3 = .ok (.ifCond .lt 14, 3) := by decide +kernel
theorem dX12_in_6 : decode cX12_in 6 = .ok (.lload_n 0, 1) := by decide +kernel
theorem dX12_in_7 : decode cX12_in 7 = .ok (.lload 4, 2) := by decide +kernel
theorem dX12_in_9 : decode cX12_in 9 = .ok (.lcmp, 1) := by decide +kernel
theorem dX12_in_10 : decode cX12_in 10 = .ok (.ifCond .gt 7, 3) := by decide +kernel
theorem dX12_in_13 : decode cX12_in 13 = .ok (.iconst 1, 1) := by decide +kernel
theorem dX12_in_14 : decode cX12_in 14 = .ok (.goto 4, 3) := by decide +kernel
theorem dX12_in_17 : decode cX12_in 17 = .ok (.iconst 0, 1) := by decide +kernel
theorem dX12_in_18 : decode cX12_in 18 = .ok (.ireturn, 1) := by decide +kernel
theorem dX12_refuse_0 : decode cX12_refuse 0 = .ok (.aload_n 0, 1) := by decide +kernel
theorem dX12_refuse_1 : decode cX12_refuse 1 = .ok (.iconst 1, 1) := by decide +kernel
theorem dX12_refuse_2 : decode cX12_refuse 2 = .ok (.putfield 3, 3) := by decide +kernel
theorem dX12_refuse_5 : decode cX12_refuse 5 = .ok (.iconst 0, 1) := by decide +kernel
theorem dX12_refuse_6 : decode cX12_refuse 6 = .ok (.ireturn, 1) := by decide +kernel
theorem dX12_truth_0 : decode cX12_truth 0 = .ok (.iload_n 0, 1) := by decide +kernel
theorem dX12_truth_1 : decode cX12_truth 1 = .ok (.ifCond .eq 7, 3) := by decide +kernel
theorem dX12_truth_4 : decode cX12_truth 4 = .ok (.iconst 1, 1) := by decide +kernel
theorem dX12_truth_5 : decode cX12_truth 5 = .ok (.goto 4, 3) := by decide +kernel
theorem dX12_truth_8 : decode cX12_truth 8 = .ok (.iconst 0, 1) := by decide +kernel
theorem dX12_truth_9 : decode cX12_truth 9 = .ok (.ireturn, 1) := by decide +kernel
theorem dX12_lays_0 : decode cX12_lays 0 = .ok (.aload_n 0, 1) := by decide +kernel
theorem dX12_lays_1 : decode cX12_lays 1 = .ok (.iload_n 1, 1) := by decide +kernel
theorem dX12_lays_2 : decode cX12_lays 2 = .ok (.putfield 7, 3) := by decide +kernel
theorem dX12_lays_5 : decode cX12_lays 5 = .ok (.aload_n 0, 1) := by decide +kernel
theorem dX12_lays_6 : decode cX12_lays 6 = .ok (.iload_n 2, 1) := by decide +kernel
theorem dX12_lays_7 : decode cX12_lays 7 = .ok (.putfield 10, 3) := by decide +kernel
theorem dX12_lays_10 : decode cX12_lays 10 = .ok (.iconst 0, 1) := by decide +kernel
theorem dX12_lays_11 : decode cX12_lays 11 = .ok (.istore_n 3, 1) := by decide +kernel
theorem dX12_lays_12 : decode cX12_lays 12 = .ok (.iload_n 3, 1) := by decide +kernel
theorem dX12_lays_13 : decode cX12_lays 13 = .ok (.iconst 5, 1) := by decide +kernel
theorem dX12_lays_14 : decode cX12_lays 14 = .ok (.if_icmp .ge 34, 3) := by decide +kernel
theorem dX12_lays_17 : decode cX12_lays 17 = .ok (.aload_n 0, 1) := by decide +kernel
theorem dX12_lays_18 : decode cX12_lays 18 = .ok (.getfield 13, 3) := by decide +kernel
theorem dX12_lays_21 : decode cX12_lays 21 = .ok (.iload_n 3, 1) := by decide +kernel
theorem dX12_lays_22 : decode cX12_lays 22 = .ok (.sipush 20000, 3) := by decide +kernel
theorem dX12_lays_25 : decode cX12_lays 25 = .ok (.iastore, 1) := by decide +kernel
theorem dX12_lays_26 : decode cX12_lays 26 = .ok (.aload_n 0, 1) := by decide +kernel
theorem dX12_lays_27 : decode cX12_lays 27 = .ok (.getfield 17, 3) := by decide +kernel
theorem dX12_lays_30 : decode cX12_lays 30 = .ok (.iload_n 3, 1) := by decide +kernel
theorem dX12_lays_31 : decode cX12_lays 31 = .ok (.sipush 300, 3) := by decide +kernel
theorem dX12_lays_34 : decode cX12_lays 34 = .ok (.iastore, 1) := by decide +kernel
theorem dX12_lays_35 : decode cX12_lays 35 = .ok (.aload_n 0, 1) := by decide +kernel
theorem dX12_lays_36 : decode cX12_lays 36 = .ok (.getfield 20, 3) := by decide +kernel
theorem dX12_lays_39 : decode cX12_lays 39 = .ok (.iload_n 3, 1) := by decide +kernel
theorem dX12_lays_40 : decode cX12_lays 40 = .ok (.iconst 0, 1) := by decide +kernel
theorem dX12_lays_41 : decode cX12_lays 41 = .ok (.bastore, 1) := by decide +kernel
theorem dX12_lays_42 : decode cX12_lays 42 = .ok (.iinc 3 1, 3) := by decide +kernel
theorem dX12_lays_45 : decode cX12_lays 45 = .ok (.goto (-33), 3) := by decide +kernel
theorem dX12_lays_48 : decode cX12_lays 48 = .ok (.aload_n 0, 1) := by decide +kernel
theorem dX12_lays_49 : decode cX12_lays 49 = .ok (.iconst 0, 1) := by decide +kernel
theorem dX12_lays_50 : decode cX12_lays 50 = .ok (.putfield 24, 3) := by decide +kernel
theorem dX12_lays_53 : decode cX12_lays 53 = .ok (.aload_n 0, 1) := by decide +kernel
theorem dX12_lays_54 : decode cX12_lays 54 = .ok (.iconst 0, 1) := by decide +kernel
theorem dX12_lays_55 : decode cX12_lays 55 = .ok (.putfield 27, 3) := by decide +kernel
theorem dX12_lays_58 : decode cX12_lays 58 = .ok (.aload_n 0, 1) := by decide +kernel
theorem dX12_lays_59 : decode cX12_lays 59 = .ok (.iconst 0, 1) := by decide +kernel
theorem dX12_lays_60 : decode cX12_lays 60 = .ok (.putfield 30, 3) := by decide +kernel
theorem dX12_lays_63 : decode cX12_lays 63 = .ok (.aload_n 0, 1) := by decide +kernel
theorem dX12_lays_64 : decode cX12_lays 64 = .ok (.iconst 0, 1) := by decide +kernel
theorem dX12_lays_65 : decode cX12_lays 65 = .ok (.putfield 33, 3) := by decide +kernel
theorem dX12_lays_68 : decode cX12_lays 68 = .ok (.aload_n 0, 1) := by decide +kernel
theorem dX12_lays_69 : decode cX12_lays 69 = .ok (.iconst 0, 1) := by decide +kernel
theorem dX12_lays_70 : decode cX12_lays 70 = .ok (.putfield 36, 3) := by decide +kernel
theorem dX12_lays_73 : decode cX12_lays 73 = .ok (.iconst 0, 1) := by decide +kernel
theorem dX12_lays_74 : decode cX12_lays 74 = .ok (.istore_n 3, 1) := by decide +kernel
theorem dX12_lays_75 : decode cX12_lays 75 = .ok (.iload_n 3, 1) := by decide +kernel
theorem dX12_lays_76 : decode cX12_lays 76 = .ok (.bipush 6, 2) := by decide +kernel
theorem dX12_lays_78 : decode cX12_lays 78 = .ok (.if_icmp .ge 16, 3) := by decide +kernel
theorem dX12_lays_81 : decode cX12_lays 81 = .ok (.aload_n 0, 1) := by decide +kernel
theorem dX12_lays_82 : decode cX12_lays 82 = .ok (.getfield 39, 3) := by decide +kernel
theorem dX12_lays_85 : decode cX12_lays 85 = .ok (.iload_n 3, 1) := by decide +kernel
theorem dX12_lays_86 : decode cX12_lays 86 = .ok (.iconst 0, 1) := by decide +kernel
theorem dX12_lays_87 : decode cX12_lays 87 = .ok (.iastore, 1) := by decide +kernel
theorem dX12_lays_88 : decode cX12_lays 88 = .ok (.iinc 3 1, 3) := by decide +kernel
theorem dX12_lays_91 : decode cX12_lays 91 = .ok (.goto (-16), 3) := by decide +kernel
theorem dX12_lays_94 : decode cX12_lays 94 = .ok (.return_, 1) := by decide +kernel
theorem dX12_isSector_0 : decode cX12_isSector 0 = .ok (.iload_n 1, 1) := by decide +kernel
theorem dX12_isSector_1 : decode cX12_isSector 1 = .ok (.i2l, 1) := by decide +kernel
theorem dX12_isSector_2 : decode cX12_isSector 2 = .ok (.lconst 0, 1) := by decide +kernel
theorem dX12_isSector_3 : decode cX12_isSector 3 = .ok (.aload_n 0, 1) := by decide +kernel
theorem dX12_isSector_4 : decode cX12_isSector 4 = .ok (.getfield 7, 3) := by decide +kernel
theorem dX12_isSector_7 : decode cX12_isSector 7 = .ok (.iconst 1, 1) := by decide +kernel
theorem dX12_isSector_8 : decode cX12_isSector 8 = .ok (.isub, 1) := by decide +kernel
theorem dX12_isSector_9 : decode cX12_isSector 9 = .ok (.i2l, 1) := by decide +kernel
theorem dX12_isSector_10 : decode cX12_isSector 10 = .ok (.invokestatic 42, 3) := by decide +kernel
theorem dX12_isSector_13 : decode cX12_isSector 13 = .ok (.ireturn, 1) := by decide +kernel
theorem dX12_isLap_0 : decode cX12_isLap 0 = .ok (.iload_n 1, 1) := by decide +kernel
theorem dX12_isLap_1 : decode cX12_isLap 1 = .ok (.i2l, 1) := by decide +kernel
theorem dX12_isLap_2 : decode cX12_isLap 2 = .ok (.lconst 0, 1) := by decide +kernel
theorem dX12_isLap_3 : decode cX12_isLap 3 = .ok (.aload_n 0, 1) := by decide +kernel
theorem dX12_isLap_4 : decode cX12_isLap 4 = .ok (.getfield 10, 3) := by decide +kernel
theorem dX12_isLap_7 : decode cX12_isLap 7 = .ok (.iconst 1, 1) := by decide +kernel
theorem dX12_isLap_8 : decode cX12_isLap 8 = .ok (.isub, 1) := by decide +kernel
theorem dX12_isLap_9 : decode cX12_isLap 9 = .ok (.i2l, 1) := by decide +kernel
theorem dX12_isLap_10 : decode cX12_isLap 10 = .ok (.invokestatic 42, 3) := by decide +kernel
theorem dX12_isLap_13 : decode cX12_isLap 13 = .ok (.ireturn, 1) := by decide +kernel
theorem dX12_track_0 : decode cX12_track 0 = .ok (.aload_n 0, 1) := by decide +kernel
theorem dX12_track_1 : decode cX12_track 1 = .ok (.iconst 0, 1) := by decide +kernel
theorem dX12_track_2 : decode cX12_track 2 = .ok (.putfield 3, 3) := by decide +kernel
theorem dX12_track_5 : decode cX12_track 5 = .ok (.iload_n 1, 1) := by decide +kernel
theorem dX12_track_6 : decode cX12_track 6 = .ok (.i2l, 1) := by decide +kernel
theorem dX12_track_7 : decode cX12_track 7 = .ok (.ldc2_w 46, 3) := by decide +kernel
theorem dX12_track_10 : decode cX12_track 10 = .ok (.ldc2_w 48, 3) := by decide +kernel
theorem dX12_track_13 : decode cX12_track 13 = .ok (.invokestatic 42, 3) := by decide +kernel
theorem dX12_track_16 : decode cX12_track 16 = .ok (.ifCond .eq 15, 3) := by decide +kernel
theorem dX12_track_19 : decode cX12_track 19 = .ok (.iload_n 2, 1) := by decide +kernel
theorem dX12_track_20 : decode cX12_track 20 = .ok (.i2l, 1) := by decide +kernel
theorem dX12_track_21 : decode cX12_track 21 = .ok (.lconst 1, 1) := by decide +kernel
theorem dX12_track_22 : decode cX12_track 22 = .ok (.ldc2_w 50, 3) := by decide +kernel
theorem dX12_track_25 : decode cX12_track 25 = .ok (.invokestatic 42, 3) := by decide +kernel
theorem dX12_track_28 : decode cX12_track 28 = .ok (.ifCond .ne 5, 3) := by decide +kernel
theorem dX12_track_31 : decode cX12_track 31 = .ok (.iconst 0, 1) := by decide +kernel
theorem dX12_track_32 : decode cX12_track 32 = .ok (.ireturn, 1) := by decide +kernel
theorem dX12_track_33 : decode cX12_track 33 = .ok (.aload_n 0, 1) := by decide +kernel
theorem dX12_track_34 : decode cX12_track 34 = .ok (.iload_n 1, 1) := by decide +kernel
theorem dX12_track_35 : decode cX12_track 35 = .ok (.iload_n 2, 1) := by decide +kernel
theorem dX12_track_36 : decode cX12_track 36 = .ok (.invokevirtual 52, 3) := by decide +kernel
theorem dX12_track_39 : decode cX12_track 39 = .ok (.iconst 1, 1) := by decide +kernel
theorem dX12_track_40 : decode cX12_track 40 = .ok (.ireturn, 1) := by decide +kernel
theorem dX12_sector_0 : decode cX12_sector 0 = .ok (.aload_n 0, 1) := by decide +kernel
theorem dX12_sector_1 : decode cX12_sector 1 = .ok (.iconst 0, 1) := by decide +kernel
theorem dX12_sector_2 : decode cX12_sector 2 = .ok (.putfield 3, 3) := by decide +kernel
theorem dX12_sector_5 : decode cX12_sector 5 = .ok (.aload_n 0, 1) := by decide +kernel
theorem dX12_sector_6 : decode cX12_sector 6 = .ok (.iload_n 1, 1) := by decide +kernel
theorem dX12_sector_7 : decode cX12_sector 7 = .ok (.invokevirtual 56, 3) := by decide +kernel
theorem dX12_sector_10 : decode cX12_sector 10 = .ok (.ifCond .eq 31, 3) := by decide +kernel
theorem dX12_sector_13 : decode cX12_sector 13 = .ok (.iload_n 2, 1) := by decide +kernel
theorem dX12_sector_14 : decode cX12_sector 14 = .ok (.i2l, 1) := by decide +kernel
theorem dX12_sector_15 : decode cX12_sector 15 = .ok (.ldc2_w 60, 3) := by decide +kernel
theorem dX12_sector_18 : decode cX12_sector 18 = .ok (.ldc2_w 62, 3) := by decide +kernel
theorem dX12_sector_21 : decode cX12_sector 21 = .ok (.invokestatic 42, 3) := by decide +kernel
theorem dX12_sector_24 : decode cX12_sector 24 = .ok (.ifCond .eq 17, 3) := by decide +kernel
theorem dX12_sector_27 : decode cX12_sector 27 = .ok (.iload_n 3, 1) := by decide +kernel
theorem dX12_sector_28 : decode cX12_sector 28 = .ok (.i2l, 1) := by decide +kernel
theorem dX12_sector_29 : decode cX12_sector 29 = .ok (.ldc2_w 64, 3) := by decide +kernel
theorem dX12_sector_32 : decode cX12_sector 32 = .ok (.ldc2_w 60, 3) := by decide +kernel
theorem dX12_sector_35 : decode cX12_sector 35 = .ok (.invokestatic 42, 3) := by decide +kernel
theorem dX12_sector_38 : decode cX12_sector 38 = .ok (.ifCond .ne 5, 3) := by decide +kernel
theorem dX12_sector_41 : decode cX12_sector 41 = .ok (.iconst 0, 1) := by decide +kernel
theorem dX12_sector_42 : decode cX12_sector 42 = .ok (.ireturn, 1) := by decide +kernel
theorem dX12_sector_43 : decode cX12_sector 43 = .ok (.aload_n 0, 1) := by decide +kernel
theorem dX12_sector_44 : decode cX12_sector 44 = .ok (.getfield 13, 3) := by decide +kernel
theorem dX12_sector_47 : decode cX12_sector 47 = .ok (.iload_n 1, 1) := by decide +kernel
theorem dX12_sector_48 : decode cX12_sector 48 = .ok (.iload_n 2, 1) := by decide +kernel
theorem dX12_sector_49 : decode cX12_sector 49 = .ok (.iastore, 1) := by decide +kernel
theorem dX12_sector_50 : decode cX12_sector 50 = .ok (.aload_n 0, 1) := by decide +kernel
theorem dX12_sector_51 : decode cX12_sector 51 = .ok (.getfield 17, 3) := by decide +kernel
theorem dX12_sector_54 : decode cX12_sector 54 = .ok (.iload_n 1, 1) := by decide +kernel
theorem dX12_sector_55 : decode cX12_sector 55 = .ok (.iload_n 3, 1) := by decide +kernel
theorem dX12_sector_56 : decode cX12_sector 56 = .ok (.iastore, 1) := by decide +kernel
theorem dX12_sector_57 : decode cX12_sector 57 = .ok (.iconst 1, 1) := by decide +kernel
theorem dX12_sector_58 : decode cX12_sector 58 = .ok (.ireturn, 1) := by decide +kernel
theorem dX12_mostOfTyres_0 : decode cX12_mostOfTyres 0 = .ok (.iload_n 0, 1) := by decide +kernel
theorem dX12_mostOfTyres_1 : decode cX12_mostOfTyres 1 = .ok (.ifCond .ne 9, 3) := by decide +kernel
theorem dX12_mostOfTyres_4 : decode cX12_mostOfTyres 4 = .ok (.sipush 3000, 3) := by decide +kernel
theorem dX12_mostOfTyres_7 : decode cX12_mostOfTyres 7 = .ok (.goto 27, 3) := by decide +kernel
theorem dX12_mostOfTyres_10 : decode cX12_mostOfTyres 10 = .ok (.iload_n 0, 1) := by decide +kernel
theorem dX12_mostOfTyres_11 : decode cX12_mostOfTyres 11 = .ok (.iconst 2, 1) := by decide +kernel
theorem dX12_mostOfTyres_12 : decode cX12_mostOfTyres 12 = .ok (.if_icmp .ne 9, 3) := by decide +kernel
theorem dX12_mostOfTyres_15 : decode cX12_mostOfTyres 15 = .ok (.sipush 200, 3) := by decide +kernel
theorem dX12_mostOfTyres_18 : decode cX12_mostOfTyres 18 = .ok (.goto 16, 3) := by decide +kernel
theorem dX12_mostOfTyres_21 : decode cX12_mostOfTyres 21 = .ok (.iload_n 0, 1) := by decide +kernel
theorem dX12_mostOfTyres_22 : decode cX12_mostOfTyres 22 = .ok (.iconst 3, 1) := by decide +kernel
theorem dX12_mostOfTyres_23 : decode cX12_mostOfTyres 23 = .ok (.if_icmp .ne 9, 3) := by decide +kernel
theorem dX12_mostOfTyres_26 : decode cX12_mostOfTyres 26 = .ok (.sipush 5000, 3) := by decide +kernel
theorem dX12_mostOfTyres_29 : decode cX12_mostOfTyres 29 = .ok (.goto 5, 3) := by decide +kernel
theorem dX12_mostOfTyres_32 : decode cX12_mostOfTyres 32 = .ok (.bipush 100, 2) := by decide +kernel
theorem dX12_mostOfTyres_34 : decode cX12_mostOfTyres 34 = .ok (.ireturn, 1) := by decide +kernel
theorem dX12_tyres_0 : decode cX12_tyres 0 = .ok (.aload_n 0, 1) := by decide +kernel
theorem dX12_tyres_1 : decode cX12_tyres 1 = .ok (.iconst 0, 1) := by decide +kernel
theorem dX12_tyres_2 : decode cX12_tyres 2 = .ok (.putfield 3, 3) := by decide +kernel
theorem dX12_tyres_5 : decode cX12_tyres 5 = .ok (.iload_n 1, 1) := by decide +kernel
theorem dX12_tyres_6 : decode cX12_tyres 6 = .ok (.i2l, 1) := by decide +kernel
theorem dX12_tyres_7 : decode cX12_tyres 7 = .ok (.lconst 0, 1) := by decide +kernel
theorem dX12_tyres_8 : decode cX12_tyres 8 = .ok (.ldc2_w 66, 3) := by decide +kernel
theorem dX12_tyres_11 : decode cX12_tyres 11 = .ok (.invokestatic 42, 3) := by decide +kernel
theorem dX12_tyres_14 : decode cX12_tyres 14 = .ok (.ifCond .eq 29, 3) := by decide +kernel
theorem dX12_tyres_17 : decode cX12_tyres 17 = .ok (.iload_n 2, 1) := by decide +kernel
theorem dX12_tyres_18 : decode cX12_tyres 18 = .ok (.i2l, 1) := by decide +kernel
theorem dX12_tyres_19 : decode cX12_tyres 19 = .ok (.lconst 0, 1) := by decide +kernel
theorem dX12_tyres_20 : decode cX12_tyres 20 = .ok (.ldc2_w 48, 3) := by decide +kernel
theorem dX12_tyres_23 : decode cX12_tyres 23 = .ok (.invokestatic 42, 3) := by decide +kernel
theorem dX12_tyres_26 : decode cX12_tyres 26 = .ok (.ifCond .eq 17, 3) := by decide +kernel
theorem dX12_tyres_29 : decode cX12_tyres 29 = .ok (.iload_n 3, 1) := by decide +kernel
theorem dX12_tyres_30 : decode cX12_tyres 30 = .ok (.i2l, 1) := by decide +kernel
theorem dX12_tyres_31 : decode cX12_tyres 31 = .ok (.lconst 0, 1) := by decide +kernel
theorem dX12_tyres_32 : decode cX12_tyres 32 = .ok (.iload_n 2, 1) := by decide +kernel
theorem dX12_tyres_33 : decode cX12_tyres 33 = .ok (.invokestatic 68, 3) := by decide +kernel
theorem dX12_tyres_36 : decode cX12_tyres 36 = .ok (.i2l, 1) := by decide +kernel
theorem dX12_tyres_37 : decode cX12_tyres 37 = .ok (.invokestatic 42, 3) := by decide +kernel
theorem dX12_tyres_40 : decode cX12_tyres 40 = .ok (.ifCond .ne 5, 3) := by decide +kernel
theorem dX12_tyres_43 : decode cX12_tyres 43 = .ok (.iconst (-1), 1) := by decide +kernel
theorem dX12_tyres_44 : decode cX12_tyres 44 = .ok (.ireturn, 1) := by decide +kernel
theorem dX12_tyres_45 : decode cX12_tyres 45 = .ok (.aload_n 0, 1) := by decide +kernel
theorem dX12_tyres_46 : decode cX12_tyres 46 = .ok (.getfield 72, 3) := by decide +kernel
theorem dX12_tyres_49 : decode cX12_tyres 49 = .ok (.bipush 6, 2) := by decide +kernel
theorem dX12_tyres_51 : decode cX12_tyres 51 = .ok (.iload_n 1, 1) := by decide +kernel
theorem dX12_tyres_52 : decode cX12_tyres 52 = .ok (.imul, 1) := by decide +kernel
theorem dX12_tyres_53 : decode cX12_tyres 53 = .ok (.iload_n 2, 1) := by decide +kernel
theorem dX12_tyres_54 : decode cX12_tyres 54 = .ok (.iadd, 1) := by decide +kernel
theorem dX12_tyres_55 : decode cX12_tyres 55 = .ok (.iaload, 1) := by decide +kernel
theorem dX12_tyres_56 : decode cX12_tyres 56 = .ok (.istore 4, 2) := by decide +kernel
theorem dX12_tyres_58 : decode cX12_tyres 58 = .ok (.aload_n 0, 1) := by decide +kernel
theorem dX12_tyres_59 : decode cX12_tyres 59 = .ok (.getfield 72, 3) := by decide +kernel
theorem dX12_tyres_62 : decode cX12_tyres 62 = .ok (.bipush 6, 2) := by decide +kernel
theorem dX12_tyres_64 : decode cX12_tyres 64 = .ok (.iload_n 1, 1) := by decide +kernel
theorem dX12_tyres_65 : decode cX12_tyres 65 = .ok (.imul, 1) := by decide +kernel
theorem dX12_tyres_66 : decode cX12_tyres 66 = .ok (.iload_n 2, 1) := by decide +kernel
theorem dX12_tyres_67 : decode cX12_tyres 67 = .ok (.iadd, 1) := by decide +kernel
theorem dX12_tyres_68 : decode cX12_tyres 68 = .ok (.iload_n 3, 1) := by decide +kernel
theorem dX12_tyres_69 : decode cX12_tyres 69 = .ok (.iastore, 1) := by decide +kernel
theorem dX12_tyres_70 : decode cX12_tyres 70 = .ok (.iload 4, 2) := by decide +kernel
theorem dX12_tyres_72 : decode cX12_tyres 72 = .ok (.ireturn, 1) := by decide +kernel
theorem dX12_mostOf_0 : decode cX12_mostOf 0 = .ok (.iload_n 0, 1) := by decide +kernel
theorem dX12_mostOf_1 : decode cX12_mostOf 1 = .ok (.tableswitch 69 0 6 #[43, 47, 50, 54, 57, 61, 65], 43) := by decide +kernel
theorem dX12_mostOf_44 : decode cX12_mostOf 44 = .ok (.sipush 2000, 3) := by decide +kernel
theorem dX12_mostOf_47 : decode cX12_mostOf 47 = .ok (.ireturn, 1) := by decide +kernel
theorem dX12_mostOf_48 : decode cX12_mostOf 48 = .ok (.bipush 50, 2) := by decide +kernel
theorem dX12_mostOf_50 : decode cX12_mostOf 50 = .ok (.ireturn, 1) := by decide +kernel
theorem dX12_mostOf_51 : decode cX12_mostOf 51 = .ok (.sipush 500, 3) := by decide +kernel
theorem dX12_mostOf_54 : decode cX12_mostOf 54 = .ok (.ireturn, 1) := by decide +kernel
theorem dX12_mostOf_55 : decode cX12_mostOf 55 = .ok (.ldc 75, 2) := by decide +kernel
theorem dX12_mostOf_57 : decode cX12_mostOf 57 = .ok (.ireturn, 1) := by decide +kernel
theorem dX12_mostOf_58 : decode cX12_mostOf 58 = .ok (.sipush 20000, 3) := by decide +kernel
theorem dX12_mostOf_61 : decode cX12_mostOf 61 = .ok (.ireturn, 1) := by decide +kernel
theorem dX12_mostOf_62 : decode cX12_mostOf 62 = .ok (.sipush 200, 3) := by decide +kernel
theorem dX12_mostOf_65 : decode cX12_mostOf 65 = .ok (.ireturn, 1) := by decide +kernel
theorem dX12_mostOf_66 : decode cX12_mostOf 66 = .ok (.sipush 2000, 3) := by decide +kernel
theorem dX12_mostOf_69 : decode cX12_mostOf 69 = .ok (.ireturn, 1) := by decide +kernel
theorem dX12_mostOf_70 : decode cX12_mostOf 70 = .ok (.bipush 9, 2) := by decide +kernel
theorem dX12_mostOf_72 : decode cX12_mostOf 72 = .ok (.ireturn, 1) := by decide +kernel
theorem dX12_set_0 : decode cX12_set 0 = .ok (.aload_n 0, 1) := by decide +kernel
theorem dX12_set_1 : decode cX12_set 1 = .ok (.iconst 0, 1) := by decide +kernel
theorem dX12_set_2 : decode cX12_set 2 = .ok (.putfield 3, 3) := by decide +kernel
theorem dX12_set_5 : decode cX12_set 5 = .ok (.iload_n 1, 1) := by decide +kernel
theorem dX12_set_6 : decode cX12_set 6 = .ok (.i2l, 1) := by decide +kernel
theorem dX12_set_7 : decode cX12_set 7 = .ok (.lconst 0, 1) := by decide +kernel
theorem dX12_set_8 : decode cX12_set 8 = .ok (.ldc2_w 76, 3) := by decide +kernel
theorem dX12_set_11 : decode cX12_set 11 = .ok (.invokestatic 42, 3) := by decide +kernel
theorem dX12_set_14 : decode cX12_set 14 = .ok (.ifCond .eq 27, 3) := by decide +kernel
theorem dX12_set_17 : decode cX12_set 17 = .ok (.iload_n 2, 1) := by decide +kernel
theorem dX12_set_18 : decode cX12_set 18 = .ok (.i2l, 1) := by decide +kernel
theorem dX12_set_19 : decode cX12_set 19 = .ok (.iload_n 1, 1) := by decide +kernel
theorem dX12_set_20 : decode cX12_set 20 = .ok (.ifCond .ne 9, 3) := by decide +kernel
theorem dX12_set_23 : decode cX12_set 23 = .ok (.ldc2_w 78, 3) := by decide +kernel
theorem dX12_set_26 : decode cX12_set 26 = .ok (.goto 4, 3) := by decide +kernel
theorem dX12_set_29 : decode cX12_set 29 = .ok (.lconst 0, 1) := by decide +kernel
theorem dX12_set_30 : decode cX12_set 30 = .ok (.iload_n 1, 1) := by decide +kernel
theorem dX12_set_31 : decode cX12_set 31 = .ok (.invokestatic 80, 3) := by decide +kernel
theorem dX12_set_34 : decode cX12_set 34 = .ok (.i2l, 1) := by decide +kernel
theorem dX12_set_35 : decode cX12_set 35 = .ok (.invokestatic 42, 3) := by decide +kernel
theorem dX12_set_38 : decode cX12_set 38 = .ok (.ifCond .ne 5, 3) := by decide +kernel
theorem dX12_set_41 : decode cX12_set 41 = .ok (.iconst (-1), 1) := by decide +kernel
theorem dX12_set_42 : decode cX12_set 42 = .ok (.ireturn, 1) := by decide +kernel
theorem dX12_set_43 : decode cX12_set 43 = .ok (.aload_n 0, 1) := by decide +kernel
theorem dX12_set_44 : decode cX12_set 44 = .ok (.getfield 83, 3) := by decide +kernel
theorem dX12_set_47 : decode cX12_set 47 = .ok (.iload_n 1, 1) := by decide +kernel
theorem dX12_set_48 : decode cX12_set 48 = .ok (.iaload, 1) := by decide +kernel
theorem dX12_set_49 : decode cX12_set 49 = .ok (.istore_n 3, 1) := by decide +kernel
theorem dX12_set_50 : decode cX12_set 50 = .ok (.aload_n 0, 1) := by decide +kernel
theorem dX12_set_51 : decode cX12_set 51 = .ok (.getfield 83, 3) := by decide +kernel
theorem dX12_set_54 : decode cX12_set 54 = .ok (.iload_n 1, 1) := by decide +kernel
theorem dX12_set_55 : decode cX12_set 55 = .ok (.iload_n 2, 1) := by decide +kernel
theorem dX12_set_56 : decode cX12_set 56 = .ok (.iastore, 1) := by decide +kernel
theorem dX12_set_57 : decode cX12_set 57 = .ok (.iload_n 3, 1) := by decide +kernel
theorem dX12_set_58 : decode cX12_set 58 = .ok (.ireturn, 1) := by decide +kernel
theorem dX12_rain_0 : decode cX12_rain 0 = .ok (.aload_n 0, 1) := by decide +kernel
theorem dX12_rain_1 : decode cX12_rain 1 = .ok (.iconst 0, 1) := by decide +kernel
theorem dX12_rain_2 : decode cX12_rain 2 = .ok (.putfield 3, 3) := by decide +kernel
theorem dX12_rain_5 : decode cX12_rain 5 = .ok (.aload_n 0, 1) := by decide +kernel
theorem dX12_rain_6 : decode cX12_rain 6 = .ok (.iload_n 1, 1) := by decide +kernel
theorem dX12_rain_7 : decode cX12_rain 7 = .ok (.invokevirtual 56, 3) := by decide +kernel
theorem dX12_rain_10 : decode cX12_rain 10 = .ok (.ifCond .eq 28, 3) := by decide +kernel
theorem dX12_rain_13 : decode cX12_rain 13 = .ok (.iload_n 2, 1) := by decide +kernel
theorem dX12_rain_14 : decode cX12_rain 14 = .ok (.ifCond .lt 24, 3) := by decide +kernel
theorem dX12_rain_17 : decode cX12_rain 17 = .ok (.iload_n 3, 1) := by decide +kernel
theorem dX12_rain_18 : decode cX12_rain 18 = .ok (.i2l, 1) := by decide +kernel
theorem dX12_rain_19 : decode cX12_rain 19 = .ok (.lconst 0, 1) := by decide +kernel
theorem dX12_rain_20 : decode cX12_rain 20 = .ok (.ldc2_w 78, 3) := by decide +kernel
theorem dX12_rain_23 : decode cX12_rain 23 = .ok (.invokestatic 42, 3) := by decide +kernel
theorem dX12_rain_26 : decode cX12_rain 26 = .ok (.ifCond .eq 12, 3) := by decide +kernel
theorem dX12_rain_29 : decode cX12_rain 29 = .ok (.aload_n 0, 1) := by decide +kernel
theorem dX12_rain_30 : decode cX12_rain 30 = .ok (.getfield 24, 3) := by decide +kernel
theorem dX12_rain_33 : decode cX12_rain 33 = .ok (.bipush 30, 2) := by decide +kernel
theorem dX12_rain_35 : decode cX12_rain 35 = .ok (.if_icmp .ne 5, 3) := by decide +kernel
theorem dX12_rain_38 : decode cX12_rain 38 = .ok (.iconst (-1), 1) := by decide +kernel
theorem dX12_rain_39 : decode cX12_rain 39 = .ok (.ireturn, 1) := by decide +kernel
theorem dX12_rain_40 : decode cX12_rain 40 = .ok (.aload_n 0, 1) := by decide +kernel
theorem dX12_rain_41 : decode cX12_rain 41 = .ok (.getfield 86, 3) := by decide +kernel
theorem dX12_rain_44 : decode cX12_rain 44 = .ok (.aload_n 0, 1) := by decide +kernel
theorem dX12_rain_45 : decode cX12_rain 45 = .ok (.getfield 24, 3) := by decide +kernel
theorem dX12_rain_48 : decode cX12_rain 48 = .ok (.iload_n 1, 1) := by decide +kernel
theorem dX12_rain_49 : decode cX12_rain 49 = .ok (.iastore, 1) := by decide +kernel
theorem dX12_rain_50 : decode cX12_rain 50 = .ok (.aload_n 0, 1) := by decide +kernel
theorem dX12_rain_51 : decode cX12_rain 51 = .ok (.getfield 89, 3) := by decide +kernel
theorem dX12_rain_54 : decode cX12_rain 54 = .ok (.aload_n 0, 1) := by decide +kernel
theorem dX12_rain_55 : decode cX12_rain 55 = .ok (.getfield 24, 3) := by decide +kernel
theorem dX12_rain_58 : decode cX12_rain 58 = .ok (.iload_n 2, 1) := by decide +kernel
theorem dX12_rain_59 : decode cX12_rain 59 = .ok (.iastore, 1) := by decide +kernel
theorem dX12_rain_60 : decode cX12_rain 60 = .ok (.aload_n 0, 1) := by decide +kernel
theorem dX12_rain_61 : decode cX12_rain 61 = .ok (.getfield 92, 3) := by decide +kernel
theorem dX12_rain_64 : decode cX12_rain 64 = .ok (.aload_n 0, 1) := by decide +kernel
theorem dX12_rain_65 : decode cX12_rain 65 = .ok (.getfield 24, 3) := by decide +kernel
theorem dX12_rain_68 : decode cX12_rain 68 = .ok (.iload_n 3, 1) := by decide +kernel
theorem dX12_rain_69 : decode cX12_rain 69 = .ok (.iastore, 1) := by decide +kernel
theorem dX12_rain_70 : decode cX12_rain 70 = .ok (.aload_n 0, 1) := by decide +kernel
theorem dX12_rain_71 : decode cX12_rain 71 = .ok (.dup, 1) := by decide +kernel
theorem dX12_rain_72 : decode cX12_rain 72 = .ok (.getfield 24, 3) := by decide +kernel
theorem dX12_rain_75 : decode cX12_rain 75 = .ok (.iconst 1, 1) := by decide +kernel
theorem dX12_rain_76 : decode cX12_rain 76 = .ok (.iadd, 1) := by decide +kernel
theorem dX12_rain_77 : decode cX12_rain 77 = .ok (.putfield 24, 3) := by decide +kernel
theorem dX12_rain_80 : decode cX12_rain 80 = .ok (.aload_n 0, 1) := by decide +kernel
theorem dX12_rain_81 : decode cX12_rain 81 = .ok (.getfield 24, 3) := by decide +kernel
theorem dX12_rain_84 : decode cX12_rain 84 = .ok (.ireturn, 1) := by decide +kernel
theorem dX12_flag_0 : decode cX12_flag 0 = .ok (.aload_n 0, 1) := by decide +kernel
theorem dX12_flag_1 : decode cX12_flag 1 = .ok (.iconst 0, 1) := by decide +kernel
theorem dX12_flag_2 : decode cX12_flag 2 = .ok (.putfield 3, 3) := by decide +kernel
theorem dX12_flag_5 : decode cX12_flag 5 = .ok (.iload_n 1, 1) := by decide +kernel
theorem dX12_flag_6 : decode cX12_flag 6 = .ok (.iconst (-1), 1) := by decide +kernel
theorem dX12_flag_7 : decode cX12_flag 7 = .ok (.if_icmp .eq 11, 3) := by decide +kernel
theorem dX12_flag_10 : decode cX12_flag 10 = .ok (.aload_n 0, 1) := by decide +kernel
theorem dX12_flag_11 : decode cX12_flag 11 = .ok (.iload_n 1, 1) := by decide +kernel
theorem dX12_flag_12 : decode cX12_flag 12 = .ok (.invokevirtual 56, 3) := by decide +kernel
theorem dX12_flag_15 : decode cX12_flag 15 = .ok (.ifCond .eq 32, 3) := by decide +kernel
theorem dX12_flag_18 : decode cX12_flag 18 = .ok (.iload_n 2, 1) := by decide +kernel
theorem dX12_flag_19 : decode cX12_flag 19 = .ok (.ifCond .lt 28, 3) := by decide +kernel
theorem dX12_flag_22 : decode cX12_flag 22 = .ok (.iload_n 3, 1) := by decide +kernel
theorem dX12_flag_23 : decode cX12_flag 23 = .ok (.iload_n 2, 1) := by decide +kernel
theorem dX12_flag_24 : decode cX12_flag 24 = .ok (.if_icmp .lt 23, 3) := by decide +kernel
theorem dX12_flag_27 : decode cX12_flag 27 = .ok (.iload 4, 2) := by decide +kernel
theorem dX12_flag_29 : decode cX12_flag 29 = .ok (.i2l, 1) := by decide +kernel
theorem dX12_flag_30 : decode cX12_flag 30 = .ok (.lconst 0, 1) := by decide +kernel
theorem dX12_flag_31 : decode cX12_flag 31 = .ok (.lconst 1, 1) := by decide +kernel
theorem dX12_flag_32 : decode cX12_flag 32 = .ok (.invokestatic 42, 3) := by decide +kernel
theorem dX12_flag_35 : decode cX12_flag 35 = .ok (.ifCond .eq 12, 3) := by decide +kernel
theorem dX12_flag_38 : decode cX12_flag 38 = .ok (.aload_n 0, 1) := by decide +kernel
theorem dX12_flag_39 : decode cX12_flag 39 = .ok (.getfield 27, 3) := by decide +kernel
theorem dX12_flag_42 : decode cX12_flag 42 = .ok (.bipush 20, 2) := by decide +kernel
theorem dX12_flag_44 : decode cX12_flag 44 = .ok (.if_icmp .ne 5, 3) := by decide +kernel
theorem dX12_flag_47 : decode cX12_flag 47 = .ok (.iconst (-1), 1) := by decide +kernel
theorem dX12_flag_48 : decode cX12_flag 48 = .ok (.ireturn, 1) := by decide +kernel
theorem dX12_flag_49 : decode cX12_flag 49 = .ok (.aload_n 0, 1) := by decide +kernel
theorem dX12_flag_50 : decode cX12_flag 50 = .ok (.getfield 95, 3) := by decide +kernel
theorem dX12_flag_53 : decode cX12_flag 53 = .ok (.aload_n 0, 1) := by decide +kernel
theorem dX12_flag_54 : decode cX12_flag 54 = .ok (.getfield 27, 3) := by decide +kernel
theorem dX12_flag_57 : decode cX12_flag 57 = .ok (.iload_n 1, 1) := by decide +kernel
theorem dX12_flag_58 : decode cX12_flag 58 = .ok (.iastore, 1) := by decide +kernel
theorem dX12_flag_59 : decode cX12_flag 59 = .ok (.aload_n 0, 1) := by decide +kernel
theorem dX12_flag_60 : decode cX12_flag 60 = .ok (.getfield 98, 3) := by decide +kernel
theorem dX12_flag_63 : decode cX12_flag 63 = .ok (.aload_n 0, 1) := by decide +kernel
theorem dX12_flag_64 : decode cX12_flag 64 = .ok (.getfield 27, 3) := by decide +kernel
theorem dX12_flag_67 : decode cX12_flag 67 = .ok (.iload_n 2, 1) := by decide +kernel
theorem dX12_flag_68 : decode cX12_flag 68 = .ok (.iastore, 1) := by decide +kernel
theorem dX12_flag_69 : decode cX12_flag 69 = .ok (.aload_n 0, 1) := by decide +kernel
theorem dX12_flag_70 : decode cX12_flag 70 = .ok (.getfield 101, 3) := by decide +kernel
theorem dX12_flag_73 : decode cX12_flag 73 = .ok (.aload_n 0, 1) := by decide +kernel
theorem dX12_flag_74 : decode cX12_flag 74 = .ok (.getfield 27, 3) := by decide +kernel
theorem dX12_flag_77 : decode cX12_flag 77 = .ok (.iload_n 3, 1) := by decide +kernel
theorem dX12_flag_78 : decode cX12_flag 78 = .ok (.iastore, 1) := by decide +kernel
theorem dX12_flag_79 : decode cX12_flag 79 = .ok (.aload_n 0, 1) := by decide +kernel
theorem dX12_flag_80 : decode cX12_flag 80 = .ok (.getfield 104, 3) := by decide +kernel
theorem dX12_flag_83 : decode cX12_flag 83 = .ok (.aload_n 0, 1) := by decide +kernel
theorem dX12_flag_84 : decode cX12_flag 84 = .ok (.getfield 27, 3) := by decide +kernel
theorem dX12_flag_87 : decode cX12_flag 87 = .ok (.iload 4, 2) := by decide +kernel
theorem dX12_flag_89 : decode cX12_flag 89 = .ok (.iastore, 1) := by decide +kernel
theorem dX12_flag_90 : decode cX12_flag 90 = .ok (.aload_n 0, 1) := by decide +kernel
theorem dX12_flag_91 : decode cX12_flag 91 = .ok (.dup, 1) := by decide +kernel
theorem dX12_flag_92 : decode cX12_flag 92 = .ok (.getfield 27, 3) := by decide +kernel
theorem dX12_flag_95 : decode cX12_flag 95 = .ok (.iconst 1, 1) := by decide +kernel
theorem dX12_flag_96 : decode cX12_flag 96 = .ok (.iadd, 1) := by decide +kernel
theorem dX12_flag_97 : decode cX12_flag 97 = .ok (.putfield 27, 3) := by decide +kernel
theorem dX12_flag_100 : decode cX12_flag 100 = .ok (.aload_n 0, 1) := by decide +kernel
theorem dX12_flag_101 : decode cX12_flag 101 = .ok (.getfield 27, 3) := by decide +kernel
theorem dX12_flag_104 : decode cX12_flag 104 = .ok (.ireturn, 1) := by decide +kernel
theorem dX12_wet_0 : decode cX12_wet 0 = .ok (.iconst (-1), 1) := by decide +kernel
theorem dX12_wet_1 : decode cX12_wet 1 = .ok (.istore_n 3, 1) := by decide +kernel
theorem dX12_wet_2 : decode cX12_wet 2 = .ok (.iconst 0, 1) := by decide +kernel
theorem dX12_wet_3 : decode cX12_wet 3 = .ok (.istore 4, 2) := by decide +kernel
theorem dX12_wet_5 : decode cX12_wet 5 = .ok (.iload 4, 2) := by decide +kernel
theorem dX12_wet_7 : decode cX12_wet 7 = .ok (.aload_n 0, 1) := by decide +kernel
theorem dX12_wet_8 : decode cX12_wet 8 = .ok (.getfield 24, 3) := by decide +kernel
theorem dX12_wet_11 : decode cX12_wet 11 = .ok (.if_icmp .ge 54, 3) := by decide +kernel
theorem dX12_wet_14 : decode cX12_wet 14 = .ok (.aload_n 0, 1) := by decide +kernel
theorem dX12_wet_15 : decode cX12_wet 15 = .ok (.getfield 86, 3) := by decide +kernel
theorem dX12_wet_18 : decode cX12_wet 18 = .ok (.iload 4, 2) := by decide +kernel
theorem dX12_wet_20 : decode cX12_wet 20 = .ok (.iaload, 1) := by decide +kernel
theorem dX12_wet_21 : decode cX12_wet 21 = .ok (.iload_n 1, 1) := by decide +kernel
theorem dX12_wet_22 : decode cX12_wet 22 = .ok (.if_icmp .ne 37, 3) := by decide +kernel
theorem dX12_wet_25 : decode cX12_wet 25 = .ok (.aload_n 0, 1) := by decide +kernel
theorem dX12_wet_26 : decode cX12_wet 26 = .ok (.getfield 89, 3) := by decide +kernel
theorem dX12_wet_29 : decode cX12_wet 29 = .ok (.iload 4, 2) := by decide +kernel
theorem dX12_wet_31 : decode cX12_wet 31 = .ok (.iaload, 1) := by decide +kernel
theorem dX12_wet_32 : decode cX12_wet 32 = .ok (.iload_n 2, 1) := by decide +kernel
theorem dX12_wet_33 : decode cX12_wet 33 = .ok (.if_icmp .gt 26, 3) := by decide +kernel
theorem dX12_wet_36 : decode cX12_wet 36 = .ok (.iload_n 3, 1) := by decide +kernel
theorem dX12_wet_37 : decode cX12_wet 37 = .ok (.ifCond .lt 19, 3) := by decide +kernel
theorem dX12_wet_40 : decode cX12_wet 40 = .ok (.aload_n 0, 1) := by decide +kernel
theorem dX12_wet_41 : decode cX12_wet 41 = .ok (.getfield 89, 3) := by decide +kernel
theorem dX12_wet_44 : decode cX12_wet 44 = .ok (.iload 4, 2) := by decide +kernel
theorem dX12_wet_46 : decode cX12_wet 46 = .ok (.iaload, 1) := by decide +kernel
theorem dX12_wet_47 : decode cX12_wet 47 = .ok (.aload_n 0, 1) := by decide +kernel
theorem dX12_wet_48 : decode cX12_wet 48 = .ok (.getfield 89, 3) := by decide +kernel
theorem dX12_wet_51 : decode cX12_wet 51 = .ok (.iload_n 3, 1) := by decide +kernel
theorem dX12_wet_52 : decode cX12_wet 52 = .ok (.iaload, 1) := by decide +kernel
theorem dX12_wet_53 : decode cX12_wet 53 = .ok (.if_icmp .lt 6, 3) := by decide +kernel
theorem dX12_wet_56 : decode cX12_wet 56 = .ok (.iload 4, 2) := by decide +kernel
theorem dX12_wet_58 : decode cX12_wet 58 = .ok (.istore_n 3, 1) := by decide +kernel
theorem dX12_wet_59 : decode cX12_wet 59 = .ok (.iinc 4 1, 3) := by decide +kernel
theorem dX12_wet_62 : decode cX12_wet 62 = .ok (.goto (-57), 3) := by decide +kernel
theorem dX12_wet_65 : decode cX12_wet 65 = .ok (.iload_n 3, 1) := by decide +kernel
theorem dX12_wet_66 : decode cX12_wet 66 = .ok (.ifCond .ge 7, 3) := by decide +kernel
theorem dX12_wet_69 : decode cX12_wet 69 = .ok (.iconst 0, 1) := by decide +kernel
theorem dX12_wet_70 : decode cX12_wet 70 = .ok (.goto 9, 3) := by decide +kernel
theorem dX12_wet_73 : decode cX12_wet 73 = .ok (.aload_n 0, 1) := by decide +kernel
theorem dX12_wet_74 : decode cX12_wet 74 = .ok (.getfield 92, 3) := by decide +kernel
theorem dX12_wet_77 : decode cX12_wet 77 = .ok (.iload_n 3, 1) := by decide +kernel
theorem dX12_wet_78 : decode cX12_wet 78 = .ok (.iaload, 1) := by decide +kernel
theorem dX12_wet_79 : decode cX12_wet 79 = .ok (.ireturn, 1) := by decide +kernel
theorem dX12_isSlow_0 : decode cX12_isSlow 0 = .ok (.iconst 0, 1) := by decide +kernel
theorem dX12_isSlow_1 : decode cX12_isSlow 1 = .ok (.istore_n 2, 1) := by decide +kernel
theorem dX12_isSlow_2 : decode cX12_isSlow 2 = .ok (.iconst 0, 1) := by decide +kernel
theorem dX12_isSlow_3 : decode cX12_isSlow 3 = .ok (.istore_n 3, 1) := by decide +kernel
theorem dX12_isSlow_4 : decode cX12_isSlow 4 = .ok (.iload_n 3, 1) := by decide +kernel
theorem dX12_isSlow_5 : decode cX12_isSlow 5 = .ok (.aload_n 0, 1) := by decide +kernel
theorem dX12_isSlow_6 : decode cX12_isSlow 6 = .ok (.getfield 27, 3) := by decide +kernel
theorem dX12_isSlow_9 : decode cX12_isSlow 9 = .ok (.if_icmp .ge 49, 3) := by decide +kernel
theorem dX12_isSlow_12 : decode cX12_isSlow 12 = .ok (.iload_n 2, 1) := by decide +kernel
theorem dX12_isSlow_13 : decode cX12_isSlow 13 = .ok (.ifCond .ne 33, 3) := by decide +kernel
theorem dX12_isSlow_16 : decode cX12_isSlow 16 = .ok (.aload_n 0, 1) := by decide +kernel
theorem dX12_isSlow_17 : decode cX12_isSlow 17 = .ok (.getfield 104, 3) := by decide +kernel
theorem dX12_isSlow_20 : decode cX12_isSlow 20 = .ok (.iload_n 3, 1) := by decide +kernel
theorem dX12_isSlow_21 : decode cX12_isSlow 21 = .ok (.iaload, 1) := by decide +kernel
theorem dX12_isSlow_22 : decode cX12_isSlow 22 = .ok (.iconst 1, 1) := by decide +kernel
theorem dX12_isSlow_23 : decode cX12_isSlow 23 = .ok (.if_icmp .ne 27, 3) := by decide +kernel
theorem dX12_isSlow_26 : decode cX12_isSlow 26 = .ok (.aload_n 0, 1) := by decide +kernel
theorem dX12_isSlow_27 : decode cX12_isSlow 27 = .ok (.getfield 98, 3) := by decide +kernel
theorem dX12_isSlow_30 : decode cX12_isSlow 30 = .ok (.iload_n 3, 1) := by decide +kernel
theorem dX12_isSlow_31 : decode cX12_isSlow 31 = .ok (.iaload, 1) := by decide +kernel
theorem dX12_isSlow_32 : decode cX12_isSlow 32 = .ok (.iload_n 1, 1) := by decide +kernel
theorem dX12_isSlow_33 : decode cX12_isSlow 33 = .ok (.if_icmp .gt 17, 3) := by decide +kernel
theorem dX12_isSlow_36 : decode cX12_isSlow 36 = .ok (.iload_n 1, 1) := by decide +kernel
theorem dX12_isSlow_37 : decode cX12_isSlow 37 = .ok (.aload_n 0, 1) := by decide +kernel
theorem dX12_isSlow_38 : decode cX12_isSlow 38 = .ok (.getfield 101, 3) := by decide +kernel
theorem dX12_isSlow_41 : decode cX12_isSlow 41 = .ok (.iload_n 3, 1) := by decide +kernel
theorem dX12_isSlow_42 : decode cX12_isSlow 42 = .ok (.iaload, 1) := by decide +kernel
theorem dX12_isSlow_43 : decode cX12_isSlow 43 = .ok (.if_icmp .ge 7, 3) := by decide +kernel
theorem dX12_isSlow_46 : decode cX12_isSlow 46 = .ok (.iconst 1, 1) := by decide +kernel
theorem dX12_isSlow_47 : decode cX12_isSlow 47 = .ok (.goto 4, 3) := by decide +kernel
theorem dX12_isSlow_50 : decode cX12_isSlow 50 = .ok (.iconst 0, 1) := by decide +kernel
theorem dX12_isSlow_51 : decode cX12_isSlow 51 = .ok (.istore_n 2, 1) := by decide +kernel
theorem dX12_isSlow_52 : decode cX12_isSlow 52 = .ok (.iinc 3 1, 3) := by decide +kernel
theorem dX12_isSlow_55 : decode cX12_isSlow 55 = .ok (.goto (-51), 3) := by decide +kernel
theorem dX12_isSlow_58 : decode cX12_isSlow 58 = .ok (.iload_n 2, 1) := by decide +kernel
theorem dX12_isSlow_59 : decode cX12_isSlow 59 = .ok (.ireturn, 1) := by decide +kernel
theorem dX12_isYellow_0 : decode cX12_isYellow 0 = .ok (.iconst 0, 1) := by decide +kernel
theorem dX12_isYellow_1 : decode cX12_isYellow 1 = .ok (.istore_n 3, 1) := by decide +kernel
theorem dX12_isYellow_2 : decode cX12_isYellow 2 = .ok (.iconst 0, 1) := by decide +kernel
theorem dX12_isYellow_3 : decode cX12_isYellow 3 = .ok (.istore 4, 2) := by decide +kernel
theorem dX12_isYellow_5 : decode cX12_isYellow 5 = .ok (.iload 4, 2) := by decide +kernel
theorem dX12_isYellow_7 : decode cX12_isYellow 7 = .ok (.aload_n 0, 1) := by decide +kernel
theorem dX12_isYellow_8 : decode cX12_isYellow 8 = .ok (.getfield 27, 3) := by decide +kernel
theorem dX12_isYellow_11 : decode cX12_isYellow 11 = .ok (.if_icmp .ge 90, 3) := by decide +kernel
theorem dX12_isYellow_14 : decode cX12_isYellow 14 = .ok (.iload_n 1, 1) := by decide +kernel
theorem dX12_isYellow_15 : decode cX12_isYellow 15 = .ok (.iconst (-1), 1) := by decide +kernel
theorem dX12_isYellow_16 : decode cX12_isYellow 16 = .ok (.if_icmp .eq 25, 3) := by decide +kernel
theorem dX12_isYellow_19 : decode cX12_isYellow 19 = .ok (.aload_n 0, 1) := by decide +kernel
theorem dX12_isYellow_20 : decode cX12_isYellow 20 = .ok (.getfield 95, 3) := by decide +kernel
theorem dX12_isYellow_23 : decode cX12_isYellow 23 = .ok (.iload 4, 2) := by decide +kernel
theorem dX12_isYellow_25 : decode cX12_isYellow 25 = .ok (.iaload, 1) := by decide +kernel
theorem dX12_isYellow_26 : decode cX12_isYellow 26 = .ok (.iconst (-1), 1) := by decide +kernel
theorem dX12_isYellow_27 : decode cX12_isYellow 27 = .ok (.if_icmp .eq 14, 3) := by decide +kernel
theorem dX12_isYellow_30 : decode cX12_isYellow 30 = .ok (.aload_n 0, 1) := by decide +kernel
theorem dX12_isYellow_31 : decode cX12_isYellow 31 = .ok (.getfield 95, 3) := by decide +kernel
theorem dX12_isYellow_34 : decode cX12_isYellow 34 = .ok (.iload 4, 2) := by decide +kernel
theorem dX12_isYellow_36 : decode cX12_isYellow 36 = .ok (.iaload, 1) := by decide +kernel
theorem dX12_isYellow_37 : decode cX12_isYellow 37 = .ok (.iload_n 1, 1) := by decide +kernel
theorem dX12_isYellow_38 : decode cX12_isYellow 38 = .ok (.if_icmp .ne 7, 3) := by decide +kernel
theorem dX12_isYellow_41 : decode cX12_isYellow 41 = .ok (.iconst 1, 1) := by decide +kernel
theorem dX12_isYellow_42 : decode cX12_isYellow 42 = .ok (.goto 4, 3) := by decide +kernel
theorem dX12_isYellow_45 : decode cX12_isYellow 45 = .ok (.iconst 0, 1) := by decide +kernel
theorem dX12_isYellow_46 : decode cX12_isYellow 46 = .ok (.istore 5, 2) := by decide +kernel
theorem dX12_isYellow_48 : decode cX12_isYellow 48 = .ok (.iload_n 3, 1) := by decide +kernel
theorem dX12_isYellow_49 : decode cX12_isYellow 49 = .ok (.ifCond .ne 40, 3) := by decide +kernel
theorem dX12_isYellow_52 : decode cX12_isYellow 52 = .ok (.aload_n 0, 1) := by decide +kernel
theorem dX12_isYellow_53 : decode cX12_isYellow 53 = .ok (.getfield 104, 3) := by decide +kernel
theorem dX12_isYellow_56 : decode cX12_isYellow 56 = .ok (.iload 4, 2) := by decide +kernel
theorem dX12_isYellow_58 : decode cX12_isYellow 58 = .ok (.iaload, 1) := by decide +kernel
theorem dX12_isYellow_59 : decode cX12_isYellow 59 = .ok (.ifCond .ne 34, 3) := by decide +kernel
theorem dX12_isYellow_62 : decode cX12_isYellow 62 = .ok (.iload 5, 2) := by decide +kernel
theorem dX12_isYellow_64 : decode cX12_isYellow 64 = .ok (.ifCond .eq 29, 3) := by decide +kernel
theorem dX12_isYellow_67 : decode cX12_isYellow 67 = .ok (.aload_n 0, 1) := by decide +kernel
theorem dX12_isYellow_68 : decode cX12_isYellow 68 = .ok (.getfield 98, 3) := by decide +kernel
theorem dX12_isYellow_71 : decode cX12_isYellow 71 = .ok (.iload 4, 2) := by decide +kernel
theorem dX12_isYellow_73 : decode cX12_isYellow 73 = .ok (.iaload, 1) := by decide +kernel
theorem dX12_isYellow_74 : decode cX12_isYellow 74 = .ok (.iload_n 2, 1) := by decide +kernel
theorem dX12_isYellow_75 : decode cX12_isYellow 75 = .ok (.if_icmp .gt 18, 3) := by decide +kernel
theorem dX12_isYellow_78 : decode cX12_isYellow 78 = .ok (.iload_n 2, 1) := by decide +kernel
theorem dX12_isYellow_79 : decode cX12_isYellow 79 = .ok (.aload_n 0, 1) := by decide +kernel
theorem dX12_isYellow_80 : decode cX12_isYellow 80 = .ok (.getfield 101, 3) := by decide +kernel
theorem dX12_isYellow_83 : decode cX12_isYellow 83 = .ok (.iload 4, 2) := by decide +kernel
theorem dX12_isYellow_85 : decode cX12_isYellow 85 = .ok (.iaload, 1) := by decide +kernel
theorem dX12_isYellow_86 : decode cX12_isYellow 86 = .ok (.if_icmp .ge 7, 3) := by decide +kernel
theorem dX12_isYellow_89 : decode cX12_isYellow 89 = .ok (.iconst 1, 1) := by decide +kernel
theorem dX12_isYellow_90 : decode cX12_isYellow 90 = .ok (.goto 4, 3) := by decide +kernel
theorem dX12_isYellow_93 : decode cX12_isYellow 93 = .ok (.iconst 0, 1) := by decide +kernel
theorem dX12_isYellow_94 : decode cX12_isYellow 94 = .ok (.istore_n 3, 1) := by decide +kernel
theorem dX12_isYellow_95 : decode cX12_isYellow 95 = .ok (.iinc 4 1, 3) := by decide +kernel
theorem dX12_isYellow_98 : decode cX12_isYellow 98 = .ok (.goto (-93), 3) := by decide +kernel
theorem dX12_isYellow_101 : decode cX12_isYellow 101 = .ok (.iload_n 3, 1) := by decide +kernel
theorem dX12_isYellow_102 : decode cX12_isYellow 102 = .ok (.ireturn, 1) := by decide +kernel
theorem dX12_isCar_0 : decode cX12_isCar 0 = .ok (.iload_n 1, 1) := by decide +kernel
theorem dX12_isCar_1 : decode cX12_isCar 1 = .ok (.i2l, 1) := by decide +kernel
theorem dX12_isCar_2 : decode cX12_isCar 2 = .ok (.lconst 0, 1) := by decide +kernel
theorem dX12_isCar_3 : decode cX12_isCar 3 = .ok (.aload_n 0, 1) := by decide +kernel
theorem dX12_isCar_4 : decode cX12_isCar 4 = .ok (.getfield 30, 3) := by decide +kernel
theorem dX12_isCar_7 : decode cX12_isCar 7 = .ok (.iconst 1, 1) := by decide +kernel
theorem dX12_isCar_8 : decode cX12_isCar 8 = .ok (.isub, 1) := by decide +kernel
theorem dX12_isCar_9 : decode cX12_isCar 9 = .ok (.i2l, 1) := by decide +kernel
theorem dX12_isCar_10 : decode cX12_isCar 10 = .ok (.invokestatic 42, 3) := by decide +kernel
theorem dX12_isCar_13 : decode cX12_isCar 13 = .ok (.ireturn, 1) := by decide +kernel
theorem dX12_isStopLap_0 : decode cX12_isStopLap 0 = .ok (.iload_n 1, 1) := by decide +kernel
theorem dX12_isStopLap_1 : decode cX12_isStopLap 1 = .ok (.i2l, 1) := by decide +kernel
theorem dX12_isStopLap_2 : decode cX12_isStopLap 2 = .ok (.lconst 0, 1) := by decide +kernel
theorem dX12_isStopLap_3 : decode cX12_isStopLap 3 = .ok (.aload_n 0, 1) := by decide +kernel
theorem dX12_isStopLap_4 : decode cX12_isStopLap 4 = .ok (.getfield 10, 3) := by decide +kernel
theorem dX12_isStopLap_7 : decode cX12_isStopLap 7 = .ok (.iconst 2, 1) := by decide +kernel
theorem dX12_isStopLap_8 : decode cX12_isStopLap 8 = .ok (.isub, 1) := by decide +kernel
theorem dX12_isStopLap_9 : decode cX12_isStopLap 9 = .ok (.i2l, 1) := by decide +kernel
theorem dX12_isStopLap_10 : decode cX12_isStopLap 10 = .ok (.invokestatic 42, 3) := by decide +kernel
theorem dX12_isStopLap_13 : decode cX12_isStopLap 13 = .ok (.ireturn, 1) := by decide +kernel
theorem dX12_car_0 : decode cX12_car 0 = .ok (.aload_n 0, 1) := by decide +kernel
theorem dX12_car_1 : decode cX12_car 1 = .ok (.iconst 0, 1) := by decide +kernel
theorem dX12_car_2 : decode cX12_car 2 = .ok (.putfield 3, 3) := by decide +kernel
theorem dX12_car_5 : decode cX12_car 5 = .ok (.iload_n 1, 1) := by decide +kernel
theorem dX12_car_6 : decode cX12_car 6 = .ok (.i2l, 1) := by decide +kernel
theorem dX12_car_7 : decode cX12_car 7 = .ok (.ldc2_w 107, 3) := by decide +kernel
theorem dX12_car_10 : decode cX12_car 10 = .ok (.ldc2_w 109, 3) := by decide +kernel
theorem dX12_car_13 : decode cX12_car 13 = .ok (.invokestatic 42, 3) := by decide +kernel
theorem dX12_car_16 : decode cX12_car 16 = .ok (.ifCond .eq 72, 3) := by decide +kernel
theorem dX12_car_19 : decode cX12_car 19 = .ok (.iload_n 2, 1) := by decide +kernel
theorem dX12_car_20 : decode cX12_car 20 = .ok (.i2l, 1) := by decide +kernel
theorem dX12_car_21 : decode cX12_car 21 = .ok (.lconst 1, 1) := by decide +kernel
theorem dX12_car_22 : decode cX12_car 22 = .ok (.ldc2_w 111, 3) := by decide +kernel
theorem dX12_car_25 : decode cX12_car 25 = .ok (.invokestatic 42, 3) := by decide +kernel
theorem dX12_car_28 : decode cX12_car 28 = .ok (.ifCond .eq 60, 3) := by decide +kernel
theorem dX12_car_31 : decode cX12_car 31 = .ok (.iload_n 3, 1) := by decide +kernel
theorem dX12_car_32 : decode cX12_car 32 = .ok (.i2l, 1) := by decide +kernel
theorem dX12_car_33 : decode cX12_car 33 = .ok (.lconst 1, 1) := by decide +kernel
theorem dX12_car_34 : decode cX12_car 34 = .ok (.ldc2_w 113, 3) := by decide +kernel
theorem dX12_car_37 : decode cX12_car 37 = .ok (.invokestatic 42, 3) := by decide +kernel
theorem dX12_car_40 : decode cX12_car 40 = .ok (.ifCond .eq 48, 3) := by decide +kernel
theorem dX12_car_43 : decode cX12_car 43 = .ok (.iload 4, 2) := by decide +kernel
theorem dX12_car_45 : decode cX12_car 45 = .ok (.i2l, 1) := by decide +kernel
theorem dX12_car_46 : decode cX12_car 46 = .ok (.lconst 0, 1) := by decide +kernel
theorem dX12_car_47 : decode cX12_car 47 = .ok (.ldc2_w 66, 3) := by decide +kernel
theorem dX12_car_50 : decode cX12_car 50 = .ok (.invokestatic 42, 3) := by decide +kernel
theorem dX12_car_53 : decode cX12_car 53 = .ok (.ifCond .eq 35, 3) := by decide +kernel
theorem dX12_car_56 : decode cX12_car 56 = .ok (.iload 5, 2) := by decide +kernel
theorem dX12_car_58 : decode cX12_car 58 = .ok (.i2l, 1) := by decide +kernel
theorem dX12_car_59 : decode cX12_car 59 = .ok (.lconst 0, 1) := by decide +kernel
theorem dX12_car_60 : decode cX12_car 60 = .ok (.lconst 1, 1) := by decide +kernel
theorem dX12_car_61 : decode cX12_car 61 = .ok (.invokestatic 42, 3) := by decide +kernel
theorem dX12_car_64 : decode cX12_car 64 = .ok (.ifCond .eq 24, 3) := by decide +kernel
theorem dX12_car_67 : decode cX12_car 67 = .ok (.iload 6, 2) := by decide +kernel
theorem dX12_car_69 : decode cX12_car 69 = .ok (.i2l, 1) := by decide +kernel
theorem dX12_car_70 : decode cX12_car 70 = .ok (.lconst 0, 1) := by decide +kernel
theorem dX12_car_71 : decode cX12_car 71 = .ok (.iload_n 2, 1) := by decide +kernel
theorem dX12_car_72 : decode cX12_car 72 = .ok (.i2l, 1) := by decide +kernel
theorem dX12_car_73 : decode cX12_car 73 = .ok (.invokestatic 42, 3) := by decide +kernel
theorem dX12_car_76 : decode cX12_car 76 = .ok (.ifCond .eq 12, 3) := by decide +kernel
theorem dX12_car_79 : decode cX12_car 79 = .ok (.aload_n 0, 1) := by decide +kernel
theorem dX12_car_80 : decode cX12_car 80 = .ok (.getfield 30, 3) := by decide +kernel
theorem dX12_car_83 : decode cX12_car 83 = .ok (.bipush 6, 2) := by decide +kernel
theorem dX12_car_85 : decode cX12_car 85 = .ok (.if_icmp .ne 5, 3) := by decide +kernel
theorem dX12_car_88 : decode cX12_car 88 = .ok (.iconst (-1), 1) := by decide +kernel
theorem dX12_car_89 : decode cX12_car 89 = .ok (.ireturn, 1) := by decide +kernel
theorem dX12_car_90 : decode cX12_car 90 = .ok (.aload_n 0, 1) := by decide +kernel
theorem dX12_car_91 : decode cX12_car 91 = .ok (.getfield 30, 3) := by decide +kernel
theorem dX12_car_94 : decode cX12_car 94 = .ok (.istore 7, 2) := by decide +kernel
theorem dX12_car_96 : decode cX12_car 96 = .ok (.aload_n 0, 1) := by decide +kernel
theorem dX12_car_97 : decode cX12_car 97 = .ok (.getfield 115, 3) := by decide +kernel
theorem dX12_car_100 : decode cX12_car 100 = .ok (.iload 7, 2) := by decide +kernel
theorem dX12_car_102 : decode cX12_car 102 = .ok (.iload_n 1, 1) := by decide +kernel
theorem dX12_car_103 : decode cX12_car 103 = .ok (.iastore, 1) := by decide +kernel
theorem dX12_car_104 : decode cX12_car 104 = .ok (.aload_n 0, 1) := by decide +kernel
theorem dX12_car_105 : decode cX12_car 105 = .ok (.getfield 118, 3) := by decide +kernel
theorem dX12_car_108 : decode cX12_car 108 = .ok (.iload 7, 2) := by decide +kernel
theorem dX12_car_110 : decode cX12_car 110 = .ok (.iload_n 2, 1) := by decide +kernel
theorem dX12_car_111 : decode cX12_car 111 = .ok (.iastore, 1) := by decide +kernel
theorem dX12_car_112 : decode cX12_car 112 = .ok (.aload_n 0, 1) := by decide +kernel
theorem dX12_car_113 : decode cX12_car 113 = .ok (.getfield 121, 3) := by decide +kernel
theorem dX12_car_116 : decode cX12_car 116 = .ok (.iload 7, 2) := by decide +kernel
theorem dX12_car_118 : decode cX12_car 118 = .ok (.iload_n 3, 1) := by decide +kernel
theorem dX12_car_119 : decode cX12_car 119 = .ok (.iastore, 1) := by decide +kernel
theorem dX12_car_120 : decode cX12_car 120 = .ok (.aload_n 0, 1) := by decide +kernel
theorem dX12_car_121 : decode cX12_car 121 = .ok (.getfield 124, 3) := by decide +kernel
theorem dX12_car_124 : decode cX12_car 124 = .ok (.iload 7, 2) := by decide +kernel
theorem dX12_car_126 : decode cX12_car 126 = .ok (.iload 4, 2) := by decide +kernel
theorem dX12_car_128 : decode cX12_car 128 = .ok (.iastore, 1) := by decide +kernel
theorem dX12_car_129 : decode cX12_car 129 = .ok (.aload_n 0, 1) := by decide +kernel
theorem dX12_car_130 : decode cX12_car 130 = .ok (.getfield 127, 3) := by decide +kernel
theorem dX12_car_133 : decode cX12_car 133 = .ok (.iload 7, 2) := by decide +kernel
theorem dX12_car_135 : decode cX12_car 135 = .ok (.iload 5, 2) := by decide +kernel
theorem dX12_car_137 : decode cX12_car 137 = .ok (.iastore, 1) := by decide +kernel
theorem dX12_car_138 : decode cX12_car 138 = .ok (.aload_n 0, 1) := by decide +kernel
theorem dX12_car_139 : decode cX12_car 139 = .ok (.getfield 130, 3) := by decide +kernel
theorem dX12_car_142 : decode cX12_car 142 = .ok (.iload 7, 2) := by decide +kernel
theorem dX12_car_144 : decode cX12_car 144 = .ok (.iload 6, 2) := by decide +kernel
theorem dX12_car_146 : decode cX12_car 146 = .ok (.iastore, 1) := by decide +kernel
theorem dX12_car_147 : decode cX12_car 147 = .ok (.aload_n 0, 1) := by decide +kernel
theorem dX12_car_148 : decode cX12_car 148 = .ok (.getfield 133, 3) := by decide +kernel
theorem dX12_car_151 : decode cX12_car 151 = .ok (.iload 7, 2) := by decide +kernel
theorem dX12_car_153 : decode cX12_car 153 = .ok (.iconst 0, 1) := by decide +kernel
theorem dX12_car_154 : decode cX12_car 154 = .ok (.iastore, 1) := by decide +kernel
theorem dX12_car_155 : decode cX12_car 155 = .ok (.aload_n 0, 1) := by decide +kernel
theorem dX12_car_156 : decode cX12_car 156 = .ok (.getfield 136, 3) := by decide +kernel
theorem dX12_car_159 : decode cX12_car 159 = .ok (.iload 7, 2) := by decide +kernel
theorem dX12_car_161 : decode cX12_car 161 = .ok (.iconst 0, 1) := by decide +kernel
theorem dX12_car_162 : decode cX12_car 162 = .ok (.iastore, 1) := by decide +kernel
theorem dX12_car_163 : decode cX12_car 163 = .ok (.aload_n 0, 1) := by decide +kernel
theorem dX12_car_164 : decode cX12_car 164 = .ok (.getfield 139, 3) := by decide +kernel
theorem dX12_car_167 : decode cX12_car 167 = .ok (.iload 7, 2) := by decide +kernel
theorem dX12_car_169 : decode cX12_car 169 = .ok (.iconst 0, 1) := by decide +kernel
theorem dX12_car_170 : decode cX12_car 170 = .ok (.iastore, 1) := by decide +kernel
theorem dX12_car_171 : decode cX12_car 171 = .ok (.aload_n 0, 1) := by decide +kernel
theorem dX12_car_172 : decode cX12_car 172 = .ok (.getfield 142, 3) := by decide +kernel
theorem dX12_car_175 : decode cX12_car 175 = .ok (.iload 7, 2) := by decide +kernel
theorem dX12_car_177 : decode cX12_car 177 = .ok (.iconst 0, 1) := by decide +kernel
theorem dX12_car_178 : decode cX12_car 178 = .ok (.bastore, 1) := by decide +kernel
theorem dX12_car_179 : decode cX12_car 179 = .ok (.aload_n 0, 1) := by decide +kernel
theorem dX12_car_180 : decode cX12_car 180 = .ok (.dup, 1) := by decide +kernel
theorem dX12_car_181 : decode cX12_car 181 = .ok (.getfield 30, 3) := by decide +kernel
theorem dX12_car_184 : decode cX12_car 184 = .ok (.iconst 1, 1) := by decide +kernel
theorem dX12_car_185 : decode cX12_car 185 = .ok (.iadd, 1) := by decide +kernel
theorem dX12_car_186 : decode cX12_car 186 = .ok (.putfield 30, 3) := by decide +kernel
theorem dX12_car_189 : decode cX12_car 189 = .ok (.iload 7, 2) := by decide +kernel
theorem dX12_car_191 : decode cX12_car 191 = .ok (.ireturn, 1) := by decide +kernel
theorem dX12_tyre_0 : decode cX12_tyre 0 = .ok (.aload_n 0, 1) := by decide +kernel
theorem dX12_tyre_1 : decode cX12_tyre 1 = .ok (.iconst 0, 1) := by decide +kernel
theorem dX12_tyre_2 : decode cX12_tyre 2 = .ok (.putfield 3, 3) := by decide +kernel
theorem dX12_tyre_5 : decode cX12_tyre 5 = .ok (.aload_n 0, 1) := by decide +kernel
theorem dX12_tyre_6 : decode cX12_tyre 6 = .ok (.iload_n 1, 1) := by decide +kernel
theorem dX12_tyre_7 : decode cX12_tyre 7 = .ok (.invokevirtual 145, 3) := by decide +kernel
theorem dX12_tyre_10 : decode cX12_tyre 10 = .ok (.ifCond .eq 37, 3) := by decide +kernel
theorem dX12_tyre_13 : decode cX12_tyre 13 = .ok (.iload_n 2, 1) := by decide +kernel
theorem dX12_tyre_14 : decode cX12_tyre 14 = .ok (.i2l, 1) := by decide +kernel
theorem dX12_tyre_15 : decode cX12_tyre 15 = .ok (.lconst 0, 1) := by decide +kernel
theorem dX12_tyre_16 : decode cX12_tyre 16 = .ok (.ldc2_w 66, 3) := by decide +kernel
theorem dX12_tyre_19 : decode cX12_tyre 19 = .ok (.invokestatic 42, 3) := by decide +kernel
theorem dX12_tyre_22 : decode cX12_tyre 22 = .ok (.ifCond .eq 25, 3) := by decide +kernel
theorem dX12_tyre_25 : decode cX12_tyre 25 = .ok (.iload_n 3, 1) := by decide +kernel
theorem dX12_tyre_26 : decode cX12_tyre 26 = .ok (.i2l, 1) := by decide +kernel
theorem dX12_tyre_27 : decode cX12_tyre 27 = .ok (.lconst 0, 1) := by decide +kernel
theorem dX12_tyre_28 : decode cX12_tyre 28 = .ok (.ldc2_w 78, 3) := by decide +kernel
theorem dX12_tyre_31 : decode cX12_tyre 31 = .ok (.invokestatic 42, 3) := by decide +kernel
theorem dX12_tyre_34 : decode cX12_tyre 34 = .ok (.ifCond .eq 13, 3) := by decide +kernel
theorem dX12_tyre_37 : decode cX12_tyre 37 = .ok (.aload_n 0, 1) := by decide +kernel
theorem dX12_tyre_38 : decode cX12_tyre 38 = .ok (.getfield 133, 3) := by decide +kernel
theorem dX12_tyre_41 : decode cX12_tyre 41 = .ok (.iload_n 1, 1) := by decide +kernel
theorem dX12_tyre_42 : decode cX12_tyre 42 = .ok (.iaload, 1) := by decide +kernel
theorem dX12_tyre_43 : decode cX12_tyre 43 = .ok (.iconst 4, 1) := by decide +kernel
theorem dX12_tyre_44 : decode cX12_tyre 44 = .ok (.if_icmp .ne 5, 3) := by decide +kernel
theorem dX12_tyre_47 : decode cX12_tyre 47 = .ok (.iconst (-1), 1) := by decide +kernel
theorem dX12_tyre_48 : decode cX12_tyre 48 = .ok (.ireturn, 1) := by decide +kernel
theorem dX12_tyre_49 : decode cX12_tyre 49 = .ok (.aload_n 0, 1) := by decide +kernel
theorem dX12_tyre_50 : decode cX12_tyre 50 = .ok (.getfield 148, 3) := by decide +kernel
theorem dX12_tyre_53 : decode cX12_tyre 53 = .ok (.iconst 4, 1) := by decide +kernel
theorem dX12_tyre_54 : decode cX12_tyre 54 = .ok (.iload_n 1, 1) := by decide +kernel
theorem dX12_tyre_55 : decode cX12_tyre 55 = .ok (.imul, 1) := by decide +kernel
theorem dX12_tyre_56 : decode cX12_tyre 56 = .ok (.aload_n 0, 1) := by decide +kernel
theorem dX12_tyre_57 : decode cX12_tyre 57 = .ok (.getfield 133, 3) := by decide +kernel
theorem dX12_tyre_60 : decode cX12_tyre 60 = .ok (.iload_n 1, 1) := by decide +kernel
theorem dX12_tyre_61 : decode cX12_tyre 61 = .ok (.iaload, 1) := by decide +kernel
theorem dX12_tyre_62 : decode cX12_tyre 62 = .ok (.iadd, 1) := by decide +kernel
theorem dX12_tyre_63 : decode cX12_tyre 63 = .ok (.iload_n 2, 1) := by decide +kernel
theorem dX12_tyre_64 : decode cX12_tyre 64 = .ok (.iastore, 1) := by decide +kernel
theorem dX12_tyre_65 : decode cX12_tyre 65 = .ok (.aload_n 0, 1) := by decide +kernel
theorem dX12_tyre_66 : decode cX12_tyre 66 = .ok (.getfield 151, 3) := by decide +kernel
theorem dX12_tyre_69 : decode cX12_tyre 69 = .ok (.iconst 4, 1) := by decide +kernel
theorem dX12_tyre_70 : decode cX12_tyre 70 = .ok (.iload_n 1, 1) := by decide +kernel
theorem dX12_tyre_71 : decode cX12_tyre 71 = .ok (.imul, 1) := by decide +kernel
theorem dX12_tyre_72 : decode cX12_tyre 72 = .ok (.aload_n 0, 1) := by decide +kernel
theorem dX12_tyre_73 : decode cX12_tyre 73 = .ok (.getfield 133, 3) := by decide +kernel
theorem dX12_tyre_76 : decode cX12_tyre 76 = .ok (.iload_n 1, 1) := by decide +kernel
theorem dX12_tyre_77 : decode cX12_tyre 77 = .ok (.iaload, 1) := by decide +kernel
theorem dX12_tyre_78 : decode cX12_tyre 78 = .ok (.iadd, 1) := by decide +kernel
theorem dX12_tyre_79 : decode cX12_tyre 79 = .ok (.iload_n 3, 1) := by decide +kernel
theorem dX12_tyre_80 : decode cX12_tyre 80 = .ok (.iastore, 1) := by decide +kernel
theorem dX12_tyre_81 : decode cX12_tyre 81 = .ok (.aload_n 0, 1) := by decide +kernel
theorem dX12_tyre_82 : decode cX12_tyre 82 = .ok (.getfield 133, 3) := by decide +kernel
theorem dX12_tyre_85 : decode cX12_tyre 85 = .ok (.iload_n 1, 1) := by decide +kernel
theorem dX12_tyre_86 : decode cX12_tyre 86 = .ok (.dup2, 1) := by decide +kernel
theorem dX12_tyre_87 : decode cX12_tyre 87 = .ok (.iaload, 1) := by decide +kernel
theorem dX12_tyre_88 : decode cX12_tyre 88 = .ok (.iconst 1, 1) := by decide +kernel
theorem dX12_tyre_89 : decode cX12_tyre 89 = .ok (.iadd, 1) := by decide +kernel
theorem dX12_tyre_90 : decode cX12_tyre 90 = .ok (.iastore, 1) := by decide +kernel
theorem dX12_tyre_91 : decode cX12_tyre 91 = .ok (.aload_n 0, 1) := by decide +kernel
theorem dX12_tyre_92 : decode cX12_tyre 92 = .ok (.getfield 133, 3) := by decide +kernel
theorem dX12_tyre_95 : decode cX12_tyre 95 = .ok (.iload_n 1, 1) := by decide +kernel
theorem dX12_tyre_96 : decode cX12_tyre 96 = .ok (.iaload, 1) := by decide +kernel
theorem dX12_tyre_97 : decode cX12_tyre 97 = .ok (.iconst 1, 1) := by decide +kernel
theorem dX12_tyre_98 : decode cX12_tyre 98 = .ok (.isub, 1) := by decide +kernel
theorem dX12_tyre_99 : decode cX12_tyre 99 = .ok (.ireturn, 1) := by decide +kernel
theorem dX12_order_0 : decode cX12_order 0 = .ok (.aload_n 0, 1) := by decide +kernel
theorem dX12_order_1 : decode cX12_order 1 = .ok (.iconst 0, 1) := by decide +kernel
theorem dX12_order_2 : decode cX12_order 2 = .ok (.putfield 3, 3) := by decide +kernel
theorem dX12_order_5 : decode cX12_order 5 = .ok (.aload_n 0, 1) := by decide +kernel
theorem dX12_order_6 : decode cX12_order 6 = .ok (.iload_n 1, 1) := by decide +kernel
theorem dX12_order_7 : decode cX12_order 7 = .ok (.invokevirtual 145, 3) := by decide +kernel
theorem dX12_order_10 : decode cX12_order 10 = .ok (.ifCond .eq 53, 3) := by decide +kernel
theorem dX12_order_13 : decode cX12_order 13 = .ok (.aload_n 0, 1) := by decide +kernel
theorem dX12_order_14 : decode cX12_order 14 = .ok (.iload_n 2, 1) := by decide +kernel
theorem dX12_order_15 : decode cX12_order 15 = .ok (.invokevirtual 154, 3) := by decide +kernel
theorem dX12_order_18 : decode cX12_order 18 = .ok (.ifCond .eq 45, 3) := by decide +kernel
theorem dX12_order_21 : decode cX12_order 21 = .ok (.iload_n 3, 1) := by decide +kernel
theorem dX12_order_22 : decode cX12_order 22 = .ok (.i2l, 1) := by decide +kernel
theorem dX12_order_23 : decode cX12_order 23 = .ok (.lconst 0, 1) := by decide +kernel
theorem dX12_order_24 : decode cX12_order 24 = .ok (.lconst 1, 1) := by decide +kernel
theorem dX12_order_25 : decode cX12_order 25 = .ok (.invokestatic 42, 3) := by decide +kernel
theorem dX12_order_28 : decode cX12_order 28 = .ok (.ifCond .eq 35, 3) := by decide +kernel
theorem dX12_order_31 : decode cX12_order 31 = .ok (.iload 4, 2) := by decide +kernel
theorem dX12_order_33 : decode cX12_order 33 = .ok (.i2l, 1) := by decide +kernel
theorem dX12_order_34 : decode cX12_order 34 = .ok (.iload_n 3, 1) := by decide +kernel
theorem dX12_order_35 : decode cX12_order 35 = .ok (.ifCond .ne 9, 3) := by decide +kernel
theorem dX12_order_38 : decode cX12_order 38 = .ok (.ldc2_w 64, 3) := by decide +kernel
theorem dX12_order_41 : decode cX12_order 41 = .ok (.goto 4, 3) := by decide +kernel
theorem dX12_order_44 : decode cX12_order 44 = .ok (.lconst 0, 1) := by decide +kernel
theorem dX12_order_45 : decode cX12_order 45 = .ok (.lconst 1, 1) := by decide +kernel
theorem dX12_order_46 : decode cX12_order 46 = .ok (.invokestatic 42, 3) := by decide +kernel
theorem dX12_order_49 : decode cX12_order 49 = .ok (.ifCond .eq 14, 3) := by decide +kernel
theorem dX12_order_52 : decode cX12_order 52 = .ok (.aload_n 0, 1) := by decide +kernel
theorem dX12_order_53 : decode cX12_order 53 = .ok (.getfield 136, 3) := by decide +kernel
theorem dX12_order_56 : decode cX12_order 56 = .ok (.iload_n 1, 1) := by decide +kernel
theorem dX12_order_57 : decode cX12_order 57 = .ok (.iaload, 1) := by decide +kernel
theorem dX12_order_58 : decode cX12_order 58 = .ok (.bipush 12, 2) := by decide +kernel
theorem dX12_order_60 : decode cX12_order 60 = .ok (.if_icmp .ne 5, 3) := by decide +kernel
theorem dX12_order_63 : decode cX12_order 63 = .ok (.iconst (-1), 1) := by decide +kernel
theorem dX12_order_64 : decode cX12_order 64 = .ok (.ireturn, 1) := by decide +kernel
theorem dX12_order_65 : decode cX12_order 65 = .ok (.bipush 12, 2) := by decide +kernel
theorem dX12_order_67 : decode cX12_order 67 = .ok (.iload_n 1, 1) := by decide +kernel
theorem dX12_order_68 : decode cX12_order 68 = .ok (.imul, 1) := by decide +kernel
theorem dX12_order_69 : decode cX12_order 69 = .ok (.aload_n 0, 1) := by decide +kernel
theorem dX12_order_70 : decode cX12_order 70 = .ok (.getfield 136, 3) := by decide +kernel
theorem dX12_order_73 : decode cX12_order 73 = .ok (.iload_n 1, 1) := by decide +kernel
theorem dX12_order_74 : decode cX12_order 74 = .ok (.iaload, 1) := by decide +kernel
theorem dX12_order_75 : decode cX12_order 75 = .ok (.iadd, 1) := by decide +kernel
theorem dX12_order_76 : decode cX12_order 76 = .ok (.istore 5, 2) := by decide +kernel
theorem dX12_order_78 : decode cX12_order 78 = .ok (.aload_n 0, 1) := by decide +kernel
theorem dX12_order_79 : decode cX12_order 79 = .ok (.getfield 157, 3) := by decide +kernel
theorem dX12_order_82 : decode cX12_order 82 = .ok (.iload 5, 2) := by decide +kernel
theorem dX12_order_84 : decode cX12_order 84 = .ok (.iload_n 2, 1) := by decide +kernel
theorem dX12_order_85 : decode cX12_order 85 = .ok (.iastore, 1) := by decide +kernel
theorem dX12_order_86 : decode cX12_order 86 = .ok (.aload_n 0, 1) := by decide +kernel
theorem dX12_order_87 : decode cX12_order 87 = .ok (.getfield 160, 3) := by decide +kernel
theorem dX12_order_90 : decode cX12_order 90 = .ok (.iload 5, 2) := by decide +kernel
theorem dX12_order_92 : decode cX12_order 92 = .ok (.iload_n 3, 1) := by decide +kernel
theorem dX12_order_93 : decode cX12_order 93 = .ok (.iastore, 1) := by decide +kernel
theorem dX12_order_94 : decode cX12_order 94 = .ok (.aload_n 0, 1) := by decide +kernel
theorem dX12_order_95 : decode cX12_order 95 = .ok (.getfield 163, 3) := by decide +kernel
theorem dX12_order_98 : decode cX12_order 98 = .ok (.iload 5, 2) := by decide +kernel
theorem dX12_order_100 : decode cX12_order 100 = .ok (.iload 4, 2) := by decide +kernel
theorem dX12_order_102 : decode cX12_order 102 = .ok (.iastore, 1) := by decide +kernel
theorem dX12_order_103 : decode cX12_order 103 = .ok (.aload_n 0, 1) := by decide +kernel
theorem dX12_order_104 : decode cX12_order 104 = .ok (.getfield 136, 3) := by decide +kernel
theorem dX12_order_107 : decode cX12_order 107 = .ok (.iload_n 1, 1) := by decide +kernel
theorem dX12_order_108 : decode cX12_order 108 = .ok (.dup2, 1) := by decide +kernel
theorem dX12_order_109 : decode cX12_order 109 = .ok (.iaload, 1) := by decide +kernel
theorem dX12_order_110 : decode cX12_order 110 = .ok (.iconst 1, 1) := by decide +kernel
theorem dX12_order_111 : decode cX12_order 111 = .ok (.iadd, 1) := by decide +kernel
theorem dX12_order_112 : decode cX12_order 112 = .ok (.iastore, 1) := by decide +kernel
theorem dX12_order_113 : decode cX12_order 113 = .ok (.aload_n 0, 1) := by decide +kernel
theorem dX12_order_114 : decode cX12_order 114 = .ok (.getfield 136, 3) := by decide +kernel
theorem dX12_order_117 : decode cX12_order 117 = .ok (.iload_n 1, 1) := by decide +kernel
theorem dX12_order_118 : decode cX12_order 118 = .ok (.iaload, 1) := by decide +kernel
theorem dX12_order_119 : decode cX12_order 119 = .ok (.ireturn, 1) := by decide +kernel
theorem dX12_isSet_0 : decode cX12_isSet 0 = .ok (.iload_n 0, 1) := by decide +kernel
theorem dX12_isSet_1 : decode cX12_isSet 1 = .ok (.i2l, 1) := by decide +kernel
theorem dX12_isSet_2 : decode cX12_isSet 2 = .ok (.ldc2_w 64, 3) := by decide +kernel
theorem dX12_isSet_5 : decode cX12_isSet 5 = .ok (.ldc2_w 66, 3) := by decide +kernel
theorem dX12_isSet_8 : decode cX12_isSet 8 = .ok (.invokestatic 42, 3) := by decide +kernel
theorem dX12_isSet_11 : decode cX12_isSet 11 = .ok (.ireturn, 1) := by decide +kernel
theorem dX12_stop_0 : decode cX12_stop 0 = .ok (.aload_n 0, 1) := by decide +kernel
theorem dX12_stop_1 : decode cX12_stop 1 = .ok (.iconst 0, 1) := by decide +kernel
theorem dX12_stop_2 : decode cX12_stop 2 = .ok (.putfield 3, 3) := by decide +kernel
theorem dX12_stop_5 : decode cX12_stop 5 = .ok (.aload_n 0, 1) := by decide +kernel
theorem dX12_stop_6 : decode cX12_stop 6 = .ok (.iload_n 1, 1) := by decide +kernel
theorem dX12_stop_7 : decode cX12_stop 7 = .ok (.invokevirtual 145, 3) := by decide +kernel
theorem dX12_stop_10 : decode cX12_stop 10 = .ok (.ifCond .eq 41, 3) := by decide +kernel
theorem dX12_stop_13 : decode cX12_stop 13 = .ok (.aload_n 0, 1) := by decide +kernel
theorem dX12_stop_14 : decode cX12_stop 14 = .ok (.iload_n 2, 1) := by decide +kernel
theorem dX12_stop_15 : decode cX12_stop 15 = .ok (.invokevirtual 166, 3) := by decide +kernel
theorem dX12_stop_18 : decode cX12_stop 18 = .ok (.ifCond .eq 33, 3) := by decide +kernel
theorem dX12_stop_21 : decode cX12_stop 21 = .ok (.iload_n 3, 1) := by decide +kernel
theorem dX12_stop_22 : decode cX12_stop 22 = .ok (.invokestatic 169, 3) := by decide +kernel
theorem dX12_stop_25 : decode cX12_stop 25 = .ok (.ifCond .eq 26, 3) := by decide +kernel
theorem dX12_stop_28 : decode cX12_stop 28 = .ok (.iload 4, 2) := by decide +kernel
theorem dX12_stop_30 : decode cX12_stop 30 = .ok (.i2l, 1) := by decide +kernel
theorem dX12_stop_31 : decode cX12_stop 31 = .ok (.lconst 0, 1) := by decide +kernel
theorem dX12_stop_32 : decode cX12_stop 32 = .ok (.ldc2_w 111, 3) := by decide +kernel
theorem dX12_stop_35 : decode cX12_stop 35 = .ok (.invokestatic 42, 3) := by decide +kernel
theorem dX12_stop_38 : decode cX12_stop 38 = .ok (.ifCond .eq 13, 3) := by decide +kernel
theorem dX12_stop_41 : decode cX12_stop 41 = .ok (.aload_n 0, 1) := by decide +kernel
theorem dX12_stop_42 : decode cX12_stop 42 = .ok (.getfield 139, 3) := by decide +kernel
theorem dX12_stop_45 : decode cX12_stop 45 = .ok (.iload_n 1, 1) := by decide +kernel
theorem dX12_stop_46 : decode cX12_stop 46 = .ok (.iaload, 1) := by decide +kernel
theorem dX12_stop_47 : decode cX12_stop 47 = .ok (.iconst 5, 1) := by decide +kernel
theorem dX12_stop_48 : decode cX12_stop 48 = .ok (.if_icmp .ne 5, 3) := by decide +kernel
theorem dX12_stop_51 : decode cX12_stop 51 = .ok (.iconst (-1), 1) := by decide +kernel
theorem dX12_stop_52 : decode cX12_stop 52 = .ok (.ireturn, 1) := by decide +kernel
theorem dX12_stop_53 : decode cX12_stop 53 = .ok (.aload_n 0, 1) := by decide +kernel
theorem dX12_stop_54 : decode cX12_stop 54 = .ok (.iload_n 1, 1) := by decide +kernel
theorem dX12_stop_55 : decode cX12_stop 55 = .ok (.iload_n 2, 1) := by decide +kernel
theorem dX12_stop_56 : decode cX12_stop 56 = .ok (.iload_n 3, 1) := by decide +kernel
theorem dX12_stop_57 : decode cX12_stop 57 = .ok (.iload 4, 2) := by decide +kernel
theorem dX12_stop_59 : decode cX12_stop 59 = .ok (.invokevirtual 172, 3) := by decide +kernel
theorem dX12_stop_62 : decode cX12_stop 62 = .ok (.aload_n 0, 1) := by decide +kernel
theorem dX12_stop_63 : decode cX12_stop 63 = .ok (.getfield 139, 3) := by decide +kernel
theorem dX12_stop_66 : decode cX12_stop 66 = .ok (.iload_n 1, 1) := by decide +kernel
theorem dX12_stop_67 : decode cX12_stop 67 = .ok (.iaload, 1) := by decide +kernel
theorem dX12_stop_68 : decode cX12_stop 68 = .ok (.ireturn, 1) := by decide +kernel
theorem dX12_puts_0 : decode cX12_puts 0 = .ok (.iconst 5, 1) := by decide +kernel
theorem dX12_puts_1 : decode cX12_puts 1 = .ok (.iload_n 1, 1) := by decide +kernel
theorem dX12_puts_2 : decode cX12_puts 2 = .ok (.imul, 1) := by decide +kernel
theorem dX12_puts_3 : decode cX12_puts 3 = .ok (.aload_n 0, 1) := by decide +kernel
theorem dX12_puts_4 : decode cX12_puts 4 = .ok (.getfield 139, 3) := by decide +kernel
theorem dX12_puts_7 : decode cX12_puts 7 = .ok (.iload_n 1, 1) := by decide +kernel
theorem dX12_puts_8 : decode cX12_puts 8 = .ok (.iaload, 1) := by decide +kernel
theorem dX12_puts_9 : decode cX12_puts 9 = .ok (.iadd, 1) := by decide +kernel
theorem dX12_puts_10 : decode cX12_puts 10 = .ok (.istore 5, 2) := by decide +kernel
theorem dX12_puts_12 : decode cX12_puts 12 = .ok (.aload_n 0, 1) := by decide +kernel
theorem dX12_puts_13 : decode cX12_puts 13 = .ok (.getfield 176, 3) := by decide +kernel
theorem dX12_puts_16 : decode cX12_puts 16 = .ok (.iload 5, 2) := by decide +kernel
theorem dX12_puts_18 : decode cX12_puts 18 = .ok (.iload_n 2, 1) := by decide +kernel
theorem dX12_puts_19 : decode cX12_puts 19 = .ok (.iastore, 1) := by decide +kernel
theorem dX12_puts_20 : decode cX12_puts 20 = .ok (.aload_n 0, 1) := by decide +kernel
theorem dX12_puts_21 : decode cX12_puts 21 = .ok (.getfield 179, 3) := by decide +kernel
theorem dX12_puts_24 : decode cX12_puts 24 = .ok (.iload 5, 2) := by decide +kernel
theorem dX12_puts_26 : decode cX12_puts 26 = .ok (.iload_n 3, 1) := by decide +kernel
theorem dX12_puts_27 : decode cX12_puts 27 = .ok (.iastore, 1) := by decide +kernel
theorem dX12_puts_28 : decode cX12_puts 28 = .ok (.aload_n 0, 1) := by decide +kernel
theorem dX12_puts_29 : decode cX12_puts 29 = .ok (.getfield 182, 3) := by decide +kernel
theorem dX12_puts_32 : decode cX12_puts 32 = .ok (.iload 5, 2) := by decide +kernel
theorem dX12_puts_34 : decode cX12_puts 34 = .ok (.iload 4, 2) := by decide +kernel
theorem dX12_puts_36 : decode cX12_puts 36 = .ok (.iastore, 1) := by decide +kernel
theorem dX12_puts_37 : decode cX12_puts 37 = .ok (.aload_n 0, 1) := by decide +kernel
theorem dX12_puts_38 : decode cX12_puts 38 = .ok (.getfield 139, 3) := by decide +kernel
theorem dX12_puts_41 : decode cX12_puts 41 = .ok (.iload_n 1, 1) := by decide +kernel
theorem dX12_puts_42 : decode cX12_puts 42 = .ok (.dup2, 1) := by decide +kernel
theorem dX12_puts_43 : decode cX12_puts 43 = .ok (.iaload, 1) := by decide +kernel
theorem dX12_puts_44 : decode cX12_puts 44 = .ok (.iconst 1, 1) := by decide +kernel
theorem dX12_puts_45 : decode cX12_puts 45 = .ok (.iadd, 1) := by decide +kernel
theorem dX12_puts_46 : decode cX12_puts 46 = .ok (.iastore, 1) := by decide +kernel
theorem dX12_puts_47 : decode cX12_puts 47 = .ok (.return_, 1) := by decide +kernel
theorem dX12_drop_0 : decode cX12_drop 0 = .ok (.aload_n 0, 1) := by decide +kernel
theorem dX12_drop_1 : decode cX12_drop 1 = .ok (.iconst 0, 1) := by decide +kernel
theorem dX12_drop_2 : decode cX12_drop 2 = .ok (.putfield 3, 3) := by decide +kernel
theorem dX12_drop_5 : decode cX12_drop 5 = .ok (.aload_n 0, 1) := by decide +kernel
theorem dX12_drop_6 : decode cX12_drop 6 = .ok (.iload_n 1, 1) := by decide +kernel
theorem dX12_drop_7 : decode cX12_drop 7 = .ok (.invokevirtual 145, 3) := by decide +kernel
theorem dX12_drop_10 : decode cX12_drop 10 = .ok (.ifCond .eq 21, 3) := by decide +kernel
theorem dX12_drop_13 : decode cX12_drop 13 = .ok (.iload_n 2, 1) := by decide +kernel
theorem dX12_drop_14 : decode cX12_drop 14 = .ok (.i2l, 1) := by decide +kernel
theorem dX12_drop_15 : decode cX12_drop 15 = .ok (.lconst 0, 1) := by decide +kernel
theorem dX12_drop_16 : decode cX12_drop 16 = .ok (.aload_n 0, 1) := by decide +kernel
theorem dX12_drop_17 : decode cX12_drop 17 = .ok (.getfield 139, 3) := by decide +kernel
theorem dX12_drop_20 : decode cX12_drop 20 = .ok (.iload_n 1, 1) := by decide +kernel
theorem dX12_drop_21 : decode cX12_drop 21 = .ok (.iaload, 1) := by decide +kernel
theorem dX12_drop_22 : decode cX12_drop 22 = .ok (.iconst 1, 1) := by decide +kernel
theorem dX12_drop_23 : decode cX12_drop 23 = .ok (.isub, 1) := by decide +kernel
theorem dX12_drop_24 : decode cX12_drop 24 = .ok (.i2l, 1) := by decide +kernel
theorem dX12_drop_25 : decode cX12_drop 25 = .ok (.invokestatic 42, 3) := by decide +kernel
theorem dX12_drop_28 : decode cX12_drop 28 = .ok (.ifCond .ne 5, 3) := by decide +kernel
theorem dX12_drop_31 : decode cX12_drop 31 = .ok (.iconst (-1), 1) := by decide +kernel
theorem dX12_drop_32 : decode cX12_drop 32 = .ok (.ireturn, 1) := by decide +kernel
theorem dX12_drop_33 : decode cX12_drop 33 = .ok (.iconst 5, 1) := by decide +kernel
theorem dX12_drop_34 : decode cX12_drop 34 = .ok (.iload_n 1, 1) := by decide +kernel
theorem dX12_drop_35 : decode cX12_drop 35 = .ok (.imul, 1) := by decide +kernel
theorem dX12_drop_36 : decode cX12_drop 36 = .ok (.iload_n 2, 1) := by decide +kernel
theorem dX12_drop_37 : decode cX12_drop 37 = .ok (.iadd, 1) := by decide +kernel
theorem dX12_drop_38 : decode cX12_drop 38 = .ok (.istore_n 3, 1) := by decide +kernel
theorem dX12_drop_39 : decode cX12_drop 39 = .ok (.iload_n 3, 1) := by decide +kernel
theorem dX12_drop_40 : decode cX12_drop 40 = .ok (.iconst 5, 1) := by decide +kernel
theorem dX12_drop_41 : decode cX12_drop 41 = .ok (.iload_n 1, 1) := by decide +kernel
theorem dX12_drop_42 : decode cX12_drop 42 = .ok (.imul, 1) := by decide +kernel
theorem dX12_drop_43 : decode cX12_drop 43 = .ok (.aload_n 0, 1) := by decide +kernel
theorem dX12_drop_44 : decode cX12_drop 44 = .ok (.getfield 139, 3) := by decide +kernel
theorem dX12_drop_47 : decode cX12_drop 47 = .ok (.iload_n 1, 1) := by decide +kernel
theorem dX12_drop_48 : decode cX12_drop 48 = .ok (.iaload, 1) := by decide +kernel
theorem dX12_drop_49 : decode cX12_drop 49 = .ok (.iadd, 1) := by decide +kernel
theorem dX12_drop_50 : decode cX12_drop 50 = .ok (.iconst 1, 1) := by decide +kernel
theorem dX12_drop_51 : decode cX12_drop 51 = .ok (.isub, 1) := by decide +kernel
theorem dX12_drop_52 : decode cX12_drop 52 = .ok (.if_icmp .ge 51, 3) := by decide +kernel
theorem dX12_drop_55 : decode cX12_drop 55 = .ok (.aload_n 0, 1) := by decide +kernel
theorem dX12_drop_56 : decode cX12_drop 56 = .ok (.getfield 176, 3) := by decide +kernel
theorem dX12_drop_59 : decode cX12_drop 59 = .ok (.iload_n 3, 1) := by decide +kernel
theorem dX12_drop_60 : decode cX12_drop 60 = .ok (.aload_n 0, 1) := by decide +kernel
theorem dX12_drop_61 : decode cX12_drop 61 = .ok (.getfield 176, 3) := by decide +kernel
theorem dX12_drop_64 : decode cX12_drop 64 = .ok (.iload_n 3, 1) := by decide +kernel
theorem dX12_drop_65 : decode cX12_drop 65 = .ok (.iconst 1, 1) := by decide +kernel
theorem dX12_drop_66 : decode cX12_drop 66 = .ok (.iadd, 1) := by decide +kernel
theorem dX12_drop_67 : decode cX12_drop 67 = .ok (.iaload, 1) := by decide +kernel
theorem dX12_drop_68 : decode cX12_drop 68 = .ok (.iastore, 1) := by decide +kernel
theorem dX12_drop_69 : decode cX12_drop 69 = .ok (.aload_n 0, 1) := by decide +kernel
theorem dX12_drop_70 : decode cX12_drop 70 = .ok (.getfield 179, 3) := by decide +kernel
theorem dX12_drop_73 : decode cX12_drop 73 = .ok (.iload_n 3, 1) := by decide +kernel
theorem dX12_drop_74 : decode cX12_drop 74 = .ok (.aload_n 0, 1) := by decide +kernel
theorem dX12_drop_75 : decode cX12_drop 75 = .ok (.getfield 179, 3) := by decide +kernel
theorem dX12_drop_78 : decode cX12_drop 78 = .ok (.iload_n 3, 1) := by decide +kernel
theorem dX12_drop_79 : decode cX12_drop 79 = .ok (.iconst 1, 1) := by decide +kernel
theorem dX12_drop_80 : decode cX12_drop 80 = .ok (.iadd, 1) := by decide +kernel
theorem dX12_drop_81 : decode cX12_drop 81 = .ok (.iaload, 1) := by decide +kernel
theorem dX12_drop_82 : decode cX12_drop 82 = .ok (.iastore, 1) := by decide +kernel
theorem dX12_drop_83 : decode cX12_drop 83 = .ok (.aload_n 0, 1) := by decide +kernel
theorem dX12_drop_84 : decode cX12_drop 84 = .ok (.getfield 182, 3) := by decide +kernel
theorem dX12_drop_87 : decode cX12_drop 87 = .ok (.iload_n 3, 1) := by decide +kernel
theorem dX12_drop_88 : decode cX12_drop 88 = .ok (.aload_n 0, 1) := by decide +kernel
theorem dX12_drop_89 : decode cX12_drop 89 = .ok (.getfield 182, 3) := by decide +kernel
theorem dX12_drop_92 : decode cX12_drop 92 = .ok (.iload_n 3, 1) := by decide +kernel
theorem dX12_drop_93 : decode cX12_drop 93 = .ok (.iconst 1, 1) := by decide +kernel
theorem dX12_drop_94 : decode cX12_drop 94 = .ok (.iadd, 1) := by decide +kernel
theorem dX12_drop_95 : decode cX12_drop 95 = .ok (.iaload, 1) := by decide +kernel
theorem dX12_drop_96 : decode cX12_drop 96 = .ok (.iastore, 1) := by decide +kernel
theorem dX12_drop_97 : decode cX12_drop 97 = .ok (.iinc 3 1, 3) := by decide +kernel
theorem dX12_drop_100 : decode cX12_drop 100 = .ok (.goto (-61), 3) := by decide +kernel
theorem dX12_drop_103 : decode cX12_drop 103 = .ok (.aload_n 0, 1) := by decide +kernel
theorem dX12_drop_104 : decode cX12_drop 104 = .ok (.getfield 139, 3) := by decide +kernel
theorem dX12_drop_107 : decode cX12_drop 107 = .ok (.iload_n 1, 1) := by decide +kernel
theorem dX12_drop_108 : decode cX12_drop 108 = .ok (.dup2, 1) := by decide +kernel
theorem dX12_drop_109 : decode cX12_drop 109 = .ok (.iaload, 1) := by decide +kernel
theorem dX12_drop_110 : decode cX12_drop 110 = .ok (.iconst 1, 1) := by decide +kernel
theorem dX12_drop_111 : decode cX12_drop 111 = .ok (.isub, 1) := by decide +kernel
theorem dX12_drop_112 : decode cX12_drop 112 = .ok (.iastore, 1) := by decide +kernel
theorem dX12_drop_113 : decode cX12_drop 113 = .ok (.aload_n 0, 1) := by decide +kernel
theorem dX12_drop_114 : decode cX12_drop 114 = .ok (.getfield 139, 3) := by decide +kernel
theorem dX12_drop_117 : decode cX12_drop 117 = .ok (.iload_n 1, 1) := by decide +kernel
theorem dX12_drop_118 : decode cX12_drop 118 = .ok (.iaload, 1) := by decide +kernel
theorem dX12_drop_119 : decode cX12_drop 119 = .ok (.ireturn, 1) := by decide +kernel
theorem dX12_unplan_0 : decode cX12_unplan 0 = .ok (.aload_n 0, 1) := by decide +kernel
theorem dX12_unplan_1 : decode cX12_unplan 1 = .ok (.iconst 0, 1) := by decide +kernel
theorem dX12_unplan_2 : decode cX12_unplan 2 = .ok (.putfield 3, 3) := by decide +kernel
theorem dX12_unplan_5 : decode cX12_unplan 5 = .ok (.aload_n 0, 1) := by decide +kernel
theorem dX12_unplan_6 : decode cX12_unplan 6 = .ok (.iload_n 1, 1) := by decide +kernel
theorem dX12_unplan_7 : decode cX12_unplan 7 = .ok (.invokevirtual 145, 3) := by decide +kernel
theorem dX12_unplan_10 : decode cX12_unplan 10 = .ok (.ifCond .eq 16, 3) := by decide +kernel
theorem dX12_unplan_13 : decode cX12_unplan 13 = .ok (.aload_n 0, 1) := by decide +kernel
theorem dX12_unplan_14 : decode cX12_unplan 14 = .ok (.getfield 142, 3) := by decide +kernel
theorem dX12_unplan_17 : decode cX12_unplan 17 = .ok (.iload_n 1, 1) := by decide +kernel
theorem dX12_unplan_18 : decode cX12_unplan 18 = .ok (.baload, 1) := by decide +kernel
theorem dX12_unplan_19 : decode cX12_unplan 19 = .ok (.ifCond .eq 7, 3) := by decide +kernel
theorem dX12_unplan_22 : decode cX12_unplan 22 = .ok (.iconst 1, 1) := by decide +kernel
theorem dX12_unplan_23 : decode cX12_unplan 23 = .ok (.goto 4, 3) := by decide +kernel
theorem dX12_unplan_26 : decode cX12_unplan 26 = .ok (.iconst 0, 1) := by decide +kernel
theorem dX12_unplan_27 : decode cX12_unplan 27 = .ok (.istore_n 2, 1) := by decide +kernel
theorem dX12_unplan_28 : decode cX12_unplan 28 = .ok (.iload_n 2, 1) := by decide +kernel
theorem dX12_unplan_29 : decode cX12_unplan 29 = .ok (.ifCond .eq 10, 3) := by decide +kernel
theorem dX12_unplan_32 : decode cX12_unplan 32 = .ok (.aload_n 0, 1) := by decide +kernel
theorem dX12_unplan_33 : decode cX12_unplan 33 = .ok (.getfield 142, 3) := by decide +kernel
theorem dX12_unplan_36 : decode cX12_unplan 36 = .ok (.iload_n 1, 1) := by decide +kernel
theorem dX12_unplan_37 : decode cX12_unplan 37 = .ok (.iconst 0, 1) := by decide +kernel
theorem dX12_unplan_38 : decode cX12_unplan 38 = .ok (.bastore, 1) := by decide +kernel
theorem dX12_unplan_39 : decode cX12_unplan 39 = .ok (.iload_n 2, 1) := by decide +kernel
theorem dX12_unplan_40 : decode cX12_unplan 40 = .ok (.ireturn, 1) := by decide +kernel
theorem dX12_count_0 : decode cX12_count 0 = .ok (.aload_n 0, 1) := by decide +kernel
theorem dX12_count_1 : decode cX12_count 1 = .ok (.iconst 0, 1) := by decide +kernel
theorem dX12_count_2 : decode cX12_count 2 = .ok (.putfield 3, 3) := by decide +kernel
theorem dX12_count_5 : decode cX12_count 5 = .ok (.iconst 0, 1) := by decide +kernel
theorem dX12_count_6 : decode cX12_count 6 = .ok (.istore_n 2, 1) := by decide +kernel
theorem dX12_count_7 : decode cX12_count 7 = .ok (.iconst 0, 1) := by decide +kernel
theorem dX12_count_8 : decode cX12_count 8 = .ok (.istore_n 3, 1) := by decide +kernel
theorem dX12_count_9 : decode cX12_count 9 = .ok (.iload_n 3, 1) := by decide +kernel
theorem dX12_count_10 : decode cX12_count 10 = .ok (.aload_n 0, 1) := by decide +kernel
theorem dX12_count_11 : decode cX12_count 11 = .ok (.getfield 30, 3) := by decide +kernel
theorem dX12_count_14 : decode cX12_count 14 = .ok (.if_icmp .ge 18, 3) := by decide +kernel
theorem dX12_count_17 : decode cX12_count 17 = .ok (.iload_n 2, 1) := by decide +kernel
theorem dX12_count_18 : decode cX12_count 18 = .ok (.aload_n 0, 1) := by decide +kernel
theorem dX12_count_19 : decode cX12_count 19 = .ok (.getfield 39, 3) := by decide +kernel
theorem dX12_count_22 : decode cX12_count 22 = .ok (.iload_n 3, 1) := by decide +kernel
theorem dX12_count_23 : decode cX12_count 23 = .ok (.iaload, 1) := by decide +kernel
theorem dX12_count_24 : decode cX12_count 24 = .ok (.iadd, 1) := by decide +kernel
theorem dX12_count_25 : decode cX12_count 25 = .ok (.istore_n 2, 1) := by decide +kernel
theorem dX12_count_26 : decode cX12_count 26 = .ok (.iinc 3 1, 3) := by decide +kernel
theorem dX12_count_29 : decode cX12_count 29 = .ok (.goto (-20), 3) := by decide +kernel
theorem dX12_count_32 : decode cX12_count 32 = .ok (.iload_n 1, 1) := by decide +kernel
theorem dX12_count_33 : decode cX12_count 33 = .ok (.tableswitch 102 0 9 #[55, 60, 65, 70, 75, 80, 85, 90, 95, 100], 55) := by decide +kernel
theorem dX12_count_88 : decode cX12_count 88 = .ok (.aload_n 0, 1) := by decide +kernel
theorem dX12_count_89 : decode cX12_count 89 = .ok (.getfield 7, 3) := by decide +kernel
theorem dX12_count_92 : decode cX12_count 92 = .ok (.ireturn, 1) := by decide +kernel
theorem dX12_count_93 : decode cX12_count 93 = .ok (.aload_n 0, 1) := by decide +kernel
theorem dX12_count_94 : decode cX12_count 94 = .ok (.getfield 10, 3) := by decide +kernel
theorem dX12_count_97 : decode cX12_count 97 = .ok (.ireturn, 1) := by decide +kernel
theorem dX12_count_98 : decode cX12_count 98 = .ok (.aload_n 0, 1) := by decide +kernel
theorem dX12_count_99 : decode cX12_count 99 = .ok (.getfield 30, 3) := by decide +kernel
theorem dX12_count_102 : decode cX12_count 102 = .ok (.ireturn, 1) := by decide +kernel
theorem dX12_count_103 : decode cX12_count 103 = .ok (.aload_n 0, 1) := by decide +kernel
theorem dX12_count_104 : decode cX12_count 104 = .ok (.getfield 24, 3) := by decide +kernel
theorem dX12_count_107 : decode cX12_count 107 = .ok (.ireturn, 1) := by decide +kernel
theorem dX12_count_108 : decode cX12_count 108 = .ok (.aload_n 0, 1) := by decide +kernel
theorem dX12_count_109 : decode cX12_count 109 = .ok (.getfield 27, 3) := by decide +kernel
theorem dX12_count_112 : decode cX12_count 112 = .ok (.ireturn, 1) := by decide +kernel
theorem dX12_count_113 : decode cX12_count 113 = .ok (.aload_n 0, 1) := by decide +kernel
theorem dX12_count_114 : decode cX12_count 114 = .ok (.getfield 33, 3) := by decide +kernel
theorem dX12_count_117 : decode cX12_count 117 = .ok (.ireturn, 1) := by decide +kernel
theorem dX12_count_118 : decode cX12_count 118 = .ok (.aload_n 0, 1) := by decide +kernel
theorem dX12_count_119 : decode cX12_count 119 = .ok (.getfield 36, 3) := by decide +kernel
theorem dX12_count_122 : decode cX12_count 122 = .ok (.ireturn, 1) := by decide +kernel
theorem dX12_count_123 : decode cX12_count 123 = .ok (.aload_n 0, 1) := by decide +kernel
theorem dX12_count_124 : decode cX12_count 124 = .ok (.getfield 185, 3) := by decide +kernel
theorem dX12_count_127 : decode cX12_count 127 = .ok (.ireturn, 1) := by decide +kernel
theorem dX12_count_128 : decode cX12_count 128 = .ok (.aload_n 0, 1) := by decide +kernel
theorem dX12_count_129 : decode cX12_count 129 = .ok (.getfield 188, 3) := by decide +kernel
theorem dX12_count_132 : decode cX12_count 132 = .ok (.ireturn, 1) := by decide +kernel
theorem dX12_count_133 : decode cX12_count 133 = .ok (.iload_n 2, 1) := by decide +kernel
theorem dX12_count_134 : decode cX12_count 134 = .ok (.ireturn, 1) := by decide +kernel
theorem dX12_count_135 : decode cX12_count 135 = .ok (.iconst (-1), 1) := by decide +kernel
theorem dX12_count_136 : decode cX12_count 136 = .ok (.ireturn, 1) := by decide +kernel
theorem dX12_sign_0 : decode cX12_sign 0 = .ok (.aload_n 0, 1) := by decide +kernel
theorem dX12_sign_1 : decode cX12_sign 1 = .ok (.iconst 0, 1) := by decide +kernel
theorem dX12_sign_2 : decode cX12_sign 2 = .ok (.putfield 3, 3) := by decide +kernel
theorem dX12_sign_5 : decode cX12_sign 5 = .ok (.aload_n 0, 1) := by decide +kernel
theorem dX12_sign_6 : decode cX12_sign 6 = .ok (.getfield 188, 3) := by decide +kernel
theorem dX12_sign_9 : decode cX12_sign 9 = .ok (.bipush 96, 2) := by decide +kernel
theorem dX12_sign_11 : decode cX12_sign 11 = .ok (.if_icmp .le 5, 3) := by decide +kernel
theorem dX12_sign_14 : decode cX12_sign 14 = .ok (.iconst (-1), 1) := by decide +kernel
theorem dX12_sign_15 : decode cX12_sign 15 = .ok (.ireturn, 1) := by decide +kernel
theorem dX12_sign_16 : decode cX12_sign 16 = .ok (.iconst 0, 1) := by decide +kernel
theorem dX12_sign_17 : decode cX12_sign 17 = .ok (.istore_n 2, 1) := by decide +kernel
theorem dX12_sign_18 : decode cX12_sign 18 = .ok (.iload_n 2, 1) := by decide +kernel
theorem dX12_sign_19 : decode cX12_sign 19 = .ok (.iconst 4, 1) := by decide +kernel
theorem dX12_sign_20 : decode cX12_sign 20 = .ok (.if_icmp .ge 33, 3) := by decide +kernel
theorem dX12_sign_23 : decode cX12_sign 23 = .ok (.aload_n 0, 1) := by decide +kernel
theorem dX12_sign_24 : decode cX12_sign 24 = .ok (.getfield 191, 3) := by decide +kernel
theorem dX12_sign_27 : decode cX12_sign 27 = .ok (.aload_n 0, 1) := by decide +kernel
theorem dX12_sign_28 : decode cX12_sign 28 = .ok (.getfield 188, 3) := by decide +kernel
theorem dX12_sign_31 : decode cX12_sign 31 = .ok (.iload_n 2, 1) := by decide +kernel
theorem dX12_sign_32 : decode cX12_sign 32 = .ok (.iadd, 1) := by decide +kernel
theorem dX12_sign_33 : decode cX12_sign 33 = .ok (.iload_n 1, 1) := by decide +kernel
theorem dX12_sign_34 : decode cX12_sign 34 = .ok (.bipush 24, 2) := by decide +kernel
theorem dX12_sign_36 : decode cX12_sign 36 = .ok (.bipush 8, 2) := by decide +kernel
theorem dX12_sign_38 : decode cX12_sign 38 = .ok (.iload_n 2, 1) := by decide +kernel
theorem dX12_sign_39 : decode cX12_sign 39 = .ok (.imul, 1) := by decide +kernel
theorem dX12_sign_40 : decode cX12_sign 40 = .ok (.isub, 1) := by decide +kernel
theorem dX12_sign_41 : decode cX12_sign 41 = .ok (.ishr, 1) := by decide +kernel
theorem dX12_sign_42 : decode cX12_sign 42 = .ok (.sipush 255, 3) := by decide +kernel
theorem dX12_sign_45 : decode cX12_sign 45 = .ok (.iand, 1) := by decide +kernel
theorem dX12_sign_46 : decode cX12_sign 46 = .ok (.iastore, 1) := by decide +kernel
theorem dX12_sign_47 : decode cX12_sign 47 = .ok (.iinc 2 1, 3) := by decide +kernel
theorem dX12_sign_50 : decode cX12_sign 50 = .ok (.goto (-32), 3) := by decide +kernel
theorem dX12_sign_53 : decode cX12_sign 53 = .ok (.aload_n 0, 1) := by decide +kernel
theorem dX12_sign_54 : decode cX12_sign 54 = .ok (.dup, 1) := by decide +kernel
theorem dX12_sign_55 : decode cX12_sign 55 = .ok (.getfield 188, 3) := by decide +kernel
theorem dX12_sign_58 : decode cX12_sign 58 = .ok (.iconst 4, 1) := by decide +kernel
theorem dX12_sign_59 : decode cX12_sign 59 = .ok (.iadd, 1) := by decide +kernel
theorem dX12_sign_60 : decode cX12_sign 60 = .ok (.putfield 188, 3) := by decide +kernel
theorem dX12_sign_63 : decode cX12_sign 63 = .ok (.aload_n 0, 1) := by decide +kernel
theorem dX12_sign_64 : decode cX12_sign 64 = .ok (.getfield 188, 3) := by decide +kernel
theorem dX12_sign_67 : decode cX12_sign 67 = .ok (.ireturn, 1) := by decide +kernel
theorem dX12_end_0 : decode cX12_end 0 = .ok (.aload_n 0, 1) := by decide +kernel
theorem dX12_end_1 : decode cX12_end 1 = .ok (.iconst 0, 1) := by decide +kernel
theorem dX12_end_2 : decode cX12_end 2 = .ok (.putfield 3, 3) := by decide +kernel
theorem dX12_end_5 : decode cX12_end 5 = .ok (.iload_n 1, 1) := by decide +kernel
theorem dX12_end_6 : decode cX12_end 6 = .ok (.i2l, 1) := by decide +kernel
theorem dX12_end_7 : decode cX12_end 7 = .ok (.lconst 0, 1) := by decide +kernel
theorem dX12_end_8 : decode cX12_end 8 = .ok (.aload_n 0, 1) := by decide +kernel
theorem dX12_end_9 : decode cX12_end 9 = .ok (.getfield 188, 3) := by decide +kernel
theorem dX12_end_12 : decode cX12_end 12 = .ok (.i2l, 1) := by decide +kernel
theorem dX12_end_13 : decode cX12_end 13 = .ok (.invokestatic 42, 3) := by decide +kernel
theorem dX12_end_16 : decode cX12_end 16 = .ok (.ifCond .ne 5, 3) := by decide +kernel
theorem dX12_end_19 : decode cX12_end 19 = .ok (.iconst 0, 1) := by decide +kernel
theorem dX12_end_20 : decode cX12_end 20 = .ok (.ireturn, 1) := by decide +kernel
theorem dX12_end_21 : decode cX12_end 21 = .ok (.aload_n 0, 1) := by decide +kernel
theorem dX12_end_22 : decode cX12_end 22 = .ok (.iload_n 1, 1) := by decide +kernel
theorem dX12_end_23 : decode cX12_end 23 = .ok (.putfield 188, 3) := by decide +kernel
theorem dX12_end_26 : decode cX12_end 26 = .ok (.iconst 1, 1) := by decide +kernel
theorem dX12_end_27 : decode cX12_end 27 = .ok (.ireturn, 1) := by decide +kernel
theorem dX12_isSign_0 : decode cX12_isSign 0 = .ok (.aload_n 0, 1) := by decide +kernel
theorem dX12_isSign_1 : decode cX12_isSign 1 = .ok (.getfield 194, 3) := by decide +kernel
theorem dX12_isSign_4 : decode cX12_isSign 4 = .ok (.iload_n 1, 1) := by decide +kernel
theorem dX12_isSign_5 : decode cX12_isSign 5 = .ok (.if_icmp .ge 20, 3) := by decide +kernel
theorem dX12_isSign_8 : decode cX12_isSign 8 = .ok (.aload_n 0, 1) := by decide +kernel
theorem dX12_isSign_9 : decode cX12_isSign 9 = .ok (.getfield 191, 3) := by decide +kernel
theorem dX12_isSign_12 : decode cX12_isSign 12 = .ok (.aload_n 0, 1) := by decide +kernel
theorem dX12_isSign_13 : decode cX12_isSign 13 = .ok (.getfield 194, 3) := by decide +kernel
theorem dX12_isSign_16 : decode cX12_isSign 16 = .ok (.iaload, 1) := by decide +kernel
theorem dX12_isSign_17 : decode cX12_isSign 17 = .ok (.iload_n 2, 1) := by decide +kernel
theorem dX12_isSign_18 : decode cX12_isSign 18 = .ok (.if_icmp .ne 7, 3) := by decide +kernel
theorem dX12_isSign_21 : decode cX12_isSign 21 = .ok (.iconst 1, 1) := by decide +kernel
theorem dX12_isSign_22 : decode cX12_isSign 22 = .ok (.goto 4, 3) := by decide +kernel
theorem dX12_isSign_25 : decode cX12_isSign 25 = .ok (.iconst 0, 1) := by decide +kernel
theorem dX12_isSign_26 : decode cX12_isSign 26 = .ok (.ireturn, 1) := by decide +kernel
theorem dX12_isOf_0 : decode cX12_isOf 0 = .ok (.aload_n 0, 1) := by decide +kernel
theorem dX12_isOf_1 : decode cX12_isOf 1 = .ok (.getfield 194, 3) := by decide +kernel
theorem dX12_isOf_4 : decode cX12_isOf 4 = .ok (.iload_n 1, 1) := by decide +kernel
theorem dX12_isOf_5 : decode cX12_isOf 5 = .ok (.if_icmp .ge 35, 3) := by decide +kernel
theorem dX12_isOf_8 : decode cX12_isOf 8 = .ok (.aload_n 0, 1) := by decide +kernel
theorem dX12_isOf_9 : decode cX12_isOf 9 = .ok (.getfield 191, 3) := by decide +kernel
theorem dX12_isOf_12 : decode cX12_isOf 12 = .ok (.aload_n 0, 1) := by decide +kernel
theorem dX12_isOf_13 : decode cX12_isOf 13 = .ok (.getfield 194, 3) := by decide +kernel
theorem dX12_isOf_16 : decode cX12_isOf 16 = .ok (.iaload, 1) := by decide +kernel
theorem dX12_isOf_17 : decode cX12_isOf 17 = .ok (.ifCond .le 23, 3) := by decide +kernel
theorem dX12_isOf_20 : decode cX12_isOf 20 = .ok (.aload_n 2, 1) := by decide +kernel
theorem dX12_isOf_21 : decode cX12_isOf 21 = .ok (.aload_n 0, 1) := by decide +kernel
theorem dX12_isOf_22 : decode cX12_isOf 22 = .ok (.getfield 191, 3) := by decide +kernel
theorem dX12_isOf_25 : decode cX12_isOf 25 = .ok (.aload_n 0, 1) := by decide +kernel
theorem dX12_isOf_26 : decode cX12_isOf 26 = .ok (.getfield 194, 3) := by decide +kernel
theorem dX12_isOf_29 : decode cX12_isOf 29 = .ok (.iaload, 1) := by decide +kernel
theorem dX12_isOf_30 : decode cX12_isOf 30 = .ok (.invokevirtual 197, 3) := by decide +kernel
theorem dX12_isOf_33 : decode cX12_isOf 33 = .ok (.ifCond .lt 7, 3) := by decide +kernel
theorem dX12_isOf_36 : decode cX12_isOf 36 = .ok (.iconst 1, 1) := by decide +kernel
theorem dX12_isOf_37 : decode cX12_isOf 37 = .ok (.goto 4, 3) := by decide +kernel
theorem dX12_isOf_40 : decode cX12_isOf 40 = .ok (.iconst 0, 1) := by decide +kernel
theorem dX12_isOf_41 : decode cX12_isOf 41 = .ok (.ireturn, 1) := by decide +kernel
theorem dX12_marks_0 : decode cX12_marks 0 = .ok (.aload_n 0, 1) := by decide +kernel
theorem dX12_marks_1 : decode cX12_marks 1 = .ok (.getfield 202, 3) := by decide +kernel
theorem dX12_marks_4 : decode cX12_marks 4 = .ok (.bipush 100, 2) := by decide +kernel
theorem dX12_marks_6 : decode cX12_marks 6 = .ok (.aload_n 0, 1) := by decide +kernel
theorem dX12_marks_7 : decode cX12_marks 7 = .ok (.getfield 205, 3) := by decide +kernel
theorem dX12_marks_10 : decode cX12_marks 10 = .ok (.imul, 1) := by decide +kernel
theorem dX12_marks_11 : decode cX12_marks 11 = .ok (.aload_n 0, 1) := by decide +kernel
theorem dX12_marks_12 : decode cX12_marks 12 = .ok (.getfield 208, 3) := by decide +kernel
theorem dX12_marks_15 : decode cX12_marks 15 = .ok (.aload_n 0, 1) := by decide +kernel
theorem dX12_marks_16 : decode cX12_marks 16 = .ok (.getfield 205, 3) := by decide +kernel
theorem dX12_marks_19 : decode cX12_marks 19 = .ok (.iaload, 1) := by decide +kernel
theorem dX12_marks_20 : decode cX12_marks 20 = .ok (.iadd, 1) := by decide +kernel
theorem dX12_marks_21 : decode cX12_marks 21 = .ok (.iload_n 1, 1) := by decide +kernel
theorem dX12_marks_22 : decode cX12_marks 22 = .ok (.iastore, 1) := by decide +kernel
theorem dX12_marks_23 : decode cX12_marks 23 = .ok (.aload_n 0, 1) := by decide +kernel
theorem dX12_marks_24 : decode cX12_marks 24 = .ok (.getfield 208, 3) := by decide +kernel
theorem dX12_marks_27 : decode cX12_marks 27 = .ok (.aload_n 0, 1) := by decide +kernel
theorem dX12_marks_28 : decode cX12_marks 28 = .ok (.getfield 205, 3) := by decide +kernel
theorem dX12_marks_31 : decode cX12_marks 31 = .ok (.dup2, 1) := by decide +kernel
theorem dX12_marks_32 : decode cX12_marks 32 = .ok (.iaload, 1) := by decide +kernel
theorem dX12_marks_33 : decode cX12_marks 33 = .ok (.iconst 1, 1) := by decide +kernel
theorem dX12_marks_34 : decode cX12_marks 34 = .ok (.iadd, 1) := by decide +kernel
theorem dX12_marks_35 : decode cX12_marks 35 = .ok (.iastore, 1) := by decide +kernel
theorem dX12_marks_36 : decode cX12_marks 36 = .ok (.return_, 1) := by decide +kernel
theorem dX12_act_0 : decode cX12_act 0 = .ok (.iload_n 0, 1) := by decide +kernel
theorem dX12_act_1 : decode cX12_act 1 = .ok (.sipush 200, 3) := by decide +kernel
theorem dX12_act_4 : decode cX12_act 4 = .ok (.isub, 1) := by decide +kernel
theorem dX12_act_5 : decode cX12_act 5 = .ok (.ireturn, 1) := by decide +kernel
theorem dX12_numeral_0 : decode cX12_numeral 0 = .ok (.iconst 0, 1) := by decide +kernel
theorem dX12_numeral_1 : decode cX12_numeral 1 = .ok (.istore_n 2, 1) := by decide +kernel
theorem dX12_numeral_2 : decode cX12_numeral 2 = .ok (.aload_n 0, 1) := by decide +kernel
theorem dX12_numeral_3 : decode cX12_numeral 3 = .ok (.getfield 194, 3) := by decide +kernel
theorem dX12_numeral_6 : decode cX12_numeral 6 = .ok (.istore_n 3, 1) := by decide +kernel
theorem dX12_numeral_7 : decode cX12_numeral 7 = .ok (.aload_n 0, 1) := by decide +kernel
theorem dX12_numeral_8 : decode cX12_numeral 8 = .ok (.getfield 194, 3) := by decide +kernel
theorem dX12_numeral_11 : decode cX12_numeral 11 = .ok (.iload_n 3, 1) := by decide +kernel
theorem dX12_numeral_12 : decode cX12_numeral 12 = .ok (.iconst 3, 1) := by decide +kernel
theorem dX12_numeral_13 : decode cX12_numeral 13 = .ok (.iadd, 1) := by decide +kernel
theorem dX12_numeral_14 : decode cX12_numeral 14 = .ok (.if_icmp .ge 44, 3) := by decide +kernel
theorem dX12_numeral_17 : decode cX12_numeral 17 = .ok (.aload_n 0, 1) := by decide +kernel
theorem dX12_numeral_18 : decode cX12_numeral 18 = .ok (.iload_n 1, 1) := by decide +kernel
theorem dX12_numeral_19 : decode cX12_numeral 19 = .ok (.ldc 211, 2) := by decide +kernel
theorem dX12_numeral_21 : decode cX12_numeral 21 = .ok (.invokevirtual 213, 3) := by decide +kernel
theorem dX12_numeral_24 : decode cX12_numeral 24 = .ok (.ifCond .eq 34, 3) := by decide +kernel
theorem dX12_numeral_27 : decode cX12_numeral 27 = .ok (.bipush 10, 2) := by decide +kernel
theorem dX12_numeral_29 : decode cX12_numeral 29 = .ok (.iload_n 2, 1) := by decide +kernel
theorem dX12_numeral_30 : decode cX12_numeral 30 = .ok (.imul, 1) := by decide +kernel
theorem dX12_numeral_31 : decode cX12_numeral 31 = .ok (.aload_n 0, 1) := by decide +kernel
theorem dX12_numeral_32 : decode cX12_numeral 32 = .ok (.getfield 191, 3) := by decide +kernel
theorem dX12_numeral_35 : decode cX12_numeral 35 = .ok (.aload_n 0, 1) := by decide +kernel
theorem dX12_numeral_36 : decode cX12_numeral 36 = .ok (.getfield 194, 3) := by decide +kernel
theorem dX12_numeral_39 : decode cX12_numeral 39 = .ok (.iaload, 1) := by decide +kernel
theorem dX12_numeral_40 : decode cX12_numeral 40 = .ok (.iadd, 1) := by decide +kernel
theorem dX12_numeral_41 : decode cX12_numeral 41 = .ok (.bipush 48, 2) := by decide +kernel
theorem dX12_numeral_43 : decode cX12_numeral 43 = .ok (.isub, 1) := by decide +kernel
theorem dX12_numeral_44 : decode cX12_numeral 44 = .ok (.istore_n 2, 1) := by decide +kernel
theorem dX12_numeral_45 : decode cX12_numeral 45 = .ok (.aload_n 0, 1) := by decide +kernel
theorem dX12_numeral_46 : decode cX12_numeral 46 = .ok (.dup, 1) := by decide +kernel
theorem dX12_numeral_47 : decode cX12_numeral 47 = .ok (.getfield 194, 3) := by decide +kernel
theorem dX12_numeral_50 : decode cX12_numeral 50 = .ok (.iconst 1, 1) := by decide +kernel
theorem dX12_numeral_51 : decode cX12_numeral 51 = .ok (.iadd, 1) := by decide +kernel
theorem dX12_numeral_52 : decode cX12_numeral 52 = .ok (.putfield 194, 3) := by decide +kernel
theorem dX12_numeral_55 : decode cX12_numeral 55 = .ok (.goto (-48), 3) := by decide +kernel
theorem dX12_numeral_58 : decode cX12_numeral 58 = .ok (.aload_n 0, 1) := by decide +kernel
theorem dX12_numeral_59 : decode cX12_numeral 59 = .ok (.iload_n 2, 1) := by decide +kernel
theorem dX12_numeral_60 : decode cX12_numeral 60 = .ok (.invokevirtual 217, 3) := by decide +kernel
theorem dX12_numeral_63 : decode cX12_numeral 63 = .ok (.aload_n 0, 1) := by decide +kernel
theorem dX12_numeral_64 : decode cX12_numeral 64 = .ok (.getfield 194, 3) := by decide +kernel
theorem dX12_numeral_67 : decode cX12_numeral 67 = .ok (.iload_n 3, 1) := by decide +kernel
theorem dX12_numeral_68 : decode cX12_numeral 68 = .ok (.if_icmp .le 7, 3) := by decide +kernel
theorem dX12_numeral_71 : decode cX12_numeral 71 = .ok (.iconst 1, 1) := by decide +kernel
theorem dX12_numeral_72 : decode cX12_numeral 72 = .ok (.goto 4, 3) := by decide +kernel
theorem dX12_numeral_75 : decode cX12_numeral 75 = .ok (.iconst 0, 1) := by decide +kernel
theorem dX12_numeral_76 : decode cX12_numeral 76 = .ok (.ireturn, 1) := by decide +kernel
theorem dX12_thing_0 : decode cX12_thing 0 = .ok (.aload_n 0, 1) := by decide +kernel
theorem dX12_thing_1 : decode cX12_thing 1 = .ok (.iload_n 1, 1) := by decide +kernel
theorem dX12_thing_2 : decode cX12_thing 2 = .ok (.aload_n 0, 1) := by decide +kernel
theorem dX12_thing_3 : decode cX12_thing 3 = .ok (.getfield 221, 3) := by decide +kernel
theorem dX12_thing_6 : decode cX12_thing 6 = .ok (.invokevirtual 213, 3) := by decide +kernel
theorem dX12_thing_9 : decode cX12_thing 9 = .ok (.ifCond .eq 37, 3) := by decide +kernel
theorem dX12_thing_12 : decode cX12_thing 12 = .ok (.aload_n 0, 1) := by decide +kernel
theorem dX12_thing_13 : decode cX12_thing 13 = .ok (.iconst (-1), 1) := by decide +kernel
theorem dX12_thing_14 : decode cX12_thing 14 = .ok (.aload_n 0, 1) := by decide +kernel
theorem dX12_thing_15 : decode cX12_thing 15 = .ok (.getfield 221, 3) := by decide +kernel
theorem dX12_thing_18 : decode cX12_thing 18 = .ok (.aload_n 0, 1) := by decide +kernel
theorem dX12_thing_19 : decode cX12_thing 19 = .ok (.getfield 191, 3) := by decide +kernel
theorem dX12_thing_22 : decode cX12_thing 22 = .ok (.aload_n 0, 1) := by decide +kernel
theorem dX12_thing_23 : decode cX12_thing 23 = .ok (.getfield 194, 3) := by decide +kernel
theorem dX12_thing_26 : decode cX12_thing 26 = .ok (.iaload, 1) := by decide +kernel
theorem dX12_thing_27 : decode cX12_thing 27 = .ok (.invokevirtual 197, 3) := by decide +kernel
theorem dX12_thing_30 : decode cX12_thing 30 = .ok (.isub, 1) := by decide +kernel
theorem dX12_thing_31 : decode cX12_thing 31 = .ok (.invokevirtual 217, 3) := by decide +kernel
theorem dX12_thing_34 : decode cX12_thing 34 = .ok (.aload_n 0, 1) := by decide +kernel
theorem dX12_thing_35 : decode cX12_thing 35 = .ok (.dup, 1) := by decide +kernel
theorem dX12_thing_36 : decode cX12_thing 36 = .ok (.getfield 194, 3) := by decide +kernel
theorem dX12_thing_39 : decode cX12_thing 39 = .ok (.iconst 1, 1) := by decide +kernel
theorem dX12_thing_40 : decode cX12_thing 40 = .ok (.iadd, 1) := by decide +kernel
theorem dX12_thing_41 : decode cX12_thing 41 = .ok (.putfield 194, 3) := by decide +kernel
theorem dX12_thing_44 : decode cX12_thing 44 = .ok (.iconst 1, 1) := by decide +kernel
theorem dX12_thing_45 : decode cX12_thing 45 = .ok (.ireturn, 1) := by decide +kernel
theorem dX12_thing_46 : decode cX12_thing 46 = .ok (.aload_n 0, 1) := by decide +kernel
theorem dX12_thing_47 : decode cX12_thing 47 = .ok (.iload_n 1, 1) := by decide +kernel
theorem dX12_thing_48 : decode cX12_thing 48 = .ok (.bipush 40, 2) := by decide +kernel
theorem dX12_thing_50 : decode cX12_thing 50 = .ok (.invokevirtual 225, 3) := by decide +kernel
theorem dX12_thing_53 : decode cX12_thing 53 = .ok (.ifCond .ne 27, 3) := by decide +kernel
theorem dX12_thing_56 : decode cX12_thing 56 = .ok (.aload_n 0, 1) := by decide +kernel
theorem dX12_thing_57 : decode cX12_thing 57 = .ok (.iload_n 1, 1) := by decide +kernel
theorem dX12_thing_58 : decode cX12_thing 58 = .ok (.ldc 211, 2) := by decide +kernel
theorem dX12_thing_60 : decode cX12_thing 60 = .ok (.invokevirtual 213, 3) := by decide +kernel
theorem dX12_thing_63 : decode cX12_thing 63 = .ok (.ifCond .eq 15, 3) := by decide +kernel
theorem dX12_thing_66 : decode cX12_thing 66 = .ok (.aload_n 0, 1) := by decide +kernel
theorem dX12_thing_67 : decode cX12_thing 67 = .ok (.iload_n 1, 1) := by decide +kernel
theorem dX12_thing_68 : decode cX12_thing 68 = .ok (.invokevirtual 229, 3) := by decide +kernel
theorem dX12_thing_71 : decode cX12_thing 71 = .ok (.ifCond .eq 7, 3) := by decide +kernel
theorem dX12_thing_74 : decode cX12_thing 74 = .ok (.iconst 1, 1) := by decide +kernel
theorem dX12_thing_75 : decode cX12_thing 75 = .ok (.goto 4, 3) := by decide +kernel
theorem dX12_thing_78 : decode cX12_thing 78 = .ok (.iconst 0, 1) := by decide +kernel
theorem dX12_thing_79 : decode cX12_thing 79 = .ok (.ireturn, 1) := by decide +kernel
theorem dX12_thing_80 : decode cX12_thing 80 = .ok (.aload_n 0, 1) := by decide +kernel
theorem dX12_thing_81 : decode cX12_thing 81 = .ok (.dup, 1) := by decide +kernel
theorem dX12_thing_82 : decode cX12_thing 82 = .ok (.getfield 194, 3) := by decide +kernel
theorem dX12_thing_85 : decode cX12_thing 85 = .ok (.iconst 1, 1) := by decide +kernel
theorem dX12_thing_86 : decode cX12_thing 86 = .ok (.iadd, 1) := by decide +kernel
theorem dX12_thing_87 : decode cX12_thing 87 = .ok (.putfield 194, 3) := by decide +kernel
theorem dX12_thing_90 : decode cX12_thing 90 = .ok (.aload_n 0, 1) := by decide +kernel
theorem dX12_thing_91 : decode cX12_thing 91 = .ok (.iload_n 1, 1) := by decide +kernel
theorem dX12_thing_92 : decode cX12_thing 92 = .ok (.invokevirtual 232, 3) := by decide +kernel
theorem dX12_thing_95 : decode cX12_thing 95 = .ok (.ifCond .eq 13, 3) := by decide +kernel
theorem dX12_thing_98 : decode cX12_thing 98 = .ok (.aload_n 0, 1) := by decide +kernel
theorem dX12_thing_99 : decode cX12_thing 99 = .ok (.iload_n 1, 1) := by decide +kernel
theorem dX12_thing_100 : decode cX12_thing 100 = .ok (.bipush 41, 2) := by decide +kernel
theorem dX12_thing_102 : decode cX12_thing 102 = .ok (.invokevirtual 225, 3) := by decide +kernel
theorem dX12_thing_105 : decode cX12_thing 105 = .ok (.ifCond .ne 5, 3) := by decide +kernel
theorem dX12_thing_108 : decode cX12_thing 108 = .ok (.iconst 0, 1) := by decide +kernel
theorem dX12_thing_109 : decode cX12_thing 109 = .ok (.ireturn, 1) := by decide +kernel
theorem dX12_thing_110 : decode cX12_thing 110 = .ok (.aload_n 0, 1) := by decide +kernel
theorem dX12_thing_111 : decode cX12_thing 111 = .ok (.dup, 1) := by decide +kernel
theorem dX12_thing_112 : decode cX12_thing 112 = .ok (.getfield 194, 3) := by decide +kernel
theorem dX12_thing_115 : decode cX12_thing 115 = .ok (.iconst 1, 1) := by decide +kernel
theorem dX12_thing_116 : decode cX12_thing 116 = .ok (.iadd, 1) := by decide +kernel
theorem dX12_thing_117 : decode cX12_thing 117 = .ok (.putfield 194, 3) := by decide +kernel
theorem dX12_thing_120 : decode cX12_thing 120 = .ok (.iconst 1, 1) := by decide +kernel
theorem dX12_thing_121 : decode cX12_thing 121 = .ok (.ireturn, 1) := by decide +kernel
theorem dX12_unary_0 : decode cX12_unary 0 = .ok (.aload_n 0, 1) := by decide +kernel
theorem dX12_unary_1 : decode cX12_unary 1 = .ok (.iload_n 1, 1) := by decide +kernel
theorem dX12_unary_2 : decode cX12_unary 2 = .ok (.ldc 235, 2) := by decide +kernel
theorem dX12_unary_4 : decode cX12_unary 4 = .ok (.invokevirtual 213, 3) := by decide +kernel
theorem dX12_unary_7 : decode cX12_unary 7 = .ok (.ifCond .ne 9, 3) := by decide +kernel
theorem dX12_unary_10 : decode cX12_unary 10 = .ok (.aload_n 0, 1) := by decide +kernel
theorem dX12_unary_11 : decode cX12_unary 11 = .ok (.iload_n 1, 1) := by decide +kernel
theorem dX12_unary_12 : decode cX12_unary 12 = .ok (.invokevirtual 237, 3) := by decide +kernel
theorem dX12_unary_15 : decode cX12_unary 15 = .ok (.ireturn, 1) := by decide +kernel
theorem dX12_unary_16 : decode cX12_unary 16 = .ok (.aload_n 0, 1) := by decide +kernel
theorem dX12_unary_17 : decode cX12_unary 17 = .ok (.getfield 191, 3) := by decide +kernel
theorem dX12_unary_20 : decode cX12_unary 20 = .ok (.aload_n 0, 1) := by decide +kernel
theorem dX12_unary_21 : decode cX12_unary 21 = .ok (.getfield 194, 3) := by decide +kernel
theorem dX12_unary_24 : decode cX12_unary 24 = .ok (.iaload, 1) := by decide +kernel
theorem dX12_unary_25 : decode cX12_unary 25 = .ok (.istore_n 2, 1) := by decide +kernel
theorem dX12_unary_26 : decode cX12_unary 26 = .ok (.aload_n 0, 1) := by decide +kernel
theorem dX12_unary_27 : decode cX12_unary 27 = .ok (.dup, 1) := by decide +kernel
theorem dX12_unary_28 : decode cX12_unary 28 = .ok (.getfield 194, 3) := by decide +kernel
theorem dX12_unary_31 : decode cX12_unary 31 = .ok (.iconst 1, 1) := by decide +kernel
theorem dX12_unary_32 : decode cX12_unary 32 = .ok (.iadd, 1) := by decide +kernel
theorem dX12_unary_33 : decode cX12_unary 33 = .ok (.putfield 194, 3) := by decide +kernel
theorem dX12_unary_36 : decode cX12_unary 36 = .ok (.aload_n 0, 1) := by decide +kernel
theorem dX12_unary_37 : decode cX12_unary 37 = .ok (.iload_n 1, 1) := by decide +kernel
theorem dX12_unary_38 : decode cX12_unary 38 = .ok (.invokevirtual 240, 3) := by decide +kernel
theorem dX12_unary_41 : decode cX12_unary 41 = .ok (.ifCond .ne 5, 3) := by decide +kernel
theorem dX12_unary_44 : decode cX12_unary 44 = .ok (.iconst 0, 1) := by decide +kernel
theorem dX12_unary_45 : decode cX12_unary 45 = .ok (.ireturn, 1) := by decide +kernel
theorem dX12_unary_46 : decode cX12_unary 46 = .ok (.aload_n 0, 1) := by decide +kernel
theorem dX12_unary_47 : decode cX12_unary 47 = .ok (.iload_n 2, 1) := by decide +kernel
theorem dX12_unary_48 : decode cX12_unary 48 = .ok (.bipush 33, 2) := by decide +kernel
theorem dX12_unary_50 : decode cX12_unary 50 = .ok (.if_icmp .ne 8, 3) := by decide +kernel
theorem dX12_unary_53 : decode cX12_unary 53 = .ok (.bipush 33, 2) := by decide +kernel
theorem dX12_unary_55 : decode cX12_unary 55 = .ok (.goto 5, 3) := by decide +kernel
theorem dX12_unary_58 : decode cX12_unary 58 = .ok (.bipush 126, 2) := by decide +kernel
theorem dX12_unary_60 : decode cX12_unary 60 = .ok (.invokestatic 243, 3) := by decide +kernel
theorem dX12_unary_63 : decode cX12_unary 63 = .ok (.invokevirtual 217, 3) := by decide +kernel
theorem dX12_unary_66 : decode cX12_unary 66 = .ok (.iconst 1, 1) := by decide +kernel
theorem dX12_unary_67 : decode cX12_unary 67 = .ok (.ireturn, 1) := by decide +kernel
theorem dX12_product_0 : decode cX12_product 0 = .ok (.aload_n 0, 1) := by decide +kernel
theorem dX12_product_1 : decode cX12_product 1 = .ok (.iload_n 1, 1) := by decide +kernel
theorem dX12_product_2 : decode cX12_product 2 = .ok (.invokevirtual 240, 3) := by decide +kernel
theorem dX12_product_5 : decode cX12_product 5 = .ok (.istore_n 2, 1) := by decide +kernel
theorem dX12_product_6 : decode cX12_product 6 = .ok (.iload_n 2, 1) := by decide +kernel
theorem dX12_product_7 : decode cX12_product 7 = .ok (.ifCond .eq 45, 3) := by decide +kernel
theorem dX12_product_10 : decode cX12_product 10 = .ok (.aload_n 0, 1) := by decide +kernel
theorem dX12_product_11 : decode cX12_product 11 = .ok (.iload_n 1, 1) := by decide +kernel
theorem dX12_product_12 : decode cX12_product 12 = .ok (.bipush 42, 2) := by decide +kernel
theorem dX12_product_14 : decode cX12_product 14 = .ok (.invokevirtual 225, 3) := by decide +kernel
theorem dX12_product_17 : decode cX12_product 17 = .ok (.ifCond .eq 35, 3) := by decide +kernel
theorem dX12_product_20 : decode cX12_product 20 = .ok (.aload_n 0, 1) := by decide +kernel
theorem dX12_product_21 : decode cX12_product 21 = .ok (.dup, 1) := by decide +kernel
theorem dX12_product_22 : decode cX12_product 22 = .ok (.getfield 194, 3) := by decide +kernel
theorem dX12_product_25 : decode cX12_product 25 = .ok (.iconst 1, 1) := by decide +kernel
theorem dX12_product_26 : decode cX12_product 26 = .ok (.iadd, 1) := by decide +kernel
theorem dX12_product_27 : decode cX12_product 27 = .ok (.putfield 194, 3) := by decide +kernel
theorem dX12_product_30 : decode cX12_product 30 = .ok (.aload_n 0, 1) := by decide +kernel
theorem dX12_product_31 : decode cX12_product 31 = .ok (.iload_n 1, 1) := by decide +kernel
theorem dX12_product_32 : decode cX12_product 32 = .ok (.invokevirtual 240, 3) := by decide +kernel
theorem dX12_product_35 : decode cX12_product 35 = .ok (.istore_n 2, 1) := by decide +kernel
theorem dX12_product_36 : decode cX12_product 36 = .ok (.iload_n 2, 1) := by decide +kernel
theorem dX12_product_37 : decode cX12_product 37 = .ok (.ifCond .eq (-31), 3) := by decide +kernel
theorem dX12_product_40 : decode cX12_product 40 = .ok (.aload_n 0, 1) := by decide +kernel
theorem dX12_product_41 : decode cX12_product 41 = .ok (.bipush 42, 2) := by decide +kernel
theorem dX12_product_43 : decode cX12_product 43 = .ok (.invokestatic 243, 3) := by decide +kernel
theorem dX12_product_46 : decode cX12_product 46 = .ok (.invokevirtual 217, 3) := by decide +kernel
theorem dX12_product_49 : decode cX12_product 49 = .ok (.goto (-43), 3) := by decide +kernel
theorem dX12_product_52 : decode cX12_product 52 = .ok (.iload_n 2, 1) := by decide +kernel
theorem dX12_product_53 : decode cX12_product 53 = .ok (.ireturn, 1) := by decide +kernel
theorem dX12_total_0 : decode cX12_total 0 = .ok (.aload_n 0, 1) := by decide +kernel
theorem dX12_total_1 : decode cX12_total 1 = .ok (.iload_n 1, 1) := by decide +kernel
theorem dX12_total_2 : decode cX12_total 2 = .ok (.invokevirtual 246, 3) := by decide +kernel
theorem dX12_total_5 : decode cX12_total 5 = .ok (.istore_n 2, 1) := by decide +kernel
theorem dX12_total_6 : decode cX12_total 6 = .ok (.iload_n 2, 1) := by decide +kernel
theorem dX12_total_7 : decode cX12_total 7 = .ok (.ifCond .eq 54, 3) := by decide +kernel
theorem dX12_total_10 : decode cX12_total 10 = .ok (.aload_n 0, 1) := by decide +kernel
theorem dX12_total_11 : decode cX12_total 11 = .ok (.iload_n 1, 1) := by decide +kernel
theorem dX12_total_12 : decode cX12_total 12 = .ok (.ldc 249, 2) := by decide +kernel
theorem dX12_total_14 : decode cX12_total 14 = .ok (.invokevirtual 213, 3) := by decide +kernel
theorem dX12_total_17 : decode cX12_total 17 = .ok (.ifCond .eq 44, 3) := by decide +kernel
theorem dX12_total_20 : decode cX12_total 20 = .ok (.aload_n 0, 1) := by decide +kernel
theorem dX12_total_21 : decode cX12_total 21 = .ok (.getfield 191, 3) := by decide +kernel
theorem dX12_total_24 : decode cX12_total 24 = .ok (.aload_n 0, 1) := by decide +kernel
theorem dX12_total_25 : decode cX12_total 25 = .ok (.getfield 194, 3) := by decide +kernel
theorem dX12_total_28 : decode cX12_total 28 = .ok (.iaload, 1) := by decide +kernel
theorem dX12_total_29 : decode cX12_total 29 = .ok (.istore_n 3, 1) := by decide +kernel
theorem dX12_total_30 : decode cX12_total 30 = .ok (.aload_n 0, 1) := by decide +kernel
theorem dX12_total_31 : decode cX12_total 31 = .ok (.dup, 1) := by decide +kernel
theorem dX12_total_32 : decode cX12_total 32 = .ok (.getfield 194, 3) := by decide +kernel
theorem dX12_total_35 : decode cX12_total 35 = .ok (.iconst 1, 1) := by decide +kernel
theorem dX12_total_36 : decode cX12_total 36 = .ok (.iadd, 1) := by decide +kernel
theorem dX12_total_37 : decode cX12_total 37 = .ok (.putfield 194, 3) := by decide +kernel
theorem dX12_total_40 : decode cX12_total 40 = .ok (.aload_n 0, 1) := by decide +kernel
theorem dX12_total_41 : decode cX12_total 41 = .ok (.iload_n 1, 1) := by decide +kernel
theorem dX12_total_42 : decode cX12_total 42 = .ok (.invokevirtual 246, 3) := by decide +kernel
theorem dX12_total_45 : decode cX12_total 45 = .ok (.istore_n 2, 1) := by decide +kernel
theorem dX12_total_46 : decode cX12_total 46 = .ok (.iload_n 2, 1) := by decide +kernel
theorem dX12_total_47 : decode cX12_total 47 = .ok (.ifCond .eq 11, 3) := by decide +kernel
theorem dX12_total_50 : decode cX12_total 50 = .ok (.aload_n 0, 1) := by decide +kernel
theorem dX12_total_51 : decode cX12_total 51 = .ok (.iload_n 3, 1) := by decide +kernel
theorem dX12_total_52 : decode cX12_total 52 = .ok (.invokestatic 243, 3) := by decide +kernel
theorem dX12_total_55 : decode cX12_total 55 = .ok (.invokevirtual 217, 3) := by decide +kernel
theorem dX12_total_58 : decode cX12_total 58 = .ok (.goto (-52), 3) := by decide +kernel
theorem dX12_total_61 : decode cX12_total 61 = .ok (.iload_n 2, 1) := by decide +kernel
theorem dX12_total_62 : decode cX12_total 62 = .ok (.ireturn, 1) := by decide +kernel
theorem dX12_compared_0 : decode cX12_compared 0 = .ok (.aload_n 0, 1) := by decide +kernel
theorem dX12_compared_1 : decode cX12_compared 1 = .ok (.iload_n 1, 1) := by decide +kernel
theorem dX12_compared_2 : decode cX12_compared 2 = .ok (.invokevirtual 251, 3) := by decide +kernel
theorem dX12_compared_5 : decode cX12_compared 5 = .ok (.istore_n 2, 1) := by decide +kernel
theorem dX12_compared_6 : decode cX12_compared 6 = .ok (.iload_n 2, 1) := by decide +kernel
theorem dX12_compared_7 : decode cX12_compared 7 = .ok (.ifCond .eq 51, 3) := by decide +kernel
theorem dX12_compared_10 : decode cX12_compared 10 = .ok (.aload_n 0, 1) := by decide +kernel
theorem dX12_compared_11 : decode cX12_compared 11 = .ok (.iload_n 1, 1) := by decide +kernel
theorem dX12_compared_12 : decode cX12_compared 12 = .ok (.ldc 254, 2) := by decide +kernel
theorem dX12_compared_14 : decode cX12_compared 14 = .ok (.invokevirtual 213, 3) := by decide +kernel
theorem dX12_compared_17 : decode cX12_compared 17 = .ok (.ifCond .eq 41, 3) := by decide +kernel
theorem dX12_compared_20 : decode cX12_compared 20 = .ok (.aload_n 0, 1) := by decide +kernel
theorem dX12_compared_21 : decode cX12_compared 21 = .ok (.getfield 191, 3) := by decide +kernel
theorem dX12_compared_24 : decode cX12_compared 24 = .ok (.aload_n 0, 1) := by decide +kernel
theorem dX12_compared_25 : decode cX12_compared 25 = .ok (.getfield 194, 3) := by decide +kernel
theorem dX12_compared_28 : decode cX12_compared 28 = .ok (.iaload, 1) := by decide +kernel
theorem dX12_compared_29 : decode cX12_compared 29 = .ok (.istore_n 3, 1) := by decide +kernel
theorem dX12_compared_30 : decode cX12_compared 30 = .ok (.aload_n 0, 1) := by decide +kernel
theorem dX12_compared_31 : decode cX12_compared 31 = .ok (.dup, 1) := by decide +kernel
theorem dX12_compared_32 : decode cX12_compared 32 = .ok (.getfield 194, 3) := by decide +kernel
theorem dX12_compared_35 : decode cX12_compared 35 = .ok (.iconst 1, 1) := by decide +kernel
theorem dX12_compared_36 : decode cX12_compared 36 = .ok (.iadd, 1) := by decide +kernel
theorem dX12_compared_37 : decode cX12_compared 37 = .ok (.putfield 194, 3) := by decide +kernel
theorem dX12_compared_40 : decode cX12_compared 40 = .ok (.aload_n 0, 1) := by decide +kernel
theorem dX12_compared_41 : decode cX12_compared 41 = .ok (.iload_n 1, 1) := by decide +kernel
theorem dX12_compared_42 : decode cX12_compared 42 = .ok (.invokevirtual 251, 3) := by decide +kernel
theorem dX12_compared_45 : decode cX12_compared 45 = .ok (.istore_n 2, 1) := by decide +kernel
theorem dX12_compared_46 : decode cX12_compared 46 = .ok (.iload_n 2, 1) := by decide +kernel
theorem dX12_compared_47 : decode cX12_compared 47 = .ok (.ifCond .eq 11, 3) := by decide +kernel
theorem dX12_compared_50 : decode cX12_compared 50 = .ok (.aload_n 0, 1) := by decide +kernel
theorem dX12_compared_51 : decode cX12_compared 51 = .ok (.iload_n 3, 1) := by decide +kernel
theorem dX12_compared_52 : decode cX12_compared 52 = .ok (.invokestatic 243, 3) := by decide +kernel
theorem dX12_compared_55 : decode cX12_compared 55 = .ok (.invokevirtual 217, 3) := by decide +kernel
theorem dX12_compared_58 : decode cX12_compared 58 = .ok (.iload_n 2, 1) := by decide +kernel
theorem dX12_compared_59 : decode cX12_compared 59 = .ok (.ireturn, 1) := by decide +kernel
theorem dX12_every_0 : decode cX12_every 0 = .ok (.aload_n 0, 1) := by decide +kernel
theorem dX12_every_1 : decode cX12_every 1 = .ok (.iload_n 1, 1) := by decide +kernel
theorem dX12_every_2 : decode cX12_every 2 = .ok (.invokevirtual 256, 3) := by decide +kernel
theorem dX12_every_5 : decode cX12_every 5 = .ok (.istore_n 2, 1) := by decide +kernel
theorem dX12_every_6 : decode cX12_every 6 = .ok (.iload_n 2, 1) := by decide +kernel
theorem dX12_every_7 : decode cX12_every 7 = .ok (.ifCond .eq 45, 3) := by decide +kernel
theorem dX12_every_10 : decode cX12_every 10 = .ok (.aload_n 0, 1) := by decide +kernel
theorem dX12_every_11 : decode cX12_every 11 = .ok (.iload_n 1, 1) := by decide +kernel
theorem dX12_every_12 : decode cX12_every 12 = .ok (.bipush 38, 2) := by decide +kernel
theorem dX12_every_14 : decode cX12_every 14 = .ok (.invokevirtual 225, 3) := by decide +kernel
theorem dX12_every_17 : decode cX12_every 17 = .ok (.ifCond .eq 35, 3) := by decide +kernel
theorem dX12_every_20 : decode cX12_every 20 = .ok (.aload_n 0, 1) := by decide +kernel
theorem dX12_every_21 : decode cX12_every 21 = .ok (.dup, 1) := by decide +kernel
theorem dX12_every_22 : decode cX12_every 22 = .ok (.getfield 194, 3) := by decide +kernel
theorem dX12_every_25 : decode cX12_every 25 = .ok (.iconst 1, 1) := by decide +kernel
theorem dX12_every_26 : decode cX12_every 26 = .ok (.iadd, 1) := by decide +kernel
theorem dX12_every_27 : decode cX12_every 27 = .ok (.putfield 194, 3) := by decide +kernel
theorem dX12_every_30 : decode cX12_every 30 = .ok (.aload_n 0, 1) := by decide +kernel
theorem dX12_every_31 : decode cX12_every 31 = .ok (.iload_n 1, 1) := by decide +kernel
theorem dX12_every_32 : decode cX12_every 32 = .ok (.invokevirtual 256, 3) := by decide +kernel
theorem dX12_every_35 : decode cX12_every 35 = .ok (.istore_n 2, 1) := by decide +kernel
theorem dX12_every_36 : decode cX12_every 36 = .ok (.iload_n 2, 1) := by decide +kernel
theorem dX12_every_37 : decode cX12_every 37 = .ok (.ifCond .eq (-31), 3) := by decide +kernel
theorem dX12_every_40 : decode cX12_every 40 = .ok (.aload_n 0, 1) := by decide +kernel
theorem dX12_every_41 : decode cX12_every 41 = .ok (.bipush 38, 2) := by decide +kernel
theorem dX12_every_43 : decode cX12_every 43 = .ok (.invokestatic 243, 3) := by decide +kernel
theorem dX12_every_46 : decode cX12_every 46 = .ok (.invokevirtual 217, 3) := by decide +kernel
theorem dX12_every_49 : decode cX12_every 49 = .ok (.goto (-43), 3) := by decide +kernel
theorem dX12_every_52 : decode cX12_every 52 = .ok (.iload_n 2, 1) := by decide +kernel
theorem dX12_every_53 : decode cX12_every 53 = .ok (.ireturn, 1) := by decide +kernel
theorem dX12_some_0 : decode cX12_some 0 = .ok (.aload_n 0, 1) := by decide +kernel
theorem dX12_some_1 : decode cX12_some 1 = .ok (.iload_n 1, 1) := by decide +kernel
theorem dX12_some_2 : decode cX12_some 2 = .ok (.invokevirtual 259, 3) := by decide +kernel
theorem dX12_some_5 : decode cX12_some 5 = .ok (.istore_n 2, 1) := by decide +kernel
theorem dX12_some_6 : decode cX12_some 6 = .ok (.iload_n 2, 1) := by decide +kernel
theorem dX12_some_7 : decode cX12_some 7 = .ok (.ifCond .eq 45, 3) := by decide +kernel
theorem dX12_some_10 : decode cX12_some 10 = .ok (.aload_n 0, 1) := by decide +kernel
theorem dX12_some_11 : decode cX12_some 11 = .ok (.iload_n 1, 1) := by decide +kernel
theorem dX12_some_12 : decode cX12_some 12 = .ok (.bipush 124, 2) := by decide +kernel
theorem dX12_some_14 : decode cX12_some 14 = .ok (.invokevirtual 225, 3) := by decide +kernel
theorem dX12_some_17 : decode cX12_some 17 = .ok (.ifCond .eq 35, 3) := by decide +kernel
theorem dX12_some_20 : decode cX12_some 20 = .ok (.aload_n 0, 1) := by decide +kernel
theorem dX12_some_21 : decode cX12_some 21 = .ok (.dup, 1) := by decide +kernel
theorem dX12_some_22 : decode cX12_some 22 = .ok (.getfield 194, 3) := by decide +kernel
theorem dX12_some_25 : decode cX12_some 25 = .ok (.iconst 1, 1) := by decide +kernel
theorem dX12_some_26 : decode cX12_some 26 = .ok (.iadd, 1) := by decide +kernel
theorem dX12_some_27 : decode cX12_some 27 = .ok (.putfield 194, 3) := by decide +kernel
theorem dX12_some_30 : decode cX12_some 30 = .ok (.aload_n 0, 1) := by decide +kernel
theorem dX12_some_31 : decode cX12_some 31 = .ok (.iload_n 1, 1) := by decide +kernel
theorem dX12_some_32 : decode cX12_some 32 = .ok (.invokevirtual 259, 3) := by decide +kernel
theorem dX12_some_35 : decode cX12_some 35 = .ok (.istore_n 2, 1) := by decide +kernel
theorem dX12_some_36 : decode cX12_some 36 = .ok (.iload_n 2, 1) := by decide +kernel
theorem dX12_some_37 : decode cX12_some 37 = .ok (.ifCond .eq (-31), 3) := by decide +kernel
theorem dX12_some_40 : decode cX12_some 40 = .ok (.aload_n 0, 1) := by decide +kernel
theorem dX12_some_41 : decode cX12_some 41 = .ok (.bipush 124, 2) := by decide +kernel
theorem dX12_some_43 : decode cX12_some 43 = .ok (.invokestatic 243, 3) := by decide +kernel
theorem dX12_some_46 : decode cX12_some 46 = .ok (.invokevirtual 217, 3) := by decide +kernel
theorem dX12_some_49 : decode cX12_some 49 = .ok (.goto (-43), 3) := by decide +kernel
theorem dX12_some_52 : decode cX12_some 52 = .ok (.iload_n 2, 1) := by decide +kernel
theorem dX12_some_53 : decode cX12_some 53 = .ok (.ireturn, 1) := by decide +kernel
theorem dX12_line_0 : decode cX12_line 0 = .ok (.aload_n 0, 1) := by decide +kernel
theorem dX12_line_1 : decode cX12_line 1 = .ok (.iload_n 1, 1) := by decide +kernel
theorem dX12_line_2 : decode cX12_line 2 = .ok (.bipush 58, 2) := by decide +kernel
theorem dX12_line_4 : decode cX12_line 4 = .ok (.invokevirtual 225, 3) := by decide +kernel
theorem dX12_line_7 : decode cX12_line 7 = .ok (.ifCond .eq 11, 3) := by decide +kernel
theorem dX12_line_10 : decode cX12_line 10 = .ok (.aload_n 0, 1) := by decide +kernel
theorem dX12_line_11 : decode cX12_line 11 = .ok (.iconst 1, 1) := by decide +kernel
theorem dX12_line_12 : decode cX12_line 12 = .ok (.invokevirtual 217, 3) := by decide +kernel
theorem dX12_line_15 : decode cX12_line 15 = .ok (.goto 23, 3) := by decide +kernel
theorem dX12_line_18 : decode cX12_line 18 = .ok (.aload_n 0, 1) := by decide +kernel
theorem dX12_line_19 : decode cX12_line 19 = .ok (.iload_n 1, 1) := by decide +kernel
theorem dX12_line_20 : decode cX12_line 20 = .ok (.invokevirtual 232, 3) := by decide +kernel
theorem dX12_line_23 : decode cX12_line 23 = .ok (.ifCond .eq 13, 3) := by decide +kernel
theorem dX12_line_26 : decode cX12_line 26 = .ok (.aload_n 0, 1) := by decide +kernel
theorem dX12_line_27 : decode cX12_line 27 = .ok (.iload_n 1, 1) := by decide +kernel
theorem dX12_line_28 : decode cX12_line 28 = .ok (.bipush 58, 2) := by decide +kernel
theorem dX12_line_30 : decode cX12_line 30 = .ok (.invokevirtual 225, 3) := by decide +kernel
theorem dX12_line_33 : decode cX12_line 33 = .ok (.ifCond .ne 5, 3) := by decide +kernel
theorem dX12_line_36 : decode cX12_line 36 = .ok (.iconst 0, 1) := by decide +kernel
theorem dX12_line_37 : decode cX12_line 37 = .ok (.ireturn, 1) := by decide +kernel
theorem dX12_line_38 : decode cX12_line 38 = .ok (.aload_n 0, 1) := by decide +kernel
theorem dX12_line_39 : decode cX12_line 39 = .ok (.dup, 1) := by decide +kernel
theorem dX12_line_40 : decode cX12_line 40 = .ok (.getfield 194, 3) := by decide +kernel
theorem dX12_line_43 : decode cX12_line 43 = .ok (.iconst 1, 1) := by decide +kernel
theorem dX12_line_44 : decode cX12_line 44 = .ok (.iadd, 1) := by decide +kernel
theorem dX12_line_45 : decode cX12_line 45 = .ok (.putfield 194, 3) := by decide +kernel
theorem dX12_line_48 : decode cX12_line 48 = .ok (.aload_n 0, 1) := by decide +kernel
theorem dX12_line_49 : decode cX12_line 49 = .ok (.sipush (-300), 3) := by decide +kernel
theorem dX12_line_52 : decode cX12_line 52 = .ok (.invokevirtual 217, 3) := by decide +kernel
theorem dX12_line_55 : decode cX12_line 55 = .ok (.iconst 0, 1) := by decide +kernel
theorem dX12_line_56 : decode cX12_line 56 = .ok (.istore_n 2, 1) := by decide +kernel
theorem dX12_line_57 : decode cX12_line 57 = .ok (.aload_n 0, 1) := by decide +kernel
theorem dX12_line_58 : decode cX12_line 58 = .ok (.iload_n 1, 1) := by decide +kernel
theorem dX12_line_59 : decode cX12_line 59 = .ok (.ldc_w 262, 3) := by decide +kernel
theorem dX12_line_62 : decode cX12_line 62 = .ok (.invokevirtual 213, 3) := by decide +kernel
theorem dX12_line_65 : decode cX12_line 65 = .ok (.ifCond .eq 85, 3) := by decide +kernel
theorem dX12_line_68 : decode cX12_line 68 = .ok (.aload_n 0, 1) := by decide +kernel
theorem dX12_line_69 : decode cX12_line 69 = .ok (.getfield 191, 3) := by decide +kernel
theorem dX12_line_72 : decode cX12_line 72 = .ok (.aload_n 0, 1) := by decide +kernel
theorem dX12_line_73 : decode cX12_line 73 = .ok (.getfield 194, 3) := by decide +kernel
theorem dX12_line_76 : decode cX12_line 76 = .ok (.iaload, 1) := by decide +kernel
theorem dX12_line_77 : decode cX12_line 77 = .ok (.istore_n 3, 1) := by decide +kernel
theorem dX12_line_78 : decode cX12_line 78 = .ok (.aload_n 0, 1) := by decide +kernel
theorem dX12_line_79 : decode cX12_line 79 = .ok (.dup, 1) := by decide +kernel
theorem dX12_line_80 : decode cX12_line 80 = .ok (.getfield 194, 3) := by decide +kernel
theorem dX12_line_83 : decode cX12_line 83 = .ok (.iconst 1, 1) := by decide +kernel
theorem dX12_line_84 : decode cX12_line 84 = .ok (.iadd, 1) := by decide +kernel
theorem dX12_line_85 : decode cX12_line 85 = .ok (.putfield 194, 3) := by decide +kernel
theorem dX12_line_88 : decode cX12_line 88 = .ok (.iload_n 3, 1) := by decide +kernel
theorem dX12_line_89 : decode cX12_line 89 = .ok (.bipush 98, 2) := by decide +kernel
theorem dX12_line_91 : decode cX12_line 91 = .ok (.if_icmp .ne 49, 3) := by decide +kernel
theorem dX12_line_94 : decode cX12_line 94 = .ok (.aload_n 0, 1) := by decide +kernel
theorem dX12_line_95 : decode cX12_line 95 = .ok (.iload_n 1, 1) := by decide +kernel
theorem dX12_line_96 : decode cX12_line 96 = .ok (.ldc_w 264, 3) := by decide +kernel
theorem dX12_line_99 : decode cX12_line 99 = .ok (.invokevirtual 213, 3) := by decide +kernel
theorem dX12_line_102 : decode cX12_line 102 = .ok (.ifCond .ne 5, 3) := by decide +kernel
theorem dX12_line_105 : decode cX12_line 105 = .ok (.iconst 0, 1) := by decide +kernel
theorem dX12_line_106 : decode cX12_line 106 = .ok (.ireturn, 1) := by decide +kernel
theorem dX12_line_107 : decode cX12_line 107 = .ok (.aload_n 0, 1) := by decide +kernel
theorem dX12_line_108 : decode cX12_line 108 = .ok (.sipush 1000, 3) := by decide +kernel
theorem dX12_line_111 : decode cX12_line 111 = .ok (.aload_n 0, 1) := by decide +kernel
theorem dX12_line_112 : decode cX12_line 112 = .ok (.getfield 191, 3) := by decide +kernel
theorem dX12_line_115 : decode cX12_line 115 = .ok (.aload_n 0, 1) := by decide +kernel
theorem dX12_line_116 : decode cX12_line 116 = .ok (.getfield 194, 3) := by decide +kernel
theorem dX12_line_119 : decode cX12_line 119 = .ok (.iaload, 1) := by decide +kernel
theorem dX12_line_120 : decode cX12_line 120 = .ok (.iadd, 1) := by decide +kernel
theorem dX12_line_121 : decode cX12_line 121 = .ok (.bipush 48, 2) := by decide +kernel
theorem dX12_line_123 : decode cX12_line 123 = .ok (.isub, 1) := by decide +kernel
theorem dX12_line_124 : decode cX12_line 124 = .ok (.invokevirtual 217, 3) := by decide +kernel
theorem dX12_line_127 : decode cX12_line 127 = .ok (.aload_n 0, 1) := by decide +kernel
theorem dX12_line_128 : decode cX12_line 128 = .ok (.dup, 1) := by decide +kernel
theorem dX12_line_129 : decode cX12_line 129 = .ok (.getfield 194, 3) := by decide +kernel
theorem dX12_line_132 : decode cX12_line 132 = .ok (.iconst 1, 1) := by decide +kernel
theorem dX12_line_133 : decode cX12_line 133 = .ok (.iadd, 1) := by decide +kernel
theorem dX12_line_134 : decode cX12_line 134 = .ok (.putfield 194, 3) := by decide +kernel
theorem dX12_line_137 : decode cX12_line 137 = .ok (.goto 8, 3) := by decide +kernel
theorem dX12_line_140 : decode cX12_line 140 = .ok (.aload_n 0, 1) := by decide +kernel
theorem dX12_line_141 : decode cX12_line 141 = .ok (.iload_n 3, 1) := by decide +kernel
theorem dX12_line_142 : decode cX12_line 142 = .ok (.invokevirtual 217, 3) := by decide +kernel
theorem dX12_line_145 : decode cX12_line 145 = .ok (.iconst 1, 1) := by decide +kernel
theorem dX12_line_146 : decode cX12_line 146 = .ok (.istore_n 2, 1) := by decide +kernel
theorem dX12_line_147 : decode cX12_line 147 = .ok (.goto (-90), 3) := by decide +kernel
theorem dX12_line_150 : decode cX12_line 150 = .ok (.aload_n 0, 1) := by decide +kernel
theorem dX12_line_151 : decode cX12_line 151 = .ok (.sipush (-302), 3) := by decide +kernel
theorem dX12_line_154 : decode cX12_line 154 = .ok (.invokevirtual 217, 3) := by decide +kernel
theorem dX12_line_157 : decode cX12_line 157 = .ok (.iload_n 2, 1) := by decide +kernel
theorem dX12_line_158 : decode cX12_line 158 = .ok (.ireturn, 1) := by decide +kernel
theorem dX12_lines_0 : decode cX12_lines 0 = .ok (.aload_n 0, 1) := by decide +kernel
theorem dX12_lines_1 : decode cX12_lines 1 = .ok (.iload_n 1, 1) := by decide +kernel
theorem dX12_lines_2 : decode cX12_lines 2 = .ok (.invokevirtual 266, 3) := by decide +kernel
theorem dX12_lines_5 : decode cX12_lines 5 = .ok (.istore_n 2, 1) := by decide +kernel
theorem dX12_lines_6 : decode cX12_lines 6 = .ok (.iload_n 2, 1) := by decide +kernel
theorem dX12_lines_7 : decode cX12_lines 7 = .ok (.ifCond .eq 32, 3) := by decide +kernel
theorem dX12_lines_10 : decode cX12_lines 10 = .ok (.aload_n 0, 1) := by decide +kernel
theorem dX12_lines_11 : decode cX12_lines 11 = .ok (.iload_n 1, 1) := by decide +kernel
theorem dX12_lines_12 : decode cX12_lines 12 = .ok (.bipush 59, 2) := by decide +kernel
theorem dX12_lines_14 : decode cX12_lines 14 = .ok (.invokevirtual 225, 3) := by decide +kernel
theorem dX12_lines_17 : decode cX12_lines 17 = .ok (.ifCond .eq 22, 3) := by decide +kernel
theorem dX12_lines_20 : decode cX12_lines 20 = .ok (.aload_n 0, 1) := by decide +kernel
theorem dX12_lines_21 : decode cX12_lines 21 = .ok (.dup, 1) := by decide +kernel
theorem dX12_lines_22 : decode cX12_lines 22 = .ok (.getfield 194, 3) := by decide +kernel
theorem dX12_lines_25 : decode cX12_lines 25 = .ok (.iconst 1, 1) := by decide +kernel
theorem dX12_lines_26 : decode cX12_lines 26 = .ok (.iadd, 1) := by decide +kernel
theorem dX12_lines_27 : decode cX12_lines 27 = .ok (.putfield 194, 3) := by decide +kernel
theorem dX12_lines_30 : decode cX12_lines 30 = .ok (.aload_n 0, 1) := by decide +kernel
theorem dX12_lines_31 : decode cX12_lines 31 = .ok (.iload_n 1, 1) := by decide +kernel
theorem dX12_lines_32 : decode cX12_lines 32 = .ok (.invokevirtual 266, 3) := by decide +kernel
theorem dX12_lines_35 : decode cX12_lines 35 = .ok (.istore_n 2, 1) := by decide +kernel
theorem dX12_lines_36 : decode cX12_lines 36 = .ok (.goto (-30), 3) := by decide +kernel
theorem dX12_lines_39 : decode cX12_lines 39 = .ok (.iload_n 2, 1) := by decide +kernel
theorem dX12_lines_40 : decode cX12_lines 40 = .ok (.ifCond .eq 15, 3) := by decide +kernel
theorem dX12_lines_43 : decode cX12_lines 43 = .ok (.aload_n 0, 1) := by decide +kernel
theorem dX12_lines_44 : decode cX12_lines 44 = .ok (.getfield 194, 3) := by decide +kernel
theorem dX12_lines_47 : decode cX12_lines 47 = .ok (.iload_n 1, 1) := by decide +kernel
theorem dX12_lines_48 : decode cX12_lines 48 = .ok (.if_icmp .ne 7, 3) := by decide +kernel
theorem dX12_lines_51 : decode cX12_lines 51 = .ok (.iconst 1, 1) := by decide +kernel
theorem dX12_lines_52 : decode cX12_lines 52 = .ok (.goto 4, 3) := by decide +kernel
theorem dX12_lines_55 : decode cX12_lines 55 = .ok (.iconst 0, 1) := by decide +kernel
theorem dX12_lines_56 : decode cX12_lines 56 = .ok (.ireturn, 1) := by decide +kernel
theorem dX12_law_0 : decode cX12_law 0 = .ok (.aload_n 0, 1) := by decide +kernel
theorem dX12_law_1 : decode cX12_law 1 = .ok (.iload_n 1, 1) := by decide +kernel
theorem dX12_law_2 : decode cX12_law 2 = .ok (.invokevirtual 232, 3) := by decide +kernel
theorem dX12_law_5 : decode cX12_law 5 = .ok (.ifCond .eq 13, 3) := by decide +kernel
theorem dX12_law_8 : decode cX12_law 8 = .ok (.aload_n 0, 1) := by decide +kernel
theorem dX12_law_9 : decode cX12_law 9 = .ok (.iload_n 1, 1) := by decide +kernel
theorem dX12_law_10 : decode cX12_law 10 = .ok (.bipush 58, 2) := by decide +kernel
theorem dX12_law_12 : decode cX12_law 12 = .ok (.invokevirtual 225, 3) := by decide +kernel
theorem dX12_law_15 : decode cX12_law 15 = .ok (.ifCond .ne 5, 3) := by decide +kernel
theorem dX12_law_18 : decode cX12_law 18 = .ok (.iconst 0, 1) := by decide +kernel
theorem dX12_law_19 : decode cX12_law 19 = .ok (.ireturn, 1) := by decide +kernel
theorem dX12_law_20 : decode cX12_law 20 = .ok (.aload_n 0, 1) := by decide +kernel
theorem dX12_law_21 : decode cX12_law 21 = .ok (.dup, 1) := by decide +kernel
theorem dX12_law_22 : decode cX12_law 22 = .ok (.getfield 194, 3) := by decide +kernel
theorem dX12_law_25 : decode cX12_law 25 = .ok (.iconst 1, 1) := by decide +kernel
theorem dX12_law_26 : decode cX12_law 26 = .ok (.iadd, 1) := by decide +kernel
theorem dX12_law_27 : decode cX12_law 27 = .ok (.putfield 194, 3) := by decide +kernel
theorem dX12_law_30 : decode cX12_law 30 = .ok (.aload_n 0, 1) := by decide +kernel
theorem dX12_law_31 : decode cX12_law 31 = .ok (.iload_n 1, 1) := by decide +kernel
theorem dX12_law_32 : decode cX12_law 32 = .ok (.bipush 88, 2) := by decide +kernel
theorem dX12_law_34 : decode cX12_law 34 = .ok (.invokevirtual 225, 3) := by decide +kernel
theorem dX12_law_37 : decode cX12_law 37 = .ok (.ifCond .eq 37, 3) := by decide +kernel
theorem dX12_law_40 : decode cX12_law 40 = .ok (.aload_n 0, 1) := by decide +kernel
theorem dX12_law_41 : decode cX12_law 41 = .ok (.dup, 1) := by decide +kernel
theorem dX12_law_42 : decode cX12_law 42 = .ok (.getfield 194, 3) := by decide +kernel
theorem dX12_law_45 : decode cX12_law 45 = .ok (.iconst 1, 1) := by decide +kernel
theorem dX12_law_46 : decode cX12_law 46 = .ok (.iadd, 1) := by decide +kernel
theorem dX12_law_47 : decode cX12_law 47 = .ok (.putfield 194, 3) := by decide +kernel
theorem dX12_law_50 : decode cX12_law 50 = .ok (.aload_n 0, 1) := by decide +kernel
theorem dX12_law_51 : decode cX12_law 51 = .ok (.getfield 269, 3) := by decide +kernel
theorem dX12_law_54 : decode cX12_law 54 = .ok (.aload_n 0, 1) := by decide +kernel
theorem dX12_law_55 : decode cX12_law 55 = .ok (.getfield 33, 3) := by decide +kernel
theorem dX12_law_58 : decode cX12_law 58 = .ok (.iconst (-1), 1) := by decide +kernel
theorem dX12_law_59 : decode cX12_law 59 = .ok (.iastore, 1) := by decide +kernel
theorem dX12_law_60 : decode cX12_law 60 = .ok (.aload_n 0, 1) := by decide +kernel
theorem dX12_law_61 : decode cX12_law 61 = .ok (.getfield 194, 3) := by decide +kernel
theorem dX12_law_64 : decode cX12_law 64 = .ok (.iload_n 1, 1) := by decide +kernel
theorem dX12_law_65 : decode cX12_law 65 = .ok (.if_icmp .ne 7, 3) := by decide +kernel
theorem dX12_law_68 : decode cX12_law 68 = .ok (.iconst 1, 1) := by decide +kernel
theorem dX12_law_69 : decode cX12_law 69 = .ok (.goto 4, 3) := by decide +kernel
theorem dX12_law_72 : decode cX12_law 72 = .ok (.iconst 0, 1) := by decide +kernel
theorem dX12_law_73 : decode cX12_law 73 = .ok (.ireturn, 1) := by decide +kernel
theorem dX12_law_74 : decode cX12_law 74 = .ok (.aload_n 0, 1) := by decide +kernel
theorem dX12_law_75 : decode cX12_law 75 = .ok (.iload_n 1, 1) := by decide +kernel
theorem dX12_law_76 : decode cX12_law 76 = .ok (.bipush 43, 2) := by decide +kernel
theorem dX12_law_78 : decode cX12_law 78 = .ok (.invokevirtual 225, 3) := by decide +kernel
theorem dX12_law_81 : decode cX12_law 81 = .ok (.ifCond .ne 5, 3) := by decide +kernel
theorem dX12_law_84 : decode cX12_law 84 = .ok (.iconst 0, 1) := by decide +kernel
theorem dX12_law_85 : decode cX12_law 85 = .ok (.ireturn, 1) := by decide +kernel
theorem dX12_law_86 : decode cX12_law 86 = .ok (.aload_n 0, 1) := by decide +kernel
theorem dX12_law_87 : decode cX12_law 87 = .ok (.dup, 1) := by decide +kernel
theorem dX12_law_88 : decode cX12_law 88 = .ok (.getfield 194, 3) := by decide +kernel
theorem dX12_law_91 : decode cX12_law 91 = .ok (.iconst 1, 1) := by decide +kernel
theorem dX12_law_92 : decode cX12_law 92 = .ok (.iadd, 1) := by decide +kernel
theorem dX12_law_93 : decode cX12_law 93 = .ok (.putfield 194, 3) := by decide +kernel
theorem dX12_law_96 : decode cX12_law 96 = .ok (.iconst 0, 1) := by decide +kernel
theorem dX12_law_97 : decode cX12_law 97 = .ok (.istore_n 2, 1) := by decide +kernel
theorem dX12_law_98 : decode cX12_law 98 = .ok (.aload_n 0, 1) := by decide +kernel
theorem dX12_law_99 : decode cX12_law 99 = .ok (.getfield 194, 3) := by decide +kernel
theorem dX12_law_102 : decode cX12_law 102 = .ok (.istore_n 3, 1) := by decide +kernel
theorem dX12_law_103 : decode cX12_law 103 = .ok (.aload_n 0, 1) := by decide +kernel
theorem dX12_law_104 : decode cX12_law 104 = .ok (.getfield 194, 3) := by decide +kernel
theorem dX12_law_107 : decode cX12_law 107 = .ok (.iload_n 3, 1) := by decide +kernel
theorem dX12_law_108 : decode cX12_law 108 = .ok (.iconst 3, 1) := by decide +kernel
theorem dX12_law_109 : decode cX12_law 109 = .ok (.iadd, 1) := by decide +kernel
theorem dX12_law_110 : decode cX12_law 110 = .ok (.if_icmp .ge 44, 3) := by decide +kernel
theorem dX12_law_113 : decode cX12_law 113 = .ok (.aload_n 0, 1) := by decide +kernel
theorem dX12_law_114 : decode cX12_law 114 = .ok (.iload_n 1, 1) := by decide +kernel
theorem dX12_law_115 : decode cX12_law 115 = .ok (.ldc 211, 2) := by decide +kernel
theorem dX12_law_117 : decode cX12_law 117 = .ok (.invokevirtual 213, 3) := by decide +kernel
theorem dX12_law_120 : decode cX12_law 120 = .ok (.ifCond .eq 34, 3) := by decide +kernel
theorem dX12_law_123 : decode cX12_law 123 = .ok (.bipush 10, 2) := by decide +kernel
theorem dX12_law_125 : decode cX12_law 125 = .ok (.iload_n 2, 1) := by decide +kernel
theorem dX12_law_126 : decode cX12_law 126 = .ok (.imul, 1) := by decide +kernel
theorem dX12_law_127 : decode cX12_law 127 = .ok (.aload_n 0, 1) := by decide +kernel
theorem dX12_law_128 : decode cX12_law 128 = .ok (.getfield 191, 3) := by decide +kernel
theorem dX12_law_131 : decode cX12_law 131 = .ok (.aload_n 0, 1) := by decide +kernel
theorem dX12_law_132 : decode cX12_law 132 = .ok (.getfield 194, 3) := by decide +kernel
theorem dX12_law_135 : decode cX12_law 135 = .ok (.iaload, 1) := by decide +kernel
theorem dX12_law_136 : decode cX12_law 136 = .ok (.iadd, 1) := by decide +kernel
theorem dX12_law_137 : decode cX12_law 137 = .ok (.bipush 48, 2) := by decide +kernel
theorem dX12_law_139 : decode cX12_law 139 = .ok (.isub, 1) := by decide +kernel
theorem dX12_law_140 : decode cX12_law 140 = .ok (.istore_n 2, 1) := by decide +kernel
theorem dX12_law_141 : decode cX12_law 141 = .ok (.aload_n 0, 1) := by decide +kernel
theorem dX12_law_142 : decode cX12_law 142 = .ok (.dup, 1) := by decide +kernel
theorem dX12_law_143 : decode cX12_law 143 = .ok (.getfield 194, 3) := by decide +kernel
theorem dX12_law_146 : decode cX12_law 146 = .ok (.iconst 1, 1) := by decide +kernel
theorem dX12_law_147 : decode cX12_law 147 = .ok (.iadd, 1) := by decide +kernel
theorem dX12_law_148 : decode cX12_law 148 = .ok (.putfield 194, 3) := by decide +kernel
theorem dX12_law_151 : decode cX12_law 151 = .ok (.goto (-48), 3) := by decide +kernel
theorem dX12_law_154 : decode cX12_law 154 = .ok (.aload_n 0, 1) := by decide +kernel
theorem dX12_law_155 : decode cX12_law 155 = .ok (.getfield 269, 3) := by decide +kernel
theorem dX12_law_158 : decode cX12_law 158 = .ok (.aload_n 0, 1) := by decide +kernel
theorem dX12_law_159 : decode cX12_law 159 = .ok (.getfield 33, 3) := by decide +kernel
theorem dX12_law_162 : decode cX12_law 162 = .ok (.iload_n 2, 1) := by decide +kernel
theorem dX12_law_163 : decode cX12_law 163 = .ok (.iastore, 1) := by decide +kernel
theorem dX12_law_164 : decode cX12_law 164 = .ok (.aload_n 0, 1) := by decide +kernel
theorem dX12_law_165 : decode cX12_law 165 = .ok (.getfield 194, 3) := by decide +kernel
theorem dX12_law_168 : decode cX12_law 168 = .ok (.iload_n 3, 1) := by decide +kernel
theorem dX12_law_169 : decode cX12_law 169 = .ok (.if_icmp .le 15, 3) := by decide +kernel
theorem dX12_law_172 : decode cX12_law 172 = .ok (.aload_n 0, 1) := by decide +kernel
theorem dX12_law_173 : decode cX12_law 173 = .ok (.getfield 194, 3) := by decide +kernel
theorem dX12_law_176 : decode cX12_law 176 = .ok (.iload_n 1, 1) := by decide +kernel
theorem dX12_law_177 : decode cX12_law 177 = .ok (.if_icmp .ne 7, 3) := by decide +kernel
theorem dX12_law_180 : decode cX12_law 180 = .ok (.iconst 1, 1) := by decide +kernel
theorem dX12_law_181 : decode cX12_law 181 = .ok (.goto 4, 3) := by decide +kernel
theorem dX12_law_184 : decode cX12_law 184 = .ok (.iconst 0, 1) := by decide +kernel
theorem dX12_law_185 : decode cX12_law 185 = .ok (.ireturn, 1) := by decide +kernel
theorem dX12_reads_0 : decode cX12_reads 0 = .ok (.aload_n 0, 1) := by decide +kernel
theorem dX12_reads_1 : decode cX12_reads 1 = .ok (.getfield 188, 3) := by decide +kernel
theorem dX12_reads_4 : decode cX12_reads 4 = .ok (.istore_n 3, 1) := by decide +kernel
theorem dX12_reads_5 : decode cX12_reads 5 = .ok (.aload_n 0, 1) := by decide +kernel
theorem dX12_reads_6 : decode cX12_reads 6 = .ok (.iconst 0, 1) := by decide +kernel
theorem dX12_reads_7 : decode cX12_reads 7 = .ok (.putfield 188, 3) := by decide +kernel
theorem dX12_reads_10 : decode cX12_reads 10 = .ok (.iload_n 3, 1) := by decide +kernel
theorem dX12_reads_11 : decode cX12_reads 11 = .ok (.bipush 60, 2) := by decide +kernel
theorem dX12_reads_13 : decode cX12_reads 13 = .ok (.invokestatic 272, 3) := by decide +kernel
theorem dX12_reads_16 : decode cX12_reads 16 = .ok (.istore 4, 2) := by decide +kernel
theorem dX12_reads_18 : decode cX12_reads 18 = .ok (.aload_n 0, 1) := by decide +kernel
theorem dX12_reads_19 : decode cX12_reads 19 = .ok (.iconst 0, 1) := by decide +kernel
theorem dX12_reads_20 : decode cX12_reads 20 = .ok (.putfield 194, 3) := by decide +kernel
theorem dX12_reads_23 : decode cX12_reads 23 = .ok (.aload_n 0, 1) := by decide +kernel
theorem dX12_reads_24 : decode cX12_reads 24 = .ok (.iload_n 1, 1) := by decide +kernel
theorem dX12_reads_25 : decode cX12_reads 25 = .ok (.putfield 205, 3) := by decide +kernel
theorem dX12_reads_28 : decode cX12_reads 28 = .ok (.aload_n 0, 1) := by decide +kernel
theorem dX12_reads_29 : decode cX12_reads 29 = .ok (.getfield 208, 3) := by decide +kernel
theorem dX12_reads_32 : decode cX12_reads 32 = .ok (.iload_n 1, 1) := by decide +kernel
theorem dX12_reads_33 : decode cX12_reads 33 = .ok (.iconst 0, 1) := by decide +kernel
theorem dX12_reads_34 : decode cX12_reads 34 = .ok (.iastore, 1) := by decide +kernel
theorem dX12_reads_35 : decode cX12_reads 35 = .ok (.aload_n 0, 1) := by decide +kernel
theorem dX12_reads_36 : decode cX12_reads 36 = .ok (.iload_n 2, 1) := by decide +kernel
theorem dX12_reads_37 : decode cX12_reads 37 = .ok (.ifCond .eq 9, 3) := by decide +kernel
theorem dX12_reads_40 : decode cX12_reads 40 = .ok (.ldc_w 278, 3) := by decide +kernel
theorem dX12_reads_43 : decode cX12_reads 43 = .ok (.goto 6, 3) := by decide +kernel
theorem dX12_reads_46 : decode cX12_reads 46 = .ok (.ldc_w 280, 3) := by decide +kernel
theorem dX12_reads_49 : decode cX12_reads 49 = .ok (.putfield 221, 3) := by decide +kernel
theorem dX12_reads_52 : decode cX12_reads 52 = .ok (.iload_n 2, 1) := by decide +kernel
theorem dX12_reads_53 : decode cX12_reads 53 = .ok (.ifCond .eq 12, 3) := by decide +kernel
theorem dX12_reads_56 : decode cX12_reads 56 = .ok (.aload_n 0, 1) := by decide +kernel
theorem dX12_reads_57 : decode cX12_reads 57 = .ok (.iload 4, 2) := by decide +kernel
theorem dX12_reads_59 : decode cX12_reads 59 = .ok (.invokevirtual 282, 3) := by decide +kernel
theorem dX12_reads_62 : decode cX12_reads 62 = .ok (.goto 9, 3) := by decide +kernel
theorem dX12_reads_65 : decode cX12_reads 65 = .ok (.aload_n 0, 1) := by decide +kernel
theorem dX12_reads_66 : decode cX12_reads 66 = .ok (.iload 4, 2) := by decide +kernel
theorem dX12_reads_68 : decode cX12_reads 68 = .ok (.invokevirtual 285, 3) := by decide +kernel
theorem dX12_reads_71 : decode cX12_reads 71 = .ok (.istore 5, 2) := by decide +kernel
theorem dX12_reads_73 : decode cX12_reads 73 = .ok (.iload_n 3, 1) := by decide +kernel
theorem dX12_reads_74 : decode cX12_reads 74 = .ok (.bipush 60, 2) := by decide +kernel
theorem dX12_reads_76 : decode cX12_reads 76 = .ok (.if_icmp .le 20, 3) := by decide +kernel
theorem dX12_reads_79 : decode cX12_reads 79 = .ok (.iload 5, 2) := by decide +kernel
theorem dX12_reads_81 : decode cX12_reads 81 = .ok (.ifCond .ne 12, 3) := by decide +kernel
theorem dX12_reads_84 : decode cX12_reads 84 = .ok (.aload_n 0, 1) := by decide +kernel
theorem dX12_reads_85 : decode cX12_reads 85 = .ok (.getfield 194, 3) := by decide +kernel
theorem dX12_reads_88 : decode cX12_reads 88 = .ok (.bipush 60, 2) := by decide +kernel
theorem dX12_reads_90 : decode cX12_reads 90 = .ok (.if_icmp .lt 6, 3) := by decide +kernel
theorem dX12_reads_93 : decode cX12_reads 93 = .ok (.bipush (-61), 2) := by decide +kernel
theorem dX12_reads_95 : decode cX12_reads 95 = .ok (.ireturn, 1) := by decide +kernel
theorem dX12_reads_96 : decode cX12_reads 96 = .ok (.iload 5, 2) := by decide +kernel
theorem dX12_reads_98 : decode cX12_reads 98 = .ok (.ifCond .eq 7, 3) := by decide +kernel
theorem dX12_reads_101 : decode cX12_reads 101 = .ok (.iconst 1, 1) := by decide +kernel
theorem dX12_reads_102 : decode cX12_reads 102 = .ok (.goto 9, 3) := by decide +kernel
theorem dX12_reads_105 : decode cX12_reads 105 = .ok (.iconst (-1), 1) := by decide +kernel
theorem dX12_reads_106 : decode cX12_reads 106 = .ok (.aload_n 0, 1) := by decide +kernel
theorem dX12_reads_107 : decode cX12_reads 107 = .ok (.getfield 194, 3) := by decide +kernel
theorem dX12_reads_110 : decode cX12_reads 110 = .ok (.isub, 1) := by decide +kernel
theorem dX12_reads_111 : decode cX12_reads 111 = .ok (.ireturn, 1) := by decide +kernel
theorem dX12_plan_0 : decode cX12_plan 0 = .ok (.aload_n 0, 1) := by decide +kernel
theorem dX12_plan_1 : decode cX12_plan 1 = .ok (.iconst 0, 1) := by decide +kernel
theorem dX12_plan_2 : decode cX12_plan 2 = .ok (.putfield 3, 3) := by decide +kernel
theorem dX12_plan_5 : decode cX12_plan 5 = .ok (.aload_n 0, 1) := by decide +kernel
theorem dX12_plan_6 : decode cX12_plan 6 = .ok (.iload_n 1, 1) := by decide +kernel
theorem dX12_plan_7 : decode cX12_plan 7 = .ok (.invokevirtual 145, 3) := by decide +kernel
theorem dX12_plan_10 : decode cX12_plan 10 = .ok (.ifCond .ne 11, 3) := by decide +kernel
theorem dX12_plan_13 : decode cX12_plan 13 = .ok (.aload_n 0, 1) := by decide +kernel
theorem dX12_plan_14 : decode cX12_plan 14 = .ok (.iconst 0, 1) := by decide +kernel
theorem dX12_plan_15 : decode cX12_plan 15 = .ok (.putfield 188, 3) := by decide +kernel
theorem dX12_plan_18 : decode cX12_plan 18 = .ok (.bipush (-100), 2) := by decide +kernel
theorem dX12_plan_20 : decode cX12_plan 20 = .ok (.ireturn, 1) := by decide +kernel
theorem dX12_plan_21 : decode cX12_plan 21 = .ok (.bipush 16, 2) := by decide +kernel
theorem dX12_plan_23 : decode cX12_plan 23 = .ok (.istore_n 2, 1) := by decide +kernel
theorem dX12_plan_24 : decode cX12_plan 24 = .ok (.aload_n 0, 1) := by decide +kernel
theorem dX12_plan_25 : decode cX12_plan 25 = .ok (.iload_n 2, 1) := by decide +kernel
theorem dX12_plan_26 : decode cX12_plan 26 = .ok (.iconst 1, 1) := by decide +kernel
theorem dX12_plan_27 : decode cX12_plan 27 = .ok (.invokevirtual 288, 3) := by decide +kernel
theorem dX12_plan_30 : decode cX12_plan 30 = .ok (.istore_n 3, 1) := by decide +kernel
theorem dX12_plan_31 : decode cX12_plan 31 = .ok (.iload_n 3, 1) := by decide +kernel
theorem dX12_plan_32 : decode cX12_plan 32 = .ok (.ifCond .le 66, 3) := by decide +kernel
theorem dX12_plan_35 : decode cX12_plan 35 = .ok (.iconst 0, 1) := by decide +kernel
theorem dX12_plan_36 : decode cX12_plan 36 = .ok (.istore 4, 2) := by decide +kernel
theorem dX12_plan_38 : decode cX12_plan 38 = .ok (.iload 4, 2) := by decide +kernel
theorem dX12_plan_40 : decode cX12_plan 40 = .ok (.aload_n 0, 1) := by decide +kernel
theorem dX12_plan_41 : decode cX12_plan 41 = .ok (.getfield 208, 3) := by decide +kernel
theorem dX12_plan_44 : decode cX12_plan 44 = .ok (.iload_n 2, 1) := by decide +kernel
theorem dX12_plan_45 : decode cX12_plan 45 = .ok (.iaload, 1) := by decide +kernel
theorem dX12_plan_46 : decode cX12_plan 46 = .ok (.if_icmp .ge 33, 3) := by decide +kernel
theorem dX12_plan_49 : decode cX12_plan 49 = .ok (.aload_n 0, 1) := by decide +kernel
theorem dX12_plan_50 : decode cX12_plan 50 = .ok (.getfield 202, 3) := by decide +kernel
theorem dX12_plan_53 : decode cX12_plan 53 = .ok (.bipush 100, 2) := by decide +kernel
theorem dX12_plan_55 : decode cX12_plan 55 = .ok (.iload_n 1, 1) := by decide +kernel
theorem dX12_plan_56 : decode cX12_plan 56 = .ok (.imul, 1) := by decide +kernel
theorem dX12_plan_57 : decode cX12_plan 57 = .ok (.iload 4, 2) := by decide +kernel
theorem dX12_plan_59 : decode cX12_plan 59 = .ok (.iadd, 1) := by decide +kernel
theorem dX12_plan_60 : decode cX12_plan 60 = .ok (.aload_n 0, 1) := by decide +kernel
theorem dX12_plan_61 : decode cX12_plan 61 = .ok (.getfield 202, 3) := by decide +kernel
theorem dX12_plan_64 : decode cX12_plan 64 = .ok (.bipush 100, 2) := by decide +kernel
theorem dX12_plan_66 : decode cX12_plan 66 = .ok (.iload_n 2, 1) := by decide +kernel
theorem dX12_plan_67 : decode cX12_plan 67 = .ok (.imul, 1) := by decide +kernel
theorem dX12_plan_68 : decode cX12_plan 68 = .ok (.iload 4, 2) := by decide +kernel
theorem dX12_plan_70 : decode cX12_plan 70 = .ok (.iadd, 1) := by decide +kernel
theorem dX12_plan_71 : decode cX12_plan 71 = .ok (.iaload, 1) := by decide +kernel
theorem dX12_plan_72 : decode cX12_plan 72 = .ok (.iastore, 1) := by decide +kernel
theorem dX12_plan_73 : decode cX12_plan 73 = .ok (.iinc 4 1, 3) := by decide +kernel
theorem dX12_plan_76 : decode cX12_plan 76 = .ok (.goto (-38), 3) := by decide +kernel
theorem dX12_plan_79 : decode cX12_plan 79 = .ok (.aload_n 0, 1) := by decide +kernel
theorem dX12_plan_80 : decode cX12_plan 80 = .ok (.getfield 208, 3) := by decide +kernel
theorem dX12_plan_83 : decode cX12_plan 83 = .ok (.iload_n 1, 1) := by decide +kernel
theorem dX12_plan_84 : decode cX12_plan 84 = .ok (.aload_n 0, 1) := by decide +kernel
theorem dX12_plan_85 : decode cX12_plan 85 = .ok (.getfield 208, 3) := by decide +kernel
theorem dX12_plan_88 : decode cX12_plan 88 = .ok (.iload_n 2, 1) := by decide +kernel
theorem dX12_plan_89 : decode cX12_plan 89 = .ok (.iaload, 1) := by decide +kernel
theorem dX12_plan_90 : decode cX12_plan 90 = .ok (.iastore, 1) := by decide +kernel
theorem dX12_plan_91 : decode cX12_plan 91 = .ok (.aload_n 0, 1) := by decide +kernel
theorem dX12_plan_92 : decode cX12_plan 92 = .ok (.getfield 142, 3) := by decide +kernel
theorem dX12_plan_95 : decode cX12_plan 95 = .ok (.iload_n 1, 1) := by decide +kernel
theorem dX12_plan_96 : decode cX12_plan 96 = .ok (.iconst 1, 1) := by decide +kernel
theorem dX12_plan_97 : decode cX12_plan 97 = .ok (.bastore, 1) := by decide +kernel
theorem dX12_plan_98 : decode cX12_plan 98 = .ok (.iload_n 3, 1) := by decide +kernel
theorem dX12_plan_99 : decode cX12_plan 99 = .ok (.ireturn, 1) := by decide +kernel
theorem dX12_acted_0 : decode cX12_acted 0 = .ok (.iload_n 0, 1) := by decide +kernel
theorem dX12_acted_1 : decode cX12_acted 1 = .ok (.tableswitch 186 38 62 #[169, 186, 186, 186, 115, 119, 186, 123, 186, 186, 186, 186, 186, 186, 186, 186, 186, 186, 186, 186, 186, 186, 127, 155, 141], 115) := by decide +kernel
theorem dX12_acted_116 : decode cX12_acted 116 = .ok (.iload_n 1, 1) := by decide +kernel
theorem dX12_acted_117 : decode cX12_acted 117 = .ok (.iload_n 2, 1) := by decide +kernel
theorem dX12_acted_118 : decode cX12_acted 118 = .ok (.imul, 1) := by decide +kernel
theorem dX12_acted_119 : decode cX12_acted 119 = .ok (.ireturn, 1) := by decide +kernel
theorem dX12_acted_120 : decode cX12_acted 120 = .ok (.iload_n 1, 1) := by decide +kernel
theorem dX12_acted_121 : decode cX12_acted 121 = .ok (.iload_n 2, 1) := by decide +kernel
theorem dX12_acted_122 : decode cX12_acted 122 = .ok (.iadd, 1) := by decide +kernel
theorem dX12_acted_123 : decode cX12_acted 123 = .ok (.ireturn, 1) := by decide +kernel
theorem dX12_acted_124 : decode cX12_acted 124 = .ok (.iload_n 1, 1) := by decide +kernel
theorem dX12_acted_125 : decode cX12_acted 125 = .ok (.iload_n 2, 1) := by decide +kernel
theorem dX12_acted_126 : decode cX12_acted 126 = .ok (.isub, 1) := by decide +kernel
theorem dX12_acted_127 : decode cX12_acted 127 = .ok (.ireturn, 1) := by decide +kernel
theorem dX12_acted_128 : decode cX12_acted 128 = .ok (.iload_n 1, 1) := by decide +kernel
theorem dX12_acted_129 : decode cX12_acted 129 = .ok (.iload_n 2, 1) := by decide +kernel
theorem dX12_acted_130 : decode cX12_acted 130 = .ok (.if_icmp .ge 7, 3) := by decide +kernel
theorem dX12_acted_133 : decode cX12_acted 133 = .ok (.iconst 1, 1) := by decide +kernel
theorem dX12_acted_134 : decode cX12_acted 134 = .ok (.goto 4, 3) := by decide +kernel
theorem dX12_acted_137 : decode cX12_acted 137 = .ok (.iconst 0, 1) := by decide +kernel
theorem dX12_acted_138 : decode cX12_acted 138 = .ok (.invokestatic 292, 3) := by decide +kernel
theorem dX12_acted_141 : decode cX12_acted 141 = .ok (.ireturn, 1) := by decide +kernel
theorem dX12_acted_142 : decode cX12_acted 142 = .ok (.iload_n 1, 1) := by decide +kernel
theorem dX12_acted_143 : decode cX12_acted 143 = .ok (.iload_n 2, 1) := by decide +kernel
theorem dX12_acted_144 : decode cX12_acted 144 = .ok (.if_icmp .le 7, 3) := by decide +kernel
theorem dX12_acted_147 : decode cX12_acted 147 = .ok (.iconst 1, 1) := by decide +kernel
theorem dX12_acted_148 : decode cX12_acted 148 = .ok (.goto 4, 3) := by decide +kernel
theorem dX12_acted_151 : decode cX12_acted 151 = .ok (.iconst 0, 1) := by decide +kernel
theorem dX12_acted_152 : decode cX12_acted 152 = .ok (.invokestatic 292, 3) := by decide +kernel
theorem dX12_acted_155 : decode cX12_acted 155 = .ok (.ireturn, 1) := by decide +kernel
theorem dX12_acted_156 : decode cX12_acted 156 = .ok (.iload_n 1, 1) := by decide +kernel
theorem dX12_acted_157 : decode cX12_acted 157 = .ok (.iload_n 2, 1) := by decide +kernel
theorem dX12_acted_158 : decode cX12_acted 158 = .ok (.if_icmp .ne 7, 3) := by decide +kernel
theorem dX12_acted_161 : decode cX12_acted 161 = .ok (.iconst 1, 1) := by decide +kernel
theorem dX12_acted_162 : decode cX12_acted 162 = .ok (.goto 4, 3) := by decide +kernel
theorem dX12_acted_165 : decode cX12_acted 165 = .ok (.iconst 0, 1) := by decide +kernel
theorem dX12_acted_166 : decode cX12_acted 166 = .ok (.invokestatic 292, 3) := by decide +kernel
theorem dX12_acted_169 : decode cX12_acted 169 = .ok (.ireturn, 1) := by decide +kernel
theorem dX12_acted_170 : decode cX12_acted 170 = .ok (.iload_n 1, 1) := by decide +kernel
theorem dX12_acted_171 : decode cX12_acted 171 = .ok (.ifCond .eq 11, 3) := by decide +kernel
theorem dX12_acted_174 : decode cX12_acted 174 = .ok (.iload_n 2, 1) := by decide +kernel
theorem dX12_acted_175 : decode cX12_acted 175 = .ok (.ifCond .eq 7, 3) := by decide +kernel
theorem dX12_acted_178 : decode cX12_acted 178 = .ok (.iconst 1, 1) := by decide +kernel
theorem dX12_acted_179 : decode cX12_acted 179 = .ok (.goto 4, 3) := by decide +kernel
theorem dX12_acted_182 : decode cX12_acted 182 = .ok (.iconst 0, 1) := by decide +kernel
theorem dX12_acted_183 : decode cX12_acted 183 = .ok (.invokestatic 292, 3) := by decide +kernel
theorem dX12_acted_186 : decode cX12_acted 186 = .ok (.ireturn, 1) := by decide +kernel
theorem dX12_acted_187 : decode cX12_acted 187 = .ok (.iload_n 1, 1) := by decide +kernel
theorem dX12_acted_188 : decode cX12_acted 188 = .ok (.ifCond .ne 7, 3) := by decide +kernel
theorem dX12_acted_191 : decode cX12_acted 191 = .ok (.iload_n 2, 1) := by decide +kernel
theorem dX12_acted_192 : decode cX12_acted 192 = .ok (.ifCond .eq 7, 3) := by decide +kernel
theorem dX12_acted_195 : decode cX12_acted 195 = .ok (.iconst 1, 1) := by decide +kernel
theorem dX12_acted_196 : decode cX12_acted 196 = .ok (.goto 4, 3) := by decide +kernel
theorem dX12_acted_199 : decode cX12_acted 199 = .ok (.iconst 0, 1) := by decide +kernel
theorem dX12_acted_200 : decode cX12_acted 200 = .ok (.invokestatic 292, 3) := by decide +kernel
theorem dX12_acted_203 : decode cX12_acted 203 = .ok (.ireturn, 1) := by decide +kernel
theorem dX12_gives_0 : decode cX12_gives 0 = .ok (.iconst 0, 1) := by decide +kernel
theorem dX12_gives_1 : decode cX12_gives 1 = .ok (.istore_n 3, 1) := by decide +kernel
theorem dX12_gives_2 : decode cX12_gives 2 = .ok (.iload_n 1, 1) := by decide +kernel
theorem dX12_gives_3 : decode cX12_gives 3 = .ok (.istore 4, 2) := by decide +kernel
theorem dX12_gives_5 : decode cX12_gives 5 = .ok (.iload 4, 2) := by decide +kernel
theorem dX12_gives_7 : decode cX12_gives 7 = .ok (.iload_n 2, 1) := by decide +kernel
theorem dX12_gives_8 : decode cX12_gives 8 = .ok (.if_icmp .ge 182, 3) := by decide +kernel
theorem dX12_gives_11 : decode cX12_gives 11 = .ok (.aload_n 0, 1) := by decide +kernel
theorem dX12_gives_12 : decode cX12_gives 12 = .ok (.getfield 202, 3) := by decide +kernel
theorem dX12_gives_15 : decode cX12_gives 15 = .ok (.iload 4, 2) := by decide +kernel
theorem dX12_gives_17 : decode cX12_gives 17 = .ok (.iaload, 1) := by decide +kernel
theorem dX12_gives_18 : decode cX12_gives 18 = .ok (.sipush (-300), 3) := by decide +kernel
theorem dX12_gives_21 : decode cX12_gives 21 = .ok (.if_icmp .eq 169, 3) := by decide +kernel
theorem dX12_gives_24 : decode cX12_gives 24 = .ok (.aload_n 0, 1) := by decide +kernel
theorem dX12_gives_25 : decode cX12_gives 25 = .ok (.getfield 202, 3) := by decide +kernel
theorem dX12_gives_28 : decode cX12_gives 28 = .ok (.iload 4, 2) := by decide +kernel
theorem dX12_gives_30 : decode cX12_gives 30 = .ok (.iaload, 1) := by decide +kernel
theorem dX12_gives_31 : decode cX12_gives 31 = .ok (.istore 5, 2) := by decide +kernel
theorem dX12_gives_33 : decode cX12_gives 33 = .ok (.iload 5, 2) := by decide +kernel
theorem dX12_gives_35 : decode cX12_gives 35 = .ok (.ifCond .lt 17, 3) := by decide +kernel
theorem dX12_gives_38 : decode cX12_gives 38 = .ok (.aload_n 0, 1) := by decide +kernel
theorem dX12_gives_39 : decode cX12_gives 39 = .ok (.getfield 296, 3) := by decide +kernel
theorem dX12_gives_42 : decode cX12_gives 42 = .ok (.iload_n 3, 1) := by decide +kernel
theorem dX12_gives_43 : decode cX12_gives 43 = .ok (.iload 5, 2) := by decide +kernel
theorem dX12_gives_45 : decode cX12_gives 45 = .ok (.iastore, 1) := by decide +kernel
theorem dX12_gives_46 : decode cX12_gives 46 = .ok (.iinc 3 1, 3) := by decide +kernel
theorem dX12_gives_49 : decode cX12_gives 49 = .ok (.goto 135, 3) := by decide +kernel
theorem dX12_gives_52 : decode cX12_gives 52 = .ok (.iload 5, 2) := by decide +kernel
theorem dX12_gives_54 : decode cX12_gives 54 = .ok (.bipush (-13), 2) := by decide +kernel
theorem dX12_gives_56 : decode cX12_gives 56 = .ok (.if_icmp .lt 24, 3) := by decide +kernel
theorem dX12_gives_59 : decode cX12_gives 59 = .ok (.aload_n 0, 1) := by decide +kernel
theorem dX12_gives_60 : decode cX12_gives 60 = .ok (.getfield 296, 3) := by decide +kernel
theorem dX12_gives_63 : decode cX12_gives 63 = .ok (.iload_n 3, 1) := by decide +kernel
theorem dX12_gives_64 : decode cX12_gives 64 = .ok (.aload_n 0, 1) := by decide +kernel
theorem dX12_gives_65 : decode cX12_gives 65 = .ok (.getfield 299, 3) := by decide +kernel
theorem dX12_gives_68 : decode cX12_gives 68 = .ok (.iconst (-1), 1) := by decide +kernel
theorem dX12_gives_69 : decode cX12_gives 69 = .ok (.iload 5, 2) := by decide +kernel
theorem dX12_gives_71 : decode cX12_gives 71 = .ok (.isub, 1) := by decide +kernel
theorem dX12_gives_72 : decode cX12_gives 72 = .ok (.iaload, 1) := by decide +kernel
theorem dX12_gives_73 : decode cX12_gives 73 = .ok (.iastore, 1) := by decide +kernel
theorem dX12_gives_74 : decode cX12_gives 74 = .ok (.iinc 3 1, 3) := by decide +kernel
theorem dX12_gives_77 : decode cX12_gives 77 = .ok (.goto 107, 3) := by decide +kernel

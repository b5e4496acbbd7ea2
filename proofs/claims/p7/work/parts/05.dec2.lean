theorem dX12_gives_80 : decode cX12_gives 80 = .ok (.iload 5, 2) := by decide +kernel
theorem dX12_gives_82 : decode cX12_gives 82 = .ok (.bipush 33, 2) := by decide +kernel
theorem dX12_gives_84 : decode cX12_gives 84 = .ok (.invokestatic 243, 3) := by decide +kernel
theorem dX12_gives_87 : decode cX12_gives 87 = .ok (.if_icmp .ne 33, 3) := by decide +kernel
theorem dX12_gives_90 : decode cX12_gives 90 = .ok (.aload_n 0, 1) := by decide +kernel
theorem dX12_gives_91 : decode cX12_gives 91 = .ok (.getfield 296, 3) := by decide +kernel
theorem dX12_gives_94 : decode cX12_gives 94 = .ok (.iload_n 3, 1) := by decide +kernel
theorem dX12_gives_95 : decode cX12_gives 95 = .ok (.iconst 1, 1) := by decide +kernel
theorem dX12_gives_96 : decode cX12_gives 96 = .ok (.isub, 1) := by decide +kernel
theorem dX12_gives_97 : decode cX12_gives 97 = .ok (.aload_n 0, 1) := by decide +kernel
theorem dX12_gives_98 : decode cX12_gives 98 = .ok (.getfield 296, 3) := by decide +kernel
theorem dX12_gives_101 : decode cX12_gives 101 = .ok (.iload_n 3, 1) := by decide +kernel
theorem dX12_gives_102 : decode cX12_gives 102 = .ok (.iconst 1, 1) := by decide +kernel
theorem dX12_gives_103 : decode cX12_gives 103 = .ok (.isub, 1) := by decide +kernel
theorem dX12_gives_104 : decode cX12_gives 104 = .ok (.iaload, 1) := by decide +kernel
theorem dX12_gives_105 : decode cX12_gives 105 = .ok (.ifCond .ne 7, 3) := by decide +kernel
theorem dX12_gives_108 : decode cX12_gives 108 = .ok (.iconst 1, 1) := by decide +kernel
theorem dX12_gives_109 : decode cX12_gives 109 = .ok (.goto 4, 3) := by decide +kernel
theorem dX12_gives_112 : decode cX12_gives 112 = .ok (.iconst 0, 1) := by decide +kernel
theorem dX12_gives_113 : decode cX12_gives 113 = .ok (.invokestatic 292, 3) := by decide +kernel
theorem dX12_gives_116 : decode cX12_gives 116 = .ok (.iastore, 1) := by decide +kernel
theorem dX12_gives_117 : decode cX12_gives 117 = .ok (.goto 67, 3) := by decide +kernel
theorem dX12_gives_120 : decode cX12_gives 120 = .ok (.iload 5, 2) := by decide +kernel
theorem dX12_gives_122 : decode cX12_gives 122 = .ok (.bipush 126, 2) := by decide +kernel
theorem dX12_gives_124 : decode cX12_gives 124 = .ok (.invokestatic 243, 3) := by decide +kernel
theorem dX12_gives_127 : decode cX12_gives 127 = .ok (.if_icmp .ne 23, 3) := by decide +kernel
theorem dX12_gives_130 : decode cX12_gives 130 = .ok (.aload_n 0, 1) := by decide +kernel
theorem dX12_gives_131 : decode cX12_gives 131 = .ok (.getfield 296, 3) := by decide +kernel
theorem dX12_gives_134 : decode cX12_gives 134 = .ok (.iload_n 3, 1) := by decide +kernel
theorem dX12_gives_135 : decode cX12_gives 135 = .ok (.iconst 1, 1) := by decide +kernel
theorem dX12_gives_136 : decode cX12_gives 136 = .ok (.isub, 1) := by decide +kernel
theorem dX12_gives_137 : decode cX12_gives 137 = .ok (.aload_n 0, 1) := by decide +kernel
theorem dX12_gives_138 : decode cX12_gives 138 = .ok (.getfield 296, 3) := by decide +kernel
theorem dX12_gives_141 : decode cX12_gives 141 = .ok (.iload_n 3, 1) := by decide +kernel
theorem dX12_gives_142 : decode cX12_gives 142 = .ok (.iconst 1, 1) := by decide +kernel
theorem dX12_gives_143 : decode cX12_gives 143 = .ok (.isub, 1) := by decide +kernel
theorem dX12_gives_144 : decode cX12_gives 144 = .ok (.iaload, 1) := by decide +kernel
theorem dX12_gives_145 : decode cX12_gives 145 = .ok (.ineg, 1) := by decide +kernel
theorem dX12_gives_146 : decode cX12_gives 146 = .ok (.iastore, 1) := by decide +kernel
theorem dX12_gives_147 : decode cX12_gives 147 = .ok (.goto 37, 3) := by decide +kernel
theorem dX12_gives_150 : decode cX12_gives 150 = .ok (.iinc 3 (-1), 3) := by decide +kernel
theorem dX12_gives_153 : decode cX12_gives 153 = .ok (.aload_n 0, 1) := by decide +kernel
theorem dX12_gives_154 : decode cX12_gives 154 = .ok (.getfield 296, 3) := by decide +kernel
theorem dX12_gives_157 : decode cX12_gives 157 = .ok (.iload_n 3, 1) := by decide +kernel
theorem dX12_gives_158 : decode cX12_gives 158 = .ok (.iconst 1, 1) := by decide +kernel
theorem dX12_gives_159 : decode cX12_gives 159 = .ok (.isub, 1) := by decide +kernel
theorem dX12_gives_160 : decode cX12_gives 160 = .ok (.iload 5, 2) := by decide +kernel
theorem dX12_gives_162 : decode cX12_gives 162 = .ok (.sipush 200, 3) := by decide +kernel
theorem dX12_gives_165 : decode cX12_gives 165 = .ok (.iadd, 1) := by decide +kernel
theorem dX12_gives_166 : decode cX12_gives 166 = .ok (.aload_n 0, 1) := by decide +kernel
theorem dX12_gives_167 : decode cX12_gives 167 = .ok (.getfield 296, 3) := by decide +kernel
theorem dX12_gives_170 : decode cX12_gives 170 = .ok (.iload_n 3, 1) := by decide +kernel
theorem dX12_gives_171 : decode cX12_gives 171 = .ok (.iconst 1, 1) := by decide +kernel
theorem dX12_gives_172 : decode cX12_gives 172 = .ok (.isub, 1) := by decide +kernel
theorem dX12_gives_173 : decode cX12_gives 173 = .ok (.iaload, 1) := by decide +kernel
theorem dX12_gives_174 : decode cX12_gives 174 = .ok (.aload_n 0, 1) := by decide +kernel
theorem dX12_gives_175 : decode cX12_gives 175 = .ok (.getfield 296, 3) := by decide +kernel
theorem dX12_gives_178 : decode cX12_gives 178 = .ok (.iload_n 3, 1) := by decide +kernel
theorem dX12_gives_179 : decode cX12_gives 179 = .ok (.iaload, 1) := by decide +kernel
theorem dX12_gives_180 : decode cX12_gives 180 = .ok (.invokestatic 302, 3) := by decide +kernel
theorem dX12_gives_183 : decode cX12_gives 183 = .ok (.iastore, 1) := by decide +kernel
theorem dX12_gives_184 : decode cX12_gives 184 = .ok (.iinc 4 1, 3) := by decide +kernel
theorem dX12_gives_187 : decode cX12_gives 187 = .ok (.goto (-182), 3) := by decide +kernel
theorem dX12_gives_190 : decode cX12_gives 190 = .ok (.aload_n 0, 1) := by decide +kernel
theorem dX12_gives_191 : decode cX12_gives 191 = .ok (.iload 4, 2) := by decide +kernel
theorem dX12_gives_193 : decode cX12_gives 193 = .ok (.putfield 306, 3) := by decide +kernel
theorem dX12_gives_196 : decode cX12_gives 196 = .ok (.aload_n 0, 1) := by decide +kernel
theorem dX12_gives_197 : decode cX12_gives 197 = .ok (.getfield 296, 3) := by decide +kernel
theorem dX12_gives_200 : decode cX12_gives 200 = .ok (.iconst 0, 1) := by decide +kernel
theorem dX12_gives_201 : decode cX12_gives 201 = .ok (.iaload, 1) := by decide +kernel
theorem dX12_gives_202 : decode cX12_gives 202 = .ok (.ireturn, 1) := by decide +kernel
theorem dX12_goesOn_0 : decode cX12_goesOn 0 = .ok (.aload_n 0, 1) := by decide +kernel
theorem dX12_goesOn_1 : decode cX12_goesOn 1 = .ok (.getfield 309, 3) := by decide +kernel
theorem dX12_goesOn_4 : decode cX12_goesOn 4 = .ok (.iload_n 1, 1) := by decide +kernel
theorem dX12_goesOn_5 : decode cX12_goesOn 5 = .ok (.iaload, 1) := by decide +kernel
theorem dX12_goesOn_6 : decode cX12_goesOn 6 = .ok (.ifCond .ne 7, 3) := by decide +kernel
theorem dX12_goesOn_9 : decode cX12_goesOn 9 = .ok (.iconst 1, 1) := by decide +kernel
theorem dX12_goesOn_10 : decode cX12_goesOn 10 = .ok (.goto 4, 3) := by decide +kernel
theorem dX12_goesOn_13 : decode cX12_goesOn 13 = .ok (.iconst 0, 1) := by decide +kernel
theorem dX12_goesOn_14 : decode cX12_goesOn 14 = .ok (.ireturn, 1) := by decide +kernel
theorem dX12_starts_0 : decode cX12_starts 0 = .ok (.aload_n 0, 1) := by decide +kernel
theorem dX12_starts_1 : decode cX12_starts 1 = .ok (.iconst 0, 1) := by decide +kernel
theorem dX12_starts_2 : decode cX12_starts 2 = .ok (.putfield 312, 3) := by decide +kernel
theorem dX12_starts_5 : decode cX12_starts 5 = .ok (.iconst 0, 1) := by decide +kernel
theorem dX12_starts_6 : decode cX12_starts 6 = .ok (.istore_n 1, 1) := by decide +kernel
theorem dX12_starts_7 : decode cX12_starts 7 = .ok (.iload_n 1, 1) := by decide +kernel
theorem dX12_starts_8 : decode cX12_starts 8 = .ok (.aload_n 0, 1) := by decide +kernel
theorem dX12_starts_9 : decode cX12_starts 9 = .ok (.getfield 315, 3) := by decide +kernel
theorem dX12_starts_12 : decode cX12_starts 12 = .ok (.arraylength, 1) := by decide +kernel
theorem dX12_starts_13 : decode cX12_starts 13 = .ok (.if_icmp .ge 16, 3) := by decide +kernel
theorem dX12_starts_16 : decode cX12_starts 16 = .ok (.aload_n 0, 1) := by decide +kernel
theorem dX12_starts_17 : decode cX12_starts 17 = .ok (.getfield 315, 3) := by decide +kernel
theorem dX12_starts_20 : decode cX12_starts 20 = .ok (.iload_n 1, 1) := by decide +kernel
theorem dX12_starts_21 : decode cX12_starts 21 = .ok (.iconst 0, 1) := by decide +kernel
theorem dX12_starts_22 : decode cX12_starts 22 = .ok (.iastore, 1) := by decide +kernel
theorem dX12_starts_23 : decode cX12_starts 23 = .ok (.iinc 1 1, 3) := by decide +kernel
theorem dX12_starts_26 : decode cX12_starts 26 = .ok (.goto (-19), 3) := by decide +kernel
theorem dX12_starts_29 : decode cX12_starts 29 = .ok (.iconst 0, 1) := by decide +kernel
theorem dX12_starts_30 : decode cX12_starts 30 = .ok (.istore_n 1, 1) := by decide +kernel
theorem dX12_starts_31 : decode cX12_starts 31 = .ok (.iload_n 1, 1) := by decide +kernel
theorem dX12_starts_32 : decode cX12_starts 32 = .ok (.aload_n 0, 1) := by decide +kernel
theorem dX12_starts_33 : decode cX12_starts 33 = .ok (.getfield 30, 3) := by decide +kernel
theorem dX12_starts_36 : decode cX12_starts 36 = .ok (.if_icmp .ge 267, 3) := by decide +kernel
theorem dX12_starts_39 : decode cX12_starts 39 = .ok (.aload_n 0, 1) := by decide +kernel
theorem dX12_starts_40 : decode cX12_starts 40 = .ok (.getfield 309, 3) := by decide +kernel
theorem dX12_starts_43 : decode cX12_starts 43 = .ok (.iload_n 1, 1) := by decide +kernel
theorem dX12_starts_44 : decode cX12_starts 44 = .ok (.aload_n 0, 1) := by decide +kernel
theorem dX12_starts_45 : decode cX12_starts 45 = .ok (.getfield 133, 3) := by decide +kernel
theorem dX12_starts_48 : decode cX12_starts 48 = .ok (.iload_n 1, 1) := by decide +kernel
theorem dX12_starts_49 : decode cX12_starts 49 = .ok (.iaload, 1) := by decide +kernel
theorem dX12_starts_50 : decode cX12_starts 50 = .ok (.ifCond .ne 7, 3) := by decide +kernel
theorem dX12_starts_53 : decode cX12_starts 53 = .ok (.iconst 2, 1) := by decide +kernel
theorem dX12_starts_54 : decode cX12_starts 54 = .ok (.goto 4, 3) := by decide +kernel
theorem dX12_starts_57 : decode cX12_starts 57 = .ok (.iconst 0, 1) := by decide +kernel
theorem dX12_starts_58 : decode cX12_starts 58 = .ok (.iastore, 1) := by decide +kernel
theorem dX12_starts_59 : decode cX12_starts 59 = .ok (.aload_n 0, 1) := by decide +kernel
theorem dX12_starts_60 : decode cX12_starts 60 = .ok (.getfield 318, 3) := by decide +kernel
theorem dX12_starts_63 : decode cX12_starts 63 = .ok (.iload_n 1, 1) := by decide +kernel
theorem dX12_starts_64 : decode cX12_starts 64 = .ok (.aload_n 0, 1) := by decide +kernel
theorem dX12_starts_65 : decode cX12_starts 65 = .ok (.getfield 83, 3) := by decide +kernel
theorem dX12_starts_68 : decode cX12_starts 68 = .ok (.bipush 6, 2) := by decide +kernel
theorem dX12_starts_70 : decode cX12_starts 70 = .ok (.iaload, 1) := by decide +kernel
theorem dX12_starts_71 : decode cX12_starts 71 = .ok (.iload_n 1, 1) := by decide +kernel
theorem dX12_starts_72 : decode cX12_starts 72 = .ok (.imul, 1) := by decide +kernel
theorem dX12_starts_73 : decode cX12_starts 73 = .ok (.iastore, 1) := by decide +kernel
theorem dX12_starts_74 : decode cX12_starts 74 = .ok (.aload_n 0, 1) := by decide +kernel
theorem dX12_starts_75 : decode cX12_starts 75 = .ok (.getfield 321, 3) := by decide +kernel
theorem dX12_starts_78 : decode cX12_starts 78 = .ok (.iload_n 1, 1) := by decide +kernel
theorem dX12_starts_79 : decode cX12_starts 79 = .ok (.aload_n 0, 1) := by decide +kernel
theorem dX12_starts_80 : decode cX12_starts 80 = .ok (.getfield 318, 3) := by decide +kernel
theorem dX12_starts_83 : decode cX12_starts 83 = .ok (.iload_n 1, 1) := by decide +kernel
theorem dX12_starts_84 : decode cX12_starts 84 = .ok (.iaload, 1) := by decide +kernel
theorem dX12_starts_85 : decode cX12_starts 85 = .ok (.iastore, 1) := by decide +kernel
theorem dX12_starts_86 : decode cX12_starts 86 = .ok (.aload_n 0, 1) := by decide +kernel
theorem dX12_starts_87 : decode cX12_starts 87 = .ok (.getfield 324, 3) := by decide +kernel
theorem dX12_starts_90 : decode cX12_starts 90 = .ok (.iload_n 1, 1) := by decide +kernel
theorem dX12_starts_91 : decode cX12_starts 91 = .ok (.iconst 0, 1) := by decide +kernel
theorem dX12_starts_92 : decode cX12_starts 92 = .ok (.iastore, 1) := by decide +kernel
theorem dX12_starts_93 : decode cX12_starts 93 = .ok (.aload_n 0, 1) := by decide +kernel
theorem dX12_starts_94 : decode cX12_starts 94 = .ok (.getfield 327, 3) := by decide +kernel
theorem dX12_starts_97 : decode cX12_starts 97 = .ok (.iload_n 1, 1) := by decide +kernel
theorem dX12_starts_98 : decode cX12_starts 98 = .ok (.iconst 0, 1) := by decide +kernel
theorem dX12_starts_99 : decode cX12_starts 99 = .ok (.iastore, 1) := by decide +kernel
theorem dX12_starts_100 : decode cX12_starts 100 = .ok (.aload_n 0, 1) := by decide +kernel
theorem dX12_starts_101 : decode cX12_starts 101 = .ok (.getfield 330, 3) := by decide +kernel
theorem dX12_starts_104 : decode cX12_starts 104 = .ok (.iload_n 1, 1) := by decide +kernel
theorem dX12_starts_105 : decode cX12_starts 105 = .ok (.aload_n 0, 1) := by decide +kernel
theorem dX12_starts_106 : decode cX12_starts 106 = .ok (.getfield 130, 3) := by decide +kernel
theorem dX12_starts_109 : decode cX12_starts 109 = .ok (.iload_n 1, 1) := by decide +kernel
theorem dX12_starts_110 : decode cX12_starts 110 = .ok (.iaload, 1) := by decide +kernel
theorem dX12_starts_111 : decode cX12_starts 111 = .ok (.iastore, 1) := by decide +kernel
theorem dX12_starts_112 : decode cX12_starts 112 = .ok (.aload_n 0, 1) := by decide +kernel
theorem dX12_starts_113 : decode cX12_starts 113 = .ok (.getfield 333, 3) := by decide +kernel
theorem dX12_starts_116 : decode cX12_starts 116 = .ok (.iload_n 1, 1) := by decide +kernel
theorem dX12_starts_117 : decode cX12_starts 117 = .ok (.aload_n 0, 1) := by decide +kernel
theorem dX12_starts_118 : decode cX12_starts 118 = .ok (.getfield 133, 3) := by decide +kernel
theorem dX12_starts_121 : decode cX12_starts 121 = .ok (.iload_n 1, 1) := by decide +kernel
theorem dX12_starts_122 : decode cX12_starts 122 = .ok (.iaload, 1) := by decide +kernel
theorem dX12_starts_123 : decode cX12_starts 123 = .ok (.ifCond .ne 7, 3) := by decide +kernel
theorem dX12_starts_126 : decode cX12_starts 126 = .ok (.iconst (-1), 1) := by decide +kernel
theorem dX12_starts_127 : decode cX12_starts 127 = .ok (.goto 4, 3) := by decide +kernel
theorem dX12_starts_130 : decode cX12_starts 130 = .ok (.iconst 0, 1) := by decide +kernel
theorem dX12_starts_131 : decode cX12_starts 131 = .ok (.iastore, 1) := by decide +kernel
theorem dX12_starts_132 : decode cX12_starts 132 = .ok (.aload_n 0, 1) := by decide +kernel
theorem dX12_starts_133 : decode cX12_starts 133 = .ok (.getfield 336, 3) := by decide +kernel
theorem dX12_starts_136 : decode cX12_starts 136 = .ok (.iload_n 1, 1) := by decide +kernel
theorem dX12_starts_137 : decode cX12_starts 137 = .ok (.iconst 0, 1) := by decide +kernel
theorem dX12_starts_138 : decode cX12_starts 138 = .ok (.iastore, 1) := by decide +kernel
theorem dX12_starts_139 : decode cX12_starts 139 = .ok (.aload_n 0, 1) := by decide +kernel
theorem dX12_starts_140 : decode cX12_starts 140 = .ok (.getfield 339, 3) := by decide +kernel
theorem dX12_starts_143 : decode cX12_starts 143 = .ok (.iload_n 1, 1) := by decide +kernel
theorem dX12_starts_144 : decode cX12_starts 144 = .ok (.iconst 0, 1) := by decide +kernel
theorem dX12_starts_145 : decode cX12_starts 145 = .ok (.iastore, 1) := by decide +kernel
theorem dX12_starts_146 : decode cX12_starts 146 = .ok (.aload_n 0, 1) := by decide +kernel
theorem dX12_starts_147 : decode cX12_starts 147 = .ok (.getfield 342, 3) := by decide +kernel
theorem dX12_starts_150 : decode cX12_starts 150 = .ok (.iload_n 1, 1) := by decide +kernel
theorem dX12_starts_151 : decode cX12_starts 151 = .ok (.iconst 0, 1) := by decide +kernel
theorem dX12_starts_152 : decode cX12_starts 152 = .ok (.iastore, 1) := by decide +kernel
theorem dX12_starts_153 : decode cX12_starts 153 = .ok (.aload_n 0, 1) := by decide +kernel
theorem dX12_starts_154 : decode cX12_starts 154 = .ok (.getfield 345, 3) := by decide +kernel
theorem dX12_starts_157 : decode cX12_starts 157 = .ok (.iload_n 1, 1) := by decide +kernel
theorem dX12_starts_158 : decode cX12_starts 158 = .ok (.iconst 0, 1) := by decide +kernel
theorem dX12_starts_159 : decode cX12_starts 159 = .ok (.iastore, 1) := by decide +kernel
theorem dX12_starts_160 : decode cX12_starts 160 = .ok (.aload_n 0, 1) := by decide +kernel
theorem dX12_starts_161 : decode cX12_starts 161 = .ok (.getfield 348, 3) := by decide +kernel
theorem dX12_starts_164 : decode cX12_starts 164 = .ok (.iload_n 1, 1) := by decide +kernel
theorem dX12_starts_165 : decode cX12_starts 165 = .ok (.iconst 0, 1) := by decide +kernel
theorem dX12_starts_166 : decode cX12_starts 166 = .ok (.iastore, 1) := by decide +kernel
theorem dX12_starts_167 : decode cX12_starts 167 = .ok (.aload_n 0, 1) := by decide +kernel
theorem dX12_starts_168 : decode cX12_starts 168 = .ok (.getfield 351, 3) := by decide +kernel
theorem dX12_starts_171 : decode cX12_starts 171 = .ok (.iload_n 1, 1) := by decide +kernel
theorem dX12_starts_172 : decode cX12_starts 172 = .ok (.iconst 0, 1) := by decide +kernel
theorem dX12_starts_173 : decode cX12_starts 173 = .ok (.iastore, 1) := by decide +kernel
theorem dX12_starts_174 : decode cX12_starts 174 = .ok (.aload_n 0, 1) := by decide +kernel
theorem dX12_starts_175 : decode cX12_starts 175 = .ok (.getfield 354, 3) := by decide +kernel
theorem dX12_starts_178 : decode cX12_starts 178 = .ok (.iload_n 1, 1) := by decide +kernel
theorem dX12_starts_179 : decode cX12_starts 179 = .ok (.iconst 0, 1) := by decide +kernel
theorem dX12_starts_180 : decode cX12_starts 180 = .ok (.iastore, 1) := by decide +kernel
theorem dX12_starts_181 : decode cX12_starts 181 = .ok (.aload_n 0, 1) := by decide +kernel
theorem dX12_starts_182 : decode cX12_starts 182 = .ok (.getfield 357, 3) := by decide +kernel
theorem dX12_starts_185 : decode cX12_starts 185 = .ok (.iload_n 1, 1) := by decide +kernel
theorem dX12_starts_186 : decode cX12_starts 186 = .ok (.iconst 0, 1) := by decide +kernel
theorem dX12_starts_187 : decode cX12_starts 187 = .ok (.iastore, 1) := by decide +kernel
theorem dX12_starts_188 : decode cX12_starts 188 = .ok (.iconst 0, 1) := by decide +kernel
theorem dX12_starts_189 : decode cX12_starts 189 = .ok (.istore_n 2, 1) := by decide +kernel
theorem dX12_starts_190 : decode cX12_starts 190 = .ok (.iload_n 2, 1) := by decide +kernel
theorem dX12_starts_191 : decode cX12_starts 191 = .ok (.iconst 4, 1) := by decide +kernel
theorem dX12_starts_192 : decode cX12_starts 192 = .ok (.if_icmp .ge 29, 3) := by decide +kernel
theorem dX12_starts_195 : decode cX12_starts 195 = .ok (.aload_n 0, 1) := by decide +kernel
theorem dX12_starts_196 : decode cX12_starts 196 = .ok (.getfield 360, 3) := by decide +kernel
theorem dX12_starts_199 : decode cX12_starts 199 = .ok (.iconst 4, 1) := by decide +kernel
theorem dX12_starts_200 : decode cX12_starts 200 = .ok (.iload_n 1, 1) := by decide +kernel
theorem dX12_starts_201 : decode cX12_starts 201 = .ok (.imul, 1) := by decide +kernel
theorem dX12_starts_202 : decode cX12_starts 202 = .ok (.iload_n 2, 1) := by decide +kernel
theorem dX12_starts_203 : decode cX12_starts 203 = .ok (.iadd, 1) := by decide +kernel
theorem dX12_starts_204 : decode cX12_starts 204 = .ok (.aload_n 0, 1) := by decide +kernel
theorem dX12_starts_205 : decode cX12_starts 205 = .ok (.getfield 151, 3) := by decide +kernel
theorem dX12_starts_208 : decode cX12_starts 208 = .ok (.iconst 4, 1) := by decide +kernel
theorem dX12_starts_209 : decode cX12_starts 209 = .ok (.iload_n 1, 1) := by decide +kernel
theorem dX12_starts_210 : decode cX12_starts 210 = .ok (.imul, 1) := by decide +kernel
theorem dX12_starts_211 : decode cX12_starts 211 = .ok (.iload_n 2, 1) := by decide +kernel
theorem dX12_starts_212 : decode cX12_starts 212 = .ok (.iadd, 1) := by decide +kernel
theorem dX12_starts_213 : decode cX12_starts 213 = .ok (.iaload, 1) := by decide +kernel
theorem dX12_starts_214 : decode cX12_starts 214 = .ok (.iastore, 1) := by decide +kernel
theorem dX12_starts_215 : decode cX12_starts 215 = .ok (.iinc 2 1, 3) := by decide +kernel
theorem dX12_starts_218 : decode cX12_starts 218 = .ok (.goto (-28), 3) := by decide +kernel
theorem dX12_starts_221 : decode cX12_starts 221 = .ok (.iconst 0, 1) := by decide +kernel
theorem dX12_starts_222 : decode cX12_starts 222 = .ok (.istore_n 2, 1) := by decide +kernel
theorem dX12_starts_223 : decode cX12_starts 223 = .ok (.iload_n 2, 1) := by decide +kernel
theorem dX12_starts_224 : decode cX12_starts 224 = .ok (.bipush 60, 2) := by decide +kernel
theorem dX12_starts_226 : decode cX12_starts 226 = .ok (.if_icmp .ge 21, 3) := by decide +kernel
theorem dX12_starts_229 : decode cX12_starts 229 = .ok (.aload_n 0, 1) := by decide +kernel
theorem dX12_starts_230 : decode cX12_starts 230 = .ok (.getfield 363, 3) := by decide +kernel
theorem dX12_starts_233 : decode cX12_starts 233 = .ok (.bipush 60, 2) := by decide +kernel
theorem dX12_starts_235 : decode cX12_starts 235 = .ok (.iload_n 1, 1) := by decide +kernel
theorem dX12_starts_236 : decode cX12_starts 236 = .ok (.imul, 1) := by decide +kernel
theorem dX12_starts_237 : decode cX12_starts 237 = .ok (.iload_n 2, 1) := by decide +kernel
theorem dX12_starts_238 : decode cX12_starts 238 = .ok (.iadd, 1) := by decide +kernel
theorem dX12_starts_239 : decode cX12_starts 239 = .ok (.iconst (-1), 1) := by decide +kernel
theorem dX12_starts_240 : decode cX12_starts 240 = .ok (.iastore, 1) := by decide +kernel
theorem dX12_starts_241 : decode cX12_starts 241 = .ok (.iinc 2 1, 3) := by decide +kernel
theorem dX12_starts_244 : decode cX12_starts 244 = .ok (.goto (-21), 3) := by decide +kernel
theorem dX12_starts_247 : decode cX12_starts 247 = .ok (.iconst 0, 1) := by decide +kernel
theorem dX12_starts_248 : decode cX12_starts 248 = .ok (.istore_n 2, 1) := by decide +kernel
theorem dX12_starts_249 : decode cX12_starts 249 = .ok (.iload_n 2, 1) := by decide +kernel
theorem dX12_starts_250 : decode cX12_starts 250 = .ok (.iconst 5, 1) := by decide +kernel
theorem dX12_starts_251 : decode cX12_starts 251 = .ok (.if_icmp .ge 20, 3) := by decide +kernel
theorem dX12_starts_254 : decode cX12_starts 254 = .ok (.aload_n 0, 1) := by decide +kernel
theorem dX12_starts_255 : decode cX12_starts 255 = .ok (.getfield 366, 3) := by decide +kernel
theorem dX12_starts_258 : decode cX12_starts 258 = .ok (.iconst 5, 1) := by decide +kernel
theorem dX12_starts_259 : decode cX12_starts 259 = .ok (.iload_n 1, 1) := by decide +kernel
theorem dX12_starts_260 : decode cX12_starts 260 = .ok (.imul, 1) := by decide +kernel
theorem dX12_starts_261 : decode cX12_starts 261 = .ok (.iload_n 2, 1) := by decide +kernel
theorem dX12_starts_262 : decode cX12_starts 262 = .ok (.iadd, 1) := by decide +kernel
theorem dX12_starts_263 : decode cX12_starts 263 = .ok (.iconst (-1), 1) := by decide +kernel
theorem dX12_starts_264 : decode cX12_starts 264 = .ok (.iastore, 1) := by decide +kernel
theorem dX12_starts_265 : decode cX12_starts 265 = .ok (.iinc 2 1, 3) := by decide +kernel
theorem dX12_starts_268 : decode cX12_starts 268 = .ok (.goto (-19), 3) := by decide +kernel
theorem dX12_starts_271 : decode cX12_starts 271 = .ok (.iconst 0, 1) := by decide +kernel
theorem dX12_starts_272 : decode cX12_starts 272 = .ok (.istore_n 2, 1) := by decide +kernel
theorem dX12_starts_273 : decode cX12_starts 273 = .ok (.iload_n 2, 1) := by decide +kernel
theorem dX12_starts_274 : decode cX12_starts 274 = .ok (.bipush 12, 2) := by decide +kernel
theorem dX12_starts_276 : decode cX12_starts 276 = .ok (.if_icmp .ge 21, 3) := by decide +kernel
theorem dX12_starts_279 : decode cX12_starts 279 = .ok (.aload_n 0, 1) := by decide +kernel
theorem dX12_starts_280 : decode cX12_starts 280 = .ok (.getfield 369, 3) := by decide +kernel
theorem dX12_starts_283 : decode cX12_starts 283 = .ok (.bipush 12, 2) := by decide +kernel
theorem dX12_starts_285 : decode cX12_starts 285 = .ok (.iload_n 1, 1) := by decide +kernel
theorem dX12_starts_286 : decode cX12_starts 286 = .ok (.imul, 1) := by decide +kernel
theorem dX12_starts_287 : decode cX12_starts 287 = .ok (.iload_n 2, 1) := by decide +kernel
theorem dX12_starts_288 : decode cX12_starts 288 = .ok (.iadd, 1) := by decide +kernel
theorem dX12_starts_289 : decode cX12_starts 289 = .ok (.iconst (-1), 1) := by decide +kernel
theorem dX12_starts_290 : decode cX12_starts 290 = .ok (.iastore, 1) := by decide +kernel
theorem dX12_starts_291 : decode cX12_starts 291 = .ok (.iinc 2 1, 3) := by decide +kernel
theorem dX12_starts_294 : decode cX12_starts 294 = .ok (.goto (-21), 3) := by decide +kernel
theorem dX12_starts_297 : decode cX12_starts 297 = .ok (.iinc 1 1, 3) := by decide +kernel
theorem dX12_starts_300 : decode cX12_starts 300 = .ok (.goto (-269), 3) := by decide +kernel
theorem dX12_starts_303 : decode cX12_starts 303 = .ok (.return_, 1) := by decide +kernel
theorem dX12_runs_0 : decode cX12_runs 0 = .ok (.aload_n 0, 1) := by decide +kernel
theorem dX12_runs_1 : decode cX12_runs 1 = .ok (.invokevirtual 372, 3) := by decide +kernel
theorem dX12_runs_4 : decode cX12_runs 4 = .ok (.aload_n 0, 1) := by decide +kernel
theorem dX12_runs_5 : decode cX12_runs 5 = .ok (.invokevirtual 376, 3) := by decide +kernel
theorem dX12_runs_8 : decode cX12_runs 8 = .ok (.istore_n 1, 1) := by decide +kernel
theorem dX12_runs_9 : decode cX12_runs 9 = .ok (.iload_n 1, 1) := by decide +kernel
theorem dX12_runs_10 : decode cX12_runs 10 = .ok (.ifCond .lt 22, 3) := by decide +kernel
theorem dX12_runs_13 : decode cX12_runs 13 = .ok (.aload_n 0, 1) := by decide +kernel
theorem dX12_runs_14 : decode cX12_runs 14 = .ok (.iload_n 1, 1) := by decide +kernel
theorem dX12_runs_15 : decode cX12_runs 15 = .ok (.aload_n 0, 1) := by decide +kernel
theorem dX12_runs_16 : decode cX12_runs 16 = .ok (.getfield 318, 3) := by decide +kernel
theorem dX12_runs_19 : decode cX12_runs 19 = .ok (.iload_n 1, 1) := by decide +kernel
theorem dX12_runs_20 : decode cX12_runs 20 = .ok (.iaload, 1) := by decide +kernel
theorem dX12_runs_21 : decode cX12_runs 21 = .ok (.invokevirtual 380, 3) := by decide +kernel
theorem dX12_runs_24 : decode cX12_runs 24 = .ok (.aload_n 0, 1) := by decide +kernel
theorem dX12_runs_25 : decode cX12_runs 25 = .ok (.invokevirtual 376, 3) := by decide +kernel
theorem dX12_runs_28 : decode cX12_runs 28 = .ok (.istore_n 1, 1) := by decide +kernel
theorem dX12_runs_29 : decode cX12_runs 29 = .ok (.goto (-20), 3) := by decide +kernel
theorem dX12_runs_32 : decode cX12_runs 32 = .ok (.return_, 1) := by decide +kernel
theorem dX12_next_0 : decode cX12_next 0 = .ok (.iconst (-1), 1) := by decide +kernel
theorem dX12_next_1 : decode cX12_next 1 = .ok (.istore_n 1, 1) := by decide +kernel
theorem dX12_next_2 : decode cX12_next 2 = .ok (.iconst 0, 1) := by decide +kernel
theorem dX12_next_3 : decode cX12_next 3 = .ok (.istore_n 2, 1) := by decide +kernel
theorem dX12_next_4 : decode cX12_next 4 = .ok (.iload_n 2, 1) := by decide +kernel
theorem dX12_next_5 : decode cX12_next 5 = .ok (.aload_n 0, 1) := by decide +kernel
theorem dX12_next_6 : decode cX12_next 6 = .ok (.getfield 30, 3) := by decide +kernel
theorem dX12_next_9 : decode cX12_next 9 = .ok (.if_icmp .ge 68, 3) := by decide +kernel
theorem dX12_next_12 : decode cX12_next 12 = .ok (.aload_n 0, 1) := by decide +kernel
theorem dX12_next_13 : decode cX12_next 13 = .ok (.iload_n 2, 1) := by decide +kernel
theorem dX12_next_14 : decode cX12_next 14 = .ok (.invokevirtual 383, 3) := by decide +kernel
theorem dX12_next_17 : decode cX12_next 17 = .ok (.ifCond .eq 54, 3) := by decide +kernel
theorem dX12_next_20 : decode cX12_next 20 = .ok (.iload_n 1, 1) := by decide +kernel
theorem dX12_next_21 : decode cX12_next 21 = .ok (.ifCond .lt 48, 3) := by decide +kernel
theorem dX12_next_24 : decode cX12_next 24 = .ok (.aload_n 0, 1) := by decide +kernel
theorem dX12_next_25 : decode cX12_next 25 = .ok (.getfield 318, 3) := by decide +kernel
theorem dX12_next_28 : decode cX12_next 28 = .ok (.iload_n 2, 1) := by decide +kernel
theorem dX12_next_29 : decode cX12_next 29 = .ok (.iaload, 1) := by decide +kernel
theorem dX12_next_30 : decode cX12_next 30 = .ok (.aload_n 0, 1) := by decide +kernel
theorem dX12_next_31 : decode cX12_next 31 = .ok (.getfield 318, 3) := by decide +kernel
theorem dX12_next_34 : decode cX12_next 34 = .ok (.iload_n 1, 1) := by decide +kernel
theorem dX12_next_35 : decode cX12_next 35 = .ok (.iaload, 1) := by decide +kernel
theorem dX12_next_36 : decode cX12_next 36 = .ok (.if_icmp .lt 33, 3) := by decide +kernel
theorem dX12_next_39 : decode cX12_next 39 = .ok (.aload_n 0, 1) := by decide +kernel
theorem dX12_next_40 : decode cX12_next 40 = .ok (.getfield 318, 3) := by decide +kernel
theorem dX12_next_43 : decode cX12_next 43 = .ok (.iload_n 2, 1) := by decide +kernel
theorem dX12_next_44 : decode cX12_next 44 = .ok (.iaload, 1) := by decide +kernel
theorem dX12_next_45 : decode cX12_next 45 = .ok (.aload_n 0, 1) := by decide +kernel
theorem dX12_next_46 : decode cX12_next 46 = .ok (.getfield 318, 3) := by decide +kernel
theorem dX12_next_49 : decode cX12_next 49 = .ok (.iload_n 1, 1) := by decide +kernel
theorem dX12_next_50 : decode cX12_next 50 = .ok (.iaload, 1) := by decide +kernel
theorem dX12_next_51 : decode cX12_next 51 = .ok (.if_icmp .ne 20, 3) := by decide +kernel
theorem dX12_next_54 : decode cX12_next 54 = .ok (.aload_n 0, 1) := by decide +kernel
theorem dX12_next_55 : decode cX12_next 55 = .ok (.getfield 324, 3) := by decide +kernel
theorem dX12_next_58 : decode cX12_next 58 = .ok (.iload_n 2, 1) := by decide +kernel
theorem dX12_next_59 : decode cX12_next 59 = .ok (.iaload, 1) := by decide +kernel
theorem dX12_next_60 : decode cX12_next 60 = .ok (.aload_n 0, 1) := by decide +kernel
theorem dX12_next_61 : decode cX12_next 61 = .ok (.getfield 324, 3) := by decide +kernel
theorem dX12_next_64 : decode cX12_next 64 = .ok (.iload_n 1, 1) := by decide +kernel
theorem dX12_next_65 : decode cX12_next 65 = .ok (.iaload, 1) := by decide +kernel
theorem dX12_next_66 : decode cX12_next 66 = .ok (.if_icmp .le 5, 3) := by decide +kernel
theorem dX12_next_69 : decode cX12_next 69 = .ok (.iload_n 2, 1) := by decide +kernel
theorem dX12_next_70 : decode cX12_next 70 = .ok (.istore_n 1, 1) := by decide +kernel
theorem dX12_next_71 : decode cX12_next 71 = .ok (.iinc 2 1, 3) := by decide +kernel
theorem dX12_next_74 : decode cX12_next 74 = .ok (.goto (-70), 3) := by decide +kernel
theorem dX12_next_77 : decode cX12_next 77 = .ok (.iload_n 1, 1) := by decide +kernel
theorem dX12_next_78 : decode cX12_next 78 = .ok (.ireturn, 1) := by decide +kernel
theorem dX12_hears_0 : decode cX12_hears 0 = .ok (.bipush 12, 2) := by decide +kernel
theorem dX12_hears_2 : decode cX12_hears 2 = .ok (.iload_n 1, 1) := by decide +kernel
theorem dX12_hears_3 : decode cX12_hears 3 = .ok (.imul, 1) := by decide +kernel
theorem dX12_hears_4 : decode cX12_hears 4 = .ok (.istore_n 3, 1) := by decide +kernel
theorem dX12_hears_5 : decode cX12_hears 5 = .ok (.iload_n 3, 1) := by decide +kernel
theorem dX12_hears_6 : decode cX12_hears 6 = .ok (.bipush 12, 2) := by decide +kernel
theorem dX12_hears_8 : decode cX12_hears 8 = .ok (.iload_n 1, 1) := by decide +kernel
theorem dX12_hears_9 : decode cX12_hears 9 = .ok (.imul, 1) := by decide +kernel
theorem dX12_hears_10 : decode cX12_hears 10 = .ok (.aload_n 0, 1) := by decide +kernel
theorem dX12_hears_11 : decode cX12_hears 11 = .ok (.getfield 136, 3) := by decide +kernel
theorem dX12_hears_14 : decode cX12_hears 14 = .ok (.iload_n 1, 1) := by decide +kernel
theorem dX12_hears_15 : decode cX12_hears 15 = .ok (.iaload, 1) := by decide +kernel
theorem dX12_hears_16 : decode cX12_hears 16 = .ok (.iadd, 1) := by decide +kernel
theorem dX12_hears_17 : decode cX12_hears 17 = .ok (.if_icmp .ge 93, 3) := by decide +kernel
theorem dX12_hears_20 : decode cX12_hears 20 = .ok (.aload_n 0, 1) := by decide +kernel
theorem dX12_hears_21 : decode cX12_hears 21 = .ok (.getfield 157, 3) := by decide +kernel
theorem dX12_hears_24 : decode cX12_hears 24 = .ok (.iload_n 3, 1) := by decide +kernel
theorem dX12_hears_25 : decode cX12_hears 25 = .ok (.iaload, 1) := by decide +kernel
theorem dX12_hears_26 : decode cX12_hears 26 = .ok (.aload_n 0, 1) := by decide +kernel
theorem dX12_hears_27 : decode cX12_hears 27 = .ok (.getfield 7, 3) := by decide +kernel
theorem dX12_hears_30 : decode cX12_hears 30 = .ok (.imul, 1) := by decide +kernel
theorem dX12_hears_31 : decode cX12_hears 31 = .ok (.aload_n 0, 1) := by decide +kernel
theorem dX12_hears_32 : decode cX12_hears 32 = .ok (.getfield 83, 3) := by decide +kernel
theorem dX12_hears_35 : decode cX12_hears 35 = .ok (.bipush 7, 2) := by decide +kernel
theorem dX12_hears_37 : decode cX12_hears 37 = .ok (.iaload, 1) := by decide +kernel
theorem dX12_hears_38 : decode cX12_hears 38 = .ok (.iadd, 1) := by decide +kernel
theorem dX12_hears_39 : decode cX12_hears 39 = .ok (.iload_n 2, 1) := by decide +kernel
theorem dX12_hears_40 : decode cX12_hears 40 = .ok (.if_icmp .ne 64, 3) := by decide +kernel
theorem dX12_hears_43 : decode cX12_hears 43 = .ok (.aload_n 0, 1) := by decide +kernel
theorem dX12_hears_44 : decode cX12_hears 44 = .ok (.getfield 336, 3) := by decide +kernel
theorem dX12_hears_47 : decode cX12_hears 47 = .ok (.iload_n 1, 1) := by decide +kernel
theorem dX12_hears_48 : decode cX12_hears 48 = .ok (.aload_n 0, 1) := by decide +kernel
theorem dX12_hears_49 : decode cX12_hears 49 = .ok (.getfield 160, 3) := by decide +kernel
theorem dX12_hears_52 : decode cX12_hears 52 = .ok (.iload_n 3, 1) := by decide +kernel
theorem dX12_hears_53 : decode cX12_hears 53 = .ok (.iaload, 1) := by decide +kernel
theorem dX12_hears_54 : decode cX12_hears 54 = .ok (.ifCond .ne 12, 3) := by decide +kernel
theorem dX12_hears_57 : decode cX12_hears 57 = .ok (.aload_n 0, 1) := by decide +kernel
theorem dX12_hears_58 : decode cX12_hears 58 = .ok (.getfield 163, 3) := by decide +kernel
theorem dX12_hears_61 : decode cX12_hears 61 = .ok (.iload_n 3, 1) := by decide +kernel
theorem dX12_hears_62 : decode cX12_hears 62 = .ok (.iaload, 1) := by decide +kernel
theorem dX12_hears_63 : decode cX12_hears 63 = .ok (.goto 9, 3) := by decide +kernel
theorem dX12_hears_66 : decode cX12_hears 66 = .ok (.aload_n 0, 1) := by decide +kernel
theorem dX12_hears_67 : decode cX12_hears 67 = .ok (.getfield 336, 3) := by decide +kernel
theorem dX12_hears_70 : decode cX12_hears 70 = .ok (.iload_n 1, 1) := by decide +kernel
theorem dX12_hears_71 : decode cX12_hears 71 = .ok (.iaload, 1) := by decide +kernel
theorem dX12_hears_72 : decode cX12_hears 72 = .ok (.iastore, 1) := by decide +kernel
theorem dX12_hears_73 : decode cX12_hears 73 = .ok (.aload_n 0, 1) := by decide +kernel
theorem dX12_hears_74 : decode cX12_hears 74 = .ok (.getfield 339, 3) := by decide +kernel
theorem dX12_hears_77 : decode cX12_hears 77 = .ok (.iload_n 1, 1) := by decide +kernel
theorem dX12_hears_78 : decode cX12_hears 78 = .ok (.aload_n 0, 1) := by decide +kernel
theorem dX12_hears_79 : decode cX12_hears 79 = .ok (.getfield 160, 3) := by decide +kernel
theorem dX12_hears_82 : decode cX12_hears 82 = .ok (.iload_n 3, 1) := by decide +kernel
theorem dX12_hears_83 : decode cX12_hears 83 = .ok (.iaload, 1) := by decide +kernel
theorem dX12_hears_84 : decode cX12_hears 84 = .ok (.iconst 1, 1) := by decide +kernel
theorem dX12_hears_85 : decode cX12_hears 85 = .ok (.if_icmp .ne 12, 3) := by decide +kernel
theorem dX12_hears_88 : decode cX12_hears 88 = .ok (.aload_n 0, 1) := by decide +kernel
theorem dX12_hears_89 : decode cX12_hears 89 = .ok (.getfield 163, 3) := by decide +kernel
theorem dX12_hears_92 : decode cX12_hears 92 = .ok (.iload_n 3, 1) := by decide +kernel
theorem dX12_hears_93 : decode cX12_hears 93 = .ok (.iaload, 1) := by decide +kernel
theorem dX12_hears_94 : decode cX12_hears 94 = .ok (.goto 9, 3) := by decide +kernel
theorem dX12_hears_97 : decode cX12_hears 97 = .ok (.aload_n 0, 1) := by decide +kernel
theorem dX12_hears_98 : decode cX12_hears 98 = .ok (.getfield 339, 3) := by decide +kernel
theorem dX12_hears_101 : decode cX12_hears 101 = .ok (.iload_n 1, 1) := by decide +kernel
theorem dX12_hears_102 : decode cX12_hears 102 = .ok (.iaload, 1) := by decide +kernel
theorem dX12_hears_103 : decode cX12_hears 103 = .ok (.iastore, 1) := by decide +kernel
theorem dX12_hears_104 : decode cX12_hears 104 = .ok (.iinc 3 1, 3) := by decide +kernel
theorem dX12_hears_107 : decode cX12_hears 107 = .ok (.goto (-102), 3) := by decide +kernel
theorem dX12_hears_110 : decode cX12_hears 110 = .ok (.return_, 1) := by decide +kernel
theorem dX12_isFront_0 : decode cX12_isFront 0 = .ok (.iconst 1, 1) := by decide +kernel
theorem dX12_isFront_1 : decode cX12_isFront 1 = .ok (.istore_n 2, 1) := by decide +kernel
theorem dX12_isFront_2 : decode cX12_isFront 2 = .ok (.iconst 0, 1) := by decide +kernel
theorem dX12_isFront_3 : decode cX12_isFront 3 = .ok (.istore_n 3, 1) := by decide +kernel
theorem dX12_isFront_4 : decode cX12_isFront 4 = .ok (.iload_n 3, 1) := by decide +kernel
theorem dX12_isFront_5 : decode cX12_isFront 5 = .ok (.aload_n 0, 1) := by decide +kernel
theorem dX12_isFront_6 : decode cX12_isFront 6 = .ok (.getfield 30, 3) := by decide +kernel
theorem dX12_isFront_9 : decode cX12_isFront 9 = .ok (.if_icmp .ge 47, 3) := by decide +kernel
theorem dX12_isFront_12 : decode cX12_isFront 12 = .ok (.iload_n 2, 1) := by decide +kernel
theorem dX12_isFront_13 : decode cX12_isFront 13 = .ok (.ifCond .eq 35, 3) := by decide +kernel
theorem dX12_isFront_16 : decode cX12_isFront 16 = .ok (.iload_n 3, 1) := by decide +kernel
theorem dX12_isFront_17 : decode cX12_isFront 17 = .ok (.iload_n 1, 1) := by decide +kernel
theorem dX12_isFront_18 : decode cX12_isFront 18 = .ok (.if_icmp .eq 26, 3) := by decide +kernel
theorem dX12_isFront_21 : decode cX12_isFront 21 = .ok (.aload_n 0, 1) := by decide +kernel
theorem dX12_isFront_22 : decode cX12_isFront 22 = .ok (.iload_n 3, 1) := by decide +kernel
theorem dX12_isFront_23 : decode cX12_isFront 23 = .ok (.invokevirtual 383, 3) := by decide +kernel
theorem dX12_isFront_26 : decode cX12_isFront 26 = .ok (.ifCond .eq 18, 3) := by decide +kernel
theorem dX12_isFront_29 : decode cX12_isFront 29 = .ok (.aload_n 0, 1) := by decide +kernel
theorem dX12_isFront_30 : decode cX12_isFront 30 = .ok (.getfield 324, 3) := by decide +kernel
theorem dX12_isFront_33 : decode cX12_isFront 33 = .ok (.iload_n 3, 1) := by decide +kernel
theorem dX12_isFront_34 : decode cX12_isFront 34 = .ok (.iaload, 1) := by decide +kernel
theorem dX12_isFront_35 : decode cX12_isFront 35 = .ok (.aload_n 0, 1) := by decide +kernel
theorem dX12_isFront_36 : decode cX12_isFront 36 = .ok (.getfield 324, 3) := by decide +kernel
theorem dX12_isFront_39 : decode cX12_isFront 39 = .ok (.iload_n 1, 1) := by decide +kernel
theorem dX12_isFront_40 : decode cX12_isFront 40 = .ok (.iaload, 1) := by decide +kernel
theorem dX12_isFront_41 : decode cX12_isFront 41 = .ok (.if_icmp .ge 7, 3) := by decide +kernel
theorem dX12_isFront_44 : decode cX12_isFront 44 = .ok (.iconst 1, 1) := by decide +kernel
theorem dX12_isFront_45 : decode cX12_isFront 45 = .ok (.goto 4, 3) := by decide +kernel
theorem dX12_isFront_48 : decode cX12_isFront 48 = .ok (.iconst 0, 1) := by decide +kernel
theorem dX12_isFront_49 : decode cX12_isFront 49 = .ok (.istore_n 2, 1) := by decide +kernel
theorem dX12_isFront_50 : decode cX12_isFront 50 = .ok (.iinc 3 1, 3) := by decide +kernel
theorem dX12_isFront_53 : decode cX12_isFront 53 = .ok (.goto (-49), 3) := by decide +kernel
theorem dX12_isFront_56 : decode cX12_isFront 56 = .ok (.iload_n 2, 1) := by decide +kernel
theorem dX12_isFront_57 : decode cX12_isFront 57 = .ok (.ireturn, 1) := by decide +kernel
theorem dX12_takes_0 : decode cX12_takes 0 = .ok (.iload 4, 2) := by decide +kernel
theorem dX12_takes_2 : decode cX12_takes 2 = .ok (.ifCond .eq 30, 3) := by decide +kernel
theorem dX12_takes_5 : decode cX12_takes 5 = .ok (.aload_n 0, 1) := by decide +kernel
theorem dX12_takes_6 : decode cX12_takes 6 = .ok (.getfield 13, 3) := by decide +kernel
theorem dX12_takes_9 : decode cX12_takes 9 = .ok (.iload_n 2, 1) := by decide +kernel
theorem dX12_takes_10 : decode cX12_takes 10 = .ok (.iaload, 1) := by decide +kernel
theorem dX12_takes_11 : decode cX12_takes 11 = .ok (.aload_n 0, 1) := by decide +kernel
theorem dX12_takes_12 : decode cX12_takes 12 = .ok (.iload_n 1, 1) := by decide +kernel
theorem dX12_takes_13 : decode cX12_takes 13 = .ok (.invokevirtual 386, 3) := by decide +kernel
theorem dX12_takes_16 : decode cX12_takes 16 = .ok (.ifCond .eq 9, 3) := by decide +kernel
theorem dX12_takes_19 : decode cX12_takes 19 = .ok (.sipush 150, 3) := by decide +kernel
theorem dX12_takes_22 : decode cX12_takes 22 = .ok (.goto 5, 3) := by decide +kernel
theorem dX12_takes_25 : decode cX12_takes 25 = .ok (.bipush 120, 2) := by decide +kernel
theorem dX12_takes_27 : decode cX12_takes 27 = .ok (.imul, 1) := by decide +kernel
theorem dX12_takes_28 : decode cX12_takes 28 = .ok (.bipush 100, 2) := by decide +kernel
theorem dX12_takes_30 : decode cX12_takes 30 = .ok (.idiv, 1) := by decide +kernel
theorem dX12_takes_31 : decode cX12_takes 31 = .ok (.ireturn, 1) := by decide +kernel
theorem dX12_takes_32 : decode cX12_takes 32 = .ok (.iconst 4, 1) := by decide +kernel
theorem dX12_takes_33 : decode cX12_takes 33 = .ok (.iload_n 1, 1) := by decide +kernel
theorem dX12_takes_34 : decode cX12_takes 34 = .ok (.imul, 1) := by decide +kernel
theorem dX12_takes_35 : decode cX12_takes 35 = .ok (.aload_n 0, 1) := by decide +kernel
theorem dX12_takes_36 : decode cX12_takes 36 = .ok (.getfield 333, 3) := by decide +kernel
theorem dX12_takes_39 : decode cX12_takes 39 = .ok (.iload_n 1, 1) := by decide +kernel
theorem dX12_takes_40 : decode cX12_takes 40 = .ok (.iaload, 1) := by decide +kernel
theorem dX12_takes_41 : decode cX12_takes 41 = .ok (.iadd, 1) := by decide +kernel
theorem dX12_takes_42 : decode cX12_takes 42 = .ok (.istore 5, 2) := by decide +kernel
theorem dX12_takes_44 : decode cX12_takes 44 = .ok (.bipush 6, 2) := by decide +kernel
theorem dX12_takes_46 : decode cX12_takes 46 = .ok (.aload_n 0, 1) := by decide +kernel
theorem dX12_takes_47 : decode cX12_takes 47 = .ok (.getfield 148, 3) := by decide +kernel
theorem dX12_takes_50 : decode cX12_takes 50 = .ok (.iload 5, 2) := by decide +kernel
theorem dX12_takes_52 : decode cX12_takes 52 = .ok (.iaload, 1) := by decide +kernel
theorem dX12_takes_53 : decode cX12_takes 53 = .ok (.imul, 1) := by decide +kernel
theorem dX12_takes_54 : decode cX12_takes 54 = .ok (.istore 6, 2) := by decide +kernel
theorem dX12_takes_56 : decode cX12_takes 56 = .ok (.aload_n 0, 1) := by decide +kernel
theorem dX12_takes_57 : decode cX12_takes 57 = .ok (.getfield 13, 3) := by decide +kernel
theorem dX12_takes_60 : decode cX12_takes 60 = .ok (.iload_n 2, 1) := by decide +kernel
theorem dX12_takes_61 : decode cX12_takes 61 = .ok (.iaload, 1) := by decide +kernel
theorem dX12_takes_62 : decode cX12_takes 62 = .ok (.aload_n 0, 1) := by decide +kernel
theorem dX12_takes_63 : decode cX12_takes 63 = .ok (.getfield 115, 3) := by decide +kernel
theorem dX12_takes_66 : decode cX12_takes 66 = .ok (.iload_n 1, 1) := by decide +kernel
theorem dX12_takes_67 : decode cX12_takes 67 = .ok (.iaload, 1) := by decide +kernel
theorem dX12_takes_68 : decode cX12_takes 68 = .ok (.iadd, 1) := by decide +kernel
theorem dX12_takes_69 : decode cX12_takes 69 = .ok (.aload_n 0, 1) := by decide +kernel
theorem dX12_takes_70 : decode cX12_takes 70 = .ok (.getfield 83, 3) := by decide +kernel
theorem dX12_takes_73 : decode cX12_takes 73 = .ok (.iconst 1, 1) := by decide +kernel
theorem dX12_takes_74 : decode cX12_takes 74 = .ok (.iaload, 1) := by decide +kernel
theorem dX12_takes_75 : decode cX12_takes 75 = .ok (.aload_n 0, 1) := by decide +kernel
theorem dX12_takes_76 : decode cX12_takes 76 = .ok (.getfield 330, 3) := by decide +kernel
theorem dX12_takes_79 : decode cX12_takes 79 = .ok (.iload_n 1, 1) := by decide +kernel
theorem dX12_takes_80 : decode cX12_takes 80 = .ok (.iaload, 1) := by decide +kernel
theorem dX12_takes_81 : decode cX12_takes 81 = .ok (.imul, 1) := by decide +kernel
theorem dX12_takes_82 : decode cX12_takes 82 = .ok (.iadd, 1) := by decide +kernel
theorem dX12_takes_83 : decode cX12_takes 83 = .ok (.aload_n 0, 1) := by decide +kernel
theorem dX12_takes_84 : decode cX12_takes 84 = .ok (.getfield 72, 3) := by decide +kernel
theorem dX12_takes_87 : decode cX12_takes 87 = .ok (.iload 6, 2) := by decide +kernel
theorem dX12_takes_89 : decode cX12_takes 89 = .ok (.iaload, 1) := by decide +kernel
theorem dX12_takes_90 : decode cX12_takes 90 = .ok (.iadd, 1) := by decide +kernel
theorem dX12_takes_91 : decode cX12_takes 91 = .ok (.aload_n 0, 1) := by decide +kernel
theorem dX12_takes_92 : decode cX12_takes 92 = .ok (.getfield 72, 3) := by decide +kernel
theorem dX12_takes_95 : decode cX12_takes 95 = .ok (.iload 6, 2) := by decide +kernel
theorem dX12_takes_97 : decode cX12_takes 97 = .ok (.iconst 1, 1) := by decide +kernel
theorem dX12_takes_98 : decode cX12_takes 98 = .ok (.iadd, 1) := by decide +kernel
theorem dX12_takes_99 : decode cX12_takes 99 = .ok (.iaload, 1) := by decide +kernel
theorem dX12_takes_100 : decode cX12_takes 100 = .ok (.aload_n 0, 1) := by decide +kernel
theorem dX12_takes_101 : decode cX12_takes 101 = .ok (.getfield 360, 3) := by decide +kernel
theorem dX12_takes_104 : decode cX12_takes 104 = .ok (.iload 5, 2) := by decide +kernel
theorem dX12_takes_106 : decode cX12_takes 106 = .ok (.iaload, 1) := by decide +kernel
theorem dX12_takes_107 : decode cX12_takes 107 = .ok (.imul, 1) := by decide +kernel
theorem dX12_takes_108 : decode cX12_takes 108 = .ok (.iadd, 1) := by decide +kernel
theorem dX12_takes_109 : decode cX12_takes 109 = .ok (.istore 7, 2) := by decide +kernel
theorem dX12_takes_111 : decode cX12_takes 111 = .ok (.iload 7, 2) := by decide +kernel
theorem dX12_takes_113 : decode cX12_takes 113 = .ok (.aload_n 0, 1) := by decide +kernel
theorem dX12_takes_114 : decode cX12_takes 114 = .ok (.getfield 360, 3) := by decide +kernel
theorem dX12_takes_117 : decode cX12_takes 117 = .ok (.iload 5, 2) := by decide +kernel
theorem dX12_takes_119 : decode cX12_takes 119 = .ok (.iaload, 1) := by decide +kernel
theorem dX12_takes_120 : decode cX12_takes 120 = .ok (.aload_n 0, 1) := by decide +kernel
theorem dX12_takes_121 : decode cX12_takes 121 = .ok (.getfield 72, 3) := by decide +kernel
theorem dX12_takes_124 : decode cX12_takes 124 = .ok (.iload 6, 2) := by decide +kernel
theorem dX12_takes_126 : decode cX12_takes 126 = .ok (.iconst 2, 1) := by decide +kernel
theorem dX12_takes_127 : decode cX12_takes 127 = .ok (.iadd, 1) := by decide +kernel
theorem dX12_takes_128 : decode cX12_takes 128 = .ok (.iaload, 1) := by decide +kernel
theorem dX12_takes_129 : decode cX12_takes 129 = .ok (.if_icmp .lt 15, 3) := by decide +kernel
theorem dX12_takes_132 : decode cX12_takes 132 = .ok (.aload_n 0, 1) := by decide +kernel
theorem dX12_takes_133 : decode cX12_takes 133 = .ok (.getfield 72, 3) := by decide +kernel
theorem dX12_takes_136 : decode cX12_takes 136 = .ok (.iload 6, 2) := by decide +kernel
theorem dX12_takes_138 : decode cX12_takes 138 = .ok (.iconst 3, 1) := by decide +kernel
theorem dX12_takes_139 : decode cX12_takes 139 = .ok (.iadd, 1) := by decide +kernel
theorem dX12_takes_140 : decode cX12_takes 140 = .ok (.iaload, 1) := by decide +kernel
theorem dX12_takes_141 : decode cX12_takes 141 = .ok (.goto 4, 3) := by decide +kernel
theorem dX12_takes_144 : decode cX12_takes 144 = .ok (.iconst 0, 1) := by decide +kernel
theorem dX12_takes_145 : decode cX12_takes 145 = .ok (.iadd, 1) := by decide +kernel
theorem dX12_takes_146 : decode cX12_takes 146 = .ok (.istore 7, 2) := by decide +kernel
theorem dX12_takes_148 : decode cX12_takes 148 = .ok (.iload 7, 2) := by decide +kernel
theorem dX12_takes_150 : decode cX12_takes 150 = .ok (.aload_n 0, 1) := by decide +kernel
theorem dX12_takes_151 : decode cX12_takes 151 = .ok (.getfield 72, 3) := by decide +kernel
theorem dX12_takes_154 : decode cX12_takes 154 = .ok (.iload 6, 2) := by decide +kernel
theorem dX12_takes_156 : decode cX12_takes 156 = .ok (.iconst 5, 1) := by decide +kernel
theorem dX12_takes_157 : decode cX12_takes 157 = .ok (.iadd, 1) := by decide +kernel
theorem dX12_takes_158 : decode cX12_takes 158 = .ok (.iaload, 1) := by decide +kernel
theorem dX12_takes_159 : decode cX12_takes 159 = .ok (.aload_n 0, 1) := by decide +kernel
theorem dX12_takes_160 : decode cX12_takes 160 = .ok (.iload_n 2, 1) := by decide +kernel
theorem dX12_takes_161 : decode cX12_takes 161 = .ok (.iload_n 3, 1) := by decide +kernel
theorem dX12_takes_162 : decode cX12_takes 162 = .ok (.invokevirtual 389, 3) := by decide +kernel
theorem dX12_takes_165 : decode cX12_takes 165 = .ok (.aload_n 0, 1) := by decide +kernel
theorem dX12_takes_166 : decode cX12_takes 166 = .ok (.getfield 72, 3) := by decide +kernel
theorem dX12_takes_169 : decode cX12_takes 169 = .ok (.iload 6, 2) := by decide +kernel
theorem dX12_takes_171 : decode cX12_takes 171 = .ok (.iconst 4, 1) := by decide +kernel
theorem dX12_takes_172 : decode cX12_takes 172 = .ok (.iadd, 1) := by decide +kernel
theorem dX12_takes_173 : decode cX12_takes 173 = .ok (.iaload, 1) := by decide +kernel
theorem dX12_takes_174 : decode cX12_takes 174 = .ok (.isub, 1) := by decide +kernel
theorem dX12_takes_175 : decode cX12_takes 175 = .ok (.invokestatic 392, 3) := by decide +kernel
theorem dX12_takes_178 : decode cX12_takes 178 = .ok (.imul, 1) := by decide +kernel
theorem dX12_takes_179 : decode cX12_takes 179 = .ok (.aload_n 0, 1) := by decide +kernel
theorem dX12_takes_180 : decode cX12_takes 180 = .ok (.getfield 83, 3) := by decide +kernel
theorem dX12_takes_183 : decode cX12_takes 183 = .ok (.iconst 2, 1) := by decide +kernel
theorem dX12_takes_184 : decode cX12_takes 184 = .ok (.iaload, 1) := by decide +kernel
theorem dX12_takes_185 : decode cX12_takes 185 = .ok (.aload_n 0, 1) := by decide +kernel
theorem dX12_takes_186 : decode cX12_takes 186 = .ok (.getfield 336, 3) := by decide +kernel
theorem dX12_takes_189 : decode cX12_takes 189 = .ok (.iload_n 1, 1) := by decide +kernel
theorem dX12_takes_190 : decode cX12_takes 190 = .ok (.iaload, 1) := by decide +kernel
theorem dX12_takes_191 : decode cX12_takes 191 = .ok (.imul, 1) := by decide +kernel
theorem dX12_takes_192 : decode cX12_takes 192 = .ok (.iadd, 1) := by decide +kernel
theorem dX12_takes_193 : decode cX12_takes 193 = .ok (.iadd, 1) := by decide +kernel
theorem dX12_takes_194 : decode cX12_takes 194 = .ok (.istore 7, 2) := by decide +kernel
theorem dX12_takes_196 : decode cX12_takes 196 = .ok (.sipush 1000, 3) := by decide +kernel
theorem dX12_takes_199 : decode cX12_takes 199 = .ok (.iload 7, 2) := by decide +kernel
theorem dX12_takes_201 : decode cX12_takes 201 = .ok (.invokestatic 395, 3) := by decide +kernel
theorem dX12_takes_204 : decode cX12_takes 204 = .ok (.ireturn, 1) := by decide +kernel
theorem dX12_latest_0 : decode cX12_latest 0 = .ok (.iconst (-1), 1) := by decide +kernel
theorem dX12_latest_1 : decode cX12_latest 1 = .ok (.istore 4, 2) := by decide +kernel
theorem dX12_latest_3 : decode cX12_latest 3 = .ok (.iconst 0, 1) := by decide +kernel
theorem dX12_latest_4 : decode cX12_latest 4 = .ok (.istore 5, 2) := by decide +kernel
theorem dX12_latest_6 : decode cX12_latest 6 = .ok (.iload 5, 2) := by decide +kernel
theorem dX12_latest_8 : decode cX12_latest 8 = .ok (.aload_n 0, 1) := by decide +kernel
theorem dX12_latest_9 : decode cX12_latest 9 = .ok (.getfield 30, 3) := by decide +kernel
theorem dX12_latest_12 : decode cX12_latest 12 = .ok (.if_icmp .ge 64, 3) := by decide +kernel
theorem dX12_latest_15 : decode cX12_latest 15 = .ok (.aload_n 0, 1) := by decide +kernel
theorem dX12_latest_16 : decode cX12_latest 16 = .ok (.getfield 366, 3) := by decide +kernel
theorem dX12_latest_19 : decode cX12_latest 19 = .ok (.iconst 5, 1) := by decide +kernel
theorem dX12_latest_20 : decode cX12_latest 20 = .ok (.iload 5, 2) := by decide +kernel
theorem dX12_latest_22 : decode cX12_latest 22 = .ok (.imul, 1) := by decide +kernel
theorem dX12_latest_23 : decode cX12_latest 23 = .ok (.iload_n 2, 1) := by decide +kernel
theorem dX12_latest_24 : decode cX12_latest 24 = .ok (.iadd, 1) := by decide +kernel
theorem dX12_latest_25 : decode cX12_latest 25 = .ok (.iaload, 1) := by decide +kernel
theorem dX12_latest_26 : decode cX12_latest 26 = .ok (.istore 6, 2) := by decide +kernel
theorem dX12_latest_28 : decode cX12_latest 28 = .ok (.iload 5, 2) := by decide +kernel
theorem dX12_latest_30 : decode cX12_latest 30 = .ok (.iload_n 1, 1) := by decide +kernel
theorem dX12_latest_31 : decode cX12_latest 31 = .ok (.if_icmp .eq 39, 3) := by decide +kernel
theorem dX12_latest_34 : decode cX12_latest 34 = .ok (.iload 6, 2) := by decide +kernel
theorem dX12_latest_36 : decode cX12_latest 36 = .ok (.ifCond .lt 34, 3) := by decide +kernel
theorem dX12_latest_39 : decode cX12_latest 39 = .ok (.iload 6, 2) := by decide +kernel
theorem dX12_latest_41 : decode cX12_latest 41 = .ok (.iload_n 3, 1) := by decide +kernel
theorem dX12_latest_42 : decode cX12_latest 42 = .ok (.if_icmp .ge 28, 3) := by decide +kernel
theorem dX12_latest_45 : decode cX12_latest 45 = .ok (.iload 4, 2) := by decide +kernel
theorem dX12_latest_47 : decode cX12_latest 47 = .ok (.ifCond .lt 19, 3) := by decide +kernel
theorem dX12_latest_50 : decode cX12_latest 50 = .ok (.iload 6, 2) := by decide +kernel
theorem dX12_latest_52 : decode cX12_latest 52 = .ok (.aload_n 0, 1) := by decide +kernel
theorem dX12_latest_53 : decode cX12_latest 53 = .ok (.getfield 366, 3) := by decide +kernel
theorem dX12_latest_56 : decode cX12_latest 56 = .ok (.iconst 5, 1) := by decide +kernel
theorem dX12_latest_57 : decode cX12_latest 57 = .ok (.iload 4, 2) := by decide +kernel
theorem dX12_latest_59 : decode cX12_latest 59 = .ok (.imul, 1) := by decide +kernel
theorem dX12_latest_60 : decode cX12_latest 60 = .ok (.iload_n 2, 1) := by decide +kernel
theorem dX12_latest_61 : decode cX12_latest 61 = .ok (.iadd, 1) := by decide +kernel
theorem dX12_latest_62 : decode cX12_latest 62 = .ok (.iaload, 1) := by decide +kernel
theorem dX12_latest_63 : decode cX12_latest 63 = .ok (.if_icmp .le 7, 3) := by decide +kernel
theorem dX12_latest_66 : decode cX12_latest 66 = .ok (.iload 5, 2) := by decide +kernel
theorem dX12_latest_68 : decode cX12_latest 68 = .ok (.istore 4, 2) := by decide +kernel
theorem dX12_latest_70 : decode cX12_latest 70 = .ok (.iinc 5 1, 3) := by decide +kernel
theorem dX12_latest_73 : decode cX12_latest 73 = .ok (.goto (-67), 3) := by decide +kernel
theorem dX12_latest_76 : decode cX12_latest 76 = .ok (.iload 4, 2) := by decide +kernel
theorem dX12_latest_78 : decode cX12_latest 78 = .ok (.ireturn, 1) := by decide +kernel
theorem dX12_held_0 : decode cX12_held 0 = .ok (.iload 4, 2) := by decide +kernel
theorem dX12_held_2 : decode cX12_held 2 = .ok (.istore 6, 2) := by decide +kernel
theorem dX12_held_4 : decode cX12_held 4 = .ok (.iload 5, 2) := by decide +kernel
theorem dX12_held_6 : decode cX12_held 6 = .ok (.ifCond .ne 12, 3) := by decide +kernel
theorem dX12_held_9 : decode cX12_held 9 = .ok (.aload_n 0, 1) := by decide +kernel
theorem dX12_held_10 : decode cX12_held 10 = .ok (.iload_n 2, 1) := by decide +kernel
theorem dX12_held_11 : decode cX12_held 11 = .ok (.iload_n 3, 1) := by decide +kernel
theorem dX12_held_12 : decode cX12_held 12 = .ok (.invokevirtual 398, 3) := by decide +kernel
theorem dX12_held_15 : decode cX12_held 15 = .ok (.ifCond .eq 7, 3) := by decide +kernel
theorem dX12_held_18 : decode cX12_held 18 = .ok (.iconst 1, 1) := by decide +kernel
theorem dX12_held_19 : decode cX12_held 19 = .ok (.goto 4, 3) := by decide +kernel
theorem dX12_held_22 : decode cX12_held 22 = .ok (.iconst 0, 1) := by decide +kernel
theorem dX12_held_23 : decode cX12_held 23 = .ok (.istore 7, 2) := by decide +kernel
theorem dX12_held_25 : decode cX12_held 25 = .ok (.aload_n 0, 1) := by decide +kernel
theorem dX12_held_26 : decode cX12_held 26 = .ok (.iload_n 1, 1) := by decide +kernel
theorem dX12_held_27 : decode cX12_held 27 = .ok (.iload_n 2, 1) := by decide +kernel
theorem dX12_held_28 : decode cX12_held 28 = .ok (.aload_n 0, 1) := by decide +kernel
theorem dX12_held_29 : decode cX12_held 29 = .ok (.getfield 312, 3) := by decide +kernel
theorem dX12_held_32 : decode cX12_held 32 = .ok (.invokevirtual 402, 3) := by decide +kernel
theorem dX12_held_35 : decode cX12_held 35 = .ok (.istore 8, 2) := by decide +kernel
theorem dX12_held_37 : decode cX12_held 37 = .ok (.iload 8, 2) := by decide +kernel
theorem dX12_held_39 : decode cX12_held 39 = .ok (.ifCond .lt 166, 3) := by decide +kernel
theorem dX12_held_42 : decode cX12_held 42 = .ok (.aload_n 0, 1) := by decide +kernel
theorem dX12_held_43 : decode cX12_held 43 = .ok (.getfield 405, 3) := by decide +kernel
theorem dX12_held_46 : decode cX12_held 46 = .ok (.iconst 5, 1) := by decide +kernel
theorem dX12_held_47 : decode cX12_held 47 = .ok (.iload 8, 2) := by decide +kernel
theorem dX12_held_49 : decode cX12_held 49 = .ok (.imul, 1) := by decide +kernel
theorem dX12_held_50 : decode cX12_held 50 = .ok (.iload_n 2, 1) := by decide +kernel
theorem dX12_held_51 : decode cX12_held 51 = .ok (.iadd, 1) := by decide +kernel
theorem dX12_held_52 : decode cX12_held 52 = .ok (.iaload, 1) := by decide +kernel
theorem dX12_held_53 : decode cX12_held 53 = .ok (.istore 9, 2) := by decide +kernel
theorem dX12_held_55 : decode cX12_held 55 = .ok (.iload 6, 2) := by decide +kernel
theorem dX12_held_57 : decode cX12_held 57 = .ok (.iload 9, 2) := by decide +kernel
theorem dX12_held_59 : decode cX12_held 59 = .ok (.aload_n 0, 1) := by decide +kernel
theorem dX12_held_60 : decode cX12_held 60 = .ok (.getfield 83, 3) := by decide +kernel
theorem dX12_held_63 : decode cX12_held 63 = .ok (.iconst 0, 1) := by decide +kernel
theorem dX12_held_64 : decode cX12_held 64 = .ok (.iaload, 1) := by decide +kernel
theorem dX12_held_65 : decode cX12_held 65 = .ok (.iadd, 1) := by decide +kernel
theorem dX12_held_66 : decode cX12_held 66 = .ok (.if_icmp .lt 6, 3) := by decide +kernel
theorem dX12_held_69 : decode cX12_held 69 = .ok (.iload 6, 2) := by decide +kernel
theorem dX12_held_71 : decode cX12_held 71 = .ok (.ireturn, 1) := by decide +kernel
theorem dX12_held_72 : decode cX12_held 72 = .ok (.aload_n 0, 1) := by decide +kernel
theorem dX12_held_73 : decode cX12_held 73 = .ok (.getfield 324, 3) := by decide +kernel
theorem dX12_held_76 : decode cX12_held 76 = .ok (.iload_n 1, 1) := by decide +kernel
theorem dX12_held_77 : decode cX12_held 77 = .ok (.iaload, 1) := by decide +kernel
theorem dX12_held_78 : decode cX12_held 78 = .ok (.aload_n 0, 1) := by decide +kernel
theorem dX12_held_79 : decode cX12_held 79 = .ok (.getfield 324, 3) := by decide +kernel
theorem dX12_held_82 : decode cX12_held 82 = .ok (.iload 8, 2) := by decide +kernel
theorem dX12_held_84 : decode cX12_held 84 = .ok (.iaload, 1) := by decide +kernel
theorem dX12_held_85 : decode cX12_held 85 = .ok (.isub, 1) := by decide +kernel
theorem dX12_held_86 : decode cX12_held 86 = .ok (.aload_n 0, 1) := by decide +kernel
theorem dX12_held_87 : decode cX12_held 87 = .ok (.getfield 7, 3) := by decide +kernel
theorem dX12_held_90 : decode cX12_held 90 = .ok (.if_icmp .lt 7, 3) := by decide +kernel
theorem dX12_held_93 : decode cX12_held 93 = .ok (.iconst 0, 1) := by decide +kernel
theorem dX12_held_94 : decode cX12_held 94 = .ok (.goto 9, 3) := by decide +kernel
theorem dX12_held_97 : decode cX12_held 97 = .ok (.aload_n 0, 1) := by decide +kernel
theorem dX12_held_98 : decode cX12_held 98 = .ok (.getfield 17, 3) := by decide +kernel
theorem dX12_held_101 : decode cX12_held 101 = .ok (.iload_n 2, 1) := by decide +kernel
theorem dX12_held_102 : decode cX12_held 102 = .ok (.iaload, 1) := by decide +kernel
theorem dX12_held_103 : decode cX12_held 103 = .ok (.istore 10, 2) := by decide +kernel
theorem dX12_held_105 : decode cX12_held 105 = .ok (.iload 10, 2) := by decide +kernel
theorem dX12_held_107 : decode cX12_held 107 = .ok (.ifCond .lt 27, 3) := by decide +kernel
theorem dX12_held_110 : decode cX12_held 110 = .ok (.iload 6, 2) := by decide +kernel
theorem dX12_held_112 : decode cX12_held 112 = .ok (.iload 10, 2) := by decide +kernel
theorem dX12_held_114 : decode cX12_held 114 = .ok (.iadd, 1) := by decide +kernel
theorem dX12_held_115 : decode cX12_held 115 = .ok (.iload 9, 2) := by decide +kernel
theorem dX12_held_117 : decode cX12_held 117 = .ok (.if_icmp .gt 17, 3) := by decide +kernel
theorem dX12_held_120 : decode cX12_held 120 = .ok (.iload 7, 2) := by decide +kernel
theorem dX12_held_122 : decode cX12_held 122 = .ok (.ifCond .eq 32, 3) := by decide +kernel
theorem dX12_held_125 : decode cX12_held 125 = .ok (.aload_n 0, 1) := by decide +kernel
theorem dX12_held_126 : decode cX12_held 126 = .ok (.getfield 339, 3) := by decide +kernel
theorem dX12_held_129 : decode cX12_held 129 = .ok (.iload_n 1, 1) := by decide +kernel
theorem dX12_held_130 : decode cX12_held 130 = .ok (.iaload, 1) := by decide +kernel
theorem dX12_held_131 : decode cX12_held 131 = .ok (.ifCond .ne 23, 3) := by decide +kernel
theorem dX12_held_134 : decode cX12_held 134 = .ok (.aload_n 0, 1) := by decide +kernel
theorem dX12_held_135 : decode cX12_held 135 = .ok (.getfield 354, 3) := by decide +kernel
theorem dX12_held_138 : decode cX12_held 138 = .ok (.iload_n 1, 1) := by decide +kernel
theorem dX12_held_139 : decode cX12_held 139 = .ok (.dup2, 1) := by decide +kernel
theorem dX12_held_140 : decode cX12_held 140 = .ok (.iaload, 1) := by decide +kernel
theorem dX12_held_141 : decode cX12_held 141 = .ok (.iconst 1, 1) := by decide +kernel
theorem dX12_held_142 : decode cX12_held 142 = .ok (.iadd, 1) := by decide +kernel
theorem dX12_held_143 : decode cX12_held 143 = .ok (.iastore, 1) := by decide +kernel
theorem dX12_held_144 : decode cX12_held 144 = .ok (.iload 9, 2) := by decide +kernel
theorem dX12_held_146 : decode cX12_held 146 = .ok (.aload_n 0, 1) := by decide +kernel
theorem dX12_held_147 : decode cX12_held 147 = .ok (.getfield 83, 3) := by decide +kernel
theorem dX12_held_150 : decode cX12_held 150 = .ok (.iconst 0, 1) := by decide +kernel
theorem dX12_held_151 : decode cX12_held 151 = .ok (.iaload, 1) := by decide +kernel
theorem dX12_held_152 : decode cX12_held 152 = .ok (.iadd, 1) := by decide +kernel
theorem dX12_held_153 : decode cX12_held 153 = .ok (.ireturn, 1) := by decide +kernel
theorem dX12_held_154 : decode cX12_held 154 = .ok (.aload_n 0, 1) := by decide +kernel
theorem dX12_held_155 : decode cX12_held 155 = .ok (.getfield 351, 3) := by decide +kernel
theorem dX12_held_158 : decode cX12_held 158 = .ok (.iload_n 1, 1) := by decide +kernel
theorem dX12_held_159 : decode cX12_held 159 = .ok (.dup2, 1) := by decide +kernel
theorem dX12_held_160 : decode cX12_held 160 = .ok (.iaload, 1) := by decide +kernel
theorem dX12_held_161 : decode cX12_held 161 = .ok (.iconst 1, 1) := by decide +kernel
theorem dX12_held_162 : decode cX12_held 162 = .ok (.iadd, 1) := by decide +kernel
theorem dX12_held_163 : decode cX12_held 163 = .ok (.iastore, 1) := by decide +kernel
theorem dX12_held_164 : decode cX12_held 164 = .ok (.aload_n 0, 1) := by decide +kernel
theorem dX12_held_165 : decode cX12_held 165 = .ok (.getfield 348, 3) := by decide +kernel
theorem dX12_held_168 : decode cX12_held 168 = .ok (.iload_n 1, 1) := by decide +kernel
theorem dX12_held_169 : decode cX12_held 169 = .ok (.dup2, 1) := by decide +kernel
theorem dX12_held_170 : decode cX12_held 170 = .ok (.iaload, 1) := by decide +kernel
theorem dX12_held_171 : decode cX12_held 171 = .ok (.iload 7, 2) := by decide +kernel
theorem dX12_held_173 : decode cX12_held 173 = .ok (.ifCond .eq 7, 3) := by decide +kernel
theorem dX12_held_176 : decode cX12_held 176 = .ok (.iconst 1, 1) := by decide +kernel
theorem dX12_held_177 : decode cX12_held 177 = .ok (.goto 4, 3) := by decide +kernel
theorem dX12_held_180 : decode cX12_held 180 = .ok (.iconst 0, 1) := by decide +kernel
theorem dX12_held_181 : decode cX12_held 181 = .ok (.iadd, 1) := by decide +kernel
theorem dX12_held_182 : decode cX12_held 182 = .ok (.iastore, 1) := by decide +kernel
theorem dX12_held_183 : decode cX12_held 183 = .ok (.aload_n 0, 1) := by decide +kernel
theorem dX12_held_184 : decode cX12_held 184 = .ok (.iload_n 1, 1) := by decide +kernel
theorem dX12_held_185 : decode cX12_held 185 = .ok (.iload_n 2, 1) := by decide +kernel
theorem dX12_held_186 : decode cX12_held 186 = .ok (.aload_n 0, 1) := by decide +kernel
theorem dX12_held_187 : decode cX12_held 187 = .ok (.getfield 366, 3) := by decide +kernel
theorem dX12_held_190 : decode cX12_held 190 = .ok (.iconst 5, 1) := by decide +kernel
theorem dX12_held_191 : decode cX12_held 191 = .ok (.iload 8, 2) := by decide +kernel
theorem dX12_held_193 : decode cX12_held 193 = .ok (.imul, 1) := by decide +kernel
theorem dX12_held_194 : decode cX12_held 194 = .ok (.iload_n 2, 1) := by decide +kernel
theorem dX12_held_195 : decode cX12_held 195 = .ok (.iadd, 1) := by decide +kernel
theorem dX12_held_196 : decode cX12_held 196 = .ok (.iaload, 1) := by decide +kernel
theorem dX12_held_197 : decode cX12_held 197 = .ok (.invokevirtual 402, 3) := by decide +kernel
theorem dX12_held_200 : decode cX12_held 200 = .ok (.istore 8, 2) := by decide +kernel
theorem dX12_held_202 : decode cX12_held 202 = .ok (.goto (-165), 3) := by decide +kernel
theorem dX12_held_205 : decode cX12_held 205 = .ok (.iload 6, 2) := by decide +kernel
theorem dX12_held_207 : decode cX12_held 207 = .ok (.ireturn, 1) := by decide +kernel
theorem dX12_goes_0 : decode cX12_goes 0 = .ok (.aload_n 0, 1) := by decide +kernel
theorem dX12_goes_1 : decode cX12_goes 1 = .ok (.getfield 324, 3) := by decide +kernel
theorem dX12_goes_4 : decode cX12_goes 4 = .ok (.iload_n 1, 1) := by decide +kernel
theorem dX12_goes_5 : decode cX12_goes 5 = .ok (.iaload, 1) := by decide +kernel
theorem dX12_goes_6 : decode cX12_goes 6 = .ok (.istore_n 3, 1) := by decide +kernel
theorem dX12_goes_7 : decode cX12_goes 7 = .ok (.iload_n 3, 1) := by decide +kernel
theorem dX12_goes_8 : decode cX12_goes 8 = .ok (.aload_n 0, 1) := by decide +kernel
theorem dX12_goes_9 : decode cX12_goes 9 = .ok (.getfield 7, 3) := by decide +kernel
theorem dX12_goes_12 : decode cX12_goes 12 = .ok (.irem, 1) := by decide +kernel
theorem dX12_goes_13 : decode cX12_goes 13 = .ok (.istore 4, 2) := by decide +kernel
theorem dX12_goes_15 : decode cX12_goes 15 = .ok (.aload_n 0, 1) := by decide +kernel
theorem dX12_goes_16 : decode cX12_goes 16 = .ok (.getfield 324, 3) := by decide +kernel
theorem dX12_goes_19 : decode cX12_goes 19 = .ok (.iload_n 1, 1) := by decide +kernel
theorem dX12_goes_20 : decode cX12_goes 20 = .ok (.dup2, 1) := by decide +kernel
theorem dX12_goes_21 : decode cX12_goes 21 = .ok (.iaload, 1) := by decide +kernel
theorem dX12_goes_22 : decode cX12_goes 22 = .ok (.iconst 1, 1) := by decide +kernel
theorem dX12_goes_23 : decode cX12_goes 23 = .ok (.iadd, 1) := by decide +kernel
theorem dX12_goes_24 : decode cX12_goes 24 = .ok (.iastore, 1) := by decide +kernel
theorem dX12_goes_25 : decode cX12_goes 25 = .ok (.aload_n 0, 1) := by decide +kernel
theorem dX12_goes_26 : decode cX12_goes 26 = .ok (.iload_n 1, 1) := by decide +kernel
theorem dX12_goes_27 : decode cX12_goes 27 = .ok (.iload_n 3, 1) := by decide +kernel
theorem dX12_goes_28 : decode cX12_goes 28 = .ok (.invokevirtual 408, 3) := by decide +kernel
theorem dX12_goes_31 : decode cX12_goes 31 = .ok (.aload_n 0, 1) := by decide +kernel
theorem dX12_goes_32 : decode cX12_goes 32 = .ok (.getfield 345, 3) := by decide +kernel
theorem dX12_goes_35 : decode cX12_goes 35 = .ok (.iload_n 1, 1) := by decide +kernel
theorem dX12_goes_36 : decode cX12_goes 36 = .ok (.dup2, 1) := by decide +kernel
theorem dX12_goes_37 : decode cX12_goes 37 = .ok (.iaload, 1) := by decide +kernel
theorem dX12_goes_38 : decode cX12_goes 38 = .ok (.iconst 1, 1) := by decide +kernel
theorem dX12_goes_39 : decode cX12_goes 39 = .ok (.aload_n 0, 1) := by decide +kernel
theorem dX12_goes_40 : decode cX12_goes 40 = .ok (.getfield 148, 3) := by decide +kernel
theorem dX12_goes_43 : decode cX12_goes 43 = .ok (.iconst 4, 1) := by decide +kernel
theorem dX12_goes_44 : decode cX12_goes 44 = .ok (.iload_n 1, 1) := by decide +kernel
theorem dX12_goes_45 : decode cX12_goes 45 = .ok (.imul, 1) := by decide +kernel
theorem dX12_goes_46 : decode cX12_goes 46 = .ok (.aload_n 0, 1) := by decide +kernel
theorem dX12_goes_47 : decode cX12_goes 47 = .ok (.getfield 333, 3) := by decide +kernel
theorem dX12_goes_50 : decode cX12_goes 50 = .ok (.iload_n 1, 1) := by decide +kernel
theorem dX12_goes_51 : decode cX12_goes 51 = .ok (.iaload, 1) := by decide +kernel
theorem dX12_goes_52 : decode cX12_goes 52 = .ok (.iadd, 1) := by decide +kernel
theorem dX12_goes_53 : decode cX12_goes 53 = .ok (.iaload, 1) := by decide +kernel
theorem dX12_goes_54 : decode cX12_goes 54 = .ok (.ishl, 1) := by decide +kernel
theorem dX12_goes_55 : decode cX12_goes 55 = .ok (.ior, 1) := by decide +kernel
theorem dX12_goes_56 : decode cX12_goes 56 = .ok (.iastore, 1) := by decide +kernel
theorem dX12_goes_57 : decode cX12_goes 57 = .ok (.aload_n 0, 1) := by decide +kernel
theorem dX12_goes_58 : decode cX12_goes 58 = .ok (.getfield 121, 3) := by decide +kernel
theorem dX12_goes_61 : decode cX12_goes 61 = .ok (.iload_n 1, 1) := by decide +kernel
theorem dX12_goes_62 : decode cX12_goes 62 = .ok (.iaload, 1) := by decide +kernel
theorem dX12_goes_63 : decode cX12_goes 63 = .ok (.aload_n 0, 1) := by decide +kernel
theorem dX12_goes_64 : decode cX12_goes 64 = .ok (.getfield 336, 3) := by decide +kernel
theorem dX12_goes_67 : decode cX12_goes 67 = .ok (.iload_n 1, 1) := by decide +kernel
theorem dX12_goes_68 : decode cX12_goes 68 = .ok (.iaload, 1) := by decide +kernel
theorem dX12_goes_69 : decode cX12_goes 69 = .ok (.isub, 1) := by decide +kernel
theorem dX12_goes_70 : decode cX12_goes 70 = .ok (.istore 5, 2) := by decide +kernel
theorem dX12_goes_72 : decode cX12_goes 72 = .ok (.aload_n 0, 1) := by decide +kernel
theorem dX12_goes_73 : decode cX12_goes 73 = .ok (.getfield 330, 3) := by decide +kernel
theorem dX12_goes_76 : decode cX12_goes 76 = .ok (.iload_n 1, 1) := by decide +kernel
theorem dX12_goes_77 : decode cX12_goes 77 = .ok (.iaload, 1) := by decide +kernel
theorem dX12_goes_78 : decode cX12_goes 78 = .ok (.iload 5, 2) := by decide +kernel
theorem dX12_goes_80 : decode cX12_goes 80 = .ok (.if_icmp .ge 18, 3) := by decide +kernel
theorem dX12_goes_83 : decode cX12_goes 83 = .ok (.aload_n 0, 1) := by decide +kernel
theorem dX12_goes_84 : decode cX12_goes 84 = .ok (.getfield 309, 3) := by decide +kernel
theorem dX12_goes_87 : decode cX12_goes 87 = .ok (.iload_n 1, 1) := by decide +kernel
theorem dX12_goes_88 : decode cX12_goes 88 = .ok (.iconst 2, 1) := by decide +kernel
theorem dX12_goes_89 : decode cX12_goes 89 = .ok (.iastore, 1) := by decide +kernel
theorem dX12_goes_90 : decode cX12_goes 90 = .ok (.aload_n 0, 1) := by decide +kernel
theorem dX12_goes_91 : decode cX12_goes 91 = .ok (.getfield 321, 3) := by decide +kernel
theorem dX12_goes_94 : decode cX12_goes 94 = .ok (.iload_n 1, 1) := by decide +kernel
theorem dX12_goes_95 : decode cX12_goes 95 = .ok (.iload_n 2, 1) := by decide +kernel
theorem dX12_goes_96 : decode cX12_goes 96 = .ok (.iastore, 1) := by decide +kernel
theorem dX12_goes_97 : decode cX12_goes 97 = .ok (.return_, 1) := by decide +kernel
theorem dX12_goes_98 : decode cX12_goes 98 = .ok (.aload_n 0, 1) := by decide +kernel
theorem dX12_goes_99 : decode cX12_goes 99 = .ok (.getfield 330, 3) := by decide +kernel
theorem dX12_goes_102 : decode cX12_goes 102 = .ok (.iload_n 1, 1) := by decide +kernel
theorem dX12_goes_103 : decode cX12_goes 103 = .ok (.dup2, 1) := by decide +kernel
theorem dX12_goes_104 : decode cX12_goes 104 = .ok (.iaload, 1) := by decide +kernel
theorem dX12_goes_105 : decode cX12_goes 105 = .ok (.iload 5, 2) := by decide +kernel
theorem dX12_goes_107 : decode cX12_goes 107 = .ok (.isub, 1) := by decide +kernel
theorem dX12_goes_108 : decode cX12_goes 108 = .ok (.iastore, 1) := by decide +kernel
theorem dX12_goes_109 : decode cX12_goes 109 = .ok (.aload_n 0, 1) := by decide +kernel
theorem dX12_goes_110 : decode cX12_goes 110 = .ok (.iload_n 2, 1) := by decide +kernel
theorem dX12_goes_111 : decode cX12_goes 111 = .ok (.invokevirtual 411, 3) := by decide +kernel
theorem dX12_goes_114 : decode cX12_goes 114 = .ok (.istore 6, 2) := by decide +kernel
theorem dX12_goes_116 : decode cX12_goes 116 = .ok (.aload_n 0, 1) := by decide +kernel
theorem dX12_goes_117 : decode cX12_goes 117 = .ok (.iload_n 1, 1) := by decide +kernel
theorem dX12_goes_118 : decode cX12_goes 118 = .ok (.iload 4, 2) := by decide +kernel
theorem dX12_goes_120 : decode cX12_goes 120 = .ok (.iload_n 2, 1) := by decide +kernel
theorem dX12_goes_121 : decode cX12_goes 121 = .ok (.iload_n 2, 1) := by decide +kernel
theorem dX12_goes_122 : decode cX12_goes 122 = .ok (.aload_n 0, 1) := by decide +kernel
theorem dX12_goes_123 : decode cX12_goes 123 = .ok (.iload_n 1, 1) := by decide +kernel
theorem dX12_goes_124 : decode cX12_goes 124 = .ok (.iload 4, 2) := by decide +kernel
theorem dX12_goes_126 : decode cX12_goes 126 = .ok (.iload_n 2, 1) := by decide +kernel
theorem dX12_goes_127 : decode cX12_goes 127 = .ok (.iload 6, 2) := by decide +kernel
theorem dX12_goes_129 : decode cX12_goes 129 = .ok (.invokevirtual 414, 3) := by decide +kernel
theorem dX12_goes_132 : decode cX12_goes 132 = .ok (.iadd, 1) := by decide +kernel
theorem dX12_goes_133 : decode cX12_goes 133 = .ok (.iload 6, 2) := by decide +kernel
theorem dX12_goes_135 : decode cX12_goes 135 = .ok (.invokevirtual 418, 3) := by decide +kernel
theorem dX12_goes_138 : decode cX12_goes 138 = .ok (.istore 7, 2) := by decide +kernel
theorem dX12_goes_140 : decode cX12_goes 140 = .ok (.aload_n 0, 1) := by decide +kernel
theorem dX12_goes_141 : decode cX12_goes 141 = .ok (.getfield 360, 3) := by decide +kernel
theorem dX12_goes_144 : decode cX12_goes 144 = .ok (.iconst 4, 1) := by decide +kernel
theorem dX12_goes_145 : decode cX12_goes 145 = .ok (.iload_n 1, 1) := by decide +kernel
theorem dX12_goes_146 : decode cX12_goes 146 = .ok (.imul, 1) := by decide +kernel
theorem dX12_goes_147 : decode cX12_goes 147 = .ok (.aload_n 0, 1) := by decide +kernel
theorem dX12_goes_148 : decode cX12_goes 148 = .ok (.getfield 333, 3) := by decide +kernel
theorem dX12_goes_151 : decode cX12_goes 151 = .ok (.iload_n 1, 1) := by decide +kernel
theorem dX12_goes_152 : decode cX12_goes 152 = .ok (.iaload, 1) := by decide +kernel
theorem dX12_goes_153 : decode cX12_goes 153 = .ok (.iadd, 1) := by decide +kernel
theorem dX12_goes_154 : decode cX12_goes 154 = .ok (.dup2, 1) := by decide +kernel
theorem dX12_goes_155 : decode cX12_goes 155 = .ok (.iaload, 1) := by decide +kernel
theorem dX12_goes_156 : decode cX12_goes 156 = .ok (.iload 6, 2) := by decide +kernel
theorem dX12_goes_158 : decode cX12_goes 158 = .ok (.ifCond .eq 7, 3) := by decide +kernel
theorem dX12_goes_161 : decode cX12_goes 161 = .ok (.iconst 0, 1) := by decide +kernel
theorem dX12_goes_162 : decode cX12_goes 162 = .ok (.goto 18, 3) := by decide +kernel
theorem dX12_goes_165 : decode cX12_goes 165 = .ok (.aload_n 0, 1) := by decide +kernel
theorem dX12_goes_166 : decode cX12_goes 166 = .ok (.getfield 336, 3) := by decide +kernel
theorem dX12_goes_169 : decode cX12_goes 169 = .ok (.iload_n 1, 1) := by decide +kernel
theorem dX12_goes_170 : decode cX12_goes 170 = .ok (.iaload, 1) := by decide +kernel
theorem dX12_goes_171 : decode cX12_goes 171 = .ok (.iconst (-1), 1) := by decide +kernel
theorem dX12_goes_172 : decode cX12_goes 172 = .ok (.if_icmp .ne 7, 3) := by decide +kernel
theorem dX12_goes_175 : decode cX12_goes 175 = .ok (.iconst 2, 1) := by decide +kernel
theorem dX12_goes_176 : decode cX12_goes 176 = .ok (.goto 4, 3) := by decide +kernel
theorem dX12_goes_179 : decode cX12_goes 179 = .ok (.iconst 1, 1) := by decide +kernel
theorem dX12_goes_180 : decode cX12_goes 180 = .ok (.iadd, 1) := by decide +kernel
theorem dX12_goes_181 : decode cX12_goes 181 = .ok (.iastore, 1) := by decide +kernel
theorem dX12_goes_182 : decode cX12_goes 182 = .ok (.aload_n 0, 1) := by decide +kernel
theorem dX12_goes_183 : decode cX12_goes 183 = .ok (.getfield 366, 3) := by decide +kernel
theorem dX12_goes_186 : decode cX12_goes 186 = .ok (.iconst 5, 1) := by decide +kernel
theorem dX12_goes_187 : decode cX12_goes 187 = .ok (.iload_n 1, 1) := by decide +kernel
theorem dX12_goes_188 : decode cX12_goes 188 = .ok (.imul, 1) := by decide +kernel
theorem dX12_goes_189 : decode cX12_goes 189 = .ok (.iload 4, 2) := by decide +kernel
theorem dX12_goes_191 : decode cX12_goes 191 = .ok (.iadd, 1) := by decide +kernel
theorem dX12_goes_192 : decode cX12_goes 192 = .ok (.aload_n 0, 1) := by decide +kernel
theorem dX12_goes_193 : decode cX12_goes 193 = .ok (.getfield 312, 3) := by decide +kernel
theorem dX12_goes_196 : decode cX12_goes 196 = .ok (.iastore, 1) := by decide +kernel
theorem dX12_goes_197 : decode cX12_goes 197 = .ok (.aload_n 0, 1) := by decide +kernel
theorem dX12_goes_198 : decode cX12_goes 198 = .ok (.getfield 405, 3) := by decide +kernel
theorem dX12_goes_201 : decode cX12_goes 201 = .ok (.iconst 5, 1) := by decide +kernel
theorem dX12_goes_202 : decode cX12_goes 202 = .ok (.iload_n 1, 1) := by decide +kernel
theorem dX12_goes_203 : decode cX12_goes 203 = .ok (.imul, 1) := by decide +kernel
theorem dX12_goes_204 : decode cX12_goes 204 = .ok (.iload 4, 2) := by decide +kernel
theorem dX12_goes_206 : decode cX12_goes 206 = .ok (.iadd, 1) := by decide +kernel
theorem dX12_goes_207 : decode cX12_goes 207 = .ok (.iload 7, 2) := by decide +kernel
theorem dX12_goes_209 : decode cX12_goes 209 = .ok (.iastore, 1) := by decide +kernel
theorem dX12_goes_210 : decode cX12_goes 210 = .ok (.aload_n 0, 1) := by decide +kernel
theorem dX12_goes_211 : decode cX12_goes 211 = .ok (.dup, 1) := by decide +kernel
theorem dX12_goes_212 : decode cX12_goes 212 = .ok (.getfield 312, 3) := by decide +kernel
theorem dX12_goes_215 : decode cX12_goes 215 = .ok (.iconst 1, 1) := by decide +kernel
theorem dX12_goes_216 : decode cX12_goes 216 = .ok (.iadd, 1) := by decide +kernel
theorem dX12_goes_217 : decode cX12_goes 217 = .ok (.putfield 312, 3) := by decide +kernel
theorem dX12_goes_220 : decode cX12_goes 220 = .ok (.aload_n 0, 1) := by decide +kernel
theorem dX12_goes_221 : decode cX12_goes 221 = .ok (.getfield 363, 3) := by decide +kernel
theorem dX12_goes_224 : decode cX12_goes 224 = .ok (.bipush 60, 2) := by decide +kernel
theorem dX12_goes_226 : decode cX12_goes 226 = .ok (.iload_n 1, 1) := by decide +kernel
theorem dX12_goes_227 : decode cX12_goes 227 = .ok (.imul, 1) := by decide +kernel
theorem dX12_goes_228 : decode cX12_goes 228 = .ok (.iload_n 3, 1) := by decide +kernel
theorem dX12_goes_229 : decode cX12_goes 229 = .ok (.iadd, 1) := by decide +kernel
theorem dX12_goes_230 : decode cX12_goes 230 = .ok (.iload 7, 2) := by decide +kernel
theorem dX12_goes_232 : decode cX12_goes 232 = .ok (.iastore, 1) := by decide +kernel
theorem dX12_goes_233 : decode cX12_goes 233 = .ok (.aload_n 0, 1) := by decide +kernel
theorem dX12_goes_234 : decode cX12_goes 234 = .ok (.getfield 327, 3) := by decide +kernel
theorem dX12_goes_237 : decode cX12_goes 237 = .ok (.iload_n 1, 1) := by decide +kernel
theorem dX12_goes_238 : decode cX12_goes 238 = .ok (.dup2, 1) := by decide +kernel
theorem dX12_goes_239 : decode cX12_goes 239 = .ok (.iaload, 1) := by decide +kernel
theorem dX12_goes_240 : decode cX12_goes 240 = .ok (.iconst 1, 1) := by decide +kernel
theorem dX12_goes_241 : decode cX12_goes 241 = .ok (.iadd, 1) := by decide +kernel
theorem dX12_goes_242 : decode cX12_goes 242 = .ok (.iastore, 1) := by decide +kernel
theorem dX12_goes_243 : decode cX12_goes 243 = .ok (.aload_n 0, 1) := by decide +kernel
theorem dX12_goes_244 : decode cX12_goes 244 = .ok (.getfield 318, 3) := by decide +kernel
theorem dX12_goes_247 : decode cX12_goes 247 = .ok (.iload_n 1, 1) := by decide +kernel
theorem dX12_goes_248 : decode cX12_goes 248 = .ok (.iload 7, 2) := by decide +kernel
theorem dX12_goes_250 : decode cX12_goes 250 = .ok (.iastore, 1) := by decide +kernel
theorem dX12_goes_251 : decode cX12_goes 251 = .ok (.iload 4, 2) := by decide +kernel
theorem dX12_goes_253 : decode cX12_goes 253 = .ok (.aload_n 0, 1) := by decide +kernel
theorem dX12_goes_254 : decode cX12_goes 254 = .ok (.getfield 7, 3) := by decide +kernel
theorem dX12_goes_257 : decode cX12_goes 257 = .ok (.iconst 1, 1) := by decide +kernel
theorem dX12_goes_258 : decode cX12_goes 258 = .ok (.isub, 1) := by decide +kernel
theorem dX12_goes_259 : decode cX12_goes 259 = .ok (.if_icmp .ne 16, 3) := by decide +kernel
theorem dX12_goes_262 : decode cX12_goes 262 = .ok (.aload_n 0, 1) := by decide +kernel
theorem dX12_goes_263 : decode cX12_goes 263 = .ok (.iload_n 1, 1) := by decide +kernel
theorem dX12_goes_264 : decode cX12_goes 264 = .ok (.iload_n 3, 1) := by decide +kernel
theorem dX12_goes_265 : decode cX12_goes 265 = .ok (.aload_n 0, 1) := by decide +kernel
theorem dX12_goes_266 : decode cX12_goes 266 = .ok (.getfield 7, 3) := by decide +kernel
theorem dX12_goes_269 : decode cX12_goes 269 = .ok (.idiv, 1) := by decide +kernel
theorem dX12_goes_270 : decode cX12_goes 270 = .ok (.iload 7, 2) := by decide +kernel
theorem dX12_goes_272 : decode cX12_goes 272 = .ok (.invokevirtual 422, 3) := by decide +kernel
theorem dX12_goes_275 : decode cX12_goes 275 = .ok (.return_, 1) := by decide +kernel
theorem dX12_isOver_0 : decode cX12_isOver 0 = .ok (.iconst 0, 1) := by decide +kernel
theorem dX12_isOver_1 : decode cX12_isOver 1 = .ok (.istore_n 3, 1) := by decide +kernel
theorem dX12_isOver_2 : decode cX12_isOver 2 = .ok (.iconst 0, 1) := by decide +kernel
theorem dX12_isOver_3 : decode cX12_isOver 3 = .ok (.istore 4, 2) := by decide +kernel
theorem dX12_isOver_5 : decode cX12_isOver 5 = .ok (.iload 4, 2) := by decide +kernel
theorem dX12_isOver_7 : decode cX12_isOver 7 = .ok (.aload_n 0, 1) := by decide +kernel
theorem dX12_isOver_8 : decode cX12_isOver 8 = .ok (.getfield 30, 3) := by decide +kernel
theorem dX12_isOver_11 : decode cX12_isOver 11 = .ok (.if_icmp .ge 60, 3) := by decide +kernel
theorem dX12_isOver_14 : decode cX12_isOver 14 = .ok (.aload_n 0, 1) := by decide +kernel
theorem dX12_isOver_15 : decode cX12_isOver 15 = .ok (.getfield 363, 3) := by decide +kernel
theorem dX12_isOver_18 : decode cX12_isOver 18 = .ok (.bipush 60, 2) := by decide +kernel
theorem dX12_isOver_20 : decode cX12_isOver 20 = .ok (.iload 4, 2) := by decide +kernel
theorem dX12_isOver_22 : decode cX12_isOver 22 = .ok (.imul, 1) := by decide +kernel
theorem dX12_isOver_23 : decode cX12_isOver 23 = .ok (.aload_n 0, 1) := by decide +kernel
theorem dX12_isOver_24 : decode cX12_isOver 24 = .ok (.getfield 7, 3) := by decide +kernel
theorem dX12_isOver_27 : decode cX12_isOver 27 = .ok (.aload_n 0, 1) := by decide +kernel
theorem dX12_isOver_28 : decode cX12_isOver 28 = .ok (.getfield 10, 3) := by decide +kernel
theorem dX12_isOver_31 : decode cX12_isOver 31 = .ok (.imul, 1) := by decide +kernel
theorem dX12_isOver_32 : decode cX12_isOver 32 = .ok (.iadd, 1) := by decide +kernel
theorem dX12_isOver_33 : decode cX12_isOver 33 = .ok (.iconst 1, 1) := by decide +kernel
theorem dX12_isOver_34 : decode cX12_isOver 34 = .ok (.isub, 1) := by decide +kernel
theorem dX12_isOver_35 : decode cX12_isOver 35 = .ok (.iaload, 1) := by decide +kernel
theorem dX12_isOver_36 : decode cX12_isOver 36 = .ok (.istore 5, 2) := by decide +kernel
theorem dX12_isOver_38 : decode cX12_isOver 38 = .ok (.iload_n 3, 1) := by decide +kernel
theorem dX12_isOver_39 : decode cX12_isOver 39 = .ok (.ifCond .ne 20, 3) := by decide +kernel
theorem dX12_isOver_42 : decode cX12_isOver 42 = .ok (.iload 4, 2) := by decide +kernel
theorem dX12_isOver_44 : decode cX12_isOver 44 = .ok (.iload_n 1, 1) := by decide +kernel
theorem dX12_isOver_45 : decode cX12_isOver 45 = .ok (.if_icmp .eq 18, 3) := by decide +kernel
theorem dX12_isOver_48 : decode cX12_isOver 48 = .ok (.iload 5, 2) := by decide +kernel
theorem dX12_isOver_50 : decode cX12_isOver 50 = .ok (.ifCond .lt 13, 3) := by decide +kernel
theorem dX12_isOver_53 : decode cX12_isOver 53 = .ok (.iload 5, 2) := by decide +kernel
theorem dX12_isOver_55 : decode cX12_isOver 55 = .ok (.iload_n 2, 1) := by decide +kernel
theorem dX12_isOver_56 : decode cX12_isOver 56 = .ok (.if_icmp .gt 7, 3) := by decide +kernel
theorem dX12_isOver_59 : decode cX12_isOver 59 = .ok (.iconst 1, 1) := by decide +kernel
theorem dX12_isOver_60 : decode cX12_isOver 60 = .ok (.goto 4, 3) := by decide +kernel
theorem dX12_isOver_63 : decode cX12_isOver 63 = .ok (.iconst 0, 1) := by decide +kernel
theorem dX12_isOver_64 : decode cX12_isOver 64 = .ok (.istore_n 3, 1) := by decide +kernel
theorem dX12_isOver_65 : decode cX12_isOver 65 = .ok (.iinc 4 1, 3) := by decide +kernel
theorem dX12_isOver_68 : decode cX12_isOver 68 = .ok (.goto (-63), 3) := by decide +kernel
theorem dX12_isOver_71 : decode cX12_isOver 71 = .ok (.iload_n 3, 1) := by decide +kernel
theorem dX12_isOver_72 : decode cX12_isOver 72 = .ok (.ireturn, 1) := by decide +kernel
theorem dX12_endsLap_0 : decode cX12_endsLap 0 = .ok (.iload_n 2, 1) := by decide +kernel
theorem dX12_endsLap_1 : decode cX12_endsLap 1 = .ok (.aload_n 0, 1) := by decide +kernel
theorem dX12_endsLap_2 : decode cX12_endsLap 2 = .ok (.getfield 10, 3) := by decide +kernel
theorem dX12_endsLap_5 : decode cX12_endsLap 5 = .ok (.iconst 1, 1) := by decide +kernel
theorem dX12_endsLap_6 : decode cX12_endsLap 6 = .ok (.isub, 1) := by decide +kernel
theorem dX12_endsLap_7 : decode cX12_endsLap 7 = .ok (.if_icmp .eq 12, 3) := by decide +kernel
theorem dX12_endsLap_10 : decode cX12_endsLap 10 = .ok (.aload_n 0, 1) := by decide +kernel
theorem dX12_endsLap_11 : decode cX12_endsLap 11 = .ok (.iload_n 1, 1) := by decide +kernel
theorem dX12_endsLap_12 : decode cX12_endsLap 12 = .ok (.iload_n 3, 1) := by decide +kernel
theorem dX12_endsLap_13 : decode cX12_endsLap 13 = .ok (.invokevirtual 426, 3) := by decide +kernel
theorem dX12_endsLap_16 : decode cX12_endsLap 16 = .ok (.ifCond .eq 18, 3) := by decide +kernel
theorem dX12_endsLap_19 : decode cX12_endsLap 19 = .ok (.aload_n 0, 1) := by decide +kernel
theorem dX12_endsLap_20 : decode cX12_endsLap 20 = .ok (.getfield 309, 3) := by decide +kernel
theorem dX12_endsLap_23 : decode cX12_endsLap 23 = .ok (.iload_n 1, 1) := by decide +kernel
theorem dX12_endsLap_24 : decode cX12_endsLap 24 = .ok (.iconst 1, 1) := by decide +kernel
theorem dX12_endsLap_25 : decode cX12_endsLap 25 = .ok (.iastore, 1) := by decide +kernel
theorem dX12_endsLap_26 : decode cX12_endsLap 26 = .ok (.aload_n 0, 1) := by decide +kernel
theorem dX12_endsLap_27 : decode cX12_endsLap 27 = .ok (.getfield 321, 3) := by decide +kernel
theorem dX12_endsLap_30 : decode cX12_endsLap 30 = .ok (.iload_n 1, 1) := by decide +kernel
theorem dX12_endsLap_31 : decode cX12_endsLap 31 = .ok (.iload_n 3, 1) := by decide +kernel
theorem dX12_endsLap_32 : decode cX12_endsLap 32 = .ok (.iastore, 1) := by decide +kernel
theorem dX12_endsLap_33 : decode cX12_endsLap 33 = .ok (.return_, 1) := by decide +kernel
theorem dX12_endsLap_34 : decode cX12_endsLap 34 = .ok (.bipush (-2), 2) := by decide +kernel
theorem dX12_endsLap_36 : decode cX12_endsLap 36 = .ok (.istore 4, 2) := by decide +kernel
theorem dX12_endsLap_38 : decode cX12_endsLap 38 = .ok (.iconst 0, 1) := by decide +kernel
theorem dX12_endsLap_39 : decode cX12_endsLap 39 = .ok (.istore 5, 2) := by decide +kernel
theorem dX12_endsLap_41 : decode cX12_endsLap 41 = .ok (.aload_n 0, 1) := by decide +kernel
theorem dX12_endsLap_42 : decode cX12_endsLap 42 = .ok (.getfield 142, 3) := by decide +kernel
theorem dX12_endsLap_45 : decode cX12_endsLap 45 = .ok (.iload_n 1, 1) := by decide +kernel
theorem dX12_endsLap_46 : decode cX12_endsLap 46 = .ok (.baload, 1) := by decide +kernel
theorem dX12_endsLap_47 : decode cX12_endsLap 47 = .ok (.ifCond .eq 40, 3) := by decide +kernel
theorem dX12_endsLap_50 : decode cX12_endsLap 50 = .ok (.aload_n 0, 1) := by decide +kernel
theorem dX12_endsLap_51 : decode cX12_endsLap 51 = .ok (.getfield 429, 3) := by decide +kernel
theorem dX12_endsLap_54 : decode cX12_endsLap 54 = .ok (.iload_n 1, 1) := by decide +kernel
theorem dX12_endsLap_55 : decode cX12_endsLap 55 = .ok (.baload, 1) := by decide +kernel
theorem dX12_endsLap_56 : decode cX12_endsLap 56 = .ok (.ifCond .ne 31, 3) := by decide +kernel
theorem dX12_endsLap_59 : decode cX12_endsLap 59 = .ok (.aload_n 0, 1) := by decide +kernel
theorem dX12_endsLap_60 : decode cX12_endsLap 60 = .ok (.iload_n 1, 1) := by decide +kernel
theorem dX12_endsLap_61 : decode cX12_endsLap 61 = .ok (.iload_n 2, 1) := by decide +kernel
theorem dX12_endsLap_62 : decode cX12_endsLap 62 = .ok (.iload_n 3, 1) := by decide +kernel
theorem dX12_endsLap_63 : decode cX12_endsLap 63 = .ok (.invokevirtual 432, 3) := by decide +kernel
theorem dX12_endsLap_66 : decode cX12_endsLap 66 = .ok (.istore 4, 2) := by decide +kernel
theorem dX12_endsLap_68 : decode cX12_endsLap 68 = .ok (.iload 4, 2) := by decide +kernel
theorem dX12_endsLap_70 : decode cX12_endsLap 70 = .ok (.bipush (-2), 2) := by decide +kernel
theorem dX12_endsLap_72 : decode cX12_endsLap 72 = .ok (.if_icmp .le 12, 3) := by decide +kernel
theorem dX12_endsLap_75 : decode cX12_endsLap 75 = .ok (.aload_n 0, 1) := by decide +kernel
theorem dX12_endsLap_76 : decode cX12_endsLap 76 = .ok (.getfield 118, 3) := by decide +kernel
theorem dX12_endsLap_79 : decode cX12_endsLap 79 = .ok (.iload_n 1, 1) := by decide +kernel
theorem dX12_endsLap_80 : decode cX12_endsLap 80 = .ok (.iaload, 1) := by decide +kernel
theorem dX12_endsLap_81 : decode cX12_endsLap 81 = .ok (.goto 4, 3) := by decide +kernel
theorem dX12_endsLap_84 : decode cX12_endsLap 84 = .ok (.iconst 0, 1) := by decide +kernel
theorem dX12_endsLap_85 : decode cX12_endsLap 85 = .ok (.istore 5, 2) := by decide +kernel
theorem dX12_endsLap_87 : decode cX12_endsLap 87 = .ok (.iconst 5, 1) := by decide +kernel
theorem dX12_endsLap_88 : decode cX12_endsLap 88 = .ok (.iload_n 1, 1) := by decide +kernel
theorem dX12_endsLap_89 : decode cX12_endsLap 89 = .ok (.imul, 1) := by decide +kernel
theorem dX12_endsLap_90 : decode cX12_endsLap 90 = .ok (.istore 6, 2) := by decide +kernel
theorem dX12_endsLap_92 : decode cX12_endsLap 92 = .ok (.iload 6, 2) := by decide +kernel
theorem dX12_endsLap_94 : decode cX12_endsLap 94 = .ok (.iconst 5, 1) := by decide +kernel
theorem dX12_endsLap_95 : decode cX12_endsLap 95 = .ok (.iload_n 1, 1) := by decide +kernel
theorem dX12_endsLap_96 : decode cX12_endsLap 96 = .ok (.imul, 1) := by decide +kernel
theorem dX12_endsLap_97 : decode cX12_endsLap 97 = .ok (.aload_n 0, 1) := by decide +kernel
theorem dX12_endsLap_98 : decode cX12_endsLap 98 = .ok (.getfield 139, 3) := by decide +kernel
theorem dX12_endsLap_101 : decode cX12_endsLap 101 = .ok (.iload_n 1, 1) := by decide +kernel
theorem dX12_endsLap_102 : decode cX12_endsLap 102 = .ok (.iaload, 1) := by decide +kernel
theorem dX12_endsLap_103 : decode cX12_endsLap 103 = .ok (.iadd, 1) := by decide +kernel
theorem dX12_endsLap_104 : decode cX12_endsLap 104 = .ok (.if_icmp .ge 38, 3) := by decide +kernel
theorem dX12_endsLap_107 : decode cX12_endsLap 107 = .ok (.aload_n 0, 1) := by decide +kernel
theorem dX12_endsLap_108 : decode cX12_endsLap 108 = .ok (.getfield 176, 3) := by decide +kernel
theorem dX12_endsLap_111 : decode cX12_endsLap 111 = .ok (.iload 6, 2) := by decide +kernel
theorem dX12_endsLap_113 : decode cX12_endsLap 113 = .ok (.iaload, 1) := by decide +kernel
theorem dX12_endsLap_114 : decode cX12_endsLap 114 = .ok (.iload_n 2, 1) := by decide +kernel
theorem dX12_endsLap_115 : decode cX12_endsLap 115 = .ok (.if_icmp .ne 21, 3) := by decide +kernel
theorem dX12_endsLap_118 : decode cX12_endsLap 118 = .ok (.aload_n 0, 1) := by decide +kernel
theorem dX12_endsLap_119 : decode cX12_endsLap 119 = .ok (.getfield 179, 3) := by decide +kernel
theorem dX12_endsLap_122 : decode cX12_endsLap 122 = .ok (.iload 6, 2) := by decide +kernel
theorem dX12_endsLap_124 : decode cX12_endsLap 124 = .ok (.iaload, 1) := by decide +kernel
theorem dX12_endsLap_125 : decode cX12_endsLap 125 = .ok (.istore 4, 2) := by decide +kernel
theorem dX12_endsLap_127 : decode cX12_endsLap 127 = .ok (.aload_n 0, 1) := by decide +kernel
theorem dX12_endsLap_128 : decode cX12_endsLap 128 = .ok (.getfield 182, 3) := by decide +kernel
theorem dX12_endsLap_131 : decode cX12_endsLap 131 = .ok (.iload 6, 2) := by decide +kernel
theorem dX12_endsLap_133 : decode cX12_endsLap 133 = .ok (.iaload, 1) := by decide +kernel
theorem dX12_endsLap_134 : decode cX12_endsLap 134 = .ok (.istore 5, 2) := by decide +kernel
theorem dX12_endsLap_136 : decode cX12_endsLap 136 = .ok (.iinc 6 1, 3) := by decide +kernel
theorem dX12_endsLap_139 : decode cX12_endsLap 139 = .ok (.goto (-47), 3) := by decide +kernel
theorem dX12_endsLap_142 : decode cX12_endsLap 142 = .ok (.iload 4, 2) := by decide +kernel
theorem dX12_endsLap_144 : decode cX12_endsLap 144 = .ok (.bipush (-2), 2) := by decide +kernel
theorem dX12_endsLap_146 : decode cX12_endsLap 146 = .ok (.if_icmp .le 20, 3) := by decide +kernel
theorem dX12_endsLap_149 : decode cX12_endsLap 149 = .ok (.aload_n 0, 1) := by decide +kernel
theorem dX12_endsLap_150 : decode cX12_endsLap 150 = .ok (.iload_n 1, 1) := by decide +kernel
theorem dX12_endsLap_151 : decode cX12_endsLap 151 = .ok (.iload 4, 2) := by decide +kernel
theorem dX12_endsLap_153 : decode cX12_endsLap 153 = .ok (.iload 5, 2) := by decide +kernel
theorem dX12_endsLap_155 : decode cX12_endsLap 155 = .ok (.iload_n 3, 1) := by decide +kernel
theorem dX12_endsLap_156 : decode cX12_endsLap 156 = .ok (.aload_n 0, 1) := by decide +kernel
theorem dX12_endsLap_157 : decode cX12_endsLap 157 = .ok (.getfield 83, 3) := by decide +kernel
theorem dX12_endsLap_160 : decode cX12_endsLap 160 = .ok (.iconst 3, 1) := by decide +kernel
theorem dX12_endsLap_161 : decode cX12_endsLap 161 = .ok (.iaload, 1) := by decide +kernel
theorem dX12_endsLap_162 : decode cX12_endsLap 162 = .ok (.iadd, 1) := by decide +kernel
theorem dX12_endsLap_163 : decode cX12_endsLap 163 = .ok (.invokevirtual 435, 3) := by decide +kernel
theorem dX12_endsLap_166 : decode cX12_endsLap 166 = .ok (.return_, 1) := by decide +kernel
theorem dX12_boxes_0 : decode cX12_boxes 0 = .ok (.iload 4, 2) := by decide +kernel
theorem dX12_boxes_2 : decode cX12_boxes 2 = .ok (.aload_n 0, 1) := by decide +kernel
theorem dX12_boxes_3 : decode cX12_boxes 3 = .ok (.getfield 315, 3) := by decide +kernel
theorem dX12_boxes_6 : decode cX12_boxes 6 = .ok (.aload_n 0, 1) := by decide +kernel
theorem dX12_boxes_7 : decode cX12_boxes 7 = .ok (.getfield 124, 3) := by decide +kernel
theorem dX12_boxes_10 : decode cX12_boxes 10 = .ok (.iload_n 1, 1) := by decide +kernel
theorem dX12_boxes_11 : decode cX12_boxes 11 = .ok (.iaload, 1) := by decide +kernel
theorem dX12_boxes_12 : decode cX12_boxes 12 = .ok (.iaload, 1) := by decide +kernel
theorem dX12_boxes_13 : decode cX12_boxes 13 = .ok (.invokestatic 395, 3) := by decide +kernel
theorem dX12_boxes_16 : decode cX12_boxes 16 = .ok (.istore 5, 2) := by decide +kernel
theorem dX12_boxes_18 : decode cX12_boxes 18 = .ok (.aload_n 0, 1) := by decide +kernel
theorem dX12_boxes_19 : decode cX12_boxes 19 = .ok (.getfield 357, 3) := by decide +kernel
theorem dX12_boxes_22 : decode cX12_boxes 22 = .ok (.iload_n 1, 1) := by decide +kernel
theorem dX12_boxes_23 : decode cX12_boxes 23 = .ok (.dup2, 1) := by decide +kernel
theorem dX12_boxes_24 : decode cX12_boxes 24 = .ok (.iaload, 1) := by decide +kernel
theorem dX12_boxes_25 : decode cX12_boxes 25 = .ok (.iload 5, 2) := by decide +kernel
theorem dX12_boxes_27 : decode cX12_boxes 27 = .ok (.iload 4, 2) := by decide +kernel
theorem dX12_boxes_29 : decode cX12_boxes 29 = .ok (.isub, 1) := by decide +kernel
theorem dX12_boxes_30 : decode cX12_boxes 30 = .ok (.iadd, 1) := by decide +kernel
theorem dX12_boxes_31 : decode cX12_boxes 31 = .ok (.iastore, 1) := by decide +kernel
theorem dX12_boxes_32 : decode cX12_boxes 32 = .ok (.iload_n 2, 1) := by decide +kernel
theorem dX12_boxes_33 : decode cX12_boxes 33 = .ok (.ifCond .lt 27, 3) := by decide +kernel
theorem dX12_boxes_36 : decode cX12_boxes 36 = .ok (.iload_n 2, 1) := by decide +kernel
theorem dX12_boxes_37 : decode cX12_boxes 37 = .ok (.aload_n 0, 1) := by decide +kernel
theorem dX12_boxes_38 : decode cX12_boxes 38 = .ok (.getfield 133, 3) := by decide +kernel
theorem dX12_boxes_41 : decode cX12_boxes 41 = .ok (.iload_n 1, 1) := by decide +kernel
theorem dX12_boxes_42 : decode cX12_boxes 42 = .ok (.iaload, 1) := by decide +kernel
theorem dX12_boxes_43 : decode cX12_boxes 43 = .ok (.if_icmp .ge 17, 3) := by decide +kernel
theorem dX12_boxes_46 : decode cX12_boxes 46 = .ok (.iload_n 2, 1) := by decide +kernel
theorem dX12_boxes_47 : decode cX12_boxes 47 = .ok (.aload_n 0, 1) := by decide +kernel
theorem dX12_boxes_48 : decode cX12_boxes 48 = .ok (.getfield 333, 3) := by decide +kernel
theorem dX12_boxes_51 : decode cX12_boxes 51 = .ok (.iload_n 1, 1) := by decide +kernel
theorem dX12_boxes_52 : decode cX12_boxes 52 = .ok (.iaload, 1) := by decide +kernel
theorem dX12_boxes_53 : decode cX12_boxes 53 = .ok (.if_icmp .eq 7, 3) := by decide +kernel
theorem dX12_boxes_56 : decode cX12_boxes 56 = .ok (.iconst 1, 1) := by decide +kernel
theorem dX12_boxes_57 : decode cX12_boxes 57 = .ok (.goto 4, 3) := by decide +kernel
theorem dX12_boxes_60 : decode cX12_boxes 60 = .ok (.iconst 0, 1) := by decide +kernel
theorem dX12_boxes_61 : decode cX12_boxes 61 = .ok (.istore 6, 2) := by decide +kernel
theorem dX12_boxes_63 : decode cX12_boxes 63 = .ok (.iload_n 3, 1) := by decide +kernel
theorem dX12_boxes_64 : decode cX12_boxes 64 = .ok (.aload_n 0, 1) := by decide +kernel
theorem dX12_boxes_65 : decode cX12_boxes 65 = .ok (.getfield 118, 3) := by decide +kernel
theorem dX12_boxes_68 : decode cX12_boxes 68 = .ok (.iload_n 1, 1) := by decide +kernel
theorem dX12_boxes_69 : decode cX12_boxes 69 = .ok (.iaload, 1) := by decide +kernel
theorem dX12_boxes_70 : decode cX12_boxes 70 = .ok (.aload_n 0, 1) := by decide +kernel
theorem dX12_boxes_71 : decode cX12_boxes 71 = .ok (.getfield 330, 3) := by decide +kernel
theorem dX12_boxes_74 : decode cX12_boxes 74 = .ok (.iload_n 1, 1) := by decide +kernel
theorem dX12_boxes_75 : decode cX12_boxes 75 = .ok (.iaload, 1) := by decide +kernel
theorem dX12_boxes_76 : decode cX12_boxes 76 = .ok (.isub, 1) := by decide +kernel
theorem dX12_boxes_77 : decode cX12_boxes 77 = .ok (.invokestatic 272, 3) := by decide +kernel
theorem dX12_boxes_80 : decode cX12_boxes 80 = .ok (.istore 7, 2) := by decide +kernel
theorem dX12_boxes_82 : decode cX12_boxes 82 = .ok (.iload 5, 2) := by decide +kernel
theorem dX12_boxes_84 : decode cX12_boxes 84 = .ok (.iload 6, 2) := by decide +kernel
theorem dX12_boxes_86 : decode cX12_boxes 86 = .ok (.ifCond .eq 12, 3) := by decide +kernel
theorem dX12_boxes_89 : decode cX12_boxes 89 = .ok (.aload_n 0, 1) := by decide +kernel
theorem dX12_boxes_90 : decode cX12_boxes 90 = .ok (.getfield 83, 3) := by decide +kernel
theorem dX12_boxes_93 : decode cX12_boxes 93 = .ok (.iconst 4, 1) := by decide +kernel
theorem dX12_boxes_94 : decode cX12_boxes 94 = .ok (.iaload, 1) := by decide +kernel
theorem dX12_boxes_95 : decode cX12_boxes 95 = .ok (.goto 4, 3) := by decide +kernel
theorem dX12_boxes_98 : decode cX12_boxes 98 = .ok (.iconst 0, 1) := by decide +kernel
theorem dX12_boxes_99 : decode cX12_boxes 99 = .ok (.iadd, 1) := by decide +kernel
theorem dX12_boxes_100 : decode cX12_boxes 100 = .ok (.aload_n 0, 1) := by decide +kernel
theorem dX12_boxes_101 : decode cX12_boxes 101 = .ok (.getfield 83, 3) := by decide +kernel
theorem dX12_boxes_104 : decode cX12_boxes 104 = .ok (.iconst 5, 1) := by decide +kernel
theorem dX12_boxes_105 : decode cX12_boxes 105 = .ok (.iaload, 1) := by decide +kernel
theorem dX12_boxes_106 : decode cX12_boxes 106 = .ok (.iload 7, 2) := by decide +kernel
theorem dX12_boxes_108 : decode cX12_boxes 108 = .ok (.imul, 1) := by decide +kernel
theorem dX12_boxes_109 : decode cX12_boxes 109 = .ok (.iadd, 1) := by decide +kernel
theorem dX12_boxes_110 : decode cX12_boxes 110 = .ok (.istore 8, 2) := by decide +kernel
theorem dX12_boxes_112 : decode cX12_boxes 112 = .ok (.aload_n 0, 1) := by decide +kernel
theorem dX12_boxes_113 : decode cX12_boxes 113 = .ok (.getfield 333, 3) := by decide +kernel
theorem dX12_boxes_116 : decode cX12_boxes 116 = .ok (.iload_n 1, 1) := by decide +kernel
theorem dX12_boxes_117 : decode cX12_boxes 117 = .ok (.iload 6, 2) := by decide +kernel
theorem dX12_boxes_119 : decode cX12_boxes 119 = .ok (.ifCond .eq 7, 3) := by decide +kernel
theorem dX12_boxes_122 : decode cX12_boxes 122 = .ok (.iload_n 2, 1) := by decide +kernel
theorem dX12_boxes_123 : decode cX12_boxes 123 = .ok (.goto 9, 3) := by decide +kernel
theorem dX12_boxes_126 : decode cX12_boxes 126 = .ok (.aload_n 0, 1) := by decide +kernel
theorem dX12_boxes_127 : decode cX12_boxes 127 = .ok (.getfield 333, 3) := by decide +kernel
theorem dX12_boxes_130 : decode cX12_boxes 130 = .ok (.iload_n 1, 1) := by decide +kernel
theorem dX12_boxes_131 : decode cX12_boxes 131 = .ok (.iaload, 1) := by decide +kernel
theorem dX12_boxes_132 : decode cX12_boxes 132 = .ok (.iastore, 1) := by decide +kernel
theorem dX12_boxes_133 : decode cX12_boxes 133 = .ok (.aload_n 0, 1) := by decide +kernel
theorem dX12_boxes_134 : decode cX12_boxes 134 = .ok (.getfield 330, 3) := by decide +kernel
theorem dX12_boxes_137 : decode cX12_boxes 137 = .ok (.iload_n 1, 1) := by decide +kernel
theorem dX12_boxes_138 : decode cX12_boxes 138 = .ok (.dup2, 1) := by decide +kernel
theorem dX12_boxes_139 : decode cX12_boxes 139 = .ok (.iaload, 1) := by decide +kernel
theorem dX12_boxes_140 : decode cX12_boxes 140 = .ok (.iload 7, 2) := by decide +kernel
theorem dX12_boxes_142 : decode cX12_boxes 142 = .ok (.iadd, 1) := by decide +kernel
theorem dX12_boxes_143 : decode cX12_boxes 143 = .ok (.iastore, 1) := by decide +kernel
theorem dX12_boxes_144 : decode cX12_boxes 144 = .ok (.aload_n 0, 1) := by decide +kernel
theorem dX12_boxes_145 : decode cX12_boxes 145 = .ok (.getfield 315, 3) := by decide +kernel
theorem dX12_boxes_148 : decode cX12_boxes 148 = .ok (.aload_n 0, 1) := by decide +kernel
theorem dX12_boxes_149 : decode cX12_boxes 149 = .ok (.getfield 124, 3) := by decide +kernel
theorem dX12_boxes_152 : decode cX12_boxes 152 = .ok (.iload_n 1, 1) := by decide +kernel
theorem dX12_boxes_153 : decode cX12_boxes 153 = .ok (.iaload, 1) := by decide +kernel
theorem dX12_boxes_154 : decode cX12_boxes 154 = .ok (.iload 8, 2) := by decide +kernel
theorem dX12_boxes_156 : decode cX12_boxes 156 = .ok (.iastore, 1) := by decide +kernel
theorem dX12_boxes_157 : decode cX12_boxes 157 = .ok (.aload_n 0, 1) := by decide +kernel
theorem dX12_boxes_158 : decode cX12_boxes 158 = .ok (.getfield 318, 3) := by decide +kernel
theorem dX12_boxes_161 : decode cX12_boxes 161 = .ok (.iload_n 1, 1) := by decide +kernel
theorem dX12_boxes_162 : decode cX12_boxes 162 = .ok (.iload 8, 2) := by decide +kernel
theorem dX12_boxes_164 : decode cX12_boxes 164 = .ok (.iastore, 1) := by decide +kernel
theorem dX12_boxes_165 : decode cX12_boxes 165 = .ok (.aload_n 0, 1) := by decide +kernel
theorem dX12_boxes_166 : decode cX12_boxes 166 = .ok (.getfield 342, 3) := by decide +kernel
theorem dX12_boxes_169 : decode cX12_boxes 169 = .ok (.iload_n 1, 1) := by decide +kernel
theorem dX12_boxes_170 : decode cX12_boxes 170 = .ok (.dup2, 1) := by decide +kernel
theorem dX12_boxes_171 : decode cX12_boxes 171 = .ok (.iaload, 1) := by decide +kernel
theorem dX12_boxes_172 : decode cX12_boxes 172 = .ok (.iconst 1, 1) := by decide +kernel
theorem dX12_boxes_173 : decode cX12_boxes 173 = .ok (.iadd, 1) := by decide +kernel
theorem dX12_boxes_174 : decode cX12_boxes 174 = .ok (.iastore, 1) := by decide +kernel
theorem dX12_boxes_175 : decode cX12_boxes 175 = .ok (.return_, 1) := by decide +kernel
theorem dX12_asks_0 : decode cX12_asks 0 = .ok (.aload_n 0, 1) := by decide +kernel
theorem dX12_asks_1 : decode cX12_asks 1 = .ok (.iload_n 1, 1) := by decide +kernel
theorem dX12_asks_2 : decode cX12_asks 2 = .ok (.iload_n 2, 1) := by decide +kernel
theorem dX12_asks_3 : decode cX12_asks 3 = .ok (.iload_n 3, 1) := by decide +kernel
theorem dX12_asks_4 : decode cX12_asks 4 = .ok (.invokevirtual 438, 3) := by decide +kernel
theorem dX12_asks_7 : decode cX12_asks 7 = .ok (.bipush 100, 2) := by decide +kernel
theorem dX12_asks_9 : decode cX12_asks 9 = .ok (.iload_n 1, 1) := by decide +kernel
theorem dX12_asks_10 : decode cX12_asks 10 = .ok (.imul, 1) := by decide +kernel
theorem dX12_asks_11 : decode cX12_asks 11 = .ok (.istore 4, 2) := by decide +kernel
theorem dX12_asks_13 : decode cX12_asks 13 = .ok (.iload 4, 2) := by decide +kernel
theorem dX12_asks_15 : decode cX12_asks 15 = .ok (.aload_n 0, 1) := by decide +kernel
theorem dX12_asks_16 : decode cX12_asks 16 = .ok (.getfield 208, 3) := by decide +kernel
theorem dX12_asks_19 : decode cX12_asks 19 = .ok (.iload_n 1, 1) := by decide +kernel
theorem dX12_asks_20 : decode cX12_asks 20 = .ok (.iaload, 1) := by decide +kernel
theorem dX12_asks_21 : decode cX12_asks 21 = .ok (.iadd, 1) := by decide +kernel
theorem dX12_asks_22 : decode cX12_asks 22 = .ok (.istore 5, 2) := by decide +kernel
theorem dX12_asks_24 : decode cX12_asks 24 = .ok (.iconst 0, 1) := by decide +kernel
theorem dX12_asks_25 : decode cX12_asks 25 = .ok (.istore 6, 2) := by decide +kernel
theorem dX12_asks_27 : decode cX12_asks 27 = .ok (.iload 4, 2) := by decide +kernel
theorem dX12_asks_29 : decode cX12_asks 29 = .ok (.iload 5, 2) := by decide +kernel
theorem dX12_asks_31 : decode cX12_asks 31 = .ok (.if_icmp .ge 196, 3) := by decide +kernel
theorem dX12_asks_34 : decode cX12_asks 34 = .ok (.aload_n 0, 1) := by decide +kernel
theorem dX12_asks_35 : decode cX12_asks 35 = .ok (.iload 4, 2) := by decide +kernel
theorem dX12_asks_37 : decode cX12_asks 37 = .ok (.iload 5, 2) := by decide +kernel
theorem dX12_asks_39 : decode cX12_asks 39 = .ok (.invokevirtual 441, 3) := by decide +kernel
theorem dX12_asks_42 : decode cX12_asks 42 = .ok (.ifCond .eq 7, 3) := by decide +kernel
theorem dX12_asks_45 : decode cX12_asks 45 = .ok (.iconst 1, 1) := by decide +kernel
theorem dX12_asks_46 : decode cX12_asks 46 = .ok (.goto 4, 3) := by decide +kernel
theorem dX12_asks_49 : decode cX12_asks 49 = .ok (.iconst 0, 1) := by decide +kernel
theorem dX12_asks_50 : decode cX12_asks 50 = .ok (.istore 7, 2) := by decide +kernel
theorem dX12_asks_52 : decode cX12_asks 52 = .ok (.aload_n 0, 1) := by decide +kernel
theorem dX12_asks_53 : decode cX12_asks 53 = .ok (.getfield 306, 3) := by decide +kernel
theorem dX12_asks_56 : decode cX12_asks 56 = .ok (.iconst 1, 1) := by decide +kernel
theorem dX12_asks_57 : decode cX12_asks 57 = .ok (.iadd, 1) := by decide +kernel
theorem dX12_asks_58 : decode cX12_asks 58 = .ok (.istore 4, 2) := by decide +kernel
theorem dX12_asks_60 : decode cX12_asks 60 = .ok (.bipush (-2), 2) := by decide +kernel
theorem dX12_asks_62 : decode cX12_asks 62 = .ok (.istore 8, 2) := by decide +kernel
theorem dX12_asks_64 : decode cX12_asks 64 = .ok (.aload_n 0, 1) := by decide +kernel
theorem dX12_asks_65 : decode cX12_asks 65 = .ok (.getfield 202, 3) := by decide +kernel
theorem dX12_asks_68 : decode cX12_asks 68 = .ok (.iload 4, 2) := by decide +kernel
theorem dX12_asks_70 : decode cX12_asks 70 = .ok (.iaload, 1) := by decide +kernel
theorem dX12_asks_71 : decode cX12_asks 71 = .ok (.sipush (-302), 3) := by decide +kernel
theorem dX12_asks_74 : decode cX12_asks 74 = .ok (.if_icmp .eq 123, 3) := by decide +kernel
theorem dX12_asks_77 : decode cX12_asks 77 = .ok (.iload 7, 2) := by decide +kernel
theorem dX12_asks_79 : decode cX12_asks 79 = .ok (.ifCond .eq 112, 3) := by decide +kernel
theorem dX12_asks_82 : decode cX12_asks 82 = .ok (.aload_n 0, 1) := by decide +kernel
theorem dX12_asks_83 : decode cX12_asks 83 = .ok (.getfield 202, 3) := by decide +kernel
theorem dX12_asks_86 : decode cX12_asks 86 = .ok (.iload 4, 2) := by decide +kernel
theorem dX12_asks_88 : decode cX12_asks 88 = .ok (.iaload, 1) := by decide +kernel
theorem dX12_asks_89 : decode cX12_asks 89 = .ok (.istore 9, 2) := by decide +kernel
theorem dX12_asks_91 : decode cX12_asks 91 = .ok (.iload 9, 2) := by decide +kernel
theorem dX12_asks_93 : decode cX12_asks 93 = .ok (.sipush 1000, 3) := by decide +kernel
theorem dX12_asks_96 : decode cX12_asks 96 = .ok (.if_icmp .lt 12, 3) := by decide +kernel
theorem dX12_asks_99 : decode cX12_asks 99 = .ok (.iload 9, 2) := by decide +kernel
theorem dX12_asks_101 : decode cX12_asks 101 = .ok (.sipush 1000, 3) := by decide +kernel
theorem dX12_asks_104 : decode cX12_asks 104 = .ok (.isub, 1) := by decide +kernel
theorem dX12_asks_105 : decode cX12_asks 105 = .ok (.goto 5, 3) := by decide +kernel
theorem dX12_asks_108 : decode cX12_asks 108 = .ok (.iload 8, 2) := by decide +kernel
theorem dX12_asks_110 : decode cX12_asks 110 = .ok (.istore 8, 2) := by decide +kernel
theorem dX12_asks_112 : decode cX12_asks 112 = .ok (.aload_n 0, 1) := by decide +kernel
theorem dX12_asks_113 : decode cX12_asks 113 = .ok (.getfield 336, 3) := by decide +kernel
theorem dX12_asks_116 : decode cX12_asks 116 = .ok (.iload_n 1, 1) := by decide +kernel
theorem dX12_asks_117 : decode cX12_asks 117 = .ok (.iload 9, 2) := by decide +kernel
theorem dX12_asks_119 : decode cX12_asks 119 = .ok (.bipush 43, 2) := by decide +kernel
theorem dX12_asks_121 : decode cX12_asks 121 = .ok (.if_icmp .ne 7, 3) := by decide +kernel
theorem dX12_asks_124 : decode cX12_asks 124 = .ok (.iconst 1, 1) := by decide +kernel
theorem dX12_asks_125 : decode cX12_asks 125 = .ok (.goto 31, 3) := by decide +kernel
theorem dX12_asks_128 : decode cX12_asks 128 = .ok (.iload 9, 2) := by decide +kernel
theorem dX12_asks_130 : decode cX12_asks 130 = .ok (.bipush 61, 2) := by decide +kernel
theorem dX12_asks_132 : decode cX12_asks 132 = .ok (.if_icmp .ne 7, 3) := by decide +kernel
theorem dX12_asks_135 : decode cX12_asks 135 = .ok (.iconst 0, 1) := by decide +kernel
theorem dX12_asks_136 : decode cX12_asks 136 = .ok (.goto 20, 3) := by decide +kernel
theorem dX12_asks_139 : decode cX12_asks 139 = .ok (.iload 9, 2) := by decide +kernel
theorem dX12_asks_141 : decode cX12_asks 141 = .ok (.bipush 45, 2) := by decide +kernel
theorem dX12_asks_143 : decode cX12_asks 143 = .ok (.if_icmp .ne 7, 3) := by decide +kernel
theorem dX12_asks_146 : decode cX12_asks 146 = .ok (.iconst (-1), 1) := by decide +kernel
theorem dX12_asks_147 : decode cX12_asks 147 = .ok (.goto 9, 3) := by decide +kernel
theorem dX12_asks_150 : decode cX12_asks 150 = .ok (.aload_n 0, 1) := by decide +kernel
theorem dX12_asks_151 : decode cX12_asks 151 = .ok (.getfield 336, 3) := by decide +kernel
theorem dX12_asks_154 : decode cX12_asks 154 = .ok (.iload_n 1, 1) := by decide +kernel
theorem dX12_asks_155 : decode cX12_asks 155 = .ok (.iaload, 1) := by decide +kernel
theorem dX12_asks_156 : decode cX12_asks 156 = .ok (.iastore, 1) := by decide +kernel
theorem dX12_asks_157 : decode cX12_asks 157 = .ok (.aload_n 0, 1) := by decide +kernel
theorem dX12_asks_158 : decode cX12_asks 158 = .ok (.getfield 339, 3) := by decide +kernel
theorem dX12_asks_161 : decode cX12_asks 161 = .ok (.iload_n 1, 1) := by decide +kernel
theorem dX12_asks_162 : decode cX12_asks 162 = .ok (.iload 9, 2) := by decide +kernel
theorem dX12_asks_164 : decode cX12_asks 164 = .ok (.bipush 103, 2) := by decide +kernel
theorem dX12_asks_166 : decode cX12_asks 166 = .ok (.if_icmp .ne 7, 3) := by decide +kernel
theorem dX12_asks_169 : decode cX12_asks 169 = .ok (.iconst 1, 1) := by decide +kernel
theorem dX12_asks_170 : decode cX12_asks 170 = .ok (.goto 20, 3) := by decide +kernel
theorem dX12_asks_173 : decode cX12_asks 173 = .ok (.iload 9, 2) := by decide +kernel
theorem dX12_asks_175 : decode cX12_asks 175 = .ok (.bipush 104, 2) := by decide +kernel
theorem dX12_asks_177 : decode cX12_asks 177 = .ok (.if_icmp .ne 7, 3) := by decide +kernel
theorem dX12_asks_180 : decode cX12_asks 180 = .ok (.iconst 0, 1) := by decide +kernel
theorem dX12_asks_181 : decode cX12_asks 181 = .ok (.goto 9, 3) := by decide +kernel
theorem dX12_asks_184 : decode cX12_asks 184 = .ok (.aload_n 0, 1) := by decide +kernel
theorem dX12_asks_185 : decode cX12_asks 185 = .ok (.getfield 339, 3) := by decide +kernel
theorem dX12_asks_188 : decode cX12_asks 188 = .ok (.iload_n 1, 1) := by decide +kernel
theorem dX12_asks_189 : decode cX12_asks 189 = .ok (.iaload, 1) := by decide +kernel
theorem dX12_asks_190 : decode cX12_asks 190 = .ok (.iastore, 1) := by decide +kernel
theorem dX12_asks_191 : decode cX12_asks 191 = .ok (.iinc 4 1, 3) := by decide +kernel
theorem dX12_asks_194 : decode cX12_asks 194 = .ok (.goto (-130), 3) := by decide +kernel
theorem dX12_asks_197 : decode cX12_asks 197 = .ok (.iinc 4 1, 3) := by decide +kernel
theorem dX12_asks_200 : decode cX12_asks 200 = .ok (.iload 7, 2) := by decide +kernel
theorem dX12_asks_202 : decode cX12_asks 202 = .ok (.ifCond .eq 19, 3) := by decide +kernel
theorem dX12_asks_205 : decode cX12_asks 205 = .ok (.aload_n 0, 1) := by decide +kernel
theorem dX12_asks_206 : decode cX12_asks 206 = .ok (.getfield 369, 3) := by decide +kernel
theorem dX12_asks_209 : decode cX12_asks 209 = .ok (.bipush 12, 2) := by decide +kernel
theorem dX12_asks_211 : decode cX12_asks 211 = .ok (.iload_n 1, 1) := by decide +kernel
theorem dX12_asks_212 : decode cX12_asks 212 = .ok (.imul, 1) := by decide +kernel
theorem dX12_asks_213 : decode cX12_asks 213 = .ok (.iload_n 2, 1) := by decide +kernel
theorem dX12_asks_214 : decode cX12_asks 214 = .ok (.iadd, 1) := by decide +kernel
theorem dX12_asks_215 : decode cX12_asks 215 = .ok (.iload 6, 2) := by decide +kernel
theorem dX12_asks_217 : decode cX12_asks 217 = .ok (.iastore, 1) := by decide +kernel
theorem dX12_asks_218 : decode cX12_asks 218 = .ok (.iload 8, 2) := by decide +kernel
theorem dX12_asks_220 : decode cX12_asks 220 = .ok (.ireturn, 1) := by decide +kernel
theorem dX12_asks_221 : decode cX12_asks 221 = .ok (.iinc 6 1, 3) := by decide +kernel
theorem dX12_asks_224 : decode cX12_asks 224 = .ok (.goto (-197), 3) := by decide +kernel
theorem dX12_asks_227 : decode cX12_asks 227 = .ok (.bipush (-2), 2) := by decide +kernel
theorem dX12_asks_229 : decode cX12_asks 229 = .ok (.ireturn, 1) := by decide +kernel
theorem dX12_speaks_0 : decode cX12_speaks 0 = .ok (.aload_n 0, 1) := by decide +kernel
theorem dX12_speaks_1 : decode cX12_speaks 1 = .ok (.getfield 7, 3) := by decide +kernel
theorem dX12_speaks_4 : decode cX12_speaks 4 = .ok (.iload_n 2, 1) := by decide +kernel
theorem dX12_speaks_5 : decode cX12_speaks 5 = .ok (.iconst 1, 1) := by decide +kernel
theorem dX12_speaks_6 : decode cX12_speaks 6 = .ok (.iadd, 1) := by decide +kernel
theorem dX12_speaks_7 : decode cX12_speaks 7 = .ok (.imul, 1) := by decide +kernel
theorem dX12_speaks_8 : decode cX12_speaks 8 = .ok (.iconst 1, 1) := by decide +kernel
theorem dX12_speaks_9 : decode cX12_speaks 9 = .ok (.isub, 1) := by decide +kernel
theorem dX12_speaks_10 : decode cX12_speaks 10 = .ok (.istore 4, 2) := by decide +kernel
theorem dX12_speaks_12 : decode cX12_speaks 12 = .ok (.iconst 1, 1) := by decide +kernel
theorem dX12_speaks_13 : decode cX12_speaks 13 = .ok (.istore 5, 2) := by decide +kernel
theorem dX12_speaks_15 : decode cX12_speaks 15 = .ok (.iconst (-1), 1) := by decide +kernel
theorem dX12_speaks_16 : decode cX12_speaks 16 = .ok (.istore 6, 2) := by decide +kernel
theorem dX12_speaks_18 : decode cX12_speaks 18 = .ok (.iconst 0, 1) := by decide +kernel
theorem dX12_speaks_19 : decode cX12_speaks 19 = .ok (.istore 7, 2) := by decide +kernel
theorem dX12_speaks_21 : decode cX12_speaks 21 = .ok (.iload 7, 2) := by decide +kernel
theorem dX12_speaks_23 : decode cX12_speaks 23 = .ok (.aload_n 0, 1) := by decide +kernel
theorem dX12_speaks_24 : decode cX12_speaks 24 = .ok (.getfield 30, 3) := by decide +kernel
theorem dX12_speaks_27 : decode cX12_speaks 27 = .ok (.if_icmp .ge 53, 3) := by decide +kernel
theorem dX12_speaks_30 : decode cX12_speaks 30 = .ok (.aload_n 0, 1) := by decide +kernel
theorem dX12_speaks_31 : decode cX12_speaks 31 = .ok (.getfield 363, 3) := by decide +kernel
theorem dX12_speaks_34 : decode cX12_speaks 34 = .ok (.bipush 60, 2) := by decide +kernel
theorem dX12_speaks_36 : decode cX12_speaks 36 = .ok (.iload 7, 2) := by decide +kernel
theorem dX12_speaks_38 : decode cX12_speaks 38 = .ok (.imul, 1) := by decide +kernel
theorem dX12_speaks_39 : decode cX12_speaks 39 = .ok (.iload 4, 2) := by decide +kernel
theorem dX12_speaks_41 : decode cX12_speaks 41 = .ok (.iadd, 1) := by decide +kernel
theorem dX12_speaks_42 : decode cX12_speaks 42 = .ok (.iaload, 1) := by decide +kernel
theorem dX12_speaks_43 : decode cX12_speaks 43 = .ok (.istore 8, 2) := by decide +kernel
theorem dX12_speaks_45 : decode cX12_speaks 45 = .ok (.iload 7, 2) := by decide +kernel
theorem dX12_speaks_47 : decode cX12_speaks 47 = .ok (.iload_n 1, 1) := by decide +kernel
theorem dX12_speaks_48 : decode cX12_speaks 48 = .ok (.if_icmp .eq 26, 3) := by decide +kernel
theorem dX12_speaks_51 : decode cX12_speaks 51 = .ok (.iload 8, 2) := by decide +kernel
theorem dX12_speaks_53 : decode cX12_speaks 53 = .ok (.ifCond .lt 21, 3) := by decide +kernel
theorem dX12_speaks_56 : decode cX12_speaks 56 = .ok (.iload 8, 2) := by decide +kernel
theorem dX12_speaks_58 : decode cX12_speaks 58 = .ok (.iload_n 3, 1) := by decide +kernel
theorem dX12_speaks_59 : decode cX12_speaks 59 = .ok (.if_icmp .gt 15, 3) := by decide +kernel
theorem dX12_speaks_62 : decode cX12_speaks 62 = .ok (.iinc 5 1, 3) := by decide +kernel
theorem dX12_speaks_65 : decode cX12_speaks 65 = .ok (.iload 6, 2) := by decide +kernel
theorem dX12_speaks_67 : decode cX12_speaks 67 = .ok (.iload 8, 2) := by decide +kernel
theorem dX12_speaks_69 : decode cX12_speaks 69 = .ok (.invokestatic 395, 3) := by decide +kernel
theorem dX12_speaks_72 : decode cX12_speaks 72 = .ok (.istore 6, 2) := by decide +kernel
theorem dX12_speaks_74 : decode cX12_speaks 74 = .ok (.iinc 7 1, 3) := by decide +kernel
theorem dX12_speaks_77 : decode cX12_speaks 77 = .ok (.goto (-56), 3) := by decide +kernel
theorem dX12_speaks_80 : decode cX12_speaks 80 = .ok (.iconst 4, 1) := by decide +kernel
theorem dX12_speaks_81 : decode cX12_speaks 81 = .ok (.iload_n 1, 1) := by decide +kernel
theorem dX12_speaks_82 : decode cX12_speaks 82 = .ok (.imul, 1) := by decide +kernel
theorem dX12_speaks_83 : decode cX12_speaks 83 = .ok (.aload_n 0, 1) := by decide +kernel
theorem dX12_speaks_84 : decode cX12_speaks 84 = .ok (.getfield 333, 3) := by decide +kernel
theorem dX12_speaks_87 : decode cX12_speaks 87 = .ok (.iload_n 1, 1) := by decide +kernel
theorem dX12_speaks_88 : decode cX12_speaks 88 = .ok (.iaload, 1) := by decide +kernel
theorem dX12_speaks_89 : decode cX12_speaks 89 = .ok (.iadd, 1) := by decide +kernel
theorem dX12_speaks_90 : decode cX12_speaks 90 = .ok (.istore 7, 2) := by decide +kernel
theorem dX12_speaks_92 : decode cX12_speaks 92 = .ok (.aload_n 0, 1) := by decide +kernel
theorem dX12_speaks_93 : decode cX12_speaks 93 = .ok (.getfield 299, 3) := by decide +kernel
theorem dX12_speaks_96 : decode cX12_speaks 96 = .ok (.iconst 0, 1) := by decide +kernel
theorem dX12_speaks_97 : decode cX12_speaks 97 = .ok (.iload_n 2, 1) := by decide +kernel
theorem dX12_speaks_98 : decode cX12_speaks 98 = .ok (.iconst 1, 1) := by decide +kernel
theorem dX12_speaks_99 : decode cX12_speaks 99 = .ok (.iadd, 1) := by decide +kernel
theorem dX12_speaks_100 : decode cX12_speaks 100 = .ok (.iastore, 1) := by decide +kernel
theorem dX12_speaks_101 : decode cX12_speaks 101 = .ok (.aload_n 0, 1) := by decide +kernel
theorem dX12_speaks_102 : decode cX12_speaks 102 = .ok (.getfield 299, 3) := by decide +kernel
theorem dX12_speaks_105 : decode cX12_speaks 105 = .ok (.iconst 1, 1) := by decide +kernel
theorem dX12_speaks_106 : decode cX12_speaks 106 = .ok (.aload_n 0, 1) := by decide +kernel
theorem dX12_speaks_107 : decode cX12_speaks 107 = .ok (.getfield 10, 3) := by decide +kernel
theorem dX12_speaks_110 : decode cX12_speaks 110 = .ok (.iload_n 2, 1) := by decide +kernel
theorem dX12_speaks_111 : decode cX12_speaks 111 = .ok (.isub, 1) := by decide +kernel
theorem dX12_speaks_112 : decode cX12_speaks 112 = .ok (.iconst 1, 1) := by decide +kernel
theorem dX12_speaks_113 : decode cX12_speaks 113 = .ok (.isub, 1) := by decide +kernel
theorem dX12_speaks_114 : decode cX12_speaks 114 = .ok (.iastore, 1) := by decide +kernel
theorem dX12_speaks_115 : decode cX12_speaks 115 = .ok (.aload_n 0, 1) := by decide +kernel
theorem dX12_speaks_116 : decode cX12_speaks 116 = .ok (.getfield 299, 3) := by decide +kernel
theorem dX12_speaks_119 : decode cX12_speaks 119 = .ok (.iconst 2, 1) := by decide +kernel
theorem dX12_speaks_120 : decode cX12_speaks 120 = .ok (.iload 5, 2) := by decide +kernel
theorem dX12_speaks_122 : decode cX12_speaks 122 = .ok (.iastore, 1) := by decide +kernel
theorem dX12_speaks_123 : decode cX12_speaks 123 = .ok (.aload_n 0, 1) := by decide +kernel
theorem dX12_speaks_124 : decode cX12_speaks 124 = .ok (.getfield 299, 3) := by decide +kernel
theorem dX12_speaks_127 : decode cX12_speaks 127 = .ok (.iconst 3, 1) := by decide +kernel
theorem dX12_speaks_128 : decode cX12_speaks 128 = .ok (.iload 6, 2) := by decide +kernel
theorem dX12_speaks_130 : decode cX12_speaks 130 = .ok (.ifCond .ge 9, 3) := by decide +kernel
theorem dX12_speaks_133 : decode cX12_speaks 133 = .ok (.sipush 999, 3) := by decide +kernel
theorem dX12_speaks_136 : decode cX12_speaks 136 = .ok (.goto 10, 3) := by decide +kernel
theorem dX12_speaks_139 : decode cX12_speaks 139 = .ok (.iload_n 3, 1) := by decide +kernel
theorem dX12_speaks_140 : decode cX12_speaks 140 = .ok (.iload 6, 2) := by decide +kernel
theorem dX12_speaks_142 : decode cX12_speaks 142 = .ok (.isub, 1) := by decide +kernel
theorem dX12_speaks_143 : decode cX12_speaks 143 = .ok (.bipush 100, 2) := by decide +kernel
theorem dX12_speaks_145 : decode cX12_speaks 145 = .ok (.idiv, 1) := by decide +kernel
theorem dX12_speaks_146 : decode cX12_speaks 146 = .ok (.iastore, 1) := by decide +kernel
theorem dX12_speaks_147 : decode cX12_speaks 147 = .ok (.aload_n 0, 1) := by decide +kernel
theorem dX12_speaks_148 : decode cX12_speaks 148 = .ok (.getfield 299, 3) := by decide +kernel
theorem dX12_speaks_151 : decode cX12_speaks 151 = .ok (.iconst 4, 1) := by decide +kernel
theorem dX12_speaks_152 : decode cX12_speaks 152 = .ok (.aload_n 0, 1) := by decide +kernel
theorem dX12_speaks_153 : decode cX12_speaks 153 = .ok (.getfield 330, 3) := by decide +kernel
theorem dX12_speaks_156 : decode cX12_speaks 156 = .ok (.iload_n 1, 1) := by decide +kernel
theorem dX12_speaks_157 : decode cX12_speaks 157 = .ok (.iaload, 1) := by decide +kernel
theorem dX12_speaks_158 : decode cX12_speaks 158 = .ok (.iastore, 1) := by decide +kernel
theorem dX12_speaks_159 : decode cX12_speaks 159 = .ok (.aload_n 0, 1) := by decide +kernel
theorem dX12_speaks_160 : decode cX12_speaks 160 = .ok (.getfield 299, 3) := by decide +kernel
theorem dX12_speaks_163 : decode cX12_speaks 163 = .ok (.iconst 5, 1) := by decide +kernel
theorem dX12_speaks_164 : decode cX12_speaks 164 = .ok (.aload_n 0, 1) := by decide +kernel
theorem dX12_speaks_165 : decode cX12_speaks 165 = .ok (.getfield 121, 3) := by decide +kernel
theorem dX12_speaks_168 : decode cX12_speaks 168 = .ok (.iload_n 1, 1) := by decide +kernel
theorem dX12_speaks_169 : decode cX12_speaks 169 = .ok (.iaload, 1) := by decide +kernel
theorem dX12_speaks_170 : decode cX12_speaks 170 = .ok (.aload_n 0, 1) := by decide +kernel
theorem dX12_speaks_171 : decode cX12_speaks 171 = .ok (.getfield 7, 3) := by decide +kernel
theorem dX12_speaks_174 : decode cX12_speaks 174 = .ok (.aload_n 0, 1) := by decide +kernel
theorem dX12_speaks_175 : decode cX12_speaks 175 = .ok (.getfield 10, 3) := by decide +kernel
theorem dX12_speaks_178 : decode cX12_speaks 178 = .ok (.imul, 1) := by decide +kernel
theorem dX12_speaks_179 : decode cX12_speaks 179 = .ok (.iload 4, 2) := by decide +kernel
theorem dX12_speaks_181 : decode cX12_speaks 181 = .ok (.isub, 1) := by decide +kernel
theorem dX12_speaks_182 : decode cX12_speaks 182 = .ok (.iconst 1, 1) := by decide +kernel
theorem dX12_speaks_183 : decode cX12_speaks 183 = .ok (.isub, 1) := by decide +kernel
theorem dX12_speaks_184 : decode cX12_speaks 184 = .ok (.imul, 1) := by decide +kernel
theorem dX12_speaks_185 : decode cX12_speaks 185 = .ok (.iastore, 1) := by decide +kernel
theorem dX12_speaks_186 : decode cX12_speaks 186 = .ok (.aload_n 0, 1) := by decide +kernel
theorem dX12_speaks_187 : decode cX12_speaks 187 = .ok (.getfield 299, 3) := by decide +kernel
theorem dX12_speaks_190 : decode cX12_speaks 190 = .ok (.bipush 6, 2) := by decide +kernel
theorem dX12_speaks_192 : decode cX12_speaks 192 = .ok (.aload_n 0, 1) := by decide +kernel
theorem dX12_speaks_193 : decode cX12_speaks 193 = .ok (.getfield 360, 3) := by decide +kernel
theorem dX12_speaks_196 : decode cX12_speaks 196 = .ok (.iload 7, 2) := by decide +kernel
theorem dX12_speaks_198 : decode cX12_speaks 198 = .ok (.iaload, 1) := by decide +kernel
theorem dX12_speaks_199 : decode cX12_speaks 199 = .ok (.iastore, 1) := by decide +kernel
theorem dX12_speaks_200 : decode cX12_speaks 200 = .ok (.aload_n 0, 1) := by decide +kernel
theorem dX12_speaks_201 : decode cX12_speaks 201 = .ok (.getfield 299, 3) := by decide +kernel
theorem dX12_speaks_204 : decode cX12_speaks 204 = .ok (.bipush 7, 2) := by decide +kernel
theorem dX12_speaks_206 : decode cX12_speaks 206 = .ok (.aload_n 0, 1) := by decide +kernel
theorem dX12_speaks_207 : decode cX12_speaks 207 = .ok (.getfield 148, 3) := by decide +kernel
theorem dX12_speaks_210 : decode cX12_speaks 210 = .ok (.iload 7, 2) := by decide +kernel
theorem dX12_speaks_212 : decode cX12_speaks 212 = .ok (.iaload, 1) := by decide +kernel
theorem dX12_speaks_213 : decode cX12_speaks 213 = .ok (.iastore, 1) := by decide +kernel
theorem dX12_speaks_214 : decode cX12_speaks 214 = .ok (.aload_n 0, 1) := by decide +kernel
theorem dX12_speaks_215 : decode cX12_speaks 215 = .ok (.getfield 299, 3) := by decide +kernel
theorem dX12_speaks_218 : decode cX12_speaks 218 = .ok (.bipush 8, 2) := by decide +kernel
theorem dX12_speaks_220 : decode cX12_speaks 220 = .ok (.aload_n 0, 1) := by decide +kernel
theorem dX12_speaks_221 : decode cX12_speaks 221 = .ok (.iconst 0, 1) := by decide +kernel
theorem dX12_speaks_222 : decode cX12_speaks 222 = .ok (.iload_n 3, 1) := by decide +kernel
theorem dX12_speaks_223 : decode cX12_speaks 223 = .ok (.invokevirtual 389, 3) := by decide +kernel
theorem dX12_speaks_226 : decode cX12_speaks 226 = .ok (.iastore, 1) := by decide +kernel
theorem dX12_speaks_227 : decode cX12_speaks 227 = .ok (.aload_n 0, 1) := by decide +kernel
theorem dX12_speaks_228 : decode cX12_speaks 228 = .ok (.getfield 299, 3) := by decide +kernel
theorem dX12_speaks_231 : decode cX12_speaks 231 = .ok (.bipush 9, 2) := by decide +kernel
theorem dX12_speaks_233 : decode cX12_speaks 233 = .ok (.aload_n 0, 1) := by decide +kernel
theorem dX12_speaks_234 : decode cX12_speaks 234 = .ok (.iload_n 3, 1) := by decide +kernel
theorem dX12_speaks_235 : decode cX12_speaks 235 = .ok (.invokevirtual 411, 3) := by decide +kernel
theorem dX12_speaks_238 : decode cX12_speaks 238 = .ok (.invokestatic 292, 3) := by decide +kernel
theorem dX12_speaks_241 : decode cX12_speaks 241 = .ok (.iastore, 1) := by decide +kernel
theorem dX12_speaks_242 : decode cX12_speaks 242 = .ok (.aload_n 0, 1) := by decide +kernel
theorem dX12_speaks_243 : decode cX12_speaks 243 = .ok (.getfield 299, 3) := by decide +kernel
theorem dX12_speaks_246 : decode cX12_speaks 246 = .ok (.bipush 10, 2) := by decide +kernel
theorem dX12_speaks_248 : decode cX12_speaks 248 = .ok (.aload_n 0, 1) := by decide +kernel
theorem dX12_speaks_249 : decode cX12_speaks 249 = .ok (.iconst (-1), 1) := by decide +kernel
theorem dX12_speaks_250 : decode cX12_speaks 250 = .ok (.iload_n 3, 1) := by decide +kernel
theorem dX12_speaks_251 : decode cX12_speaks 251 = .ok (.invokevirtual 398, 3) := by decide +kernel
theorem dX12_speaks_254 : decode cX12_speaks 254 = .ok (.invokestatic 292, 3) := by decide +kernel
theorem dX12_speaks_257 : decode cX12_speaks 257 = .ok (.iastore, 1) := by decide +kernel
theorem dX12_speaks_258 : decode cX12_speaks 258 = .ok (.aload_n 0, 1) := by decide +kernel
theorem dX12_speaks_259 : decode cX12_speaks 259 = .ok (.getfield 299, 3) := by decide +kernel
theorem dX12_speaks_262 : decode cX12_speaks 262 = .ok (.bipush 11, 2) := by decide +kernel
theorem dX12_speaks_264 : decode cX12_speaks 264 = .ok (.aload_n 0, 1) := by decide +kernel
theorem dX12_speaks_265 : decode cX12_speaks 265 = .ok (.getfield 342, 3) := by decide +kernel
theorem dX12_speaks_268 : decode cX12_speaks 268 = .ok (.iload_n 1, 1) := by decide +kernel
theorem dX12_speaks_269 : decode cX12_speaks 269 = .ok (.iaload, 1) := by decide +kernel
theorem dX12_speaks_270 : decode cX12_speaks 270 = .ok (.iastore, 1) := by decide +kernel
theorem dX12_speaks_271 : decode cX12_speaks 271 = .ok (.aload_n 0, 1) := by decide +kernel
theorem dX12_speaks_272 : decode cX12_speaks 272 = .ok (.getfield 299, 3) := by decide +kernel
theorem dX12_speaks_275 : decode cX12_speaks 275 = .ok (.bipush 12, 2) := by decide +kernel
theorem dX12_speaks_277 : decode cX12_speaks 277 = .ok (.aload_n 0, 1) := by decide +kernel
theorem dX12_speaks_278 : decode cX12_speaks 278 = .ok (.getfield 315, 3) := by decide +kernel
theorem dX12_speaks_281 : decode cX12_speaks 281 = .ok (.aload_n 0, 1) := by decide +kernel
theorem dX12_speaks_282 : decode cX12_speaks 282 = .ok (.getfield 124, 3) := by decide +kernel
theorem dX12_speaks_285 : decode cX12_speaks 285 = .ok (.iload_n 1, 1) := by decide +kernel
theorem dX12_speaks_286 : decode cX12_speaks 286 = .ok (.iaload, 1) := by decide +kernel
theorem dX12_speaks_287 : decode cX12_speaks 287 = .ok (.iaload, 1) := by decide +kernel
theorem dX12_speaks_288 : decode cX12_speaks 288 = .ok (.iload_n 3, 1) := by decide +kernel
theorem dX12_speaks_289 : decode cX12_speaks 289 = .ok (.aload_n 0, 1) := by decide +kernel
theorem dX12_speaks_290 : decode cX12_speaks 290 = .ok (.getfield 83, 3) := by decide +kernel
theorem dX12_speaks_293 : decode cX12_speaks 293 = .ok (.iconst 3, 1) := by decide +kernel
theorem dX12_speaks_294 : decode cX12_speaks 294 = .ok (.iaload, 1) := by decide +kernel
theorem dX12_speaks_295 : decode cX12_speaks 295 = .ok (.iadd, 1) := by decide +kernel
theorem dX12_speaks_296 : decode cX12_speaks 296 = .ok (.if_icmp .gt 7, 3) := by decide +kernel
theorem dX12_speaks_299 : decode cX12_speaks 299 = .ok (.iconst 1, 1) := by decide +kernel
theorem dX12_speaks_300 : decode cX12_speaks 300 = .ok (.goto 4, 3) := by decide +kernel
theorem dX12_speaks_303 : decode cX12_speaks 303 = .ok (.iconst 0, 1) := by decide +kernel
theorem dX12_speaks_304 : decode cX12_speaks 304 = .ok (.invokestatic 292, 3) := by decide +kernel
theorem dX12_speaks_307 : decode cX12_speaks 307 = .ok (.iastore, 1) := by decide +kernel
theorem dX12_speaks_308 : decode cX12_speaks 308 = .ok (.return_, 1) := by decide +kernel
theorem dX12_of_0 : decode cX12_of 0 = .ok (.aload_n 0, 1) := by decide +kernel
theorem dX12_of_1 : decode cX12_of 1 = .ok (.iconst 0, 1) := by decide +kernel
theorem dX12_of_2 : decode cX12_of 2 = .ok (.putfield 3, 3) := by decide +kernel
theorem dX12_of_5 : decode cX12_of 5 = .ok (.aload_n 0, 1) := by decide +kernel
theorem dX12_of_6 : decode cX12_of 6 = .ok (.iload_n 1, 1) := by decide +kernel
theorem dX12_of_7 : decode cX12_of 7 = .ok (.invokevirtual 145, 3) := by decide +kernel
theorem dX12_of_10 : decode cX12_of 10 = .ok (.ifCond .eq 15, 3) := by decide +kernel
theorem dX12_of_13 : decode cX12_of 13 = .ok (.iload_n 2, 1) := by decide +kernel
theorem dX12_of_14 : decode cX12_of 14 = .ok (.i2l, 1) := by decide +kernel
theorem dX12_of_15 : decode cX12_of 15 = .ok (.lconst 0, 1) := by decide +kernel
theorem dX12_of_16 : decode cX12_of 16 = .ok (.ldc2_w 444, 3) := by decide +kernel
theorem dX12_of_19 : decode cX12_of 19 = .ok (.invokestatic 42, 3) := by decide +kernel
theorem dX12_of_22 : decode cX12_of 22 = .ok (.ifCond .ne 8, 3) := by decide +kernel
theorem dX12_of_25 : decode cX12_of 25 = .ok (.aload_n 0, 1) := by decide +kernel
theorem dX12_of_26 : decode cX12_of 26 = .ok (.invokevirtual 446, 3) := by decide +kernel
theorem dX12_of_29 : decode cX12_of 29 = .ok (.ireturn, 1) := by decide +kernel
theorem dX12_of_30 : decode cX12_of 30 = .ok (.aload_n 0, 1) := by decide +kernel
theorem dX12_of_31 : decode cX12_of 31 = .ok (.invokevirtual 449, 3) := by decide +kernel
theorem dX12_of_34 : decode cX12_of 34 = .ok (.iload_n 2, 1) := by decide +kernel
theorem dX12_of_35 : decode cX12_of 35 = .ok (.tableswitch 148 0 9 #[53, 60, 67, 74, 81, 91, 98, 105, 112, 141], 53) := by decide +kernel
theorem dX12_of_88 : decode cX12_of 88 = .ok (.aload_n 0, 1) := by decide +kernel
theorem dX12_of_89 : decode cX12_of 89 = .ok (.getfield 309, 3) := by decide +kernel
theorem dX12_of_92 : decode cX12_of 92 = .ok (.iload_n 1, 1) := by decide +kernel
theorem dX12_of_93 : decode cX12_of 93 = .ok (.iaload, 1) := by decide +kernel
theorem dX12_of_94 : decode cX12_of 94 = .ok (.ireturn, 1) := by decide +kernel
theorem dX12_of_95 : decode cX12_of 95 = .ok (.aload_n 0, 1) := by decide +kernel
theorem dX12_of_96 : decode cX12_of 96 = .ok (.getfield 321, 3) := by decide +kernel
theorem dX12_of_99 : decode cX12_of 99 = .ok (.iload_n 1, 1) := by decide +kernel
theorem dX12_of_100 : decode cX12_of 100 = .ok (.iaload, 1) := by decide +kernel
theorem dX12_of_101 : decode cX12_of 101 = .ok (.ireturn, 1) := by decide +kernel
theorem dX12_of_102 : decode cX12_of 102 = .ok (.aload_n 0, 1) := by decide +kernel
theorem dX12_of_103 : decode cX12_of 103 = .ok (.getfield 327, 3) := by decide +kernel
theorem dX12_of_106 : decode cX12_of 106 = .ok (.iload_n 1, 1) := by decide +kernel
theorem dX12_of_107 : decode cX12_of 107 = .ok (.iaload, 1) := by decide +kernel
theorem dX12_of_108 : decode cX12_of 108 = .ok (.ireturn, 1) := by decide +kernel
theorem dX12_of_109 : decode cX12_of 109 = .ok (.aload_n 0, 1) := by decide +kernel
theorem dX12_of_110 : decode cX12_of 110 = .ok (.getfield 342, 3) := by decide +kernel
theorem dX12_of_113 : decode cX12_of 113 = .ok (.iload_n 1, 1) := by decide +kernel
theorem dX12_of_114 : decode cX12_of 114 = .ok (.iaload, 1) := by decide +kernel
theorem dX12_of_115 : decode cX12_of 115 = .ok (.ireturn, 1) := by decide +kernel
theorem dX12_of_116 : decode cX12_of 116 = .ok (.aload_n 0, 1) := by decide +kernel
theorem dX12_of_117 : decode cX12_of 117 = .ok (.getfield 345, 3) := by decide +kernel
theorem dX12_of_120 : decode cX12_of 120 = .ok (.iload_n 1, 1) := by decide +kernel
theorem dX12_of_121 : decode cX12_of 121 = .ok (.iaload, 1) := by decide +kernel
theorem dX12_of_122 : decode cX12_of 122 = .ok (.invokestatic 452, 3) := by decide +kernel
theorem dX12_of_125 : decode cX12_of 125 = .ok (.ireturn, 1) := by decide +kernel
theorem dX12_of_126 : decode cX12_of 126 = .ok (.aload_n 0, 1) := by decide +kernel
theorem dX12_of_127 : decode cX12_of 127 = .ok (.getfield 348, 3) := by decide +kernel
theorem dX12_of_130 : decode cX12_of 130 = .ok (.iload_n 1, 1) := by decide +kernel
theorem dX12_of_131 : decode cX12_of 131 = .ok (.iaload, 1) := by decide +kernel
theorem dX12_of_132 : decode cX12_of 132 = .ok (.ireturn, 1) := by decide +kernel
theorem dX12_of_133 : decode cX12_of 133 = .ok (.aload_n 0, 1) := by decide +kernel
theorem dX12_of_134 : decode cX12_of 134 = .ok (.getfield 330, 3) := by decide +kernel
theorem dX12_of_137 : decode cX12_of 137 = .ok (.iload_n 1, 1) := by decide +kernel
theorem dX12_of_138 : decode cX12_of 138 = .ok (.iaload, 1) := by decide +kernel
theorem dX12_of_139 : decode cX12_of 139 = .ok (.ireturn, 1) := by decide +kernel
theorem dX12_of_140 : decode cX12_of 140 = .ok (.aload_n 0, 1) := by decide +kernel
theorem dX12_of_141 : decode cX12_of 141 = .ok (.getfield 333, 3) := by decide +kernel
theorem dX12_of_144 : decode cX12_of 144 = .ok (.iload_n 1, 1) := by decide +kernel
theorem dX12_of_145 : decode cX12_of 145 = .ok (.iaload, 1) := by decide +kernel
theorem dX12_of_146 : decode cX12_of 146 = .ok (.ireturn, 1) := by decide +kernel
theorem dX12_of_147 : decode cX12_of 147 = .ok (.aload_n 0, 1) := by decide +kernel
theorem dX12_of_148 : decode cX12_of 148 = .ok (.getfield 333, 3) := by decide +kernel
theorem dX12_of_151 : decode cX12_of 151 = .ok (.iload_n 1, 1) := by decide +kernel
theorem dX12_of_152 : decode cX12_of 152 = .ok (.iaload, 1) := by decide +kernel
theorem dX12_of_153 : decode cX12_of 153 = .ok (.ifCond .ge 7, 3) := by decide +kernel
theorem dX12_of_156 : decode cX12_of 156 = .ok (.iconst (-1), 1) := by decide +kernel
theorem dX12_of_157 : decode cX12_of 157 = .ok (.goto 18, 3) := by decide +kernel
theorem dX12_of_160 : decode cX12_of 160 = .ok (.aload_n 0, 1) := by decide +kernel
theorem dX12_of_161 : decode cX12_of 161 = .ok (.getfield 360, 3) := by decide +kernel
theorem dX12_of_164 : decode cX12_of 164 = .ok (.iconst 4, 1) := by decide +kernel
theorem dX12_of_165 : decode cX12_of 165 = .ok (.iload_n 1, 1) := by decide +kernel
theorem dX12_of_166 : decode cX12_of 166 = .ok (.imul, 1) := by decide +kernel
theorem dX12_of_167 : decode cX12_of 167 = .ok (.aload_n 0, 1) := by decide +kernel
theorem dX12_of_168 : decode cX12_of 168 = .ok (.getfield 333, 3) := by decide +kernel
theorem dX12_of_171 : decode cX12_of 171 = .ok (.iload_n 1, 1) := by decide +kernel
theorem dX12_of_172 : decode cX12_of 172 = .ok (.iaload, 1) := by decide +kernel
theorem dX12_of_173 : decode cX12_of 173 = .ok (.iadd, 1) := by decide +kernel
theorem dX12_of_174 : decode cX12_of 174 = .ok (.iaload, 1) := by decide +kernel
theorem dX12_of_175 : decode cX12_of 175 = .ok (.ireturn, 1) := by decide +kernel
theorem dX12_of_176 : decode cX12_of 176 = .ok (.aload_n 0, 1) := by decide +kernel
theorem dX12_of_177 : decode cX12_of 177 = .ok (.getfield 351, 3) := by decide +kernel
theorem dX12_of_180 : decode cX12_of 180 = .ok (.iload_n 1, 1) := by decide +kernel
theorem dX12_of_181 : decode cX12_of 181 = .ok (.iaload, 1) := by decide +kernel
theorem dX12_of_182 : decode cX12_of 182 = .ok (.ireturn, 1) := by decide +kernel
theorem dX12_of_183 : decode cX12_of 183 = .ok (.aload_n 0, 1) := by decide +kernel
theorem dX12_of_184 : decode cX12_of 184 = .ok (.getfield 354, 3) := by decide +kernel
theorem dX12_of_187 : decode cX12_of 187 = .ok (.iload_n 1, 1) := by decide +kernel
theorem dX12_of_188 : decode cX12_of 188 = .ok (.iaload, 1) := by decide +kernel
theorem dX12_of_189 : decode cX12_of 189 = .ok (.ireturn, 1) := by decide +kernel
theorem dX12_at_0 : decode cX12_at 0 = .ok (.aload_n 0, 1) := by decide +kernel
theorem dX12_at_1 : decode cX12_at 1 = .ok (.iconst 0, 1) := by decide +kernel
theorem dX12_at_2 : decode cX12_at 2 = .ok (.putfield 3, 3) := by decide +kernel
theorem dX12_at_5 : decode cX12_at 5 = .ok (.aload_n 0, 1) := by decide +kernel
theorem dX12_at_6 : decode cX12_at 6 = .ok (.iload_n 1, 1) := by decide +kernel
theorem dX12_at_7 : decode cX12_at 7 = .ok (.invokevirtual 145, 3) := by decide +kernel
theorem dX12_at_10 : decode cX12_at 10 = .ok (.ifCond .eq 19, 3) := by decide +kernel
theorem dX12_at_13 : decode cX12_at 13 = .ok (.aload_n 0, 1) := by decide +kernel
theorem dX12_at_14 : decode cX12_at 14 = .ok (.iload_n 2, 1) := by decide +kernel
theorem dX12_at_15 : decode cX12_at 15 = .ok (.invokevirtual 154, 3) := by decide +kernel
theorem dX12_at_18 : decode cX12_at 18 = .ok (.ifCond .eq 11, 3) := by decide +kernel
theorem dX12_at_21 : decode cX12_at 21 = .ok (.aload_n 0, 1) := by decide +kernel
theorem dX12_at_22 : decode cX12_at 22 = .ok (.iload_n 3, 1) := by decide +kernel
theorem dX12_at_23 : decode cX12_at 23 = .ok (.invokevirtual 56, 3) := by decide +kernel
theorem dX12_at_26 : decode cX12_at 26 = .ok (.ifCond .ne 5, 3) := by decide +kernel
theorem dX12_at_29 : decode cX12_at 29 = .ok (.iconst (-1), 1) := by decide +kernel
theorem dX12_at_30 : decode cX12_at 30 = .ok (.ireturn, 1) := by decide +kernel
theorem dX12_at_31 : decode cX12_at 31 = .ok (.aload_n 0, 1) := by decide +kernel
theorem dX12_at_32 : decode cX12_at 32 = .ok (.invokevirtual 449, 3) := by decide +kernel
theorem dX12_at_35 : decode cX12_at 35 = .ok (.aload_n 0, 1) := by decide +kernel
theorem dX12_at_36 : decode cX12_at 36 = .ok (.getfield 363, 3) := by decide +kernel
theorem dX12_at_39 : decode cX12_at 39 = .ok (.bipush 60, 2) := by decide +kernel
theorem dX12_at_41 : decode cX12_at 41 = .ok (.iload_n 1, 1) := by decide +kernel
theorem dX12_at_42 : decode cX12_at 42 = .ok (.imul, 1) := by decide +kernel
theorem dX12_at_43 : decode cX12_at 43 = .ok (.aload_n 0, 1) := by decide +kernel
theorem dX12_at_44 : decode cX12_at 44 = .ok (.getfield 7, 3) := by decide +kernel
theorem dX12_at_47 : decode cX12_at 47 = .ok (.iload_n 2, 1) := by decide +kernel
theorem dX12_at_48 : decode cX12_at 48 = .ok (.imul, 1) := by decide +kernel
theorem dX12_at_49 : decode cX12_at 49 = .ok (.iadd, 1) := by decide +kernel
theorem dX12_at_50 : decode cX12_at 50 = .ok (.iload_n 3, 1) := by decide +kernel
theorem dX12_at_51 : decode cX12_at 51 = .ok (.iadd, 1) := by decide +kernel
theorem dX12_at_52 : decode cX12_at 52 = .ok (.iaload, 1) := by decide +kernel
theorem dX12_at_53 : decode cX12_at 53 = .ok (.ireturn, 1) := by decide +kernel
theorem dX12_ledBy_0 : decode cX12_ledBy 0 = .ok (.aload_n 0, 1) := by decide +kernel
theorem dX12_ledBy_1 : decode cX12_ledBy 1 = .ok (.getfield 7, 3) := by decide +kernel
theorem dX12_ledBy_4 : decode cX12_ledBy 4 = .ok (.iload_n 1, 1) := by decide +kernel
theorem dX12_ledBy_5 : decode cX12_ledBy 5 = .ok (.iconst 1, 1) := by decide +kernel
theorem dX12_ledBy_6 : decode cX12_ledBy 6 = .ok (.iadd, 1) := by decide +kernel
theorem dX12_ledBy_7 : decode cX12_ledBy 7 = .ok (.imul, 1) := by decide +kernel
theorem dX12_ledBy_8 : decode cX12_ledBy 8 = .ok (.iconst 1, 1) := by decide +kernel
theorem dX12_ledBy_9 : decode cX12_ledBy 9 = .ok (.isub, 1) := by decide +kernel
theorem dX12_ledBy_10 : decode cX12_ledBy 10 = .ok (.istore_n 3, 1) := by decide +kernel
theorem dX12_ledBy_11 : decode cX12_ledBy 11 = .ok (.iconst 0, 1) := by decide +kernel
theorem dX12_ledBy_12 : decode cX12_ledBy 12 = .ok (.istore 4, 2) := by decide +kernel
theorem dX12_ledBy_14 : decode cX12_ledBy 14 = .ok (.iload 4, 2) := by decide +kernel
theorem dX12_ledBy_16 : decode cX12_ledBy 16 = .ok (.aload_n 0, 1) := by decide +kernel
theorem dX12_ledBy_17 : decode cX12_ledBy 17 = .ok (.getfield 30, 3) := by decide +kernel
theorem dX12_ledBy_20 : decode cX12_ledBy 20 = .ok (.if_icmp .ge 108, 3) := by decide +kernel
theorem dX12_ledBy_23 : decode cX12_ledBy 23 = .ok (.aload_n 0, 1) := by decide +kernel
theorem dX12_ledBy_24 : decode cX12_ledBy 24 = .ok (.getfield 363, 3) := by decide +kernel
theorem dX12_ledBy_27 : decode cX12_ledBy 27 = .ok (.bipush 60, 2) := by decide +kernel
theorem dX12_ledBy_29 : decode cX12_ledBy 29 = .ok (.iload 4, 2) := by decide +kernel
theorem dX12_ledBy_31 : decode cX12_ledBy 31 = .ok (.imul, 1) := by decide +kernel
theorem dX12_ledBy_32 : decode cX12_ledBy 32 = .ok (.iload_n 3, 1) := by decide +kernel
theorem dX12_ledBy_33 : decode cX12_ledBy 33 = .ok (.iadd, 1) := by decide +kernel
theorem dX12_ledBy_34 : decode cX12_ledBy 34 = .ok (.iaload, 1) := by decide +kernel
theorem dX12_ledBy_35 : decode cX12_ledBy 35 = .ok (.istore 5, 2) := by decide +kernel
theorem dX12_ledBy_37 : decode cX12_ledBy 37 = .ok (.iconst 0, 1) := by decide +kernel
theorem dX12_ledBy_38 : decode cX12_ledBy 38 = .ok (.istore 6, 2) := by decide +kernel
theorem dX12_ledBy_40 : decode cX12_ledBy 40 = .ok (.iconst 0, 1) := by decide +kernel
theorem dX12_ledBy_41 : decode cX12_ledBy 41 = .ok (.istore 7, 2) := by decide +kernel
theorem dX12_ledBy_43 : decode cX12_ledBy 43 = .ok (.iload 7, 2) := by decide +kernel
theorem dX12_ledBy_45 : decode cX12_ledBy 45 = .ok (.aload_n 0, 1) := by decide +kernel
theorem dX12_ledBy_46 : decode cX12_ledBy 46 = .ok (.getfield 30, 3) := by decide +kernel
theorem dX12_ledBy_49 : decode cX12_ledBy 49 = .ok (.if_icmp .ge 59, 3) := by decide +kernel
theorem dX12_ledBy_52 : decode cX12_ledBy 52 = .ok (.aload_n 0, 1) := by decide +kernel
theorem dX12_ledBy_53 : decode cX12_ledBy 53 = .ok (.getfield 363, 3) := by decide +kernel
theorem dX12_ledBy_56 : decode cX12_ledBy 56 = .ok (.bipush 60, 2) := by decide +kernel
theorem dX12_ledBy_58 : decode cX12_ledBy 58 = .ok (.iload 7, 2) := by decide +kernel
theorem dX12_ledBy_60 : decode cX12_ledBy 60 = .ok (.imul, 1) := by decide +kernel
theorem dX12_ledBy_61 : decode cX12_ledBy 61 = .ok (.iload_n 3, 1) := by decide +kernel
theorem dX12_ledBy_62 : decode cX12_ledBy 62 = .ok (.iadd, 1) := by decide +kernel
theorem dX12_ledBy_63 : decode cX12_ledBy 63 = .ok (.iaload, 1) := by decide +kernel
theorem dX12_ledBy_64 : decode cX12_ledBy 64 = .ok (.istore 8, 2) := by decide +kernel
theorem dX12_ledBy_66 : decode cX12_ledBy 66 = .ok (.iload 6, 2) := by decide +kernel
theorem dX12_ledBy_68 : decode cX12_ledBy 68 = .ok (.iload 8, 2) := by decide +kernel
theorem dX12_ledBy_70 : decode cX12_ledBy 70 = .ok (.ifCond .lt 28, 3) := by decide +kernel
theorem dX12_ledBy_73 : decode cX12_ledBy 73 = .ok (.iload 8, 2) := by decide +kernel
theorem dX12_ledBy_75 : decode cX12_ledBy 75 = .ok (.iload 5, 2) := by decide +kernel
theorem dX12_ledBy_77 : decode cX12_ledBy 77 = .ok (.if_icmp .lt 17, 3) := by decide +kernel
theorem dX12_ledBy_80 : decode cX12_ledBy 80 = .ok (.iload 8, 2) := by decide +kernel
theorem dX12_ledBy_82 : decode cX12_ledBy 82 = .ok (.iload 5, 2) := by decide +kernel
theorem dX12_ledBy_84 : decode cX12_ledBy 84 = .ok (.if_icmp .ne 14, 3) := by decide +kernel
theorem dX12_ledBy_87 : decode cX12_ledBy 87 = .ok (.iload 7, 2) := by decide +kernel
theorem dX12_ledBy_89 : decode cX12_ledBy 89 = .ok (.iload 4, 2) := by decide +kernel
theorem dX12_ledBy_91 : decode cX12_ledBy 91 = .ok (.if_icmp .ge 7, 3) := by decide +kernel
theorem dX12_ledBy_94 : decode cX12_ledBy 94 = .ok (.iconst 1, 1) := by decide +kernel
theorem dX12_ledBy_95 : decode cX12_ledBy 95 = .ok (.goto 4, 3) := by decide +kernel
theorem dX12_ledBy_98 : decode cX12_ledBy 98 = .ok (.iconst 0, 1) := by decide +kernel
theorem dX12_ledBy_99 : decode cX12_ledBy 99 = .ok (.iadd, 1) := by decide +kernel
theorem dX12_ledBy_100 : decode cX12_ledBy 100 = .ok (.istore 6, 2) := by decide +kernel
theorem dX12_ledBy_102 : decode cX12_ledBy 102 = .ok (.iinc 7 1, 3) := by decide +kernel
theorem dX12_ledBy_105 : decode cX12_ledBy 105 = .ok (.goto (-62), 3) := by decide +kernel
theorem dX12_ledBy_108 : decode cX12_ledBy 108 = .ok (.iload 5, 2) := by decide +kernel
theorem dX12_ledBy_110 : decode cX12_ledBy 110 = .ok (.ifCond .lt 12, 3) := by decide +kernel
theorem dX12_ledBy_113 : decode cX12_ledBy 113 = .ok (.iload 6, 2) := by decide +kernel
theorem dX12_ledBy_115 : decode cX12_ledBy 115 = .ok (.iload_n 2, 1) := by decide +kernel
theorem dX12_ledBy_116 : decode cX12_ledBy 116 = .ok (.if_icmp .ne 6, 3) := by decide +kernel
theorem dX12_ledBy_119 : decode cX12_ledBy 119 = .ok (.iload 4, 2) := by decide +kernel
theorem dX12_ledBy_121 : decode cX12_ledBy 121 = .ok (.ireturn, 1) := by decide +kernel
theorem dX12_ledBy_122 : decode cX12_ledBy 122 = .ok (.iinc 4 1, 3) := by decide +kernel
theorem dX12_ledBy_125 : decode cX12_ledBy 125 = .ok (.goto (-111), 3) := by decide +kernel
theorem dX12_ledBy_128 : decode cX12_ledBy 128 = .ok (.iconst (-1), 1) := by decide +kernel
theorem dX12_ledBy_129 : decode cX12_ledBy 129 = .ok (.ireturn, 1) := by decide +kernel
theorem dX12_led_0 : decode cX12_led 0 = .ok (.aload_n 0, 1) := by decide +kernel
theorem dX12_led_1 : decode cX12_led 1 = .ok (.iconst 0, 1) := by decide +kernel
theorem dX12_led_2 : decode cX12_led 2 = .ok (.putfield 3, 3) := by decide +kernel
theorem dX12_led_5 : decode cX12_led 5 = .ok (.aload_n 0, 1) := by decide +kernel
theorem dX12_led_6 : decode cX12_led 6 = .ok (.iload_n 1, 1) := by decide +kernel
theorem dX12_led_7 : decode cX12_led 7 = .ok (.invokevirtual 154, 3) := by decide +kernel
theorem dX12_led_10 : decode cX12_led 10 = .ok (.ifCond .eq 7, 3) := by decide +kernel
theorem dX12_led_13 : decode cX12_led 13 = .ok (.iload_n 2, 1) := by decide +kernel
theorem dX12_led_14 : decode cX12_led 14 = .ok (.ifCond .ge 5, 3) := by decide +kernel
theorem dX12_led_17 : decode cX12_led 17 = .ok (.iconst (-1), 1) := by decide +kernel
theorem dX12_led_18 : decode cX12_led 18 = .ok (.ireturn, 1) := by decide +kernel
theorem dX12_led_19 : decode cX12_led 19 = .ok (.aload_n 0, 1) := by decide +kernel
theorem dX12_led_20 : decode cX12_led 20 = .ok (.invokevirtual 449, 3) := by decide +kernel
theorem dX12_led_23 : decode cX12_led 23 = .ok (.aload_n 0, 1) := by decide +kernel
theorem dX12_led_24 : decode cX12_led 24 = .ok (.iload_n 1, 1) := by decide +kernel
theorem dX12_led_25 : decode cX12_led 25 = .ok (.iload_n 2, 1) := by decide +kernel
theorem dX12_led_26 : decode cX12_led 26 = .ok (.invokevirtual 457, 3) := by decide +kernel
theorem dX12_led_29 : decode cX12_led 29 = .ok (.ireturn, 1) := by decide +kernel
theorem dX12_waited_0 : decode cX12_waited 0 = .ok (.aload_n 0, 1) := by decide +kernel
theorem dX12_waited_1 : decode cX12_waited 1 = .ok (.iconst 0, 1) := by decide +kernel
theorem dX12_waited_2 : decode cX12_waited 2 = .ok (.putfield 3, 3) := by decide +kernel
theorem dX12_waited_5 : decode cX12_waited 5 = .ok (.aload_n 0, 1) := by decide +kernel
theorem dX12_waited_6 : decode cX12_waited 6 = .ok (.iload_n 1, 1) := by decide +kernel
theorem dX12_waited_7 : decode cX12_waited 7 = .ok (.invokevirtual 145, 3) := by decide +kernel
theorem dX12_waited_10 : decode cX12_waited 10 = .ok (.ifCond .ne 5, 3) := by decide +kernel
theorem dX12_waited_13 : decode cX12_waited 13 = .ok (.iconst (-1), 1) := by decide +kernel
theorem dX12_waited_14 : decode cX12_waited 14 = .ok (.ireturn, 1) := by decide +kernel
theorem dX12_waited_15 : decode cX12_waited 15 = .ok (.aload_n 0, 1) := by decide +kernel
theorem dX12_waited_16 : decode cX12_waited 16 = .ok (.invokevirtual 449, 3) := by decide +kernel
theorem dX12_waited_19 : decode cX12_waited 19 = .ok (.aload_n 0, 1) := by decide +kernel
theorem dX12_waited_20 : decode cX12_waited 20 = .ok (.getfield 357, 3) := by decide +kernel
theorem dX12_waited_23 : decode cX12_waited 23 = .ok (.iload_n 1, 1) := by decide +kernel
theorem dX12_waited_24 : decode cX12_waited 24 = .ok (.iaload, 1) := by decide +kernel
theorem dX12_waited_25 : decode cX12_waited 25 = .ok (.ireturn, 1) := by decide +kernel
theorem dX12_leads_0 : decode cX12_leads 0 = .ok (.aload_n 0, 1) := by decide +kernel
theorem dX12_leads_1 : decode cX12_leads 1 = .ok (.iconst 0, 1) := by decide +kernel
theorem dX12_leads_2 : decode cX12_leads 2 = .ok (.putfield 3, 3) := by decide +kernel
theorem dX12_leads_5 : decode cX12_leads 5 = .ok (.aload_n 0, 1) := by decide +kernel
theorem dX12_leads_6 : decode cX12_leads 6 = .ok (.invokevirtual 449, 3) := by decide +kernel
theorem dX12_leads_9 : decode cX12_leads 9 = .ok (.iconst 0, 1) := by decide +kernel
theorem dX12_leads_10 : decode cX12_leads 10 = .ok (.istore_n 1, 1) := by decide +kernel
theorem dX12_leads_11 : decode cX12_leads 11 = .ok (.iconst 1, 1) := by decide +kernel
theorem dX12_leads_12 : decode cX12_leads 12 = .ok (.istore_n 2, 1) := by decide +kernel
theorem dX12_leads_13 : decode cX12_leads 13 = .ok (.iload_n 2, 1) := by decide +kernel
theorem dX12_leads_14 : decode cX12_leads 14 = .ok (.aload_n 0, 1) := by decide +kernel
theorem dX12_leads_15 : decode cX12_leads 15 = .ok (.getfield 10, 3) := by decide +kernel
theorem dX12_leads_18 : decode cX12_leads 18 = .ok (.if_icmp .ge 43, 3) := by decide +kernel
theorem dX12_leads_21 : decode cX12_leads 21 = .ok (.iload_n 1, 1) := by decide +kernel
theorem dX12_leads_22 : decode cX12_leads 22 = .ok (.aload_n 0, 1) := by decide +kernel
theorem dX12_leads_23 : decode cX12_leads 23 = .ok (.iload_n 2, 1) := by decide +kernel
theorem dX12_leads_24 : decode cX12_leads 24 = .ok (.iconst 0, 1) := by decide +kernel
theorem dX12_leads_25 : decode cX12_leads 25 = .ok (.invokevirtual 457, 3) := by decide +kernel
theorem dX12_leads_28 : decode cX12_leads 28 = .ok (.ifCond .lt 24, 3) := by decide +kernel
theorem dX12_leads_31 : decode cX12_leads 31 = .ok (.aload_n 0, 1) := by decide +kernel
theorem dX12_leads_32 : decode cX12_leads 32 = .ok (.iload_n 2, 1) := by decide +kernel
theorem dX12_leads_33 : decode cX12_leads 33 = .ok (.iconst 0, 1) := by decide +kernel
theorem dX12_leads_34 : decode cX12_leads 34 = .ok (.invokevirtual 457, 3) := by decide +kernel
theorem dX12_leads_37 : decode cX12_leads 37 = .ok (.aload_n 0, 1) := by decide +kernel
theorem dX12_leads_38 : decode cX12_leads 38 = .ok (.iload_n 2, 1) := by decide +kernel
theorem dX12_leads_39 : decode cX12_leads 39 = .ok (.iconst 1, 1) := by decide +kernel
theorem dX12_leads_40 : decode cX12_leads 40 = .ok (.isub, 1) := by decide +kernel
theorem dX12_leads_41 : decode cX12_leads 41 = .ok (.iconst 0, 1) := by decide +kernel
theorem dX12_leads_42 : decode cX12_leads 42 = .ok (.invokevirtual 457, 3) := by decide +kernel
theorem dX12_leads_45 : decode cX12_leads 45 = .ok (.if_icmp .eq 7, 3) := by decide +kernel
theorem dX12_leads_48 : decode cX12_leads 48 = .ok (.iconst 1, 1) := by decide +kernel
theorem dX12_leads_49 : decode cX12_leads 49 = .ok (.goto 4, 3) := by decide +kernel
theorem dX12_leads_52 : decode cX12_leads 52 = .ok (.iconst 0, 1) := by decide +kernel
theorem dX12_leads_53 : decode cX12_leads 53 = .ok (.iadd, 1) := by decide +kernel
theorem dX12_leads_54 : decode cX12_leads 54 = .ok (.istore_n 1, 1) := by decide +kernel
theorem dX12_leads_55 : decode cX12_leads 55 = .ok (.iinc 2 1, 3) := by decide +kernel
theorem dX12_leads_58 : decode cX12_leads 58 = .ok (.goto (-45), 3) := by decide +kernel
theorem dX12_leads_61 : decode cX12_leads 61 = .ok (.iload_n 1, 1) := by decide +kernel
theorem dX12_leads_62 : decode cX12_leads 62 = .ok (.ireturn, 1) := by decide +kernel
theorem dX12_isDay_0 : decode cX12_isDay 0 = .ok (.iload_n 0, 1) := by decide +kernel
theorem dX12_isDay_1 : decode cX12_isDay 1 = .ok (.i2l, 1) := by decide +kernel
theorem dX12_isDay_2 : decode cX12_isDay 2 = .ok (.lconst 0, 1) := by decide +kernel
theorem dX12_isDay_3 : decode cX12_isDay 3 = .ok (.ldc2_w 460, 3) := by decide +kernel
theorem dX12_isDay_6 : decode cX12_isDay 6 = .ok (.invokestatic 42, 3) := by decide +kernel
theorem dX12_isDay_9 : decode cX12_isDay 9 = .ok (.ireturn, 1) := by decide +kernel
theorem dX12_rule_0 : decode cX12_rule 0 = .ok (.aload_n 0, 1) := by decide +kernel
theorem dX12_rule_1 : decode cX12_rule 1 = .ok (.iconst 0, 1) := by decide +kernel
theorem dX12_rule_2 : decode cX12_rule 2 = .ok (.putfield 3, 3) := by decide +kernel
theorem dX12_rule_5 : decode cX12_rule 5 = .ok (.iload_n 1, 1) := by decide +kernel
theorem dX12_rule_6 : decode cX12_rule 6 = .ok (.invokestatic 462, 3) := by decide +kernel
theorem dX12_rule_9 : decode cX12_rule 9 = .ok (.ifCond .eq 12, 3) := by decide +kernel
theorem dX12_rule_12 : decode cX12_rule 12 = .ok (.aload_n 0, 1) := by decide +kernel
theorem dX12_rule_13 : decode cX12_rule 13 = .ok (.getfield 33, 3) := by decide +kernel
theorem dX12_rule_16 : decode cX12_rule 16 = .ok (.bipush 10, 2) := by decide +kernel
theorem dX12_rule_18 : decode cX12_rule 18 = .ok (.if_icmp .ne 11, 3) := by decide +kernel
theorem dX12_rule_21 : decode cX12_rule 21 = .ok (.aload_n 0, 1) := by decide +kernel
theorem dX12_rule_22 : decode cX12_rule 22 = .ok (.iconst 0, 1) := by decide +kernel
theorem dX12_rule_23 : decode cX12_rule 23 = .ok (.putfield 188, 3) := by decide +kernel
theorem dX12_rule_26 : decode cX12_rule 26 = .ok (.bipush (-100), 2) := by decide +kernel
theorem dX12_rule_28 : decode cX12_rule 28 = .ok (.ireturn, 1) := by decide +kernel
theorem dX12_rule_29 : decode cX12_rule 29 = .ok (.aload_n 0, 1) := by decide +kernel
theorem dX12_rule_30 : decode cX12_rule 30 = .ok (.bipush 6, 2) := by decide +kernel
theorem dX12_rule_32 : decode cX12_rule 32 = .ok (.aload_n 0, 1) := by decide +kernel
theorem dX12_rule_33 : decode cX12_rule 33 = .ok (.getfield 33, 3) := by decide +kernel
theorem dX12_rule_36 : decode cX12_rule 36 = .ok (.iadd, 1) := by decide +kernel
theorem dX12_rule_37 : decode cX12_rule 37 = .ok (.iconst 0, 1) := by decide +kernel
theorem dX12_rule_38 : decode cX12_rule 38 = .ok (.invokevirtual 288, 3) := by decide +kernel
theorem dX12_rule_41 : decode cX12_rule 41 = .ok (.istore_n 2, 1) := by decide +kernel
theorem dX12_rule_42 : decode cX12_rule 42 = .ok (.iload_n 2, 1) := by decide +kernel
theorem dX12_rule_43 : decode cX12_rule 43 = .ok (.ifCond .ge 5, 3) := by decide +kernel
theorem dX12_rule_46 : decode cX12_rule 46 = .ok (.iload_n 2, 1) := by decide +kernel
theorem dX12_rule_47 : decode cX12_rule 47 = .ok (.ireturn, 1) := by decide +kernel
theorem dX12_rule_48 : decode cX12_rule 48 = .ok (.aload_n 0, 1) := by decide +kernel
theorem dX12_rule_49 : decode cX12_rule 49 = .ok (.getfield 465, 3) := by decide +kernel
theorem dX12_rule_52 : decode cX12_rule 52 = .ok (.aload_n 0, 1) := by decide +kernel
theorem dX12_rule_53 : decode cX12_rule 53 = .ok (.getfield 33, 3) := by decide +kernel
theorem dX12_rule_56 : decode cX12_rule 56 = .ok (.iload_n 1, 1) := by decide +kernel
theorem dX12_rule_57 : decode cX12_rule 57 = .ok (.iastore, 1) := by decide +kernel
theorem dX12_rule_58 : decode cX12_rule 58 = .ok (.aload_n 0, 1) := by decide +kernel
theorem dX12_rule_59 : decode cX12_rule 59 = .ok (.dup, 1) := by decide +kernel
theorem dX12_rule_60 : decode cX12_rule 60 = .ok (.getfield 33, 3) := by decide +kernel
theorem dX12_rule_63 : decode cX12_rule 63 = .ok (.iconst 1, 1) := by decide +kernel
theorem dX12_rule_64 : decode cX12_rule 64 = .ok (.iadd, 1) := by decide +kernel
theorem dX12_rule_65 : decode cX12_rule 65 = .ok (.putfield 33, 3) := by decide +kernel
theorem dX12_rule_68 : decode cX12_rule 68 = .ok (.aload_n 0, 1) := by decide +kernel
theorem dX12_rule_69 : decode cX12_rule 69 = .ok (.getfield 33, 3) := by decide +kernel
theorem dX12_rule_72 : decode cX12_rule 72 = .ok (.ireturn, 1) := by decide +kernel
theorem dX12_finding_0 : decode cX12_finding 0 = .ok (.aload_n 0, 1) := by decide +kernel
theorem dX12_finding_1 : decode cX12_finding 1 = .ok (.iconst 0, 1) := by decide +kernel
theorem dX12_finding_2 : decode cX12_finding 2 = .ok (.putfield 3, 3) := by decide +kernel
theorem dX12_finding_5 : decode cX12_finding 5 = .ok (.iload_n 1, 1) := by decide +kernel
theorem dX12_finding_6 : decode cX12_finding 6 = .ok (.invokestatic 462, 3) := by decide +kernel
theorem dX12_finding_9 : decode cX12_finding 9 = .ok (.ifCond .eq 61, 3) := by decide +kernel
theorem dX12_finding_12 : decode cX12_finding 12 = .ok (.aload_n 0, 1) := by decide +kernel
theorem dX12_finding_13 : decode cX12_finding 13 = .ok (.iload_n 2, 1) := by decide +kernel
theorem dX12_finding_14 : decode cX12_finding 14 = .ok (.invokevirtual 145, 3) := by decide +kernel
theorem dX12_finding_17 : decode cX12_finding 17 = .ok (.ifCond .eq 53, 3) := by decide +kernel
theorem dX12_finding_20 : decode cX12_finding 20 = .ok (.iload_n 3, 1) := by decide +kernel
theorem dX12_finding_21 : decode cX12_finding 21 = .ok (.ifCond .ne 16, 3) := by decide +kernel
theorem dX12_finding_24 : decode cX12_finding 24 = .ok (.iload 4, 2) := by decide +kernel
theorem dX12_finding_26 : decode cX12_finding 26 = .ok (.i2l, 1) := by decide +kernel
theorem dX12_finding_27 : decode cX12_finding 27 = .ok (.lconst 0, 1) := by decide +kernel
theorem dX12_finding_28 : decode cX12_finding 28 = .ok (.ldc2_w 468, 3) := by decide +kernel
theorem dX12_finding_31 : decode cX12_finding 31 = .ok (.invokestatic 42, 3) := by decide +kernel
theorem dX12_finding_34 : decode cX12_finding 34 = .ok (.ifCond .ne 23, 3) := by decide +kernel
theorem dX12_finding_37 : decode cX12_finding 37 = .ok (.iload_n 3, 1) := by decide +kernel
theorem dX12_finding_38 : decode cX12_finding 38 = .ok (.iconst 1, 1) := by decide +kernel
theorem dX12_finding_39 : decode cX12_finding 39 = .ok (.if_icmp .ne 31, 3) := by decide +kernel
theorem dX12_finding_42 : decode cX12_finding 42 = .ok (.iload 4, 2) := by decide +kernel
theorem dX12_finding_44 : decode cX12_finding 44 = .ok (.i2l, 1) := by decide +kernel
theorem dX12_finding_45 : decode cX12_finding 45 = .ok (.ldc2_w 470, 3) := by decide +kernel
theorem dX12_finding_48 : decode cX12_finding 48 = .ok (.ldc2_w 62, 3) := by decide +kernel
theorem dX12_finding_51 : decode cX12_finding 51 = .ok (.invokestatic 42, 3) := by decide +kernel
theorem dX12_finding_54 : decode cX12_finding 54 = .ok (.ifCond .eq 16, 3) := by decide +kernel
theorem dX12_finding_57 : decode cX12_finding 57 = .ok (.aload_n 0, 1) := by decide +kernel
theorem dX12_finding_58 : decode cX12_finding 58 = .ok (.getfield 36, 3) := by decide +kernel
theorem dX12_finding_61 : decode cX12_finding 61 = .ok (.bipush 20, 2) := by decide +kernel
theorem dX12_finding_63 : decode cX12_finding 63 = .ok (.if_icmp .ge 7, 3) := by decide +kernel
theorem dX12_finding_66 : decode cX12_finding 66 = .ok (.iconst 1, 1) := by decide +kernel
theorem dX12_finding_67 : decode cX12_finding 67 = .ok (.goto 4, 3) := by decide +kernel
theorem dX12_finding_70 : decode cX12_finding 70 = .ok (.iconst 0, 1) := by decide +kernel
theorem dX12_finding_71 : decode cX12_finding 71 = .ok (.istore 5, 2) := by decide +kernel
theorem dX12_finding_73 : decode cX12_finding 73 = .ok (.iload 5, 2) := by decide +kernel
theorem dX12_finding_75 : decode cX12_finding 75 = .ok (.ifCond .ne 5, 3) := by decide +kernel
theorem dX12_finding_78 : decode cX12_finding 78 = .ok (.iconst (-1), 1) := by decide +kernel
theorem dX12_finding_79 : decode cX12_finding 79 = .ok (.ireturn, 1) := by decide +kernel
theorem dX12_finding_80 : decode cX12_finding 80 = .ok (.aload_n 0, 1) := by decide +kernel
theorem dX12_finding_81 : decode cX12_finding 81 = .ok (.getfield 472, 3) := by decide +kernel
theorem dX12_finding_84 : decode cX12_finding 84 = .ok (.aload_n 0, 1) := by decide +kernel
theorem dX12_finding_85 : decode cX12_finding 85 = .ok (.getfield 36, 3) := by decide +kernel
theorem dX12_finding_88 : decode cX12_finding 88 = .ok (.iload_n 1, 1) := by decide +kernel
theorem dX12_finding_89 : decode cX12_finding 89 = .ok (.iastore, 1) := by decide +kernel
theorem dX12_finding_90 : decode cX12_finding 90 = .ok (.aload_n 0, 1) := by decide +kernel
theorem dX12_finding_91 : decode cX12_finding 91 = .ok (.getfield 475, 3) := by decide +kernel
theorem dX12_finding_94 : decode cX12_finding 94 = .ok (.aload_n 0, 1) := by decide +kernel
theorem dX12_finding_95 : decode cX12_finding 95 = .ok (.getfield 36, 3) := by decide +kernel
theorem dX12_finding_98 : decode cX12_finding 98 = .ok (.iload_n 2, 1) := by decide +kernel
theorem dX12_finding_99 : decode cX12_finding 99 = .ok (.iastore, 1) := by decide +kernel
theorem dX12_finding_100 : decode cX12_finding 100 = .ok (.aload_n 0, 1) := by decide +kernel
theorem dX12_finding_101 : decode cX12_finding 101 = .ok (.getfield 478, 3) := by decide +kernel
theorem dX12_finding_104 : decode cX12_finding 104 = .ok (.aload_n 0, 1) := by decide +kernel
theorem dX12_finding_105 : decode cX12_finding 105 = .ok (.getfield 36, 3) := by decide +kernel
theorem dX12_finding_108 : decode cX12_finding 108 = .ok (.iload_n 3, 1) := by decide +kernel
theorem dX12_finding_109 : decode cX12_finding 109 = .ok (.iastore, 1) := by decide +kernel
theorem dX12_finding_110 : decode cX12_finding 110 = .ok (.aload_n 0, 1) := by decide +kernel
theorem dX12_finding_111 : decode cX12_finding 111 = .ok (.getfield 481, 3) := by decide +kernel
theorem dX12_finding_114 : decode cX12_finding 114 = .ok (.aload_n 0, 1) := by decide +kernel
theorem dX12_finding_115 : decode cX12_finding 115 = .ok (.getfield 36, 3) := by decide +kernel
theorem dX12_finding_118 : decode cX12_finding 118 = .ok (.iload 4, 2) := by decide +kernel
theorem dX12_finding_120 : decode cX12_finding 120 = .ok (.iastore, 1) := by decide +kernel
theorem dX12_finding_121 : decode cX12_finding 121 = .ok (.aload_n 0, 1) := by decide +kernel
theorem dX12_finding_122 : decode cX12_finding 122 = .ok (.dup, 1) := by decide +kernel
theorem dX12_finding_123 : decode cX12_finding 123 = .ok (.getfield 36, 3) := by decide +kernel
theorem dX12_finding_126 : decode cX12_finding 126 = .ok (.iconst 1, 1) := by decide +kernel
theorem dX12_finding_127 : decode cX12_finding 127 = .ok (.iadd, 1) := by decide +kernel
theorem dX12_finding_128 : decode cX12_finding 128 = .ok (.putfield 36, 3) := by decide +kernel
theorem dX12_finding_131 : decode cX12_finding 131 = .ok (.aload_n 0, 1) := by decide +kernel
theorem dX12_finding_132 : decode cX12_finding 132 = .ok (.getfield 36, 3) := by decide +kernel
theorem dX12_finding_135 : decode cX12_finding 135 = .ok (.ireturn, 1) := by decide +kernel
theorem dX12_weight_0 : decode cX12_weight 0 = .ok (.iconst (-1), 1) := by decide +kernel
theorem dX12_weight_1 : decode cX12_weight 1 = .ok (.istore_n 3, 1) := by decide +kernel
theorem dX12_weight_2 : decode cX12_weight 2 = .ok (.iconst 0, 1) := by decide +kernel
theorem dX12_weight_3 : decode cX12_weight 3 = .ok (.istore 4, 2) := by decide +kernel
theorem dX12_weight_5 : decode cX12_weight 5 = .ok (.iload 4, 2) := by decide +kernel
theorem dX12_weight_7 : decode cX12_weight 7 = .ok (.aload_n 0, 1) := by decide +kernel
theorem dX12_weight_8 : decode cX12_weight 8 = .ok (.getfield 36, 3) := by decide +kernel
theorem dX12_weight_11 : decode cX12_weight 11 = .ok (.if_icmp .ge 64, 3) := by decide +kernel
theorem dX12_weight_14 : decode cX12_weight 14 = .ok (.aload_n 0, 1) := by decide +kernel
theorem dX12_weight_15 : decode cX12_weight 15 = .ok (.getfield 475, 3) := by decide +kernel
theorem dX12_weight_18 : decode cX12_weight 18 = .ok (.iload 4, 2) := by decide +kernel
theorem dX12_weight_20 : decode cX12_weight 20 = .ok (.iaload, 1) := by decide +kernel
theorem dX12_weight_21 : decode cX12_weight 21 = .ok (.iload_n 1, 1) := by decide +kernel
theorem dX12_weight_22 : decode cX12_weight 22 = .ok (.if_icmp .ne 47, 3) := by decide +kernel
theorem dX12_weight_25 : decode cX12_weight 25 = .ok (.aload_n 0, 1) := by decide +kernel
theorem dX12_weight_26 : decode cX12_weight 26 = .ok (.getfield 478, 3) := by decide +kernel
theorem dX12_weight_29 : decode cX12_weight 29 = .ok (.iload 4, 2) := by decide +kernel
theorem dX12_weight_31 : decode cX12_weight 31 = .ok (.iaload, 1) := by decide +kernel
theorem dX12_weight_32 : decode cX12_weight 32 = .ok (.ifCond .ne 37, 3) := by decide +kernel
theorem dX12_weight_35 : decode cX12_weight 35 = .ok (.aload_n 0, 1) := by decide +kernel
theorem dX12_weight_36 : decode cX12_weight 36 = .ok (.getfield 472, 3) := by decide +kernel
theorem dX12_weight_39 : decode cX12_weight 39 = .ok (.iload 4, 2) := by decide +kernel
theorem dX12_weight_41 : decode cX12_weight 41 = .ok (.iaload, 1) := by decide +kernel
theorem dX12_weight_42 : decode cX12_weight 42 = .ok (.iload_n 2, 1) := by decide +kernel
theorem dX12_weight_43 : decode cX12_weight 43 = .ok (.if_icmp .gt 26, 3) := by decide +kernel
theorem dX12_weight_46 : decode cX12_weight 46 = .ok (.iload_n 3, 1) := by decide +kernel
theorem dX12_weight_47 : decode cX12_weight 47 = .ok (.ifCond .lt 19, 3) := by decide +kernel
theorem dX12_weight_50 : decode cX12_weight 50 = .ok (.aload_n 0, 1) := by decide +kernel
theorem dX12_weight_51 : decode cX12_weight 51 = .ok (.getfield 472, 3) := by decide +kernel
theorem dX12_weight_54 : decode cX12_weight 54 = .ok (.iload 4, 2) := by decide +kernel
theorem dX12_weight_56 : decode cX12_weight 56 = .ok (.iaload, 1) := by decide +kernel
theorem dX12_weight_57 : decode cX12_weight 57 = .ok (.aload_n 0, 1) := by decide +kernel
theorem dX12_weight_58 : decode cX12_weight 58 = .ok (.getfield 472, 3) := by decide +kernel
theorem dX12_weight_61 : decode cX12_weight 61 = .ok (.iload_n 3, 1) := by decide +kernel
theorem dX12_weight_62 : decode cX12_weight 62 = .ok (.iaload, 1) := by decide +kernel
theorem dX12_weight_63 : decode cX12_weight 63 = .ok (.if_icmp .lt 6, 3) := by decide +kernel
theorem dX12_weight_66 : decode cX12_weight 66 = .ok (.iload 4, 2) := by decide +kernel
theorem dX12_weight_68 : decode cX12_weight 68 = .ok (.istore_n 3, 1) := by decide +kernel
theorem dX12_weight_69 : decode cX12_weight 69 = .ok (.iinc 4 1, 3) := by decide +kernel
theorem dX12_weight_72 : decode cX12_weight 72 = .ok (.goto (-67), 3) := by decide +kernel
theorem dX12_weight_75 : decode cX12_weight 75 = .ok (.iload_n 3, 1) := by decide +kernel
theorem dX12_weight_76 : decode cX12_weight 76 = .ok (.ifCond .ge 7, 3) := by decide +kernel
theorem dX12_weight_79 : decode cX12_weight 79 = .ok (.iconst 0, 1) := by decide +kernel
theorem dX12_weight_80 : decode cX12_weight 80 = .ok (.goto 9, 3) := by decide +kernel
theorem dX12_weight_83 : decode cX12_weight 83 = .ok (.aload_n 0, 1) := by decide +kernel
theorem dX12_weight_84 : decode cX12_weight 84 = .ok (.getfield 481, 3) := by decide +kernel
theorem dX12_weight_87 : decode cX12_weight 87 = .ok (.iload_n 3, 1) := by decide +kernel
theorem dX12_weight_88 : decode cX12_weight 88 = .ok (.iaload, 1) := by decide +kernel
theorem dX12_weight_89 : decode cX12_weight 89 = .ok (.ireturn, 1) := by decide +kernel
theorem dX12_timeFound_0 : decode cX12_timeFound 0 = .ok (.iconst 0, 1) := by decide +kernel
theorem dX12_timeFound_1 : decode cX12_timeFound 1 = .ok (.istore_n 3, 1) := by decide +kernel
theorem dX12_timeFound_2 : decode cX12_timeFound 2 = .ok (.iconst 0, 1) := by decide +kernel
theorem dX12_timeFound_3 : decode cX12_timeFound 3 = .ok (.istore 4, 2) := by decide +kernel
theorem dX12_timeFound_5 : decode cX12_timeFound 5 = .ok (.iload 4, 2) := by decide +kernel
theorem dX12_timeFound_7 : decode cX12_timeFound 7 = .ok (.aload_n 0, 1) := by decide +kernel
theorem dX12_timeFound_8 : decode cX12_timeFound 8 = .ok (.getfield 36, 3) := by decide +kernel
theorem dX12_timeFound_11 : decode cX12_timeFound 11 = .ok (.if_icmp .ge 56, 3) := by decide +kernel
theorem dX12_timeFound_14 : decode cX12_timeFound 14 = .ok (.iload_n 3, 1) := by decide +kernel
theorem dX12_timeFound_15 : decode cX12_timeFound 15 = .ok (.aload_n 0, 1) := by decide +kernel
theorem dX12_timeFound_16 : decode cX12_timeFound 16 = .ok (.getfield 475, 3) := by decide +kernel
theorem dX12_timeFound_19 : decode cX12_timeFound 19 = .ok (.iload 4, 2) := by decide +kernel
theorem dX12_timeFound_21 : decode cX12_timeFound 21 = .ok (.iaload, 1) := by decide +kernel
theorem dX12_timeFound_22 : decode cX12_timeFound 22 = .ok (.iload_n 1, 1) := by decide +kernel
theorem dX12_timeFound_23 : decode cX12_timeFound 23 = .ok (.if_icmp .ne 35, 3) := by decide +kernel
theorem dX12_timeFound_26 : decode cX12_timeFound 26 = .ok (.aload_n 0, 1) := by decide +kernel
theorem dX12_timeFound_27 : decode cX12_timeFound 27 = .ok (.getfield 478, 3) := by decide +kernel
theorem dX12_timeFound_30 : decode cX12_timeFound 30 = .ok (.iload 4, 2) := by decide +kernel
theorem dX12_timeFound_32 : decode cX12_timeFound 32 = .ok (.iaload, 1) := by decide +kernel
theorem dX12_timeFound_33 : decode cX12_timeFound 33 = .ok (.iconst 1, 1) := by decide +kernel
theorem dX12_timeFound_34 : decode cX12_timeFound 34 = .ok (.if_icmp .ne 24, 3) := by decide +kernel
theorem dX12_timeFound_37 : decode cX12_timeFound 37 = .ok (.aload_n 0, 1) := by decide +kernel
theorem dX12_timeFound_38 : decode cX12_timeFound 38 = .ok (.getfield 472, 3) := by decide +kernel
theorem dX12_timeFound_41 : decode cX12_timeFound 41 = .ok (.iload 4, 2) := by decide +kernel
theorem dX12_timeFound_43 : decode cX12_timeFound 43 = .ok (.iaload, 1) := by decide +kernel
theorem dX12_timeFound_44 : decode cX12_timeFound 44 = .ok (.iload_n 2, 1) := by decide +kernel
theorem dX12_timeFound_45 : decode cX12_timeFound 45 = .ok (.if_icmp .gt 13, 3) := by decide +kernel
theorem dX12_timeFound_48 : decode cX12_timeFound 48 = .ok (.aload_n 0, 1) := by decide +kernel
theorem dX12_timeFound_49 : decode cX12_timeFound 49 = .ok (.getfield 481, 3) := by decide +kernel
theorem dX12_timeFound_52 : decode cX12_timeFound 52 = .ok (.iload 4, 2) := by decide +kernel
theorem dX12_timeFound_54 : decode cX12_timeFound 54 = .ok (.iaload, 1) := by decide +kernel
theorem dX12_timeFound_55 : decode cX12_timeFound 55 = .ok (.goto 4, 3) := by decide +kernel
theorem dX12_timeFound_58 : decode cX12_timeFound 58 = .ok (.iconst 0, 1) := by decide +kernel
theorem dX12_timeFound_59 : decode cX12_timeFound 59 = .ok (.iadd, 1) := by decide +kernel
theorem dX12_timeFound_60 : decode cX12_timeFound 60 = .ok (.istore_n 3, 1) := by decide +kernel
theorem dX12_timeFound_61 : decode cX12_timeFound 61 = .ok (.iinc 4 1, 3) := by decide +kernel
theorem dX12_timeFound_64 : decode cX12_timeFound 64 = .ok (.goto (-59), 3) := by decide +kernel
theorem dX12_timeFound_67 : decode cX12_timeFound 67 = .ok (.iload_n 3, 1) := by decide +kernel
theorem dX12_timeFound_68 : decode cX12_timeFound 68 = .ok (.ireturn, 1) := by decide +kernel
theorem dX12_secondsOf_0 : decode cX12_secondsOf 0 = .ok (.aload_n 0, 1) := by decide +kernel
theorem dX12_secondsOf_1 : decode cX12_secondsOf 1 = .ok (.getfield 299, 3) := by decide +kernel
theorem dX12_secondsOf_4 : decode cX12_secondsOf 4 = .ok (.iconst 0, 1) := by decide +kernel
theorem dX12_secondsOf_5 : decode cX12_secondsOf 5 = .ok (.aload_n 0, 1) := by decide +kernel
theorem dX12_secondsOf_6 : decode cX12_secondsOf 6 = .ok (.getfield 342, 3) := by decide +kernel
theorem dX12_secondsOf_9 : decode cX12_secondsOf 9 = .ok (.iload_n 1, 1) := by decide +kernel
theorem dX12_secondsOf_10 : decode cX12_secondsOf 10 = .ok (.iaload, 1) := by decide +kernel
theorem dX12_secondsOf_11 : decode cX12_secondsOf 11 = .ok (.iastore, 1) := by decide +kernel
theorem dX12_secondsOf_12 : decode cX12_secondsOf 12 = .ok (.aload_n 0, 1) := by decide +kernel
theorem dX12_secondsOf_13 : decode cX12_secondsOf 13 = .ok (.getfield 299, 3) := by decide +kernel
theorem dX12_secondsOf_16 : decode cX12_secondsOf 16 = .ok (.iconst 1, 1) := by decide +kernel
theorem dX12_secondsOf_17 : decode cX12_secondsOf 17 = .ok (.aload_n 0, 1) := by decide +kernel
theorem dX12_secondsOf_18 : decode cX12_secondsOf 18 = .ok (.getfield 345, 3) := by decide +kernel
theorem dX12_secondsOf_21 : decode cX12_secondsOf 21 = .ok (.iload_n 1, 1) := by decide +kernel
theorem dX12_secondsOf_22 : decode cX12_secondsOf 22 = .ok (.iaload, 1) := by decide +kernel
theorem dX12_secondsOf_23 : decode cX12_secondsOf 23 = .ok (.invokestatic 452, 3) := by decide +kernel
theorem dX12_secondsOf_26 : decode cX12_secondsOf 26 = .ok (.iastore, 1) := by decide +kernel
theorem dX12_secondsOf_27 : decode cX12_secondsOf 27 = .ok (.aload_n 0, 1) := by decide +kernel
theorem dX12_secondsOf_28 : decode cX12_secondsOf 28 = .ok (.getfield 299, 3) := by decide +kernel
theorem dX12_secondsOf_31 : decode cX12_secondsOf 31 = .ok (.iconst 2, 1) := by decide +kernel
theorem dX12_secondsOf_32 : decode cX12_secondsOf 32 = .ok (.aload_n 0, 1) := by decide +kernel
theorem dX12_secondsOf_33 : decode cX12_secondsOf 33 = .ok (.getfield 348, 3) := by decide +kernel
theorem dX12_secondsOf_36 : decode cX12_secondsOf 36 = .ok (.iload_n 1, 1) := by decide +kernel
theorem dX12_secondsOf_37 : decode cX12_secondsOf 37 = .ok (.iaload, 1) := by decide +kernel
theorem dX12_secondsOf_38 : decode cX12_secondsOf 38 = .ok (.iastore, 1) := by decide +kernel
theorem dX12_secondsOf_39 : decode cX12_secondsOf 39 = .ok (.aload_n 0, 1) := by decide +kernel
theorem dX12_secondsOf_40 : decode cX12_secondsOf 40 = .ok (.getfield 299, 3) := by decide +kernel
theorem dX12_secondsOf_43 : decode cX12_secondsOf 43 = .ok (.iconst 3, 1) := by decide +kernel
theorem dX12_secondsOf_44 : decode cX12_secondsOf 44 = .ok (.aload_n 0, 1) := by decide +kernel
theorem dX12_secondsOf_45 : decode cX12_secondsOf 45 = .ok (.getfield 327, 3) := by decide +kernel
theorem dX12_secondsOf_48 : decode cX12_secondsOf 48 = .ok (.iload_n 1, 1) := by decide +kernel
theorem dX12_secondsOf_49 : decode cX12_secondsOf 49 = .ok (.iaload, 1) := by decide +kernel
theorem dX12_secondsOf_50 : decode cX12_secondsOf 50 = .ok (.aload_n 0, 1) := by decide +kernel
theorem dX12_secondsOf_51 : decode cX12_secondsOf 51 = .ok (.getfield 7, 3) := by decide +kernel
theorem dX12_secondsOf_54 : decode cX12_secondsOf 54 = .ok (.idiv, 1) := by decide +kernel
theorem dX12_secondsOf_55 : decode cX12_secondsOf 55 = .ok (.iastore, 1) := by decide +kernel
theorem dX12_secondsOf_56 : decode cX12_secondsOf 56 = .ok (.aload_n 0, 1) := by decide +kernel
theorem dX12_secondsOf_57 : decode cX12_secondsOf 57 = .ok (.getfield 299, 3) := by decide +kernel
theorem dX12_secondsOf_60 : decode cX12_secondsOf 60 = .ok (.iconst 4, 1) := by decide +kernel
theorem dX12_secondsOf_61 : decode cX12_secondsOf 61 = .ok (.aload_n 0, 1) := by decide +kernel
theorem dX12_secondsOf_62 : decode cX12_secondsOf 62 = .ok (.iload_n 1, 1) := by decide +kernel
theorem dX12_secondsOf_63 : decode cX12_secondsOf 63 = .ok (.iload_n 2, 1) := by decide +kernel
theorem dX12_secondsOf_64 : decode cX12_secondsOf 64 = .ok (.invokevirtual 484, 3) := by decide +kernel
theorem dX12_secondsOf_67 : decode cX12_secondsOf 67 = .ok (.iastore, 1) := by decide +kernel
theorem dX12_secondsOf_68 : decode cX12_secondsOf 68 = .ok (.aload_n 0, 1) := by decide +kernel
theorem dX12_secondsOf_69 : decode cX12_secondsOf 69 = .ok (.getfield 299, 3) := by decide +kernel
theorem dX12_secondsOf_72 : decode cX12_secondsOf 72 = .ok (.iconst 5, 1) := by decide +kernel
theorem dX12_secondsOf_73 : decode cX12_secondsOf 73 = .ok (.aload_n 0, 1) := by decide +kernel
theorem dX12_secondsOf_74 : decode cX12_secondsOf 74 = .ok (.getfield 127, 3) := by decide +kernel
theorem dX12_secondsOf_77 : decode cX12_secondsOf 77 = .ok (.iload_n 1, 1) := by decide +kernel
theorem dX12_secondsOf_78 : decode cX12_secondsOf 78 = .ok (.iaload, 1) := by decide +kernel
theorem dX12_secondsOf_79 : decode cX12_secondsOf 79 = .ok (.iastore, 1) := by decide +kernel
theorem dX12_secondsOf_80 : decode cX12_secondsOf 80 = .ok (.aload_n 0, 1) := by decide +kernel
theorem dX12_secondsOf_81 : decode cX12_secondsOf 81 = .ok (.getfield 299, 3) := by decide +kernel
theorem dX12_secondsOf_84 : decode cX12_secondsOf 84 = .ok (.bipush 6, 2) := by decide +kernel
theorem dX12_secondsOf_86 : decode cX12_secondsOf 86 = .ok (.aload_n 0, 1) := by decide +kernel
theorem dX12_secondsOf_87 : decode cX12_secondsOf 87 = .ok (.getfield 309, 3) := by decide +kernel
theorem dX12_secondsOf_90 : decode cX12_secondsOf 90 = .ok (.iload_n 1, 1) := by decide +kernel
theorem dX12_secondsOf_91 : decode cX12_secondsOf 91 = .ok (.iaload, 1) := by decide +kernel
theorem dX12_secondsOf_92 : decode cX12_secondsOf 92 = .ok (.iconst 2, 1) := by decide +kernel
theorem dX12_secondsOf_93 : decode cX12_secondsOf 93 = .ok (.if_icmp .ne 7, 3) := by decide +kernel
theorem dX12_secondsOf_96 : decode cX12_secondsOf 96 = .ok (.iconst 1, 1) := by decide +kernel
theorem dX12_secondsOf_97 : decode cX12_secondsOf 97 = .ok (.goto 4, 3) := by decide +kernel
theorem dX12_secondsOf_100 : decode cX12_secondsOf 100 = .ok (.iconst 0, 1) := by decide +kernel
theorem dX12_secondsOf_101 : decode cX12_secondsOf 101 = .ok (.invokestatic 292, 3) := by decide +kernel
theorem dX12_secondsOf_104 : decode cX12_secondsOf 104 = .ok (.iastore, 1) := by decide +kernel
theorem dX12_secondsOf_105 : decode cX12_secondsOf 105 = .ok (.aload_n 0, 1) := by decide +kernel
theorem dX12_secondsOf_106 : decode cX12_secondsOf 106 = .ok (.getfield 299, 3) := by decide +kernel
theorem dX12_secondsOf_109 : decode cX12_secondsOf 109 = .ok (.bipush 7, 2) := by decide +kernel
theorem dX12_secondsOf_111 : decode cX12_secondsOf 111 = .ok (.aload_n 0, 1) := by decide +kernel
theorem dX12_secondsOf_112 : decode cX12_secondsOf 112 = .ok (.getfield 330, 3) := by decide +kernel
theorem dX12_secondsOf_115 : decode cX12_secondsOf 115 = .ok (.iload_n 1, 1) := by decide +kernel
theorem dX12_secondsOf_116 : decode cX12_secondsOf 116 = .ok (.iaload, 1) := by decide +kernel
theorem dX12_secondsOf_117 : decode cX12_secondsOf 117 = .ok (.iastore, 1) := by decide +kernel
theorem dX12_secondsOf_118 : decode cX12_secondsOf 118 = .ok (.aload_n 0, 1) := by decide +kernel
theorem dX12_secondsOf_119 : decode cX12_secondsOf 119 = .ok (.getfield 299, 3) := by decide +kernel
theorem dX12_secondsOf_122 : decode cX12_secondsOf 122 = .ok (.bipush 8, 2) := by decide +kernel
theorem dX12_secondsOf_124 : decode cX12_secondsOf 124 = .ok (.aload_n 0, 1) := by decide +kernel
theorem dX12_secondsOf_125 : decode cX12_secondsOf 125 = .ok (.getfield 124, 3) := by decide +kernel
theorem dX12_secondsOf_128 : decode cX12_secondsOf 128 = .ok (.iload_n 1, 1) := by decide +kernel
theorem dX12_secondsOf_129 : decode cX12_secondsOf 129 = .ok (.iaload, 1) := by decide +kernel
theorem dX12_secondsOf_130 : decode cX12_secondsOf 130 = .ok (.iastore, 1) := by decide +kernel
theorem dX12_secondsOf_131 : decode cX12_secondsOf 131 = .ok (.iconst 0, 1) := by decide +kernel
theorem dX12_secondsOf_132 : decode cX12_secondsOf 132 = .ok (.istore_n 3, 1) := by decide +kernel
theorem dX12_secondsOf_133 : decode cX12_secondsOf 133 = .ok (.iconst 0, 1) := by decide +kernel
theorem dX12_secondsOf_134 : decode cX12_secondsOf 134 = .ok (.istore 4, 2) := by decide +kernel
theorem dX12_secondsOf_136 : decode cX12_secondsOf 136 = .ok (.iload 4, 2) := by decide +kernel
theorem dX12_secondsOf_138 : decode cX12_secondsOf 138 = .ok (.aload_n 0, 1) := by decide +kernel
theorem dX12_secondsOf_139 : decode cX12_secondsOf 139 = .ok (.getfield 33, 3) := by decide +kernel
theorem dX12_secondsOf_142 : decode cX12_secondsOf 142 = .ok (.if_icmp .ge 78, 3) := by decide +kernel
theorem dX12_secondsOf_145 : decode cX12_secondsOf 145 = .ok (.bipush 100, 2) := by decide +kernel
theorem dX12_secondsOf_147 : decode cX12_secondsOf 147 = .ok (.bipush 6, 2) := by decide +kernel
theorem dX12_secondsOf_149 : decode cX12_secondsOf 149 = .ok (.iload 4, 2) := by decide +kernel
theorem dX12_secondsOf_151 : decode cX12_secondsOf 151 = .ok (.iadd, 1) := by decide +kernel
theorem dX12_secondsOf_152 : decode cX12_secondsOf 152 = .ok (.imul, 1) := by decide +kernel
theorem dX12_secondsOf_153 : decode cX12_secondsOf 153 = .ok (.istore 5, 2) := by decide +kernel
theorem dX12_secondsOf_155 : decode cX12_secondsOf 155 = .ok (.aload_n 0, 1) := by decide +kernel
theorem dX12_secondsOf_156 : decode cX12_secondsOf 156 = .ok (.getfield 465, 3) := by decide +kernel
theorem dX12_secondsOf_159 : decode cX12_secondsOf 159 = .ok (.iload 4, 2) := by decide +kernel
theorem dX12_secondsOf_161 : decode cX12_secondsOf 161 = .ok (.iaload, 1) := by decide +kernel
theorem dX12_secondsOf_162 : decode cX12_secondsOf 162 = .ok (.iload_n 2, 1) := by decide +kernel
theorem dX12_secondsOf_163 : decode cX12_secondsOf 163 = .ok (.if_icmp .gt 51, 3) := by decide +kernel
theorem dX12_secondsOf_166 : decode cX12_secondsOf 166 = .ok (.aload_n 0, 1) := by decide +kernel
theorem dX12_secondsOf_167 : decode cX12_secondsOf 167 = .ok (.iload 5, 2) := by decide +kernel
theorem dX12_secondsOf_169 : decode cX12_secondsOf 169 = .ok (.iload 5, 2) := by decide +kernel
theorem dX12_secondsOf_171 : decode cX12_secondsOf 171 = .ok (.aload_n 0, 1) := by decide +kernel
theorem dX12_secondsOf_172 : decode cX12_secondsOf 172 = .ok (.getfield 208, 3) := by decide +kernel
theorem dX12_secondsOf_175 : decode cX12_secondsOf 175 = .ok (.bipush 6, 2) := by decide +kernel
theorem dX12_secondsOf_177 : decode cX12_secondsOf 177 = .ok (.iload 4, 2) := by decide +kernel
theorem dX12_secondsOf_179 : decode cX12_secondsOf 179 = .ok (.iadd, 1) := by decide +kernel
theorem dX12_secondsOf_180 : decode cX12_secondsOf 180 = .ok (.iaload, 1) := by decide +kernel
theorem dX12_secondsOf_181 : decode cX12_secondsOf 181 = .ok (.iadd, 1) := by decide +kernel
theorem dX12_secondsOf_182 : decode cX12_secondsOf 182 = .ok (.invokevirtual 441, 3) := by decide +kernel
theorem dX12_secondsOf_185 : decode cX12_secondsOf 185 = .ok (.ifCond .ne 6, 3) := by decide +kernel
theorem dX12_secondsOf_188 : decode cX12_secondsOf 188 = .ok (.goto 26, 3) := by decide +kernel
theorem dX12_secondsOf_191 : decode cX12_secondsOf 191 = .ok (.aload_n 0, 1) := by decide +kernel
theorem dX12_secondsOf_192 : decode cX12_secondsOf 192 = .ok (.getfield 269, 3) := by decide +kernel
theorem dX12_secondsOf_195 : decode cX12_secondsOf 195 = .ok (.iload 4, 2) := by decide +kernel
theorem dX12_secondsOf_197 : decode cX12_secondsOf 197 = .ok (.iaload, 1) := by decide +kernel
theorem dX12_secondsOf_198 : decode cX12_secondsOf 198 = .ok (.ifCond .ge 6, 3) := by decide +kernel
theorem dX12_secondsOf_201 : decode cX12_secondsOf 201 = .ok (.bipush (-2), 2) := by decide +kernel
theorem dX12_secondsOf_203 : decode cX12_secondsOf 203 = .ok (.ireturn, 1) := by decide +kernel
theorem dX12_secondsOf_204 : decode cX12_secondsOf 204 = .ok (.iload_n 3, 1) := by decide +kernel
theorem dX12_secondsOf_205 : decode cX12_secondsOf 205 = .ok (.aload_n 0, 1) := by decide +kernel
theorem dX12_secondsOf_206 : decode cX12_secondsOf 206 = .ok (.getfield 269, 3) := by decide +kernel
theorem dX12_secondsOf_209 : decode cX12_secondsOf 209 = .ok (.iload 4, 2) := by decide +kernel
theorem dX12_secondsOf_211 : decode cX12_secondsOf 211 = .ok (.iaload, 1) := by decide +kernel
theorem dX12_secondsOf_212 : decode cX12_secondsOf 212 = .ok (.iadd, 1) := by decide +kernel
theorem dX12_secondsOf_213 : decode cX12_secondsOf 213 = .ok (.istore_n 3, 1) := by decide +kernel
theorem dX12_secondsOf_214 : decode cX12_secondsOf 214 = .ok (.iinc 4 1, 3) := by decide +kernel
theorem dX12_secondsOf_217 : decode cX12_secondsOf 217 = .ok (.goto (-81), 3) := by decide +kernel
theorem dX12_secondsOf_220 : decode cX12_secondsOf 220 = .ok (.iload_n 3, 1) := by decide +kernel
theorem dX12_secondsOf_221 : decode cX12_secondsOf 221 = .ok (.ireturn, 1) := by decide +kernel
theorem dX12_seconds_0 : decode cX12_seconds 0 = .ok (.aload_n 0, 1) := by decide +kernel
theorem dX12_seconds_1 : decode cX12_seconds 1 = .ok (.iconst 0, 1) := by decide +kernel
theorem dX12_seconds_2 : decode cX12_seconds 2 = .ok (.putfield 3, 3) := by decide +kernel
theorem dX12_seconds_5 : decode cX12_seconds 5 = .ok (.aload_n 0, 1) := by decide +kernel
theorem dX12_seconds_6 : decode cX12_seconds 6 = .ok (.iload_n 1, 1) := by decide +kernel
theorem dX12_seconds_7 : decode cX12_seconds 7 = .ok (.invokevirtual 145, 3) := by decide +kernel
theorem dX12_seconds_10 : decode cX12_seconds 10 = .ok (.ifCond .eq 10, 3) := by decide +kernel
theorem dX12_seconds_13 : decode cX12_seconds 13 = .ok (.iload_n 2, 1) := by decide +kernel
theorem dX12_seconds_14 : decode cX12_seconds 14 = .ok (.invokestatic 462, 3) := by decide +kernel
theorem dX12_seconds_17 : decode cX12_seconds 17 = .ok (.ifCond .ne 5, 3) := by decide +kernel
theorem dX12_seconds_20 : decode cX12_seconds 20 = .ok (.iconst (-1), 1) := by decide +kernel
theorem dX12_seconds_21 : decode cX12_seconds 21 = .ok (.ireturn, 1) := by decide +kernel
theorem dX12_seconds_22 : decode cX12_seconds 22 = .ok (.aload_n 0, 1) := by decide +kernel
theorem dX12_seconds_23 : decode cX12_seconds 23 = .ok (.invokevirtual 449, 3) := by decide +kernel
theorem dX12_seconds_26 : decode cX12_seconds 26 = .ok (.aload_n 0, 1) := by decide +kernel
theorem dX12_seconds_27 : decode cX12_seconds 27 = .ok (.iload_n 1, 1) := by decide +kernel
theorem dX12_seconds_28 : decode cX12_seconds 28 = .ok (.iload_n 2, 1) := by decide +kernel
theorem dX12_seconds_29 : decode cX12_seconds 29 = .ok (.invokevirtual 487, 3) := by decide +kernel
theorem dX12_seconds_32 : decode cX12_seconds 32 = .ok (.ireturn, 1) := by decide +kernel
theorem dX12_judges_0 : decode cX12_judges 0 = .ok (.aload_n 0, 1) := by decide +kernel
theorem dX12_judges_1 : decode cX12_judges 1 = .ok (.invokevirtual 449, 3) := by decide +kernel
theorem dX12_judges_4 : decode cX12_judges 4 = .ok (.iconst 0, 1) := by decide +kernel
theorem dX12_judges_5 : decode cX12_judges 5 = .ok (.istore_n 2, 1) := by decide +kernel
theorem dX12_judges_6 : decode cX12_judges 6 = .ok (.iload_n 2, 1) := by decide +kernel
theorem dX12_judges_7 : decode cX12_judges 7 = .ok (.aload_n 0, 1) := by decide +kernel
theorem dX12_judges_8 : decode cX12_judges 8 = .ok (.getfield 30, 3) := by decide +kernel
theorem dX12_judges_11 : decode cX12_judges 11 = .ok (.if_icmp .ge 68, 3) := by decide +kernel
theorem dX12_judges_14 : decode cX12_judges 14 = .ok (.aload_n 0, 1) := by decide +kernel
theorem dX12_judges_15 : decode cX12_judges 15 = .ok (.iload_n 2, 1) := by decide +kernel
theorem dX12_judges_16 : decode cX12_judges 16 = .ok (.iload_n 1, 1) := by decide +kernel
theorem dX12_judges_17 : decode cX12_judges 17 = .ok (.invokevirtual 487, 3) := by decide +kernel
theorem dX12_judges_20 : decode cX12_judges 20 = .ok (.istore_n 3, 1) := by decide +kernel
theorem dX12_judges_21 : decode cX12_judges 21 = .ok (.aload_n 0, 1) := by decide +kernel
theorem dX12_judges_22 : decode cX12_judges 22 = .ok (.getfield 490, 3) := by decide +kernel
theorem dX12_judges_25 : decode cX12_judges 25 = .ok (.iload_n 2, 1) := by decide +kernel
theorem dX12_judges_26 : decode cX12_judges 26 = .ok (.aload_n 0, 1) := by decide +kernel
theorem dX12_judges_27 : decode cX12_judges 27 = .ok (.getfield 309, 3) := by decide +kernel
theorem dX12_judges_30 : decode cX12_judges 30 = .ok (.iload_n 2, 1) := by decide +kernel
theorem dX12_judges_31 : decode cX12_judges 31 = .ok (.iaload, 1) := by decide +kernel
theorem dX12_judges_32 : decode cX12_judges 32 = .ok (.iconst 2, 1) := by decide +kernel
theorem dX12_judges_33 : decode cX12_judges 33 = .ok (.if_icmp .eq 13, 3) := by decide +kernel
theorem dX12_judges_36 : decode cX12_judges 36 = .ok (.iload_n 3, 1) := by decide +kernel
theorem dX12_judges_37 : decode cX12_judges 37 = .ok (.bipush (-2), 2) := by decide +kernel
theorem dX12_judges_39 : decode cX12_judges 39 = .ok (.if_icmp .eq 7, 3) := by decide +kernel
theorem dX12_judges_42 : decode cX12_judges 42 = .ok (.iconst 1, 1) := by decide +kernel
theorem dX12_judges_43 : decode cX12_judges 43 = .ok (.goto 4, 3) := by decide +kernel
theorem dX12_judges_46 : decode cX12_judges 46 = .ok (.iconst 0, 1) := by decide +kernel
theorem dX12_judges_47 : decode cX12_judges 47 = .ok (.bastore, 1) := by decide +kernel
theorem dX12_judges_48 : decode cX12_judges 48 = .ok (.aload_n 0, 1) := by decide +kernel
theorem dX12_judges_49 : decode cX12_judges 49 = .ok (.getfield 493, 3) := by decide +kernel
theorem dX12_judges_52 : decode cX12_judges 52 = .ok (.iload_n 2, 1) := by decide +kernel
theorem dX12_judges_53 : decode cX12_judges 53 = .ok (.aload_n 0, 1) := by decide +kernel
theorem dX12_judges_54 : decode cX12_judges 54 = .ok (.getfield 321, 3) := by decide +kernel
theorem dX12_judges_57 : decode cX12_judges 57 = .ok (.iload_n 2, 1) := by decide +kernel
theorem dX12_judges_58 : decode cX12_judges 58 = .ok (.iaload, 1) := by decide +kernel
theorem dX12_judges_59 : decode cX12_judges 59 = .ok (.sipush 1000, 3) := by decide +kernel
theorem dX12_judges_62 : decode cX12_judges 62 = .ok (.iload_n 3, 1) := by decide +kernel
theorem dX12_judges_63 : decode cX12_judges 63 = .ok (.imul, 1) := by decide +kernel
theorem dX12_judges_64 : decode cX12_judges 64 = .ok (.iadd, 1) := by decide +kernel
theorem dX12_judges_65 : decode cX12_judges 65 = .ok (.aload_n 0, 1) := by decide +kernel
theorem dX12_judges_66 : decode cX12_judges 66 = .ok (.iload_n 2, 1) := by decide +kernel
theorem dX12_judges_67 : decode cX12_judges 67 = .ok (.iload_n 1, 1) := by decide +kernel
theorem dX12_judges_68 : decode cX12_judges 68 = .ok (.invokevirtual 496, 3) := by decide +kernel
theorem dX12_judges_71 : decode cX12_judges 71 = .ok (.iadd, 1) := by decide +kernel
theorem dX12_judges_72 : decode cX12_judges 72 = .ok (.iastore, 1) := by decide +kernel
theorem dX12_judges_73 : decode cX12_judges 73 = .ok (.iinc 2 1, 3) := by decide +kernel
theorem dX12_judges_76 : decode cX12_judges 76 = .ok (.goto (-70), 3) := by decide +kernel
theorem dX12_judges_79 : decode cX12_judges 79 = .ok (.return_, 1) := by decide +kernel
theorem dX12_isBetter_0 : decode cX12_isBetter 0 = .ok (.aload_n 0, 1) := by decide +kernel
theorem dX12_isBetter_1 : decode cX12_isBetter 1 = .ok (.getfield 327, 3) := by decide +kernel
theorem dX12_isBetter_4 : decode cX12_isBetter 4 = .ok (.iload_n 1, 1) := by decide +kernel
theorem dX12_isBetter_5 : decode cX12_isBetter 5 = .ok (.iaload, 1) := by decide +kernel
theorem dX12_isBetter_6 : decode cX12_isBetter 6 = .ok (.aload_n 0, 1) := by decide +kernel
theorem dX12_isBetter_7 : decode cX12_isBetter 7 = .ok (.getfield 7, 3) := by decide +kernel
theorem dX12_isBetter_10 : decode cX12_isBetter 10 = .ok (.idiv, 1) := by decide +kernel
theorem dX12_isBetter_11 : decode cX12_isBetter 11 = .ok (.istore_n 3, 1) := by decide +kernel
theorem dX12_isBetter_12 : decode cX12_isBetter 12 = .ok (.aload_n 0, 1) := by decide +kernel
theorem dX12_isBetter_13 : decode cX12_isBetter 13 = .ok (.getfield 327, 3) := by decide +kernel
theorem dX12_isBetter_16 : decode cX12_isBetter 16 = .ok (.iload_n 2, 1) := by decide +kernel
theorem dX12_isBetter_17 : decode cX12_isBetter 17 = .ok (.iaload, 1) := by decide +kernel
theorem dX12_isBetter_18 : decode cX12_isBetter 18 = .ok (.aload_n 0, 1) := by decide +kernel
theorem dX12_isBetter_19 : decode cX12_isBetter 19 = .ok (.getfield 7, 3) := by decide +kernel
theorem dX12_isBetter_22 : decode cX12_isBetter 22 = .ok (.idiv, 1) := by decide +kernel
theorem dX12_isBetter_23 : decode cX12_isBetter 23 = .ok (.istore 4, 2) := by decide +kernel
theorem dX12_isBetter_25 : decode cX12_isBetter 25 = .ok (.iload_n 3, 1) := by decide +kernel
theorem dX12_isBetter_26 : decode cX12_isBetter 26 = .ok (.iload 4, 2) := by decide +kernel
theorem dX12_isBetter_28 : decode cX12_isBetter 28 = .ok (.if_icmp .eq 15, 3) := by decide +kernel
theorem dX12_isBetter_31 : decode cX12_isBetter 31 = .ok (.iload_n 3, 1) := by decide +kernel
theorem dX12_isBetter_32 : decode cX12_isBetter 32 = .ok (.iload 4, 2) := by decide +kernel
theorem dX12_isBetter_34 : decode cX12_isBetter 34 = .ok (.if_icmp .le 7, 3) := by decide +kernel
theorem dX12_isBetter_37 : decode cX12_isBetter 37 = .ok (.iconst 1, 1) := by decide +kernel
theorem dX12_isBetter_38 : decode cX12_isBetter 38 = .ok (.goto 4, 3) := by decide +kernel
theorem dX12_isBetter_41 : decode cX12_isBetter 41 = .ok (.iconst 0, 1) := by decide +kernel
theorem dX12_isBetter_42 : decode cX12_isBetter 42 = .ok (.ireturn, 1) := by decide +kernel
theorem dX12_isBetter_43 : decode cX12_isBetter 43 = .ok (.aload_n 0, 1) := by decide +kernel
theorem dX12_isBetter_44 : decode cX12_isBetter 44 = .ok (.getfield 493, 3) := by decide +kernel
theorem dX12_isBetter_47 : decode cX12_isBetter 47 = .ok (.iload_n 1, 1) := by decide +kernel
theorem dX12_isBetter_48 : decode cX12_isBetter 48 = .ok (.iaload, 1) := by decide +kernel
theorem dX12_isBetter_49 : decode cX12_isBetter 49 = .ok (.aload_n 0, 1) := by decide +kernel
theorem dX12_isBetter_50 : decode cX12_isBetter 50 = .ok (.getfield 493, 3) := by decide +kernel
theorem dX12_isBetter_53 : decode cX12_isBetter 53 = .ok (.iload_n 2, 1) := by decide +kernel
theorem dX12_isBetter_54 : decode cX12_isBetter 54 = .ok (.iaload, 1) := by decide +kernel
theorem dX12_isBetter_55 : decode cX12_isBetter 55 = .ok (.if_icmp .lt 23, 3) := by decide +kernel
theorem dX12_isBetter_58 : decode cX12_isBetter 58 = .ok (.aload_n 0, 1) := by decide +kernel
theorem dX12_isBetter_59 : decode cX12_isBetter 59 = .ok (.getfield 493, 3) := by decide +kernel
theorem dX12_isBetter_62 : decode cX12_isBetter 62 = .ok (.iload_n 1, 1) := by decide +kernel
theorem dX12_isBetter_63 : decode cX12_isBetter 63 = .ok (.iaload, 1) := by decide +kernel
theorem dX12_isBetter_64 : decode cX12_isBetter 64 = .ok (.aload_n 0, 1) := by decide +kernel
theorem dX12_isBetter_65 : decode cX12_isBetter 65 = .ok (.getfield 493, 3) := by decide +kernel
theorem dX12_isBetter_68 : decode cX12_isBetter 68 = .ok (.iload_n 2, 1) := by decide +kernel
theorem dX12_isBetter_69 : decode cX12_isBetter 69 = .ok (.iaload, 1) := by decide +kernel
theorem dX12_isBetter_70 : decode cX12_isBetter 70 = .ok (.if_icmp .ne 12, 3) := by decide +kernel
theorem dX12_isBetter_73 : decode cX12_isBetter 73 = .ok (.iload_n 1, 1) := by decide +kernel
theorem dX12_isBetter_74 : decode cX12_isBetter 74 = .ok (.iload_n 2, 1) := by decide +kernel
theorem dX12_isBetter_75 : decode cX12_isBetter 75 = .ok (.if_icmp .ge 7, 3) := by decide +kernel
theorem dX12_isBetter_78 : decode cX12_isBetter 78 = .ok (.iconst 1, 1) := by decide +kernel
theorem dX12_isBetter_79 : decode cX12_isBetter 79 = .ok (.goto 4, 3) := by decide +kernel
theorem dX12_isBetter_82 : decode cX12_isBetter 82 = .ok (.iconst 0, 1) := by decide +kernel
theorem dX12_isBetter_83 : decode cX12_isBetter 83 = .ok (.ireturn, 1) := by decide +kernel
theorem dX12_placeOf_0 : decode cX12_placeOf 0 = .ok (.iconst 0, 1) := by decide +kernel
theorem dX12_placeOf_1 : decode cX12_placeOf 1 = .ok (.istore_n 3, 1) := by decide +kernel
theorem dX12_placeOf_2 : decode cX12_placeOf 2 = .ok (.iconst 0, 1) := by decide +kernel
theorem dX12_placeOf_3 : decode cX12_placeOf 3 = .ok (.istore 4, 2) := by decide +kernel
theorem dX12_placeOf_5 : decode cX12_placeOf 5 = .ok (.iload 4, 2) := by decide +kernel
theorem dX12_placeOf_7 : decode cX12_placeOf 7 = .ok (.aload_n 0, 1) := by decide +kernel
theorem dX12_placeOf_8 : decode cX12_placeOf 8 = .ok (.getfield 30, 3) := by decide +kernel
theorem dX12_placeOf_11 : decode cX12_placeOf 11 = .ok (.if_icmp .ge 63, 3) := by decide +kernel
theorem dX12_placeOf_14 : decode cX12_placeOf 14 = .ok (.iload_n 3, 1) := by decide +kernel
theorem dX12_placeOf_15 : decode cX12_placeOf 15 = .ok (.iload 4, 2) := by decide +kernel
theorem dX12_placeOf_17 : decode cX12_placeOf 17 = .ok (.iload_n 1, 1) := by decide +kernel
theorem dX12_placeOf_18 : decode cX12_placeOf 18 = .ok (.if_icmp .eq 47, 3) := by decide +kernel
theorem dX12_placeOf_21 : decode cX12_placeOf 21 = .ok (.aload_n 0, 1) := by decide +kernel
theorem dX12_placeOf_22 : decode cX12_placeOf 22 = .ok (.getfield 490, 3) := by decide +kernel
theorem dX12_placeOf_25 : decode cX12_placeOf 25 = .ok (.iload 4, 2) := by decide +kernel
theorem dX12_placeOf_27 : decode cX12_placeOf 27 = .ok (.baload, 1) := by decide +kernel
theorem dX12_placeOf_28 : decode cX12_placeOf 28 = .ok (.ifCond .eq 37, 3) := by decide +kernel
theorem dX12_placeOf_31 : decode cX12_placeOf 31 = .ok (.aload_n 0, 1) := by decide +kernel
theorem dX12_placeOf_32 : decode cX12_placeOf 32 = .ok (.iload 4, 2) := by decide +kernel
theorem dX12_placeOf_34 : decode cX12_placeOf 34 = .ok (.iload_n 1, 1) := by decide +kernel
theorem dX12_placeOf_35 : decode cX12_placeOf 35 = .ok (.invokevirtual 499, 3) := by decide +kernel
theorem dX12_placeOf_38 : decode cX12_placeOf 38 = .ok (.ifCond .eq 27, 3) := by decide +kernel
theorem dX12_placeOf_41 : decode cX12_placeOf 41 = .ok (.iload_n 2, 1) := by decide +kernel
theorem dX12_placeOf_42 : decode cX12_placeOf 42 = .ok (.ifCond .eq 19, 3) := by decide +kernel
theorem dX12_placeOf_45 : decode cX12_placeOf 45 = .ok (.aload_n 0, 1) := by decide +kernel
theorem dX12_placeOf_46 : decode cX12_placeOf 46 = .ok (.getfield 127, 3) := by decide +kernel
theorem dX12_placeOf_49 : decode cX12_placeOf 49 = .ok (.iload 4, 2) := by decide +kernel
theorem dX12_placeOf_51 : decode cX12_placeOf 51 = .ok (.iaload, 1) := by decide +kernel
theorem dX12_placeOf_52 : decode cX12_placeOf 52 = .ok (.aload_n 0, 1) := by decide +kernel
theorem dX12_placeOf_53 : decode cX12_placeOf 53 = .ok (.getfield 127, 3) := by decide +kernel
theorem dX12_placeOf_56 : decode cX12_placeOf 56 = .ok (.iload_n 1, 1) := by decide +kernel
theorem dX12_placeOf_57 : decode cX12_placeOf 57 = .ok (.iaload, 1) := by decide +kernel
theorem dX12_placeOf_58 : decode cX12_placeOf 58 = .ok (.if_icmp .ne 7, 3) := by decide +kernel
theorem dX12_placeOf_61 : decode cX12_placeOf 61 = .ok (.iconst 1, 1) := by decide +kernel
theorem dX12_placeOf_62 : decode cX12_placeOf 62 = .ok (.goto 4, 3) := by decide +kernel
theorem dX12_placeOf_65 : decode cX12_placeOf 65 = .ok (.iconst 0, 1) := by decide +kernel
theorem dX12_placeOf_66 : decode cX12_placeOf 66 = .ok (.iadd, 1) := by decide +kernel
theorem dX12_placeOf_67 : decode cX12_placeOf 67 = .ok (.istore_n 3, 1) := by decide +kernel
theorem dX12_placeOf_68 : decode cX12_placeOf 68 = .ok (.iinc 4 1, 3) := by decide +kernel
theorem dX12_placeOf_71 : decode cX12_placeOf 71 = .ok (.goto (-66), 3) := by decide +kernel
theorem dX12_placeOf_74 : decode cX12_placeOf 74 = .ok (.aload_n 0, 1) := by decide +kernel
theorem dX12_placeOf_75 : decode cX12_placeOf 75 = .ok (.getfield 490, 3) := by decide +kernel
theorem dX12_placeOf_78 : decode cX12_placeOf 78 = .ok (.iload_n 1, 1) := by decide +kernel
theorem dX12_placeOf_79 : decode cX12_placeOf 79 = .ok (.baload, 1) := by decide +kernel
theorem dX12_placeOf_80 : decode cX12_placeOf 80 = .ok (.ifCond .eq 7, 3) := by decide +kernel
theorem dX12_placeOf_83 : decode cX12_placeOf 83 = .ok (.iload_n 3, 1) := by decide +kernel
theorem dX12_placeOf_84 : decode cX12_placeOf 84 = .ok (.goto 4, 3) := by decide +kernel
theorem dX12_placeOf_87 : decode cX12_placeOf 87 = .ok (.iconst (-1), 1) := by decide +kernel
theorem dX12_placeOf_88 : decode cX12_placeOf 88 = .ok (.ireturn, 1) := by decide +kernel
theorem dX12_place_0 : decode cX12_place 0 = .ok (.aload_n 0, 1) := by decide +kernel
theorem dX12_place_1 : decode cX12_place 1 = .ok (.iconst 0, 1) := by decide +kernel
theorem dX12_place_2 : decode cX12_place 2 = .ok (.putfield 3, 3) := by decide +kernel
theorem dX12_place_5 : decode cX12_place 5 = .ok (.aload_n 0, 1) := by decide +kernel
theorem dX12_place_6 : decode cX12_place 6 = .ok (.iload_n 1, 1) := by decide +kernel
theorem dX12_place_7 : decode cX12_place 7 = .ok (.invokevirtual 145, 3) := by decide +kernel
theorem dX12_place_10 : decode cX12_place 10 = .ok (.ifCond .eq 10, 3) := by decide +kernel
theorem dX12_place_13 : decode cX12_place 13 = .ok (.iload_n 2, 1) := by decide +kernel
theorem dX12_place_14 : decode cX12_place 14 = .ok (.invokestatic 462, 3) := by decide +kernel
theorem dX12_place_17 : decode cX12_place 17 = .ok (.ifCond .ne 5, 3) := by decide +kernel
theorem dX12_place_20 : decode cX12_place 20 = .ok (.iconst (-1), 1) := by decide +kernel
theorem dX12_place_21 : decode cX12_place 21 = .ok (.ireturn, 1) := by decide +kernel
theorem dX12_place_22 : decode cX12_place 22 = .ok (.aload_n 0, 1) := by decide +kernel
theorem dX12_place_23 : decode cX12_place 23 = .ok (.iload_n 2, 1) := by decide +kernel
theorem dX12_place_24 : decode cX12_place 24 = .ok (.invokevirtual 502, 3) := by decide +kernel
theorem dX12_place_27 : decode cX12_place 27 = .ok (.aload_n 0, 1) := by decide +kernel
theorem dX12_place_28 : decode cX12_place 28 = .ok (.iload_n 1, 1) := by decide +kernel
theorem dX12_place_29 : decode cX12_place 29 = .ok (.iconst 0, 1) := by decide +kernel
theorem dX12_place_30 : decode cX12_place 30 = .ok (.invokevirtual 505, 3) := by decide +kernel
theorem dX12_place_33 : decode cX12_place 33 = .ok (.ireturn, 1) := by decide +kernel
theorem dX12_sum_0 : decode cX12_sum 0 = .ok (.aload_n 0, 1) := by decide +kernel
theorem dX12_sum_1 : decode cX12_sum 1 = .ok (.iconst 0, 1) := by decide +kernel
theorem dX12_sum_2 : decode cX12_sum 2 = .ok (.putfield 3, 3) := by decide +kernel
theorem dX12_sum_5 : decode cX12_sum 5 = .ok (.aload_n 0, 1) := by decide +kernel
theorem dX12_sum_6 : decode cX12_sum 6 = .ok (.iload_n 1, 1) := by decide +kernel
theorem dX12_sum_7 : decode cX12_sum 7 = .ok (.invokevirtual 145, 3) := by decide +kernel
theorem dX12_sum_10 : decode cX12_sum 10 = .ok (.ifCond .eq 10, 3) := by decide +kernel
theorem dX12_sum_13 : decode cX12_sum 13 = .ok (.iload_n 2, 1) := by decide +kernel
theorem dX12_sum_14 : decode cX12_sum 14 = .ok (.invokestatic 462, 3) := by decide +kernel
theorem dX12_sum_17 : decode cX12_sum 17 = .ok (.ifCond .ne 8, 3) := by decide +kernel
theorem dX12_sum_20 : decode cX12_sum 20 = .ok (.aload_n 0, 1) := by decide +kernel
theorem dX12_sum_21 : decode cX12_sum 21 = .ok (.invokevirtual 446, 3) := by decide +kernel
theorem dX12_sum_24 : decode cX12_sum 24 = .ok (.ireturn, 1) := by decide +kernel
theorem dX12_sum_25 : decode cX12_sum 25 = .ok (.aload_n 0, 1) := by decide +kernel
theorem dX12_sum_26 : decode cX12_sum 26 = .ok (.iload_n 2, 1) := by decide +kernel
theorem dX12_sum_27 : decode cX12_sum 27 = .ok (.invokevirtual 502, 3) := by decide +kernel
theorem dX12_sum_30 : decode cX12_sum 30 = .ok (.aload_n 0, 1) := by decide +kernel
theorem dX12_sum_31 : decode cX12_sum 31 = .ok (.getfield 490, 3) := by decide +kernel
theorem dX12_sum_34 : decode cX12_sum 34 = .ok (.iload_n 1, 1) := by decide +kernel
theorem dX12_sum_35 : decode cX12_sum 35 = .ok (.baload, 1) := by decide +kernel
theorem dX12_sum_36 : decode cX12_sum 36 = .ok (.ifCond .eq 12, 3) := by decide +kernel
theorem dX12_sum_39 : decode cX12_sum 39 = .ok (.aload_n 0, 1) := by decide +kernel
theorem dX12_sum_40 : decode cX12_sum 40 = .ok (.getfield 493, 3) := by decide +kernel
theorem dX12_sum_43 : decode cX12_sum 43 = .ok (.iload_n 1, 1) := by decide +kernel
theorem dX12_sum_44 : decode cX12_sum 44 = .ok (.iaload, 1) := by decide +kernel
theorem dX12_sum_45 : decode cX12_sum 45 = .ok (.goto 7, 3) := by decide +kernel
theorem dX12_sum_48 : decode cX12_sum 48 = .ok (.aload_n 0, 1) := by decide +kernel
theorem dX12_sum_49 : decode cX12_sum 49 = .ok (.invokevirtual 446, 3) := by decide +kernel
theorem dX12_sum_52 : decode cX12_sum 52 = .ok (.ireturn, 1) := by decide +kernel
theorem dX12_within_0 : decode cX12_within 0 = .ok (.aload_n 0, 1) := by decide +kernel
theorem dX12_within_1 : decode cX12_within 1 = .ok (.iconst 0, 1) := by decide +kernel
theorem dX12_within_2 : decode cX12_within 2 = .ok (.putfield 3, 3) := by decide +kernel
theorem dX12_within_5 : decode cX12_within 5 = .ok (.aload_n 0, 1) := by decide +kernel
theorem dX12_within_6 : decode cX12_within 6 = .ok (.iload_n 1, 1) := by decide +kernel
theorem dX12_within_7 : decode cX12_within 7 = .ok (.invokevirtual 145, 3) := by decide +kernel
theorem dX12_within_10 : decode cX12_within 10 = .ok (.ifCond .eq 10, 3) := by decide +kernel
theorem dX12_within_13 : decode cX12_within 13 = .ok (.iload_n 2, 1) := by decide +kernel
theorem dX12_within_14 : decode cX12_within 14 = .ok (.invokestatic 462, 3) := by decide +kernel
theorem dX12_within_17 : decode cX12_within 17 = .ok (.ifCond .ne 5, 3) := by decide +kernel
theorem dX12_within_20 : decode cX12_within 20 = .ok (.iconst (-1), 1) := by decide +kernel
theorem dX12_within_21 : decode cX12_within 21 = .ok (.ireturn, 1) := by decide +kernel
theorem dX12_within_22 : decode cX12_within 22 = .ok (.aload_n 0, 1) := by decide +kernel
theorem dX12_within_23 : decode cX12_within 23 = .ok (.iload_n 2, 1) := by decide +kernel
theorem dX12_within_24 : decode cX12_within 24 = .ok (.invokevirtual 502, 3) := by decide +kernel
theorem dX12_within_27 : decode cX12_within 27 = .ok (.aload_n 0, 1) := by decide +kernel
theorem dX12_within_28 : decode cX12_within 28 = .ok (.iload_n 1, 1) := by decide +kernel
theorem dX12_within_29 : decode cX12_within 29 = .ok (.iconst 1, 1) := by decide +kernel
theorem dX12_within_30 : decode cX12_within 30 = .ok (.invokevirtual 505, 3) := by decide +kernel
theorem dX12_within_33 : decode cX12_within 33 = .ok (.ireturn, 1) := by decide +kernel
theorem dX12_result_0 : decode cX12_result 0 = .ok (.aload_n 0, 1) := by decide +kernel
theorem dX12_result_1 : decode cX12_result 1 = .ok (.iconst 0, 1) := by decide +kernel
theorem dX12_result_2 : decode cX12_result 2 = .ok (.putfield 3, 3) := by decide +kernel
theorem dX12_result_5 : decode cX12_result 5 = .ok (.iload_n 1, 1) := by decide +kernel
theorem dX12_result_6 : decode cX12_result 6 = .ok (.invokestatic 462, 3) := by decide +kernel
theorem dX12_result_9 : decode cX12_result 9 = .ok (.ifCond .ne 5, 3) := by decide +kernel
theorem dX12_result_12 : decode cX12_result 12 = .ok (.iconst (-1), 1) := by decide +kernel
theorem dX12_result_13 : decode cX12_result 13 = .ok (.ireturn, 1) := by decide +kernel
theorem dX12_result_14 : decode cX12_result 14 = .ok (.aload_n 0, 1) := by decide +kernel
theorem dX12_result_15 : decode cX12_result 15 = .ok (.iload_n 1, 1) := by decide +kernel
theorem dX12_result_16 : decode cX12_result 16 = .ok (.invokevirtual 502, 3) := by decide +kernel
theorem dX12_result_19 : decode cX12_result 19 = .ok (.aload_n 0, 1) := by decide +kernel
theorem dX12_result_20 : decode cX12_result 20 = .ok (.iconst 0, 1) := by decide +kernel
theorem dX12_result_21 : decode cX12_result 21 = .ok (.putfield 185, 3) := by decide +kernel
theorem dX12_result_24 : decode cX12_result 24 = .ok (.iconst 0, 1) := by decide +kernel
theorem dX12_result_25 : decode cX12_result 25 = .ok (.istore_n 2, 1) := by decide +kernel
theorem dX12_result_26 : decode cX12_result 26 = .ok (.iload_n 2, 1) := by decide +kernel
theorem dX12_result_27 : decode cX12_result 27 = .ok (.aload_n 0, 1) := by decide +kernel
theorem dX12_result_28 : decode cX12_result 28 = .ok (.getfield 30, 3) := by decide +kernel
theorem dX12_result_31 : decode cX12_result 31 = .ok (.if_icmp .ge 32, 3) := by decide +kernel
theorem dX12_result_34 : decode cX12_result 34 = .ok (.aload_n 0, 1) := by decide +kernel
theorem dX12_result_35 : decode cX12_result 35 = .ok (.dup, 1) := by decide +kernel
theorem dX12_result_36 : decode cX12_result 36 = .ok (.getfield 185, 3) := by decide +kernel
theorem dX12_result_39 : decode cX12_result 39 = .ok (.aload_n 0, 1) := by decide +kernel
theorem dX12_result_40 : decode cX12_result 40 = .ok (.getfield 490, 3) := by decide +kernel
theorem dX12_result_43 : decode cX12_result 43 = .ok (.iload_n 2, 1) := by decide +kernel
theorem dX12_result_44 : decode cX12_result 44 = .ok (.baload, 1) := by decide +kernel
theorem dX12_result_45 : decode cX12_result 45 = .ok (.ifCond .eq 7, 3) := by decide +kernel
theorem dX12_result_48 : decode cX12_result 48 = .ok (.iconst 1, 1) := by decide +kernel
theorem dX12_result_49 : decode cX12_result 49 = .ok (.goto 4, 3) := by decide +kernel
theorem dX12_result_52 : decode cX12_result 52 = .ok (.iconst 0, 1) := by decide +kernel
theorem dX12_result_53 : decode cX12_result 53 = .ok (.iadd, 1) := by decide +kernel
theorem dX12_result_54 : decode cX12_result 54 = .ok (.putfield 185, 3) := by decide +kernel
theorem dX12_result_57 : decode cX12_result 57 = .ok (.iinc 2 1, 3) := by decide +kernel
theorem dX12_result_60 : decode cX12_result 60 = .ok (.goto (-34), 3) := by decide +kernel
theorem dX12_result_63 : decode cX12_result 63 = .ok (.iconst 0, 1) := by decide +kernel
theorem dX12_result_64 : decode cX12_result 64 = .ok (.istore_n 2, 1) := by decide +kernel
theorem dX12_result_65 : decode cX12_result 65 = .ok (.iload_n 2, 1) := by decide +kernel
theorem dX12_result_66 : decode cX12_result 66 = .ok (.aload_n 0, 1) := by decide +kernel
theorem dX12_result_67 : decode cX12_result 67 = .ok (.getfield 30, 3) := by decide +kernel
theorem dX12_result_70 : decode cX12_result 70 = .ok (.if_icmp .ge 30, 3) := by decide +kernel
theorem dX12_result_73 : decode cX12_result 73 = .ok (.aload_n 0, 1) := by decide +kernel
theorem dX12_result_74 : decode cX12_result 74 = .ok (.getfield 490, 3) := by decide +kernel
theorem dX12_result_77 : decode cX12_result 77 = .ok (.iload_n 2, 1) := by decide +kernel
theorem dX12_result_78 : decode cX12_result 78 = .ok (.baload, 1) := by decide +kernel
theorem dX12_result_79 : decode cX12_result 79 = .ok (.ifCond .eq 15, 3) := by decide +kernel
theorem dX12_result_82 : decode cX12_result 82 = .ok (.aload_n 0, 1) := by decide +kernel
theorem dX12_result_83 : decode cX12_result 83 = .ok (.getfield 508, 3) := by decide +kernel
theorem dX12_result_86 : decode cX12_result 86 = .ok (.aload_n 0, 1) := by decide +kernel
theorem dX12_result_87 : decode cX12_result 87 = .ok (.iload_n 2, 1) := by decide +kernel
theorem dX12_result_88 : decode cX12_result 88 = .ok (.iconst 0, 1) := by decide +kernel
theorem dX12_result_89 : decode cX12_result 89 = .ok (.invokevirtual 505, 3) := by decide +kernel
theorem dX12_result_92 : decode cX12_result 92 = .ok (.iload_n 2, 1) := by decide +kernel
theorem dX12_result_93 : decode cX12_result 93 = .ok (.iastore, 1) := by decide +kernel
theorem dX12_result_94 : decode cX12_result 94 = .ok (.iinc 2 1, 3) := by decide +kernel
theorem dX12_result_97 : decode cX12_result 97 = .ok (.goto (-32), 3) := by decide +kernel
theorem dX12_result_100 : decode cX12_result 100 = .ok (.aload_n 0, 1) := by decide +kernel
theorem dX12_result_101 : decode cX12_result 101 = .ok (.getfield 185, 3) := by decide +kernel
theorem dX12_result_104 : decode cX12_result 104 = .ok (.ireturn, 1) := by decide +kernel
theorem dX12_move_0 : decode cX12_move 0 = .ok (.aload_n 0, 1) := by decide +kernel
theorem dX12_move_1 : decode cX12_move 1 = .ok (.iconst 0, 1) := by decide +kernel
theorem dX12_move_2 : decode cX12_move 2 = .ok (.putfield 3, 3) := by decide +kernel
theorem dX12_move_5 : decode cX12_move 5 = .ok (.aload_n 0, 1) := by decide +kernel
theorem dX12_move_6 : decode cX12_move 6 = .ok (.iload_n 1, 1) := by decide +kernel
theorem dX12_move_7 : decode cX12_move 7 = .ok (.invokevirtual 145, 3) := by decide +kernel
theorem dX12_move_10 : decode cX12_move 10 = .ok (.ifCond .eq 37, 3) := by decide +kernel
theorem dX12_move_13 : decode cX12_move 13 = .ok (.iload_n 2, 1) := by decide +kernel
theorem dX12_move_14 : decode cX12_move 14 = .ok (.i2l, 1) := by decide +kernel
theorem dX12_move_15 : decode cX12_move 15 = .ok (.lconst 0, 1) := by decide +kernel
theorem dX12_move_16 : decode cX12_move 16 = .ok (.aload_n 0, 1) := by decide +kernel
theorem dX12_move_17 : decode cX12_move 17 = .ok (.getfield 139, 3) := by decide +kernel
theorem dX12_move_20 : decode cX12_move 20 = .ok (.iload_n 1, 1) := by decide +kernel
theorem dX12_move_21 : decode cX12_move 21 = .ok (.iaload, 1) := by decide +kernel
theorem dX12_move_22 : decode cX12_move 22 = .ok (.iconst 1, 1) := by decide +kernel
theorem dX12_move_23 : decode cX12_move 23 = .ok (.isub, 1) := by decide +kernel
theorem dX12_move_24 : decode cX12_move 24 = .ok (.i2l, 1) := by decide +kernel
theorem dX12_move_25 : decode cX12_move 25 = .ok (.invokestatic 42, 3) := by decide +kernel
theorem dX12_move_28 : decode cX12_move 28 = .ok (.ifCond .eq 19, 3) := by decide +kernel
theorem dX12_move_31 : decode cX12_move 31 = .ok (.aload_n 0, 1) := by decide +kernel
theorem dX12_move_32 : decode cX12_move 32 = .ok (.iload_n 3, 1) := by decide +kernel
theorem dX12_move_33 : decode cX12_move 33 = .ok (.invokevirtual 166, 3) := by decide +kernel
theorem dX12_move_36 : decode cX12_move 36 = .ok (.ifCond .eq 11, 3) := by decide +kernel
theorem dX12_move_39 : decode cX12_move 39 = .ok (.iload 4, 2) := by decide +kernel
theorem dX12_move_41 : decode cX12_move 41 = .ok (.invokestatic 462, 3) := by decide +kernel
theorem dX12_move_44 : decode cX12_move 44 = .ok (.ifCond .ne 5, 3) := by decide +kernel
theorem dX12_move_47 : decode cX12_move 47 = .ok (.iconst (-1), 1) := by decide +kernel
theorem dX12_move_48 : decode cX12_move 48 = .ok (.ireturn, 1) := by decide +kernel
theorem dX12_move_49 : decode cX12_move 49 = .ok (.iconst 5, 1) := by decide +kernel
theorem dX12_move_50 : decode cX12_move 50 = .ok (.iload_n 1, 1) := by decide +kernel
theorem dX12_move_51 : decode cX12_move 51 = .ok (.imul, 1) := by decide +kernel
theorem dX12_move_52 : decode cX12_move 52 = .ok (.iload_n 2, 1) := by decide +kernel
theorem dX12_move_53 : decode cX12_move 53 = .ok (.iadd, 1) := by decide +kernel
theorem dX12_move_54 : decode cX12_move 54 = .ok (.istore 5, 2) := by decide +kernel
theorem dX12_move_56 : decode cX12_move 56 = .ok (.aload_n 0, 1) := by decide +kernel
theorem dX12_move_57 : decode cX12_move 57 = .ok (.getfield 176, 3) := by decide +kernel
theorem dX12_move_60 : decode cX12_move 60 = .ok (.iload 5, 2) := by decide +kernel
theorem dX12_move_62 : decode cX12_move 62 = .ok (.iaload, 1) := by decide +kernel
theorem dX12_move_63 : decode cX12_move 63 = .ok (.istore 6, 2) := by decide +kernel
theorem dX12_move_65 : decode cX12_move 65 = .ok (.aload_n 0, 1) := by decide +kernel
theorem dX12_move_66 : decode cX12_move 66 = .ok (.getfield 176, 3) := by decide +kernel
theorem dX12_move_69 : decode cX12_move 69 = .ok (.iload 5, 2) := by decide +kernel
theorem dX12_move_71 : decode cX12_move 71 = .ok (.iload_n 3, 1) := by decide +kernel
theorem dX12_move_72 : decode cX12_move 72 = .ok (.iastore, 1) := by decide +kernel
theorem dX12_move_73 : decode cX12_move 73 = .ok (.aload_n 0, 1) := by decide +kernel
theorem dX12_move_74 : decode cX12_move 74 = .ok (.iload 4, 2) := by decide +kernel
theorem dX12_move_76 : decode cX12_move 76 = .ok (.invokevirtual 502, 3) := by decide +kernel
theorem dX12_move_79 : decode cX12_move 79 = .ok (.aload_n 0, 1) := by decide +kernel
theorem dX12_move_80 : decode cX12_move 80 = .ok (.getfield 176, 3) := by decide +kernel
theorem dX12_move_83 : decode cX12_move 83 = .ok (.iload 5, 2) := by decide +kernel
theorem dX12_move_85 : decode cX12_move 85 = .ok (.iload 6, 2) := by decide +kernel
theorem dX12_move_87 : decode cX12_move 87 = .ok (.iastore, 1) := by decide +kernel
theorem dX12_move_88 : decode cX12_move 88 = .ok (.aload_n 0, 1) := by decide +kernel
theorem dX12_move_89 : decode cX12_move 89 = .ok (.iload_n 1, 1) := by decide +kernel
theorem dX12_move_90 : decode cX12_move 90 = .ok (.iconst 0, 1) := by decide +kernel
theorem dX12_move_91 : decode cX12_move 91 = .ok (.invokevirtual 505, 3) := by decide +kernel
theorem dX12_move_94 : decode cX12_move 94 = .ok (.istore 7, 2) := by decide +kernel
theorem dX12_move_96 : decode cX12_move 96 = .ok (.iload 7, 2) := by decide +kernel
theorem dX12_move_98 : decode cX12_move 98 = .ok (.ifCond .ge 8, 3) := by decide +kernel
theorem dX12_move_101 : decode cX12_move 101 = .ok (.bipush (-2), 2) := by decide +kernel
theorem dX12_move_103 : decode cX12_move 103 = .ok (.goto 5, 3) := by decide +kernel
theorem dX12_move_106 : decode cX12_move 106 = .ok (.iload 7, 2) := by decide +kernel
theorem dX12_move_108 : decode cX12_move 108 = .ok (.ireturn, 1) := by decide +kernel
theorem dX12_clears_0 : decode cX12_clears 0 = .ok (.iconst 5, 1) := by decide +kernel
theorem dX12_clears_1 : decode cX12_clears 1 = .ok (.iload_n 1, 1) := by decide +kernel
theorem dX12_clears_2 : decode cX12_clears 2 = .ok (.imul, 1) := by decide +kernel
theorem dX12_clears_3 : decode cX12_clears 3 = .ok (.istore_n 2, 1) := by decide +kernel
theorem dX12_clears_4 : decode cX12_clears 4 = .ok (.iload_n 2, 1) := by decide +kernel
theorem dX12_clears_5 : decode cX12_clears 5 = .ok (.iconst 5, 1) := by decide +kernel
theorem dX12_clears_6 : decode cX12_clears 6 = .ok (.iload_n 1, 1) := by decide +kernel
theorem dX12_clears_7 : decode cX12_clears 7 = .ok (.imul, 1) := by decide +kernel
theorem dX12_clears_8 : decode cX12_clears 8 = .ok (.iconst 5, 1) := by decide +kernel
theorem dX12_clears_9 : decode cX12_clears 9 = .ok (.iadd, 1) := by decide +kernel
theorem dX12_clears_10 : decode cX12_clears 10 = .ok (.if_icmp .ge 45, 3) := by decide +kernel
theorem dX12_clears_13 : decode cX12_clears 13 = .ok (.aload_n 0, 1) := by decide +kernel
theorem dX12_clears_14 : decode cX12_clears 14 = .ok (.getfield 511, 3) := by decide +kernel
theorem dX12_clears_17 : decode cX12_clears 17 = .ok (.iload_n 2, 1) := by decide +kernel
theorem dX12_clears_18 : decode cX12_clears 18 = .ok (.aload_n 0, 1) := by decide +kernel
theorem dX12_clears_19 : decode cX12_clears 19 = .ok (.getfield 176, 3) := by decide +kernel
theorem dX12_clears_22 : decode cX12_clears 22 = .ok (.iload_n 2, 1) := by decide +kernel
theorem dX12_clears_23 : decode cX12_clears 23 = .ok (.iaload, 1) := by decide +kernel
theorem dX12_clears_24 : decode cX12_clears 24 = .ok (.iastore, 1) := by decide +kernel
theorem dX12_clears_25 : decode cX12_clears 25 = .ok (.aload_n 0, 1) := by decide +kernel
theorem dX12_clears_26 : decode cX12_clears 26 = .ok (.getfield 514, 3) := by decide +kernel
theorem dX12_clears_29 : decode cX12_clears 29 = .ok (.iload_n 2, 1) := by decide +kernel
theorem dX12_clears_30 : decode cX12_clears 30 = .ok (.aload_n 0, 1) := by decide +kernel
theorem dX12_clears_31 : decode cX12_clears 31 = .ok (.getfield 179, 3) := by decide +kernel
theorem dX12_clears_34 : decode cX12_clears 34 = .ok (.iload_n 2, 1) := by decide +kernel
theorem dX12_clears_35 : decode cX12_clears 35 = .ok (.iaload, 1) := by decide +kernel
theorem dX12_clears_36 : decode cX12_clears 36 = .ok (.iastore, 1) := by decide +kernel
theorem dX12_clears_37 : decode cX12_clears 37 = .ok (.aload_n 0, 1) := by decide +kernel
theorem dX12_clears_38 : decode cX12_clears 38 = .ok (.getfield 517, 3) := by decide +kernel
theorem dX12_clears_41 : decode cX12_clears 41 = .ok (.iload_n 2, 1) := by decide +kernel
theorem dX12_clears_42 : decode cX12_clears 42 = .ok (.aload_n 0, 1) := by decide +kernel
theorem dX12_clears_43 : decode cX12_clears 43 = .ok (.getfield 182, 3) := by decide +kernel
theorem dX12_clears_46 : decode cX12_clears 46 = .ok (.iload_n 2, 1) := by decide +kernel
theorem dX12_clears_47 : decode cX12_clears 47 = .ok (.iaload, 1) := by decide +kernel
theorem dX12_clears_48 : decode cX12_clears 48 = .ok (.iastore, 1) := by decide +kernel
theorem dX12_clears_49 : decode cX12_clears 49 = .ok (.iinc 2 1, 3) := by decide +kernel
theorem dX12_clears_52 : decode cX12_clears 52 = .ok (.goto (-48), 3) := by decide +kernel
theorem dX12_clears_55 : decode cX12_clears 55 = .ok (.aload_n 0, 1) := by decide +kernel
theorem dX12_clears_56 : decode cX12_clears 56 = .ok (.getfield 520, 3) := by decide +kernel
theorem dX12_clears_59 : decode cX12_clears 59 = .ok (.iload_n 1, 1) := by decide +kernel
theorem dX12_clears_60 : decode cX12_clears 60 = .ok (.aload_n 0, 1) := by decide +kernel
theorem dX12_clears_61 : decode cX12_clears 61 = .ok (.getfield 139, 3) := by decide +kernel
theorem dX12_clears_64 : decode cX12_clears 64 = .ok (.iload_n 1, 1) := by decide +kernel
theorem dX12_clears_65 : decode cX12_clears 65 = .ok (.iaload, 1) := by decide +kernel
theorem dX12_clears_66 : decode cX12_clears 66 = .ok (.iastore, 1) := by decide +kernel
theorem dX12_clears_67 : decode cX12_clears 67 = .ok (.aload_n 0, 1) := by decide +kernel
theorem dX12_clears_68 : decode cX12_clears 68 = .ok (.getfield 139, 3) := by decide +kernel
theorem dX12_clears_71 : decode cX12_clears 71 = .ok (.iload_n 1, 1) := by decide +kernel
theorem dX12_clears_72 : decode cX12_clears 72 = .ok (.iconst 0, 1) := by decide +kernel
theorem dX12_clears_73 : decode cX12_clears 73 = .ok (.iastore, 1) := by decide +kernel
theorem dX12_clears_74 : decode cX12_clears 74 = .ok (.aload_n 0, 1) := by decide +kernel
theorem dX12_clears_75 : decode cX12_clears 75 = .ok (.getfield 429, 3) := by decide +kernel
theorem dX12_clears_78 : decode cX12_clears 78 = .ok (.iload_n 1, 1) := by decide +kernel
theorem dX12_clears_79 : decode cX12_clears 79 = .ok (.iconst 1, 1) := by decide +kernel
theorem dX12_clears_80 : decode cX12_clears 80 = .ok (.bastore, 1) := by decide +kernel
theorem dX12_clears_81 : decode cX12_clears 81 = .ok (.return_, 1) := by decide +kernel
theorem dX12_putsBack_0 : decode cX12_putsBack 0 = .ok (.iconst 5, 1) := by decide +kernel
theorem dX12_putsBack_1 : decode cX12_putsBack 1 = .ok (.iload_n 1, 1) := by decide +kernel
theorem dX12_putsBack_2 : decode cX12_putsBack 2 = .ok (.imul, 1) := by decide +kernel
theorem dX12_putsBack_3 : decode cX12_putsBack 3 = .ok (.istore_n 2, 1) := by decide +kernel
theorem dX12_putsBack_4 : decode cX12_putsBack 4 = .ok (.iload_n 2, 1) := by decide +kernel
theorem dX12_putsBack_5 : decode cX12_putsBack 5 = .ok (.iconst 5, 1) := by decide +kernel
theorem dX12_putsBack_6 : decode cX12_putsBack 6 = .ok (.iload_n 1, 1) := by decide +kernel
theorem dX12_putsBack_7 : decode cX12_putsBack 7 = .ok (.imul, 1) := by decide +kernel
theorem dX12_putsBack_8 : decode cX12_putsBack 8 = .ok (.iconst 5, 1) := by decide +kernel
theorem dX12_putsBack_9 : decode cX12_putsBack 9 = .ok (.iadd, 1) := by decide +kernel
theorem dX12_putsBack_10 : decode cX12_putsBack 10 = .ok (.if_icmp .ge 45, 3) := by decide +kernel
theorem dX12_putsBack_13 : decode cX12_putsBack 13 = .ok (.aload_n 0, 1) := by decide +kernel
theorem dX12_putsBack_14 : decode cX12_putsBack 14 = .ok (.getfield 176, 3) := by decide +kernel
theorem dX12_putsBack_17 : decode cX12_putsBack 17 = .ok (.iload_n 2, 1) := by decide +kernel
theorem dX12_putsBack_18 : decode cX12_putsBack 18 = .ok (.aload_n 0, 1) := by decide +kernel
theorem dX12_putsBack_19 : decode cX12_putsBack 19 = .ok (.getfield 511, 3) := by decide +kernel
theorem dX12_putsBack_22 : decode cX12_putsBack 22 = .ok (.iload_n 2, 1) := by decide +kernel
theorem dX12_putsBack_23 : decode cX12_putsBack 23 = .ok (.iaload, 1) := by decide +kernel
theorem dX12_putsBack_24 : decode cX12_putsBack 24 = .ok (.iastore, 1) := by decide +kernel
theorem dX12_putsBack_25 : decode cX12_putsBack 25 = .ok (.aload_n 0, 1) := by decide +kernel
theorem dX12_putsBack_26 : decode cX12_putsBack 26 = .ok (.getfield 179, 3) := by decide +kernel
theorem dX12_putsBack_29 : decode cX12_putsBack 29 = .ok (.iload_n 2, 1) := by decide +kernel
theorem dX12_putsBack_30 : decode cX12_putsBack 30 = .ok (.aload_n 0, 1) := by decide +kernel
theorem dX12_putsBack_31 : decode cX12_putsBack 31 = .ok (.getfield 514, 3) := by decide +kernel
theorem dX12_putsBack_34 : decode cX12_putsBack 34 = .ok (.iload_n 2, 1) := by decide +kernel
theorem dX12_putsBack_35 : decode cX12_putsBack 35 = .ok (.iaload, 1) := by decide +kernel
theorem dX12_putsBack_36 : decode cX12_putsBack 36 = .ok (.iastore, 1) := by decide +kernel
theorem dX12_putsBack_37 : decode cX12_putsBack 37 = .ok (.aload_n 0, 1) := by decide +kernel
theorem dX12_putsBack_38 : decode cX12_putsBack 38 = .ok (.getfield 182, 3) := by decide +kernel
theorem dX12_putsBack_41 : decode cX12_putsBack 41 = .ok (.iload_n 2, 1) := by decide +kernel
theorem dX12_putsBack_42 : decode cX12_putsBack 42 = .ok (.aload_n 0, 1) := by decide +kernel
theorem dX12_putsBack_43 : decode cX12_putsBack 43 = .ok (.getfield 517, 3) := by decide +kernel
theorem dX12_putsBack_46 : decode cX12_putsBack 46 = .ok (.iload_n 2, 1) := by decide +kernel
theorem dX12_putsBack_47 : decode cX12_putsBack 47 = .ok (.iaload, 1) := by decide +kernel
theorem dX12_putsBack_48 : decode cX12_putsBack 48 = .ok (.iastore, 1) := by decide +kernel
theorem dX12_putsBack_49 : decode cX12_putsBack 49 = .ok (.iinc 2 1, 3) := by decide +kernel
theorem dX12_putsBack_52 : decode cX12_putsBack 52 = .ok (.goto (-48), 3) := by decide +kernel
theorem dX12_putsBack_55 : decode cX12_putsBack 55 = .ok (.aload_n 0, 1) := by decide +kernel
theorem dX12_putsBack_56 : decode cX12_putsBack 56 = .ok (.getfield 139, 3) := by decide +kernel
theorem dX12_putsBack_59 : decode cX12_putsBack 59 = .ok (.iload_n 1, 1) := by decide +kernel
theorem dX12_putsBack_60 : decode cX12_putsBack 60 = .ok (.aload_n 0, 1) := by decide +kernel
theorem dX12_putsBack_61 : decode cX12_putsBack 61 = .ok (.getfield 520, 3) := by decide +kernel
theorem dX12_putsBack_64 : decode cX12_putsBack 64 = .ok (.iload_n 1, 1) := by decide +kernel
theorem dX12_putsBack_65 : decode cX12_putsBack 65 = .ok (.iaload, 1) := by decide +kernel
theorem dX12_putsBack_66 : decode cX12_putsBack 66 = .ok (.iastore, 1) := by decide +kernel
theorem dX12_putsBack_67 : decode cX12_putsBack 67 = .ok (.aload_n 0, 1) := by decide +kernel
theorem dX12_putsBack_68 : decode cX12_putsBack 68 = .ok (.getfield 429, 3) := by decide +kernel
theorem dX12_putsBack_71 : decode cX12_putsBack 71 = .ok (.iload_n 1, 1) := by decide +kernel
theorem dX12_putsBack_72 : decode cX12_putsBack 72 = .ok (.iconst 0, 1) := by decide +kernel
theorem dX12_putsBack_73 : decode cX12_putsBack 73 = .ok (.bastore, 1) := by decide +kernel
theorem dX12_putsBack_74 : decode cX12_putsBack 74 = .ok (.return_, 1) := by decide +kernel
theorem dX12_isAhead_0 : decode cX12_isAhead 0 = .ok (.iload_n 0, 1) := by decide +kernel
theorem dX12_isAhead_1 : decode cX12_isAhead 1 = .ok (.ifCond .lt 7, 3) := by decide +kernel
theorem dX12_isAhead_4 : decode cX12_isAhead 4 = .ok (.iload_n 2, 1) := by decide +kernel
theorem dX12_isAhead_5 : decode cX12_isAhead 5 = .ok (.ifCond .ge 13, 3) := by decide +kernel
theorem dX12_isAhead_8 : decode cX12_isAhead 8 = .ok (.iload_n 0, 1) := by decide +kernel
theorem dX12_isAhead_9 : decode cX12_isAhead 9 = .ok (.ifCond .lt 7, 3) := by decide +kernel
theorem dX12_isAhead_12 : decode cX12_isAhead 12 = .ok (.iconst 1, 1) := by decide +kernel
theorem dX12_isAhead_13 : decode cX12_isAhead 13 = .ok (.goto 4, 3) := by decide +kernel
theorem dX12_isAhead_16 : decode cX12_isAhead 16 = .ok (.iconst 0, 1) := by decide +kernel
theorem dX12_isAhead_17 : decode cX12_isAhead 17 = .ok (.ireturn, 1) := by decide +kernel
theorem dX12_isAhead_18 : decode cX12_isAhead 18 = .ok (.iload_n 0, 1) := by decide +kernel
theorem dX12_isAhead_19 : decode cX12_isAhead 19 = .ok (.iload_n 2, 1) := by decide +kernel
theorem dX12_isAhead_20 : decode cX12_isAhead 20 = .ok (.if_icmp .lt 13, 3) := by decide +kernel
theorem dX12_isAhead_23 : decode cX12_isAhead 23 = .ok (.iload_n 0, 1) := by decide +kernel
theorem dX12_isAhead_24 : decode cX12_isAhead 24 = .ok (.iload_n 2, 1) := by decide +kernel
theorem dX12_isAhead_25 : decode cX12_isAhead 25 = .ok (.if_icmp .ne 12, 3) := by decide +kernel
theorem dX12_isAhead_28 : decode cX12_isAhead 28 = .ok (.iload_n 1, 1) := by decide +kernel
theorem dX12_isAhead_29 : decode cX12_isAhead 29 = .ok (.iload_n 3, 1) := by decide +kernel
theorem dX12_isAhead_30 : decode cX12_isAhead 30 = .ok (.if_icmp .ge 7, 3) := by decide +kernel
theorem dX12_isAhead_33 : decode cX12_isAhead 33 = .ok (.iconst 1, 1) := by decide +kernel
theorem dX12_isAhead_34 : decode cX12_isAhead 34 = .ok (.goto 4, 3) := by decide +kernel
theorem dX12_isAhead_37 : decode cX12_isAhead 37 = .ok (.iconst 0, 1) := by decide +kernel
theorem dX12_isAhead_38 : decode cX12_isAhead 38 = .ok (.ireturn, 1) := by decide +kernel
theorem dX12_tries_0 : decode cX12_tries 0 = .ok (.aload_n 0, 1) := by decide +kernel
theorem dX12_tries_1 : decode cX12_tries 1 = .ok (.getfield 139, 3) := by decide +kernel
theorem dX12_tries_4 : decode cX12_tries 4 = .ok (.iload_n 1, 1) := by decide +kernel
theorem dX12_tries_5 : decode cX12_tries 5 = .ok (.iconst 0, 1) := by decide +kernel
theorem dX12_tries_6 : decode cX12_tries 6 = .ok (.iastore, 1) := by decide +kernel
theorem dX12_tries_7 : decode cX12_tries 7 = .ok (.iload_n 3, 1) := by decide +kernel
theorem dX12_tries_8 : decode cX12_tries 8 = .ok (.ifCond .le 15, 3) := by decide +kernel
theorem dX12_tries_11 : decode cX12_tries 11 = .ok (.aload_n 0, 1) := by decide +kernel
theorem dX12_tries_12 : decode cX12_tries 12 = .ok (.iload_n 1, 1) := by decide +kernel
theorem dX12_tries_13 : decode cX12_tries 13 = .ok (.iload 4, 2) := by decide +kernel
theorem dX12_tries_15 : decode cX12_tries 15 = .ok (.iload 6, 2) := by decide +kernel
theorem dX12_tries_17 : decode cX12_tries 17 = .ok (.sipush 200, 3) := by decide +kernel
theorem dX12_tries_20 : decode cX12_tries 20 = .ok (.invokevirtual 172, 3) := by decide +kernel
theorem dX12_tries_23 : decode cX12_tries 23 = .ok (.iload_n 3, 1) := by decide +kernel
theorem dX12_tries_24 : decode cX12_tries 24 = .ok (.iconst 1, 1) := by decide +kernel
theorem dX12_tries_25 : decode cX12_tries 25 = .ok (.if_icmp .le 15, 3) := by decide +kernel
theorem dX12_tries_28 : decode cX12_tries 28 = .ok (.aload_n 0, 1) := by decide +kernel
theorem dX12_tries_29 : decode cX12_tries 29 = .ok (.iload_n 1, 1) := by decide +kernel
theorem dX12_tries_30 : decode cX12_tries 30 = .ok (.iload 5, 2) := by decide +kernel
theorem dX12_tries_32 : decode cX12_tries 32 = .ok (.iload 7, 2) := by decide +kernel
theorem dX12_tries_34 : decode cX12_tries 34 = .ok (.sipush 200, 3) := by decide +kernel
theorem dX12_tries_37 : decode cX12_tries 37 = .ok (.invokevirtual 172, 3) := by decide +kernel
theorem dX12_tries_40 : decode cX12_tries 40 = .ok (.aload_n 0, 1) := by decide +kernel
theorem dX12_tries_41 : decode cX12_tries 41 = .ok (.iload_n 2, 1) := by decide +kernel
theorem dX12_tries_42 : decode cX12_tries 42 = .ok (.invokevirtual 502, 3) := by decide +kernel
theorem dX12_tries_45 : decode cX12_tries 45 = .ok (.aload_n 0, 1) := by decide +kernel
theorem dX12_tries_46 : decode cX12_tries 46 = .ok (.iload_n 1, 1) := by decide +kernel
theorem dX12_tries_47 : decode cX12_tries 47 = .ok (.iconst 0, 1) := by decide +kernel
theorem dX12_tries_48 : decode cX12_tries 48 = .ok (.invokevirtual 505, 3) := by decide +kernel
theorem dX12_tries_51 : decode cX12_tries 51 = .ok (.istore 8, 2) := by decide +kernel
theorem dX12_tries_53 : decode cX12_tries 53 = .ok (.aload_n 0, 1) := by decide +kernel
theorem dX12_tries_54 : decode cX12_tries 54 = .ok (.getfield 523, 3) := by decide +kernel
theorem dX12_tries_57 : decode cX12_tries 57 = .ok (.ifCond .eq 25, 3) := by decide +kernel
theorem dX12_tries_60 : decode cX12_tries 60 = .ok (.iload 8, 2) := by decide +kernel
theorem dX12_tries_62 : decode cX12_tries 62 = .ok (.aload_n 0, 1) := by decide +kernel
theorem dX12_tries_63 : decode cX12_tries 63 = .ok (.getfield 493, 3) := by decide +kernel
theorem dX12_tries_66 : decode cX12_tries 66 = .ok (.iload_n 1, 1) := by decide +kernel
theorem dX12_tries_67 : decode cX12_tries 67 = .ok (.iaload, 1) := by decide +kernel
theorem dX12_tries_68 : decode cX12_tries 68 = .ok (.aload_n 0, 1) := by decide +kernel
theorem dX12_tries_69 : decode cX12_tries 69 = .ok (.getfield 527, 3) := by decide +kernel
theorem dX12_tries_72 : decode cX12_tries 72 = .ok (.aload_n 0, 1) := by decide +kernel
theorem dX12_tries_73 : decode cX12_tries 73 = .ok (.getfield 530, 3) := by decide +kernel
theorem dX12_tries_76 : decode cX12_tries 76 = .ok (.invokestatic 533, 3) := by decide +kernel
theorem dX12_tries_79 : decode cX12_tries 79 = .ok (.ifCond .eq 56, 3) := by decide +kernel
theorem dX12_tries_82 : decode cX12_tries 82 = .ok (.aload_n 0, 1) := by decide +kernel
theorem dX12_tries_83 : decode cX12_tries 83 = .ok (.iconst 1, 1) := by decide +kernel
theorem dX12_tries_84 : decode cX12_tries 84 = .ok (.putfield 523, 3) := by decide +kernel
theorem dX12_tries_87 : decode cX12_tries 87 = .ok (.aload_n 0, 1) := by decide +kernel
theorem dX12_tries_88 : decode cX12_tries 88 = .ok (.iload 8, 2) := by decide +kernel
theorem dX12_tries_90 : decode cX12_tries 90 = .ok (.putfield 527, 3) := by decide +kernel
theorem dX12_tries_93 : decode cX12_tries 93 = .ok (.aload_n 0, 1) := by decide +kernel
theorem dX12_tries_94 : decode cX12_tries 94 = .ok (.aload_n 0, 1) := by decide +kernel
theorem dX12_tries_95 : decode cX12_tries 95 = .ok (.getfield 493, 3) := by decide +kernel
theorem dX12_tries_98 : decode cX12_tries 98 = .ok (.iload_n 1, 1) := by decide +kernel
theorem dX12_tries_99 : decode cX12_tries 99 = .ok (.iaload, 1) := by decide +kernel
theorem dX12_tries_100 : decode cX12_tries 100 = .ok (.putfield 530, 3) := by decide +kernel
theorem dX12_tries_103 : decode cX12_tries 103 = .ok (.aload_n 0, 1) := by decide +kernel
theorem dX12_tries_104 : decode cX12_tries 104 = .ok (.getfield 537, 3) := by decide +kernel
theorem dX12_tries_107 : decode cX12_tries 107 = .ok (.iconst 0, 1) := by decide +kernel
theorem dX12_tries_108 : decode cX12_tries 108 = .ok (.iload 4, 2) := by decide +kernel
theorem dX12_tries_110 : decode cX12_tries 110 = .ok (.iastore, 1) := by decide +kernel
theorem dX12_tries_111 : decode cX12_tries 111 = .ok (.aload_n 0, 1) := by decide +kernel
theorem dX12_tries_112 : decode cX12_tries 112 = .ok (.getfield 537, 3) := by decide +kernel
theorem dX12_tries_115 : decode cX12_tries 115 = .ok (.iconst 1, 1) := by decide +kernel
theorem dX12_tries_116 : decode cX12_tries 116 = .ok (.iload 5, 2) := by decide +kernel
theorem dX12_tries_118 : decode cX12_tries 118 = .ok (.iastore, 1) := by decide +kernel
theorem dX12_tries_119 : decode cX12_tries 119 = .ok (.aload_n 0, 1) := by decide +kernel
theorem dX12_tries_120 : decode cX12_tries 120 = .ok (.getfield 540, 3) := by decide +kernel
theorem dX12_tries_123 : decode cX12_tries 123 = .ok (.iconst 0, 1) := by decide +kernel
theorem dX12_tries_124 : decode cX12_tries 124 = .ok (.iload 6, 2) := by decide +kernel
theorem dX12_tries_126 : decode cX12_tries 126 = .ok (.iastore, 1) := by decide +kernel
theorem dX12_tries_127 : decode cX12_tries 127 = .ok (.aload_n 0, 1) := by decide +kernel
theorem dX12_tries_128 : decode cX12_tries 128 = .ok (.getfield 540, 3) := by decide +kernel
theorem dX12_tries_131 : decode cX12_tries 131 = .ok (.iconst 1, 1) := by decide +kernel
theorem dX12_tries_132 : decode cX12_tries 132 = .ok (.iload 7, 2) := by decide +kernel
theorem dX12_tries_134 : decode cX12_tries 134 = .ok (.iastore, 1) := by decide +kernel
theorem dX12_tries_135 : decode cX12_tries 135 = .ok (.return_, 1) := by decide +kernel
theorem dX12_bests_0 : decode cX12_bests 0 = .ok (.aload_n 0, 1) := by decide +kernel
theorem dX12_bests_1 : decode cX12_bests 1 = .ok (.iconst 0, 1) := by decide +kernel
theorem dX12_bests_2 : decode cX12_bests 2 = .ok (.putfield 523, 3) := by decide +kernel
theorem dX12_bests_5 : decode cX12_bests 5 = .ok (.aload_n 0, 1) := by decide +kernel
theorem dX12_bests_6 : decode cX12_bests 6 = .ok (.iload_n 1, 1) := by decide +kernel
theorem dX12_bests_7 : decode cX12_bests 7 = .ok (.invokevirtual 543, 3) := by decide +kernel
theorem dX12_bests_10 : decode cX12_bests 10 = .ok (.iconst 0, 1) := by decide +kernel
theorem dX12_bests_11 : decode cX12_bests 11 = .ok (.istore 4, 2) := by decide +kernel
theorem dX12_bests_13 : decode cX12_bests 13 = .ok (.iload 4, 2) := by decide +kernel
theorem dX12_bests_15 : decode cX12_bests 15 = .ok (.iload_n 2, 1) := by decide +kernel
theorem dX12_bests_16 : decode cX12_bests 16 = .ok (.ifCond .le 12, 3) := by decide +kernel
theorem dX12_bests_19 : decode cX12_bests 19 = .ok (.aload_n 0, 1) := by decide +kernel
theorem dX12_bests_20 : decode cX12_bests 20 = .ok (.getfield 10, 3) := by decide +kernel
theorem dX12_bests_23 : decode cX12_bests 23 = .ok (.iconst 1, 1) := by decide +kernel
theorem dX12_bests_24 : decode cX12_bests 24 = .ok (.isub, 1) := by decide +kernel
theorem dX12_bests_25 : decode cX12_bests 25 = .ok (.goto 4, 3) := by decide +kernel
theorem dX12_bests_28 : decode cX12_bests 28 = .ok (.iconst 1, 1) := by decide +kernel
theorem dX12_bests_29 : decode cX12_bests 29 = .ok (.if_icmp .ge 122, 3) := by decide +kernel
theorem dX12_bests_32 : decode cX12_bests 32 = .ok (.iload_n 2, 1) := by decide +kernel
theorem dX12_bests_33 : decode cX12_bests 33 = .ok (.iconst 1, 1) := by decide +kernel
theorem dX12_bests_34 : decode cX12_bests 34 = .ok (.if_icmp .le 10, 3) := by decide +kernel
theorem dX12_bests_37 : decode cX12_bests 37 = .ok (.iload 4, 2) := by decide +kernel
theorem dX12_bests_39 : decode cX12_bests 39 = .ok (.iconst 1, 1) := by decide +kernel
theorem dX12_bests_40 : decode cX12_bests 40 = .ok (.iadd, 1) := by decide +kernel
theorem dX12_bests_41 : decode cX12_bests 41 = .ok (.goto 4, 3) := by decide +kernel
theorem dX12_bests_44 : decode cX12_bests 44 = .ok (.iconst 0, 1) := by decide +kernel
theorem dX12_bests_45 : decode cX12_bests 45 = .ok (.istore 5, 2) := by decide +kernel
theorem dX12_bests_47 : decode cX12_bests 47 = .ok (.iload 5, 2) := by decide +kernel
theorem dX12_bests_49 : decode cX12_bests 49 = .ok (.iload_n 2, 1) := by decide +kernel
theorem dX12_bests_50 : decode cX12_bests 50 = .ok (.iconst 1, 1) := by decide +kernel
theorem dX12_bests_51 : decode cX12_bests 51 = .ok (.if_icmp .le 12, 3) := by decide +kernel
theorem dX12_bests_54 : decode cX12_bests 54 = .ok (.aload_n 0, 1) := by decide +kernel
theorem dX12_bests_55 : decode cX12_bests 55 = .ok (.getfield 10, 3) := by decide +kernel
theorem dX12_bests_58 : decode cX12_bests 58 = .ok (.iconst 1, 1) := by decide +kernel
theorem dX12_bests_59 : decode cX12_bests 59 = .ok (.isub, 1) := by decide +kernel
theorem dX12_bests_60 : decode cX12_bests 60 = .ok (.goto 4, 3) := by decide +kernel
theorem dX12_bests_63 : decode cX12_bests 63 = .ok (.iconst 1, 1) := by decide +kernel
theorem dX12_bests_64 : decode cX12_bests 64 = .ok (.if_icmp .ge 81, 3) := by decide +kernel
theorem dX12_bests_67 : decode cX12_bests 67 = .ok (.iconst 0, 1) := by decide +kernel
theorem dX12_bests_68 : decode cX12_bests 68 = .ok (.istore 6, 2) := by decide +kernel
theorem dX12_bests_70 : decode cX12_bests 70 = .ok (.iload 6, 2) := by decide +kernel
theorem dX12_bests_72 : decode cX12_bests 72 = .ok (.iload_n 2, 1) := by decide +kernel
theorem dX12_bests_73 : decode cX12_bests 73 = .ok (.ifCond .le 12, 3) := by decide +kernel
theorem dX12_bests_76 : decode cX12_bests 76 = .ok (.aload_n 0, 1) := by decide +kernel
theorem dX12_bests_77 : decode cX12_bests 77 = .ok (.getfield 133, 3) := by decide +kernel
theorem dX12_bests_80 : decode cX12_bests 80 = .ok (.iload_n 1, 1) := by decide +kernel
theorem dX12_bests_81 : decode cX12_bests 81 = .ok (.iaload, 1) := by decide +kernel
theorem dX12_bests_82 : decode cX12_bests 82 = .ok (.goto 4, 3) := by decide +kernel
theorem dX12_bests_85 : decode cX12_bests 85 = .ok (.iconst 1, 1) := by decide +kernel
theorem dX12_bests_86 : decode cX12_bests 86 = .ok (.if_icmp .ge 53, 3) := by decide +kernel
theorem dX12_bests_89 : decode cX12_bests 89 = .ok (.iconst 0, 1) := by decide +kernel
theorem dX12_bests_90 : decode cX12_bests 90 = .ok (.istore 7, 2) := by decide +kernel
theorem dX12_bests_92 : decode cX12_bests 92 = .ok (.iload 7, 2) := by decide +kernel
theorem dX12_bests_94 : decode cX12_bests 94 = .ok (.iload_n 2, 1) := by decide +kernel
theorem dX12_bests_95 : decode cX12_bests 95 = .ok (.iconst 1, 1) := by decide +kernel
theorem dX12_bests_96 : decode cX12_bests 96 = .ok (.if_icmp .le 12, 3) := by decide +kernel
theorem dX12_bests_99 : decode cX12_bests 99 = .ok (.aload_n 0, 1) := by decide +kernel
theorem dX12_bests_100 : decode cX12_bests 100 = .ok (.getfield 133, 3) := by decide +kernel
theorem dX12_bests_103 : decode cX12_bests 103 = .ok (.iload_n 1, 1) := by decide +kernel
theorem dX12_bests_104 : decode cX12_bests 104 = .ok (.iaload, 1) := by decide +kernel
theorem dX12_bests_105 : decode cX12_bests 105 = .ok (.goto 4, 3) := by decide +kernel
theorem dX12_bests_108 : decode cX12_bests 108 = .ok (.iconst 1, 1) := by decide +kernel
theorem dX12_bests_109 : decode cX12_bests 109 = .ok (.if_icmp .ge 24, 3) := by decide +kernel
theorem dX12_bests_112 : decode cX12_bests 112 = .ok (.aload_n 0, 1) := by decide +kernel
theorem dX12_bests_113 : decode cX12_bests 113 = .ok (.iload_n 1, 1) := by decide +kernel
theorem dX12_bests_114 : decode cX12_bests 114 = .ok (.iload_n 3, 1) := by decide +kernel
theorem dX12_bests_115 : decode cX12_bests 115 = .ok (.iload_n 2, 1) := by decide +kernel
theorem dX12_bests_116 : decode cX12_bests 116 = .ok (.iload 4, 2) := by decide +kernel
theorem dX12_bests_118 : decode cX12_bests 118 = .ok (.iload 5, 2) := by decide +kernel
theorem dX12_bests_120 : decode cX12_bests 120 = .ok (.iload 6, 2) := by decide +kernel
theorem dX12_bests_122 : decode cX12_bests 122 = .ok (.iload 7, 2) := by decide +kernel
theorem dX12_bests_124 : decode cX12_bests 124 = .ok (.invokevirtual 546, 3) := by decide +kernel
theorem dX12_bests_127 : decode cX12_bests 127 = .ok (.iinc 7 1, 3) := by decide +kernel
theorem dX12_bests_130 : decode cX12_bests 130 = .ok (.goto (-38), 3) := by decide +kernel
theorem dX12_bests_133 : decode cX12_bests 133 = .ok (.iinc 6 1, 3) := by decide +kernel
theorem dX12_bests_136 : decode cX12_bests 136 = .ok (.goto (-66), 3) := by decide +kernel
theorem dX12_bests_139 : decode cX12_bests 139 = .ok (.iinc 5 1, 3) := by decide +kernel
theorem dX12_bests_142 : decode cX12_bests 142 = .ok (.goto (-95), 3) := by decide +kernel
theorem dX12_bests_145 : decode cX12_bests 145 = .ok (.iinc 4 1, 3) := by decide +kernel
theorem dX12_bests_148 : decode cX12_bests 148 = .ok (.goto (-135), 3) := by decide +kernel
theorem dX12_bests_151 : decode cX12_bests 151 = .ok (.aload_n 0, 1) := by decide +kernel
theorem dX12_bests_152 : decode cX12_bests 152 = .ok (.iload_n 1, 1) := by decide +kernel
theorem dX12_bests_153 : decode cX12_bests 153 = .ok (.invokevirtual 550, 3) := by decide +kernel
theorem dX12_bests_156 : decode cX12_bests 156 = .ok (.aload_n 0, 1) := by decide +kernel
theorem dX12_bests_157 : decode cX12_bests 157 = .ok (.getfield 523, 3) := by decide +kernel
theorem dX12_bests_160 : decode cX12_bests 160 = .ok (.ireturn, 1) := by decide +kernel
theorem dX12_isAsked_0 : decode cX12_isAsked 0 = .ok (.aload_n 0, 1) := by decide +kernel
theorem dX12_isAsked_1 : decode cX12_isAsked 1 = .ok (.iload_n 1, 1) := by decide +kernel
theorem dX12_isAsked_2 : decode cX12_isAsked 2 = .ok (.invokevirtual 145, 3) := by decide +kernel
theorem dX12_isAsked_5 : decode cX12_isAsked 5 = .ok (.ifCond .eq 26, 3) := by decide +kernel
theorem dX12_isAsked_8 : decode cX12_isAsked 8 = .ok (.iload_n 2, 1) := by decide +kernel
theorem dX12_isAsked_9 : decode cX12_isAsked 9 = .ok (.i2l, 1) := by decide +kernel
theorem dX12_isAsked_10 : decode cX12_isAsked 10 = .ok (.lconst 0, 1) := by decide +kernel
theorem dX12_isAsked_11 : decode cX12_isAsked 11 = .ok (.ldc2_w 46, 3) := by decide +kernel
theorem dX12_isAsked_14 : decode cX12_isAsked 14 = .ok (.invokestatic 42, 3) := by decide +kernel
theorem dX12_isAsked_17 : decode cX12_isAsked 17 = .ok (.ifCond .eq 14, 3) := by decide +kernel
theorem dX12_isAsked_20 : decode cX12_isAsked 20 = .ok (.iload_n 3, 1) := by decide +kernel
theorem dX12_isAsked_21 : decode cX12_isAsked 21 = .ok (.invokestatic 462, 3) := by decide +kernel
theorem dX12_isAsked_24 : decode cX12_isAsked 24 = .ok (.ifCond .eq 7, 3) := by decide +kernel
theorem dX12_isAsked_27 : decode cX12_isAsked 27 = .ok (.iconst 1, 1) := by decide +kernel
theorem dX12_isAsked_28 : decode cX12_isAsked 28 = .ok (.goto 4, 3) := by decide +kernel
theorem dX12_isAsked_31 : decode cX12_isAsked 31 = .ok (.iconst 0, 1) := by decide +kernel
theorem dX12_isAsked_32 : decode cX12_isAsked 32 = .ok (.ireturn, 1) := by decide +kernel
theorem dX12_best_0 : decode cX12_best 0 = .ok (.aload_n 0, 1) := by decide +kernel
theorem dX12_best_1 : decode cX12_best 1 = .ok (.iconst 0, 1) := by decide +kernel
theorem dX12_best_2 : decode cX12_best 2 = .ok (.putfield 3, 3) := by decide +kernel
theorem dX12_best_5 : decode cX12_best 5 = .ok (.aload_n 0, 1) := by decide +kernel
theorem dX12_best_6 : decode cX12_best 6 = .ok (.iload_n 1, 1) := by decide +kernel
theorem dX12_best_7 : decode cX12_best 7 = .ok (.iload_n 2, 1) := by decide +kernel
theorem dX12_best_8 : decode cX12_best 8 = .ok (.iload_n 3, 1) := by decide +kernel
theorem dX12_best_9 : decode cX12_best 9 = .ok (.invokevirtual 553, 3) := by decide +kernel
theorem dX12_best_12 : decode cX12_best 12 = .ok (.ifCond .eq 13, 3) := by decide +kernel
theorem dX12_best_15 : decode cX12_best 15 = .ok (.aload_n 0, 1) := by decide +kernel
theorem dX12_best_16 : decode cX12_best 16 = .ok (.iload_n 1, 1) := by decide +kernel
theorem dX12_best_17 : decode cX12_best 17 = .ok (.iload_n 2, 1) := by decide +kernel
theorem dX12_best_18 : decode cX12_best 18 = .ok (.iload_n 3, 1) := by decide +kernel
theorem dX12_best_19 : decode cX12_best 19 = .ok (.invokevirtual 557, 3) := by decide +kernel
theorem dX12_best_22 : decode cX12_best 22 = .ok (.ifCond .ne 5, 3) := by decide +kernel
theorem dX12_best_25 : decode cX12_best 25 = .ok (.iconst (-1), 1) := by decide +kernel
theorem dX12_best_26 : decode cX12_best 26 = .ok (.ireturn, 1) := by decide +kernel
theorem dX12_best_27 : decode cX12_best 27 = .ok (.aload_n 0, 1) := by decide +kernel
theorem dX12_best_28 : decode cX12_best 28 = .ok (.iconst 2, 1) := by decide +kernel
theorem dX12_best_29 : decode cX12_best 29 = .ok (.iload_n 2, 1) := by decide +kernel
theorem dX12_best_30 : decode cX12_best 30 = .ok (.imul, 1) := by decide +kernel
theorem dX12_best_31 : decode cX12_best 31 = .ok (.putfield 185, 3) := by decide +kernel
theorem dX12_best_34 : decode cX12_best 34 = .ok (.iconst 0, 1) := by decide +kernel
theorem dX12_best_35 : decode cX12_best 35 = .ok (.istore 4, 2) := by decide +kernel
theorem dX12_best_37 : decode cX12_best 37 = .ok (.iload 4, 2) := by decide +kernel
theorem dX12_best_39 : decode cX12_best 39 = .ok (.iload_n 2, 1) := by decide +kernel
theorem dX12_best_40 : decode cX12_best 40 = .ok (.if_icmp .ge 43, 3) := by decide +kernel
theorem dX12_best_43 : decode cX12_best 43 = .ok (.aload_n 0, 1) := by decide +kernel
theorem dX12_best_44 : decode cX12_best 44 = .ok (.getfield 508, 3) := by decide +kernel
theorem dX12_best_47 : decode cX12_best 47 = .ok (.iconst 2, 1) := by decide +kernel
theorem dX12_best_48 : decode cX12_best 48 = .ok (.iload 4, 2) := by decide +kernel
theorem dX12_best_50 : decode cX12_best 50 = .ok (.imul, 1) := by decide +kernel
theorem dX12_best_51 : decode cX12_best 51 = .ok (.aload_n 0, 1) := by decide +kernel
theorem dX12_best_52 : decode cX12_best 52 = .ok (.getfield 537, 3) := by decide +kernel
theorem dX12_best_55 : decode cX12_best 55 = .ok (.iload 4, 2) := by decide +kernel
theorem dX12_best_57 : decode cX12_best 57 = .ok (.iaload, 1) := by decide +kernel
theorem dX12_best_58 : decode cX12_best 58 = .ok (.iastore, 1) := by decide +kernel
theorem dX12_best_59 : decode cX12_best 59 = .ok (.aload_n 0, 1) := by decide +kernel
theorem dX12_best_60 : decode cX12_best 60 = .ok (.getfield 508, 3) := by decide +kernel
theorem dX12_best_63 : decode cX12_best 63 = .ok (.iconst 2, 1) := by decide +kernel
theorem dX12_best_64 : decode cX12_best 64 = .ok (.iload 4, 2) := by decide +kernel
theorem dX12_best_66 : decode cX12_best 66 = .ok (.imul, 1) := by decide +kernel
theorem dX12_best_67 : decode cX12_best 67 = .ok (.iconst 1, 1) := by decide +kernel
theorem dX12_best_68 : decode cX12_best 68 = .ok (.iadd, 1) := by decide +kernel
theorem dX12_best_69 : decode cX12_best 69 = .ok (.aload_n 0, 1) := by decide +kernel
theorem dX12_best_70 : decode cX12_best 70 = .ok (.getfield 540, 3) := by decide +kernel
theorem dX12_best_73 : decode cX12_best 73 = .ok (.iload 4, 2) := by decide +kernel
theorem dX12_best_75 : decode cX12_best 75 = .ok (.iaload, 1) := by decide +kernel
theorem dX12_best_76 : decode cX12_best 76 = .ok (.iastore, 1) := by decide +kernel
theorem dX12_best_77 : decode cX12_best 77 = .ok (.iinc 4 1, 3) := by decide +kernel
theorem dX12_best_80 : decode cX12_best 80 = .ok (.goto (-43), 3) := by decide +kernel
theorem dX12_best_83 : decode cX12_best 83 = .ok (.aload_n 0, 1) := by decide +kernel
theorem dX12_best_84 : decode cX12_best 84 = .ok (.getfield 527, 3) := by decide +kernel
theorem dX12_best_87 : decode cX12_best 87 = .ok (.ifCond .ge 8, 3) := by decide +kernel
theorem dX12_best_90 : decode cX12_best 90 = .ok (.bipush (-2), 2) := by decide +kernel
theorem dX12_best_92 : decode cX12_best 92 = .ok (.goto 7, 3) := by decide +kernel
theorem dX12_best_95 : decode cX12_best 95 = .ok (.aload_n 0, 1) := by decide +kernel
theorem dX12_best_96 : decode cX12_best 96 = .ok (.getfield 527, 3) := by decide +kernel
theorem dX12_best_99 : decode cX12_best 99 = .ok (.ireturn, 1) := by decide +kernel
theorem dX12_gain_0 : decode cX12_gain 0 = .ok (.aload_n 0, 1) := by decide +kernel
theorem dX12_gain_1 : decode cX12_gain 1 = .ok (.iconst 0, 1) := by decide +kernel
theorem dX12_gain_2 : decode cX12_gain 2 = .ok (.putfield 3, 3) := by decide +kernel
theorem dX12_gain_5 : decode cX12_gain 5 = .ok (.aload_n 0, 1) := by decide +kernel
theorem dX12_gain_6 : decode cX12_gain 6 = .ok (.iload_n 1, 1) := by decide +kernel
theorem dX12_gain_7 : decode cX12_gain 7 = .ok (.iload_n 2, 1) := by decide +kernel
theorem dX12_gain_8 : decode cX12_gain 8 = .ok (.iload_n 3, 1) := by decide +kernel
theorem dX12_gain_9 : decode cX12_gain 9 = .ok (.invokevirtual 553, 3) := by decide +kernel
theorem dX12_gain_12 : decode cX12_gain 12 = .ok (.ifCond .eq 13, 3) := by decide +kernel
theorem dX12_gain_15 : decode cX12_gain 15 = .ok (.aload_n 0, 1) := by decide +kernel
theorem dX12_gain_16 : decode cX12_gain 16 = .ok (.iload_n 1, 1) := by decide +kernel
theorem dX12_gain_17 : decode cX12_gain 17 = .ok (.iload_n 2, 1) := by decide +kernel
theorem dX12_gain_18 : decode cX12_gain 18 = .ok (.iload_n 3, 1) := by decide +kernel
theorem dX12_gain_19 : decode cX12_gain 19 = .ok (.invokevirtual 557, 3) := by decide +kernel
theorem dX12_gain_22 : decode cX12_gain 22 = .ok (.ifCond .ne 5, 3) := by decide +kernel
theorem dX12_gain_25 : decode cX12_gain 25 = .ok (.iconst (-1), 1) := by decide +kernel
theorem dX12_gain_26 : decode cX12_gain 26 = .ok (.ireturn, 1) := by decide +kernel
theorem dX12_gain_27 : decode cX12_gain 27 = .ok (.aload_n 0, 1) := by decide +kernel
theorem dX12_gain_28 : decode cX12_gain 28 = .ok (.getfield 527, 3) := by decide +kernel
theorem dX12_gain_31 : decode cX12_gain 31 = .ok (.ifCond .ge 10, 3) := by decide +kernel
theorem dX12_gain_34 : decode cX12_gain 34 = .ok (.aload_n 0, 1) := by decide +kernel
theorem dX12_gain_35 : decode cX12_gain 35 = .ok (.getfield 30, 3) := by decide +kernel
theorem dX12_gain_38 : decode cX12_gain 38 = .ok (.goto 7, 3) := by decide +kernel
theorem dX12_gain_41 : decode cX12_gain 41 = .ok (.aload_n 0, 1) := by decide +kernel
theorem dX12_gain_42 : decode cX12_gain 42 = .ok (.getfield 527, 3) := by decide +kernel
theorem dX12_gain_45 : decode cX12_gain 45 = .ok (.istore 4, 2) := by decide +kernel
theorem dX12_gain_47 : decode cX12_gain 47 = .ok (.aload_n 0, 1) := by decide +kernel
theorem dX12_gain_48 : decode cX12_gain 48 = .ok (.iload_n 3, 1) := by decide +kernel
theorem dX12_gain_49 : decode cX12_gain 49 = .ok (.invokevirtual 502, 3) := by decide +kernel
theorem dX12_gain_52 : decode cX12_gain 52 = .ok (.aload_n 0, 1) := by decide +kernel
theorem dX12_gain_53 : decode cX12_gain 53 = .ok (.iload_n 1, 1) := by decide +kernel
theorem dX12_gain_54 : decode cX12_gain 54 = .ok (.iconst 0, 1) := by decide +kernel
theorem dX12_gain_55 : decode cX12_gain 55 = .ok (.invokevirtual 505, 3) := by decide +kernel
theorem dX12_gain_58 : decode cX12_gain 58 = .ok (.istore 5, 2) := by decide +kernel
theorem dX12_gain_60 : decode cX12_gain 60 = .ok (.iconst 0, 1) := by decide +kernel
theorem dX12_gain_61 : decode cX12_gain 61 = .ok (.iload 5, 2) := by decide +kernel
theorem dX12_gain_63 : decode cX12_gain 63 = .ok (.ifCond .ge 10, 3) := by decide +kernel
theorem dX12_gain_66 : decode cX12_gain 66 = .ok (.aload_n 0, 1) := by decide +kernel
theorem dX12_gain_67 : decode cX12_gain 67 = .ok (.getfield 30, 3) := by decide +kernel
theorem dX12_gain_70 : decode cX12_gain 70 = .ok (.goto 5, 3) := by decide +kernel
theorem dX12_gain_73 : decode cX12_gain 73 = .ok (.iload 5, 2) := by decide +kernel
theorem dX12_gain_75 : decode cX12_gain 75 = .ok (.iload 4, 2) := by decide +kernel
theorem dX12_gain_77 : decode cX12_gain 77 = .ok (.isub, 1) := by decide +kernel
theorem dX12_gain_78 : decode cX12_gain 78 = .ok (.invokestatic 395, 3) := by decide +kernel
theorem dX12_gain_81 : decode cX12_gain 81 = .ok (.ireturn, 1) := by decide +kernel
theorem dX12_option_0 : decode cX12_option 0 = .ok (.aload_n 0, 1) := by decide +kernel
theorem dX12_option_1 : decode cX12_option 1 = .ok (.iconst 0, 1) := by decide +kernel
theorem dX12_option_2 : decode cX12_option 2 = .ok (.putfield 3, 3) := by decide +kernel
theorem dX12_option_5 : decode cX12_option 5 = .ok (.aload_n 0, 1) := by decide +kernel
theorem dX12_option_6 : decode cX12_option 6 = .ok (.iload_n 1, 1) := by decide +kernel
theorem dX12_option_7 : decode cX12_option 7 = .ok (.invokevirtual 145, 3) := by decide +kernel
theorem dX12_option_10 : decode cX12_option 10 = .ok (.ifCond .eq 27, 3) := by decide +kernel
theorem dX12_option_13 : decode cX12_option 13 = .ok (.iload_n 2, 1) := by decide +kernel
theorem dX12_option_14 : decode cX12_option 14 = .ok (.iconst (-1), 1) := by decide +kernel
theorem dX12_option_15 : decode cX12_option 15 = .ok (.if_icmp .eq 11, 3) := by decide +kernel
theorem dX12_option_18 : decode cX12_option 18 = .ok (.aload_n 0, 1) := by decide +kernel
theorem dX12_option_19 : decode cX12_option 19 = .ok (.iload_n 2, 1) := by decide +kernel
theorem dX12_option_20 : decode cX12_option 20 = .ok (.invokevirtual 166, 3) := by decide +kernel
theorem dX12_option_23 : decode cX12_option 23 = .ok (.ifCond .eq 14, 3) := by decide +kernel
theorem dX12_option_26 : decode cX12_option 26 = .ok (.iload_n 3, 1) := by decide +kernel
theorem dX12_option_27 : decode cX12_option 27 = .ok (.invokestatic 169, 3) := by decide +kernel
theorem dX12_option_30 : decode cX12_option 30 = .ok (.ifCond .eq 7, 3) := by decide +kernel
theorem dX12_option_33 : decode cX12_option 33 = .ok (.iconst 1, 1) := by decide +kernel
theorem dX12_option_34 : decode cX12_option 34 = .ok (.goto 4, 3) := by decide +kernel
theorem dX12_option_37 : decode cX12_option 37 = .ok (.iconst 0, 1) := by decide +kernel
theorem dX12_option_38 : decode cX12_option 38 = .ok (.istore 4, 2) := by decide +kernel
theorem dX12_option_40 : decode cX12_option 40 = .ok (.iload 4, 2) := by decide +kernel
theorem dX12_option_42 : decode cX12_option 42 = .ok (.ifCond .eq 13, 3) := by decide +kernel
theorem dX12_option_45 : decode cX12_option 45 = .ok (.aload_n 0, 1) := by decide +kernel
theorem dX12_option_46 : decode cX12_option 46 = .ok (.getfield 39, 3) := by decide +kernel
theorem dX12_option_49 : decode cX12_option 49 = .ok (.iload_n 1, 1) := by decide +kernel
theorem dX12_option_50 : decode cX12_option 50 = .ok (.iaload, 1) := by decide +kernel
theorem dX12_option_51 : decode cX12_option 51 = .ok (.iconst 4, 1) := by decide +kernel
theorem dX12_option_52 : decode cX12_option 52 = .ok (.if_icmp .ne 5, 3) := by decide +kernel
theorem dX12_option_55 : decode cX12_option 55 = .ok (.iconst (-1), 1) := by decide +kernel
theorem dX12_option_56 : decode cX12_option 56 = .ok (.ireturn, 1) := by decide +kernel
theorem dX12_option_57 : decode cX12_option 57 = .ok (.aload_n 0, 1) := by decide +kernel
theorem dX12_option_58 : decode cX12_option 58 = .ok (.getfield 560, 3) := by decide +kernel
theorem dX12_option_61 : decode cX12_option 61 = .ok (.iconst 4, 1) := by decide +kernel
theorem dX12_option_62 : decode cX12_option 62 = .ok (.iload_n 1, 1) := by decide +kernel
theorem dX12_option_63 : decode cX12_option 63 = .ok (.imul, 1) := by decide +kernel
theorem dX12_option_64 : decode cX12_option 64 = .ok (.aload_n 0, 1) := by decide +kernel
theorem dX12_option_65 : decode cX12_option 65 = .ok (.getfield 39, 3) := by decide +kernel
theorem dX12_option_68 : decode cX12_option 68 = .ok (.iload_n 1, 1) := by decide +kernel
theorem dX12_option_69 : decode cX12_option 69 = .ok (.iaload, 1) := by decide +kernel
theorem dX12_option_70 : decode cX12_option 70 = .ok (.iadd, 1) := by decide +kernel
theorem dX12_option_71 : decode cX12_option 71 = .ok (.iload_n 2, 1) := by decide +kernel
theorem dX12_option_72 : decode cX12_option 72 = .ok (.iastore, 1) := by decide +kernel
theorem dX12_option_73 : decode cX12_option 73 = .ok (.aload_n 0, 1) := by decide +kernel
theorem dX12_option_74 : decode cX12_option 74 = .ok (.getfield 563, 3) := by decide +kernel
theorem dX12_option_77 : decode cX12_option 77 = .ok (.iconst 4, 1) := by decide +kernel
theorem dX12_option_78 : decode cX12_option 78 = .ok (.iload_n 1, 1) := by decide +kernel
theorem dX12_option_79 : decode cX12_option 79 = .ok (.imul, 1) := by decide +kernel
theorem dX12_option_80 : decode cX12_option 80 = .ok (.aload_n 0, 1) := by decide +kernel
theorem dX12_option_81 : decode cX12_option 81 = .ok (.getfield 39, 3) := by decide +kernel
theorem dX12_option_84 : decode cX12_option 84 = .ok (.iload_n 1, 1) := by decide +kernel
theorem dX12_option_85 : decode cX12_option 85 = .ok (.iaload, 1) := by decide +kernel
theorem dX12_option_86 : decode cX12_option 86 = .ok (.iadd, 1) := by decide +kernel
theorem dX12_option_87 : decode cX12_option 87 = .ok (.iload_n 3, 1) := by decide +kernel
theorem dX12_option_88 : decode cX12_option 88 = .ok (.iastore, 1) := by decide +kernel
theorem dX12_option_89 : decode cX12_option 89 = .ok (.aload_n 0, 1) := by decide +kernel
theorem dX12_option_90 : decode cX12_option 90 = .ok (.getfield 39, 3) := by decide +kernel
theorem dX12_option_93 : decode cX12_option 93 = .ok (.iload_n 1, 1) := by decide +kernel
theorem dX12_option_94 : decode cX12_option 94 = .ok (.dup2, 1) := by decide +kernel
theorem dX12_option_95 : decode cX12_option 95 = .ok (.iaload, 1) := by decide +kernel
theorem dX12_option_96 : decode cX12_option 96 = .ok (.iconst 1, 1) := by decide +kernel
theorem dX12_option_97 : decode cX12_option 97 = .ok (.iadd, 1) := by decide +kernel
theorem dX12_option_98 : decode cX12_option 98 = .ok (.iastore, 1) := by decide +kernel
theorem dX12_option_99 : decode cX12_option 99 = .ok (.aload_n 0, 1) := by decide +kernel
theorem dX12_option_100 : decode cX12_option 100 = .ok (.getfield 39, 3) := by decide +kernel
theorem dX12_option_103 : decode cX12_option 103 = .ok (.iload_n 1, 1) := by decide +kernel
theorem dX12_option_104 : decode cX12_option 104 = .ok (.iaload, 1) := by decide +kernel
theorem dX12_option_105 : decode cX12_option 105 = .ok (.ireturn, 1) := by decide +kernel
theorem dX12_clear_0 : decode cX12_clear 0 = .ok (.aload_n 0, 1) := by decide +kernel
theorem dX12_clear_1 : decode cX12_clear 1 = .ok (.iconst 0, 1) := by decide +kernel
theorem dX12_clear_2 : decode cX12_clear 2 = .ok (.putfield 3, 3) := by decide +kernel
theorem dX12_clear_5 : decode cX12_clear 5 = .ok (.iconst 0, 1) := by decide +kernel
theorem dX12_clear_6 : decode cX12_clear 6 = .ok (.istore_n 1, 1) := by decide +kernel
theorem dX12_clear_7 : decode cX12_clear 7 = .ok (.iconst 0, 1) := by decide +kernel
theorem dX12_clear_8 : decode cX12_clear 8 = .ok (.istore_n 2, 1) := by decide +kernel
theorem dX12_clear_9 : decode cX12_clear 9 = .ok (.iload_n 2, 1) := by decide +kernel
theorem dX12_clear_10 : decode cX12_clear 10 = .ok (.bipush 6, 2) := by decide +kernel
theorem dX12_clear_12 : decode cX12_clear 12 = .ok (.if_icmp .ge 37, 3) := by decide +kernel
theorem dX12_clear_15 : decode cX12_clear 15 = .ok (.iload_n 1, 1) := by decide +kernel
theorem dX12_clear_16 : decode cX12_clear 16 = .ok (.iload_n 2, 1) := by decide +kernel
theorem dX12_clear_17 : decode cX12_clear 17 = .ok (.aload_n 0, 1) := by decide +kernel
theorem dX12_clear_18 : decode cX12_clear 18 = .ok (.getfield 30, 3) := by decide +kernel
theorem dX12_clear_21 : decode cX12_clear 21 = .ok (.if_icmp .ge 12, 3) := by decide +kernel
theorem dX12_clear_24 : decode cX12_clear 24 = .ok (.aload_n 0, 1) := by decide +kernel
theorem dX12_clear_25 : decode cX12_clear 25 = .ok (.getfield 39, 3) := by decide +kernel
theorem dX12_clear_28 : decode cX12_clear 28 = .ok (.iload_n 2, 1) := by decide +kernel
theorem dX12_clear_29 : decode cX12_clear 29 = .ok (.iaload, 1) := by decide +kernel
theorem dX12_clear_30 : decode cX12_clear 30 = .ok (.goto 4, 3) := by decide +kernel
theorem dX12_clear_33 : decode cX12_clear 33 = .ok (.iconst 0, 1) := by decide +kernel
theorem dX12_clear_34 : decode cX12_clear 34 = .ok (.iadd, 1) := by decide +kernel
theorem dX12_clear_35 : decode cX12_clear 35 = .ok (.istore_n 1, 1) := by decide +kernel
theorem dX12_clear_36 : decode cX12_clear 36 = .ok (.aload_n 0, 1) := by decide +kernel
theorem dX12_clear_37 : decode cX12_clear 37 = .ok (.getfield 39, 3) := by decide +kernel
theorem dX12_clear_40 : decode cX12_clear 40 = .ok (.iload_n 2, 1) := by decide +kernel
theorem dX12_clear_41 : decode cX12_clear 41 = .ok (.iconst 0, 1) := by decide +kernel
theorem dX12_clear_42 : decode cX12_clear 42 = .ok (.iastore, 1) := by decide +kernel
theorem dX12_clear_43 : decode cX12_clear 43 = .ok (.iinc 2 1, 3) := by decide +kernel
theorem dX12_clear_46 : decode cX12_clear 46 = .ok (.goto (-37), 3) := by decide +kernel
theorem dX12_clear_49 : decode cX12_clear 49 = .ok (.iload_n 1, 1) := by decide +kernel
theorem dX12_clear_50 : decode cX12_clear 50 = .ok (.ireturn, 1) := by decide +kernel
theorem dX12_chooses_0 : decode cX12_chooses 0 = .ok (.aload_n 0, 1) := by decide +kernel
theorem dX12_chooses_1 : decode cX12_chooses 1 = .ok (.getfield 139, 3) := by decide +kernel
theorem dX12_chooses_4 : decode cX12_chooses 4 = .ok (.iload_n 1, 1) := by decide +kernel
theorem dX12_chooses_5 : decode cX12_chooses 5 = .ok (.iconst 0, 1) := by decide +kernel
theorem dX12_chooses_6 : decode cX12_chooses 6 = .ok (.iastore, 1) := by decide +kernel
theorem dX12_chooses_7 : decode cX12_chooses 7 = .ok (.aload_n 0, 1) := by decide +kernel
theorem dX12_chooses_8 : decode cX12_chooses 8 = .ok (.getfield 560, 3) := by decide +kernel
theorem dX12_chooses_11 : decode cX12_chooses 11 = .ok (.iconst 4, 1) := by decide +kernel
theorem dX12_chooses_12 : decode cX12_chooses 12 = .ok (.iload_n 1, 1) := by decide +kernel
theorem dX12_chooses_13 : decode cX12_chooses 13 = .ok (.imul, 1) := by decide +kernel
theorem dX12_chooses_14 : decode cX12_chooses 14 = .ok (.iload_n 2, 1) := by decide +kernel
theorem dX12_chooses_15 : decode cX12_chooses 15 = .ok (.iadd, 1) := by decide +kernel
theorem dX12_chooses_16 : decode cX12_chooses 16 = .ok (.iaload, 1) := by decide +kernel
theorem dX12_chooses_17 : decode cX12_chooses 17 = .ok (.ifCond .lt 31, 3) := by decide +kernel
theorem dX12_chooses_20 : decode cX12_chooses 20 = .ok (.aload_n 0, 1) := by decide +kernel
theorem dX12_chooses_21 : decode cX12_chooses 21 = .ok (.iload_n 1, 1) := by decide +kernel
theorem dX12_chooses_22 : decode cX12_chooses 22 = .ok (.aload_n 0, 1) := by decide +kernel
theorem dX12_chooses_23 : decode cX12_chooses 23 = .ok (.getfield 560, 3) := by decide +kernel
theorem dX12_chooses_26 : decode cX12_chooses 26 = .ok (.iconst 4, 1) := by decide +kernel
theorem dX12_chooses_27 : decode cX12_chooses 27 = .ok (.iload_n 1, 1) := by decide +kernel
theorem dX12_chooses_28 : decode cX12_chooses 28 = .ok (.imul, 1) := by decide +kernel
theorem dX12_chooses_29 : decode cX12_chooses 29 = .ok (.iload_n 2, 1) := by decide +kernel
theorem dX12_chooses_30 : decode cX12_chooses 30 = .ok (.iadd, 1) := by decide +kernel
theorem dX12_chooses_31 : decode cX12_chooses 31 = .ok (.iaload, 1) := by decide +kernel
theorem dX12_chooses_32 : decode cX12_chooses 32 = .ok (.aload_n 0, 1) := by decide +kernel
theorem dX12_chooses_33 : decode cX12_chooses 33 = .ok (.getfield 563, 3) := by decide +kernel
theorem dX12_chooses_36 : decode cX12_chooses 36 = .ok (.iconst 4, 1) := by decide +kernel
theorem dX12_chooses_37 : decode cX12_chooses 37 = .ok (.iload_n 1, 1) := by decide +kernel
theorem dX12_chooses_38 : decode cX12_chooses 38 = .ok (.imul, 1) := by decide +kernel
theorem dX12_chooses_39 : decode cX12_chooses 39 = .ok (.iload_n 2, 1) := by decide +kernel
theorem dX12_chooses_40 : decode cX12_chooses 40 = .ok (.iadd, 1) := by decide +kernel
theorem dX12_chooses_41 : decode cX12_chooses 41 = .ok (.iaload, 1) := by decide +kernel
theorem dX12_chooses_42 : decode cX12_chooses 42 = .ok (.sipush 200, 3) := by decide +kernel
theorem dX12_chooses_45 : decode cX12_chooses 45 = .ok (.invokevirtual 172, 3) := by decide +kernel
theorem dX12_chooses_48 : decode cX12_chooses 48 = .ok (.return_, 1) := by decide +kernel
theorem dX12_settle_0 : decode cX12_settle 0 = .ok (.aload_n 0, 1) := by decide +kernel
theorem dX12_settle_1 : decode cX12_settle 1 = .ok (.iconst 0, 1) := by decide +kernel
theorem dX12_settle_2 : decode cX12_settle 2 = .ok (.putfield 3, 3) := by decide +kernel
theorem dX12_settle_5 : decode cX12_settle 5 = .ok (.aload_n 0, 1) := by decide +kernel
theorem dX12_settle_6 : decode cX12_settle 6 = .ok (.iload_n 1, 1) := by decide +kernel
theorem dX12_settle_7 : decode cX12_settle 7 = .ok (.invokevirtual 145, 3) := by decide +kernel
theorem dX12_settle_10 : decode cX12_settle 10 = .ok (.ifCond .eq 41, 3) := by decide +kernel
theorem dX12_settle_13 : decode cX12_settle 13 = .ok (.aload_n 0, 1) := by decide +kernel
theorem dX12_settle_14 : decode cX12_settle 14 = .ok (.iload_n 2, 1) := by decide +kernel
theorem dX12_settle_15 : decode cX12_settle 15 = .ok (.invokevirtual 145, 3) := by decide +kernel
theorem dX12_settle_18 : decode cX12_settle 18 = .ok (.ifCond .eq 33, 3) := by decide +kernel
theorem dX12_settle_21 : decode cX12_settle 21 = .ok (.iload_n 1, 1) := by decide +kernel
theorem dX12_settle_22 : decode cX12_settle 22 = .ok (.iload_n 2, 1) := by decide +kernel
theorem dX12_settle_23 : decode cX12_settle 23 = .ok (.if_icmp .eq 28, 3) := by decide +kernel
theorem dX12_settle_26 : decode cX12_settle 26 = .ok (.iload_n 3, 1) := by decide +kernel
theorem dX12_settle_27 : decode cX12_settle 27 = .ok (.invokestatic 462, 3) := by decide +kernel
theorem dX12_settle_30 : decode cX12_settle 30 = .ok (.ifCond .eq 21, 3) := by decide +kernel
theorem dX12_settle_33 : decode cX12_settle 33 = .ok (.aload_n 0, 1) := by decide +kernel
theorem dX12_settle_34 : decode cX12_settle 34 = .ok (.getfield 39, 3) := by decide +kernel
theorem dX12_settle_37 : decode cX12_settle 37 = .ok (.iload_n 1, 1) := by decide +kernel
theorem dX12_settle_38 : decode cX12_settle 38 = .ok (.iaload, 1) := by decide +kernel
theorem dX12_settle_39 : decode cX12_settle 39 = .ok (.ifCond .eq 12, 3) := by decide +kernel
theorem dX12_settle_42 : decode cX12_settle 42 = .ok (.aload_n 0, 1) := by decide +kernel
theorem dX12_settle_43 : decode cX12_settle 43 = .ok (.getfield 39, 3) := by decide +kernel
theorem dX12_settle_46 : decode cX12_settle 46 = .ok (.iload_n 2, 1) := by decide +kernel
theorem dX12_settle_47 : decode cX12_settle 47 = .ok (.iaload, 1) := by decide +kernel
theorem dX12_settle_48 : decode cX12_settle 48 = .ok (.ifCond .ne 5, 3) := by decide +kernel
theorem dX12_settle_51 : decode cX12_settle 51 = .ok (.iconst (-1), 1) := by decide +kernel
theorem dX12_settle_52 : decode cX12_settle 52 = .ok (.ireturn, 1) := by decide +kernel
theorem dX12_settle_53 : decode cX12_settle 53 = .ok (.aload_n 0, 1) := by decide +kernel
theorem dX12_settle_54 : decode cX12_settle 54 = .ok (.iload_n 1, 1) := by decide +kernel
theorem dX12_settle_55 : decode cX12_settle 55 = .ok (.invokevirtual 543, 3) := by decide +kernel
theorem dX12_settle_58 : decode cX12_settle 58 = .ok (.aload_n 0, 1) := by decide +kernel
theorem dX12_settle_59 : decode cX12_settle 59 = .ok (.iload_n 2, 1) := by decide +kernel
theorem dX12_settle_60 : decode cX12_settle 60 = .ok (.invokevirtual 543, 3) := by decide +kernel
theorem dX12_settle_63 : decode cX12_settle 63 = .ok (.iconst 0, 1) := by decide +kernel
theorem dX12_settle_64 : decode cX12_settle 64 = .ok (.istore 4, 2) := by decide +kernel
theorem dX12_settle_66 : decode cX12_settle 66 = .ok (.iload 4, 2) := by decide +kernel
theorem dX12_settle_68 : decode cX12_settle 68 = .ok (.aload_n 0, 1) := by decide +kernel
theorem dX12_settle_69 : decode cX12_settle 69 = .ok (.getfield 39, 3) := by decide +kernel
theorem dX12_settle_72 : decode cX12_settle 72 = .ok (.iload_n 1, 1) := by decide +kernel
theorem dX12_settle_73 : decode cX12_settle 73 = .ok (.iaload, 1) := by decide +kernel
theorem dX12_settle_74 : decode cX12_settle 74 = .ok (.if_icmp .ge 120, 3) := by decide +kernel
theorem dX12_settle_77 : decode cX12_settle 77 = .ok (.iconst 0, 1) := by decide +kernel
theorem dX12_settle_78 : decode cX12_settle 78 = .ok (.istore 5, 2) := by decide +kernel
theorem dX12_settle_80 : decode cX12_settle 80 = .ok (.iload 5, 2) := by decide +kernel
theorem dX12_settle_82 : decode cX12_settle 82 = .ok (.aload_n 0, 1) := by decide +kernel
theorem dX12_settle_83 : decode cX12_settle 83 = .ok (.getfield 39, 3) := by decide +kernel
theorem dX12_settle_86 : decode cX12_settle 86 = .ok (.iload_n 2, 1) := by decide +kernel
theorem dX12_settle_87 : decode cX12_settle 87 = .ok (.iaload, 1) := by decide +kernel
theorem dX12_settle_88 : decode cX12_settle 88 = .ok (.if_icmp .ge 100, 3) := by decide +kernel
theorem dX12_settle_91 : decode cX12_settle 91 = .ok (.aload_n 0, 1) := by decide +kernel
theorem dX12_settle_92 : decode cX12_settle 92 = .ok (.iload_n 1, 1) := by decide +kernel
theorem dX12_settle_93 : decode cX12_settle 93 = .ok (.iload 4, 2) := by decide +kernel
theorem dX12_settle_95 : decode cX12_settle 95 = .ok (.invokevirtual 566, 3) := by decide +kernel
theorem dX12_settle_98 : decode cX12_settle 98 = .ok (.aload_n 0, 1) := by decide +kernel
theorem dX12_settle_99 : decode cX12_settle 99 = .ok (.iload_n 2, 1) := by decide +kernel
theorem dX12_settle_100 : decode cX12_settle 100 = .ok (.iload 5, 2) := by decide +kernel
theorem dX12_settle_102 : decode cX12_settle 102 = .ok (.invokevirtual 566, 3) := by decide +kernel
theorem dX12_settle_105 : decode cX12_settle 105 = .ok (.aload_n 0, 1) := by decide +kernel
theorem dX12_settle_106 : decode cX12_settle 106 = .ok (.iload_n 3, 1) := by decide +kernel
theorem dX12_settle_107 : decode cX12_settle 107 = .ok (.invokevirtual 502, 3) := by decide +kernel
theorem dX12_settle_110 : decode cX12_settle 110 = .ok (.aload_n 0, 1) := by decide +kernel
theorem dX12_settle_111 : decode cX12_settle 111 = .ok (.getfield 569, 3) := by decide +kernel
theorem dX12_settle_114 : decode cX12_settle 114 = .ok (.iconst 4, 1) := by decide +kernel
theorem dX12_settle_115 : decode cX12_settle 115 = .ok (.iload 4, 2) := by decide +kernel
theorem dX12_settle_117 : decode cX12_settle 117 = .ok (.imul, 1) := by decide +kernel
theorem dX12_settle_118 : decode cX12_settle 118 = .ok (.iload 5, 2) := by decide +kernel
theorem dX12_settle_120 : decode cX12_settle 120 = .ok (.iadd, 1) := by decide +kernel
theorem dX12_settle_121 : decode cX12_settle 121 = .ok (.aload_n 0, 1) := by decide +kernel
theorem dX12_settle_122 : decode cX12_settle 122 = .ok (.iload_n 1, 1) := by decide +kernel
theorem dX12_settle_123 : decode cX12_settle 123 = .ok (.iconst 0, 1) := by decide +kernel
theorem dX12_settle_124 : decode cX12_settle 124 = .ok (.invokevirtual 505, 3) := by decide +kernel
theorem dX12_settle_127 : decode cX12_settle 127 = .ok (.iastore, 1) := by decide +kernel
theorem dX12_settle_128 : decode cX12_settle 128 = .ok (.aload_n 0, 1) := by decide +kernel
theorem dX12_settle_129 : decode cX12_settle 129 = .ok (.getfield 572, 3) := by decide +kernel
theorem dX12_settle_132 : decode cX12_settle 132 = .ok (.iconst 4, 1) := by decide +kernel
theorem dX12_settle_133 : decode cX12_settle 133 = .ok (.iload 4, 2) := by decide +kernel
theorem dX12_settle_135 : decode cX12_settle 135 = .ok (.imul, 1) := by decide +kernel
theorem dX12_settle_136 : decode cX12_settle 136 = .ok (.iload 5, 2) := by decide +kernel
theorem dX12_settle_138 : decode cX12_settle 138 = .ok (.iadd, 1) := by decide +kernel
theorem dX12_settle_139 : decode cX12_settle 139 = .ok (.aload_n 0, 1) := by decide +kernel
theorem dX12_settle_140 : decode cX12_settle 140 = .ok (.getfield 493, 3) := by decide +kernel
theorem dX12_settle_143 : decode cX12_settle 143 = .ok (.iload_n 1, 1) := by decide +kernel
theorem dX12_settle_144 : decode cX12_settle 144 = .ok (.iaload, 1) := by decide +kernel
theorem dX12_settle_145 : decode cX12_settle 145 = .ok (.iastore, 1) := by decide +kernel
theorem dX12_settle_146 : decode cX12_settle 146 = .ok (.aload_n 0, 1) := by decide +kernel
theorem dX12_settle_147 : decode cX12_settle 147 = .ok (.getfield 575, 3) := by decide +kernel
theorem dX12_settle_150 : decode cX12_settle 150 = .ok (.iconst 4, 1) := by decide +kernel
theorem dX12_settle_151 : decode cX12_settle 151 = .ok (.iload 4, 2) := by decide +kernel
theorem dX12_settle_153 : decode cX12_settle 153 = .ok (.imul, 1) := by decide +kernel
theorem dX12_settle_154 : decode cX12_settle 154 = .ok (.iload 5, 2) := by decide +kernel
theorem dX12_settle_156 : decode cX12_settle 156 = .ok (.iadd, 1) := by decide +kernel
theorem dX12_settle_157 : decode cX12_settle 157 = .ok (.aload_n 0, 1) := by decide +kernel
theorem dX12_settle_158 : decode cX12_settle 158 = .ok (.iload_n 2, 1) := by decide +kernel
theorem dX12_settle_159 : decode cX12_settle 159 = .ok (.iconst 0, 1) := by decide +kernel
theorem dX12_settle_160 : decode cX12_settle 160 = .ok (.invokevirtual 505, 3) := by decide +kernel
theorem dX12_settle_163 : decode cX12_settle 163 = .ok (.iastore, 1) := by decide +kernel
theorem dX12_settle_164 : decode cX12_settle 164 = .ok (.aload_n 0, 1) := by decide +kernel
theorem dX12_settle_165 : decode cX12_settle 165 = .ok (.getfield 578, 3) := by decide +kernel
theorem dX12_settle_168 : decode cX12_settle 168 = .ok (.iconst 4, 1) := by decide +kernel
theorem dX12_settle_169 : decode cX12_settle 169 = .ok (.iload 4, 2) := by decide +kernel
theorem dX12_settle_171 : decode cX12_settle 171 = .ok (.imul, 1) := by decide +kernel
theorem dX12_settle_172 : decode cX12_settle 172 = .ok (.iload 5, 2) := by decide +kernel
theorem dX12_settle_174 : decode cX12_settle 174 = .ok (.iadd, 1) := by decide +kernel
theorem dX12_settle_175 : decode cX12_settle 175 = .ok (.aload_n 0, 1) := by decide +kernel
theorem dX12_settle_176 : decode cX12_settle 176 = .ok (.getfield 493, 3) := by decide +kernel
theorem dX12_settle_179 : decode cX12_settle 179 = .ok (.iload_n 2, 1) := by decide +kernel
theorem dX12_settle_180 : decode cX12_settle 180 = .ok (.iaload, 1) := by decide +kernel
theorem dX12_settle_181 : decode cX12_settle 181 = .ok (.iastore, 1) := by decide +kernel
theorem dX12_settle_182 : decode cX12_settle 182 = .ok (.iinc 5 1, 3) := by decide +kernel
theorem dX12_settle_185 : decode cX12_settle 185 = .ok (.goto (-105), 3) := by decide +kernel
theorem dX12_settle_188 : decode cX12_settle 188 = .ok (.iinc 4 1, 3) := by decide +kernel
theorem dX12_settle_191 : decode cX12_settle 191 = .ok (.goto (-125), 3) := by decide +kernel
theorem dX12_settle_194 : decode cX12_settle 194 = .ok (.aload_n 0, 1) := by decide +kernel
theorem dX12_settle_195 : decode cX12_settle 195 = .ok (.iload_n 1, 1) := by decide +kernel
theorem dX12_settle_196 : decode cX12_settle 196 = .ok (.invokevirtual 550, 3) := by decide +kernel
theorem dX12_settle_199 : decode cX12_settle 199 = .ok (.aload_n 0, 1) := by decide +kernel
theorem dX12_settle_200 : decode cX12_settle 200 = .ok (.iload_n 2, 1) := by decide +kernel
theorem dX12_settle_201 : decode cX12_settle 201 = .ok (.invokevirtual 550, 3) := by decide +kernel
theorem dX12_settle_204 : decode cX12_settle 204 = .ok (.iconst 0, 1) := by decide +kernel
theorem dX12_settle_205 : decode cX12_settle 205 = .ok (.istore 4, 2) := by decide +kernel
theorem dX12_settle_207 : decode cX12_settle 207 = .ok (.iload 4, 2) := by decide +kernel
theorem dX12_settle_209 : decode cX12_settle 209 = .ok (.aload_n 0, 1) := by decide +kernel
theorem dX12_settle_210 : decode cX12_settle 210 = .ok (.getfield 39, 3) := by decide +kernel
theorem dX12_settle_213 : decode cX12_settle 213 = .ok (.iload_n 1, 1) := by decide +kernel
theorem dX12_settle_214 : decode cX12_settle 214 = .ok (.iaload, 1) := by decide +kernel
theorem dX12_settle_215 : decode cX12_settle 215 = .ok (.if_icmp .ge 61, 3) := by decide +kernel
theorem dX12_settle_218 : decode cX12_settle 218 = .ok (.iconst 0, 1) := by decide +kernel
theorem dX12_settle_219 : decode cX12_settle 219 = .ok (.istore 5, 2) := by decide +kernel
theorem dX12_settle_221 : decode cX12_settle 221 = .ok (.iload 5, 2) := by decide +kernel
theorem dX12_settle_223 : decode cX12_settle 223 = .ok (.aload_n 0, 1) := by decide +kernel
theorem dX12_settle_224 : decode cX12_settle 224 = .ok (.getfield 39, 3) := by decide +kernel
theorem dX12_settle_227 : decode cX12_settle 227 = .ok (.iload_n 2, 1) := by decide +kernel
theorem dX12_settle_228 : decode cX12_settle 228 = .ok (.iaload, 1) := by decide +kernel
theorem dX12_settle_229 : decode cX12_settle 229 = .ok (.if_icmp .ge 41, 3) := by decide +kernel
theorem dX12_settle_232 : decode cX12_settle 232 = .ok (.aload_n 0, 1) := by decide +kernel
theorem dX12_settle_233 : decode cX12_settle 233 = .ok (.iload 4, 2) := by decide +kernel
theorem dX12_settle_235 : decode cX12_settle 235 = .ok (.iload 5, 2) := by decide +kernel
theorem dX12_settle_237 : decode cX12_settle 237 = .ok (.aload_n 0, 1) := by decide +kernel
theorem dX12_settle_238 : decode cX12_settle 238 = .ok (.getfield 39, 3) := by decide +kernel
theorem dX12_settle_241 : decode cX12_settle 241 = .ok (.iload_n 1, 1) := by decide +kernel
theorem dX12_settle_242 : decode cX12_settle 242 = .ok (.iaload, 1) := by decide +kernel
theorem dX12_settle_243 : decode cX12_settle 243 = .ok (.aload_n 0, 1) := by decide +kernel
theorem dX12_settle_244 : decode cX12_settle 244 = .ok (.getfield 39, 3) := by decide +kernel
theorem dX12_settle_247 : decode cX12_settle 247 = .ok (.iload_n 2, 1) := by decide +kernel
theorem dX12_settle_248 : decode cX12_settle 248 = .ok (.iaload, 1) := by decide +kernel
theorem dX12_settle_249 : decode cX12_settle 249 = .ok (.invokevirtual 581, 3) := by decide +kernel
theorem dX12_settle_252 : decode cX12_settle 252 = .ok (.ifCond .eq 12, 3) := by decide +kernel
theorem dX12_settle_255 : decode cX12_settle 255 = .ok (.bipush 10, 2) := by decide +kernel
theorem dX12_settle_257 : decode cX12_settle 257 = .ok (.iload 4, 2) := by decide +kernel
theorem dX12_settle_259 : decode cX12_settle 259 = .ok (.imul, 1) := by decide +kernel
theorem dX12_settle_260 : decode cX12_settle 260 = .ok (.iload 5, 2) := by decide +kernel
theorem dX12_settle_262 : decode cX12_settle 262 = .ok (.iadd, 1) := by decide +kernel
theorem dX12_settle_263 : decode cX12_settle 263 = .ok (.ireturn, 1) := by decide +kernel
theorem dX12_settle_264 : decode cX12_settle 264 = .ok (.iinc 5 1, 3) := by decide +kernel
theorem dX12_settle_267 : decode cX12_settle 267 = .ok (.goto (-46), 3) := by decide +kernel
theorem dX12_settle_270 : decode cX12_settle 270 = .ok (.iinc 4 1, 3) := by decide +kernel
theorem dX12_settle_273 : decode cX12_settle 273 = .ok (.goto (-66), 3) := by decide +kernel
theorem dX12_settle_276 : decode cX12_settle 276 = .ok (.bipush (-2), 2) := by decide +kernel
theorem dX12_settle_278 : decode cX12_settle 278 = .ok (.ireturn, 1) := by decide +kernel
theorem dX12_isSettled_0 : decode cX12_isSettled 0 = .ok (.iconst 4, 1) := by decide +kernel
theorem dX12_isSettled_1 : decode cX12_isSettled 1 = .ok (.iload_n 1, 1) := by decide +kernel
theorem dX12_isSettled_2 : decode cX12_isSettled 2 = .ok (.imul, 1) := by decide +kernel
theorem dX12_isSettled_3 : decode cX12_isSettled 3 = .ok (.iload_n 2, 1) := by decide +kernel
theorem dX12_isSettled_4 : decode cX12_isSettled 4 = .ok (.iadd, 1) := by decide +kernel
theorem dX12_isSettled_5 : decode cX12_isSettled 5 = .ok (.istore 5, 2) := by decide +kernel
theorem dX12_isSettled_7 : decode cX12_isSettled 7 = .ok (.iconst 1, 1) := by decide +kernel
theorem dX12_isSettled_8 : decode cX12_isSettled 8 = .ok (.istore 6, 2) := by decide +kernel
theorem dX12_isSettled_10 : decode cX12_isSettled 10 = .ok (.iconst 0, 1) := by decide +kernel
theorem dX12_isSettled_11 : decode cX12_isSettled 11 = .ok (.istore 7, 2) := by decide +kernel
theorem dX12_isSettled_13 : decode cX12_isSettled 13 = .ok (.iload 7, 2) := by decide +kernel
theorem dX12_isSettled_15 : decode cX12_isSettled 15 = .ok (.iload_n 3, 1) := by decide +kernel
theorem dX12_isSettled_16 : decode cX12_isSettled 16 = .ok (.if_icmp .ge 63, 3) := by decide +kernel
theorem dX12_isSettled_19 : decode cX12_isSettled 19 = .ok (.iload 6, 2) := by decide +kernel
theorem dX12_isSettled_21 : decode cX12_isSettled 21 = .ok (.ifCond .eq 49, 3) := by decide +kernel
theorem dX12_isSettled_24 : decode cX12_isSettled 24 = .ok (.aload_n 0, 1) := by decide +kernel
theorem dX12_isSettled_25 : decode cX12_isSettled 25 = .ok (.getfield 569, 3) := by decide +kernel
theorem dX12_isSettled_28 : decode cX12_isSettled 28 = .ok (.iconst 4, 1) := by decide +kernel
theorem dX12_isSettled_29 : decode cX12_isSettled 29 = .ok (.iload 7, 2) := by decide +kernel
theorem dX12_isSettled_31 : decode cX12_isSettled 31 = .ok (.imul, 1) := by decide +kernel
theorem dX12_isSettled_32 : decode cX12_isSettled 32 = .ok (.iload_n 2, 1) := by decide +kernel
theorem dX12_isSettled_33 : decode cX12_isSettled 33 = .ok (.iadd, 1) := by decide +kernel
theorem dX12_isSettled_34 : decode cX12_isSettled 34 = .ok (.iaload, 1) := by decide +kernel
theorem dX12_isSettled_35 : decode cX12_isSettled 35 = .ok (.aload_n 0, 1) := by decide +kernel
theorem dX12_isSettled_36 : decode cX12_isSettled 36 = .ok (.getfield 572, 3) := by decide +kernel
theorem dX12_isSettled_39 : decode cX12_isSettled 39 = .ok (.iconst 4, 1) := by decide +kernel
theorem dX12_isSettled_40 : decode cX12_isSettled 40 = .ok (.iload 7, 2) := by decide +kernel
theorem dX12_isSettled_42 : decode cX12_isSettled 42 = .ok (.imul, 1) := by decide +kernel
theorem dX12_isSettled_43 : decode cX12_isSettled 43 = .ok (.iload_n 2, 1) := by decide +kernel
theorem dX12_isSettled_44 : decode cX12_isSettled 44 = .ok (.iadd, 1) := by decide +kernel
theorem dX12_isSettled_45 : decode cX12_isSettled 45 = .ok (.iaload, 1) := by decide +kernel
theorem dX12_isSettled_46 : decode cX12_isSettled 46 = .ok (.aload_n 0, 1) := by decide +kernel
theorem dX12_isSettled_47 : decode cX12_isSettled 47 = .ok (.getfield 569, 3) := by decide +kernel
theorem dX12_isSettled_50 : decode cX12_isSettled 50 = .ok (.iload 5, 2) := by decide +kernel
theorem dX12_isSettled_52 : decode cX12_isSettled 52 = .ok (.iaload, 1) := by decide +kernel
theorem dX12_isSettled_53 : decode cX12_isSettled 53 = .ok (.aload_n 0, 1) := by decide +kernel
theorem dX12_isSettled_54 : decode cX12_isSettled 54 = .ok (.getfield 572, 3) := by decide +kernel
theorem dX12_isSettled_57 : decode cX12_isSettled 57 = .ok (.iload 5, 2) := by decide +kernel
theorem dX12_isSettled_59 : decode cX12_isSettled 59 = .ok (.iaload, 1) := by decide +kernel
theorem dX12_isSettled_60 : decode cX12_isSettled 60 = .ok (.invokestatic 533, 3) := by decide +kernel
theorem dX12_isSettled_63 : decode cX12_isSettled 63 = .ok (.ifCond .ne 7, 3) := by decide +kernel
theorem dX12_isSettled_66 : decode cX12_isSettled 66 = .ok (.iconst 1, 1) := by decide +kernel
theorem dX12_isSettled_67 : decode cX12_isSettled 67 = .ok (.goto 4, 3) := by decide +kernel
theorem dX12_isSettled_70 : decode cX12_isSettled 70 = .ok (.iconst 0, 1) := by decide +kernel
theorem dX12_isSettled_71 : decode cX12_isSettled 71 = .ok (.istore 6, 2) := by decide +kernel
theorem dX12_isSettled_73 : decode cX12_isSettled 73 = .ok (.iinc 7 1, 3) := by decide +kernel
theorem dX12_isSettled_76 : decode cX12_isSettled 76 = .ok (.goto (-63), 3) := by decide +kernel
theorem dX12_isSettled_79 : decode cX12_isSettled 79 = .ok (.iconst 0, 1) := by decide +kernel
theorem dX12_isSettled_80 : decode cX12_isSettled 80 = .ok (.istore 7, 2) := by decide +kernel
theorem dX12_isSettled_82 : decode cX12_isSettled 82 = .ok (.iload 7, 2) := by decide +kernel
theorem dX12_isSettled_84 : decode cX12_isSettled 84 = .ok (.iload 4, 2) := by decide +kernel
theorem dX12_isSettled_86 : decode cX12_isSettled 86 = .ok (.if_icmp .ge 63, 3) := by decide +kernel
theorem dX12_isSettled_89 : decode cX12_isSettled 89 = .ok (.iload 6, 2) := by decide +kernel
theorem dX12_isSettled_91 : decode cX12_isSettled 91 = .ok (.ifCond .eq 49, 3) := by decide +kernel
theorem dX12_isSettled_94 : decode cX12_isSettled 94 = .ok (.aload_n 0, 1) := by decide +kernel
theorem dX12_isSettled_95 : decode cX12_isSettled 95 = .ok (.getfield 575, 3) := by decide +kernel
theorem dX12_isSettled_98 : decode cX12_isSettled 98 = .ok (.iconst 4, 1) := by decide +kernel
theorem dX12_isSettled_99 : decode cX12_isSettled 99 = .ok (.iload_n 1, 1) := by decide +kernel
theorem dX12_isSettled_100 : decode cX12_isSettled 100 = .ok (.imul, 1) := by decide +kernel
theorem dX12_isSettled_101 : decode cX12_isSettled 101 = .ok (.iload 7, 2) := by decide +kernel
theorem dX12_isSettled_103 : decode cX12_isSettled 103 = .ok (.iadd, 1) := by decide +kernel
theorem dX12_isSettled_104 : decode cX12_isSettled 104 = .ok (.iaload, 1) := by decide +kernel
theorem dX12_isSettled_105 : decode cX12_isSettled 105 = .ok (.aload_n 0, 1) := by decide +kernel
theorem dX12_isSettled_106 : decode cX12_isSettled 106 = .ok (.getfield 578, 3) := by decide +kernel
theorem dX12_isSettled_109 : decode cX12_isSettled 109 = .ok (.iconst 4, 1) := by decide +kernel
theorem dX12_isSettled_110 : decode cX12_isSettled 110 = .ok (.iload_n 1, 1) := by decide +kernel
theorem dX12_isSettled_111 : decode cX12_isSettled 111 = .ok (.imul, 1) := by decide +kernel
theorem dX12_isSettled_112 : decode cX12_isSettled 112 = .ok (.iload 7, 2) := by decide +kernel
theorem dX12_isSettled_114 : decode cX12_isSettled 114 = .ok (.iadd, 1) := by decide +kernel
theorem dX12_isSettled_115 : decode cX12_isSettled 115 = .ok (.iaload, 1) := by decide +kernel
theorem dX12_isSettled_116 : decode cX12_isSettled 116 = .ok (.aload_n 0, 1) := by decide +kernel
theorem dX12_isSettled_117 : decode cX12_isSettled 117 = .ok (.getfield 575, 3) := by decide +kernel
theorem dX12_isSettled_120 : decode cX12_isSettled 120 = .ok (.iload 5, 2) := by decide +kernel
theorem dX12_isSettled_122 : decode cX12_isSettled 122 = .ok (.iaload, 1) := by decide +kernel
theorem dX12_isSettled_123 : decode cX12_isSettled 123 = .ok (.aload_n 0, 1) := by decide +kernel
theorem dX12_isSettled_124 : decode cX12_isSettled 124 = .ok (.getfield 578, 3) := by decide +kernel
theorem dX12_isSettled_127 : decode cX12_isSettled 127 = .ok (.iload 5, 2) := by decide +kernel
theorem dX12_isSettled_129 : decode cX12_isSettled 129 = .ok (.iaload, 1) := by decide +kernel
theorem dX12_isSettled_130 : decode cX12_isSettled 130 = .ok (.invokestatic 533, 3) := by decide +kernel
theorem dX12_isSettled_133 : decode cX12_isSettled 133 = .ok (.ifCond .ne 7, 3) := by decide +kernel
theorem dX12_isSettled_136 : decode cX12_isSettled 136 = .ok (.iconst 1, 1) := by decide +kernel
theorem dX12_isSettled_137 : decode cX12_isSettled 137 = .ok (.goto 4, 3) := by decide +kernel
theorem dX12_isSettled_140 : decode cX12_isSettled 140 = .ok (.iconst 0, 1) := by decide +kernel
theorem dX12_isSettled_141 : decode cX12_isSettled 141 = .ok (.istore 6, 2) := by decide +kernel
theorem dX12_isSettled_143 : decode cX12_isSettled 143 = .ok (.iinc 7 1, 3) := by decide +kernel
theorem dX12_isSettled_146 : decode cX12_isSettled 146 = .ok (.goto (-64), 3) := by decide +kernel
theorem dX12_isSettled_149 : decode cX12_isSettled 149 = .ok (.iload 6, 2) := by decide +kernel
theorem dX12_isSettled_151 : decode cX12_isSettled 151 = .ok (.ireturn, 1) := by decide +kernel
theorem dX12_lost_0 : decode cX12_lost 0 = .ok (.aload_n 0, 1) := by decide +kernel
theorem dX12_lost_1 : decode cX12_lost 1 = .ok (.iconst 0, 1) := by decide +kernel
theorem dX12_lost_2 : decode cX12_lost 2 = .ok (.putfield 3, 3) := by decide +kernel
theorem dX12_lost_5 : decode cX12_lost 5 = .ok (.iload_n 1, 1) := by decide +kernel
theorem dX12_lost_6 : decode cX12_lost 6 = .ok (.i2l, 1) := by decide +kernel
theorem dX12_lost_7 : decode cX12_lost 7 = .ok (.lconst 0, 1) := by decide +kernel
theorem dX12_lost_8 : decode cX12_lost 8 = .ok (.aload_n 0, 1) := by decide +kernel
theorem dX12_lost_9 : decode cX12_lost 9 = .ok (.getfield 7, 3) := by decide +kernel
theorem dX12_lost_12 : decode cX12_lost 12 = .ok (.iconst 2, 1) := by decide +kernel
theorem dX12_lost_13 : decode cX12_lost 13 = .ok (.isub, 1) := by decide +kernel
theorem dX12_lost_14 : decode cX12_lost 14 = .ok (.i2l, 1) := by decide +kernel
theorem dX12_lost_15 : decode cX12_lost 15 = .ok (.invokestatic 42, 3) := by decide +kernel
theorem dX12_lost_18 : decode cX12_lost 18 = .ok (.ifCond .ne 5, 3) := by decide +kernel
theorem dX12_lost_21 : decode cX12_lost 21 = .ok (.iconst 0, 1) := by decide +kernel
theorem dX12_lost_22 : decode cX12_lost 22 = .ok (.ireturn, 1) := by decide +kernel
theorem dX12_lost_23 : decode cX12_lost 23 = .ok (.aload_n 0, 1) := by decide +kernel
theorem dX12_lost_24 : decode cX12_lost 24 = .ok (.getfield 20, 3) := by decide +kernel
theorem dX12_lost_27 : decode cX12_lost 27 = .ok (.iload_n 1, 1) := by decide +kernel
theorem dX12_lost_28 : decode cX12_lost 28 = .ok (.iload_n 2, 1) := by decide +kernel
theorem dX12_lost_29 : decode cX12_lost 29 = .ok (.bastore, 1) := by decide +kernel
theorem dX12_lost_30 : decode cX12_lost 30 = .ok (.iconst 1, 1) := by decide +kernel
theorem dX12_lost_31 : decode cX12_lost 31 = .ok (.ireturn, 1) := by decide +kernel
theorem dX12_knownOf_0 : decode cX12_knownOf 0 = .ok (.aload_n 0, 1) := by decide +kernel
theorem dX12_knownOf_1 : decode cX12_knownOf 1 = .ok (.getfield 363, 3) := by decide +kernel
theorem dX12_knownOf_4 : decode cX12_knownOf 4 = .ok (.bipush 60, 2) := by decide +kernel
theorem dX12_knownOf_6 : decode cX12_knownOf 6 = .ok (.iload_n 1, 1) := by decide +kernel
theorem dX12_knownOf_7 : decode cX12_knownOf 7 = .ok (.imul, 1) := by decide +kernel
theorem dX12_knownOf_8 : decode cX12_knownOf 8 = .ok (.iload_n 2, 1) := by decide +kernel
theorem dX12_knownOf_9 : decode cX12_knownOf 9 = .ok (.iadd, 1) := by decide +kernel
theorem dX12_knownOf_10 : decode cX12_knownOf 10 = .ok (.iaload, 1) := by decide +kernel
theorem dX12_knownOf_11 : decode cX12_knownOf 11 = .ok (.istore 4, 2) := by decide +kernel
theorem dX12_knownOf_13 : decode cX12_knownOf 13 = .ok (.iload 4, 2) := by decide +kernel
theorem dX12_knownOf_15 : decode cX12_knownOf 15 = .ok (.ifCond .lt 17, 3) := by decide +kernel
theorem dX12_knownOf_18 : decode cX12_knownOf 18 = .ok (.aload_n 0, 1) := by decide +kernel
theorem dX12_knownOf_19 : decode cX12_knownOf 19 = .ok (.getfield 20, 3) := by decide +kernel
theorem dX12_knownOf_22 : decode cX12_knownOf 22 = .ok (.iload_n 2, 1) := by decide +kernel
theorem dX12_knownOf_23 : decode cX12_knownOf 23 = .ok (.aload_n 0, 1) := by decide +kernel
theorem dX12_knownOf_24 : decode cX12_knownOf 24 = .ok (.getfield 7, 3) := by decide +kernel
theorem dX12_knownOf_27 : decode cX12_knownOf 27 = .ok (.irem, 1) := by decide +kernel
theorem dX12_knownOf_28 : decode cX12_knownOf 28 = .ok (.baload, 1) := by decide +kernel
theorem dX12_knownOf_29 : decode cX12_knownOf 29 = .ok (.ifCond .ne 6, 3) := by decide +kernel
theorem dX12_knownOf_32 : decode cX12_knownOf 32 = .ok (.iload 4, 2) := by decide +kernel
theorem dX12_knownOf_34 : decode cX12_knownOf 34 = .ok (.ireturn, 1) := by decide +kernel
theorem dX12_knownOf_35 : decode cX12_knownOf 35 = .ok (.iload_n 2, 1) := by decide +kernel
theorem dX12_knownOf_36 : decode cX12_knownOf 36 = .ok (.istore 5, 2) := by decide +kernel
theorem dX12_knownOf_38 : decode cX12_knownOf 38 = .ok (.iload 5, 2) := by decide +kernel
theorem dX12_knownOf_40 : decode cX12_knownOf 40 = .ok (.aload_n 0, 1) := by decide +kernel
theorem dX12_knownOf_41 : decode cX12_knownOf 41 = .ok (.getfield 7, 3) := by decide +kernel
theorem dX12_knownOf_44 : decode cX12_knownOf 44 = .ok (.aload_n 0, 1) := by decide +kernel
theorem dX12_knownOf_45 : decode cX12_knownOf 45 = .ok (.getfield 10, 3) := by decide +kernel
theorem dX12_knownOf_48 : decode cX12_knownOf 48 = .ok (.imul, 1) := by decide +kernel
theorem dX12_knownOf_49 : decode cX12_knownOf 49 = .ok (.if_icmp .ge 24, 3) := by decide +kernel
theorem dX12_knownOf_52 : decode cX12_knownOf 52 = .ok (.aload_n 0, 1) := by decide +kernel
theorem dX12_knownOf_53 : decode cX12_knownOf 53 = .ok (.getfield 20, 3) := by decide +kernel
theorem dX12_knownOf_56 : decode cX12_knownOf 56 = .ok (.iload 5, 2) := by decide +kernel
theorem dX12_knownOf_58 : decode cX12_knownOf 58 = .ok (.aload_n 0, 1) := by decide +kernel
theorem dX12_knownOf_59 : decode cX12_knownOf 59 = .ok (.getfield 7, 3) := by decide +kernel
theorem dX12_knownOf_62 : decode cX12_knownOf 62 = .ok (.irem, 1) := by decide +kernel
theorem dX12_knownOf_63 : decode cX12_knownOf 63 = .ok (.baload, 1) := by decide +kernel
theorem dX12_knownOf_64 : decode cX12_knownOf 64 = .ok (.ifCond .eq 9, 3) := by decide +kernel
theorem dX12_knownOf_67 : decode cX12_knownOf 67 = .ok (.iinc 5 1, 3) := by decide +kernel
theorem dX12_knownOf_70 : decode cX12_knownOf 70 = .ok (.goto (-32), 3) := by decide +kernel
theorem dX12_knownOf_73 : decode cX12_knownOf 73 = .ok (.iload 5, 2) := by decide +kernel
theorem dX12_knownOf_75 : decode cX12_knownOf 75 = .ok (.aload_n 0, 1) := by decide +kernel
theorem dX12_knownOf_76 : decode cX12_knownOf 76 = .ok (.getfield 7, 3) := by decide +kernel
theorem dX12_knownOf_79 : decode cX12_knownOf 79 = .ok (.aload_n 0, 1) := by decide +kernel
theorem dX12_knownOf_80 : decode cX12_knownOf 80 = .ok (.getfield 10, 3) := by decide +kernel
theorem dX12_knownOf_83 : decode cX12_knownOf 83 = .ok (.imul, 1) := by decide +kernel
theorem dX12_knownOf_84 : decode cX12_knownOf 84 = .ok (.if_icmp .eq 18, 3) := by decide +kernel
theorem dX12_knownOf_87 : decode cX12_knownOf 87 = .ok (.aload_n 0, 1) := by decide +kernel
theorem dX12_knownOf_88 : decode cX12_knownOf 88 = .ok (.getfield 363, 3) := by decide +kernel
theorem dX12_knownOf_91 : decode cX12_knownOf 91 = .ok (.bipush 60, 2) := by decide +kernel
theorem dX12_knownOf_93 : decode cX12_knownOf 93 = .ok (.iload_n 1, 1) := by decide +kernel
theorem dX12_knownOf_94 : decode cX12_knownOf 94 = .ok (.imul, 1) := by decide +kernel
theorem dX12_knownOf_95 : decode cX12_knownOf 95 = .ok (.iload 5, 2) := by decide +kernel
theorem dX12_knownOf_97 : decode cX12_knownOf 97 = .ok (.iadd, 1) := by decide +kernel
theorem dX12_knownOf_98 : decode cX12_knownOf 98 = .ok (.iaload, 1) := by decide +kernel
theorem dX12_knownOf_99 : decode cX12_knownOf 99 = .ok (.ifCond .ge 5, 3) := by decide +kernel
theorem dX12_knownOf_102 : decode cX12_knownOf 102 = .ok (.iconst (-1), 1) := by decide +kernel
theorem dX12_knownOf_103 : decode cX12_knownOf 103 = .ok (.ireturn, 1) := by decide +kernel
theorem dX12_knownOf_104 : decode cX12_knownOf 104 = .ok (.iload_n 3, 1) := by decide +kernel
theorem dX12_knownOf_105 : decode cX12_knownOf 105 = .ok (.iconst 1, 1) := by decide +kernel
theorem dX12_knownOf_106 : decode cX12_knownOf 106 = .ok (.if_icmp .ne 25, 3) := by decide +kernel
theorem dX12_knownOf_109 : decode cX12_knownOf 109 = .ok (.aload_n 0, 1) := by decide +kernel
theorem dX12_knownOf_110 : decode cX12_knownOf 110 = .ok (.getfield 363, 3) := by decide +kernel
theorem dX12_knownOf_113 : decode cX12_knownOf 113 = .ok (.bipush 60, 2) := by decide +kernel
theorem dX12_knownOf_115 : decode cX12_knownOf 115 = .ok (.iload_n 1, 1) := by decide +kernel
theorem dX12_knownOf_116 : decode cX12_knownOf 116 = .ok (.imul, 1) := by decide +kernel
theorem dX12_knownOf_117 : decode cX12_knownOf 117 = .ok (.iload 5, 2) := by decide +kernel
theorem dX12_knownOf_119 : decode cX12_knownOf 119 = .ok (.iadd, 1) := by decide +kernel
theorem dX12_knownOf_120 : decode cX12_knownOf 120 = .ok (.iaload, 1) := by decide +kernel
theorem dX12_knownOf_121 : decode cX12_knownOf 121 = .ok (.sipush 1000, 3) := by decide +kernel
theorem dX12_knownOf_124 : decode cX12_knownOf 124 = .ok (.iload 5, 2) := by decide +kernel
theorem dX12_knownOf_126 : decode cX12_knownOf 126 = .ok (.iload_n 2, 1) := by decide +kernel
theorem dX12_knownOf_127 : decode cX12_knownOf 127 = .ok (.isub, 1) := by decide +kernel
theorem dX12_knownOf_128 : decode cX12_knownOf 128 = .ok (.imul, 1) := by decide +kernel
theorem dX12_knownOf_129 : decode cX12_knownOf 129 = .ok (.isub, 1) := by decide +kernel
theorem dX12_knownOf_130 : decode cX12_knownOf 130 = .ok (.ireturn, 1) := by decide +kernel
theorem dX12_knownOf_131 : decode cX12_knownOf 131 = .ok (.iload_n 2, 1) := by decide +kernel
theorem dX12_knownOf_132 : decode cX12_knownOf 132 = .ok (.istore 6, 2) := by decide +kernel
theorem dX12_knownOf_134 : decode cX12_knownOf 134 = .ok (.iload 6, 2) := by decide +kernel
theorem dX12_knownOf_136 : decode cX12_knownOf 136 = .ok (.ifCond .lt 24, 3) := by decide +kernel
theorem dX12_knownOf_139 : decode cX12_knownOf 139 = .ok (.aload_n 0, 1) := by decide +kernel
theorem dX12_knownOf_140 : decode cX12_knownOf 140 = .ok (.getfield 20, 3) := by decide +kernel
theorem dX12_knownOf_143 : decode cX12_knownOf 143 = .ok (.iload 6, 2) := by decide +kernel
theorem dX12_knownOf_145 : decode cX12_knownOf 145 = .ok (.aload_n 0, 1) := by decide +kernel
theorem dX12_knownOf_146 : decode cX12_knownOf 146 = .ok (.getfield 7, 3) := by decide +kernel
theorem dX12_knownOf_149 : decode cX12_knownOf 149 = .ok (.irem, 1) := by decide +kernel
theorem dX12_knownOf_150 : decode cX12_knownOf 150 = .ok (.baload, 1) := by decide +kernel
theorem dX12_knownOf_151 : decode cX12_knownOf 151 = .ok (.ifCond .eq 9, 3) := by decide +kernel
theorem dX12_knownOf_154 : decode cX12_knownOf 154 = .ok (.iinc 6 (-1), 3) := by decide +kernel
theorem dX12_knownOf_157 : decode cX12_knownOf 157 = .ok (.goto (-23), 3) := by decide +kernel
theorem dX12_knownOf_160 : decode cX12_knownOf 160 = .ok (.iload 6, 2) := by decide +kernel
theorem dX12_knownOf_162 : decode cX12_knownOf 162 = .ok (.ifCond .ge 15, 3) := by decide +kernel
theorem dX12_knownOf_165 : decode cX12_knownOf 165 = .ok (.aload_n 0, 1) := by decide +kernel
theorem dX12_knownOf_166 : decode cX12_knownOf 166 = .ok (.getfield 83, 3) := by decide +kernel
theorem dX12_knownOf_169 : decode cX12_knownOf 169 = .ok (.bipush 6, 2) := by decide +kernel
theorem dX12_knownOf_171 : decode cX12_knownOf 171 = .ok (.iaload, 1) := by decide +kernel
theorem dX12_knownOf_172 : decode cX12_knownOf 172 = .ok (.iload_n 1, 1) := by decide +kernel
theorem dX12_knownOf_173 : decode cX12_knownOf 173 = .ok (.imul, 1) := by decide +kernel
theorem dX12_knownOf_174 : decode cX12_knownOf 174 = .ok (.goto 15, 3) := by decide +kernel
theorem dX12_knownOf_177 : decode cX12_knownOf 177 = .ok (.aload_n 0, 1) := by decide +kernel
theorem dX12_knownOf_178 : decode cX12_knownOf 178 = .ok (.getfield 363, 3) := by decide +kernel
theorem dX12_knownOf_181 : decode cX12_knownOf 181 = .ok (.bipush 60, 2) := by decide +kernel
theorem dX12_knownOf_183 : decode cX12_knownOf 183 = .ok (.iload_n 1, 1) := by decide +kernel
theorem dX12_knownOf_184 : decode cX12_knownOf 184 = .ok (.imul, 1) := by decide +kernel
theorem dX12_knownOf_185 : decode cX12_knownOf 185 = .ok (.iload 6, 2) := by decide +kernel
theorem dX12_knownOf_187 : decode cX12_knownOf 187 = .ok (.iadd, 1) := by decide +kernel
theorem dX12_knownOf_188 : decode cX12_knownOf 188 = .ok (.iaload, 1) := by decide +kernel
theorem dX12_knownOf_189 : decode cX12_knownOf 189 = .ok (.sipush 1000, 3) := by decide +kernel
theorem dX12_knownOf_192 : decode cX12_knownOf 192 = .ok (.iload_n 2, 1) := by decide +kernel
theorem dX12_knownOf_193 : decode cX12_knownOf 193 = .ok (.iload 6, 2) := by decide +kernel
theorem dX12_knownOf_195 : decode cX12_knownOf 195 = .ok (.isub, 1) := by decide +kernel
theorem dX12_knownOf_196 : decode cX12_knownOf 196 = .ok (.imul, 1) := by decide +kernel
theorem dX12_knownOf_197 : decode cX12_knownOf 197 = .ok (.iadd, 1) := by decide +kernel
theorem dX12_knownOf_198 : decode cX12_knownOf 198 = .ok (.ireturn, 1) := by decide +kernel
theorem dX12_known_0 : decode cX12_known 0 = .ok (.aload_n 0, 1) := by decide +kernel
theorem dX12_known_1 : decode cX12_known 1 = .ok (.iconst 0, 1) := by decide +kernel
theorem dX12_known_2 : decode cX12_known 2 = .ok (.putfield 3, 3) := by decide +kernel
theorem dX12_known_5 : decode cX12_known 5 = .ok (.aload_n 0, 1) := by decide +kernel
theorem dX12_known_6 : decode cX12_known 6 = .ok (.iload_n 1, 1) := by decide +kernel
theorem dX12_known_7 : decode cX12_known 7 = .ok (.invokevirtual 145, 3) := by decide +kernel
theorem dX12_known_10 : decode cX12_known 10 = .ok (.ifCond .eq 30, 3) := by decide +kernel
theorem dX12_known_13 : decode cX12_known 13 = .ok (.aload_n 0, 1) := by decide +kernel
theorem dX12_known_14 : decode cX12_known 14 = .ok (.iload_n 2, 1) := by decide +kernel
theorem dX12_known_15 : decode cX12_known 15 = .ok (.invokevirtual 154, 3) := by decide +kernel
theorem dX12_known_18 : decode cX12_known 18 = .ok (.ifCond .eq 22, 3) := by decide +kernel
theorem dX12_known_21 : decode cX12_known 21 = .ok (.aload_n 0, 1) := by decide +kernel
theorem dX12_known_22 : decode cX12_known 22 = .ok (.iload_n 3, 1) := by decide +kernel
theorem dX12_known_23 : decode cX12_known 23 = .ok (.invokevirtual 56, 3) := by decide +kernel
theorem dX12_known_26 : decode cX12_known 26 = .ok (.ifCond .eq 14, 3) := by decide +kernel
theorem dX12_known_29 : decode cX12_known 29 = .ok (.iload 4, 2) := by decide +kernel
theorem dX12_known_31 : decode cX12_known 31 = .ok (.i2l, 1) := by decide +kernel
theorem dX12_known_32 : decode cX12_known 32 = .ok (.lconst 0, 1) := by decide +kernel
theorem dX12_known_33 : decode cX12_known 33 = .ok (.lconst 1, 1) := by decide +kernel
theorem dX12_known_34 : decode cX12_known 34 = .ok (.invokestatic 42, 3) := by decide +kernel
theorem dX12_known_37 : decode cX12_known 37 = .ok (.ifCond .ne 5, 3) := by decide +kernel
theorem dX12_known_40 : decode cX12_known 40 = .ok (.iconst (-1), 1) := by decide +kernel
theorem dX12_known_41 : decode cX12_known 41 = .ok (.ireturn, 1) := by decide +kernel
theorem dX12_known_42 : decode cX12_known 42 = .ok (.aload_n 0, 1) := by decide +kernel
theorem dX12_known_43 : decode cX12_known 43 = .ok (.invokevirtual 449, 3) := by decide +kernel
theorem dX12_known_46 : decode cX12_known 46 = .ok (.aload_n 0, 1) := by decide +kernel
theorem dX12_known_47 : decode cX12_known 47 = .ok (.iload_n 1, 1) := by decide +kernel
theorem dX12_known_48 : decode cX12_known 48 = .ok (.aload_n 0, 1) := by decide +kernel
theorem dX12_known_49 : decode cX12_known 49 = .ok (.getfield 7, 3) := by decide +kernel
theorem dX12_known_52 : decode cX12_known 52 = .ok (.iload_n 2, 1) := by decide +kernel
theorem dX12_known_53 : decode cX12_known 53 = .ok (.imul, 1) := by decide +kernel
theorem dX12_known_54 : decode cX12_known 54 = .ok (.iload_n 3, 1) := by decide +kernel
theorem dX12_known_55 : decode cX12_known 55 = .ok (.iadd, 1) := by decide +kernel
theorem dX12_known_56 : decode cX12_known 56 = .ok (.iload 4, 2) := by decide +kernel
theorem dX12_known_58 : decode cX12_known 58 = .ok (.invokevirtual 584, 3) := by decide +kernel
theorem dX12_known_61 : decode cX12_known 61 = .ok (.ireturn, 1) := by decide +kernel
theorem dX12_ahead_0 : decode cX12_ahead 0 = .ok (.aload_n 0, 1) := by decide +kernel
theorem dX12_ahead_1 : decode cX12_ahead 1 = .ok (.iconst 0, 1) := by decide +kernel
theorem dX12_ahead_2 : decode cX12_ahead 2 = .ok (.putfield 3, 3) := by decide +kernel
theorem dX12_ahead_5 : decode cX12_ahead 5 = .ok (.aload_n 0, 1) := by decide +kernel
theorem dX12_ahead_6 : decode cX12_ahead 6 = .ok (.iload_n 1, 1) := by decide +kernel
theorem dX12_ahead_7 : decode cX12_ahead 7 = .ok (.invokevirtual 145, 3) := by decide +kernel
theorem dX12_ahead_10 : decode cX12_ahead 10 = .ok (.ifCond .eq 33, 3) := by decide +kernel
theorem dX12_ahead_13 : decode cX12_ahead 13 = .ok (.aload_n 0, 1) := by decide +kernel
theorem dX12_ahead_14 : decode cX12_ahead 14 = .ok (.iload_n 2, 1) := by decide +kernel
theorem dX12_ahead_15 : decode cX12_ahead 15 = .ok (.invokevirtual 145, 3) := by decide +kernel
theorem dX12_ahead_18 : decode cX12_ahead 18 = .ok (.ifCond .eq 25, 3) := by decide +kernel
theorem dX12_ahead_21 : decode cX12_ahead 21 = .ok (.iload_n 1, 1) := by decide +kernel
theorem dX12_ahead_22 : decode cX12_ahead 22 = .ok (.iload_n 2, 1) := by decide +kernel
theorem dX12_ahead_23 : decode cX12_ahead 23 = .ok (.if_icmp .eq 20, 3) := by decide +kernel
theorem dX12_ahead_26 : decode cX12_ahead 26 = .ok (.aload_n 0, 1) := by decide +kernel
theorem dX12_ahead_27 : decode cX12_ahead 27 = .ok (.iload_n 3, 1) := by decide +kernel
theorem dX12_ahead_28 : decode cX12_ahead 28 = .ok (.invokevirtual 154, 3) := by decide +kernel
theorem dX12_ahead_31 : decode cX12_ahead 31 = .ok (.ifCond .eq 12, 3) := by decide +kernel
theorem dX12_ahead_34 : decode cX12_ahead 34 = .ok (.aload_n 0, 1) := by decide +kernel
theorem dX12_ahead_35 : decode cX12_ahead 35 = .ok (.iload 4, 2) := by decide +kernel
theorem dX12_ahead_37 : decode cX12_ahead 37 = .ok (.invokevirtual 56, 3) := by decide +kernel
theorem dX12_ahead_40 : decode cX12_ahead 40 = .ok (.ifCond .ne 5, 3) := by decide +kernel
theorem dX12_ahead_43 : decode cX12_ahead 43 = .ok (.iconst (-1), 1) := by decide +kernel
theorem dX12_ahead_44 : decode cX12_ahead 44 = .ok (.ireturn, 1) := by decide +kernel
theorem dX12_ahead_45 : decode cX12_ahead 45 = .ok (.aload_n 0, 1) := by decide +kernel
theorem dX12_ahead_46 : decode cX12_ahead 46 = .ok (.invokevirtual 449, 3) := by decide +kernel
theorem dX12_ahead_49 : decode cX12_ahead 49 = .ok (.aload_n 0, 1) := by decide +kernel
theorem dX12_ahead_50 : decode cX12_ahead 50 = .ok (.iload_n 1, 1) := by decide +kernel
theorem dX12_ahead_51 : decode cX12_ahead 51 = .ok (.aload_n 0, 1) := by decide +kernel
theorem dX12_ahead_52 : decode cX12_ahead 52 = .ok (.getfield 7, 3) := by decide +kernel
theorem dX12_ahead_55 : decode cX12_ahead 55 = .ok (.iload_n 3, 1) := by decide +kernel
theorem dX12_ahead_56 : decode cX12_ahead 56 = .ok (.imul, 1) := by decide +kernel
theorem dX12_ahead_57 : decode cX12_ahead 57 = .ok (.iload 4, 2) := by decide +kernel
theorem dX12_ahead_59 : decode cX12_ahead 59 = .ok (.iadd, 1) := by decide +kernel
theorem dX12_ahead_60 : decode cX12_ahead 60 = .ok (.iconst 1, 1) := by decide +kernel
theorem dX12_ahead_61 : decode cX12_ahead 61 = .ok (.invokevirtual 584, 3) := by decide +kernel
theorem dX12_ahead_64 : decode cX12_ahead 64 = .ok (.istore 5, 2) := by decide +kernel
theorem dX12_ahead_66 : decode cX12_ahead 66 = .ok (.aload_n 0, 1) := by decide +kernel
theorem dX12_ahead_67 : decode cX12_ahead 67 = .ok (.iload_n 2, 1) := by decide +kernel
theorem dX12_ahead_68 : decode cX12_ahead 68 = .ok (.aload_n 0, 1) := by decide +kernel
theorem dX12_ahead_69 : decode cX12_ahead 69 = .ok (.getfield 7, 3) := by decide +kernel
theorem dX12_ahead_72 : decode cX12_ahead 72 = .ok (.iload_n 3, 1) := by decide +kernel
theorem dX12_ahead_73 : decode cX12_ahead 73 = .ok (.imul, 1) := by decide +kernel
theorem dX12_ahead_74 : decode cX12_ahead 74 = .ok (.iload 4, 2) := by decide +kernel
theorem dX12_ahead_76 : decode cX12_ahead 76 = .ok (.iadd, 1) := by decide +kernel
theorem dX12_ahead_77 : decode cX12_ahead 77 = .ok (.iconst 0, 1) := by decide +kernel
theorem dX12_ahead_78 : decode cX12_ahead 78 = .ok (.invokevirtual 584, 3) := by decide +kernel
theorem dX12_ahead_81 : decode cX12_ahead 81 = .ok (.istore 6, 2) := by decide +kernel
theorem dX12_ahead_83 : decode cX12_ahead 83 = .ok (.iload 5, 2) := by decide +kernel
theorem dX12_ahead_85 : decode cX12_ahead 85 = .ok (.ifCond .lt 8, 3) := by decide +kernel
theorem dX12_ahead_88 : decode cX12_ahead 88 = .ok (.iload 6, 2) := by decide +kernel
theorem dX12_ahead_90 : decode cX12_ahead 90 = .ok (.ifCond .ge 7, 3) := by decide +kernel
theorem dX12_ahead_93 : decode cX12_ahead 93 = .ok (.iconst (-1), 1) := by decide +kernel
theorem dX12_ahead_94 : decode cX12_ahead 94 = .ok (.goto 18, 3) := by decide +kernel
theorem dX12_ahead_97 : decode cX12_ahead 97 = .ok (.iload 5, 2) := by decide +kernel
theorem dX12_ahead_99 : decode cX12_ahead 99 = .ok (.iload 6, 2) := by decide +kernel
theorem dX12_ahead_101 : decode cX12_ahead 101 = .ok (.if_icmp .ge 7, 3) := by decide +kernel
theorem dX12_ahead_104 : decode cX12_ahead 104 = .ok (.iconst 1, 1) := by decide +kernel
theorem dX12_ahead_105 : decode cX12_ahead 105 = .ok (.goto 4, 3) := by decide +kernel
theorem dX12_ahead_108 : decode cX12_ahead 108 = .ok (.iconst 0, 1) := by decide +kernel
theorem dX12_ahead_109 : decode cX12_ahead 109 = .ok (.invokestatic 292, 3) := by decide +kernel
theorem dX12_ahead_112 : decode cX12_ahead 112 = .ok (.ireturn, 1) := by decide +kernel
theorem dX12_toldLine_0 : decode cX12_toldLine 0 = .ok (.iconst (-1), 1) := by decide +kernel
theorem dX12_toldLine_1 : decode cX12_toldLine 1 = .ok (.istore_n 3, 1) := by decide +kernel
theorem dX12_toldLine_2 : decode cX12_toldLine 2 = .ok (.iconst 0, 1) := by decide +kernel
theorem dX12_toldLine_3 : decode cX12_toldLine 3 = .ok (.istore 4, 2) := by decide +kernel
theorem dX12_toldLine_5 : decode cX12_toldLine 5 = .ok (.iload 4, 2) := by decide +kernel
theorem dX12_toldLine_7 : decode cX12_toldLine 7 = .ok (.aload_n 0, 1) := by decide +kernel
theorem dX12_toldLine_8 : decode cX12_toldLine 8 = .ok (.getfield 7, 3) := by decide +kernel
theorem dX12_toldLine_11 : decode cX12_toldLine 11 = .ok (.aload_n 0, 1) := by decide +kernel
theorem dX12_toldLine_12 : decode cX12_toldLine 12 = .ok (.getfield 10, 3) := by decide +kernel
theorem dX12_toldLine_15 : decode cX12_toldLine 15 = .ok (.imul, 1) := by decide +kernel
theorem dX12_toldLine_16 : decode cX12_toldLine 16 = .ok (.if_icmp .ge 56, 3) := by decide +kernel
theorem dX12_toldLine_19 : decode cX12_toldLine 19 = .ok (.aload_n 0, 1) := by decide +kernel
theorem dX12_toldLine_20 : decode cX12_toldLine 20 = .ok (.getfield 363, 3) := by decide +kernel
theorem dX12_toldLine_23 : decode cX12_toldLine 23 = .ok (.bipush 60, 2) := by decide +kernel
theorem dX12_toldLine_25 : decode cX12_toldLine 25 = .ok (.iload_n 1, 1) := by decide +kernel
theorem dX12_toldLine_26 : decode cX12_toldLine 26 = .ok (.imul, 1) := by decide +kernel
theorem dX12_toldLine_27 : decode cX12_toldLine 27 = .ok (.iload 4, 2) := by decide +kernel
theorem dX12_toldLine_29 : decode cX12_toldLine 29 = .ok (.iadd, 1) := by decide +kernel
theorem dX12_toldLine_30 : decode cX12_toldLine 30 = .ok (.iaload, 1) := by decide +kernel
theorem dX12_toldLine_31 : decode cX12_toldLine 31 = .ok (.istore 5, 2) := by decide +kernel
theorem dX12_toldLine_33 : decode cX12_toldLine 33 = .ok (.iload 5, 2) := by decide +kernel
theorem dX12_toldLine_35 : decode cX12_toldLine 35 = .ok (.ifCond .lt 29, 3) := by decide +kernel
theorem dX12_toldLine_38 : decode cX12_toldLine 38 = .ok (.iload 5, 2) := by decide +kernel
theorem dX12_toldLine_40 : decode cX12_toldLine 40 = .ok (.iload_n 2, 1) := by decide +kernel
theorem dX12_toldLine_41 : decode cX12_toldLine 41 = .ok (.if_icmp .gt 23, 3) := by decide +kernel
theorem dX12_toldLine_44 : decode cX12_toldLine 44 = .ok (.aload_n 0, 1) := by decide +kernel
theorem dX12_toldLine_45 : decode cX12_toldLine 45 = .ok (.getfield 20, 3) := by decide +kernel
theorem dX12_toldLine_48 : decode cX12_toldLine 48 = .ok (.iload 4, 2) := by decide +kernel
theorem dX12_toldLine_50 : decode cX12_toldLine 50 = .ok (.aload_n 0, 1) := by decide +kernel
theorem dX12_toldLine_51 : decode cX12_toldLine 51 = .ok (.getfield 7, 3) := by decide +kernel
theorem dX12_toldLine_54 : decode cX12_toldLine 54 = .ok (.irem, 1) := by decide +kernel
theorem dX12_toldLine_55 : decode cX12_toldLine 55 = .ok (.baload, 1) := by decide +kernel
theorem dX12_toldLine_56 : decode cX12_toldLine 56 = .ok (.ifCond .ne 8, 3) := by decide +kernel
theorem dX12_toldLine_59 : decode cX12_toldLine 59 = .ok (.iload 4, 2) := by decide +kernel
theorem dX12_toldLine_61 : decode cX12_toldLine 61 = .ok (.goto 4, 3) := by decide +kernel
theorem dX12_toldLine_64 : decode cX12_toldLine 64 = .ok (.iload_n 3, 1) := by decide +kernel
theorem dX12_toldLine_65 : decode cX12_toldLine 65 = .ok (.istore_n 3, 1) := by decide +kernel
theorem dX12_toldLine_66 : decode cX12_toldLine 66 = .ok (.iinc 4 1, 3) := by decide +kernel
theorem dX12_toldLine_69 : decode cX12_toldLine 69 = .ok (.goto (-64), 3) := by decide +kernel
theorem dX12_toldLine_72 : decode cX12_toldLine 72 = .ok (.iload_n 3, 1) := by decide +kernel
theorem dX12_toldLine_73 : decode cX12_toldLine 73 = .ok (.ireturn, 1) := by decide +kernel
theorem dX12_wall_0 : decode cX12_wall 0 = .ok (.aload_n 0, 1) := by decide +kernel
theorem dX12_wall_1 : decode cX12_wall 1 = .ok (.iconst 0, 1) := by decide +kernel
theorem dX12_wall_2 : decode cX12_wall 2 = .ok (.putfield 3, 3) := by decide +kernel
theorem dX12_wall_5 : decode cX12_wall 5 = .ok (.aload_n 0, 1) := by decide +kernel
theorem dX12_wall_6 : decode cX12_wall 6 = .ok (.iload_n 1, 1) := by decide +kernel
theorem dX12_wall_7 : decode cX12_wall 7 = .ok (.invokevirtual 145, 3) := by decide +kernel
theorem dX12_wall_10 : decode cX12_wall 10 = .ok (.ifCond .eq 7, 3) := by decide +kernel
theorem dX12_wall_13 : decode cX12_wall 13 = .ok (.iload_n 2, 1) := by decide +kernel
theorem dX12_wall_14 : decode cX12_wall 14 = .ok (.ifCond .ge 5, 3) := by decide +kernel
theorem dX12_wall_17 : decode cX12_wall 17 = .ok (.iconst (-1), 1) := by decide +kernel
theorem dX12_wall_18 : decode cX12_wall 18 = .ok (.ireturn, 1) := by decide +kernel
theorem dX12_wall_19 : decode cX12_wall 19 = .ok (.aload_n 0, 1) := by decide +kernel
theorem dX12_wall_20 : decode cX12_wall 20 = .ok (.invokevirtual 449, 3) := by decide +kernel
theorem dX12_wall_23 : decode cX12_wall 23 = .ok (.aload_n 0, 1) := by decide +kernel
theorem dX12_wall_24 : decode cX12_wall 24 = .ok (.iload_n 1, 1) := by decide +kernel
theorem dX12_wall_25 : decode cX12_wall 25 = .ok (.iload_n 2, 1) := by decide +kernel
theorem dX12_wall_26 : decode cX12_wall 26 = .ok (.invokevirtual 587, 3) := by decide +kernel
theorem dX12_wall_29 : decode cX12_wall 29 = .ok (.istore_n 3, 1) := by decide +kernel
theorem dX12_wall_30 : decode cX12_wall 30 = .ok (.iload_n 3, 1) := by decide +kernel
theorem dX12_wall_31 : decode cX12_wall 31 = .ok (.ifCond .ge 7, 3) := by decide +kernel
theorem dX12_wall_34 : decode cX12_wall 34 = .ok (.iconst 0, 1) := by decide +kernel
theorem dX12_wall_35 : decode cX12_wall 35 = .ok (.goto 14, 3) := by decide +kernel
theorem dX12_wall_38 : decode cX12_wall 38 = .ok (.aload_n 0, 1) := by decide +kernel
theorem dX12_wall_39 : decode cX12_wall 39 = .ok (.getfield 363, 3) := by decide +kernel
theorem dX12_wall_42 : decode cX12_wall 42 = .ok (.bipush 60, 2) := by decide +kernel
theorem dX12_wall_44 : decode cX12_wall 44 = .ok (.iload_n 1, 1) := by decide +kernel
theorem dX12_wall_45 : decode cX12_wall 45 = .ok (.imul, 1) := by decide +kernel
theorem dX12_wall_46 : decode cX12_wall 46 = .ok (.iload_n 3, 1) := by decide +kernel
theorem dX12_wall_47 : decode cX12_wall 47 = .ok (.iadd, 1) := by decide +kernel
theorem dX12_wall_48 : decode cX12_wall 48 = .ok (.iaload, 1) := by decide +kernel
theorem dX12_wall_49 : decode cX12_wall 49 = .ok (.istore 4, 2) := by decide +kernel
theorem dX12_wall_51 : decode cX12_wall 51 = .ok (.iconst 0, 1) := by decide +kernel
theorem dX12_wall_52 : decode cX12_wall 52 = .ok (.istore 5, 2) := by decide +kernel
theorem dX12_wall_54 : decode cX12_wall 54 = .ok (.iconst 0, 1) := by decide +kernel
theorem dX12_wall_55 : decode cX12_wall 55 = .ok (.istore 6, 2) := by decide +kernel
theorem dX12_wall_57 : decode cX12_wall 57 = .ok (.iload 6, 2) := by decide +kernel
theorem dX12_wall_59 : decode cX12_wall 59 = .ok (.aload_n 0, 1) := by decide +kernel
theorem dX12_wall_60 : decode cX12_wall 60 = .ok (.getfield 30, 3) := by decide +kernel
theorem dX12_wall_63 : decode cX12_wall 63 = .ok (.if_icmp .ge 84, 3) := by decide +kernel
theorem dX12_wall_66 : decode cX12_wall 66 = .ok (.aload_n 0, 1) := by decide +kernel
theorem dX12_wall_67 : decode cX12_wall 67 = .ok (.iload 6, 2) := by decide +kernel
theorem dX12_wall_69 : decode cX12_wall 69 = .ok (.iload_n 2, 1) := by decide +kernel
theorem dX12_wall_70 : decode cX12_wall 70 = .ok (.invokevirtual 587, 3) := by decide +kernel
theorem dX12_wall_73 : decode cX12_wall 73 = .ok (.istore 7, 2) := by decide +kernel
theorem dX12_wall_75 : decode cX12_wall 75 = .ok (.iload 7, 2) := by decide +kernel
theorem dX12_wall_77 : decode cX12_wall 77 = .ok (.ifCond .ge 7, 3) := by decide +kernel
theorem dX12_wall_80 : decode cX12_wall 80 = .ok (.iconst 0, 1) := by decide +kernel
theorem dX12_wall_81 : decode cX12_wall 81 = .ok (.goto 16, 3) := by decide +kernel
theorem dX12_wall_84 : decode cX12_wall 84 = .ok (.aload_n 0, 1) := by decide +kernel
theorem dX12_wall_85 : decode cX12_wall 85 = .ok (.getfield 363, 3) := by decide +kernel
theorem dX12_wall_88 : decode cX12_wall 88 = .ok (.bipush 60, 2) := by decide +kernel
theorem dX12_wall_90 : decode cX12_wall 90 = .ok (.iload 6, 2) := by decide +kernel
theorem dX12_wall_92 : decode cX12_wall 92 = .ok (.imul, 1) := by decide +kernel
theorem dX12_wall_93 : decode cX12_wall 93 = .ok (.iload 7, 2) := by decide +kernel
theorem dX12_wall_95 : decode cX12_wall 95 = .ok (.iadd, 1) := by decide +kernel
theorem dX12_wall_96 : decode cX12_wall 96 = .ok (.iaload, 1) := by decide +kernel
theorem dX12_wall_97 : decode cX12_wall 97 = .ok (.istore 8, 2) := by decide +kernel
theorem dX12_wall_99 : decode cX12_wall 99 = .ok (.iload 5, 2) := by decide +kernel
theorem dX12_wall_101 : decode cX12_wall 101 = .ok (.iload 7, 2) := by decide +kernel
theorem dX12_wall_103 : decode cX12_wall 103 = .ok (.iload_n 3, 1) := by decide +kernel
theorem dX12_wall_104 : decode cX12_wall 104 = .ok (.if_icmp .gt 29, 3) := by decide +kernel
theorem dX12_wall_107 : decode cX12_wall 107 = .ok (.iload 7, 2) := by decide +kernel
theorem dX12_wall_109 : decode cX12_wall 109 = .ok (.iload_n 3, 1) := by decide +kernel
theorem dX12_wall_110 : decode cX12_wall 110 = .ok (.if_icmp .ne 27, 3) := by decide +kernel
theorem dX12_wall_113 : decode cX12_wall 113 = .ok (.iload 8, 2) := by decide +kernel
theorem dX12_wall_115 : decode cX12_wall 115 = .ok (.iload 4, 2) := by decide +kernel
theorem dX12_wall_117 : decode cX12_wall 117 = .ok (.if_icmp .lt 16, 3) := by decide +kernel
theorem dX12_wall_120 : decode cX12_wall 120 = .ok (.iload 8, 2) := by decide +kernel
theorem dX12_wall_122 : decode cX12_wall 122 = .ok (.iload 4, 2) := by decide +kernel
theorem dX12_wall_124 : decode cX12_wall 124 = .ok (.if_icmp .ne 13, 3) := by decide +kernel
theorem dX12_wall_127 : decode cX12_wall 127 = .ok (.iload 6, 2) := by decide +kernel
theorem dX12_wall_129 : decode cX12_wall 129 = .ok (.iload_n 1, 1) := by decide +kernel
theorem dX12_wall_130 : decode cX12_wall 130 = .ok (.if_icmp .ge 7, 3) := by decide +kernel
theorem dX12_wall_133 : decode cX12_wall 133 = .ok (.iconst 1, 1) := by decide +kernel
theorem dX12_wall_134 : decode cX12_wall 134 = .ok (.goto 4, 3) := by decide +kernel
theorem dX12_wall_137 : decode cX12_wall 137 = .ok (.iconst 0, 1) := by decide +kernel
theorem dX12_wall_138 : decode cX12_wall 138 = .ok (.iadd, 1) := by decide +kernel
theorem dX12_wall_139 : decode cX12_wall 139 = .ok (.istore 5, 2) := by decide +kernel
theorem dX12_wall_141 : decode cX12_wall 141 = .ok (.iinc 6 1, 3) := by decide +kernel
theorem dX12_wall_144 : decode cX12_wall 144 = .ok (.goto (-87), 3) := by decide +kernel
theorem dX12_wall_147 : decode cX12_wall 147 = .ok (.iload 5, 2) := by decide +kernel
theorem dX12_wall_149 : decode cX12_wall 149 = .ok (.ireturn, 1) := by decide +kernel
theorem dX12_why_0 : decode cX12_why 0 = .ok (.aload_n 0, 1) := by decide +kernel
theorem dX12_why_1 : decode cX12_why 1 = .ok (.iconst 0, 1) := by decide +kernel
theorem dX12_why_2 : decode cX12_why 2 = .ok (.putfield 3, 3) := by decide +kernel
theorem dX12_why_5 : decode cX12_why 5 = .ok (.aload_n 0, 1) := by decide +kernel
theorem dX12_why_6 : decode cX12_why 6 = .ok (.iload_n 1, 1) := by decide +kernel
theorem dX12_why_7 : decode cX12_why 7 = .ok (.invokevirtual 145, 3) := by decide +kernel
theorem dX12_why_10 : decode cX12_why 10 = .ok (.ifCond .eq 11, 3) := by decide +kernel
theorem dX12_why_13 : decode cX12_why 13 = .ok (.aload_n 0, 1) := by decide +kernel
theorem dX12_why_14 : decode cX12_why 14 = .ok (.iload_n 2, 1) := by decide +kernel
theorem dX12_why_15 : decode cX12_why 15 = .ok (.invokevirtual 154, 3) := by decide +kernel
theorem dX12_why_18 : decode cX12_why 18 = .ok (.ifCond .ne 5, 3) := by decide +kernel
theorem dX12_why_21 : decode cX12_why 21 = .ok (.iconst (-1), 1) := by decide +kernel
theorem dX12_why_22 : decode cX12_why 22 = .ok (.ireturn, 1) := by decide +kernel
theorem dX12_why_23 : decode cX12_why 23 = .ok (.aload_n 0, 1) := by decide +kernel
theorem dX12_why_24 : decode cX12_why 24 = .ok (.invokevirtual 449, 3) := by decide +kernel
theorem dX12_why_27 : decode cX12_why 27 = .ok (.aload_n 0, 1) := by decide +kernel
theorem dX12_why_28 : decode cX12_why 28 = .ok (.getfield 369, 3) := by decide +kernel
theorem dX12_why_31 : decode cX12_why 31 = .ok (.bipush 12, 2) := by decide +kernel
theorem dX12_why_33 : decode cX12_why 33 = .ok (.iload_n 1, 1) := by decide +kernel
theorem dX12_why_34 : decode cX12_why 34 = .ok (.imul, 1) := by decide +kernel
theorem dX12_why_35 : decode cX12_why 35 = .ok (.iload_n 2, 1) := by decide +kernel
theorem dX12_why_36 : decode cX12_why 36 = .ok (.iadd, 1) := by decide +kernel
theorem dX12_why_37 : decode cX12_why 37 = .ok (.iaload, 1) := by decide +kernel
theorem dX12_why_38 : decode cX12_why 38 = .ok (.ireturn, 1) := by decide +kernel
theorem dX12_row_0 : decode cX12_row 0 = .ok (.aload_n 0, 1) := by decide +kernel
theorem dX12_row_1 : decode cX12_row 1 = .ok (.iconst 0, 1) := by decide +kernel
theorem dX12_row_2 : decode cX12_row 2 = .ok (.putfield 3, 3) := by decide +kernel
theorem dX12_row_5 : decode cX12_row 5 = .ok (.iload_n 1, 1) := by decide +kernel
theorem dX12_row_6 : decode cX12_row 6 = .ok (.i2l, 1) := by decide +kernel
theorem dX12_row_7 : decode cX12_row 7 = .ok (.lconst 0, 1) := by decide +kernel
theorem dX12_row_8 : decode cX12_row 8 = .ok (.aload_n 0, 1) := by decide +kernel
theorem dX12_row_9 : decode cX12_row 9 = .ok (.getfield 185, 3) := by decide +kernel
theorem dX12_row_12 : decode cX12_row 12 = .ok (.iconst 1, 1) := by decide +kernel
theorem dX12_row_13 : decode cX12_row 13 = .ok (.isub, 1) := by decide +kernel
theorem dX12_row_14 : decode cX12_row 14 = .ok (.i2l, 1) := by decide +kernel
theorem dX12_row_15 : decode cX12_row 15 = .ok (.invokestatic 42, 3) := by decide +kernel
theorem dX12_row_18 : decode cX12_row 18 = .ok (.ifCond .eq 12, 3) := by decide +kernel
theorem dX12_row_21 : decode cX12_row 21 = .ok (.aload_n 0, 1) := by decide +kernel
theorem dX12_row_22 : decode cX12_row 22 = .ok (.getfield 508, 3) := by decide +kernel
theorem dX12_row_25 : decode cX12_row 25 = .ok (.iload_n 1, 1) := by decide +kernel
theorem dX12_row_26 : decode cX12_row 26 = .ok (.iaload, 1) := by decide +kernel
theorem dX12_row_27 : decode cX12_row 27 = .ok (.goto 7, 3) := by decide +kernel
theorem dX12_row_30 : decode cX12_row 30 = .ok (.aload_n 0, 1) := by decide +kernel
theorem dX12_row_31 : decode cX12_row 31 = .ok (.invokevirtual 446, 3) := by decide +kernel
theorem dX12_row_34 : decode cX12_row 34 = .ok (.ireturn, 1) := by decide +kernel
theorem dJ6_bitCount_0f7a4_0 : decode cJ6_bitCount_0f7a4 0 = .ok (.iload_n 0, 1) := by decide +kernel
theorem dJ6_bitCount_0f7a4_1 : decode cJ6_bitCount_0f7a4 1 = .ok (.iload_n 0, 1) := by decide +kernel
theorem dJ6_bitCount_0f7a4_2 : decode cJ6_bitCount_0f7a4 2 = .ok (.iconst 1, 1) := by decide +kernel
theorem dJ6_bitCount_0f7a4_3 : decode cJ6_bitCount_0f7a4 3 = .ok (.iushr, 1) := by decide +kernel
theorem dJ6_bitCount_0f7a4_4 : decode cJ6_bitCount_0f7a4 4 = .ok (.ldc_w 265, 3) := by decide +kernel
theorem dJ6_bitCount_0f7a4_7 : decode cJ6_bitCount_0f7a4 7 = .ok (.iand, 1) := by decide +kernel
theorem dJ6_bitCount_0f7a4_8 : decode cJ6_bitCount_0f7a4 8 = .ok (.isub, 1) := by decide +kernel
theorem dJ6_bitCount_0f7a4_9 : decode cJ6_bitCount_0f7a4 9 = .ok (.istore_n 0, 1) := by decide +kernel
theorem dJ6_bitCount_0f7a4_10 : decode cJ6_bitCount_0f7a4 10 = .ok (.iload_n 0, 1) := by decide +kernel
theorem dJ6_bitCount_0f7a4_11 : decode cJ6_bitCount_0f7a4 11 = .ok (.ldc_w 266, 3) := by decide +kernel
theorem dJ6_bitCount_0f7a4_14 : decode cJ6_bitCount_0f7a4 14 = .ok (.iand, 1) := by decide +kernel
theorem dJ6_bitCount_0f7a4_15 : decode cJ6_bitCount_0f7a4 15 = .ok (.iload_n 0, 1) := by decide +kernel
theorem dJ6_bitCount_0f7a4_16 : decode cJ6_bitCount_0f7a4 16 = .ok (.iconst 2, 1) := by decide +kernel
theorem dJ6_bitCount_0f7a4_17 : decode cJ6_bitCount_0f7a4 17 = .ok (.iushr, 1) := by decide +kernel
theorem dJ6_bitCount_0f7a4_18 : decode cJ6_bitCount_0f7a4 18 = .ok (.ldc_w 266, 3) := by decide +kernel
theorem dJ6_bitCount_0f7a4_21 : decode cJ6_bitCount_0f7a4 21 = .ok (.iand, 1) := by decide +kernel
theorem dJ6_bitCount_0f7a4_22 : decode cJ6_bitCount_0f7a4 22 = .ok (.iadd, 1) := by decide +kernel
theorem dJ6_bitCount_0f7a4_23 : decode cJ6_bitCount_0f7a4 23 = .ok (.istore_n 0, 1) := by decide +kernel
theorem dJ6_bitCount_0f7a4_24 : decode cJ6_bitCount_0f7a4 24 = .ok (.iload_n 0, 1) := by decide +kernel
theorem dJ6_bitCount_0f7a4_25 : decode cJ6_bitCount_0f7a4 25 = .ok (.iload_n 0, 1) := by decide +kernel
theorem dJ6_bitCount_0f7a4_26 : decode cJ6_bitCount_0f7a4 26 = .ok (.iconst 4, 1) := by decide +kernel
theorem dJ6_bitCount_0f7a4_27 : decode cJ6_bitCount_0f7a4 27 = .ok (.iushr, 1) := by decide +kernel
theorem dJ6_bitCount_0f7a4_28 : decode cJ6_bitCount_0f7a4 28 = .ok (.iadd, 1) := by decide +kernel
theorem dJ6_bitCount_0f7a4_29 : decode cJ6_bitCount_0f7a4 29 = .ok (.ldc_w 267, 3) := by decide +kernel
theorem dJ6_bitCount_0f7a4_32 : decode cJ6_bitCount_0f7a4 32 = .ok (.iand, 1) := by decide +kernel
theorem dJ6_bitCount_0f7a4_33 : decode cJ6_bitCount_0f7a4 33 = .ok (.istore_n 0, 1) := by decide +kernel
theorem dJ6_bitCount_0f7a4_34 : decode cJ6_bitCount_0f7a4 34 = .ok (.iload_n 0, 1) := by decide +kernel
theorem dJ6_bitCount_0f7a4_35 : decode cJ6_bitCount_0f7a4 35 = .ok (.iload_n 0, 1) := by decide +kernel
theorem dJ6_bitCount_0f7a4_36 : decode cJ6_bitCount_0f7a4 36 = .ok (.bipush 8, 2) := by decide +kernel
theorem dJ6_bitCount_0f7a4_38 : decode cJ6_bitCount_0f7a4 38 = .ok (.iushr, 1) := by decide +kernel
theorem dJ6_bitCount_0f7a4_39 : decode cJ6_bitCount_0f7a4 39 = .ok (.iadd, 1) := by decide +kernel
theorem dJ6_bitCount_0f7a4_40 : decode cJ6_bitCount_0f7a4 40 = .ok (.istore_n 0, 1) := by decide +kernel
theorem dJ6_bitCount_0f7a4_41 : decode cJ6_bitCount_0f7a4 41 = .ok (.iload_n 0, 1) := by decide +kernel
theorem dJ6_bitCount_0f7a4_42 : decode cJ6_bitCount_0f7a4 42 = .ok (.iload_n 0, 1) := by decide +kernel
theorem dJ6_bitCount_0f7a4_43 : decode cJ6_bitCount_0f7a4 43 = .ok (.bipush 16, 2) := by decide +kernel
theorem dJ6_bitCount_0f7a4_45 : decode cJ6_bitCount_0f7a4 45 = .ok (.iushr, 1) := by decide +kernel
theorem dJ6_bitCount_0f7a4_46 : decode cJ6_bitCount_0f7a4 46 = .ok (.iadd, 1) := by decide +kernel
theorem dJ6_bitCount_0f7a4_47 : decode cJ6_bitCount_0f7a4 47 = .ok (.istore_n 0, 1) := by decide +kernel
theorem dJ6_bitCount_0f7a4_48 : decode cJ6_bitCount_0f7a4 48 = .ok (.iload_n 0, 1) := by decide +kernel
theorem dJ6_bitCount_0f7a4_49 : decode cJ6_bitCount_0f7a4 49 = .ok (.bipush 63, 2) := by decide +kernel
theorem dJ6_bitCount_0f7a4_51 : decode cJ6_bitCount_0f7a4 51 = .ok (.iand, 1) := by decide +kernel
theorem dJ6_bitCount_0f7a4_52 : decode cJ6_bitCount_0f7a4 52 = .ok (.ireturn, 1) := by decide +kernel
theorem dJ7_fill_53178_0 : decode cJ7_fill_53178 0 = .ok (.iconst 0, 1) := by decide +kernel
theorem dJ7_fill_53178_1 : decode cJ7_fill_53178 1 = .ok (.istore_n 2, 1) := by decide +kernel
theorem dJ7_fill_53178_2 : decode cJ7_fill_53178 2 = .ok (.aload_n 0, 1) := by decide +kernel
theorem dJ7_fill_53178_3 : decode cJ7_fill_53178 3 = .ok (.arraylength, 1) := by decide +kernel
theorem dJ7_fill_53178_4 : decode cJ7_fill_53178 4 = .ok (.istore_n 3, 1) := by decide +kernel
theorem dJ7_fill_53178_5 : decode cJ7_fill_53178 5 = .ok (.iload_n 2, 1) := by decide +kernel
theorem dJ7_fill_53178_6 : decode cJ7_fill_53178 6 = .ok (.iload_n 3, 1) := by decide +kernel
theorem dJ7_fill_53178_7 : decode cJ7_fill_53178 7 = .ok (.if_icmp .ge 13, 3) := by decide +kernel
theorem dJ7_fill_53178_10 : decode cJ7_fill_53178 10 = .ok (.aload_n 0, 1) := by decide +kernel
theorem dJ7_fill_53178_11 : decode cJ7_fill_53178 11 = .ok (.iload_n 2, 1) := by decide +kernel
theorem dJ7_fill_53178_12 : decode cJ7_fill_53178 12 = .ok (.iload_n 1, 1) := by decide +kernel
theorem dJ7_fill_53178_13 : decode cJ7_fill_53178 13 = .ok (.iastore, 1) := by decide +kernel
theorem dJ7_fill_53178_14 : decode cJ7_fill_53178 14 = .ok (.iinc 2 1, 3) := by decide +kernel
theorem dJ7_fill_53178_17 : decode cJ7_fill_53178 17 = .ok (.goto (-12), 3) := by decide +kernel
theorem dJ7_fill_53178_20 : decode cJ7_fill_53178 20 = .ok (.return_, 1) := by decide +kernel

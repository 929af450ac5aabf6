theorem dX4_isOnLine_64 : decode cX4_isOnLine 64 = .ok (.ifCond .eq 15, 3) := by decide +kernel
theorem dX4_isOnLine_67 : decode cX4_isOnLine 67 = .ok (.aload_n 0, 1) := by decide +kernel
theorem dX4_isOnLine_68 : decode cX4_isOnLine 68 = .ok (.getfield 9, 3) := by decide +kernel
theorem dX4_isOnLine_71 : decode cX4_isOnLine 71 = .ok (.getfield 100, 3) := by decide +kernel
theorem dX4_isOnLine_74 : decode cX4_isOnLine 74 = .ok (.iload_n 1, 1) := by decide +kernel
theorem dX4_isOnLine_75 : decode cX4_isOnLine 75 = .ok (.iaload, 1) := by decide +kernel
theorem dX4_isOnLine_76 : decode cX4_isOnLine 76 = .ok (.goto 12, 3) := by decide +kernel
theorem dX4_isOnLine_79 : decode cX4_isOnLine 79 = .ok (.aload_n 0, 1) := by decide +kernel
theorem dX4_isOnLine_80 : decode cX4_isOnLine 80 = .ok (.getfield 9, 3) := by decide +kernel
theorem dX4_isOnLine_83 : decode cX4_isOnLine 83 = .ok (.getfield 82, 3) := by decide +kernel
theorem dX4_isOnLine_86 : decode cX4_isOnLine 86 = .ok (.iload_n 1, 1) := by decide +kernel
theorem dX4_isOnLine_87 : decode cX4_isOnLine 87 = .ok (.iaload, 1) := by decide +kernel
theorem dX4_isOnLine_88 : decode cX4_isOnLine 88 = .ok (.istore 7, 2) := by decide +kernel
theorem dX4_isOnLine_90 : decode cX4_isOnLine 90 = .ok (.iload 6, 2) := by decide +kernel
theorem dX4_isOnLine_92 : decode cX4_isOnLine 92 = .ok (.ifCond .eq 15, 3) := by decide +kernel
theorem dX4_isOnLine_95 : decode cX4_isOnLine 95 = .ok (.aload_n 0, 1) := by decide +kernel
theorem dX4_isOnLine_96 : decode cX4_isOnLine 96 = .ok (.getfield 9, 3) := by decide +kernel
theorem dX4_isOnLine_99 : decode cX4_isOnLine 99 = .ok (.getfield 82, 3) := by decide +kernel
theorem dX4_isOnLine_102 : decode cX4_isOnLine 102 = .ok (.iload_n 1, 1) := by decide +kernel
theorem dX4_isOnLine_103 : decode cX4_isOnLine 103 = .ok (.iaload, 1) := by decide +kernel
theorem dX4_isOnLine_104 : decode cX4_isOnLine 104 = .ok (.goto 12, 3) := by decide +kernel
theorem dX4_isOnLine_107 : decode cX4_isOnLine 107 = .ok (.aload_n 0, 1) := by decide +kernel
theorem dX4_isOnLine_108 : decode cX4_isOnLine 108 = .ok (.getfield 9, 3) := by decide +kernel
theorem dX4_isOnLine_111 : decode cX4_isOnLine 111 = .ok (.getfield 100, 3) := by decide +kernel
theorem dX4_isOnLine_114 : decode cX4_isOnLine 114 = .ok (.iload_n 1, 1) := by decide +kernel
theorem dX4_isOnLine_115 : decode cX4_isOnLine 115 = .ok (.iaload, 1) := by decide +kernel
theorem dX4_isOnLine_116 : decode cX4_isOnLine 116 = .ok (.istore 8, 2) := by decide +kernel
theorem dX4_isOnLine_118 : decode cX4_isOnLine 118 = .ok (.getstatic 94, 3) := by decide +kernel
theorem dX4_isOnLine_121 : decode cX4_isOnLine 121 = .ok (.iload 5, 2) := by decide +kernel
theorem dX4_isOnLine_123 : decode cX4_isOnLine 123 = .ok (.iaload, 1) := by decide +kernel
theorem dX4_isOnLine_124 : decode cX4_isOnLine 124 = .ok (.ifCond .ne 39, 3) := by decide +kernel
theorem dX4_isOnLine_127 : decode cX4_isOnLine 127 = .ok (.iload_n 2, 1) := by decide +kernel
theorem dX4_isOnLine_128 : decode cX4_isOnLine 128 = .ok (.aload_n 0, 1) := by decide +kernel
theorem dX4_isOnLine_129 : decode cX4_isOnLine 129 = .ok (.iload 7, 2) := by decide +kernel
theorem dX4_isOnLine_131 : decode cX4_isOnLine 131 = .ok (.invokevirtual 58, 3) := by decide +kernel
theorem dX4_isOnLine_134 : decode cX4_isOnLine 134 = .ok (.if_icmp .ne 27, 3) := by decide +kernel
theorem dX4_isOnLine_137 : decode cX4_isOnLine 137 = .ok (.iload_n 3, 1) := by decide +kernel
theorem dX4_isOnLine_138 : decode cX4_isOnLine 138 = .ok (.aload_n 0, 1) := by decide +kernel
theorem dX4_isOnLine_139 : decode cX4_isOnLine 139 = .ok (.iload 7, 2) := by decide +kernel
theorem dX4_isOnLine_141 : decode cX4_isOnLine 141 = .ok (.invokevirtual 103, 3) := by decide +kernel
theorem dX4_isOnLine_144 : decode cX4_isOnLine 144 = .ok (.if_icmp .le 17, 3) := by decide +kernel
theorem dX4_isOnLine_147 : decode cX4_isOnLine 147 = .ok (.iload_n 3, 1) := by decide +kernel
theorem dX4_isOnLine_148 : decode cX4_isOnLine 148 = .ok (.aload_n 0, 1) := by decide +kernel
theorem dX4_isOnLine_149 : decode cX4_isOnLine 149 = .ok (.iload 8, 2) := by decide +kernel
theorem dX4_isOnLine_151 : decode cX4_isOnLine 151 = .ok (.invokevirtual 103, 3) := by decide +kernel
theorem dX4_isOnLine_154 : decode cX4_isOnLine 154 = .ok (.if_icmp .ge 7, 3) := by decide +kernel
theorem dX4_isOnLine_157 : decode cX4_isOnLine 157 = .ok (.iconst 1, 1) := by decide +kernel
theorem dX4_isOnLine_158 : decode cX4_isOnLine 158 = .ok (.goto 4, 3) := by decide +kernel
theorem dX4_isOnLine_161 : decode cX4_isOnLine 161 = .ok (.iconst 0, 1) := by decide +kernel
theorem dX4_isOnLine_162 : decode cX4_isOnLine 162 = .ok (.ireturn, 1) := by decide +kernel
theorem dX4_isOnLine_163 : decode cX4_isOnLine 163 = .ok (.getstatic 97, 3) := by decide +kernel
theorem dX4_isOnLine_166 : decode cX4_isOnLine 166 = .ok (.iload 5, 2) := by decide +kernel
theorem dX4_isOnLine_168 : decode cX4_isOnLine 168 = .ok (.iaload, 1) := by decide +kernel
theorem dX4_isOnLine_169 : decode cX4_isOnLine 169 = .ok (.ifCond .ne 39, 3) := by decide +kernel
theorem dX4_isOnLine_172 : decode cX4_isOnLine 172 = .ok (.iload_n 3, 1) := by decide +kernel
theorem dX4_isOnLine_173 : decode cX4_isOnLine 173 = .ok (.aload_n 0, 1) := by decide +kernel
theorem dX4_isOnLine_174 : decode cX4_isOnLine 174 = .ok (.iload 7, 2) := by decide +kernel
theorem dX4_isOnLine_176 : decode cX4_isOnLine 176 = .ok (.invokevirtual 103, 3) := by decide +kernel
theorem dX4_isOnLine_179 : decode cX4_isOnLine 179 = .ok (.if_icmp .ne 27, 3) := by decide +kernel
theorem dX4_isOnLine_182 : decode cX4_isOnLine 182 = .ok (.iload_n 2, 1) := by decide +kernel
theorem dX4_isOnLine_183 : decode cX4_isOnLine 183 = .ok (.aload_n 0, 1) := by decide +kernel
theorem dX4_isOnLine_184 : decode cX4_isOnLine 184 = .ok (.iload 7, 2) := by decide +kernel
theorem dX4_isOnLine_186 : decode cX4_isOnLine 186 = .ok (.invokevirtual 62, 3) := by decide +kernel
theorem dX4_isOnLine_189 : decode cX4_isOnLine 189 = .ok (.if_icmp .lt 17, 3) := by decide +kernel
theorem dX4_isOnLine_192 : decode cX4_isOnLine 192 = .ok (.iload_n 2, 1) := by decide +kernel
theorem dX4_isOnLine_193 : decode cX4_isOnLine 193 = .ok (.aload_n 0, 1) := by decide +kernel
theorem dX4_isOnLine_194 : decode cX4_isOnLine 194 = .ok (.iload 8, 2) := by decide +kernel
theorem dX4_isOnLine_196 : decode cX4_isOnLine 196 = .ok (.invokevirtual 58, 3) := by decide +kernel
theorem dX4_isOnLine_199 : decode cX4_isOnLine 199 = .ok (.if_icmp .ge 7, 3) := by decide +kernel
theorem dX4_isOnLine_202 : decode cX4_isOnLine 202 = .ok (.iconst 1, 1) := by decide +kernel
theorem dX4_isOnLine_203 : decode cX4_isOnLine 203 = .ok (.goto 4, 3) := by decide +kernel
theorem dX4_isOnLine_206 : decode cX4_isOnLine 206 = .ok (.iconst 0, 1) := by decide +kernel
theorem dX4_isOnLine_207 : decode cX4_isOnLine 207 = .ok (.ireturn, 1) := by decide +kernel
theorem dX4_isOnLine_208 : decode cX4_isOnLine 208 = .ok (.getstatic 94, 3) := by decide +kernel
theorem dX4_isOnLine_211 : decode cX4_isOnLine 211 = .ok (.iload 5, 2) := by decide +kernel
theorem dX4_isOnLine_213 : decode cX4_isOnLine 213 = .ok (.iaload, 1) := by decide +kernel
theorem dX4_isOnLine_214 : decode cX4_isOnLine 214 = .ok (.getstatic 97, 3) := by decide +kernel
theorem dX4_isOnLine_217 : decode cX4_isOnLine 217 = .ok (.iload 5, 2) := by decide +kernel
theorem dX4_isOnLine_219 : decode cX4_isOnLine 219 = .ok (.iaload, 1) := by decide +kernel
theorem dX4_isOnLine_220 : decode cX4_isOnLine 220 = .ok (.imul, 1) := by decide +kernel
theorem dX4_isOnLine_221 : decode cX4_isOnLine 221 = .ok (.istore 9, 2) := by decide +kernel
theorem dX4_isOnLine_223 : decode cX4_isOnLine 223 = .ok (.aload_n 0, 1) := by decide +kernel
theorem dX4_isOnLine_224 : decode cX4_isOnLine 224 = .ok (.iload_n 2, 1) := by decide +kernel
theorem dX4_isOnLine_225 : decode cX4_isOnLine 225 = .ok (.aload_n 0, 1) := by decide +kernel
theorem dX4_isOnLine_226 : decode cX4_isOnLine 226 = .ok (.iload 7, 2) := by decide +kernel
theorem dX4_isOnLine_228 : decode cX4_isOnLine 228 = .ok (.invokevirtual 58, 3) := by decide +kernel
theorem dX4_isOnLine_231 : decode cX4_isOnLine 231 = .ok (.isub, 1) := by decide +kernel
theorem dX4_isOnLine_232 : decode cX4_isOnLine 232 = .ok (.iload 9, 2) := by decide +kernel
theorem dX4_isOnLine_234 : decode cX4_isOnLine 234 = .ok (.iload_n 3, 1) := by decide +kernel
theorem dX4_isOnLine_235 : decode cX4_isOnLine 235 = .ok (.aload_n 0, 1) := by decide +kernel
theorem dX4_isOnLine_236 : decode cX4_isOnLine 236 = .ok (.iload 7, 2) := by decide +kernel
theorem dX4_isOnLine_238 : decode cX4_isOnLine 238 = .ok (.invokevirtual 103, 3) := by decide +kernel
theorem dX4_isOnLine_241 : decode cX4_isOnLine 241 = .ok (.isub, 1) := by decide +kernel
theorem dX4_isOnLine_242 : decode cX4_isOnLine 242 = .ok (.imul, 1) := by decide +kernel
theorem dX4_isOnLine_243 : decode cX4_isOnLine 243 = .ok (.iload 4, 2) := by decide +kernel
theorem dX4_isOnLine_245 : decode cX4_isOnLine 245 = .ok (.invokevirtual 106, 3) := by decide +kernel
theorem dX4_isOnLine_248 : decode cX4_isOnLine 248 = .ok (.ireturn, 1) := by decide +kernel
theorem dX4_isOnSlant_0 : decode cX4_isOnSlant 0 = .ok (.iconst 0, 1) := by decide +kernel
theorem dX4_isOnSlant_1 : decode cX4_isOnSlant 1 = .ok (.istore 4, 2) := by decide +kernel
theorem dX4_isOnSlant_3 : decode cX4_isOnSlant 3 = .ok (.iload 4, 2) := by decide +kernel
theorem dX4_isOnSlant_5 : decode cX4_isOnSlant 5 = .ok (.iload_n 3, 1) := by decide +kernel
theorem dX4_isOnSlant_6 : decode cX4_isOnSlant 6 = .ok (.if_icmp .ge 32, 3) := by decide +kernel
theorem dX4_isOnSlant_9 : decode cX4_isOnSlant 9 = .ok (.iload_n 1, 1) := by decide +kernel
theorem dX4_isOnSlant_10 : decode cX4_isOnSlant 10 = .ok (.bipush 6, 2) := by decide +kernel
theorem dX4_isOnSlant_12 : decode cX4_isOnSlant 12 = .ok (.iload 4, 2) := by decide +kernel
theorem dX4_isOnSlant_14 : decode cX4_isOnSlant 14 = .ok (.imul, 1) := by decide +kernel
theorem dX4_isOnSlant_15 : decode cX4_isOnSlant 15 = .ok (.iconst 3, 1) := by decide +kernel
theorem dX4_isOnSlant_16 : decode cX4_isOnSlant 16 = .ok (.iadd, 1) := by decide +kernel
theorem dX4_isOnSlant_17 : decode cX4_isOnSlant 17 = .ok (.if_icmp .ne 15, 3) := by decide +kernel
theorem dX4_isOnSlant_20 : decode cX4_isOnSlant 20 = .ok (.iload_n 2, 1) := by decide +kernel
theorem dX4_isOnSlant_21 : decode cX4_isOnSlant 21 = .ok (.iconst 2, 1) := by decide +kernel
theorem dX4_isOnSlant_22 : decode cX4_isOnSlant 22 = .ok (.iload 4, 2) := by decide +kernel
theorem dX4_isOnSlant_24 : decode cX4_isOnSlant 24 = .ok (.imul, 1) := by decide +kernel
theorem dX4_isOnSlant_25 : decode cX4_isOnSlant 25 = .ok (.iconst 1, 1) := by decide +kernel
theorem dX4_isOnSlant_26 : decode cX4_isOnSlant 26 = .ok (.iadd, 1) := by decide +kernel
theorem dX4_isOnSlant_27 : decode cX4_isOnSlant 27 = .ok (.if_icmp .ne 5, 3) := by decide +kernel
theorem dX4_isOnSlant_30 : decode cX4_isOnSlant 30 = .ok (.iconst 1, 1) := by decide +kernel
theorem dX4_isOnSlant_31 : decode cX4_isOnSlant 31 = .ok (.ireturn, 1) := by decide +kernel
theorem dX4_isOnSlant_32 : decode cX4_isOnSlant 32 = .ok (.iinc 4 1, 3) := by decide +kernel
theorem dX4_isOnSlant_35 : decode cX4_isOnSlant 35 = .ok (.goto (-32), 3) := by decide +kernel
theorem dX4_isOnSlant_38 : decode cX4_isOnSlant 38 = .ok (.iconst 0, 1) := by decide +kernel
theorem dX4_isOnSlant_39 : decode cX4_isOnSlant 39 = .ok (.ireturn, 1) := by decide +kernel
theorem dX4_isInRow_0 : decode cX4_isInRow 0 = .ok (.aload_n 0, 1) := by decide +kernel
theorem dX4_isInRow_1 : decode cX4_isInRow 1 = .ok (.getfield 15, 3) := by decide +kernel
theorem dX4_isInRow_4 : decode cX4_isInRow 4 = .ok (.getfield 109, 3) := by decide +kernel
theorem dX4_isInRow_7 : decode cX4_isInRow 7 = .ok (.iload_n 1, 1) := by decide +kernel
theorem dX4_isInRow_8 : decode cX4_isInRow 8 = .ok (.baload, 1) := by decide +kernel
theorem dX4_isInRow_9 : decode cX4_isInRow 9 = .ok (.ifCond .eq 29, 3) := by decide +kernel
theorem dX4_isInRow_12 : decode cX4_isInRow 12 = .ok (.aload_n 0, 1) := by decide +kernel
theorem dX4_isInRow_13 : decode cX4_isInRow 13 = .ok (.getfield 15, 3) := by decide +kernel
theorem dX4_isInRow_16 : decode cX4_isInRow 16 = .ok (.getfield 79, 3) := by decide +kernel
theorem dX4_isInRow_19 : decode cX4_isInRow 19 = .ok (.iload_n 1, 1) := by decide +kernel
theorem dX4_isInRow_20 : decode cX4_isInRow 20 = .ok (.iaload, 1) := by decide +kernel
theorem dX4_isInRow_21 : decode cX4_isInRow 21 = .ok (.iload_n 2, 1) := by decide +kernel
theorem dX4_isInRow_22 : decode cX4_isInRow 22 = .ok (.if_icmp .ne 16, 3) := by decide +kernel
theorem dX4_isInRow_25 : decode cX4_isInRow 25 = .ok (.aload_n 0, 1) := by decide +kernel
theorem dX4_isInRow_26 : decode cX4_isInRow 26 = .ok (.iload_n 1, 1) := by decide +kernel
theorem dX4_isInRow_27 : decode cX4_isInRow 27 = .ok (.invokevirtual 103, 3) := by decide +kernel
theorem dX4_isInRow_30 : decode cX4_isInRow 30 = .ok (.iload_n 3, 1) := by decide +kernel
theorem dX4_isInRow_31 : decode cX4_isInRow 31 = .ok (.if_icmp .ne 7, 3) := by decide +kernel
theorem dX4_isInRow_34 : decode cX4_isInRow 34 = .ok (.iconst 1, 1) := by decide +kernel
theorem dX4_isInRow_35 : decode cX4_isInRow 35 = .ok (.goto 4, 3) := by decide +kernel
theorem dX4_isInRow_38 : decode cX4_isInRow 38 = .ok (.iconst 0, 1) := by decide +kernel
theorem dX4_isInRow_39 : decode cX4_isInRow 39 = .ok (.ireturn, 1) := by decide +kernel
theorem dX4_columnOf_0 : decode cX4_columnOf 0 = .ok (.bipush 6, 2) := by decide +kernel
theorem dX4_columnOf_2 : decode cX4_columnOf 2 = .ok (.aload_n 0, 1) := by decide +kernel
theorem dX4_columnOf_3 : decode cX4_columnOf 3 = .ok (.getfield 15, 3) := by decide +kernel
theorem dX4_columnOf_6 : decode cX4_columnOf 6 = .ok (.getfield 19, 3) := by decide +kernel
theorem dX4_columnOf_9 : decode cX4_columnOf 9 = .ok (.iload_n 1, 1) := by decide +kernel
theorem dX4_columnOf_10 : decode cX4_columnOf 10 = .ok (.iaload, 1) := by decide +kernel
theorem dX4_columnOf_11 : decode cX4_columnOf 11 = .ok (.aload_n 0, 1) := by decide +kernel
theorem dX4_columnOf_12 : decode cX4_columnOf 12 = .ok (.getfield 29, 3) := by decide +kernel
theorem dX4_columnOf_15 : decode cX4_columnOf 15 = .ok (.isub, 1) := by decide +kernel
theorem dX4_columnOf_16 : decode cX4_columnOf 16 = .ok (.imul, 1) := by decide +kernel
theorem dX4_columnOf_17 : decode cX4_columnOf 17 = .ok (.ireturn, 1) := by decide +kernel
theorem dX4_columnBehind_0 : decode cX4_columnBehind 0 = .ok (.aload_n 0, 1) := by decide +kernel
theorem dX4_columnBehind_1 : decode cX4_columnBehind 1 = .ok (.iload_n 1, 1) := by decide +kernel
theorem dX4_columnBehind_2 : decode cX4_columnBehind 2 = .ok (.invokevirtual 58, 3) := by decide +kernel
theorem dX4_columnBehind_5 : decode cX4_columnBehind 5 = .ok (.aload_n 0, 1) := by decide +kernel
theorem dX4_columnBehind_6 : decode cX4_columnBehind 6 = .ok (.getfield 9, 3) := by decide +kernel
theorem dX4_columnBehind_9 : decode cX4_columnBehind 9 = .ok (.getfield 113, 3) := by decide +kernel
theorem dX4_columnBehind_12 : decode cX4_columnBehind 12 = .ok (.iload_n 1, 1) := by decide +kernel
theorem dX4_columnBehind_13 : decode cX4_columnBehind 13 = .ok (.iaload, 1) := by decide +kernel
theorem dX4_columnBehind_14 : decode cX4_columnBehind 14 = .ok (.iadd, 1) := by decide +kernel
theorem dX4_columnBehind_15 : decode cX4_columnBehind 15 = .ok (.ireturn, 1) := by decide +kernel
theorem dX4_rowOf_0 : decode cX4_rowOf 0 = .ok (.iconst 2, 1) := by decide +kernel
theorem dX4_rowOf_1 : decode cX4_rowOf 1 = .ok (.aload_n 0, 1) := by decide +kernel
theorem dX4_rowOf_2 : decode cX4_rowOf 2 = .ok (.getfield 15, 3) := by decide +kernel
theorem dX4_rowOf_5 : decode cX4_rowOf 5 = .ok (.getfield 33, 3) := by decide +kernel
theorem dX4_rowOf_8 : decode cX4_rowOf 8 = .ok (.iload_n 1, 1) := by decide +kernel
theorem dX4_rowOf_9 : decode cX4_rowOf 9 = .ok (.iaload, 1) := by decide +kernel
theorem dX4_rowOf_10 : decode cX4_rowOf 10 = .ok (.aload_n 0, 1) := by decide +kernel
theorem dX4_rowOf_11 : decode cX4_rowOf 11 = .ok (.getfield 36, 3) := by decide +kernel
theorem dX4_rowOf_14 : decode cX4_rowOf 14 = .ok (.isub, 1) := by decide +kernel
theorem dX4_rowOf_15 : decode cX4_rowOf 15 = .ok (.imul, 1) := by decide +kernel
theorem dX4_rowOf_16 : decode cX4_rowOf 16 = .ok (.ireturn, 1) := by decide +kernel
theorem dX3_init_0 : decode cX3_init 0 = .ok (.aload_n 0, 1) := by decide +kernel
theorem dX3_init_1 : decode cX3_init 1 = .ok (.invokespecial 3, 3) := by decide +kernel
theorem dX3_init_4 : decode cX3_init 4 = .ok (.aload_n 0, 1) := by decide +kernel
theorem dX3_init_5 : decode cX3_init 5 = .ok (.new 9, 3) := by decide +kernel
theorem dX3_init_8 : decode cX3_init 8 = .ok (.dup, 1) := by decide +kernel
theorem dX3_init_9 : decode cX3_init 9 = .ok (.invokespecial 11, 3) := by decide +kernel
theorem dX3_init_12 : decode cX3_init 12 = .ok (.putfield 12, 3) := by decide +kernel
theorem dX3_init_15 : decode cX3_init 15 = .ok (.aload_n 0, 1) := by decide +kernel
theorem dX3_init_16 : decode cX3_init 16 = .ok (.bipush 24, 2) := by decide +kernel
theorem dX3_init_18 : decode cX3_init 18 = .ok (.newarray .int, 2) := by decide +kernel
theorem dX3_init_20 : decode cX3_init 20 = .ok (.putfield 18, 3) := by decide +kernel
theorem dX3_init_23 : decode cX3_init 23 = .ok (.aload_n 0, 1) := by decide +kernel
theorem dX3_init_24 : decode cX3_init 24 = .ok (.bipush 24, 2) := by decide +kernel
theorem dX3_init_26 : decode cX3_init 26 = .ok (.newarray .boolean, 2) := by decide +kernel
theorem dX3_init_28 : decode cX3_init 28 = .ok (.putfield 22, 3) := by decide +kernel
theorem dX3_init_31 : decode cX3_init 31 = .ok (.aload_n 0, 1) := by decide +kernel
theorem dX3_init_32 : decode cX3_init 32 = .ok (.aload_n 1, 1) := by decide +kernel
theorem dX3_init_33 : decode cX3_init 33 = .ok (.putfield 26, 3) := by decide +kernel
theorem dX3_init_36 : decode cX3_init 36 = .ok (.aload_n 0, 1) := by decide +kernel
theorem dX3_init_37 : decode cX3_init 37 = .ok (.aload_n 2, 1) := by decide +kernel
theorem dX3_init_38 : decode cX3_init 38 = .ok (.putfield 30, 3) := by decide +kernel
theorem dX3_init_41 : decode cX3_init 41 = .ok (.aload_n 0, 1) := by decide +kernel
theorem dX3_init_42 : decode cX3_init 42 = .ok (.aload_n 3, 1) := by decide +kernel
theorem dX3_init_43 : decode cX3_init 43 = .ok (.putfield 34, 3) := by decide +kernel
theorem dX3_init_46 : decode cX3_init 46 = .ok (.aload_n 0, 1) := by decide +kernel
theorem dX3_init_47 : decode cX3_init 47 = .ok (.new 38, 3) := by decide +kernel
theorem dX3_init_50 : decode cX3_init 50 = .ok (.dup, 1) := by decide +kernel
theorem dX3_init_51 : decode cX3_init 51 = .ok (.aload_n 1, 1) := by decide +kernel
theorem dX3_init_52 : decode cX3_init 52 = .ok (.invokespecial 40, 3) := by decide +kernel
theorem dX3_init_55 : decode cX3_init 55 = .ok (.putfield 43, 3) := by decide +kernel
theorem dX3_init_58 : decode cX3_init 58 = .ok (.aload_n 0, 1) := by decide +kernel
theorem dX3_init_59 : decode cX3_init 59 = .ok (.new 46, 3) := by decide +kernel
theorem dX3_init_62 : decode cX3_init 62 = .ok (.dup, 1) := by decide +kernel
theorem dX3_init_63 : decode cX3_init 63 = .ok (.aload_n 1, 1) := by decide +kernel
theorem dX3_init_64 : decode cX3_init 64 = .ok (.aload_n 0, 1) := by decide +kernel
theorem dX3_init_65 : decode cX3_init 65 = .ok (.getfield 12, 3) := by decide +kernel
theorem dX3_init_68 : decode cX3_init 68 = .ok (.invokespecial 48, 3) := by decide +kernel
theorem dX3_init_71 : decode cX3_init 71 = .ok (.putfield 51, 3) := by decide +kernel
theorem dX3_init_74 : decode cX3_init 74 = .ok (.return_, 1) := by decide +kernel
theorem dX3_leastness_0 : decode cX3_leastness 0 = .ok (.iload_n 1, 1) := by decide +kernel
theorem dX3_leastness_1 : decode cX3_leastness 1 = .ok (.aload_n 0, 1) := by decide +kernel
theorem dX3_leastness_2 : decode cX3_leastness 2 = .ok (.getfield 55, 3) := by decide +kernel
theorem dX3_leastness_5 : decode cX3_leastness 5 = .ok (.if_icmp .lt 6, 3) := by decide +kernel
theorem dX3_leastness_8 : decode cX3_leastness 8 = .ok (.bipush (-2), 2) := by decide +kernel
theorem dX3_leastness_10 : decode cX3_leastness 10 = .ok (.ireturn, 1) := by decide +kernel
theorem dX3_leastness_11 : decode cX3_leastness 11 = .ok (.aload_n 0, 1) := by decide +kernel
theorem dX3_leastness_12 : decode cX3_leastness 12 = .ok (.getfield 22, 3) := by decide +kernel
theorem dX3_leastness_15 : decode cX3_leastness 15 = .ok (.iload_n 1, 1) := by decide +kernel
theorem dX3_leastness_16 : decode cX3_leastness 16 = .ok (.baload, 1) := by decide +kernel
theorem dX3_leastness_17 : decode cX3_leastness 17 = .ok (.ifCond .eq 7, 3) := by decide +kernel
theorem dX3_leastness_20 : decode cX3_leastness 20 = .ok (.iconst 1, 1) := by decide +kernel
theorem dX3_leastness_21 : decode cX3_leastness 21 = .ok (.goto 4, 3) := by decide +kernel
theorem dX3_leastness_24 : decode cX3_leastness 24 = .ok (.iconst 0, 1) := by decide +kernel
theorem dX3_leastness_25 : decode cX3_leastness 25 = .ok (.ireturn, 1) := by decide +kernel
theorem dX3_drawAll_0 : decode cX3_drawAll 0 = .ok (.aload_n 0, 1) := by decide +kernel
theorem dX3_drawAll_1 : decode cX3_drawAll 1 = .ok (.getfield 12, 3) := by decide +kernel
theorem dX3_drawAll_4 : decode cX3_drawAll 4 = .ok (.aload_n 0, 1) := by decide +kernel
theorem dX3_drawAll_5 : decode cX3_drawAll 5 = .ok (.getfield 26, 3) := by decide +kernel
theorem dX3_drawAll_8 : decode cX3_drawAll 8 = .ok (.invokevirtual 59, 3) := by decide +kernel
theorem dX3_drawAll_11 : decode cX3_drawAll 11 = .ok (.aload_n 0, 1) := by decide +kernel
theorem dX3_drawAll_12 : decode cX3_drawAll 12 = .ok (.aload_n 0, 1) := by decide +kernel
theorem dX3_drawAll_13 : decode cX3_drawAll 13 = .ok (.getfield 30, 3) := by decide +kernel
theorem dX3_drawAll_16 : decode cX3_drawAll 16 = .ok (.aload_n 0, 1) := by decide +kernel
theorem dX3_drawAll_17 : decode cX3_drawAll 17 = .ok (.getfield 26, 3) := by decide +kernel
theorem dX3_drawAll_20 : decode cX3_drawAll 20 = .ok (.invokevirtual 62, 3) := by decide +kernel
theorem dX3_drawAll_23 : decode cX3_drawAll 23 = .ok (.putfield 55, 3) := by decide +kernel
theorem dX3_drawAll_26 : decode cX3_drawAll 26 = .ok (.aload_n 0, 1) := by decide +kernel
theorem dX3_drawAll_27 : decode cX3_drawAll 27 = .ok (.iload_n 1, 1) := by decide +kernel
theorem dX3_drawAll_28 : decode cX3_drawAll 28 = .ok (.putfield 68, 3) := by decide +kernel
theorem dX3_drawAll_31 : decode cX3_drawAll 31 = .ok (.aload_n 0, 1) := by decide +kernel
theorem dX3_drawAll_32 : decode cX3_drawAll 32 = .ok (.iconst 0, 1) := by decide +kernel
theorem dX3_drawAll_33 : decode cX3_drawAll 33 = .ok (.putfield 71, 3) := by decide +kernel
theorem dX3_drawAll_36 : decode cX3_drawAll 36 = .ok (.aload_n 0, 1) := by decide +kernel
theorem dX3_drawAll_37 : decode cX3_drawAll 37 = .ok (.getfield 34, 3) := by decide +kernel
theorem dX3_drawAll_40 : decode cX3_drawAll 40 = .ok (.invokevirtual 74, 3) := by decide +kernel
theorem dX3_drawAll_43 : decode cX3_drawAll 43 = .ok (.iconst 0, 1) := by decide +kernel
theorem dX3_drawAll_44 : decode cX3_drawAll 44 = .ok (.istore_n 2, 1) := by decide +kernel
theorem dX3_drawAll_45 : decode cX3_drawAll 45 = .ok (.iconst 0, 1) := by decide +kernel
theorem dX3_drawAll_46 : decode cX3_drawAll 46 = .ok (.istore_n 3, 1) := by decide +kernel
theorem dX3_drawAll_47 : decode cX3_drawAll 47 = .ok (.iload_n 3, 1) := by decide +kernel
theorem dX3_drawAll_48 : decode cX3_drawAll 48 = .ok (.aload_n 0, 1) := by decide +kernel
theorem dX3_drawAll_49 : decode cX3_drawAll 49 = .ok (.getfield 26, 3) := by decide +kernel
theorem dX3_drawAll_52 : decode cX3_drawAll 52 = .ok (.getfield 77, 3) := by decide +kernel
theorem dX3_drawAll_55 : decode cX3_drawAll 55 = .ok (.if_icmp .ge 73, 3) := by decide +kernel
theorem dX3_drawAll_58 : decode cX3_drawAll 58 = .ok (.aload_n 0, 1) := by decide +kernel
theorem dX3_drawAll_59 : decode cX3_drawAll 59 = .ok (.getfield 34, 3) := by decide +kernel
theorem dX3_drawAll_62 : decode cX3_drawAll 62 = .ok (.getfield 82, 3) := by decide +kernel
theorem dX3_drawAll_65 : decode cX3_drawAll 65 = .ok (.iload_n 3, 1) := by decide +kernel
theorem dX3_drawAll_66 : decode cX3_drawAll 66 = .ok (.baload, 1) := by decide +kernel
theorem dX3_drawAll_67 : decode cX3_drawAll 67 = .ok (.ifCond .ne 55, 3) := by decide +kernel
theorem dX3_drawAll_70 : decode cX3_drawAll 70 = .ok (.aload_n 0, 1) := by decide +kernel
theorem dX3_drawAll_71 : decode cX3_drawAll 71 = .ok (.iload_n 3, 1) := by decide +kernel
theorem dX3_drawAll_72 : decode cX3_drawAll 72 = .ok (.invokevirtual 85, 3) := by decide +kernel
theorem dX3_drawAll_75 : decode cX3_drawAll 75 = .ok (.aload_n 0, 1) := by decide +kernel
theorem dX3_drawAll_76 : decode cX3_drawAll 76 = .ok (.getfield 22, 3) := by decide +kernel
theorem dX3_drawAll_79 : decode cX3_drawAll 79 = .ok (.aload_n 0, 1) := by decide +kernel
theorem dX3_drawAll_80 : decode cX3_drawAll 80 = .ok (.getfield 30, 3) := by decide +kernel
theorem dX3_drawAll_83 : decode cX3_drawAll 83 = .ok (.getfield 89, 3) := by decide +kernel
theorem dX3_drawAll_86 : decode cX3_drawAll 86 = .ok (.iload_n 3, 1) := by decide +kernel
theorem dX3_drawAll_87 : decode cX3_drawAll 87 = .ok (.iaload, 1) := by decide +kernel
theorem dX3_drawAll_88 : decode cX3_drawAll 88 = .ok (.aload_n 0, 1) := by decide +kernel
theorem dX3_drawAll_89 : decode cX3_drawAll 89 = .ok (.getfield 92, 3) := by decide +kernel
theorem dX3_drawAll_92 : decode cX3_drawAll 92 = .ok (.ifCond .ne 7, 3) := by decide +kernel
theorem dX3_drawAll_95 : decode cX3_drawAll 95 = .ok (.iconst 1, 1) := by decide +kernel
theorem dX3_drawAll_96 : decode cX3_drawAll 96 = .ok (.goto 4, 3) := by decide +kernel
theorem dX3_drawAll_99 : decode cX3_drawAll 99 = .ok (.iconst 0, 1) := by decide +kernel
theorem dX3_drawAll_100 : decode cX3_drawAll 100 = .ok (.bastore, 1) := by decide +kernel
theorem dX3_drawAll_101 : decode cX3_drawAll 101 = .ok (.aload_n 0, 1) := by decide +kernel
theorem dX3_drawAll_102 : decode cX3_drawAll 102 = .ok (.dup, 1) := by decide +kernel
theorem dX3_drawAll_103 : decode cX3_drawAll 103 = .ok (.getfield 71, 3) := by decide +kernel
theorem dX3_drawAll_106 : decode cX3_drawAll 106 = .ok (.aload_n 0, 1) := by decide +kernel
theorem dX3_drawAll_107 : decode cX3_drawAll 107 = .ok (.getfield 96, 3) := by decide +kernel
theorem dX3_drawAll_110 : decode cX3_drawAll 110 = .ok (.iadd, 1) := by decide +kernel
theorem dX3_drawAll_111 : decode cX3_drawAll 111 = .ok (.putfield 71, 3) := by decide +kernel
theorem dX3_drawAll_114 : decode cX3_drawAll 114 = .ok (.aload_n 0, 1) := by decide +kernel
theorem dX3_drawAll_115 : decode cX3_drawAll 115 = .ok (.iload_n 2, 1) := by decide +kernel
theorem dX3_drawAll_116 : decode cX3_drawAll 116 = .ok (.invokevirtual 99, 3) := by decide +kernel
theorem dX3_drawAll_119 : decode cX3_drawAll 119 = .ok (.iconst 2, 1) := by decide +kernel
theorem dX3_drawAll_120 : decode cX3_drawAll 120 = .ok (.iadd, 1) := by decide +kernel
theorem dX3_drawAll_121 : decode cX3_drawAll 121 = .ok (.istore_n 2, 1) := by decide +kernel
theorem dX3_drawAll_122 : decode cX3_drawAll 122 = .ok (.iinc 3 1, 3) := by decide +kernel
theorem dX3_drawAll_125 : decode cX3_drawAll 125 = .ok (.goto (-78), 3) := by decide +kernel
theorem dX3_drawAll_128 : decode cX3_drawAll 128 = .ok (.return_, 1) := by decide +kernel
theorem dX3_growAll_0 : decode cX3_growAll 0 = .ok (.aload_n 0, 1) := by decide +kernel
theorem dX3_growAll_1 : decode cX3_growAll 1 = .ok (.getfield 12, 3) := by decide +kernel
theorem dX3_growAll_4 : decode cX3_growAll 4 = .ok (.aload_n 0, 1) := by decide +kernel
theorem dX3_growAll_5 : decode cX3_growAll 5 = .ok (.getfield 26, 3) := by decide +kernel
theorem dX3_growAll_8 : decode cX3_growAll 8 = .ok (.invokevirtual 59, 3) := by decide +kernel
theorem dX3_growAll_11 : decode cX3_growAll 11 = .ok (.aload_n 0, 1) := by decide +kernel
theorem dX3_growAll_12 : decode cX3_growAll 12 = .ok (.iconst 0, 1) := by decide +kernel
theorem dX3_growAll_13 : decode cX3_growAll 13 = .ok (.putfield 55, 3) := by decide +kernel
theorem dX3_growAll_16 : decode cX3_growAll 16 = .ok (.aload_n 0, 1) := by decide +kernel
theorem dX3_growAll_17 : decode cX3_growAll 17 = .ok (.iconst 0, 1) := by decide +kernel
theorem dX3_growAll_18 : decode cX3_growAll 18 = .ok (.putfield 103, 3) := by decide +kernel
theorem dX3_growAll_21 : decode cX3_growAll 21 = .ok (.aload_n 0, 1) := by decide +kernel
theorem dX3_growAll_22 : decode cX3_growAll 22 = .ok (.aload_n 0, 1) := by decide +kernel
theorem dX3_growAll_23 : decode cX3_growAll 23 = .ok (.getfield 34, 3) := by decide +kernel
theorem dX3_growAll_26 : decode cX3_growAll 26 = .ok (.invokevirtual 106, 3) := by decide +kernel
theorem dX3_growAll_29 : decode cX3_growAll 29 = .ok (.iconst 0, 1) := by decide +kernel
theorem dX3_growAll_30 : decode cX3_growAll 30 = .ok (.istore_n 1, 1) := by decide +kernel
theorem dX3_growAll_31 : decode cX3_growAll 31 = .ok (.iload_n 1, 1) := by decide +kernel
theorem dX3_growAll_32 : decode cX3_growAll 32 = .ok (.aload_n 0, 1) := by decide +kernel
theorem dX3_growAll_33 : decode cX3_growAll 33 = .ok (.getfield 26, 3) := by decide +kernel
theorem dX3_growAll_36 : decode cX3_growAll 36 = .ok (.getfield 77, 3) := by decide +kernel
theorem dX3_growAll_39 : decode cX3_growAll 39 = .ok (.if_icmp .ge 71, 3) := by decide +kernel
theorem dX3_growAll_42 : decode cX3_growAll 42 = .ok (.aload_n 0, 1) := by decide +kernel
theorem dX3_growAll_43 : decode cX3_growAll 43 = .ok (.getfield 34, 3) := by decide +kernel
theorem dX3_growAll_46 : decode cX3_growAll 46 = .ok (.getfield 82, 3) := by decide +kernel
theorem dX3_growAll_49 : decode cX3_growAll 49 = .ok (.iload_n 1, 1) := by decide +kernel
theorem dX3_growAll_50 : decode cX3_growAll 50 = .ok (.baload, 1) := by decide +kernel
theorem dX3_growAll_51 : decode cX3_growAll 51 = .ok (.ifCond .ne 53, 3) := by decide +kernel
theorem dX3_growAll_54 : decode cX3_growAll 54 = .ok (.aload_n 0, 1) := by decide +kernel
theorem dX3_growAll_55 : decode cX3_growAll 55 = .ok (.getfield 34, 3) := by decide +kernel
theorem dX3_growAll_58 : decode cX3_growAll 58 = .ok (.invokevirtual 110, 3) := by decide +kernel
theorem dX3_growAll_61 : decode cX3_growAll 61 = .ok (.ifCond .ne 7, 3) := by decide +kernel
theorem dX3_growAll_64 : decode cX3_growAll 64 = .ok (.iconst 0, 1) := by decide +kernel
theorem dX3_growAll_65 : decode cX3_growAll 65 = .ok (.goto 19, 3) := by decide +kernel
theorem dX3_growAll_68 : decode cX3_growAll 68 = .ok (.aload_n 0, 1) := by decide +kernel
theorem dX3_growAll_69 : decode cX3_growAll 69 = .ok (.getfield 34, 3) := by decide +kernel
theorem dX3_growAll_72 : decode cX3_growAll 72 = .ok (.aload_n 0, 1) := by decide +kernel
theorem dX3_growAll_73 : decode cX3_growAll 73 = .ok (.getfield 34, 3) := by decide +kernel
theorem dX3_growAll_76 : decode cX3_growAll 76 = .ok (.getfield 114, 3) := by decide +kernel
theorem dX3_growAll_79 : decode cX3_growAll 79 = .ok (.invokevirtual 117, 3) := by decide +kernel
theorem dX3_growAll_82 : decode cX3_growAll 82 = .ok (.iconst 2, 1) := by decide +kernel
theorem dX3_growAll_83 : decode cX3_growAll 83 = .ok (.iadd, 1) := by decide +kernel
theorem dX3_growAll_84 : decode cX3_growAll 84 = .ok (.istore_n 2, 1) := by decide +kernel
theorem dX3_growAll_85 : decode cX3_growAll 85 = .ok (.aload_n 0, 1) := by decide +kernel
theorem dX3_growAll_86 : decode cX3_growAll 86 = .ok (.getfield 34, 3) := by decide +kernel
theorem dX3_growAll_89 : decode cX3_growAll 89 = .ok (.iload_n 1, 1) := by decide +kernel
theorem dX3_growAll_90 : decode cX3_growAll 90 = .ok (.iload_n 2, 1) := by decide +kernel
theorem dX3_growAll_91 : decode cX3_growAll 91 = .ok (.iconst 0, 1) := by decide +kernel
theorem dX3_growAll_92 : decode cX3_growAll 92 = .ok (.iconst 0, 1) := by decide +kernel
theorem dX3_growAll_93 : decode cX3_growAll 93 = .ok (.invokevirtual 121, 3) := by decide +kernel
theorem dX3_growAll_96 : decode cX3_growAll 96 = .ok (.aload_n 0, 1) := by decide +kernel
theorem dX3_growAll_97 : decode cX3_growAll 97 = .ok (.aload_n 0, 1) := by decide +kernel
theorem dX3_growAll_98 : decode cX3_growAll 98 = .ok (.getfield 34, 3) := by decide +kernel
theorem dX3_growAll_101 : decode cX3_growAll 101 = .ok (.invokevirtual 106, 3) := by decide +kernel
theorem dX3_growAll_104 : decode cX3_growAll 104 = .ok (.iinc 1 1, 3) := by decide +kernel
theorem dX3_growAll_107 : decode cX3_growAll 107 = .ok (.goto (-76), 3) := by decide +kernel
theorem dX3_growAll_110 : decode cX3_growAll 110 = .ok (.return_, 1) := by decide +kernel
theorem dX3_drawPartOf_0 : decode cX3_drawPartOf 0 = .ok (.aload_n 0, 1) := by decide +kernel
theorem dX3_drawPartOf_1 : decode cX3_drawPartOf 1 = .ok (.getfield 43, 3) := by decide +kernel
theorem dX3_drawPartOf_4 : decode cX3_drawPartOf 4 = .ok (.invokevirtual 74, 3) := by decide +kernel
theorem dX3_drawPartOf_7 : decode cX3_drawPartOf 7 = .ok (.aload_n 0, 1) := by decide +kernel
theorem dX3_drawPartOf_8 : decode cX3_drawPartOf 8 = .ok (.getfield 43, 3) := by decide +kernel
theorem dX3_drawPartOf_11 : decode cX3_drawPartOf 11 = .ok (.iload_n 1, 1) := by decide +kernel
theorem dX3_drawPartOf_12 : decode cX3_drawPartOf 12 = .ok (.iconst 0, 1) := by decide +kernel
theorem dX3_drawPartOf_13 : decode cX3_drawPartOf 13 = .ok (.iconst 0, 1) := by decide +kernel
theorem dX3_drawPartOf_14 : decode cX3_drawPartOf 14 = .ok (.iconst 0, 1) := by decide +kernel
theorem dX3_drawPartOf_15 : decode cX3_drawPartOf 15 = .ok (.invokevirtual 121, 3) := by decide +kernel
theorem dX3_drawPartOf_18 : decode cX3_drawPartOf 18 = .ok (.aload_n 0, 1) := by decide +kernel
theorem dX3_drawPartOf_19 : decode cX3_drawPartOf 19 = .ok (.getfield 18, 3) := by decide +kernel
theorem dX3_drawPartOf_22 : decode cX3_drawPartOf 22 = .ok (.iconst 0, 1) := by decide +kernel
theorem dX3_drawPartOf_23 : decode cX3_drawPartOf 23 = .ok (.iload_n 1, 1) := by decide +kernel
theorem dX3_drawPartOf_24 : decode cX3_drawPartOf 24 = .ok (.iastore, 1) := by decide +kernel
theorem dX3_drawPartOf_25 : decode cX3_drawPartOf 25 = .ok (.aload_n 0, 1) := by decide +kernel
theorem dX3_drawPartOf_26 : decode cX3_drawPartOf 26 = .ok (.iconst 1, 1) := by decide +kernel
theorem dX3_drawPartOf_27 : decode cX3_drawPartOf 27 = .ok (.putfield 103, 3) := by decide +kernel
theorem dX3_drawPartOf_30 : decode cX3_drawPartOf 30 = .ok (.aload_n 0, 1) := by decide +kernel
theorem dX3_drawPartOf_31 : decode cX3_drawPartOf 31 = .ok (.aload_n 0, 1) := by decide +kernel
theorem dX3_drawPartOf_32 : decode cX3_drawPartOf 32 = .ok (.getfield 43, 3) := by decide +kernel
theorem dX3_drawPartOf_35 : decode cX3_drawPartOf 35 = .ok (.invokevirtual 106, 3) := by decide +kernel
theorem dX3_drawPartOf_38 : decode cX3_drawPartOf 38 = .ok (.aload_n 0, 1) := by decide +kernel
theorem dX3_drawPartOf_39 : decode cX3_drawPartOf 39 = .ok (.invokevirtual 125, 3) := by decide +kernel
theorem dX3_drawPartOf_42 : decode cX3_drawPartOf 42 = .ok (.aload_n 0, 1) := by decide +kernel
theorem dX3_drawPartOf_43 : decode cX3_drawPartOf 43 = .ok (.getfield 43, 3) := by decide +kernel
theorem dX3_drawPartOf_46 : decode cX3_drawPartOf 46 = .ok (.invokevirtual 74, 3) := by decide +kernel
theorem dX3_drawPartOf_49 : decode cX3_drawPartOf 49 = .ok (.aload_n 0, 1) := by decide +kernel
theorem dX3_drawPartOf_50 : decode cX3_drawPartOf 50 = .ok (.iconst 0, 1) := by decide +kernel
theorem dX3_drawPartOf_51 : decode cX3_drawPartOf 51 = .ok (.putfield 96, 3) := by decide +kernel
theorem dX3_drawPartOf_54 : decode cX3_drawPartOf 54 = .ok (.aload_n 0, 1) := by decide +kernel
theorem dX3_drawPartOf_55 : decode cX3_drawPartOf 55 = .ok (.iconst 0, 1) := by decide +kernel
theorem dX3_drawPartOf_56 : decode cX3_drawPartOf 56 = .ok (.putfield 92, 3) := by decide +kernel
theorem dX3_drawPartOf_59 : decode cX3_drawPartOf 59 = .ok (.aload_n 0, 1) := by decide +kernel
theorem dX3_drawPartOf_60 : decode cX3_drawPartOf 60 = .ok (.sipush 3600, 3) := by decide +kernel
theorem dX3_drawPartOf_63 : decode cX3_drawPartOf 63 = .ok (.putfield 128, 3) := by decide +kernel
theorem dX3_drawPartOf_66 : decode cX3_drawPartOf 66 = .ok (.aload_n 0, 1) := by decide +kernel
theorem dX3_drawPartOf_67 : decode cX3_drawPartOf 67 = .ok (.getfield 51, 3) := by decide +kernel
theorem dX3_drawPartOf_70 : decode cX3_drawPartOf 70 = .ok (.invokevirtual 131, 3) := by decide +kernel
theorem dX3_drawPartOf_73 : decode cX3_drawPartOf 73 = .ok (.aload_n 0, 1) := by decide +kernel
theorem dX3_drawPartOf_74 : decode cX3_drawPartOf 74 = .ok (.iconst 0, 1) := by decide +kernel
theorem dX3_drawPartOf_75 : decode cX3_drawPartOf 75 = .ok (.invokevirtual 134, 3) := by decide +kernel
theorem dX3_drawPartOf_78 : decode cX3_drawPartOf 78 = .ok (.return_, 1) := by decide +kernel
theorem dX3_spread_0 : decode cX3_spread 0 = .ok (.iconst 0, 1) := by decide +kernel
theorem dX3_spread_1 : decode cX3_spread 1 = .ok (.istore_n 2, 1) := by decide +kernel
theorem dX3_spread_2 : decode cX3_spread 2 = .ok (.iload_n 2, 1) := by decide +kernel
theorem dX3_spread_3 : decode cX3_spread 3 = .ok (.bipush 24, 2) := by decide +kernel
theorem dX3_spread_5 : decode cX3_spread 5 = .ok (.if_icmp .ge 81, 3) := by decide +kernel
theorem dX3_spread_8 : decode cX3_spread 8 = .ok (.aload_n 0, 1) := by decide +kernel
theorem dX3_spread_9 : decode cX3_spread 9 = .ok (.aload_n 1, 1) := by decide +kernel
theorem dX3_spread_10 : decode cX3_spread 10 = .ok (.invokevirtual 137, 3) := by decide +kernel
theorem dX3_spread_13 : decode cX3_spread 13 = .ok (.istore_n 3, 1) := by decide +kernel
theorem dX3_spread_14 : decode cX3_spread 14 = .ok (.iload_n 3, 1) := by decide +kernel
theorem dX3_spread_15 : decode cX3_spread 15 = .ok (.ifCond .ge 4, 3) := by decide +kernel
theorem dX3_spread_18 : decode cX3_spread 18 = .ok (.return_, 1) := by decide +kernel
theorem dX3_spread_19 : decode cX3_spread 19 = .ok (.aload_n 0, 1) := by decide +kernel
theorem dX3_spread_20 : decode cX3_spread 20 = .ok (.getfield 51, 3) := by decide +kernel
theorem dX3_spread_23 : decode cX3_spread 23 = .ok (.aload_n 1, 1) := by decide +kernel
theorem dX3_spread_24 : decode cX3_spread 24 = .ok (.iload_n 3, 1) := by decide +kernel
theorem dX3_spread_25 : decode cX3_spread 25 = .ok (.invokevirtual 141, 3) := by decide +kernel
theorem dX3_spread_28 : decode cX3_spread 28 = .ok (.aload_n 1, 1) := by decide +kernel
theorem dX3_spread_29 : decode cX3_spread 29 = .ok (.iload_n 3, 1) := by decide +kernel
theorem dX3_spread_30 : decode cX3_spread 30 = .ok (.aload_n 0, 1) := by decide +kernel
theorem dX3_spread_31 : decode cX3_spread 31 = .ok (.getfield 51, 3) := by decide +kernel
theorem dX3_spread_34 : decode cX3_spread 34 = .ok (.getfield 145, 3) := by decide +kernel
theorem dX3_spread_37 : decode cX3_spread 37 = .ok (.aload_n 0, 1) := by decide +kernel
theorem dX3_spread_38 : decode cX3_spread 38 = .ok (.getfield 51, 3) := by decide +kernel
theorem dX3_spread_41 : decode cX3_spread 41 = .ok (.getfield 147, 3) := by decide +kernel
theorem dX3_spread_44 : decode cX3_spread 44 = .ok (.aload_n 0, 1) := by decide +kernel
theorem dX3_spread_45 : decode cX3_spread 45 = .ok (.getfield 51, 3) := by decide +kernel
theorem dX3_spread_48 : decode cX3_spread 48 = .ok (.getfield 150, 3) := by decide +kernel
theorem dX3_spread_51 : decode cX3_spread 51 = .ok (.invokevirtual 121, 3) := by decide +kernel
theorem dX3_spread_54 : decode cX3_spread 54 = .ok (.aload_n 0, 1) := by decide +kernel
theorem dX3_spread_55 : decode cX3_spread 55 = .ok (.getfield 103, 3) := by decide +kernel
theorem dX3_spread_58 : decode cX3_spread 58 = .ok (.bipush 24, 2) := by decide +kernel
theorem dX3_spread_60 : decode cX3_spread 60 = .ok (.if_icmp .ge 20, 3) := by decide +kernel
theorem dX3_spread_63 : decode cX3_spread 63 = .ok (.aload_n 0, 1) := by decide +kernel
theorem dX3_spread_64 : decode cX3_spread 64 = .ok (.getfield 18, 3) := by decide +kernel
theorem dX3_spread_67 : decode cX3_spread 67 = .ok (.aload_n 0, 1) := by decide +kernel
theorem dX3_spread_68 : decode cX3_spread 68 = .ok (.dup, 1) := by decide +kernel
theorem dX3_spread_69 : decode cX3_spread 69 = .ok (.getfield 103, 3) := by decide +kernel
theorem dX3_spread_72 : decode cX3_spread 72 = .ok (.dup_x1, 1) := by decide +kernel
theorem dX3_spread_73 : decode cX3_spread 73 = .ok (.iconst 1, 1) := by decide +kernel
theorem dX3_spread_74 : decode cX3_spread 74 = .ok (.iadd, 1) := by decide +kernel
theorem dX3_spread_75 : decode cX3_spread 75 = .ok (.putfield 103, 3) := by decide +kernel
theorem dX3_spread_78 : decode cX3_spread 78 = .ok (.iload_n 3, 1) := by decide +kernel
theorem dX3_spread_79 : decode cX3_spread 79 = .ok (.iastore, 1) := by decide +kernel
theorem dX3_spread_80 : decode cX3_spread 80 = .ok (.iinc 2 1, 3) := by decide +kernel
theorem dX3_spread_83 : decode cX3_spread 83 = .ok (.goto (-81), 3) := by decide +kernel
theorem dX3_spread_86 : decode cX3_spread 86 = .ok (.return_, 1) := by decide +kernel
theorem dX3_nextRoom_0 : decode cX3_nextRoom 0 = .ok (.iconst 0, 1) := by decide +kernel
theorem dX3_nextRoom_1 : decode cX3_nextRoom 1 = .ok (.istore_n 2, 1) := by decide +kernel
theorem dX3_nextRoom_2 : decode cX3_nextRoom 2 = .ok (.iload_n 2, 1) := by decide +kernel
theorem dX3_nextRoom_3 : decode cX3_nextRoom 3 = .ok (.aload_n 0, 1) := by decide +kernel
theorem dX3_nextRoom_4 : decode cX3_nextRoom 4 = .ok (.getfield 26, 3) := by decide +kernel
theorem dX3_nextRoom_7 : decode cX3_nextRoom 7 = .ok (.getfield 77, 3) := by decide +kernel
theorem dX3_nextRoom_10 : decode cX3_nextRoom 10 = .ok (.if_icmp .ge 32, 3) := by decide +kernel
theorem dX3_nextRoom_13 : decode cX3_nextRoom 13 = .ok (.aload_n 1, 1) := by decide +kernel
theorem dX3_nextRoom_14 : decode cX3_nextRoom 14 = .ok (.getfield 82, 3) := by decide +kernel
theorem dX3_nextRoom_17 : decode cX3_nextRoom 17 = .ok (.iload_n 2, 1) := by decide +kernel
theorem dX3_nextRoom_18 : decode cX3_nextRoom 18 = .ok (.baload, 1) := by decide +kernel
theorem dX3_nextRoom_19 : decode cX3_nextRoom 19 = .ok (.ifCond .ne 17, 3) := by decide +kernel
theorem dX3_nextRoom_22 : decode cX3_nextRoom 22 = .ok (.aload_n 0, 1) := by decide +kernel
theorem dX3_nextRoom_23 : decode cX3_nextRoom 23 = .ok (.getfield 51, 3) := by decide +kernel
theorem dX3_nextRoom_26 : decode cX3_nextRoom 26 = .ok (.aload_n 1, 1) := by decide +kernel
theorem dX3_nextRoom_27 : decode cX3_nextRoom 27 = .ok (.iload_n 2, 1) := by decide +kernel
theorem dX3_nextRoom_28 : decode cX3_nextRoom 28 = .ok (.invokevirtual 153, 3) := by decide +kernel
theorem dX3_nextRoom_31 : decode cX3_nextRoom 31 = .ok (.ifCond .lt 5, 3) := by decide +kernel
theorem dX3_nextRoom_34 : decode cX3_nextRoom 34 = .ok (.iload_n 2, 1) := by decide +kernel
theorem dX3_nextRoom_35 : decode cX3_nextRoom 35 = .ok (.ireturn, 1) := by decide +kernel
theorem dX3_nextRoom_36 : decode cX3_nextRoom 36 = .ok (.iinc 2 1, 3) := by decide +kernel
theorem dX3_nextRoom_39 : decode cX3_nextRoom 39 = .ok (.goto (-37), 3) := by decide +kernel
theorem dX3_nextRoom_42 : decode cX3_nextRoom 42 = .ok (.bipush (-2), 2) := by decide +kernel
theorem dX3_nextRoom_44 : decode cX3_nextRoom 44 = .ok (.ireturn, 1) := by decide +kernel
theorem dX3_tryHere_0 : decode cX3_tryHere 0 = .ok (.aload_n 0, 1) := by decide +kernel
theorem dX3_tryHere_1 : decode cX3_tryHere 1 = .ok (.getfield 96, 3) := by decide +kernel
theorem dX3_tryHere_4 : decode cX3_tryHere 4 = .ok (.aload_n 0, 1) := by decide +kernel
theorem dX3_tryHere_5 : decode cX3_tryHere 5 = .ok (.getfield 68, 3) := by decide +kernel
theorem dX3_tryHere_8 : decode cX3_tryHere 8 = .ok (.if_icmp .lt 9, 3) := by decide +kernel
theorem dX3_tryHere_11 : decode cX3_tryHere 11 = .ok (.aload_n 0, 1) := by decide +kernel
theorem dX3_tryHere_12 : decode cX3_tryHere 12 = .ok (.iconst 1, 1) := by decide +kernel
theorem dX3_tryHere_13 : decode cX3_tryHere 13 = .ok (.putfield 92, 3) := by decide +kernel
theorem dX3_tryHere_16 : decode cX3_tryHere 16 = .ok (.return_, 1) := by decide +kernel
theorem dX3_tryHere_17 : decode cX3_tryHere 17 = .ok (.aload_n 0, 1) := by decide +kernel
theorem dX3_tryHere_18 : decode cX3_tryHere 18 = .ok (.dup, 1) := by decide +kernel
theorem dX3_tryHere_19 : decode cX3_tryHere 19 = .ok (.getfield 96, 3) := by decide +kernel
theorem dX3_tryHere_22 : decode cX3_tryHere 22 = .ok (.iconst 1, 1) := by decide +kernel
theorem dX3_tryHere_23 : decode cX3_tryHere 23 = .ok (.iadd, 1) := by decide +kernel
theorem dX3_tryHere_24 : decode cX3_tryHere 24 = .ok (.putfield 96, 3) := by decide +kernel
theorem dX3_tryHere_27 : decode cX3_tryHere 27 = .ok (.aload_n 0, 1) := by decide +kernel
theorem dX3_tryHere_28 : decode cX3_tryHere 28 = .ok (.getfield 43, 3) := by decide +kernel
theorem dX3_tryHere_31 : decode cX3_tryHere 31 = .ok (.aload_n 0, 1) := by decide +kernel
theorem dX3_tryHere_32 : decode cX3_tryHere 32 = .ok (.getfield 18, 3) := by decide +kernel
theorem dX3_tryHere_35 : decode cX3_tryHere 35 = .ok (.iload_n 1, 1) := by decide +kernel
theorem dX3_tryHere_36 : decode cX3_tryHere 36 = .ok (.iaload, 1) := by decide +kernel
theorem dX3_tryHere_37 : decode cX3_tryHere 37 = .ok (.aload_n 0, 1) := by decide +kernel
theorem dX3_tryHere_38 : decode cX3_tryHere 38 = .ok (.getfield 51, 3) := by decide +kernel
theorem dX3_tryHere_41 : decode cX3_tryHere 41 = .ok (.getfield 145, 3) := by decide +kernel
theorem dX3_tryHere_44 : decode cX3_tryHere 44 = .ok (.aload_n 0, 1) := by decide +kernel
theorem dX3_tryHere_45 : decode cX3_tryHere 45 = .ok (.getfield 51, 3) := by decide +kernel
theorem dX3_tryHere_48 : decode cX3_tryHere 48 = .ok (.getfield 147, 3) := by decide +kernel
theorem dX3_tryHere_51 : decode cX3_tryHere 51 = .ok (.aload_n 0, 1) := by decide +kernel
theorem dX3_tryHere_52 : decode cX3_tryHere 52 = .ok (.getfield 51, 3) := by decide +kernel
theorem dX3_tryHere_55 : decode cX3_tryHere 55 = .ok (.getfield 150, 3) := by decide +kernel
theorem dX3_tryHere_58 : decode cX3_tryHere 58 = .ok (.invokevirtual 121, 3) := by decide +kernel
theorem dX3_tryHere_61 : decode cX3_tryHere 61 = .ok (.iload_n 1, 1) := by decide +kernel
theorem dX3_tryHere_62 : decode cX3_tryHere 62 = .ok (.iconst 1, 1) := by decide +kernel
theorem dX3_tryHere_63 : decode cX3_tryHere 63 = .ok (.iadd, 1) := by decide +kernel
theorem dX3_tryHere_64 : decode cX3_tryHere 64 = .ok (.aload_n 0, 1) := by decide +kernel
theorem dX3_tryHere_65 : decode cX3_tryHere 65 = .ok (.getfield 103, 3) := by decide +kernel
theorem dX3_tryHere_68 : decode cX3_tryHere 68 = .ok (.if_icmp .ge 95, 3) := by decide +kernel
theorem dX3_tryHere_71 : decode cX3_tryHere 71 = .ok (.aload_n 0, 1) := by decide +kernel
theorem dX3_tryHere_72 : decode cX3_tryHere 72 = .ok (.getfield 18, 3) := by decide +kernel
theorem dX3_tryHere_75 : decode cX3_tryHere 75 = .ok (.iload_n 1, 1) := by decide +kernel
theorem dX3_tryHere_76 : decode cX3_tryHere 76 = .ok (.iconst 1, 1) := by decide +kernel
theorem dX3_tryHere_77 : decode cX3_tryHere 77 = .ok (.iadd, 1) := by decide +kernel
theorem dX3_tryHere_78 : decode cX3_tryHere 78 = .ok (.iaload, 1) := by decide +kernel
theorem dX3_tryHere_79 : decode cX3_tryHere 79 = .ok (.istore_n 2, 1) := by decide +kernel
theorem dX3_tryHere_80 : decode cX3_tryHere 80 = .ok (.iconst 0, 1) := by decide +kernel
theorem dX3_tryHere_81 : decode cX3_tryHere 81 = .ok (.istore_n 3, 1) := by decide +kernel
theorem dX3_tryHere_82 : decode cX3_tryHere 82 = .ok (.iconst 0, 1) := by decide +kernel
theorem dX3_tryHere_83 : decode cX3_tryHere 83 = .ok (.istore 4, 2) := by decide +kernel
theorem dX3_tryHere_85 : decode cX3_tryHere 85 = .ok (.iload 4, 2) := by decide +kernel
theorem dX3_tryHere_87 : decode cX3_tryHere 87 = .ok (.aload_n 0, 1) := by decide +kernel
theorem dX3_tryHere_88 : decode cX3_tryHere 88 = .ok (.getfield 51, 3) := by decide +kernel
theorem dX3_tryHere_91 : decode cX3_tryHere 91 = .ok (.iload_n 2, 1) := by decide +kernel
theorem dX3_tryHere_92 : decode cX3_tryHere 92 = .ok (.invokevirtual 157, 3) := by decide +kernel
theorem dX3_tryHere_95 : decode cX3_tryHere 95 = .ok (.if_icmp .ge 42, 3) := by decide +kernel
theorem dX3_tryHere_98 : decode cX3_tryHere 98 = .ok (.aload_n 0, 1) := by decide +kernel
theorem dX3_tryHere_99 : decode cX3_tryHere 99 = .ok (.getfield 92, 3) := by decide +kernel
theorem dX3_tryHere_102 : decode cX3_tryHere 102 = .ok (.ifCond .ne 35, 3) := by decide +kernel
theorem dX3_tryHere_105 : decode cX3_tryHere 105 = .ok (.aload_n 0, 1) := by decide +kernel
theorem dX3_tryHere_106 : decode cX3_tryHere 106 = .ok (.getfield 51, 3) := by decide +kernel
theorem dX3_tryHere_109 : decode cX3_tryHere 109 = .ok (.aload_n 0, 1) := by decide +kernel
theorem dX3_tryHere_110 : decode cX3_tryHere 110 = .ok (.getfield 43, 3) := by decide +kernel
theorem dX3_tryHere_113 : decode cX3_tryHere 113 = .ok (.iload_n 2, 1) := by decide +kernel
theorem dX3_tryHere_114 : decode cX3_tryHere 114 = .ok (.iload 4, 2) := by decide +kernel
theorem dX3_tryHere_116 : decode cX3_tryHere 116 = .ok (.invokevirtual 160, 3) := by decide +kernel
theorem dX3_tryHere_119 : decode cX3_tryHere 119 = .ok (.ifCond .eq 12, 3) := by decide +kernel
theorem dX3_tryHere_122 : decode cX3_tryHere 122 = .ok (.iconst 1, 1) := by decide +kernel
theorem dX3_tryHere_123 : decode cX3_tryHere 123 = .ok (.istore_n 3, 1) := by decide +kernel
theorem dX3_tryHere_124 : decode cX3_tryHere 124 = .ok (.aload_n 0, 1) := by decide +kernel
theorem dX3_tryHere_125 : decode cX3_tryHere 125 = .ok (.iload_n 1, 1) := by decide +kernel
theorem dX3_tryHere_126 : decode cX3_tryHere 126 = .ok (.iconst 1, 1) := by decide +kernel
theorem dX3_tryHere_127 : decode cX3_tryHere 127 = .ok (.iadd, 1) := by decide +kernel
theorem dX3_tryHere_128 : decode cX3_tryHere 128 = .ok (.invokevirtual 134, 3) := by decide +kernel
theorem dX3_tryHere_131 : decode cX3_tryHere 131 = .ok (.iinc 4 1, 3) := by decide +kernel
theorem dX3_tryHere_134 : decode cX3_tryHere 134 = .ok (.goto (-49), 3) := by decide +kernel
theorem dX3_tryHere_137 : decode cX3_tryHere 137 = .ok (.iload_n 3, 1) := by decide +kernel
theorem dX3_tryHere_138 : decode cX3_tryHere 138 = .ok (.ifCond .ne 22, 3) := by decide +kernel
theorem dX3_tryHere_141 : decode cX3_tryHere 141 = .ok (.aload_n 0, 1) := by decide +kernel
theorem dX3_tryHere_142 : decode cX3_tryHere 142 = .ok (.getfield 51, 3) := by decide +kernel
theorem dX3_tryHere_145 : decode cX3_tryHere 145 = .ok (.aload_n 0, 1) := by decide +kernel
theorem dX3_tryHere_146 : decode cX3_tryHere 146 = .ok (.getfield 43, 3) := by decide +kernel
theorem dX3_tryHere_149 : decode cX3_tryHere 149 = .ok (.iload_n 2, 1) := by decide +kernel
theorem dX3_tryHere_150 : decode cX3_tryHere 150 = .ok (.invokevirtual 164, 3) := by decide +kernel
theorem dX3_tryHere_153 : decode cX3_tryHere 153 = .ok (.aload_n 0, 1) := by decide +kernel
theorem dX3_tryHere_154 : decode cX3_tryHere 154 = .ok (.iload_n 1, 1) := by decide +kernel
theorem dX3_tryHere_155 : decode cX3_tryHere 155 = .ok (.iconst 1, 1) := by decide +kernel
theorem dX3_tryHere_156 : decode cX3_tryHere 156 = .ok (.iadd, 1) := by decide +kernel
theorem dX3_tryHere_157 : decode cX3_tryHere 157 = .ok (.invokevirtual 134, 3) := by decide +kernel
theorem dX3_tryHere_160 : decode cX3_tryHere 160 = .ok (.goto 7, 3) := by decide +kernel
theorem dX3_tryHere_163 : decode cX3_tryHere 163 = .ok (.aload_n 0, 1) := by decide +kernel
theorem dX3_tryHere_164 : decode cX3_tryHere 164 = .ok (.invokevirtual 167, 3) := by decide +kernel
theorem dX3_tryHere_167 : decode cX3_tryHere 167 = .ok (.aload_n 0, 1) := by decide +kernel
theorem dX3_tryHere_168 : decode cX3_tryHere 168 = .ok (.getfield 43, 3) := by decide +kernel
theorem dX3_tryHere_171 : decode cX3_tryHere 171 = .ok (.aload_n 0, 1) := by decide +kernel
theorem dX3_tryHere_172 : decode cX3_tryHere 172 = .ok (.getfield 18, 3) := by decide +kernel
theorem dX3_tryHere_175 : decode cX3_tryHere 175 = .ok (.iload_n 1, 1) := by decide +kernel
theorem dX3_tryHere_176 : decode cX3_tryHere 176 = .ok (.iaload, 1) := by decide +kernel
theorem dX3_tryHere_177 : decode cX3_tryHere 177 = .ok (.invokevirtual 170, 3) := by decide +kernel
theorem dX3_tryHere_180 : decode cX3_tryHere 180 = .ok (.return_, 1) := by decide +kernel
theorem dX3_weighTrial_0 : decode cX3_weighTrial 0 = .ok (.aload_n 0, 1) := by decide +kernel
theorem dX3_weighTrial_1 : decode cX3_weighTrial 1 = .ok (.getfield 43, 3) := by decide +kernel
theorem dX3_weighTrial_4 : decode cX3_weighTrial 4 = .ok (.aload_n 0, 1) := by decide +kernel
theorem dX3_weighTrial_5 : decode cX3_weighTrial 5 = .ok (.getfield 128, 3) := by decide +kernel
theorem dX3_weighTrial_8 : decode cX3_weighTrial 8 = .ok (.invokevirtual 173, 3) := by decide +kernel
theorem dX3_weighTrial_11 : decode cX3_weighTrial 11 = .ok (.istore_n 1, 1) := by decide +kernel
theorem dX3_weighTrial_12 : decode cX3_weighTrial 12 = .ok (.iload_n 1, 1) := by decide +kernel
theorem dX3_weighTrial_13 : decode cX3_weighTrial 13 = .ok (.aload_n 0, 1) := by decide +kernel
theorem dX3_weighTrial_14 : decode cX3_weighTrial 14 = .ok (.getfield 128, 3) := by decide +kernel
theorem dX3_weighTrial_17 : decode cX3_weighTrial 17 = .ok (.if_icmp .ge 12, 3) := by decide +kernel
theorem dX3_weighTrial_20 : decode cX3_weighTrial 20 = .ok (.aload_n 0, 1) := by decide +kernel
theorem dX3_weighTrial_21 : decode cX3_weighTrial 21 = .ok (.iload_n 1, 1) := by decide +kernel
theorem dX3_weighTrial_22 : decode cX3_weighTrial 22 = .ok (.putfield 128, 3) := by decide +kernel
theorem dX3_weighTrial_25 : decode cX3_weighTrial 25 = .ok (.aload_n 0, 1) := by decide +kernel
theorem dX3_weighTrial_26 : decode cX3_weighTrial 26 = .ok (.invokevirtual 125, 3) := by decide +kernel
theorem dX3_weighTrial_29 : decode cX3_weighTrial 29 = .ok (.return_, 1) := by decide +kernel
theorem dX3_keepTrial_0 : decode cX3_keepTrial 0 = .ok (.iconst 0, 1) := by decide +kernel
theorem dX3_keepTrial_1 : decode cX3_keepTrial 1 = .ok (.istore_n 1, 1) := by decide +kernel
theorem dX3_keepTrial_2 : decode cX3_keepTrial 2 = .ok (.iload_n 1, 1) := by decide +kernel
theorem dX3_keepTrial_3 : decode cX3_keepTrial 3 = .ok (.aload_n 0, 1) := by decide +kernel
theorem dX3_keepTrial_4 : decode cX3_keepTrial 4 = .ok (.getfield 103, 3) := by decide +kernel
theorem dX3_keepTrial_7 : decode cX3_keepTrial 7 = .ok (.if_icmp .ge 51, 3) := by decide +kernel
theorem dX3_keepTrial_10 : decode cX3_keepTrial 10 = .ok (.aload_n 0, 1) := by decide +kernel
theorem dX3_keepTrial_11 : decode cX3_keepTrial 11 = .ok (.getfield 18, 3) := by decide +kernel
theorem dX3_keepTrial_14 : decode cX3_keepTrial 14 = .ok (.iload_n 1, 1) := by decide +kernel
theorem dX3_keepTrial_15 : decode cX3_keepTrial 15 = .ok (.iaload, 1) := by decide +kernel
theorem dX3_keepTrial_16 : decode cX3_keepTrial 16 = .ok (.istore_n 2, 1) := by decide +kernel
theorem dX3_keepTrial_17 : decode cX3_keepTrial 17 = .ok (.aload_n 0, 1) := by decide +kernel
theorem dX3_keepTrial_18 : decode cX3_keepTrial 18 = .ok (.getfield 34, 3) := by decide +kernel
theorem dX3_keepTrial_21 : decode cX3_keepTrial 21 = .ok (.iload_n 2, 1) := by decide +kernel
theorem dX3_keepTrial_22 : decode cX3_keepTrial 22 = .ok (.aload_n 0, 1) := by decide +kernel
theorem dX3_keepTrial_23 : decode cX3_keepTrial 23 = .ok (.getfield 43, 3) := by decide +kernel
theorem dX3_keepTrial_26 : decode cX3_keepTrial 26 = .ok (.getfield 114, 3) := by decide +kernel
theorem dX3_keepTrial_29 : decode cX3_keepTrial 29 = .ok (.iload_n 2, 1) := by decide +kernel
theorem dX3_keepTrial_30 : decode cX3_keepTrial 30 = .ok (.iaload, 1) := by decide +kernel
theorem dX3_keepTrial_31 : decode cX3_keepTrial 31 = .ok (.aload_n 0, 1) := by decide +kernel
theorem dX3_keepTrial_32 : decode cX3_keepTrial 32 = .ok (.getfield 43, 3) := by decide +kernel
theorem dX3_keepTrial_35 : decode cX3_keepTrial 35 = .ok (.getfield 176, 3) := by decide +kernel
theorem dX3_keepTrial_38 : decode cX3_keepTrial 38 = .ok (.iload_n 2, 1) := by decide +kernel
theorem dX3_keepTrial_39 : decode cX3_keepTrial 39 = .ok (.iaload, 1) := by decide +kernel
theorem dX3_keepTrial_40 : decode cX3_keepTrial 40 = .ok (.aload_n 0, 1) := by decide +kernel
theorem dX3_keepTrial_41 : decode cX3_keepTrial 41 = .ok (.getfield 43, 3) := by decide +kernel
theorem dX3_keepTrial_44 : decode cX3_keepTrial 44 = .ok (.getfield 178, 3) := by decide +kernel
theorem dX3_keepTrial_47 : decode cX3_keepTrial 47 = .ok (.iload_n 2, 1) := by decide +kernel
theorem dX3_keepTrial_48 : decode cX3_keepTrial 48 = .ok (.iaload, 1) := by decide +kernel
theorem dX3_keepTrial_49 : decode cX3_keepTrial 49 = .ok (.invokevirtual 121, 3) := by decide +kernel
theorem dX3_keepTrial_52 : decode cX3_keepTrial 52 = .ok (.iinc 1 1, 3) := by decide +kernel
theorem dX3_keepTrial_55 : decode cX3_keepTrial 55 = .ok (.goto (-53), 3) := by decide +kernel
theorem dX3_keepTrial_58 : decode cX3_keepTrial 58 = .ok (.return_, 1) := by decide +kernel
theorem dX3_moveBehind_0 : decode cX3_moveBehind 0 = .ok (.aload_n 0, 1) := by decide +kernel
theorem dX3_moveBehind_1 : decode cX3_moveBehind 1 = .ok (.getfield 34, 3) := by decide +kernel
theorem dX3_moveBehind_4 : decode cX3_moveBehind 4 = .ok (.getfield 114, 3) := by decide +kernel
theorem dX3_moveBehind_7 : decode cX3_moveBehind 7 = .ok (.aload_n 0, 1) := by decide +kernel
theorem dX3_moveBehind_8 : decode cX3_moveBehind 8 = .ok (.getfield 18, 3) := by decide +kernel
theorem dX3_moveBehind_11 : decode cX3_moveBehind 11 = .ok (.iconst 0, 1) := by decide +kernel
theorem dX3_moveBehind_12 : decode cX3_moveBehind 12 = .ok (.iaload, 1) := by decide +kernel
theorem dX3_moveBehind_13 : decode cX3_moveBehind 13 = .ok (.iaload, 1) := by decide +kernel
theorem dX3_moveBehind_14 : decode cX3_moveBehind 14 = .ok (.istore_n 2, 1) := by decide +kernel
theorem dX3_moveBehind_15 : decode cX3_moveBehind 15 = .ok (.aload_n 0, 1) := by decide +kernel
theorem dX3_moveBehind_16 : decode cX3_moveBehind 16 = .ok (.getfield 34, 3) := by decide +kernel
theorem dX3_moveBehind_19 : decode cX3_moveBehind 19 = .ok (.getfield 176, 3) := by decide +kernel
theorem dX3_moveBehind_22 : decode cX3_moveBehind 22 = .ok (.aload_n 0, 1) := by decide +kernel
theorem dX3_moveBehind_23 : decode cX3_moveBehind 23 = .ok (.getfield 18, 3) := by decide +kernel
theorem dX3_moveBehind_26 : decode cX3_moveBehind 26 = .ok (.iconst 0, 1) := by decide +kernel
theorem dX3_moveBehind_27 : decode cX3_moveBehind 27 = .ok (.iaload, 1) := by decide +kernel
theorem dX3_moveBehind_28 : decode cX3_moveBehind 28 = .ok (.iaload, 1) := by decide +kernel
theorem dX3_moveBehind_29 : decode cX3_moveBehind 29 = .ok (.istore_n 3, 1) := by decide +kernel
theorem dX3_moveBehind_30 : decode cX3_moveBehind 30 = .ok (.iload_n 2, 1) := by decide +kernel
theorem dX3_moveBehind_31 : decode cX3_moveBehind 31 = .ok (.istore 4, 2) := by decide +kernel
theorem dX3_moveBehind_33 : decode cX3_moveBehind 33 = .ok (.iconst 1, 1) := by decide +kernel
theorem dX3_moveBehind_34 : decode cX3_moveBehind 34 = .ok (.istore 5, 2) := by decide +kernel
theorem dX3_moveBehind_36 : decode cX3_moveBehind 36 = .ok (.iload 5, 2) := by decide +kernel
theorem dX3_moveBehind_38 : decode cX3_moveBehind 38 = .ok (.aload_n 0, 1) := by decide +kernel
theorem dX3_moveBehind_39 : decode cX3_moveBehind 39 = .ok (.getfield 103, 3) := by decide +kernel
theorem dX3_moveBehind_42 : decode cX3_moveBehind 42 = .ok (.if_icmp .ge 71, 3) := by decide +kernel
theorem dX3_moveBehind_45 : decode cX3_moveBehind 45 = .ok (.iload_n 2, 1) := by decide +kernel
theorem dX3_moveBehind_46 : decode cX3_moveBehind 46 = .ok (.aload_n 0, 1) := by decide +kernel
theorem dX3_moveBehind_47 : decode cX3_moveBehind 47 = .ok (.getfield 34, 3) := by decide +kernel
theorem dX3_moveBehind_50 : decode cX3_moveBehind 50 = .ok (.getfield 114, 3) := by decide +kernel
theorem dX3_moveBehind_53 : decode cX3_moveBehind 53 = .ok (.aload_n 0, 1) := by decide +kernel
theorem dX3_moveBehind_54 : decode cX3_moveBehind 54 = .ok (.getfield 18, 3) := by decide +kernel
theorem dX3_moveBehind_57 : decode cX3_moveBehind 57 = .ok (.iload 5, 2) := by decide +kernel
theorem dX3_moveBehind_59 : decode cX3_moveBehind 59 = .ok (.iaload, 1) := by decide +kernel
theorem dX3_moveBehind_60 : decode cX3_moveBehind 60 = .ok (.iaload, 1) := by decide +kernel
theorem dX3_moveBehind_61 : decode cX3_moveBehind 61 = .ok (.invokestatic 180, 3) := by decide +kernel
theorem dX3_moveBehind_64 : decode cX3_moveBehind 64 = .ok (.istore_n 2, 1) := by decide +kernel
theorem dX3_moveBehind_65 : decode cX3_moveBehind 65 = .ok (.iload 4, 2) := by decide +kernel
theorem dX3_moveBehind_67 : decode cX3_moveBehind 67 = .ok (.aload_n 0, 1) := by decide +kernel
theorem dX3_moveBehind_68 : decode cX3_moveBehind 68 = .ok (.getfield 34, 3) := by decide +kernel
theorem dX3_moveBehind_71 : decode cX3_moveBehind 71 = .ok (.getfield 114, 3) := by decide +kernel
theorem dX3_moveBehind_74 : decode cX3_moveBehind 74 = .ok (.aload_n 0, 1) := by decide +kernel
theorem dX3_moveBehind_75 : decode cX3_moveBehind 75 = .ok (.getfield 18, 3) := by decide +kernel
theorem dX3_moveBehind_78 : decode cX3_moveBehind 78 = .ok (.iload 5, 2) := by decide +kernel
theorem dX3_moveBehind_80 : decode cX3_moveBehind 80 = .ok (.iaload, 1) := by decide +kernel
theorem dX3_moveBehind_81 : decode cX3_moveBehind 81 = .ok (.iaload, 1) := by decide +kernel
theorem dX3_moveBehind_82 : decode cX3_moveBehind 82 = .ok (.invokestatic 186, 3) := by decide +kernel
theorem dX3_moveBehind_85 : decode cX3_moveBehind 85 = .ok (.istore 4, 2) := by decide +kernel
theorem dX3_moveBehind_87 : decode cX3_moveBehind 87 = .ok (.iload_n 3, 1) := by decide +kernel
theorem dX3_moveBehind_88 : decode cX3_moveBehind 88 = .ok (.aload_n 0, 1) := by decide +kernel
theorem dX3_moveBehind_89 : decode cX3_moveBehind 89 = .ok (.getfield 34, 3) := by decide +kernel
theorem dX3_moveBehind_92 : decode cX3_moveBehind 92 = .ok (.getfield 176, 3) := by decide +kernel
theorem dX3_moveBehind_95 : decode cX3_moveBehind 95 = .ok (.aload_n 0, 1) := by decide +kernel
theorem dX3_moveBehind_96 : decode cX3_moveBehind 96 = .ok (.getfield 18, 3) := by decide +kernel
theorem dX3_moveBehind_99 : decode cX3_moveBehind 99 = .ok (.iload 5, 2) := by decide +kernel
theorem dX3_moveBehind_101 : decode cX3_moveBehind 101 = .ok (.iaload, 1) := by decide +kernel
theorem dX3_moveBehind_102 : decode cX3_moveBehind 102 = .ok (.iaload, 1) := by decide +kernel
theorem dX3_moveBehind_103 : decode cX3_moveBehind 103 = .ok (.invokestatic 180, 3) := by decide +kernel
theorem dX3_moveBehind_106 : decode cX3_moveBehind 106 = .ok (.istore_n 3, 1) := by decide +kernel
theorem dX3_moveBehind_107 : decode cX3_moveBehind 107 = .ok (.iinc 5 1, 3) := by decide +kernel
theorem dX3_moveBehind_110 : decode cX3_moveBehind 110 = .ok (.goto (-74), 3) := by decide +kernel
theorem dX3_moveBehind_113 : decode cX3_moveBehind 113 = .ok (.iconst 0, 1) := by decide +kernel
theorem dX3_moveBehind_114 : decode cX3_moveBehind 114 = .ok (.istore 5, 2) := by decide +kernel
theorem dX3_moveBehind_116 : decode cX3_moveBehind 116 = .ok (.iload 5, 2) := by decide +kernel
theorem dX3_moveBehind_118 : decode cX3_moveBehind 118 = .ok (.aload_n 0, 1) := by decide +kernel
theorem dX3_moveBehind_119 : decode cX3_moveBehind 119 = .ok (.getfield 103, 3) := by decide +kernel
theorem dX3_moveBehind_122 : decode cX3_moveBehind 122 = .ok (.if_icmp .ge 49, 3) := by decide +kernel
theorem dX3_moveBehind_125 : decode cX3_moveBehind 125 = .ok (.aload_n 0, 1) := by decide +kernel
theorem dX3_moveBehind_126 : decode cX3_moveBehind 126 = .ok (.getfield 34, 3) := by decide +kernel
theorem dX3_moveBehind_129 : decode cX3_moveBehind 129 = .ok (.getfield 114, 3) := by decide +kernel
theorem dX3_moveBehind_132 : decode cX3_moveBehind 132 = .ok (.aload_n 0, 1) := by decide +kernel
theorem dX3_moveBehind_133 : decode cX3_moveBehind 133 = .ok (.getfield 18, 3) := by decide +kernel
theorem dX3_moveBehind_136 : decode cX3_moveBehind 136 = .ok (.iload 5, 2) := by decide +kernel
theorem dX3_moveBehind_138 : decode cX3_moveBehind 138 = .ok (.iaload, 1) := by decide +kernel
theorem dX3_moveBehind_139 : decode cX3_moveBehind 139 = .ok (.dup2, 1) := by decide +kernel
theorem dX3_moveBehind_140 : decode cX3_moveBehind 140 = .ok (.iaload, 1) := by decide +kernel
theorem dX3_moveBehind_141 : decode cX3_moveBehind 141 = .ok (.iload_n 1, 1) := by decide +kernel
theorem dX3_moveBehind_142 : decode cX3_moveBehind 142 = .ok (.iload_n 2, 1) := by decide +kernel
theorem dX3_moveBehind_143 : decode cX3_moveBehind 143 = .ok (.isub, 1) := by decide +kernel
theorem dX3_moveBehind_144 : decode cX3_moveBehind 144 = .ok (.iadd, 1) := by decide +kernel
theorem dX3_moveBehind_145 : decode cX3_moveBehind 145 = .ok (.iastore, 1) := by decide +kernel
theorem dX3_moveBehind_146 : decode cX3_moveBehind 146 = .ok (.aload_n 0, 1) := by decide +kernel
theorem dX3_moveBehind_147 : decode cX3_moveBehind 147 = .ok (.getfield 34, 3) := by decide +kernel
theorem dX3_moveBehind_150 : decode cX3_moveBehind 150 = .ok (.getfield 176, 3) := by decide +kernel
theorem dX3_moveBehind_153 : decode cX3_moveBehind 153 = .ok (.aload_n 0, 1) := by decide +kernel
theorem dX3_moveBehind_154 : decode cX3_moveBehind 154 = .ok (.getfield 18, 3) := by decide +kernel
theorem dX3_moveBehind_157 : decode cX3_moveBehind 157 = .ok (.iload 5, 2) := by decide +kernel
theorem dX3_moveBehind_159 : decode cX3_moveBehind 159 = .ok (.iaload, 1) := by decide +kernel
theorem dX3_moveBehind_160 : decode cX3_moveBehind 160 = .ok (.dup2, 1) := by decide +kernel
theorem dX3_moveBehind_161 : decode cX3_moveBehind 161 = .ok (.iaload, 1) := by decide +kernel
theorem dX3_moveBehind_162 : decode cX3_moveBehind 162 = .ok (.iload_n 3, 1) := by decide +kernel
theorem dX3_moveBehind_163 : decode cX3_moveBehind 163 = .ok (.isub, 1) := by decide +kernel
theorem dX3_moveBehind_164 : decode cX3_moveBehind 164 = .ok (.iastore, 1) := by decide +kernel
theorem dX3_moveBehind_165 : decode cX3_moveBehind 165 = .ok (.iinc 5 1, 3) := by decide +kernel
theorem dX3_moveBehind_168 : decode cX3_moveBehind 168 = .ok (.goto (-52), 3) := by decide +kernel
theorem dX3_moveBehind_171 : decode cX3_moveBehind 171 = .ok (.iload 4, 2) := by decide +kernel
theorem dX3_moveBehind_173 : decode cX3_moveBehind 173 = .ok (.iload_n 1, 1) := by decide +kernel
theorem dX3_moveBehind_174 : decode cX3_moveBehind 174 = .ok (.iadd, 1) := by decide +kernel
theorem dX3_moveBehind_175 : decode cX3_moveBehind 175 = .ok (.iload_n 2, 1) := by decide +kernel
theorem dX3_moveBehind_176 : decode cX3_moveBehind 176 = .ok (.isub, 1) := by decide +kernel
theorem dX3_moveBehind_177 : decode cX3_moveBehind 177 = .ok (.ireturn, 1) := by decide +kernel
theorem dX8_init_0 : decode cX8_init 0 = .ok (.aload_n 0, 1) := by decide +kernel
theorem dX8_init_1 : decode cX8_init 1 = .ok (.invokespecial 1, 3) := by decide +kernel
theorem dX8_init_4 : decode cX8_init 4 = .ok (.aload_n 0, 1) := by decide +kernel
theorem dX8_init_5 : decode cX8_init 5 = .ok (.new 7, 3) := by decide +kernel
theorem dX8_init_8 : decode cX8_init 8 = .ok (.dup, 1) := by decide +kernel
theorem dX8_init_9 : decode cX8_init 9 = .ok (.invokespecial 9, 3) := by decide +kernel
theorem dX8_init_12 : decode cX8_init 12 = .ok (.putfield 10, 3) := by decide +kernel
theorem dX8_init_15 : decode cX8_init 15 = .ok (.aload_n 0, 1) := by decide +kernel
theorem dX8_init_16 : decode cX8_init 16 = .ok (.new 16, 3) := by decide +kernel
theorem dX8_init_19 : decode cX8_init 19 = .ok (.dup, 1) := by decide +kernel
theorem dX8_init_20 : decode cX8_init 20 = .ok (.invokespecial 18, 3) := by decide +kernel
theorem dX8_init_23 : decode cX8_init 23 = .ok (.putfield 19, 3) := by decide +kernel
theorem dX8_init_26 : decode cX8_init 26 = .ok (.aload_n 0, 1) := by decide +kernel
theorem dX8_init_27 : decode cX8_init 27 = .ok (.new 23, 3) := by decide +kernel
theorem dX8_init_30 : decode cX8_init 30 = .ok (.dup, 1) := by decide +kernel
theorem dX8_init_31 : decode cX8_init 31 = .ok (.aload_n 0, 1) := by decide +kernel
theorem dX8_init_32 : decode cX8_init 32 = .ok (.getfield 10, 3) := by decide +kernel
theorem dX8_init_35 : decode cX8_init 35 = .ok (.invokespecial 25, 3) := by decide +kernel
theorem dX8_init_38 : decode cX8_init 38 = .ok (.putfield 28, 3) := by decide +kernel
theorem dX8_init_41 : decode cX8_init 41 = .ok (.aload_n 0, 1) := by decide +kernel
theorem dX8_init_42 : decode cX8_init 42 = .ok (.new 32, 3) := by decide +kernel
theorem dX8_init_45 : decode cX8_init 45 = .ok (.dup, 1) := by decide +kernel
theorem dX8_init_46 : decode cX8_init 46 = .ok (.aload_n 0, 1) := by decide +kernel
theorem dX8_init_47 : decode cX8_init 47 = .ok (.getfield 10, 3) := by decide +kernel
theorem dX8_init_50 : decode cX8_init 50 = .ok (.aload_n 0, 1) := by decide +kernel
theorem dX8_init_51 : decode cX8_init 51 = .ok (.getfield 19, 3) := by decide +kernel
theorem dX8_init_54 : decode cX8_init 54 = .ok (.aload_n 0, 1) := by decide +kernel
theorem dX8_init_55 : decode cX8_init 55 = .ok (.getfield 28, 3) := by decide +kernel
theorem dX8_init_58 : decode cX8_init 58 = .ok (.invokespecial 34, 3) := by decide +kernel
theorem dX8_init_61 : decode cX8_init 61 = .ok (.putfield 37, 3) := by decide +kernel
theorem dX8_init_64 : decode cX8_init 64 = .ok (.aload_n 0, 1) := by decide +kernel
theorem dX8_init_65 : decode cX8_init 65 = .ok (.new 41, 3) := by decide +kernel
theorem dX8_init_68 : decode cX8_init 68 = .ok (.dup, 1) := by decide +kernel
theorem dX8_init_69 : decode cX8_init 69 = .ok (.aload_n 0, 1) := by decide +kernel
theorem dX8_init_70 : decode cX8_init 70 = .ok (.getfield 10, 3) := by decide +kernel
theorem dX8_init_73 : decode cX8_init 73 = .ok (.invokespecial 43, 3) := by decide +kernel
theorem dX8_init_76 : decode cX8_init 76 = .ok (.putfield 44, 3) := by decide +kernel
theorem dX8_init_79 : decode cX8_init 79 = .ok (.aload_n 0, 1) := by decide +kernel
theorem dX8_init_80 : decode cX8_init 80 = .ok (.new 48, 3) := by decide +kernel
theorem dX8_init_83 : decode cX8_init 83 = .ok (.dup, 1) := by decide +kernel
theorem dX8_init_84 : decode cX8_init 84 = .ok (.aload_n 0, 1) := by decide +kernel
theorem dX8_init_85 : decode cX8_init 85 = .ok (.getfield 10, 3) := by decide +kernel
theorem dX8_init_88 : decode cX8_init 88 = .ok (.aload_n 0, 1) := by decide +kernel
theorem dX8_init_89 : decode cX8_init 89 = .ok (.getfield 28, 3) := by decide +kernel
theorem dX8_init_92 : decode cX8_init 92 = .ok (.invokespecial 50, 3) := by decide +kernel
theorem dX8_init_95 : decode cX8_init 95 = .ok (.putfield 53, 3) := by decide +kernel
theorem dX8_init_98 : decode cX8_init 98 = .ok (.return_, 1) := by decide +kernel
theorem dX8_room_0 : decode cX8_room 0 = .ok (.iload_n 1, 1) := by decide +kernel
theorem dX8_room_1 : decode cX8_room 1 = .ok (.iconst 1, 1) := by decide +kernel
theorem dX8_room_2 : decode cX8_room 2 = .ok (.if_icmp .lt 15, 3) := by decide +kernel
theorem dX8_room_5 : decode cX8_room 5 = .ok (.iload_n 1, 1) := by decide +kernel
theorem dX8_room_6 : decode cX8_room 6 = .ok (.iconst 5, 1) := by decide +kernel
theorem dX8_room_7 : decode cX8_room 7 = .ok (.if_icmp .gt 10, 3) := by decide +kernel
theorem dX8_room_10 : decode cX8_room 10 = .ok (.iload_n 2, 1) := by decide +kernel
theorem dX8_room_11 : decode cX8_room 11 = .ok (.invokestatic 57, 3) := by decide +kernel
theorem dX8_room_14 : decode cX8_room 14 = .ok (.ifCond .ne 5, 3) := by decide +kernel
theorem dX8_room_17 : decode cX8_room 17 = .ok (.iconst (-1), 1) := by decide +kernel
theorem dX8_room_18 : decode cX8_room 18 = .ok (.ireturn, 1) := by decide +kernel
theorem dX8_room_19 : decode cX8_room 19 = .ok (.aload_n 0, 1) := by decide +kernel
theorem dX8_room_20 : decode cX8_room 20 = .ok (.getfield 10, 3) := by decide +kernel
theorem dX8_room_23 : decode cX8_room 23 = .ok (.invokevirtual 61, 3) := by decide +kernel
theorem dX8_room_26 : decode cX8_room 26 = .ok (.ifCond .eq 8, 3) := by decide +kernel
theorem dX8_room_29 : decode cX8_room 29 = .ok (.bipush (-4), 2) := by decide +kernel
theorem dX8_room_31 : decode cX8_room 31 = .ok (.goto 12, 3) := by decide +kernel
theorem dX8_room_34 : decode cX8_room 34 = .ok (.aload_n 0, 1) := by decide +kernel
theorem dX8_room_35 : decode cX8_room 35 = .ok (.getfield 10, 3) := by decide +kernel
theorem dX8_room_38 : decode cX8_room 38 = .ok (.iload_n 1, 1) := by decide +kernel
theorem dX8_room_39 : decode cX8_room 39 = .ok (.iload_n 2, 1) := by decide +kernel
theorem dX8_room_40 : decode cX8_room 40 = .ok (.invokevirtual 65, 3) := by decide +kernel
theorem dX8_room_43 : decode cX8_room 43 = .ok (.ireturn, 1) := by decide +kernel
theorem dX8_exit_0 : decode cX8_exit 0 = .ok (.aload_n 0, 1) := by decide +kernel
theorem dX8_exit_1 : decode cX8_exit 1 = .ok (.getfield 10, 3) := by decide +kernel
theorem dX8_exit_4 : decode cX8_exit 4 = .ok (.iload_n 1, 1) := by decide +kernel
theorem dX8_exit_5 : decode cX8_exit 5 = .ok (.invokevirtual 69, 3) := by decide +kernel
theorem dX8_exit_8 : decode cX8_exit 8 = .ok (.ifCond .eq 21, 3) := by decide +kernel
theorem dX8_exit_11 : decode cX8_exit 11 = .ok (.iload_n 2, 1) := by decide +kernel
theorem dX8_exit_12 : decode cX8_exit 12 = .ok (.invokestatic 72, 3) := by decide +kernel
theorem dX8_exit_15 : decode cX8_exit 15 = .ok (.ifCond .eq 14, 3) := by decide +kernel
theorem dX8_exit_18 : decode cX8_exit 18 = .ok (.aload_n 0, 1) := by decide +kernel
theorem dX8_exit_19 : decode cX8_exit 19 = .ok (.getfield 10, 3) := by decide +kernel
theorem dX8_exit_22 : decode cX8_exit 22 = .ok (.iload_n 3, 1) := by decide +kernel
theorem dX8_exit_23 : decode cX8_exit 23 = .ok (.invokevirtual 69, 3) := by decide +kernel
theorem dX8_exit_26 : decode cX8_exit 26 = .ok (.ifCond .ne 5, 3) := by decide +kernel
theorem dX8_exit_29 : decode cX8_exit 29 = .ok (.iconst (-1), 1) := by decide +kernel
theorem dX8_exit_30 : decode cX8_exit 30 = .ok (.ireturn, 1) := by decide +kernel
theorem dX8_exit_31 : decode cX8_exit 31 = .ok (.aload_n 0, 1) := by decide +kernel
theorem dX8_exit_32 : decode cX8_exit 32 = .ok (.getfield 10, 3) := by decide +kernel
theorem dX8_exit_35 : decode cX8_exit 35 = .ok (.iload_n 1, 1) := by decide +kernel
theorem dX8_exit_36 : decode cX8_exit 36 = .ok (.iload_n 2, 1) := by decide +kernel
theorem dX8_exit_37 : decode cX8_exit 37 = .ok (.invokevirtual 75, 3) := by decide +kernel
theorem dX8_exit_40 : decode cX8_exit 40 = .ok (.ifCond .ge 24, 3) := by decide +kernel
theorem dX8_exit_43 : decode cX8_exit 43 = .ok (.iload 4, 2) := by decide +kernel
theorem dX8_exit_45 : decode cX8_exit 45 = .ok (.ifCond .eq 23, 3) := by decide +kernel
theorem dX8_exit_48 : decode cX8_exit 48 = .ok (.aload_n 0, 1) := by decide +kernel
theorem dX8_exit_49 : decode cX8_exit 49 = .ok (.getfield 10, 3) := by decide +kernel
theorem dX8_exit_52 : decode cX8_exit 52 = .ok (.iload_n 3, 1) := by decide +kernel
theorem dX8_exit_53 : decode cX8_exit 53 = .ok (.getstatic 78, 3) := by decide +kernel
theorem dX8_exit_56 : decode cX8_exit 56 = .ok (.iload_n 2, 1) := by decide +kernel
theorem dX8_exit_57 : decode cX8_exit 57 = .ok (.iaload, 1) := by decide +kernel
theorem dX8_exit_58 : decode cX8_exit 58 = .ok (.invokevirtual 75, 3) := by decide +kernel
theorem dX8_exit_61 : decode cX8_exit 61 = .ok (.ifCond .lt 7, 3) := by decide +kernel
theorem dX8_exit_64 : decode cX8_exit 64 = .ok (.iconst 1, 1) := by decide +kernel
theorem dX8_exit_65 : decode cX8_exit 65 = .ok (.goto 4, 3) := by decide +kernel
theorem dX8_exit_68 : decode cX8_exit 68 = .ok (.iconst 0, 1) := by decide +kernel
theorem dX8_exit_69 : decode cX8_exit 69 = .ok (.istore 5, 2) := by decide +kernel
theorem dX8_exit_71 : decode cX8_exit 71 = .ok (.iload 5, 2) := by decide +kernel
theorem dX8_exit_73 : decode cX8_exit 73 = .ok (.ifCond .eq 6, 3) := by decide +kernel
theorem dX8_exit_76 : decode cX8_exit 76 = .ok (.bipush (-3), 2) := by decide +kernel
theorem dX8_exit_78 : decode cX8_exit 78 = .ok (.ireturn, 1) := by decide +kernel
theorem dX8_exit_79 : decode cX8_exit 79 = .ok (.aload_n 0, 1) := by decide +kernel
theorem dX8_exit_80 : decode cX8_exit 80 = .ok (.getfield 10, 3) := by decide +kernel
theorem dX8_exit_83 : decode cX8_exit 83 = .ok (.invokevirtual 82, 3) := by decide +kernel
theorem dX8_exit_86 : decode cX8_exit 86 = .ok (.ifCond .eq 8, 3) := by decide +kernel
theorem dX8_exit_89 : decode cX8_exit 89 = .ok (.bipush (-4), 2) := by decide +kernel
theorem dX8_exit_91 : decode cX8_exit 91 = .ok (.goto 15, 3) := by decide +kernel
theorem dX8_exit_94 : decode cX8_exit 94 = .ok (.aload_n 0, 1) := by decide +kernel
theorem dX8_exit_95 : decode cX8_exit 95 = .ok (.getfield 10, 3) := by decide +kernel
theorem dX8_exit_98 : decode cX8_exit 98 = .ok (.iload_n 1, 1) := by decide +kernel
theorem dX8_exit_99 : decode cX8_exit 99 = .ok (.iload_n 2, 1) := by decide +kernel
theorem dX8_exit_100 : decode cX8_exit 100 = .ok (.iload_n 3, 1) := by decide +kernel
theorem dX8_exit_101 : decode cX8_exit 101 = .ok (.iload 4, 2) := by decide +kernel
theorem dX8_exit_103 : decode cX8_exit 103 = .ok (.invokevirtual 85, 3) := by decide +kernel
theorem dX8_exit_106 : decode cX8_exit 106 = .ok (.ireturn, 1) := by decide +kernel
theorem dX8_cut_0 : decode cX8_cut 0 = .ok (.aload_n 0, 1) := by decide +kernel
theorem dX8_cut_1 : decode cX8_cut 1 = .ok (.getfield 10, 3) := by decide +kernel
theorem dX8_cut_4 : decode cX8_cut 4 = .ok (.iload_n 1, 1) := by decide +kernel
theorem dX8_cut_5 : decode cX8_cut 5 = .ok (.invokevirtual 89, 3) := by decide +kernel
theorem dX8_cut_8 : decode cX8_cut 8 = .ok (.ifCond .ne 5, 3) := by decide +kernel
theorem dX8_cut_11 : decode cX8_cut 11 = .ok (.iconst (-1), 1) := by decide +kernel
theorem dX8_cut_12 : decode cX8_cut 12 = .ok (.ireturn, 1) := by decide +kernel
theorem dX8_cut_13 : decode cX8_cut 13 = .ok (.aload_n 0, 1) := by decide +kernel
theorem dX8_cut_14 : decode cX8_cut 14 = .ok (.getfield 10, 3) := by decide +kernel

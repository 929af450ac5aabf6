theorem dX9_link_56 : decode cX9_link 56 = .ok (.iaload, 1) := by decide +kernel
theorem dX9_link_57 : decode cX9_link 57 = .ok (.goto 45, 3) := by decide +kernel
theorem dX9_link_60 : decode cX9_link 60 = .ok (.iload_n 2, 1) := by decide +kernel
theorem dX9_link_61 : decode cX9_link 61 = .ok (.iconst 3, 1) := by decide +kernel
theorem dX9_link_62 : decode cX9_link 62 = .ok (.if_icmp .ne 20, 3) := by decide +kernel
theorem dX9_link_65 : decode cX9_link 65 = .ok (.aload_n 0, 1) := by decide +kernel
theorem dX9_link_66 : decode cX9_link 66 = .ok (.getfield 28, 3) := by decide +kernel
theorem dX9_link_69 : decode cX9_link 69 = .ok (.iload_n 1, 1) := by decide +kernel
theorem dX9_link_70 : decode cX9_link 70 = .ok (.baload, 1) := by decide +kernel
theorem dX9_link_71 : decode cX9_link 71 = .ok (.ifCond .eq 7, 3) := by decide +kernel
theorem dX9_link_74 : decode cX9_link 74 = .ok (.iconst 1, 1) := by decide +kernel
theorem dX9_link_75 : decode cX9_link 75 = .ok (.goto 27, 3) := by decide +kernel
theorem dX9_link_78 : decode cX9_link 78 = .ok (.iconst 0, 1) := by decide +kernel
theorem dX9_link_79 : decode cX9_link 79 = .ok (.goto 23, 3) := by decide +kernel
theorem dX9_link_82 : decode cX9_link 82 = .ok (.aload_n 0, 1) := by decide +kernel
theorem dX9_link_83 : decode cX9_link 83 = .ok (.getfield 19, 3) := by decide +kernel
theorem dX9_link_86 : decode cX9_link 86 = .ok (.iload_n 1, 1) := by decide +kernel
theorem dX9_link_87 : decode cX9_link 87 = .ok (.iaload, 1) := by decide +kernel
theorem dX9_link_88 : decode cX9_link 88 = .ok (.aload_n 0, 1) := by decide +kernel
theorem dX9_link_89 : decode cX9_link 89 = .ok (.getfield 25, 3) := by decide +kernel
theorem dX9_link_92 : decode cX9_link 92 = .ok (.iload_n 1, 1) := by decide +kernel
theorem dX9_link_93 : decode cX9_link 93 = .ok (.iaload, 1) := by decide +kernel
theorem dX9_link_94 : decode cX9_link 94 = .ok (.if_icmp .ne 7, 3) := by decide +kernel
theorem dX9_link_97 : decode cX9_link 97 = .ok (.iconst 1, 1) := by decide +kernel
theorem dX9_link_98 : decode cX9_link 98 = .ok (.goto 4, 3) := by decide +kernel
theorem dX9_link_101 : decode cX9_link 101 = .ok (.iconst 0, 1) := by decide +kernel
theorem dX9_link_102 : decode cX9_link 102 = .ok (.ireturn, 1) := by decide +kernel
theorem dX9_out_0 : decode cX9_out 0 = .ok (.aload_n 0, 1) := by decide +kernel
theorem dX9_out_1 : decode cX9_out 1 = .ok (.iload_n 1, 1) := by decide +kernel
theorem dX9_out_2 : decode cX9_out 2 = .ok (.invokevirtual 101, 3) := by decide +kernel
theorem dX9_out_5 : decode cX9_out 5 = .ok (.ifCond .eq 13, 3) := by decide +kernel
theorem dX9_out_8 : decode cX9_out 8 = .ok (.iload_n 2, 1) := by decide +kernel
theorem dX9_out_9 : decode cX9_out 9 = .ok (.iconst 0, 1) := by decide +kernel
theorem dX9_out_10 : decode cX9_out 10 = .ok (.bipush 9, 2) := by decide +kernel
theorem dX9_out_12 : decode cX9_out 12 = .ok (.invokestatic 90, 3) := by decide +kernel
theorem dX9_out_15 : decode cX9_out 15 = .ok (.ifCond .ne 7, 3) := by decide +kernel
theorem dX9_out_18 : decode cX9_out 18 = .ok (.iconst (-1), 1) := by decide +kernel
theorem dX9_out_19 : decode cX9_out 19 = .ok (.goto 9, 3) := by decide +kernel
theorem dX9_out_22 : decode cX9_out 22 = .ok (.aload_n 0, 1) := by decide +kernel
theorem dX9_out_23 : decode cX9_out 23 = .ok (.iload_n 1, 1) := by decide +kernel
theorem dX9_out_24 : decode cX9_out 24 = .ok (.iload_n 2, 1) := by decide +kernel
theorem dX9_out_25 : decode cX9_out 25 = .ok (.invokevirtual 105, 3) := by decide +kernel
theorem dX9_out_28 : decode cX9_out 28 = .ok (.ireturn, 1) := by decide +kernel
theorem dX9_findParts_0 : decode cX9_findParts 0 = .ok (.iconst 0, 1) := by decide +kernel
theorem dX9_findParts_1 : decode cX9_findParts 1 = .ok (.istore_n 1, 1) := by decide +kernel
theorem dX9_findParts_2 : decode cX9_findParts 2 = .ok (.iload_n 1, 1) := by decide +kernel
theorem dX9_findParts_3 : decode cX9_findParts 3 = .ok (.aload_n 0, 1) := by decide +kernel
theorem dX9_findParts_4 : decode cX9_findParts 4 = .ok (.getfield 86, 3) := by decide +kernel
theorem dX9_findParts_7 : decode cX9_findParts 7 = .ok (.if_icmp .ge 16, 3) := by decide +kernel
theorem dX9_findParts_10 : decode cX9_findParts 10 = .ok (.aload_n 0, 1) := by decide +kernel
theorem dX9_findParts_11 : decode cX9_findParts 11 = .ok (.getfield 47, 3) := by decide +kernel
theorem dX9_findParts_14 : decode cX9_findParts 14 = .ok (.iload_n 1, 1) := by decide +kernel
theorem dX9_findParts_15 : decode cX9_findParts 15 = .ok (.iload_n 1, 1) := by decide +kernel
theorem dX9_findParts_16 : decode cX9_findParts 16 = .ok (.iastore, 1) := by decide +kernel
theorem dX9_findParts_17 : decode cX9_findParts 17 = .ok (.iinc 1 1, 3) := by decide +kernel
theorem dX9_findParts_20 : decode cX9_findParts 20 = .ok (.goto (-18), 3) := by decide +kernel
theorem dX9_findParts_23 : decode cX9_findParts 23 = .ok (.iconst 0, 1) := by decide +kernel
theorem dX9_findParts_24 : decode cX9_findParts 24 = .ok (.istore_n 1, 1) := by decide +kernel
theorem dX9_findParts_25 : decode cX9_findParts 25 = .ok (.iload_n 1, 1) := by decide +kernel
theorem dX9_findParts_26 : decode cX9_findParts 26 = .ok (.aload_n 0, 1) := by decide +kernel
theorem dX9_findParts_27 : decode cX9_findParts 27 = .ok (.getfield 86, 3) := by decide +kernel
theorem dX9_findParts_30 : decode cX9_findParts 30 = .ok (.if_icmp .ge 100, 3) := by decide +kernel
theorem dX9_findParts_33 : decode cX9_findParts 33 = .ok (.iconst 0, 1) := by decide +kernel
theorem dX9_findParts_34 : decode cX9_findParts 34 = .ok (.istore_n 2, 1) := by decide +kernel
theorem dX9_findParts_35 : decode cX9_findParts 35 = .ok (.iload_n 2, 1) := by decide +kernel
theorem dX9_findParts_36 : decode cX9_findParts 36 = .ok (.aload_n 0, 1) := by decide +kernel
theorem dX9_findParts_37 : decode cX9_findParts 37 = .ok (.getfield 94, 3) := by decide +kernel
theorem dX9_findParts_40 : decode cX9_findParts 40 = .ok (.if_icmp .ge 84, 3) := by decide +kernel
theorem dX9_findParts_43 : decode cX9_findParts 43 = .ok (.aload_n 0, 1) := by decide +kernel
theorem dX9_findParts_44 : decode cX9_findParts 44 = .ok (.getfield 47, 3) := by decide +kernel
theorem dX9_findParts_47 : decode cX9_findParts 47 = .ok (.aload_n 0, 1) := by decide +kernel
theorem dX9_findParts_48 : decode cX9_findParts 48 = .ok (.getfield 19, 3) := by decide +kernel
theorem dX9_findParts_51 : decode cX9_findParts 51 = .ok (.iload_n 2, 1) := by decide +kernel
theorem dX9_findParts_52 : decode cX9_findParts 52 = .ok (.iaload, 1) := by decide +kernel
theorem dX9_findParts_53 : decode cX9_findParts 53 = .ok (.iaload, 1) := by decide +kernel
theorem dX9_findParts_54 : decode cX9_findParts 54 = .ok (.aload_n 0, 1) := by decide +kernel
theorem dX9_findParts_55 : decode cX9_findParts 55 = .ok (.getfield 47, 3) := by decide +kernel
theorem dX9_findParts_58 : decode cX9_findParts 58 = .ok (.aload_n 0, 1) := by decide +kernel
theorem dX9_findParts_59 : decode cX9_findParts 59 = .ok (.getfield 25, 3) := by decide +kernel
theorem dX9_findParts_62 : decode cX9_findParts 62 = .ok (.iload_n 2, 1) := by decide +kernel
theorem dX9_findParts_63 : decode cX9_findParts 63 = .ok (.iaload, 1) := by decide +kernel
theorem dX9_findParts_64 : decode cX9_findParts 64 = .ok (.iaload, 1) := by decide +kernel
theorem dX9_findParts_65 : decode cX9_findParts 65 = .ok (.if_icmp .ge 17, 3) := by decide +kernel
theorem dX9_findParts_68 : decode cX9_findParts 68 = .ok (.aload_n 0, 1) := by decide +kernel
theorem dX9_findParts_69 : decode cX9_findParts 69 = .ok (.getfield 47, 3) := by decide +kernel
theorem dX9_findParts_72 : decode cX9_findParts 72 = .ok (.aload_n 0, 1) := by decide +kernel
theorem dX9_findParts_73 : decode cX9_findParts 73 = .ok (.getfield 19, 3) := by decide +kernel
theorem dX9_findParts_76 : decode cX9_findParts 76 = .ok (.iload_n 2, 1) := by decide +kernel
theorem dX9_findParts_77 : decode cX9_findParts 77 = .ok (.iaload, 1) := by decide +kernel
theorem dX9_findParts_78 : decode cX9_findParts 78 = .ok (.iaload, 1) := by decide +kernel
theorem dX9_findParts_79 : decode cX9_findParts 79 = .ok (.goto 14, 3) := by decide +kernel
theorem dX9_findParts_82 : decode cX9_findParts 82 = .ok (.aload_n 0, 1) := by decide +kernel
theorem dX9_findParts_83 : decode cX9_findParts 83 = .ok (.getfield 47, 3) := by decide +kernel
theorem dX9_findParts_86 : decode cX9_findParts 86 = .ok (.aload_n 0, 1) := by decide +kernel
theorem dX9_findParts_87 : decode cX9_findParts 87 = .ok (.getfield 25, 3) := by decide +kernel
theorem dX9_findParts_90 : decode cX9_findParts 90 = .ok (.iload_n 2, 1) := by decide +kernel
theorem dX9_findParts_91 : decode cX9_findParts 91 = .ok (.iaload, 1) := by decide +kernel
theorem dX9_findParts_92 : decode cX9_findParts 92 = .ok (.iaload, 1) := by decide +kernel
theorem dX9_findParts_93 : decode cX9_findParts 93 = .ok (.istore_n 3, 1) := by decide +kernel
theorem dX9_findParts_94 : decode cX9_findParts 94 = .ok (.aload_n 0, 1) := by decide +kernel
theorem dX9_findParts_95 : decode cX9_findParts 95 = .ok (.getfield 47, 3) := by decide +kernel
theorem dX9_findParts_98 : decode cX9_findParts 98 = .ok (.aload_n 0, 1) := by decide +kernel
theorem dX9_findParts_99 : decode cX9_findParts 99 = .ok (.getfield 19, 3) := by decide +kernel
theorem dX9_findParts_102 : decode cX9_findParts 102 = .ok (.iload_n 2, 1) := by decide +kernel
theorem dX9_findParts_103 : decode cX9_findParts 103 = .ok (.iaload, 1) := by decide +kernel
theorem dX9_findParts_104 : decode cX9_findParts 104 = .ok (.iload_n 3, 1) := by decide +kernel
theorem dX9_findParts_105 : decode cX9_findParts 105 = .ok (.iastore, 1) := by decide +kernel
theorem dX9_findParts_106 : decode cX9_findParts 106 = .ok (.aload_n 0, 1) := by decide +kernel
theorem dX9_findParts_107 : decode cX9_findParts 107 = .ok (.getfield 47, 3) := by decide +kernel
theorem dX9_findParts_110 : decode cX9_findParts 110 = .ok (.aload_n 0, 1) := by decide +kernel
theorem dX9_findParts_111 : decode cX9_findParts 111 = .ok (.getfield 25, 3) := by decide +kernel
theorem dX9_findParts_114 : decode cX9_findParts 114 = .ok (.iload_n 2, 1) := by decide +kernel
theorem dX9_findParts_115 : decode cX9_findParts 115 = .ok (.iaload, 1) := by decide +kernel
theorem dX9_findParts_116 : decode cX9_findParts 116 = .ok (.iload_n 3, 1) := by decide +kernel
theorem dX9_findParts_117 : decode cX9_findParts 117 = .ok (.iastore, 1) := by decide +kernel
theorem dX9_findParts_118 : decode cX9_findParts 118 = .ok (.iinc 2 1, 3) := by decide +kernel
theorem dX9_findParts_121 : decode cX9_findParts 121 = .ok (.goto (-86), 3) := by decide +kernel
theorem dX9_findParts_124 : decode cX9_findParts 124 = .ok (.iinc 1 1, 3) := by decide +kernel
theorem dX9_findParts_127 : decode cX9_findParts 127 = .ok (.goto (-102), 3) := by decide +kernel
theorem dX9_findParts_130 : decode cX9_findParts 130 = .ok (.aload_n 0, 1) := by decide +kernel
theorem dX9_findParts_131 : decode cX9_findParts 131 = .ok (.iconst 0, 1) := by decide +kernel
theorem dX9_findParts_132 : decode cX9_findParts 132 = .ok (.putfield 126, 3) := by decide +kernel
theorem dX9_findParts_135 : decode cX9_findParts 135 = .ok (.iconst 0, 1) := by decide +kernel
theorem dX9_findParts_136 : decode cX9_findParts 136 = .ok (.istore_n 1, 1) := by decide +kernel
theorem dX9_findParts_137 : decode cX9_findParts 137 = .ok (.iload_n 1, 1) := by decide +kernel
theorem dX9_findParts_138 : decode cX9_findParts 138 = .ok (.aload_n 0, 1) := by decide +kernel
theorem dX9_findParts_139 : decode cX9_findParts 139 = .ok (.getfield 86, 3) := by decide +kernel
theorem dX9_findParts_142 : decode cX9_findParts 142 = .ok (.if_icmp .ge 59, 3) := by decide +kernel
theorem dX9_findParts_145 : decode cX9_findParts 145 = .ok (.aload_n 0, 1) := by decide +kernel
theorem dX9_findParts_146 : decode cX9_findParts 146 = .ok (.getfield 47, 3) := by decide +kernel
theorem dX9_findParts_149 : decode cX9_findParts 149 = .ok (.iload_n 1, 1) := by decide +kernel
theorem dX9_findParts_150 : decode cX9_findParts 150 = .ok (.iaload, 1) := by decide +kernel
theorem dX9_findParts_151 : decode cX9_findParts 151 = .ok (.iload_n 1, 1) := by decide +kernel
theorem dX9_findParts_152 : decode cX9_findParts 152 = .ok (.if_icmp .ne 26, 3) := by decide +kernel
theorem dX9_findParts_155 : decode cX9_findParts 155 = .ok (.aload_n 0, 1) := by decide +kernel
theorem dX9_findParts_156 : decode cX9_findParts 156 = .ok (.getfield 50, 3) := by decide +kernel
theorem dX9_findParts_159 : decode cX9_findParts 159 = .ok (.iload_n 1, 1) := by decide +kernel
theorem dX9_findParts_160 : decode cX9_findParts 160 = .ok (.aload_n 0, 1) := by decide +kernel
theorem dX9_findParts_161 : decode cX9_findParts 161 = .ok (.getfield 126, 3) := by decide +kernel
theorem dX9_findParts_164 : decode cX9_findParts 164 = .ok (.iastore, 1) := by decide +kernel
theorem dX9_findParts_165 : decode cX9_findParts 165 = .ok (.aload_n 0, 1) := by decide +kernel
theorem dX9_findParts_166 : decode cX9_findParts 166 = .ok (.dup, 1) := by decide +kernel
theorem dX9_findParts_167 : decode cX9_findParts 167 = .ok (.getfield 126, 3) := by decide +kernel
theorem dX9_findParts_170 : decode cX9_findParts 170 = .ok (.iconst 1, 1) := by decide +kernel
theorem dX9_findParts_171 : decode cX9_findParts 171 = .ok (.iadd, 1) := by decide +kernel
theorem dX9_findParts_172 : decode cX9_findParts 172 = .ok (.putfield 126, 3) := by decide +kernel
theorem dX9_findParts_175 : decode cX9_findParts 175 = .ok (.goto 20, 3) := by decide +kernel
theorem dX9_findParts_178 : decode cX9_findParts 178 = .ok (.aload_n 0, 1) := by decide +kernel
theorem dX9_findParts_179 : decode cX9_findParts 179 = .ok (.getfield 50, 3) := by decide +kernel
theorem dX9_findParts_182 : decode cX9_findParts 182 = .ok (.iload_n 1, 1) := by decide +kernel
theorem dX9_findParts_183 : decode cX9_findParts 183 = .ok (.aload_n 0, 1) := by decide +kernel
theorem dX9_findParts_184 : decode cX9_findParts 184 = .ok (.getfield 50, 3) := by decide +kernel
theorem dX9_findParts_187 : decode cX9_findParts 187 = .ok (.aload_n 0, 1) := by decide +kernel
theorem dX9_findParts_188 : decode cX9_findParts 188 = .ok (.getfield 47, 3) := by decide +kernel
theorem dX9_findParts_191 : decode cX9_findParts 191 = .ok (.iload_n 1, 1) := by decide +kernel
theorem dX9_findParts_192 : decode cX9_findParts 192 = .ok (.iaload, 1) := by decide +kernel
theorem dX9_findParts_193 : decode cX9_findParts 193 = .ok (.iaload, 1) := by decide +kernel
theorem dX9_findParts_194 : decode cX9_findParts 194 = .ok (.iastore, 1) := by decide +kernel
theorem dX9_findParts_195 : decode cX9_findParts 195 = .ok (.iinc 1 1, 3) := by decide +kernel
theorem dX9_findParts_198 : decode cX9_findParts 198 = .ok (.goto (-61), 3) := by decide +kernel
theorem dX9_findParts_201 : decode cX9_findParts 201 = .ok (.return_, 1) := by decide +kernel
theorem dX9_part_0 : decode cX9_part 0 = .ok (.aload_n 0, 1) := by decide +kernel
theorem dX9_part_1 : decode cX9_part 1 = .ok (.iload_n 1, 1) := by decide +kernel
theorem dX9_part_2 : decode cX9_part 2 = .ok (.invokevirtual 101, 3) := by decide +kernel
theorem dX9_part_5 : decode cX9_part 5 = .ok (.ifCond .ne 5, 3) := by decide +kernel
theorem dX9_part_8 : decode cX9_part 8 = .ok (.iconst (-1), 1) := by decide +kernel
theorem dX9_part_9 : decode cX9_part 9 = .ok (.ireturn, 1) := by decide +kernel
theorem dX9_part_10 : decode cX9_part 10 = .ok (.aload_n 0, 1) := by decide +kernel
theorem dX9_part_11 : decode cX9_part 11 = .ok (.invokevirtual 129, 3) := by decide +kernel
theorem dX9_part_14 : decode cX9_part 14 = .ok (.aload_n 0, 1) := by decide +kernel
theorem dX9_part_15 : decode cX9_part 15 = .ok (.getfield 50, 3) := by decide +kernel
theorem dX9_part_18 : decode cX9_part 18 = .ok (.iload_n 1, 1) := by decide +kernel
theorem dX9_part_19 : decode cX9_part 19 = .ok (.iaload, 1) := by decide +kernel
theorem dX9_part_20 : decode cX9_part 20 = .ok (.ireturn, 1) := by decide +kernel
theorem dX9_at_0 : decode cX9_at 0 = .ok (.iconst 0, 1) := by decide +kernel
theorem dX9_at_1 : decode cX9_at 1 = .ok (.istore 4, 2) := by decide +kernel
theorem dX9_at_3 : decode cX9_at 3 = .ok (.iload 4, 2) := by decide +kernel
theorem dX9_at_5 : decode cX9_at 5 = .ok (.aload_n 0, 1) := by decide +kernel
theorem dX9_at_6 : decode cX9_at 6 = .ok (.getfield 86, 3) := by decide +kernel
theorem dX9_at_9 : decode cX9_at 9 = .ok (.if_icmp .ge 55, 3) := by decide +kernel
theorem dX9_at_12 : decode cX9_at 12 = .ok (.aload_n 0, 1) := by decide +kernel
theorem dX9_at_13 : decode cX9_at 13 = .ok (.getfield 53, 3) := by decide +kernel
theorem dX9_at_16 : decode cX9_at 16 = .ok (.iload 4, 2) := by decide +kernel
theorem dX9_at_18 : decode cX9_at 18 = .ok (.baload, 1) := by decide +kernel
theorem dX9_at_19 : decode cX9_at 19 = .ok (.ifCond .eq 39, 3) := by decide +kernel
theorem dX9_at_22 : decode cX9_at 22 = .ok (.aload_n 0, 1) := by decide +kernel
theorem dX9_at_23 : decode cX9_at 23 = .ok (.getfield 56, 3) := by decide +kernel
theorem dX9_at_26 : decode cX9_at 26 = .ok (.iload 4, 2) := by decide +kernel
theorem dX9_at_28 : decode cX9_at 28 = .ok (.iaload, 1) := by decide +kernel
theorem dX9_at_29 : decode cX9_at 29 = .ok (.iload_n 1, 1) := by decide +kernel
theorem dX9_at_30 : decode cX9_at 30 = .ok (.if_icmp .ne 28, 3) := by decide +kernel
theorem dX9_at_33 : decode cX9_at 33 = .ok (.aload_n 0, 1) := by decide +kernel
theorem dX9_at_34 : decode cX9_at 34 = .ok (.getfield 59, 3) := by decide +kernel
theorem dX9_at_37 : decode cX9_at 37 = .ok (.iload 4, 2) := by decide +kernel
theorem dX9_at_39 : decode cX9_at 39 = .ok (.iaload, 1) := by decide +kernel
theorem dX9_at_40 : decode cX9_at 40 = .ok (.iload_n 2, 1) := by decide +kernel
theorem dX9_at_41 : decode cX9_at 41 = .ok (.if_icmp .ne 17, 3) := by decide +kernel
theorem dX9_at_44 : decode cX9_at 44 = .ok (.aload_n 0, 1) := by decide +kernel
theorem dX9_at_45 : decode cX9_at 45 = .ok (.getfield 62, 3) := by decide +kernel
theorem dX9_at_48 : decode cX9_at 48 = .ok (.iload 4, 2) := by decide +kernel
theorem dX9_at_50 : decode cX9_at 50 = .ok (.iaload, 1) := by decide +kernel
theorem dX9_at_51 : decode cX9_at 51 = .ok (.iload_n 3, 1) := by decide +kernel
theorem dX9_at_52 : decode cX9_at 52 = .ok (.if_icmp .ne 6, 3) := by decide +kernel
theorem dX9_at_55 : decode cX9_at 55 = .ok (.iload 4, 2) := by decide +kernel
theorem dX9_at_57 : decode cX9_at 57 = .ok (.ireturn, 1) := by decide +kernel
theorem dX9_at_58 : decode cX9_at 58 = .ok (.iinc 4 1, 3) := by decide +kernel
theorem dX9_at_61 : decode cX9_at 61 = .ok (.goto (-58), 3) := by decide +kernel
theorem dX9_at_64 : decode cX9_at 64 = .ok (.bipush (-2), 2) := by decide +kernel
theorem dX9_at_66 : decode cX9_at 66 = .ok (.ireturn, 1) := by decide +kernel
theorem dX9_stand_0 : decode cX9_stand 0 = .ok (.aload_n 0, 1) := by decide +kernel
theorem dX9_stand_1 : decode cX9_stand 1 = .ok (.getfield 53, 3) := by decide +kernel
theorem dX9_stand_4 : decode cX9_stand 4 = .ok (.iload_n 1, 1) := by decide +kernel
theorem dX9_stand_5 : decode cX9_stand 5 = .ok (.iconst 1, 1) := by decide +kernel
theorem dX9_stand_6 : decode cX9_stand 6 = .ok (.bastore, 1) := by decide +kernel
theorem dX9_stand_7 : decode cX9_stand 7 = .ok (.aload_n 0, 1) := by decide +kernel
theorem dX9_stand_8 : decode cX9_stand 8 = .ok (.getfield 56, 3) := by decide +kernel
theorem dX9_stand_11 : decode cX9_stand 11 = .ok (.iload_n 1, 1) := by decide +kernel
theorem dX9_stand_12 : decode cX9_stand 12 = .ok (.iload_n 2, 1) := by decide +kernel
theorem dX9_stand_13 : decode cX9_stand 13 = .ok (.iastore, 1) := by decide +kernel
theorem dX9_stand_14 : decode cX9_stand 14 = .ok (.aload_n 0, 1) := by decide +kernel
theorem dX9_stand_15 : decode cX9_stand 15 = .ok (.getfield 59, 3) := by decide +kernel
theorem dX9_stand_18 : decode cX9_stand 18 = .ok (.iload_n 1, 1) := by decide +kernel
theorem dX9_stand_19 : decode cX9_stand 19 = .ok (.iload_n 3, 1) := by decide +kernel
theorem dX9_stand_20 : decode cX9_stand 20 = .ok (.iastore, 1) := by decide +kernel
theorem dX9_stand_21 : decode cX9_stand 21 = .ok (.aload_n 0, 1) := by decide +kernel
theorem dX9_stand_22 : decode cX9_stand 22 = .ok (.getfield 62, 3) := by decide +kernel
theorem dX9_stand_25 : decode cX9_stand 25 = .ok (.iload_n 1, 1) := by decide +kernel
theorem dX9_stand_26 : decode cX9_stand 26 = .ok (.iload 4, 2) := by decide +kernel
theorem dX9_stand_28 : decode cX9_stand 28 = .ok (.iastore, 1) := by decide +kernel
theorem dX9_stand_29 : decode cX9_stand 29 = .ok (.return_, 1) := by decide +kernel
theorem dX9_farBy_0 : decode cX9_farBy 0 = .ok (.iload_n 3, 1) := by decide +kernel
theorem dX9_farBy_1 : decode cX9_farBy 1 = .ok (.aload_n 0, 1) := by decide +kernel
theorem dX9_farBy_2 : decode cX9_farBy 2 = .ok (.getfield 56, 3) := by decide +kernel
theorem dX9_farBy_5 : decode cX9_farBy 5 = .ok (.iload_n 1, 1) := by decide +kernel
theorem dX9_farBy_6 : decode cX9_farBy 6 = .ok (.iaload, 1) := by decide +kernel
theorem dX9_farBy_7 : decode cX9_farBy 7 = .ok (.isub, 1) := by decide +kernel
theorem dX9_farBy_8 : decode cX9_farBy 8 = .ok (.istore 5, 2) := by decide +kernel
theorem dX9_farBy_10 : decode cX9_farBy 10 = .ok (.iload 4, 2) := by decide +kernel
theorem dX9_farBy_12 : decode cX9_farBy 12 = .ok (.aload_n 0, 1) := by decide +kernel
theorem dX9_farBy_13 : decode cX9_farBy 13 = .ok (.getfield 59, 3) := by decide +kernel
theorem dX9_farBy_16 : decode cX9_farBy 16 = .ok (.iload_n 1, 1) := by decide +kernel
theorem dX9_farBy_17 : decode cX9_farBy 17 = .ok (.iaload, 1) := by decide +kernel
theorem dX9_farBy_18 : decode cX9_farBy 18 = .ok (.isub, 1) := by decide +kernel
theorem dX9_farBy_19 : decode cX9_farBy 19 = .ok (.istore 6, 2) := by decide +kernel
theorem dX9_farBy_21 : decode cX9_farBy 21 = .ok (.iload 5, 2) := by decide +kernel
theorem dX9_farBy_23 : decode cX9_farBy 23 = .ok (.iload_n 2, 1) := by decide +kernel
theorem dX9_farBy_24 : decode cX9_farBy 24 = .ok (.invokestatic 132, 3) := by decide +kernel
theorem dX9_farBy_27 : decode cX9_farBy 27 = .ok (.imul, 1) := by decide +kernel
theorem dX9_farBy_28 : decode cX9_farBy 28 = .ok (.iload 6, 2) := by decide +kernel
theorem dX9_farBy_30 : decode cX9_farBy 30 = .ok (.iload_n 2, 1) := by decide +kernel
theorem dX9_farBy_31 : decode cX9_farBy 31 = .ok (.invokestatic 135, 3) := by decide +kernel
theorem dX9_farBy_34 : decode cX9_farBy 34 = .ok (.imul, 1) := by decide +kernel
theorem dX9_farBy_35 : decode cX9_farBy 35 = .ok (.iadd, 1) := by decide +kernel
theorem dX9_farBy_36 : decode cX9_farBy 36 = .ok (.istore 7, 2) := by decide +kernel
theorem dX9_farBy_38 : decode cX9_farBy 38 = .ok (.iload_n 2, 1) := by decide +kernel
theorem dX9_farBy_39 : decode cX9_farBy 39 = .ok (.iconst 2, 1) := by decide +kernel
theorem dX9_farBy_40 : decode cX9_farBy 40 = .ok (.irem, 1) := by decide +kernel
theorem dX9_farBy_41 : decode cX9_farBy 41 = .ok (.iconst 1, 1) := by decide +kernel
theorem dX9_farBy_42 : decode cX9_farBy 42 = .ok (.if_icmp .ne 10, 3) := by decide +kernel
theorem dX9_farBy_45 : decode cX9_farBy 45 = .ok (.iload 7, 2) := by decide +kernel
theorem dX9_farBy_47 : decode cX9_farBy 47 = .ok (.iconst 2, 1) := by decide +kernel
theorem dX9_farBy_48 : decode cX9_farBy 48 = .ok (.idiv, 1) := by decide +kernel
theorem dX9_farBy_49 : decode cX9_farBy 49 = .ok (.goto 5, 3) := by decide +kernel
theorem dX9_farBy_52 : decode cX9_farBy 52 = .ok (.iload 7, 2) := by decide +kernel
theorem dX9_farBy_54 : decode cX9_farBy 54 = .ok (.istore 7, 2) := by decide +kernel
theorem dX9_farBy_56 : decode cX9_farBy 56 = .ok (.iload 7, 2) := by decide +kernel
theorem dX9_farBy_58 : decode cX9_farBy 58 = .ok (.ifCond .le 32, 3) := by decide +kernel
theorem dX9_farBy_61 : decode cX9_farBy 61 = .ok (.iload 5, 2) := by decide +kernel
theorem dX9_farBy_63 : decode cX9_farBy 63 = .ok (.iload 7, 2) := by decide +kernel
theorem dX9_farBy_65 : decode cX9_farBy 65 = .ok (.iload_n 2, 1) := by decide +kernel
theorem dX9_farBy_66 : decode cX9_farBy 66 = .ok (.invokestatic 132, 3) := by decide +kernel
theorem dX9_farBy_69 : decode cX9_farBy 69 = .ok (.imul, 1) := by decide +kernel
theorem dX9_farBy_70 : decode cX9_farBy 70 = .ok (.if_icmp .ne 20, 3) := by decide +kernel
theorem dX9_farBy_73 : decode cX9_farBy 73 = .ok (.iload 6, 2) := by decide +kernel
theorem dX9_farBy_75 : decode cX9_farBy 75 = .ok (.iload 7, 2) := by decide +kernel
theorem dX9_farBy_77 : decode cX9_farBy 77 = .ok (.iload_n 2, 1) := by decide +kernel
theorem dX9_farBy_78 : decode cX9_farBy 78 = .ok (.invokestatic 135, 3) := by decide +kernel
theorem dX9_farBy_81 : decode cX9_farBy 81 = .ok (.imul, 1) := by decide +kernel
theorem dX9_farBy_82 : decode cX9_farBy 82 = .ok (.if_icmp .ne 8, 3) := by decide +kernel
theorem dX9_farBy_85 : decode cX9_farBy 85 = .ok (.iload 7, 2) := by decide +kernel
theorem dX9_farBy_87 : decode cX9_farBy 87 = .ok (.goto 4, 3) := by decide +kernel
theorem dX9_farBy_90 : decode cX9_farBy 90 = .ok (.iconst 0, 1) := by decide +kernel
theorem dX9_farBy_91 : decode cX9_farBy 91 = .ok (.ireturn, 1) := by decide +kernel
theorem dX9_straightBy_0 : decode cX9_straightBy 0 = .ok (.aload_n 0, 1) := by decide +kernel
theorem dX9_straightBy_1 : decode cX9_straightBy 1 = .ok (.getfield 22, 3) := by decide +kernel
theorem dX9_straightBy_4 : decode cX9_straightBy 4 = .ok (.iload_n 1, 1) := by decide +kernel
theorem dX9_straightBy_5 : decode cX9_straightBy 5 = .ok (.iaload, 1) := by decide +kernel
theorem dX9_straightBy_6 : decode cX9_straightBy 6 = .ok (.istore_n 2, 1) := by decide +kernel
theorem dX9_straightBy_7 : decode cX9_straightBy 7 = .ok (.aload_n 0, 1) := by decide +kernel
theorem dX9_straightBy_8 : decode cX9_straightBy 8 = .ok (.getfield 19, 3) := by decide +kernel
theorem dX9_straightBy_11 : decode cX9_straightBy 11 = .ok (.iload_n 1, 1) := by decide +kernel
theorem dX9_straightBy_12 : decode cX9_straightBy 12 = .ok (.iaload, 1) := by decide +kernel
theorem dX9_straightBy_13 : decode cX9_straightBy 13 = .ok (.istore_n 3, 1) := by decide +kernel
theorem dX9_straightBy_14 : decode cX9_straightBy 14 = .ok (.aload_n 0, 1) := by decide +kernel
theorem dX9_straightBy_15 : decode cX9_straightBy 15 = .ok (.getfield 25, 3) := by decide +kernel
theorem dX9_straightBy_18 : decode cX9_straightBy 18 = .ok (.iload_n 1, 1) := by decide +kernel
theorem dX9_straightBy_19 : decode cX9_straightBy 19 = .ok (.iaload, 1) := by decide +kernel
theorem dX9_straightBy_20 : decode cX9_straightBy 20 = .ok (.istore 4, 2) := by decide +kernel
theorem dX9_straightBy_22 : decode cX9_straightBy 22 = .ok (.iload_n 2, 1) := by decide +kernel
theorem dX9_straightBy_23 : decode cX9_straightBy 23 = .ok (.bipush 7, 2) := by decide +kernel
theorem dX9_straightBy_25 : decode cX9_straightBy 25 = .ok (.if_icmp .le 62, 3) := by decide +kernel
theorem dX9_straightBy_28 : decode cX9_straightBy 28 = .ok (.aload_n 0, 1) := by decide +kernel
theorem dX9_straightBy_29 : decode cX9_straightBy 29 = .ok (.getfield 56, 3) := by decide +kernel
theorem dX9_straightBy_32 : decode cX9_straightBy 32 = .ok (.iload_n 3, 1) := by decide +kernel
theorem dX9_straightBy_33 : decode cX9_straightBy 33 = .ok (.iaload, 1) := by decide +kernel
theorem dX9_straightBy_34 : decode cX9_straightBy 34 = .ok (.aload_n 0, 1) := by decide +kernel
theorem dX9_straightBy_35 : decode cX9_straightBy 35 = .ok (.getfield 56, 3) := by decide +kernel
theorem dX9_straightBy_38 : decode cX9_straightBy 38 = .ok (.iload 4, 2) := by decide +kernel
theorem dX9_straightBy_40 : decode cX9_straightBy 40 = .ok (.iaload, 1) := by decide +kernel
theorem dX9_straightBy_41 : decode cX9_straightBy 41 = .ok (.if_icmp .ne 44, 3) := by decide +kernel
theorem dX9_straightBy_44 : decode cX9_straightBy 44 = .ok (.aload_n 0, 1) := by decide +kernel
theorem dX9_straightBy_45 : decode cX9_straightBy 45 = .ok (.getfield 59, 3) := by decide +kernel
theorem dX9_straightBy_48 : decode cX9_straightBy 48 = .ok (.iload_n 3, 1) := by decide +kernel
theorem dX9_straightBy_49 : decode cX9_straightBy 49 = .ok (.iaload, 1) := by decide +kernel
theorem dX9_straightBy_50 : decode cX9_straightBy 50 = .ok (.aload_n 0, 1) := by decide +kernel
theorem dX9_straightBy_51 : decode cX9_straightBy 51 = .ok (.getfield 59, 3) := by decide +kernel
theorem dX9_straightBy_54 : decode cX9_straightBy 54 = .ok (.iload 4, 2) := by decide +kernel
theorem dX9_straightBy_56 : decode cX9_straightBy 56 = .ok (.iaload, 1) := by decide +kernel
theorem dX9_straightBy_57 : decode cX9_straightBy 57 = .ok (.if_icmp .ne 28, 3) := by decide +kernel
theorem dX9_straightBy_60 : decode cX9_straightBy 60 = .ok (.aload_n 0, 1) := by decide +kernel
theorem dX9_straightBy_61 : decode cX9_straightBy 61 = .ok (.getfield 62, 3) := by decide +kernel
theorem dX9_straightBy_64 : decode cX9_straightBy 64 = .ok (.iload 4, 2) := by decide +kernel
theorem dX9_straightBy_66 : decode cX9_straightBy 66 = .ok (.iaload, 1) := by decide +kernel
theorem dX9_straightBy_67 : decode cX9_straightBy 67 = .ok (.aload_n 0, 1) := by decide +kernel
theorem dX9_straightBy_68 : decode cX9_straightBy 68 = .ok (.getfield 62, 3) := by decide +kernel
theorem dX9_straightBy_71 : decode cX9_straightBy 71 = .ok (.iload_n 3, 1) := by decide +kernel
theorem dX9_straightBy_72 : decode cX9_straightBy 72 = .ok (.iaload, 1) := by decide +kernel
theorem dX9_straightBy_73 : decode cX9_straightBy 73 = .ok (.iload_n 2, 1) := by decide +kernel
theorem dX9_straightBy_74 : decode cX9_straightBy 74 = .ok (.invokestatic 138, 3) := by decide +kernel
theorem dX9_straightBy_77 : decode cX9_straightBy 77 = .ok (.iadd, 1) := by decide +kernel
theorem dX9_straightBy_78 : decode cX9_straightBy 78 = .ok (.if_icmp .ne 7, 3) := by decide +kernel
theorem dX9_straightBy_81 : decode cX9_straightBy 81 = .ok (.iconst 1, 1) := by decide +kernel
theorem dX9_straightBy_82 : decode cX9_straightBy 82 = .ok (.goto 4, 3) := by decide +kernel
theorem dX9_straightBy_85 : decode cX9_straightBy 85 = .ok (.iconst 0, 1) := by decide +kernel
theorem dX9_straightBy_86 : decode cX9_straightBy 86 = .ok (.ireturn, 1) := by decide +kernel
theorem dX9_straightBy_87 : decode cX9_straightBy 87 = .ok (.aload_n 0, 1) := by decide +kernel
theorem dX9_straightBy_88 : decode cX9_straightBy 88 = .ok (.getfield 62, 3) := by decide +kernel
theorem dX9_straightBy_91 : decode cX9_straightBy 91 = .ok (.iload_n 3, 1) := by decide +kernel
theorem dX9_straightBy_92 : decode cX9_straightBy 92 = .ok (.iaload, 1) := by decide +kernel
theorem dX9_straightBy_93 : decode cX9_straightBy 93 = .ok (.aload_n 0, 1) := by decide +kernel
theorem dX9_straightBy_94 : decode cX9_straightBy 94 = .ok (.getfield 62, 3) := by decide +kernel
theorem dX9_straightBy_97 : decode cX9_straightBy 97 = .ok (.iload 4, 2) := by decide +kernel
theorem dX9_straightBy_99 : decode cX9_straightBy 99 = .ok (.iaload, 1) := by decide +kernel
theorem dX9_straightBy_100 : decode cX9_straightBy 100 = .ok (.if_icmp .ne 26, 3) := by decide +kernel
theorem dX9_straightBy_103 : decode cX9_straightBy 103 = .ok (.aload_n 0, 1) := by decide +kernel
theorem dX9_straightBy_104 : decode cX9_straightBy 104 = .ok (.iload_n 3, 1) := by decide +kernel
theorem dX9_straightBy_105 : decode cX9_straightBy 105 = .ok (.iload_n 2, 1) := by decide +kernel
theorem dX9_straightBy_106 : decode cX9_straightBy 106 = .ok (.aload_n 0, 1) := by decide +kernel
theorem dX9_straightBy_107 : decode cX9_straightBy 107 = .ok (.getfield 56, 3) := by decide +kernel
theorem dX9_straightBy_110 : decode cX9_straightBy 110 = .ok (.iload 4, 2) := by decide +kernel
theorem dX9_straightBy_112 : decode cX9_straightBy 112 = .ok (.iaload, 1) := by decide +kernel
theorem dX9_straightBy_113 : decode cX9_straightBy 113 = .ok (.aload_n 0, 1) := by decide +kernel
theorem dX9_straightBy_114 : decode cX9_straightBy 114 = .ok (.getfield 59, 3) := by decide +kernel
theorem dX9_straightBy_117 : decode cX9_straightBy 117 = .ok (.iload 4, 2) := by decide +kernel
theorem dX9_straightBy_119 : decode cX9_straightBy 119 = .ok (.iaload, 1) := by decide +kernel
theorem dX9_straightBy_120 : decode cX9_straightBy 120 = .ok (.invokevirtual 141, 3) := by decide +kernel
theorem dX9_straightBy_123 : decode cX9_straightBy 123 = .ok (.goto 4, 3) := by decide +kernel
theorem dX9_straightBy_126 : decode cX9_straightBy 126 = .ok (.iconst 0, 1) := by decide +kernel
theorem dX9_straightBy_127 : decode cX9_straightBy 127 = .ok (.istore 5, 2) := by decide +kernel
theorem dX9_straightBy_129 : decode cX9_straightBy 129 = .ok (.iload 5, 2) := by decide +kernel
theorem dX9_straightBy_131 : decode cX9_straightBy 131 = .ok (.bipush 60, 2) := by decide +kernel
theorem dX9_straightBy_133 : decode cX9_straightBy 133 = .ok (.if_icmp .le 5, 3) := by decide +kernel
theorem dX9_straightBy_136 : decode cX9_straightBy 136 = .ok (.iconst 0, 1) := by decide +kernel
theorem dX9_straightBy_137 : decode cX9_straightBy 137 = .ok (.ireturn, 1) := by decide +kernel
theorem dX9_straightBy_138 : decode cX9_straightBy 138 = .ok (.iconst 0, 1) := by decide +kernel
theorem dX9_straightBy_139 : decode cX9_straightBy 139 = .ok (.istore 6, 2) := by decide +kernel
theorem dX9_straightBy_141 : decode cX9_straightBy 141 = .ok (.iload 6, 2) := by decide +kernel
theorem dX9_straightBy_143 : decode cX9_straightBy 143 = .ok (.aload_n 0, 1) := by decide +kernel
theorem dX9_straightBy_144 : decode cX9_straightBy 144 = .ok (.getfield 86, 3) := by decide +kernel
theorem dX9_straightBy_147 : decode cX9_straightBy 147 = .ok (.if_icmp .ge 87, 3) := by decide +kernel
theorem dX9_straightBy_150 : decode cX9_straightBy 150 = .ok (.iload 5, 2) := by decide +kernel
theorem dX9_straightBy_152 : decode cX9_straightBy 152 = .ok (.iconst 1, 1) := by decide +kernel
theorem dX9_straightBy_153 : decode cX9_straightBy 153 = .ok (.if_icmp .le 81, 3) := by decide +kernel
theorem dX9_straightBy_156 : decode cX9_straightBy 156 = .ok (.aload_n 0, 1) := by decide +kernel
theorem dX9_straightBy_157 : decode cX9_straightBy 157 = .ok (.getfield 53, 3) := by decide +kernel
theorem dX9_straightBy_160 : decode cX9_straightBy 160 = .ok (.iload 6, 2) := by decide +kernel
theorem dX9_straightBy_162 : decode cX9_straightBy 162 = .ok (.baload, 1) := by decide +kernel
theorem dX9_straightBy_163 : decode cX9_straightBy 163 = .ok (.ifCond .eq 42, 3) := by decide +kernel
theorem dX9_straightBy_166 : decode cX9_straightBy 166 = .ok (.aload_n 0, 1) := by decide +kernel
theorem dX9_straightBy_167 : decode cX9_straightBy 167 = .ok (.getfield 62, 3) := by decide +kernel
theorem dX9_straightBy_170 : decode cX9_straightBy 170 = .ok (.iload 6, 2) := by decide +kernel
theorem dX9_straightBy_172 : decode cX9_straightBy 172 = .ok (.iaload, 1) := by decide +kernel
theorem dX9_straightBy_173 : decode cX9_straightBy 173 = .ok (.aload_n 0, 1) := by decide +kernel
theorem dX9_straightBy_174 : decode cX9_straightBy 174 = .ok (.getfield 62, 3) := by decide +kernel
theorem dX9_straightBy_177 : decode cX9_straightBy 177 = .ok (.iload_n 3, 1) := by decide +kernel
theorem dX9_straightBy_178 : decode cX9_straightBy 178 = .ok (.iaload, 1) := by decide +kernel
theorem dX9_straightBy_179 : decode cX9_straightBy 179 = .ok (.if_icmp .ne 26, 3) := by decide +kernel
theorem dX9_straightBy_182 : decode cX9_straightBy 182 = .ok (.aload_n 0, 1) := by decide +kernel
theorem dX9_straightBy_183 : decode cX9_straightBy 183 = .ok (.iload_n 3, 1) := by decide +kernel
theorem dX9_straightBy_184 : decode cX9_straightBy 184 = .ok (.iload_n 2, 1) := by decide +kernel
theorem dX9_straightBy_185 : decode cX9_straightBy 185 = .ok (.aload_n 0, 1) := by decide +kernel
theorem dX9_straightBy_186 : decode cX9_straightBy 186 = .ok (.getfield 56, 3) := by decide +kernel
theorem dX9_straightBy_189 : decode cX9_straightBy 189 = .ok (.iload 6, 2) := by decide +kernel
theorem dX9_straightBy_191 : decode cX9_straightBy 191 = .ok (.iaload, 1) := by decide +kernel
theorem dX9_straightBy_192 : decode cX9_straightBy 192 = .ok (.aload_n 0, 1) := by decide +kernel
theorem dX9_straightBy_193 : decode cX9_straightBy 193 = .ok (.getfield 59, 3) := by decide +kernel
theorem dX9_straightBy_196 : decode cX9_straightBy 196 = .ok (.iload 6, 2) := by decide +kernel
theorem dX9_straightBy_198 : decode cX9_straightBy 198 = .ok (.iaload, 1) := by decide +kernel
theorem dX9_straightBy_199 : decode cX9_straightBy 199 = .ok (.invokevirtual 141, 3) := by decide +kernel
theorem dX9_straightBy_202 : decode cX9_straightBy 202 = .ok (.goto 4, 3) := by decide +kernel
theorem dX9_straightBy_205 : decode cX9_straightBy 205 = .ok (.iconst 0, 1) := by decide +kernel
theorem dX9_straightBy_206 : decode cX9_straightBy 206 = .ok (.istore 7, 2) := by decide +kernel
theorem dX9_straightBy_208 : decode cX9_straightBy 208 = .ok (.iload 7, 2) := by decide +kernel
theorem dX9_straightBy_210 : decode cX9_straightBy 210 = .ok (.ifCond .le 14, 3) := by decide +kernel
theorem dX9_straightBy_213 : decode cX9_straightBy 213 = .ok (.iload 7, 2) := by decide +kernel
theorem dX9_straightBy_215 : decode cX9_straightBy 215 = .ok (.iload 5, 2) := by decide +kernel
theorem dX9_straightBy_217 : decode cX9_straightBy 217 = .ok (.if_icmp .ge 7, 3) := by decide +kernel
theorem dX9_straightBy_220 : decode cX9_straightBy 220 = .ok (.iconst 0, 1) := by decide +kernel
theorem dX9_straightBy_221 : decode cX9_straightBy 221 = .ok (.goto 5, 3) := by decide +kernel
theorem dX9_straightBy_224 : decode cX9_straightBy 224 = .ok (.iload 5, 2) := by decide +kernel
theorem dX9_straightBy_226 : decode cX9_straightBy 226 = .ok (.istore 5, 2) := by decide +kernel
theorem dX9_straightBy_228 : decode cX9_straightBy 228 = .ok (.iinc 6 1, 3) := by decide +kernel
theorem dX9_straightBy_231 : decode cX9_straightBy 231 = .ok (.goto (-90), 3) := by decide +kernel
theorem dX9_straightBy_234 : decode cX9_straightBy 234 = .ok (.iload 5, 2) := by decide +kernel
theorem dX9_straightBy_236 : decode cX9_straightBy 236 = .ok (.ireturn, 1) := by decide +kernel
theorem dX9_isLoop_0 : decode cX9_isLoop 0 = .ok (.aload_n 0, 1) := by decide +kernel
theorem dX9_isLoop_1 : decode cX9_isLoop 1 = .ok (.getfield 19, 3) := by decide +kernel
theorem dX9_isLoop_4 : decode cX9_isLoop 4 = .ok (.iload_n 1, 1) := by decide +kernel
theorem dX9_isLoop_5 : decode cX9_isLoop 5 = .ok (.iaload, 1) := by decide +kernel
theorem dX9_isLoop_6 : decode cX9_isLoop 6 = .ok (.aload_n 0, 1) := by decide +kernel
theorem dX9_isLoop_7 : decode cX9_isLoop 7 = .ok (.getfield 25, 3) := by decide +kernel
theorem dX9_isLoop_10 : decode cX9_isLoop 10 = .ok (.iload_n 1, 1) := by decide +kernel
theorem dX9_isLoop_11 : decode cX9_isLoop 11 = .ok (.iaload, 1) := by decide +kernel
theorem dX9_isLoop_12 : decode cX9_isLoop 12 = .ok (.if_icmp .ne 7, 3) := by decide +kernel
theorem dX9_isLoop_15 : decode cX9_isLoop 15 = .ok (.iconst 1, 1) := by decide +kernel
theorem dX9_isLoop_16 : decode cX9_isLoop 16 = .ok (.goto 4, 3) := by decide +kernel
theorem dX9_isLoop_19 : decode cX9_isLoop 19 = .ok (.iconst 0, 1) := by decide +kernel
theorem dX9_isLoop_20 : decode cX9_isLoop 20 = .ok (.ireturn, 1) := by decide +kernel
theorem dX9_costNow_0 : decode cX9_costNow 0 = .ok (.iconst 0, 1) := by decide +kernel
theorem dX9_costNow_1 : decode cX9_costNow 1 = .ok (.istore_n 1, 1) := by decide +kernel
theorem dX9_costNow_2 : decode cX9_costNow 2 = .ok (.iconst 0, 1) := by decide +kernel
theorem dX9_costNow_3 : decode cX9_costNow 3 = .ok (.istore_n 2, 1) := by decide +kernel
theorem dX9_costNow_4 : decode cX9_costNow 4 = .ok (.iload_n 2, 1) := by decide +kernel
theorem dX9_costNow_5 : decode cX9_costNow 5 = .ok (.aload_n 0, 1) := by decide +kernel
theorem dX9_costNow_6 : decode cX9_costNow 6 = .ok (.getfield 94, 3) := by decide +kernel
theorem dX9_costNow_9 : decode cX9_costNow 9 = .ok (.if_icmp .ge 66, 3) := by decide +kernel
theorem dX9_costNow_12 : decode cX9_costNow 12 = .ok (.aload_n 0, 1) := by decide +kernel
theorem dX9_costNow_13 : decode cX9_costNow 13 = .ok (.iload_n 2, 1) := by decide +kernel
theorem dX9_costNow_14 : decode cX9_costNow 14 = .ok (.invokevirtual 145, 3) := by decide +kernel
theorem dX9_costNow_17 : decode cX9_costNow 17 = .ok (.ifCond .ne 52, 3) := by decide +kernel
theorem dX9_costNow_20 : decode cX9_costNow 20 = .ok (.aload_n 0, 1) := by decide +kernel
theorem dX9_costNow_21 : decode cX9_costNow 21 = .ok (.getfield 53, 3) := by decide +kernel
theorem dX9_costNow_24 : decode cX9_costNow 24 = .ok (.aload_n 0, 1) := by decide +kernel
theorem dX9_costNow_25 : decode cX9_costNow 25 = .ok (.getfield 19, 3) := by decide +kernel
theorem dX9_costNow_28 : decode cX9_costNow 28 = .ok (.iload_n 2, 1) := by decide +kernel
theorem dX9_costNow_29 : decode cX9_costNow 29 = .ok (.iaload, 1) := by decide +kernel
theorem dX9_costNow_30 : decode cX9_costNow 30 = .ok (.baload, 1) := by decide +kernel
theorem dX9_costNow_31 : decode cX9_costNow 31 = .ok (.ifCond .eq 38, 3) := by decide +kernel
theorem dX9_costNow_34 : decode cX9_costNow 34 = .ok (.aload_n 0, 1) := by decide +kernel
theorem dX9_costNow_35 : decode cX9_costNow 35 = .ok (.getfield 53, 3) := by decide +kernel
theorem dX9_costNow_38 : decode cX9_costNow 38 = .ok (.aload_n 0, 1) := by decide +kernel
theorem dX9_costNow_39 : decode cX9_costNow 39 = .ok (.getfield 25, 3) := by decide +kernel
theorem dX9_costNow_42 : decode cX9_costNow 42 = .ok (.iload_n 2, 1) := by decide +kernel
theorem dX9_costNow_43 : decode cX9_costNow 43 = .ok (.iaload, 1) := by decide +kernel
theorem dX9_costNow_44 : decode cX9_costNow 44 = .ok (.baload, 1) := by decide +kernel
theorem dX9_costNow_45 : decode cX9_costNow 45 = .ok (.ifCond .eq 24, 3) := by decide +kernel
theorem dX9_costNow_48 : decode cX9_costNow 48 = .ok (.aload_n 0, 1) := by decide +kernel
theorem dX9_costNow_49 : decode cX9_costNow 49 = .ok (.iload_n 2, 1) := by decide +kernel
theorem dX9_costNow_50 : decode cX9_costNow 50 = .ok (.invokevirtual 148, 3) := by decide +kernel
theorem dX9_costNow_53 : decode cX9_costNow 53 = .ok (.istore_n 3, 1) := by decide +kernel
theorem dX9_costNow_54 : decode cX9_costNow 54 = .ok (.iload_n 1, 1) := by decide +kernel
theorem dX9_costNow_55 : decode cX9_costNow 55 = .ok (.iload_n 3, 1) := by decide +kernel
theorem dX9_costNow_56 : decode cX9_costNow 56 = .ok (.ifCond .ne 8, 3) := by decide +kernel
theorem dX9_costNow_59 : decode cX9_costNow 59 = .ok (.bipush 10, 2) := by decide +kernel
theorem dX9_costNow_61 : decode cX9_costNow 61 = .ok (.goto 6, 3) := by decide +kernel
theorem dX9_costNow_64 : decode cX9_costNow 64 = .ok (.iload_n 3, 1) := by decide +kernel
theorem dX9_costNow_65 : decode cX9_costNow 65 = .ok (.iconst 1, 1) := by decide +kernel
theorem dX9_costNow_66 : decode cX9_costNow 66 = .ok (.isub, 1) := by decide +kernel
theorem dX9_costNow_67 : decode cX9_costNow 67 = .ok (.iadd, 1) := by decide +kernel
theorem dX9_costNow_68 : decode cX9_costNow 68 = .ok (.istore_n 1, 1) := by decide +kernel
theorem dX9_costNow_69 : decode cX9_costNow 69 = .ok (.iinc 2 1, 3) := by decide +kernel
theorem dX9_costNow_72 : decode cX9_costNow 72 = .ok (.goto (-68), 3) := by decide +kernel
theorem dX9_costNow_75 : decode cX9_costNow 75 = .ok (.iload_n 1, 1) := by decide +kernel
theorem dX9_costNow_76 : decode cX9_costNow 76 = .ok (.ireturn, 1) := by decide +kernel
theorem dX9_bentNow_0 : decode cX9_bentNow 0 = .ok (.iconst 0, 1) := by decide +kernel
theorem dX9_bentNow_1 : decode cX9_bentNow 1 = .ok (.istore_n 1, 1) := by decide +kernel
theorem dX9_bentNow_2 : decode cX9_bentNow 2 = .ok (.iconst 0, 1) := by decide +kernel
theorem dX9_bentNow_3 : decode cX9_bentNow 3 = .ok (.istore_n 2, 1) := by decide +kernel
theorem dX9_bentNow_4 : decode cX9_bentNow 4 = .ok (.iload_n 2, 1) := by decide +kernel
theorem dX9_bentNow_5 : decode cX9_bentNow 5 = .ok (.aload_n 0, 1) := by decide +kernel
theorem dX9_bentNow_6 : decode cX9_bentNow 6 = .ok (.getfield 94, 3) := by decide +kernel
theorem dX9_bentNow_9 : decode cX9_bentNow 9 = .ok (.if_icmp .ge 61, 3) := by decide +kernel
theorem dX9_bentNow_12 : decode cX9_bentNow 12 = .ok (.iload_n 1, 1) := by decide +kernel
theorem dX9_bentNow_13 : decode cX9_bentNow 13 = .ok (.aload_n 0, 1) := by decide +kernel
theorem dX9_bentNow_14 : decode cX9_bentNow 14 = .ok (.iload_n 2, 1) := by decide +kernel
theorem dX9_bentNow_15 : decode cX9_bentNow 15 = .ok (.invokevirtual 145, 3) := by decide +kernel
theorem dX9_bentNow_18 : decode cX9_bentNow 18 = .ok (.ifCond .ne 43, 3) := by decide +kernel
theorem dX9_bentNow_21 : decode cX9_bentNow 21 = .ok (.aload_n 0, 1) := by decide +kernel
theorem dX9_bentNow_22 : decode cX9_bentNow 22 = .ok (.getfield 53, 3) := by decide +kernel
theorem dX9_bentNow_25 : decode cX9_bentNow 25 = .ok (.aload_n 0, 1) := by decide +kernel
theorem dX9_bentNow_26 : decode cX9_bentNow 26 = .ok (.getfield 19, 3) := by decide +kernel
theorem dX9_bentNow_29 : decode cX9_bentNow 29 = .ok (.iload_n 2, 1) := by decide +kernel
theorem dX9_bentNow_30 : decode cX9_bentNow 30 = .ok (.iaload, 1) := by decide +kernel
theorem dX9_bentNow_31 : decode cX9_bentNow 31 = .ok (.baload, 1) := by decide +kernel
theorem dX9_bentNow_32 : decode cX9_bentNow 32 = .ok (.ifCond .eq 29, 3) := by decide +kernel
theorem dX9_bentNow_35 : decode cX9_bentNow 35 = .ok (.aload_n 0, 1) := by decide +kernel
theorem dX9_bentNow_36 : decode cX9_bentNow 36 = .ok (.getfield 53, 3) := by decide +kernel
theorem dX9_bentNow_39 : decode cX9_bentNow 39 = .ok (.aload_n 0, 1) := by decide +kernel
theorem dX9_bentNow_40 : decode cX9_bentNow 40 = .ok (.getfield 25, 3) := by decide +kernel
theorem dX9_bentNow_43 : decode cX9_bentNow 43 = .ok (.iload_n 2, 1) := by decide +kernel
theorem dX9_bentNow_44 : decode cX9_bentNow 44 = .ok (.iaload, 1) := by decide +kernel
theorem dX9_bentNow_45 : decode cX9_bentNow 45 = .ok (.baload, 1) := by decide +kernel
theorem dX9_bentNow_46 : decode cX9_bentNow 46 = .ok (.ifCond .eq 15, 3) := by decide +kernel
theorem dX9_bentNow_49 : decode cX9_bentNow 49 = .ok (.aload_n 0, 1) := by decide +kernel
theorem dX9_bentNow_50 : decode cX9_bentNow 50 = .ok (.iload_n 2, 1) := by decide +kernel
theorem dX9_bentNow_51 : decode cX9_bentNow 51 = .ok (.invokevirtual 148, 3) := by decide +kernel
theorem dX9_bentNow_54 : decode cX9_bentNow 54 = .ok (.ifCond .ne 7, 3) := by decide +kernel
theorem dX9_bentNow_57 : decode cX9_bentNow 57 = .ok (.iconst 1, 1) := by decide +kernel
theorem dX9_bentNow_58 : decode cX9_bentNow 58 = .ok (.goto 4, 3) := by decide +kernel
theorem dX9_bentNow_61 : decode cX9_bentNow 61 = .ok (.iconst 0, 1) := by decide +kernel
theorem dX9_bentNow_62 : decode cX9_bentNow 62 = .ok (.iadd, 1) := by decide +kernel
theorem dX9_bentNow_63 : decode cX9_bentNow 63 = .ok (.istore_n 1, 1) := by decide +kernel
theorem dX9_bentNow_64 : decode cX9_bentNow 64 = .ok (.iinc 2 1, 3) := by decide +kernel
theorem dX9_bentNow_67 : decode cX9_bentNow 67 = .ok (.goto (-63), 3) := by decide +kernel
theorem dX9_bentNow_70 : decode cX9_bentNow 70 = .ok (.iload_n 1, 1) := by decide +kernel
theorem dX9_bentNow_71 : decode cX9_bentNow 71 = .ok (.ireturn, 1) := by decide +kernel
theorem dX9_chance_0 : decode cX9_chance 0 = .ok (.iconst 0, 1) := by decide +kernel
theorem dX9_chance_1 : decode cX9_chance 1 = .ok (.istore_n 3, 1) := by decide +kernel
theorem dX9_chance_2 : decode cX9_chance 2 = .ok (.iconst 0, 1) := by decide +kernel
theorem dX9_chance_3 : decode cX9_chance 3 = .ok (.istore 4, 2) := by decide +kernel
theorem dX9_chance_5 : decode cX9_chance 5 = .ok (.iload 4, 2) := by decide +kernel
theorem dX9_chance_7 : decode cX9_chance 7 = .ok (.aload_n 0, 1) := by decide +kernel
theorem dX9_chance_8 : decode cX9_chance 8 = .ok (.getfield 94, 3) := by decide +kernel
theorem dX9_chance_11 : decode cX9_chance 11 = .ok (.if_icmp .ge 240, 3) := by decide +kernel
theorem dX9_chance_14 : decode cX9_chance 14 = .ok (.aload_n 0, 1) := by decide +kernel
theorem dX9_chance_15 : decode cX9_chance 15 = .ok (.getfield 19, 3) := by decide +kernel
theorem dX9_chance_18 : decode cX9_chance 18 = .ok (.iload 4, 2) := by decide +kernel
theorem dX9_chance_20 : decode cX9_chance 20 = .ok (.iaload, 1) := by decide +kernel
theorem dX9_chance_21 : decode cX9_chance 21 = .ok (.iload_n 1, 1) := by decide +kernel
theorem dX9_chance_22 : decode cX9_chance 22 = .ok (.if_icmp .ne 13, 3) := by decide +kernel
theorem dX9_chance_25 : decode cX9_chance 25 = .ok (.aload_n 0, 1) := by decide +kernel
theorem dX9_chance_26 : decode cX9_chance 26 = .ok (.getfield 25, 3) := by decide +kernel
theorem dX9_chance_29 : decode cX9_chance 29 = .ok (.iload 4, 2) := by decide +kernel
theorem dX9_chance_31 : decode cX9_chance 31 = .ok (.iaload, 1) := by decide +kernel
theorem dX9_chance_32 : decode cX9_chance 32 = .ok (.goto 10, 3) := by decide +kernel
theorem dX9_chance_35 : decode cX9_chance 35 = .ok (.aload_n 0, 1) := by decide +kernel
theorem dX9_chance_36 : decode cX9_chance 36 = .ok (.getfield 19, 3) := by decide +kernel
theorem dX9_chance_39 : decode cX9_chance 39 = .ok (.iload 4, 2) := by decide +kernel
theorem dX9_chance_41 : decode cX9_chance 41 = .ok (.iaload, 1) := by decide +kernel
theorem dX9_chance_42 : decode cX9_chance 42 = .ok (.istore 5, 2) := by decide +kernel
theorem dX9_chance_44 : decode cX9_chance 44 = .ok (.aload_n 0, 1) := by decide +kernel
theorem dX9_chance_45 : decode cX9_chance 45 = .ok (.iload 4, 2) := by decide +kernel
theorem dX9_chance_47 : decode cX9_chance 47 = .ok (.invokevirtual 145, 3) := by decide +kernel
theorem dX9_chance_50 : decode cX9_chance 50 = .ok (.ifCond .ne 195, 3) := by decide +kernel
theorem dX9_chance_53 : decode cX9_chance 53 = .ok (.aload_n 0, 1) := by decide +kernel
theorem dX9_chance_54 : decode cX9_chance 54 = .ok (.getfield 19, 3) := by decide +kernel
theorem dX9_chance_57 : decode cX9_chance 57 = .ok (.iload 4, 2) := by decide +kernel
theorem dX9_chance_59 : decode cX9_chance 59 = .ok (.iaload, 1) := by decide +kernel
theorem dX9_chance_60 : decode cX9_chance 60 = .ok (.iload_n 1, 1) := by decide +kernel
theorem dX9_chance_61 : decode cX9_chance 61 = .ok (.if_icmp .eq 14, 3) := by decide +kernel
theorem dX9_chance_64 : decode cX9_chance 64 = .ok (.aload_n 0, 1) := by decide +kernel
theorem dX9_chance_65 : decode cX9_chance 65 = .ok (.getfield 25, 3) := by decide +kernel
theorem dX9_chance_68 : decode cX9_chance 68 = .ok (.iload 4, 2) := by decide +kernel
theorem dX9_chance_70 : decode cX9_chance 70 = .ok (.iaload, 1) := by decide +kernel
theorem dX9_chance_71 : decode cX9_chance 71 = .ok (.iload_n 1, 1) := by decide +kernel
theorem dX9_chance_72 : decode cX9_chance 72 = .ok (.if_icmp .ne 173, 3) := by decide +kernel
theorem dX9_chance_75 : decode cX9_chance 75 = .ok (.aload_n 0, 1) := by decide +kernel
theorem dX9_chance_76 : decode cX9_chance 76 = .ok (.getfield 53, 3) := by decide +kernel
theorem dX9_chance_79 : decode cX9_chance 79 = .ok (.iload 5, 2) := by decide +kernel
theorem dX9_chance_81 : decode cX9_chance 81 = .ok (.baload, 1) := by decide +kernel
theorem dX9_chance_82 : decode cX9_chance 82 = .ok (.ifCond .ne 6, 3) := by decide +kernel
theorem dX9_chance_85 : decode cX9_chance 85 = .ok (.goto 160, 3) := by decide +kernel
theorem dX9_chance_88 : decode cX9_chance 88 = .ok (.aload_n 0, 1) := by decide +kernel
theorem dX9_chance_89 : decode cX9_chance 89 = .ok (.getfield 22, 3) := by decide +kernel
theorem dX9_chance_92 : decode cX9_chance 92 = .ok (.iload 4, 2) := by decide +kernel
theorem dX9_chance_94 : decode cX9_chance 94 = .ok (.iaload, 1) := by decide +kernel
theorem dX9_chance_95 : decode cX9_chance 95 = .ok (.istore 6, 2) := by decide +kernel
theorem dX9_chance_97 : decode cX9_chance 97 = .ok (.aload_n 0, 1) := by decide +kernel
theorem dX9_chance_98 : decode cX9_chance 98 = .ok (.getfield 19, 3) := by decide +kernel
theorem dX9_chance_101 : decode cX9_chance 101 = .ok (.iload 4, 2) := by decide +kernel
theorem dX9_chance_103 : decode cX9_chance 103 = .ok (.iaload, 1) := by decide +kernel
theorem dX9_chance_104 : decode cX9_chance 104 = .ok (.iload_n 1, 1) := by decide +kernel
theorem dX9_chance_105 : decode cX9_chance 105 = .ok (.if_icmp .ne 7, 3) := by decide +kernel
theorem dX9_chance_108 : decode cX9_chance 108 = .ok (.iconst (-1), 1) := by decide +kernel
theorem dX9_chance_109 : decode cX9_chance 109 = .ok (.goto 4, 3) := by decide +kernel
theorem dX9_chance_112 : decode cX9_chance 112 = .ok (.iconst 1, 1) := by decide +kernel
theorem dX9_chance_113 : decode cX9_chance 113 = .ok (.istore 7, 2) := by decide +kernel
theorem dX9_chance_115 : decode cX9_chance 115 = .ok (.iconst 1, 1) := by decide +kernel
theorem dX9_chance_116 : decode cX9_chance 116 = .ok (.istore 8, 2) := by decide +kernel
theorem dX9_chance_118 : decode cX9_chance 118 = .ok (.iload 8, 2) := by decide +kernel
theorem dX9_chance_120 : decode cX9_chance 120 = .ok (.iload 6, 2) := by decide +kernel
theorem dX9_chance_122 : decode cX9_chance 122 = .ok (.bipush 7, 2) := by decide +kernel
theorem dX9_chance_124 : decode cX9_chance 124 = .ok (.if_icmp .le 7, 3) := by decide +kernel
theorem dX9_chance_127 : decode cX9_chance 127 = .ok (.iconst 1, 1) := by decide +kernel
theorem dX9_chance_128 : decode cX9_chance 128 = .ok (.goto 4, 3) := by decide +kernel
theorem dX9_chance_131 : decode cX9_chance 131 = .ok (.iconst 3, 1) := by decide +kernel
theorem dX9_chance_132 : decode cX9_chance 132 = .ok (.if_icmp .gt 113, 3) := by decide +kernel
theorem dX9_chance_135 : decode cX9_chance 135 = .ok (.aload_n 0, 1) := by decide +kernel
theorem dX9_chance_136 : decode cX9_chance 136 = .ok (.getfield 56, 3) := by decide +kernel
theorem dX9_chance_139 : decode cX9_chance 139 = .ok (.iload 5, 2) := by decide +kernel
theorem dX9_chance_141 : decode cX9_chance 141 = .ok (.iaload, 1) := by decide +kernel
theorem dX9_chance_142 : decode cX9_chance 142 = .ok (.iload 7, 2) := by decide +kernel
theorem dX9_chance_144 : decode cX9_chance 144 = .ok (.iload 8, 2) := by decide +kernel
theorem dX9_chance_146 : decode cX9_chance 146 = .ok (.imul, 1) := by decide +kernel
theorem dX9_chance_147 : decode cX9_chance 147 = .ok (.iload 6, 2) := by decide +kernel
theorem dX9_chance_149 : decode cX9_chance 149 = .ok (.invokestatic 132, 3) := by decide +kernel
theorem dX9_chance_152 : decode cX9_chance 152 = .ok (.imul, 1) := by decide +kernel
theorem dX9_chance_153 : decode cX9_chance 153 = .ok (.iadd, 1) := by decide +kernel
theorem dX9_chance_154 : decode cX9_chance 154 = .ok (.istore 9, 2) := by decide +kernel
theorem dX9_chance_156 : decode cX9_chance 156 = .ok (.aload_n 0, 1) := by decide +kernel
theorem dX9_chance_157 : decode cX9_chance 157 = .ok (.getfield 59, 3) := by decide +kernel
theorem dX9_chance_160 : decode cX9_chance 160 = .ok (.iload 5, 2) := by decide +kernel
theorem dX9_chance_162 : decode cX9_chance 162 = .ok (.iaload, 1) := by decide +kernel
theorem dX9_chance_163 : decode cX9_chance 163 = .ok (.iload 7, 2) := by decide +kernel
theorem dX9_chance_165 : decode cX9_chance 165 = .ok (.iload 8, 2) := by decide +kernel
theorem dX9_chance_167 : decode cX9_chance 167 = .ok (.imul, 1) := by decide +kernel
theorem dX9_chance_168 : decode cX9_chance 168 = .ok (.iload 6, 2) := by decide +kernel
theorem dX9_chance_170 : decode cX9_chance 170 = .ok (.invokestatic 135, 3) := by decide +kernel
theorem dX9_chance_173 : decode cX9_chance 173 = .ok (.imul, 1) := by decide +kernel
theorem dX9_chance_174 : decode cX9_chance 174 = .ok (.iadd, 1) := by decide +kernel
theorem dX9_chance_175 : decode cX9_chance 175 = .ok (.istore 10, 2) := by decide +kernel
theorem dX9_chance_177 : decode cX9_chance 177 = .ok (.aload_n 0, 1) := by decide +kernel
theorem dX9_chance_178 : decode cX9_chance 178 = .ok (.getfield 62, 3) := by decide +kernel
theorem dX9_chance_181 : decode cX9_chance 181 = .ok (.iload 5, 2) := by decide +kernel
theorem dX9_chance_183 : decode cX9_chance 183 = .ok (.iaload, 1) := by decide +kernel
theorem dX9_chance_184 : decode cX9_chance 184 = .ok (.iload 7, 2) := by decide +kernel
theorem dX9_chance_186 : decode cX9_chance 186 = .ok (.iload 6, 2) := by decide +kernel
theorem dX9_chance_188 : decode cX9_chance 188 = .ok (.invokestatic 138, 3) := by decide +kernel
theorem dX9_chance_191 : decode cX9_chance 191 = .ok (.imul, 1) := by decide +kernel
theorem dX9_chance_192 : decode cX9_chance 192 = .ok (.iadd, 1) := by decide +kernel
theorem dX9_chance_193 : decode cX9_chance 193 = .ok (.istore 11, 2) := by decide +kernel
theorem dX9_chance_195 : decode cX9_chance 195 = .ok (.aload_n 0, 1) := by decide +kernel
theorem dX9_chance_196 : decode cX9_chance 196 = .ok (.iload 9, 2) := by decide +kernel
theorem dX9_chance_198 : decode cX9_chance 198 = .ok (.iload 10, 2) := by decide +kernel
theorem dX9_chance_200 : decode cX9_chance 200 = .ok (.iload 11, 2) := by decide +kernel
theorem dX9_chance_202 : decode cX9_chance 202 = .ok (.invokevirtual 151, 3) := by decide +kernel
theorem dX9_chance_205 : decode cX9_chance 205 = .ok (.ifCond .lt 6, 3) := by decide +kernel
theorem dX9_chance_208 : decode cX9_chance 208 = .ok (.goto 31, 3) := by decide +kernel
theorem dX9_chance_211 : decode cX9_chance 211 = .ok (.iload_n 3, 1) := by decide +kernel
theorem dX9_chance_212 : decode cX9_chance 212 = .ok (.iload_n 2, 1) := by decide +kernel
theorem dX9_chance_213 : decode cX9_chance 213 = .ok (.if_icmp .ne 23, 3) := by decide +kernel
theorem dX9_chance_216 : decode cX9_chance 216 = .ok (.aload_n 0, 1) := by decide +kernel
theorem dX9_chance_217 : decode cX9_chance 217 = .ok (.iload 9, 2) := by decide +kernel
theorem dX9_chance_219 : decode cX9_chance 219 = .ok (.putfield 154, 3) := by decide +kernel
theorem dX9_chance_222 : decode cX9_chance 222 = .ok (.aload_n 0, 1) := by decide +kernel
theorem dX9_chance_223 : decode cX9_chance 223 = .ok (.iload 10, 2) := by decide +kernel
theorem dX9_chance_225 : decode cX9_chance 225 = .ok (.putfield 157, 3) := by decide +kernel
theorem dX9_chance_228 : decode cX9_chance 228 = .ok (.aload_n 0, 1) := by decide +kernel
theorem dX9_chance_229 : decode cX9_chance 229 = .ok (.iload 11, 2) := by decide +kernel
theorem dX9_chance_231 : decode cX9_chance 231 = .ok (.putfield 160, 3) := by decide +kernel
theorem dX9_chance_234 : decode cX9_chance 234 = .ok (.iconst 1, 1) := by decide +kernel
theorem dX9_chance_235 : decode cX9_chance 235 = .ok (.ireturn, 1) := by decide +kernel
theorem dX9_chance_236 : decode cX9_chance 236 = .ok (.iinc 3 1, 3) := by decide +kernel
theorem dX9_chance_239 : decode cX9_chance 239 = .ok (.iinc 8 1, 3) := by decide +kernel
theorem dX9_chance_242 : decode cX9_chance 242 = .ok (.goto (-124), 3) := by decide +kernel
theorem dX9_chance_245 : decode cX9_chance 245 = .ok (.iinc 4 1, 3) := by decide +kernel
theorem dX9_chance_248 : decode cX9_chance 248 = .ok (.goto (-243), 3) := by decide +kernel
theorem dX9_chance_251 : decode cX9_chance 251 = .ok (.iconst 0, 1) := by decide +kernel
theorem dX9_chance_252 : decode cX9_chance 252 = .ok (.ireturn, 1) := by decide +kernel
theorem dX9_spare_0 : decode cX9_spare 0 = .ok (.bipush (-2), 2) := by decide +kernel
theorem dX9_spare_2 : decode cX9_spare 2 = .ok (.istore_n 2, 1) := by decide +kernel
theorem dX9_spare_3 : decode cX9_spare 3 = .ok (.aload_n 0, 1) := by decide +kernel
theorem dX9_spare_4 : decode cX9_spare 4 = .ok (.getfield 94, 3) := by decide +kernel
theorem dX9_spare_7 : decode cX9_spare 7 = .ok (.iconst 1, 1) := by decide +kernel
theorem dX9_spare_8 : decode cX9_spare 8 = .ok (.isub, 1) := by decide +kernel
theorem dX9_spare_9 : decode cX9_spare 9 = .ok (.istore_n 3, 1) := by decide +kernel
theorem dX9_spare_10 : decode cX9_spare 10 = .ok (.iload_n 3, 1) := by decide +kernel
theorem dX9_spare_11 : decode cX9_spare 11 = .ok (.ifCond .lt 93, 3) := by decide +kernel
theorem dX9_spare_14 : decode cX9_spare 14 = .ok (.aload_n 0, 1) := by decide +kernel
theorem dX9_spare_15 : decode cX9_spare 15 = .ok (.getfield 19, 3) := by decide +kernel
theorem dX9_spare_18 : decode cX9_spare 18 = .ok (.iload_n 3, 1) := by decide +kernel
theorem dX9_spare_19 : decode cX9_spare 19 = .ok (.iaload, 1) := by decide +kernel
theorem dX9_spare_20 : decode cX9_spare 20 = .ok (.iload_n 1, 1) := by decide +kernel
theorem dX9_spare_21 : decode cX9_spare 21 = .ok (.if_icmp .ne 12, 3) := by decide +kernel
theorem dX9_spare_24 : decode cX9_spare 24 = .ok (.aload_n 0, 1) := by decide +kernel
theorem dX9_spare_25 : decode cX9_spare 25 = .ok (.getfield 25, 3) := by decide +kernel
theorem dX9_spare_28 : decode cX9_spare 28 = .ok (.iload_n 3, 1) := by decide +kernel
theorem dX9_spare_29 : decode cX9_spare 29 = .ok (.iaload, 1) := by decide +kernel
theorem dX9_spare_30 : decode cX9_spare 30 = .ok (.goto 9, 3) := by decide +kernel
theorem dX9_spare_33 : decode cX9_spare 33 = .ok (.aload_n 0, 1) := by decide +kernel
theorem dX9_spare_34 : decode cX9_spare 34 = .ok (.getfield 19, 3) := by decide +kernel
theorem dX9_spare_37 : decode cX9_spare 37 = .ok (.iload_n 3, 1) := by decide +kernel
theorem dX9_spare_38 : decode cX9_spare 38 = .ok (.iaload, 1) := by decide +kernel
theorem dX9_spare_39 : decode cX9_spare 39 = .ok (.istore 4, 2) := by decide +kernel
theorem dX9_spare_41 : decode cX9_spare 41 = .ok (.aload_n 0, 1) := by decide +kernel
theorem dX9_spare_42 : decode cX9_spare 42 = .ok (.iload_n 3, 1) := by decide +kernel
theorem dX9_spare_43 : decode cX9_spare 43 = .ok (.invokevirtual 145, 3) := by decide +kernel
theorem dX9_spare_46 : decode cX9_spare 46 = .ok (.ifCond .ne 37, 3) := by decide +kernel
theorem dX9_spare_49 : decode cX9_spare 49 = .ok (.aload_n 0, 1) := by decide +kernel
theorem dX9_spare_50 : decode cX9_spare 50 = .ok (.getfield 19, 3) := by decide +kernel
theorem dX9_spare_53 : decode cX9_spare 53 = .ok (.iload_n 3, 1) := by decide +kernel
theorem dX9_spare_54 : decode cX9_spare 54 = .ok (.iaload, 1) := by decide +kernel
theorem dX9_spare_55 : decode cX9_spare 55 = .ok (.iload_n 1, 1) := by decide +kernel
theorem dX9_spare_56 : decode cX9_spare 56 = .ok (.if_icmp .eq 13, 3) := by decide +kernel
theorem dX9_spare_59 : decode cX9_spare 59 = .ok (.aload_n 0, 1) := by decide +kernel
theorem dX9_spare_60 : decode cX9_spare 60 = .ok (.getfield 25, 3) := by decide +kernel
theorem dX9_spare_63 : decode cX9_spare 63 = .ok (.iload_n 3, 1) := by decide +kernel
theorem dX9_spare_64 : decode cX9_spare 64 = .ok (.iaload, 1) := by decide +kernel
theorem dX9_spare_65 : decode cX9_spare 65 = .ok (.iload_n 1, 1) := by decide +kernel
theorem dX9_spare_66 : decode cX9_spare 66 = .ok (.if_icmp .ne 17, 3) := by decide +kernel
theorem dX9_spare_69 : decode cX9_spare 69 = .ok (.aload_n 0, 1) := by decide +kernel
theorem dX9_spare_70 : decode cX9_spare 70 = .ok (.getfield 53, 3) := by decide +kernel
theorem dX9_spare_73 : decode cX9_spare 73 = .ok (.iload 4, 2) := by decide +kernel
theorem dX9_spare_75 : decode cX9_spare 75 = .ok (.baload, 1) := by decide +kernel
theorem dX9_spare_76 : decode cX9_spare 76 = .ok (.ifCond .eq 7, 3) := by decide +kernel
theorem dX9_spare_79 : decode cX9_spare 79 = .ok (.iconst 1, 1) := by decide +kernel
theorem dX9_spare_80 : decode cX9_spare 80 = .ok (.goto 4, 3) := by decide +kernel
theorem dX9_spare_83 : decode cX9_spare 83 = .ok (.iconst 0, 1) := by decide +kernel
theorem dX9_spare_84 : decode cX9_spare 84 = .ok (.istore 5, 2) := by decide +kernel
theorem dX9_spare_86 : decode cX9_spare 86 = .ok (.iload 5, 2) := by decide +kernel
theorem dX9_spare_88 : decode cX9_spare 88 = .ok (.ifCond .eq 8, 3) := by decide +kernel
theorem dX9_spare_91 : decode cX9_spare 91 = .ok (.iload 4, 2) := by decide +kernel
theorem dX9_spare_93 : decode cX9_spare 93 = .ok (.goto 4, 3) := by decide +kernel
theorem dX9_spare_96 : decode cX9_spare 96 = .ok (.iload_n 2, 1) := by decide +kernel
theorem dX9_spare_97 : decode cX9_spare 97 = .ok (.istore_n 2, 1) := by decide +kernel
theorem dX9_spare_98 : decode cX9_spare 98 = .ok (.iinc 3 (-1), 3) := by decide +kernel
theorem dX9_spare_101 : decode cX9_spare 101 = .ok (.goto (-91), 3) := by decide +kernel
theorem dX9_spare_104 : decode cX9_spare 104 = .ok (.aload_n 0, 1) := by decide +kernel
theorem dX9_spare_105 : decode cX9_spare 105 = .ok (.aload_n 0, 1) := by decide +kernel
theorem dX9_spare_106 : decode cX9_spare 106 = .ok (.getfield 62, 3) := by decide +kernel
theorem dX9_spare_109 : decode cX9_spare 109 = .ok (.iload_n 2, 1) := by decide +kernel
theorem dX9_spare_110 : decode cX9_spare 110 = .ok (.iaload, 1) := by decide +kernel
theorem dX9_spare_111 : decode cX9_spare 111 = .ok (.putfield 160, 3) := by decide +kernel
theorem dX9_spare_114 : decode cX9_spare 114 = .ok (.iconst 1, 1) := by decide +kernel
theorem dX9_spare_115 : decode cX9_spare 115 = .ok (.istore_n 3, 1) := by decide +kernel
theorem dX9_spare_116 : decode cX9_spare 116 = .ok (.iload_n 3, 1) := by decide +kernel
theorem dX9_spare_117 : decode cX9_spare 117 = .ok (.bipush 100, 2) := by decide +kernel
theorem dX9_spare_119 : decode cX9_spare 119 = .ok (.if_icmp .ge 106, 3) := by decide +kernel
theorem dX9_spare_122 : decode cX9_spare 122 = .ok (.iload_n 3, 1) := by decide +kernel
theorem dX9_spare_123 : decode cX9_spare 123 = .ok (.ineg, 1) := by decide +kernel
theorem dX9_spare_124 : decode cX9_spare 124 = .ok (.istore 4, 2) := by decide +kernel
theorem dX9_spare_126 : decode cX9_spare 126 = .ok (.iload 4, 2) := by decide +kernel
theorem dX9_spare_128 : decode cX9_spare 128 = .ok (.iload_n 3, 1) := by decide +kernel
theorem dX9_spare_129 : decode cX9_spare 129 = .ok (.if_icmp .gt 90, 3) := by decide +kernel
theorem dX9_spare_132 : decode cX9_spare 132 = .ok (.iload_n 3, 1) := by decide +kernel
theorem dX9_spare_133 : decode cX9_spare 133 = .ok (.iload 4, 2) := by decide +kernel
theorem dX9_spare_135 : decode cX9_spare 135 = .ok (.ifCond .ge 9, 3) := by decide +kernel
theorem dX9_spare_138 : decode cX9_spare 138 = .ok (.iload 4, 2) := by decide +kernel
theorem dX9_spare_140 : decode cX9_spare 140 = .ok (.ineg, 1) := by decide +kernel
theorem dX9_spare_141 : decode cX9_spare 141 = .ok (.goto 5, 3) := by decide +kernel
theorem dX9_spare_144 : decode cX9_spare 144 = .ok (.iload 4, 2) := by decide +kernel
theorem dX9_spare_146 : decode cX9_spare 146 = .ok (.isub, 1) := by decide +kernel
theorem dX9_spare_147 : decode cX9_spare 147 = .ok (.istore 5, 2) := by decide +kernel
theorem dX9_spare_149 : decode cX9_spare 149 = .ok (.iconst (-1), 1) := by decide +kernel
theorem dX9_spare_150 : decode cX9_spare 150 = .ok (.istore 6, 2) := by decide +kernel
theorem dX9_spare_152 : decode cX9_spare 152 = .ok (.iload 6, 2) := by decide +kernel
theorem dX9_spare_154 : decode cX9_spare 154 = .ok (.iconst 2, 1) := by decide +kernel
theorem dX9_spare_155 : decode cX9_spare 155 = .ok (.if_icmp .ge 58, 3) := by decide +kernel
theorem dX9_spare_158 : decode cX9_spare 158 = .ok (.aload_n 0, 1) := by decide +kernel
theorem dX9_spare_159 : decode cX9_spare 159 = .ok (.aload_n 0, 1) := by decide +kernel
theorem dX9_spare_160 : decode cX9_spare 160 = .ok (.getfield 56, 3) := by decide +kernel
theorem dX9_spare_163 : decode cX9_spare 163 = .ok (.iload_n 2, 1) := by decide +kernel
theorem dX9_spare_164 : decode cX9_spare 164 = .ok (.iaload, 1) := by decide +kernel
theorem dX9_spare_165 : decode cX9_spare 165 = .ok (.iload 6, 2) := by decide +kernel
theorem dX9_spare_167 : decode cX9_spare 167 = .ok (.iload 5, 2) := by decide +kernel
theorem dX9_spare_169 : decode cX9_spare 169 = .ok (.imul, 1) := by decide +kernel
theorem dX9_spare_170 : decode cX9_spare 170 = .ok (.iadd, 1) := by decide +kernel
theorem dX9_spare_171 : decode cX9_spare 171 = .ok (.putfield 154, 3) := by decide +kernel
theorem dX9_spare_174 : decode cX9_spare 174 = .ok (.aload_n 0, 1) := by decide +kernel
theorem dX9_spare_175 : decode cX9_spare 175 = .ok (.aload_n 0, 1) := by decide +kernel
theorem dX9_spare_176 : decode cX9_spare 176 = .ok (.getfield 59, 3) := by decide +kernel
theorem dX9_spare_179 : decode cX9_spare 179 = .ok (.iload_n 2, 1) := by decide +kernel
theorem dX9_spare_180 : decode cX9_spare 180 = .ok (.iaload, 1) := by decide +kernel
theorem dX9_spare_181 : decode cX9_spare 181 = .ok (.iload 4, 2) := by decide +kernel
theorem dX9_spare_183 : decode cX9_spare 183 = .ok (.iadd, 1) := by decide +kernel
theorem dX9_spare_184 : decode cX9_spare 184 = .ok (.putfield 157, 3) := by decide +kernel
theorem dX9_spare_187 : decode cX9_spare 187 = .ok (.aload_n 0, 1) := by decide +kernel
theorem dX9_spare_188 : decode cX9_spare 188 = .ok (.aload_n 0, 1) := by decide +kernel
theorem dX9_spare_189 : decode cX9_spare 189 = .ok (.getfield 154, 3) := by decide +kernel
theorem dX9_spare_192 : decode cX9_spare 192 = .ok (.aload_n 0, 1) := by decide +kernel
theorem dX9_spare_193 : decode cX9_spare 193 = .ok (.getfield 157, 3) := by decide +kernel
theorem dX9_spare_196 : decode cX9_spare 196 = .ok (.aload_n 0, 1) := by decide +kernel
theorem dX9_spare_197 : decode cX9_spare 197 = .ok (.getfield 160, 3) := by decide +kernel
theorem dX9_spare_200 : decode cX9_spare 200 = .ok (.invokevirtual 151, 3) := by decide +kernel
theorem dX9_spare_203 : decode cX9_spare 203 = .ok (.ifCond .ge 4, 3) := by decide +kernel
theorem dX9_spare_206 : decode cX9_spare 206 = .ok (.return_, 1) := by decide +kernel
theorem dX9_spare_207 : decode cX9_spare 207 = .ok (.iinc 6 2, 3) := by decide +kernel
theorem dX9_spare_210 : decode cX9_spare 210 = .ok (.goto (-58), 3) := by decide +kernel
theorem dX9_spare_213 : decode cX9_spare 213 = .ok (.iinc 4 1, 3) := by decide +kernel
theorem dX9_spare_216 : decode cX9_spare 216 = .ok (.goto (-90), 3) := by decide +kernel
theorem dX9_spare_219 : decode cX9_spare 219 = .ok (.iinc 3 1, 3) := by decide +kernel
theorem dX9_spare_222 : decode cX9_spare 222 = .ok (.goto (-106), 3) := by decide +kernel
theorem dX9_spare_225 : decode cX9_spare 225 = .ok (.return_, 1) := by decide +kernel
theorem dX9_standBy_0 : decode cX9_standBy 0 = .ok (.aload_n 0, 1) := by decide +kernel
theorem dX9_standBy_1 : decode cX9_standBy 1 = .ok (.iload_n 1, 1) := by decide +kernel
theorem dX9_standBy_2 : decode cX9_standBy 2 = .ok (.iload_n 2, 1) := by decide +kernel
theorem dX9_standBy_3 : decode cX9_standBy 3 = .ok (.invokevirtual 163, 3) := by decide +kernel
theorem dX9_standBy_6 : decode cX9_standBy 6 = .ok (.istore_n 3, 1) := by decide +kernel
theorem dX9_standBy_7 : decode cX9_standBy 7 = .ok (.iload_n 3, 1) := by decide +kernel
theorem dX9_standBy_8 : decode cX9_standBy 8 = .ok (.ifCond .ne 9, 3) := by decide +kernel
theorem dX9_standBy_11 : decode cX9_standBy 11 = .ok (.iload_n 2, 1) := by decide +kernel
theorem dX9_standBy_12 : decode cX9_standBy 12 = .ok (.ifCond .le 5, 3) := by decide +kernel
theorem dX9_standBy_15 : decode cX9_standBy 15 = .ok (.iconst 0, 1) := by decide +kernel
theorem dX9_standBy_16 : decode cX9_standBy 16 = .ok (.ireturn, 1) := by decide +kernel
theorem dX9_standBy_17 : decode cX9_standBy 17 = .ok (.iload_n 3, 1) := by decide +kernel
theorem dX9_standBy_18 : decode cX9_standBy 18 = .ok (.ifCond .ne 8, 3) := by decide +kernel
theorem dX9_standBy_21 : decode cX9_standBy 21 = .ok (.aload_n 0, 1) := by decide +kernel
theorem dX9_standBy_22 : decode cX9_standBy 22 = .ok (.iload_n 1, 1) := by decide +kernel
theorem dX9_standBy_23 : decode cX9_standBy 23 = .ok (.invokevirtual 167, 3) := by decide +kernel
theorem dX9_standBy_26 : decode cX9_standBy 26 = .ok (.aload_n 0, 1) := by decide +kernel
theorem dX9_standBy_27 : decode cX9_standBy 27 = .ok (.iload_n 1, 1) := by decide +kernel
theorem dX9_standBy_28 : decode cX9_standBy 28 = .ok (.aload_n 0, 1) := by decide +kernel
theorem dX9_standBy_29 : decode cX9_standBy 29 = .ok (.getfield 154, 3) := by decide +kernel
theorem dX9_standBy_32 : decode cX9_standBy 32 = .ok (.aload_n 0, 1) := by decide +kernel
theorem dX9_standBy_33 : decode cX9_standBy 33 = .ok (.getfield 157, 3) := by decide +kernel
theorem dX9_standBy_36 : decode cX9_standBy 36 = .ok (.aload_n 0, 1) := by decide +kernel
theorem dX9_standBy_37 : decode cX9_standBy 37 = .ok (.getfield 160, 3) := by decide +kernel
theorem dX9_standBy_40 : decode cX9_standBy 40 = .ok (.invokevirtual 171, 3) := by decide +kernel
theorem dX9_standBy_43 : decode cX9_standBy 43 = .ok (.iconst 1, 1) := by decide +kernel
theorem dX9_standBy_44 : decode cX9_standBy 44 = .ok (.ireturn, 1) := by decide +kernel
theorem dX9_hasTaken_0 : decode cX9_hasTaken 0 = .ok (.iconst 0, 1) := by decide +kernel
theorem dX9_hasTaken_1 : decode cX9_hasTaken 1 = .ok (.istore_n 2, 1) := by decide +kernel
theorem dX9_hasTaken_2 : decode cX9_hasTaken 2 = .ok (.iconst 0, 1) := by decide +kernel
theorem dX9_hasTaken_3 : decode cX9_hasTaken 3 = .ok (.istore_n 3, 1) := by decide +kernel
theorem dX9_hasTaken_4 : decode cX9_hasTaken 4 = .ok (.iload_n 3, 1) := by decide +kernel
theorem dX9_hasTaken_5 : decode cX9_hasTaken 5 = .ok (.aload_n 0, 1) := by decide +kernel
theorem dX9_hasTaken_6 : decode cX9_hasTaken 6 = .ok (.getfield 94, 3) := by decide +kernel
theorem dX9_hasTaken_9 : decode cX9_hasTaken 9 = .ok (.if_icmp .ge 67, 3) := by decide +kernel
theorem dX9_hasTaken_12 : decode cX9_hasTaken 12 = .ok (.iload_n 2, 1) := by decide +kernel
theorem dX9_hasTaken_13 : decode cX9_hasTaken 13 = .ok (.ifCond .ne 51, 3) := by decide +kernel
theorem dX9_hasTaken_16 : decode cX9_hasTaken 16 = .ok (.aload_n 0, 1) := by decide +kernel
theorem dX9_hasTaken_17 : decode cX9_hasTaken 17 = .ok (.getfield 19, 3) := by decide +kernel
theorem dX9_hasTaken_20 : decode cX9_hasTaken 20 = .ok (.iload_n 3, 1) := by decide +kernel
theorem dX9_hasTaken_21 : decode cX9_hasTaken 21 = .ok (.iaload, 1) := by decide +kernel
theorem dX9_hasTaken_22 : decode cX9_hasTaken 22 = .ok (.iload_n 1, 1) := by decide +kernel
theorem dX9_hasTaken_23 : decode cX9_hasTaken 23 = .ok (.if_icmp .ne 17, 3) := by decide +kernel
theorem dX9_hasTaken_26 : decode cX9_hasTaken 26 = .ok (.aload_n 0, 1) := by decide +kernel
theorem dX9_hasTaken_27 : decode cX9_hasTaken 27 = .ok (.getfield 68, 3) := by decide +kernel
theorem dX9_hasTaken_30 : decode cX9_hasTaken 30 = .ok (.aload_n 0, 1) := by decide +kernel
theorem dX9_hasTaken_31 : decode cX9_hasTaken 31 = .ok (.getfield 25, 3) := by decide +kernel
theorem dX9_hasTaken_34 : decode cX9_hasTaken 34 = .ok (.iload_n 3, 1) := by decide +kernel
theorem dX9_hasTaken_35 : decode cX9_hasTaken 35 = .ok (.iaload, 1) := by decide +kernel
theorem dX9_hasTaken_36 : decode cX9_hasTaken 36 = .ok (.baload, 1) := by decide +kernel
theorem dX9_hasTaken_37 : decode cX9_hasTaken 37 = .ok (.ifCond .ne 27, 3) := by decide +kernel
theorem dX9_hasTaken_40 : decode cX9_hasTaken 40 = .ok (.aload_n 0, 1) := by decide +kernel
theorem dX9_hasTaken_41 : decode cX9_hasTaken 41 = .ok (.getfield 25, 3) := by decide +kernel
theorem dX9_hasTaken_44 : decode cX9_hasTaken 44 = .ok (.iload_n 3, 1) := by decide +kernel
theorem dX9_hasTaken_45 : decode cX9_hasTaken 45 = .ok (.iaload, 1) := by decide +kernel
theorem dX9_hasTaken_46 : decode cX9_hasTaken 46 = .ok (.iload_n 1, 1) := by decide +kernel
theorem dX9_hasTaken_47 : decode cX9_hasTaken 47 = .ok (.if_icmp .ne 21, 3) := by decide +kernel
theorem dX9_hasTaken_50 : decode cX9_hasTaken 50 = .ok (.aload_n 0, 1) := by decide +kernel
theorem dX9_hasTaken_51 : decode cX9_hasTaken 51 = .ok (.getfield 68, 3) := by decide +kernel
theorem dX9_hasTaken_54 : decode cX9_hasTaken 54 = .ok (.aload_n 0, 1) := by decide +kernel
theorem dX9_hasTaken_55 : decode cX9_hasTaken 55 = .ok (.getfield 19, 3) := by decide +kernel
theorem dX9_hasTaken_58 : decode cX9_hasTaken 58 = .ok (.iload_n 3, 1) := by decide +kernel
theorem dX9_hasTaken_59 : decode cX9_hasTaken 59 = .ok (.iaload, 1) := by decide +kernel
theorem dX9_hasTaken_60 : decode cX9_hasTaken 60 = .ok (.baload, 1) := by decide +kernel
theorem dX9_hasTaken_61 : decode cX9_hasTaken 61 = .ok (.ifCond .eq 7, 3) := by decide +kernel
theorem dX9_hasTaken_64 : decode cX9_hasTaken 64 = .ok (.iconst 1, 1) := by decide +kernel
theorem dX9_hasTaken_65 : decode cX9_hasTaken 65 = .ok (.goto 4, 3) := by decide +kernel
theorem dX9_hasTaken_68 : decode cX9_hasTaken 68 = .ok (.iconst 0, 1) := by decide +kernel
theorem dX9_hasTaken_69 : decode cX9_hasTaken 69 = .ok (.istore_n 2, 1) := by decide +kernel
theorem dX9_hasTaken_70 : decode cX9_hasTaken 70 = .ok (.iinc 3 1, 3) := by decide +kernel
theorem dX9_hasTaken_73 : decode cX9_hasTaken 73 = .ok (.goto (-69), 3) := by decide +kernel
theorem dX9_hasTaken_76 : decode cX9_hasTaken 76 = .ok (.iload_n 2, 1) := by decide +kernel
theorem dX9_hasTaken_77 : decode cX9_hasTaken 77 = .ok (.ireturn, 1) := by decide +kernel
theorem dX9_findOrder_0 : decode cX9_findOrder 0 = .ok (.aload_n 0, 1) := by decide +kernel
theorem dX9_findOrder_1 : decode cX9_findOrder 1 = .ok (.iconst 0, 1) := by decide +kernel
theorem dX9_findOrder_2 : decode cX9_findOrder 2 = .ok (.putfield 175, 3) := by decide +kernel
theorem dX9_findOrder_5 : decode cX9_findOrder 5 = .ok (.iconst 0, 1) := by decide +kernel

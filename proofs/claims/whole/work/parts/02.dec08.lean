theorem dX9_findDistances_2 : decode cX9_findDistances 2 = .ok (.iload_n 2, 1) := by decide +kernel
theorem dX9_findDistances_3 : decode cX9_findDistances 3 = .ok (.aload_n 0, 1) := by decide +kernel
theorem dX9_findDistances_4 : decode cX9_findDistances 4 = .ok (.getfield 86, 3) := by decide +kernel
theorem dX9_findDistances_7 : decode cX9_findDistances 7 = .ok (.if_icmp .ge 26, 3) := by decide +kernel
theorem dX9_findDistances_10 : decode cX9_findDistances 10 = .ok (.aload_n 0, 1) := by decide +kernel
theorem dX9_findDistances_11 : decode cX9_findDistances 11 = .ok (.getfield 83, 3) := by decide +kernel
theorem dX9_findDistances_14 : decode cX9_findDistances 14 = .ok (.iload_n 2, 1) := by decide +kernel
theorem dX9_findDistances_15 : decode cX9_findDistances 15 = .ok (.iload_n 2, 1) := by decide +kernel
theorem dX9_findDistances_16 : decode cX9_findDistances 16 = .ok (.iload_n 1, 1) := by decide +kernel
theorem dX9_findDistances_17 : decode cX9_findDistances 17 = .ok (.if_icmp .ne 7, 3) := by decide +kernel
theorem dX9_findDistances_20 : decode cX9_findDistances 20 = .ok (.iconst 0, 1) := by decide +kernel
theorem dX9_findDistances_21 : decode cX9_findDistances 21 = .ok (.goto 5, 3) := by decide +kernel
theorem dX9_findDistances_24 : decode cX9_findDistances 24 = .ok (.bipush 99, 2) := by decide +kernel
theorem dX9_findDistances_26 : decode cX9_findDistances 26 = .ok (.iastore, 1) := by decide +kernel
theorem dX9_findDistances_27 : decode cX9_findDistances 27 = .ok (.iinc 2 1, 3) := by decide +kernel
theorem dX9_findDistances_30 : decode cX9_findDistances 30 = .ok (.goto (-28), 3) := by decide +kernel
theorem dX9_findDistances_33 : decode cX9_findDistances 33 = .ok (.iconst 1, 1) := by decide +kernel
theorem dX9_findDistances_34 : decode cX9_findDistances 34 = .ok (.istore_n 2, 1) := by decide +kernel
theorem dX9_findDistances_35 : decode cX9_findDistances 35 = .ok (.iload_n 2, 1) := by decide +kernel
theorem dX9_findDistances_36 : decode cX9_findDistances 36 = .ok (.ifCond .eq 123, 3) := by decide +kernel
theorem dX9_findDistances_39 : decode cX9_findDistances 39 = .ok (.iconst 0, 1) := by decide +kernel
theorem dX9_findDistances_40 : decode cX9_findDistances 40 = .ok (.istore_n 2, 1) := by decide +kernel
theorem dX9_findDistances_41 : decode cX9_findDistances 41 = .ok (.iconst 0, 1) := by decide +kernel
theorem dX9_findDistances_42 : decode cX9_findDistances 42 = .ok (.istore_n 3, 1) := by decide +kernel
theorem dX9_findDistances_43 : decode cX9_findDistances 43 = .ok (.iload_n 3, 1) := by decide +kernel
theorem dX9_findDistances_44 : decode cX9_findDistances 44 = .ok (.aload_n 0, 1) := by decide +kernel
theorem dX9_findDistances_45 : decode cX9_findDistances 45 = .ok (.getfield 94, 3) := by decide +kernel
theorem dX9_findDistances_48 : decode cX9_findDistances 48 = .ok (.if_icmp .ge 108, 3) := by decide +kernel
theorem dX9_findDistances_51 : decode cX9_findDistances 51 = .ok (.aload_n 0, 1) := by decide +kernel
theorem dX9_findDistances_52 : decode cX9_findDistances 52 = .ok (.getfield 19, 3) := by decide +kernel
theorem dX9_findDistances_55 : decode cX9_findDistances 55 = .ok (.iload_n 3, 1) := by decide +kernel
theorem dX9_findDistances_56 : decode cX9_findDistances 56 = .ok (.iaload, 1) := by decide +kernel
theorem dX9_findDistances_57 : decode cX9_findDistances 57 = .ok (.istore 4, 2) := by decide +kernel
theorem dX9_findDistances_59 : decode cX9_findDistances 59 = .ok (.aload_n 0, 1) := by decide +kernel
theorem dX9_findDistances_60 : decode cX9_findDistances 60 = .ok (.getfield 25, 3) := by decide +kernel
theorem dX9_findDistances_63 : decode cX9_findDistances 63 = .ok (.iload_n 3, 1) := by decide +kernel
theorem dX9_findDistances_64 : decode cX9_findDistances 64 = .ok (.iaload, 1) := by decide +kernel
theorem dX9_findDistances_65 : decode cX9_findDistances 65 = .ok (.istore 5, 2) := by decide +kernel
theorem dX9_findDistances_67 : decode cX9_findDistances 67 = .ok (.aload_n 0, 1) := by decide +kernel
theorem dX9_findDistances_68 : decode cX9_findDistances 68 = .ok (.getfield 83, 3) := by decide +kernel
theorem dX9_findDistances_71 : decode cX9_findDistances 71 = .ok (.iload 5, 2) := by decide +kernel
theorem dX9_findDistances_73 : decode cX9_findDistances 73 = .ok (.iaload, 1) := by decide +kernel
theorem dX9_findDistances_74 : decode cX9_findDistances 74 = .ok (.iconst 1, 1) := by decide +kernel
theorem dX9_findDistances_75 : decode cX9_findDistances 75 = .ok (.iadd, 1) := by decide +kernel
theorem dX9_findDistances_76 : decode cX9_findDistances 76 = .ok (.aload_n 0, 1) := by decide +kernel
theorem dX9_findDistances_77 : decode cX9_findDistances 77 = .ok (.getfield 83, 3) := by decide +kernel
theorem dX9_findDistances_80 : decode cX9_findDistances 80 = .ok (.iload 4, 2) := by decide +kernel
theorem dX9_findDistances_82 : decode cX9_findDistances 82 = .ok (.iaload, 1) := by decide +kernel
theorem dX9_findDistances_83 : decode cX9_findDistances 83 = .ok (.if_icmp .ge 21, 3) := by decide +kernel
theorem dX9_findDistances_86 : decode cX9_findDistances 86 = .ok (.aload_n 0, 1) := by decide +kernel
theorem dX9_findDistances_87 : decode cX9_findDistances 87 = .ok (.getfield 83, 3) := by decide +kernel
theorem dX9_findDistances_90 : decode cX9_findDistances 90 = .ok (.iload 4, 2) := by decide +kernel
theorem dX9_findDistances_92 : decode cX9_findDistances 92 = .ok (.aload_n 0, 1) := by decide +kernel
theorem dX9_findDistances_93 : decode cX9_findDistances 93 = .ok (.getfield 83, 3) := by decide +kernel
theorem dX9_findDistances_96 : decode cX9_findDistances 96 = .ok (.iload 5, 2) := by decide +kernel
theorem dX9_findDistances_98 : decode cX9_findDistances 98 = .ok (.iaload, 1) := by decide +kernel
theorem dX9_findDistances_99 : decode cX9_findDistances 99 = .ok (.iconst 1, 1) := by decide +kernel
theorem dX9_findDistances_100 : decode cX9_findDistances 100 = .ok (.iadd, 1) := by decide +kernel
theorem dX9_findDistances_101 : decode cX9_findDistances 101 = .ok (.iastore, 1) := by decide +kernel
theorem dX9_findDistances_102 : decode cX9_findDistances 102 = .ok (.iconst 1, 1) := by decide +kernel
theorem dX9_findDistances_103 : decode cX9_findDistances 103 = .ok (.istore_n 2, 1) := by decide +kernel
theorem dX9_findDistances_104 : decode cX9_findDistances 104 = .ok (.aload_n 0, 1) := by decide +kernel
theorem dX9_findDistances_105 : decode cX9_findDistances 105 = .ok (.getfield 28, 3) := by decide +kernel
theorem dX9_findDistances_108 : decode cX9_findDistances 108 = .ok (.iload_n 3, 1) := by decide +kernel
theorem dX9_findDistances_109 : decode cX9_findDistances 109 = .ok (.baload, 1) := by decide +kernel
theorem dX9_findDistances_110 : decode cX9_findDistances 110 = .ok (.ifCond .eq 40, 3) := by decide +kernel
theorem dX9_findDistances_113 : decode cX9_findDistances 113 = .ok (.aload_n 0, 1) := by decide +kernel
theorem dX9_findDistances_114 : decode cX9_findDistances 114 = .ok (.getfield 83, 3) := by decide +kernel
theorem dX9_findDistances_117 : decode cX9_findDistances 117 = .ok (.iload 4, 2) := by decide +kernel
theorem dX9_findDistances_119 : decode cX9_findDistances 119 = .ok (.iaload, 1) := by decide +kernel
theorem dX9_findDistances_120 : decode cX9_findDistances 120 = .ok (.iconst 1, 1) := by decide +kernel
theorem dX9_findDistances_121 : decode cX9_findDistances 121 = .ok (.iadd, 1) := by decide +kernel
theorem dX9_findDistances_122 : decode cX9_findDistances 122 = .ok (.aload_n 0, 1) := by decide +kernel
theorem dX9_findDistances_123 : decode cX9_findDistances 123 = .ok (.getfield 83, 3) := by decide +kernel
theorem dX9_findDistances_126 : decode cX9_findDistances 126 = .ok (.iload 5, 2) := by decide +kernel
theorem dX9_findDistances_128 : decode cX9_findDistances 128 = .ok (.iaload, 1) := by decide +kernel
theorem dX9_findDistances_129 : decode cX9_findDistances 129 = .ok (.if_icmp .ge 21, 3) := by decide +kernel
theorem dX9_findDistances_132 : decode cX9_findDistances 132 = .ok (.aload_n 0, 1) := by decide +kernel
theorem dX9_findDistances_133 : decode cX9_findDistances 133 = .ok (.getfield 83, 3) := by decide +kernel
theorem dX9_findDistances_136 : decode cX9_findDistances 136 = .ok (.iload 5, 2) := by decide +kernel
theorem dX9_findDistances_138 : decode cX9_findDistances 138 = .ok (.aload_n 0, 1) := by decide +kernel
theorem dX9_findDistances_139 : decode cX9_findDistances 139 = .ok (.getfield 83, 3) := by decide +kernel
theorem dX9_findDistances_142 : decode cX9_findDistances 142 = .ok (.iload 4, 2) := by decide +kernel
theorem dX9_findDistances_144 : decode cX9_findDistances 144 = .ok (.iaload, 1) := by decide +kernel
theorem dX9_findDistances_145 : decode cX9_findDistances 145 = .ok (.iconst 1, 1) := by decide +kernel
theorem dX9_findDistances_146 : decode cX9_findDistances 146 = .ok (.iadd, 1) := by decide +kernel
theorem dX9_findDistances_147 : decode cX9_findDistances 147 = .ok (.iastore, 1) := by decide +kernel
theorem dX9_findDistances_148 : decode cX9_findDistances 148 = .ok (.iconst 1, 1) := by decide +kernel
theorem dX9_findDistances_149 : decode cX9_findDistances 149 = .ok (.istore_n 2, 1) := by decide +kernel
theorem dX9_findDistances_150 : decode cX9_findDistances 150 = .ok (.iinc 3 1, 3) := by decide +kernel
theorem dX9_findDistances_153 : decode cX9_findDistances 153 = .ok (.goto (-110), 3) := by decide +kernel
theorem dX9_findDistances_156 : decode cX9_findDistances 156 = .ok (.goto (-121), 3) := by decide +kernel
theorem dX9_findDistances_159 : decode cX9_findDistances 159 = .ok (.return_, 1) := by decide +kernel
theorem dX9_far_0 : decode cX9_far 0 = .ok (.aload_n 0, 1) := by decide +kernel
theorem dX9_far_1 : decode cX9_far 1 = .ok (.iload_n 1, 1) := by decide +kernel
theorem dX9_far_2 : decode cX9_far 2 = .ok (.invokevirtual 101, 3) := by decide +kernel
theorem dX9_far_5 : decode cX9_far 5 = .ok (.ifCond .eq 11, 3) := by decide +kernel
theorem dX9_far_8 : decode cX9_far 8 = .ok (.aload_n 0, 1) := by decide +kernel
theorem dX9_far_9 : decode cX9_far 9 = .ok (.iload_n 2, 1) := by decide +kernel
theorem dX9_far_10 : decode cX9_far 10 = .ok (.invokevirtual 101, 3) := by decide +kernel
theorem dX9_far_13 : decode cX9_far 13 = .ok (.ifCond .ne 5, 3) := by decide +kernel
theorem dX9_far_16 : decode cX9_far 16 = .ok (.iconst (-1), 1) := by decide +kernel
theorem dX9_far_17 : decode cX9_far 17 = .ok (.ireturn, 1) := by decide +kernel
theorem dX9_far_18 : decode cX9_far 18 = .ok (.aload_n 0, 1) := by decide +kernel
theorem dX9_far_19 : decode cX9_far 19 = .ok (.iload_n 2, 1) := by decide +kernel
theorem dX9_far_20 : decode cX9_far 20 = .ok (.invokevirtual 230, 3) := by decide +kernel
theorem dX9_far_23 : decode cX9_far 23 = .ok (.aload_n 0, 1) := by decide +kernel
theorem dX9_far_24 : decode cX9_far 24 = .ok (.getfield 83, 3) := by decide +kernel
theorem dX9_far_27 : decode cX9_far 27 = .ok (.iload_n 1, 1) := by decide +kernel
theorem dX9_far_28 : decode cX9_far 28 = .ok (.iaload, 1) := by decide +kernel
theorem dX9_far_29 : decode cX9_far 29 = .ok (.bipush 24, 2) := by decide +kernel
theorem dX9_far_31 : decode cX9_far 31 = .ok (.if_icmp .le 8, 3) := by decide +kernel
theorem dX9_far_34 : decode cX9_far 34 = .ok (.bipush (-2), 2) := by decide +kernel
theorem dX9_far_36 : decode cX9_far 36 = .ok (.goto 9, 3) := by decide +kernel
theorem dX9_far_39 : decode cX9_far 39 = .ok (.aload_n 0, 1) := by decide +kernel
theorem dX9_far_40 : decode cX9_far 40 = .ok (.getfield 83, 3) := by decide +kernel
theorem dX9_far_43 : decode cX9_far 43 = .ok (.iload_n 1, 1) := by decide +kernel
theorem dX9_far_44 : decode cX9_far 44 = .ok (.iaload, 1) := by decide +kernel
theorem dX9_far_45 : decode cX9_far 45 = .ok (.ireturn, 1) := by decide +kernel
theorem dX9_step_0 : decode cX9_step 0 = .ok (.aload_n 0, 1) := by decide +kernel
theorem dX9_step_1 : decode cX9_step 1 = .ok (.iload_n 1, 1) := by decide +kernel
theorem dX9_step_2 : decode cX9_step 2 = .ok (.iload_n 2, 1) := by decide +kernel
theorem dX9_step_3 : decode cX9_step 3 = .ok (.invokevirtual 233, 3) := by decide +kernel
theorem dX9_step_6 : decode cX9_step 6 = .ok (.istore 4, 2) := by decide +kernel
theorem dX9_step_8 : decode cX9_step 8 = .ok (.iload 4, 2) := by decide +kernel
theorem dX9_step_10 : decode cX9_step 10 = .ok (.ifCond .ge 6, 3) := by decide +kernel
theorem dX9_step_13 : decode cX9_step 13 = .ok (.iload 4, 2) := by decide +kernel
theorem dX9_step_15 : decode cX9_step 15 = .ok (.ireturn, 1) := by decide +kernel
theorem dX9_step_16 : decode cX9_step 16 = .ok (.iload_n 3, 1) := by decide +kernel
theorem dX9_step_17 : decode cX9_step 17 = .ok (.iconst 0, 1) := by decide +kernel
theorem dX9_step_18 : decode cX9_step 18 = .ok (.iload 4, 2) := by decide +kernel
theorem dX9_step_20 : decode cX9_step 20 = .ok (.iconst 1, 1) := by decide +kernel
theorem dX9_step_21 : decode cX9_step 21 = .ok (.isub, 1) := by decide +kernel
theorem dX9_step_22 : decode cX9_step 22 = .ok (.invokestatic 90, 3) := by decide +kernel
theorem dX9_step_25 : decode cX9_step 25 = .ok (.ifCond .ne 6, 3) := by decide +kernel
theorem dX9_step_28 : decode cX9_step 28 = .ok (.bipush (-2), 2) := by decide +kernel
theorem dX9_step_30 : decode cX9_step 30 = .ok (.ireturn, 1) := by decide +kernel
theorem dX9_step_31 : decode cX9_step 31 = .ok (.iload_n 1, 1) := by decide +kernel
theorem dX9_step_32 : decode cX9_step 32 = .ok (.istore 5, 2) := by decide +kernel
theorem dX9_step_34 : decode cX9_step 34 = .ok (.bipush (-2), 2) := by decide +kernel
theorem dX9_step_36 : decode cX9_step 36 = .ok (.istore 6, 2) := by decide +kernel
theorem dX9_step_38 : decode cX9_step 38 = .ok (.iconst 0, 1) := by decide +kernel
theorem dX9_step_39 : decode cX9_step 39 = .ok (.istore 7, 2) := by decide +kernel
theorem dX9_step_41 : decode cX9_step 41 = .ok (.iload 7, 2) := by decide +kernel
theorem dX9_step_43 : decode cX9_step 43 = .ok (.iload_n 3, 1) := by decide +kernel
theorem dX9_step_44 : decode cX9_step 44 = .ok (.if_icmp .gt 97, 3) := by decide +kernel
theorem dX9_step_47 : decode cX9_step 47 = .ok (.bipush (-2), 2) := by decide +kernel
theorem dX9_step_49 : decode cX9_step 49 = .ok (.istore 6, 2) := by decide +kernel
theorem dX9_step_51 : decode cX9_step 51 = .ok (.bipush 9, 2) := by decide +kernel
theorem dX9_step_53 : decode cX9_step 53 = .ok (.istore 8, 2) := by decide +kernel
theorem dX9_step_55 : decode cX9_step 55 = .ok (.iload 8, 2) := by decide +kernel
theorem dX9_step_57 : decode cX9_step 57 = .ok (.ifCond .lt 60, 3) := by decide +kernel
theorem dX9_step_60 : decode cX9_step 60 = .ok (.aload_n 0, 1) := by decide +kernel
theorem dX9_step_61 : decode cX9_step 61 = .ok (.iload 5, 2) := by decide +kernel
theorem dX9_step_63 : decode cX9_step 63 = .ok (.iload 8, 2) := by decide +kernel
theorem dX9_step_65 : decode cX9_step 65 = .ok (.invokevirtual 105, 3) := by decide +kernel
theorem dX9_step_68 : decode cX9_step 68 = .ok (.istore 9, 2) := by decide +kernel
theorem dX9_step_70 : decode cX9_step 70 = .ok (.iload 9, 2) := by decide +kernel
theorem dX9_step_72 : decode cX9_step 72 = .ok (.ifCond .lt 35, 3) := by decide +kernel
theorem dX9_step_75 : decode cX9_step 75 = .ok (.aload_n 0, 1) := by decide +kernel
theorem dX9_step_76 : decode cX9_step 76 = .ok (.getfield 83, 3) := by decide +kernel
theorem dX9_step_79 : decode cX9_step 79 = .ok (.aload_n 0, 1) := by decide +kernel
theorem dX9_step_80 : decode cX9_step 80 = .ok (.iload 9, 2) := by decide +kernel
theorem dX9_step_82 : decode cX9_step 82 = .ok (.iload 5, 2) := by decide +kernel
theorem dX9_step_84 : decode cX9_step 84 = .ok (.iload 8, 2) := by decide +kernel
theorem dX9_step_86 : decode cX9_step 86 = .ok (.invokevirtual 116, 3) := by decide +kernel
theorem dX9_step_89 : decode cX9_step 89 = .ok (.iaload, 1) := by decide +kernel
theorem dX9_step_90 : decode cX9_step 90 = .ok (.aload_n 0, 1) := by decide +kernel
theorem dX9_step_91 : decode cX9_step 91 = .ok (.getfield 83, 3) := by decide +kernel
theorem dX9_step_94 : decode cX9_step 94 = .ok (.iload 5, 2) := by decide +kernel
theorem dX9_step_96 : decode cX9_step 96 = .ok (.iaload, 1) := by decide +kernel
theorem dX9_step_97 : decode cX9_step 97 = .ok (.iconst 1, 1) := by decide +kernel
theorem dX9_step_98 : decode cX9_step 98 = .ok (.isub, 1) := by decide +kernel
theorem dX9_step_99 : decode cX9_step 99 = .ok (.if_icmp .ne 8, 3) := by decide +kernel
theorem dX9_step_102 : decode cX9_step 102 = .ok (.iload 8, 2) := by decide +kernel
theorem dX9_step_104 : decode cX9_step 104 = .ok (.goto 5, 3) := by decide +kernel
theorem dX9_step_107 : decode cX9_step 107 = .ok (.iload 6, 2) := by decide +kernel
theorem dX9_step_109 : decode cX9_step 109 = .ok (.istore 6, 2) := by decide +kernel
theorem dX9_step_111 : decode cX9_step 111 = .ok (.iinc 8 (-1), 3) := by decide +kernel
theorem dX9_step_114 : decode cX9_step 114 = .ok (.goto (-59), 3) := by decide +kernel
theorem dX9_step_117 : decode cX9_step 117 = .ok (.aload_n 0, 1) := by decide +kernel
theorem dX9_step_118 : decode cX9_step 118 = .ok (.aload_n 0, 1) := by decide +kernel
theorem dX9_step_119 : decode cX9_step 119 = .ok (.iload 5, 2) := by decide +kernel
theorem dX9_step_121 : decode cX9_step 121 = .ok (.iload 6, 2) := by decide +kernel
theorem dX9_step_123 : decode cX9_step 123 = .ok (.invokevirtual 105, 3) := by decide +kernel
theorem dX9_step_126 : decode cX9_step 126 = .ok (.iload 5, 2) := by decide +kernel
theorem dX9_step_128 : decode cX9_step 128 = .ok (.iload 6, 2) := by decide +kernel
theorem dX9_step_130 : decode cX9_step 130 = .ok (.invokevirtual 116, 3) := by decide +kernel
theorem dX9_step_133 : decode cX9_step 133 = .ok (.istore 5, 2) := by decide +kernel
theorem dX9_step_135 : decode cX9_step 135 = .ok (.iinc 7 1, 3) := by decide +kernel
theorem dX9_step_138 : decode cX9_step 138 = .ok (.goto (-97), 3) := by decide +kernel
theorem dX9_step_141 : decode cX9_step 141 = .ok (.iload 6, 2) := by decide +kernel
theorem dX9_step_143 : decode cX9_step 143 = .ok (.ireturn, 1) := by decide +kernel
theorem dX9_leastOf_0 : decode cX9_leastOf 0 = .ok (.iconst 0, 1) := by decide +kernel
theorem dX9_leastOf_1 : decode cX9_leastOf 1 = .ok (.istore_n 2, 1) := by decide +kernel
theorem dX9_leastOf_2 : decode cX9_leastOf 2 = .ok (.iconst 0, 1) := by decide +kernel
theorem dX9_leastOf_3 : decode cX9_leastOf 3 = .ok (.istore_n 3, 1) := by decide +kernel
theorem dX9_leastOf_4 : decode cX9_leastOf 4 = .ok (.iconst 0, 1) := by decide +kernel
theorem dX9_leastOf_5 : decode cX9_leastOf 5 = .ok (.istore 4, 2) := by decide +kernel
theorem dX9_leastOf_7 : decode cX9_leastOf 7 = .ok (.iload 4, 2) := by decide +kernel
theorem dX9_leastOf_9 : decode cX9_leastOf 9 = .ok (.aload_n 0, 1) := by decide +kernel
theorem dX9_leastOf_10 : decode cX9_leastOf 10 = .ok (.getfield 86, 3) := by decide +kernel
theorem dX9_leastOf_13 : decode cX9_leastOf 13 = .ok (.if_icmp .ge 61, 3) := by decide +kernel
theorem dX9_leastOf_16 : decode cX9_leastOf 16 = .ok (.iload_n 1, 1) := by decide +kernel
theorem dX9_leastOf_17 : decode cX9_leastOf 17 = .ok (.ifCond .eq 13, 3) := by decide +kernel
theorem dX9_leastOf_20 : decode cX9_leastOf 20 = .ok (.aload_n 0, 1) := by decide +kernel
theorem dX9_leastOf_21 : decode cX9_leastOf 21 = .ok (.getfield 35, 3) := by decide +kernel
theorem dX9_leastOf_24 : decode cX9_leastOf 24 = .ok (.iload 4, 2) := by decide +kernel
theorem dX9_leastOf_26 : decode cX9_leastOf 26 = .ok (.iaload, 1) := by decide +kernel
theorem dX9_leastOf_27 : decode cX9_leastOf 27 = .ok (.goto 10, 3) := by decide +kernel
theorem dX9_leastOf_30 : decode cX9_leastOf 30 = .ok (.aload_n 0, 1) := by decide +kernel
theorem dX9_leastOf_31 : decode cX9_leastOf 31 = .ok (.getfield 38, 3) := by decide +kernel
theorem dX9_leastOf_34 : decode cX9_leastOf 34 = .ok (.iload 4, 2) := by decide +kernel
theorem dX9_leastOf_36 : decode cX9_leastOf 36 = .ok (.iaload, 1) := by decide +kernel
theorem dX9_leastOf_37 : decode cX9_leastOf 37 = .ok (.istore 5, 2) := by decide +kernel
theorem dX9_leastOf_39 : decode cX9_leastOf 39 = .ok (.aload_n 0, 1) := by decide +kernel
theorem dX9_leastOf_40 : decode cX9_leastOf 40 = .ok (.getfield 32, 3) := by decide +kernel
theorem dX9_leastOf_43 : decode cX9_leastOf 43 = .ok (.iload 4, 2) := by decide +kernel
theorem dX9_leastOf_45 : decode cX9_leastOf 45 = .ok (.baload, 1) := by decide +kernel
theorem dX9_leastOf_46 : decode cX9_leastOf 46 = .ok (.ifCond .eq 22, 3) := by decide +kernel
theorem dX9_leastOf_49 : decode cX9_leastOf 49 = .ok (.iload_n 3, 1) := by decide +kernel
theorem dX9_leastOf_50 : decode cX9_leastOf 50 = .ok (.ifCond .eq 9, 3) := by decide +kernel
theorem dX9_leastOf_53 : decode cX9_leastOf 53 = .ok (.iload 5, 2) := by decide +kernel
theorem dX9_leastOf_55 : decode cX9_leastOf 55 = .ok (.iload_n 2, 1) := by decide +kernel
theorem dX9_leastOf_56 : decode cX9_leastOf 56 = .ok (.if_icmp .ge 8, 3) := by decide +kernel
theorem dX9_leastOf_59 : decode cX9_leastOf 59 = .ok (.iload 5, 2) := by decide +kernel
theorem dX9_leastOf_61 : decode cX9_leastOf 61 = .ok (.goto 4, 3) := by decide +kernel
theorem dX9_leastOf_64 : decode cX9_leastOf 64 = .ok (.iload_n 2, 1) := by decide +kernel
theorem dX9_leastOf_65 : decode cX9_leastOf 65 = .ok (.istore_n 2, 1) := by decide +kernel
theorem dX9_leastOf_66 : decode cX9_leastOf 66 = .ok (.iconst 1, 1) := by decide +kernel
theorem dX9_leastOf_67 : decode cX9_leastOf 67 = .ok (.istore_n 3, 1) := by decide +kernel
theorem dX9_leastOf_68 : decode cX9_leastOf 68 = .ok (.iinc 4 1, 3) := by decide +kernel
theorem dX9_leastOf_71 : decode cX9_leastOf 71 = .ok (.goto (-64), 3) := by decide +kernel
theorem dX9_leastOf_74 : decode cX9_leastOf 74 = .ok (.iload_n 2, 1) := by decide +kernel
theorem dX9_leastOf_75 : decode cX9_leastOf 75 = .ok (.ireturn, 1) := by decide +kernel
theorem dX9_sign_0 : decode cX9_sign 0 = .ok (.iload_n 2, 1) := by decide +kernel
theorem dX9_sign_1 : decode cX9_sign 1 = .ok (.ifCond .lt 7, 3) := by decide +kernel
theorem dX9_sign_4 : decode cX9_sign 4 = .ok (.iload_n 3, 1) := by decide +kernel
theorem dX9_sign_5 : decode cX9_sign 5 = .ok (.ifCond .ge 5, 3) := by decide +kernel
theorem dX9_sign_8 : decode cX9_sign 8 = .ok (.iconst (-1), 1) := by decide +kernel
theorem dX9_sign_9 : decode cX9_sign 9 = .ok (.ireturn, 1) := by decide +kernel
theorem dX9_sign_10 : decode cX9_sign 10 = .ok (.aload_n 0, 1) := by decide +kernel
theorem dX9_sign_11 : decode cX9_sign 11 = .ok (.invokevirtual 215, 3) := by decide +kernel
theorem dX9_sign_14 : decode cX9_sign 14 = .ok (.aload_n 0, 1) := by decide +kernel
theorem dX9_sign_15 : decode cX9_sign 15 = .ok (.iconst 1, 1) := by decide +kernel
theorem dX9_sign_16 : decode cX9_sign 16 = .ok (.invokevirtual 236, 3) := by decide +kernel
theorem dX9_sign_19 : decode cX9_sign 19 = .ok (.istore 4, 2) := by decide +kernel
theorem dX9_sign_21 : decode cX9_sign 21 = .ok (.aload_n 0, 1) := by decide +kernel
theorem dX9_sign_22 : decode cX9_sign 22 = .ok (.iconst 0, 1) := by decide +kernel
theorem dX9_sign_23 : decode cX9_sign 23 = .ok (.invokevirtual 236, 3) := by decide +kernel
theorem dX9_sign_26 : decode cX9_sign 26 = .ok (.istore 5, 2) := by decide +kernel
theorem dX9_sign_28 : decode cX9_sign 28 = .ok (.iconst 0, 1) := by decide +kernel
theorem dX9_sign_29 : decode cX9_sign 29 = .ok (.istore 6, 2) := by decide +kernel
theorem dX9_sign_31 : decode cX9_sign 31 = .ok (.iload 6, 2) := by decide +kernel
theorem dX9_sign_33 : decode cX9_sign 33 = .ok (.aload_n 0, 1) := by decide +kernel
theorem dX9_sign_34 : decode cX9_sign 34 = .ok (.getfield 86, 3) := by decide +kernel
theorem dX9_sign_37 : decode cX9_sign 37 = .ok (.if_icmp .ge 98, 3) := by decide +kernel
theorem dX9_sign_40 : decode cX9_sign 40 = .ok (.iload_n 2, 1) := by decide +kernel
theorem dX9_sign_41 : decode cX9_sign 41 = .ok (.i2l, 1) := by decide +kernel
theorem dX9_sign_42 : decode cX9_sign 42 = .ok (.ldc2_w 240, 3) := by decide +kernel
theorem dX9_sign_45 : decode cX9_sign 45 = .ok (.aload_n 0, 1) := by decide +kernel
theorem dX9_sign_46 : decode cX9_sign 46 = .ok (.getfield 56, 3) := by decide +kernel
theorem dX9_sign_49 : decode cX9_sign 49 = .ok (.iload 6, 2) := by decide +kernel
theorem dX9_sign_51 : decode cX9_sign 51 = .ok (.iaload, 1) := by decide +kernel
theorem dX9_sign_52 : decode cX9_sign 52 = .ok (.iload 4, 2) := by decide +kernel
theorem dX9_sign_54 : decode cX9_sign 54 = .ok (.isub, 1) := by decide +kernel
theorem dX9_sign_55 : decode cX9_sign 55 = .ok (.i2l, 1) := by decide +kernel
theorem dX9_sign_56 : decode cX9_sign 56 = .ok (.lmul, 1) := by decide +kernel
theorem dX9_sign_57 : decode cX9_sign 57 = .ok (.lsub, 1) := by decide +kernel
theorem dX9_sign_58 : decode cX9_sign 58 = .ok (.lstore 7, 2) := by decide +kernel
theorem dX9_sign_60 : decode cX9_sign 60 = .ok (.aload_n 0, 1) := by decide +kernel
theorem dX9_sign_61 : decode cX9_sign 61 = .ok (.getfield 53, 3) := by decide +kernel
theorem dX9_sign_64 : decode cX9_sign 64 = .ok (.iload 6, 2) := by decide +kernel
theorem dX9_sign_66 : decode cX9_sign 66 = .ok (.baload, 1) := by decide +kernel
theorem dX9_sign_67 : decode cX9_sign 67 = .ok (.ifCond .eq 62, 3) := by decide +kernel
theorem dX9_sign_70 : decode cX9_sign 70 = .ok (.aload_n 0, 1) := by decide +kernel
theorem dX9_sign_71 : decode cX9_sign 71 = .ok (.getfield 62, 3) := by decide +kernel
theorem dX9_sign_74 : decode cX9_sign 74 = .ok (.iload 6, 2) := by decide +kernel
theorem dX9_sign_76 : decode cX9_sign 76 = .ok (.iaload, 1) := by decide +kernel
theorem dX9_sign_77 : decode cX9_sign 77 = .ok (.iload_n 1, 1) := by decide +kernel
theorem dX9_sign_78 : decode cX9_sign 78 = .ok (.if_icmp .ne 51, 3) := by decide +kernel
theorem dX9_sign_81 : decode cX9_sign 81 = .ok (.iload_n 3, 1) := by decide +kernel
theorem dX9_sign_82 : decode cX9_sign 82 = .ok (.i2l, 1) := by decide +kernel
theorem dX9_sign_83 : decode cX9_sign 83 = .ok (.ldc2_w 242, 3) := by decide +kernel
theorem dX9_sign_86 : decode cX9_sign 86 = .ok (.aload_n 0, 1) := by decide +kernel
theorem dX9_sign_87 : decode cX9_sign 87 = .ok (.getfield 59, 3) := by decide +kernel
theorem dX9_sign_90 : decode cX9_sign 90 = .ok (.iload 6, 2) := by decide +kernel
theorem dX9_sign_92 : decode cX9_sign 92 = .ok (.iaload, 1) := by decide +kernel
theorem dX9_sign_93 : decode cX9_sign 93 = .ok (.iload 5, 2) := by decide +kernel
theorem dX9_sign_95 : decode cX9_sign 95 = .ok (.isub, 1) := by decide +kernel
theorem dX9_sign_96 : decode cX9_sign 96 = .ok (.i2l, 1) := by decide +kernel
theorem dX9_sign_97 : decode cX9_sign 97 = .ok (.lmul, 1) := by decide +kernel
theorem dX9_sign_98 : decode cX9_sign 98 = .ok (.lcmp, 1) := by decide +kernel
theorem dX9_sign_99 : decode cX9_sign 99 = .ok (.ifCond .ne 30, 3) := by decide +kernel
theorem dX9_sign_102 : decode cX9_sign 102 = .ok (.lload 7, 2) := by decide +kernel
theorem dX9_sign_104 : decode cX9_sign 104 = .ok (.lconst 0, 1) := by decide +kernel
theorem dX9_sign_105 : decode cX9_sign 105 = .ok (.lcmp, 1) := by decide +kernel
theorem dX9_sign_106 : decode cX9_sign 106 = .ok (.ifCond .lt 23, 3) := by decide +kernel
theorem dX9_sign_109 : decode cX9_sign 109 = .ok (.lload 7, 2) := by decide +kernel
theorem dX9_sign_111 : decode cX9_sign 111 = .ok (.aload_n 0, 1) := by decide +kernel
theorem dX9_sign_112 : decode cX9_sign 112 = .ok (.getfield 7, 3) := by decide +kernel
theorem dX9_sign_115 : decode cX9_sign 115 = .ok (.iload 6, 2) := by decide +kernel
theorem dX9_sign_117 : decode cX9_sign 117 = .ok (.iaload, 1) := by decide +kernel
theorem dX9_sign_118 : decode cX9_sign 118 = .ok (.i2l, 1) := by decide +kernel
theorem dX9_sign_119 : decode cX9_sign 119 = .ok (.lcmp, 1) := by decide +kernel
theorem dX9_sign_120 : decode cX9_sign 120 = .ok (.ifCond .ge 9, 3) := by decide +kernel
theorem dX9_sign_123 : decode cX9_sign 123 = .ok (.bipush 65, 2) := by decide +kernel
theorem dX9_sign_125 : decode cX9_sign 125 = .ok (.iload 6, 2) := by decide +kernel
theorem dX9_sign_127 : decode cX9_sign 127 = .ok (.iadd, 1) := by decide +kernel
theorem dX9_sign_128 : decode cX9_sign 128 = .ok (.ireturn, 1) := by decide +kernel
theorem dX9_sign_129 : decode cX9_sign 129 = .ok (.iinc 6 1, 3) := by decide +kernel
theorem dX9_sign_132 : decode cX9_sign 132 = .ok (.goto (-101), 3) := by decide +kernel
theorem dX9_sign_135 : decode cX9_sign 135 = .ok (.iconst 0, 1) := by decide +kernel
theorem dX9_sign_136 : decode cX9_sign 136 = .ok (.istore 6, 2) := by decide +kernel
theorem dX9_sign_138 : decode cX9_sign 138 = .ok (.iload 6, 2) := by decide +kernel
theorem dX9_sign_140 : decode cX9_sign 140 = .ok (.aload_n 0, 1) := by decide +kernel
theorem dX9_sign_141 : decode cX9_sign 141 = .ok (.getfield 86, 3) := by decide +kernel
theorem dX9_sign_144 : decode cX9_sign 144 = .ok (.if_icmp .ge 137, 3) := by decide +kernel
theorem dX9_sign_147 : decode cX9_sign 147 = .ok (.iload_n 2, 1) := by decide +kernel
theorem dX9_sign_148 : decode cX9_sign 148 = .ok (.i2l, 1) := by decide +kernel
theorem dX9_sign_149 : decode cX9_sign 149 = .ok (.ldc2_w 240, 3) := by decide +kernel
theorem dX9_sign_152 : decode cX9_sign 152 = .ok (.aload_n 0, 1) := by decide +kernel
theorem dX9_sign_153 : decode cX9_sign 153 = .ok (.getfield 56, 3) := by decide +kernel
theorem dX9_sign_156 : decode cX9_sign 156 = .ok (.iload 6, 2) := by decide +kernel
theorem dX9_sign_158 : decode cX9_sign 158 = .ok (.iaload, 1) := by decide +kernel
theorem dX9_sign_159 : decode cX9_sign 159 = .ok (.iload 4, 2) := by decide +kernel
theorem dX9_sign_161 : decode cX9_sign 161 = .ok (.isub, 1) := by decide +kernel
theorem dX9_sign_162 : decode cX9_sign 162 = .ok (.i2l, 1) := by decide +kernel
theorem dX9_sign_163 : decode cX9_sign 163 = .ok (.lmul, 1) := by decide +kernel
theorem dX9_sign_164 : decode cX9_sign 164 = .ok (.lsub, 1) := by decide +kernel
theorem dX9_sign_165 : decode cX9_sign 165 = .ok (.aload_n 0, 1) := by decide +kernel
theorem dX9_sign_166 : decode cX9_sign 166 = .ok (.getfield 7, 3) := by decide +kernel
theorem dX9_sign_169 : decode cX9_sign 169 = .ok (.iload 6, 2) := by decide +kernel
theorem dX9_sign_171 : decode cX9_sign 171 = .ok (.iaload, 1) := by decide +kernel
theorem dX9_sign_172 : decode cX9_sign 172 = .ok (.i2l, 1) := by decide +kernel
theorem dX9_sign_173 : decode cX9_sign 173 = .ok (.lsub, 1) := by decide +kernel
theorem dX9_sign_174 : decode cX9_sign 174 = .ok (.lstore 7, 2) := by decide +kernel
theorem dX9_sign_176 : decode cX9_sign 176 = .ok (.aload_n 0, 1) := by decide +kernel
theorem dX9_sign_177 : decode cX9_sign 177 = .ok (.getfield 53, 3) := by decide +kernel
theorem dX9_sign_180 : decode cX9_sign 180 = .ok (.iload 6, 2) := by decide +kernel
theorem dX9_sign_182 : decode cX9_sign 182 = .ok (.baload, 1) := by decide +kernel
theorem dX9_sign_183 : decode cX9_sign 183 = .ok (.ifCond .eq 92, 3) := by decide +kernel
theorem dX9_sign_186 : decode cX9_sign 186 = .ok (.aload_n 0, 1) := by decide +kernel
theorem dX9_sign_187 : decode cX9_sign 187 = .ok (.getfield 62, 3) := by decide +kernel
theorem dX9_sign_190 : decode cX9_sign 190 = .ok (.iload 6, 2) := by decide +kernel
theorem dX9_sign_192 : decode cX9_sign 192 = .ok (.iaload, 1) := by decide +kernel
theorem dX9_sign_193 : decode cX9_sign 193 = .ok (.iload_n 1, 1) := by decide +kernel
theorem dX9_sign_194 : decode cX9_sign 194 = .ok (.if_icmp .ne 81, 3) := by decide +kernel
theorem dX9_sign_197 : decode cX9_sign 197 = .ok (.iload_n 3, 1) := by decide +kernel
theorem dX9_sign_198 : decode cX9_sign 198 = .ok (.i2l, 1) := by decide +kernel
theorem dX9_sign_199 : decode cX9_sign 199 = .ok (.ldc2_w 242, 3) := by decide +kernel
theorem dX9_sign_202 : decode cX9_sign 202 = .ok (.aload_n 0, 1) := by decide +kernel
theorem dX9_sign_203 : decode cX9_sign 203 = .ok (.getfield 59, 3) := by decide +kernel
theorem dX9_sign_206 : decode cX9_sign 206 = .ok (.iload 6, 2) := by decide +kernel
theorem dX9_sign_208 : decode cX9_sign 208 = .ok (.iaload, 1) := by decide +kernel
theorem dX9_sign_209 : decode cX9_sign 209 = .ok (.iload 5, 2) := by decide +kernel
theorem dX9_sign_211 : decode cX9_sign 211 = .ok (.isub, 1) := by decide +kernel
theorem dX9_sign_212 : decode cX9_sign 212 = .ok (.i2l, 1) := by decide +kernel
theorem dX9_sign_213 : decode cX9_sign 213 = .ok (.lmul, 1) := by decide +kernel
theorem dX9_sign_214 : decode cX9_sign 214 = .ok (.lcmp, 1) := by decide +kernel
theorem dX9_sign_215 : decode cX9_sign 215 = .ok (.ifCond .ne 60, 3) := by decide +kernel
theorem dX9_sign_218 : decode cX9_sign 218 = .ok (.lload 7, 2) := by decide +kernel
theorem dX9_sign_220 : decode cX9_sign 220 = .ok (.lconst 0, 1) := by decide +kernel
theorem dX9_sign_221 : decode cX9_sign 221 = .ok (.lcmp, 1) := by decide +kernel
theorem dX9_sign_222 : decode cX9_sign 222 = .ok (.ifCond .ne 17, 3) := by decide +kernel
theorem dX9_sign_225 : decode cX9_sign 225 = .ok (.aload_n 0, 1) := by decide +kernel
theorem dX9_sign_226 : decode cX9_sign 226 = .ok (.iload 6, 2) := by decide +kernel
theorem dX9_sign_228 : decode cX9_sign 228 = .ok (.bipush 8, 2) := by decide +kernel
theorem dX9_sign_230 : decode cX9_sign 230 = .ok (.invokevirtual 105, 3) := by decide +kernel
theorem dX9_sign_233 : decode cX9_sign 233 = .ok (.ifCond .lt 6, 3) := by decide +kernel
theorem dX9_sign_236 : decode cX9_sign 236 = .ok (.bipush 94, 2) := by decide +kernel
theorem dX9_sign_238 : decode cX9_sign 238 = .ok (.ireturn, 1) := by decide +kernel
theorem dX9_sign_239 : decode cX9_sign 239 = .ok (.lload 7, 2) := by decide +kernel
theorem dX9_sign_241 : decode cX9_sign 241 = .ok (.aload_n 0, 1) := by decide +kernel
theorem dX9_sign_242 : decode cX9_sign 242 = .ok (.iload 6, 2) := by decide +kernel
theorem dX9_sign_244 : decode cX9_sign 244 = .ok (.bipush 8, 2) := by decide +kernel
theorem dX9_sign_246 : decode cX9_sign 246 = .ok (.invokevirtual 105, 3) := by decide +kernel
theorem dX9_sign_249 : decode cX9_sign 249 = .ok (.ifCond .lt 7, 3) := by decide +kernel
theorem dX9_sign_252 : decode cX9_sign 252 = .ok (.lconst 1, 1) := by decide +kernel
theorem dX9_sign_253 : decode cX9_sign 253 = .ok (.goto 4, 3) := by decide +kernel
theorem dX9_sign_256 : decode cX9_sign 256 = .ok (.lconst 0, 1) := by decide +kernel
theorem dX9_sign_257 : decode cX9_sign 257 = .ok (.lcmp, 1) := by decide +kernel
theorem dX9_sign_258 : decode cX9_sign 258 = .ok (.ifCond .ne 17, 3) := by decide +kernel
theorem dX9_sign_261 : decode cX9_sign 261 = .ok (.aload_n 0, 1) := by decide +kernel
theorem dX9_sign_262 : decode cX9_sign 262 = .ok (.iload 6, 2) := by decide +kernel
theorem dX9_sign_264 : decode cX9_sign 264 = .ok (.bipush 9, 2) := by decide +kernel
theorem dX9_sign_266 : decode cX9_sign 266 = .ok (.invokevirtual 105, 3) := by decide +kernel
theorem dX9_sign_269 : decode cX9_sign 269 = .ok (.ifCond .lt 6, 3) := by decide +kernel
theorem dX9_sign_272 : decode cX9_sign 272 = .ok (.bipush 118, 2) := by decide +kernel
theorem dX9_sign_274 : decode cX9_sign 274 = .ok (.ireturn, 1) := by decide +kernel
theorem dX9_sign_275 : decode cX9_sign 275 = .ok (.iinc 6 1, 3) := by decide +kernel
theorem dX9_sign_278 : decode cX9_sign 278 = .ok (.goto (-140), 3) := by decide +kernel
theorem dX9_sign_281 : decode cX9_sign 281 = .ok (.iconst 0, 1) := by decide +kernel
theorem dX9_sign_282 : decode cX9_sign 282 = .ok (.istore 6, 2) := by decide +kernel
theorem dX9_sign_284 : decode cX9_sign 284 = .ok (.iload 6, 2) := by decide +kernel
theorem dX9_sign_286 : decode cX9_sign 286 = .ok (.aload_n 0, 1) := by decide +kernel
theorem dX9_sign_287 : decode cX9_sign 287 = .ok (.getfield 94, 3) := by decide +kernel
theorem dX9_sign_290 : decode cX9_sign 290 = .ok (.if_icmp .ge 122, 3) := by decide +kernel
theorem dX9_sign_293 : decode cX9_sign 293 = .ok (.aload_n 0, 1) := by decide +kernel
theorem dX9_sign_294 : decode cX9_sign 294 = .ok (.getfield 19, 3) := by decide +kernel
theorem dX9_sign_297 : decode cX9_sign 297 = .ok (.iload 6, 2) := by decide +kernel
theorem dX9_sign_299 : decode cX9_sign 299 = .ok (.iaload, 1) := by decide +kernel
theorem dX9_sign_300 : decode cX9_sign 300 = .ok (.istore 7, 2) := by decide +kernel
theorem dX9_sign_302 : decode cX9_sign 302 = .ok (.aload_n 0, 1) := by decide +kernel
theorem dX9_sign_303 : decode cX9_sign 303 = .ok (.iload 6, 2) := by decide +kernel
theorem dX9_sign_305 : decode cX9_sign 305 = .ok (.invokevirtual 145, 3) := by decide +kernel
theorem dX9_sign_308 : decode cX9_sign 308 = .ok (.ifCond .ne 98, 3) := by decide +kernel
theorem dX9_sign_311 : decode cX9_sign 311 = .ok (.aload_n 0, 1) := by decide +kernel
theorem dX9_sign_312 : decode cX9_sign 312 = .ok (.getfield 53, 3) := by decide +kernel
theorem dX9_sign_315 : decode cX9_sign 315 = .ok (.iload 7, 2) := by decide +kernel
theorem dX9_sign_317 : decode cX9_sign 317 = .ok (.baload, 1) := by decide +kernel
theorem dX9_sign_318 : decode cX9_sign 318 = .ok (.ifCond .eq 88, 3) := by decide +kernel
theorem dX9_sign_321 : decode cX9_sign 321 = .ok (.aload_n 0, 1) := by decide +kernel
theorem dX9_sign_322 : decode cX9_sign 322 = .ok (.getfield 53, 3) := by decide +kernel
theorem dX9_sign_325 : decode cX9_sign 325 = .ok (.aload_n 0, 1) := by decide +kernel
theorem dX9_sign_326 : decode cX9_sign 326 = .ok (.getfield 25, 3) := by decide +kernel
theorem dX9_sign_329 : decode cX9_sign 329 = .ok (.iload 6, 2) := by decide +kernel
theorem dX9_sign_331 : decode cX9_sign 331 = .ok (.iaload, 1) := by decide +kernel
theorem dX9_sign_332 : decode cX9_sign 332 = .ok (.baload, 1) := by decide +kernel
theorem dX9_sign_333 : decode cX9_sign 333 = .ok (.ifCond .eq 73, 3) := by decide +kernel
theorem dX9_sign_336 : decode cX9_sign 336 = .ok (.aload_n 0, 1) := by decide +kernel
theorem dX9_sign_337 : decode cX9_sign 337 = .ok (.getfield 62, 3) := by decide +kernel
theorem dX9_sign_340 : decode cX9_sign 340 = .ok (.iload 7, 2) := by decide +kernel
theorem dX9_sign_342 : decode cX9_sign 342 = .ok (.iaload, 1) := by decide +kernel
theorem dX9_sign_343 : decode cX9_sign 343 = .ok (.iload_n 1, 1) := by decide +kernel
theorem dX9_sign_344 : decode cX9_sign 344 = .ok (.if_icmp .ne 62, 3) := by decide +kernel
theorem dX9_sign_347 : decode cX9_sign 347 = .ok (.aload_n 0, 1) := by decide +kernel
theorem dX9_sign_348 : decode cX9_sign 348 = .ok (.getfield 22, 3) := by decide +kernel
theorem dX9_sign_351 : decode cX9_sign 351 = .ok (.iload 6, 2) := by decide +kernel
theorem dX9_sign_353 : decode cX9_sign 353 = .ok (.iaload, 1) := by decide +kernel
theorem dX9_sign_354 : decode cX9_sign 354 = .ok (.bipush 7, 2) := by decide +kernel
theorem dX9_sign_356 : decode cX9_sign 356 = .ok (.if_icmp .le 6, 3) := by decide +kernel
theorem dX9_sign_359 : decode cX9_sign 359 = .ok (.goto 47, 3) := by decide +kernel
theorem dX9_sign_362 : decode cX9_sign 362 = .ok (.aload_n 0, 1) := by decide +kernel
theorem dX9_sign_363 : decode cX9_sign 363 = .ok (.iload 6, 2) := by decide +kernel
theorem dX9_sign_365 : decode cX9_sign 365 = .ok (.invokevirtual 148, 3) := by decide +kernel
theorem dX9_sign_368 : decode cX9_sign 368 = .ok (.istore 8, 2) := by decide +kernel
theorem dX9_sign_370 : decode cX9_sign 370 = .ok (.iload 8, 2) := by decide +kernel
theorem dX9_sign_372 : decode cX9_sign 372 = .ok (.ifCond .ne 8, 3) := by decide +kernel
theorem dX9_sign_375 : decode cX9_sign 375 = .ok (.bipush 32, 2) := by decide +kernel
theorem dX9_sign_377 : decode cX9_sign 377 = .ok (.goto 17, 3) := by decide +kernel
theorem dX9_sign_380 : decode cX9_sign 380 = .ok (.aload_n 0, 1) := by decide +kernel
theorem dX9_sign_381 : decode cX9_sign 381 = .ok (.iload 6, 2) := by decide +kernel
theorem dX9_sign_383 : decode cX9_sign 383 = .ok (.iload 8, 2) := by decide +kernel
theorem dX9_sign_385 : decode cX9_sign 385 = .ok (.iload_n 2, 1) := by decide +kernel
theorem dX9_sign_386 : decode cX9_sign 386 = .ok (.iload_n 3, 1) := by decide +kernel
theorem dX9_sign_387 : decode cX9_sign 387 = .ok (.iload 4, 2) := by decide +kernel
theorem dX9_sign_389 : decode cX9_sign 389 = .ok (.iload 5, 2) := by decide +kernel
theorem dX9_sign_391 : decode cX9_sign 391 = .ok (.invokevirtual 244, 3) := by decide +kernel
theorem dX9_sign_394 : decode cX9_sign 394 = .ok (.istore 9, 2) := by decide +kernel
theorem dX9_sign_396 : decode cX9_sign 396 = .ok (.iload 9, 2) := by decide +kernel
theorem dX9_sign_398 : decode cX9_sign 398 = .ok (.bipush 32, 2) := by decide +kernel
theorem dX9_sign_400 : decode cX9_sign 400 = .ok (.if_icmp .eq 6, 3) := by decide +kernel
theorem dX9_sign_403 : decode cX9_sign 403 = .ok (.iload 9, 2) := by decide +kernel
theorem dX9_sign_405 : decode cX9_sign 405 = .ok (.ireturn, 1) := by decide +kernel
theorem dX9_sign_406 : decode cX9_sign 406 = .ok (.iinc 6 1, 3) := by decide +kernel
theorem dX9_sign_409 : decode cX9_sign 409 = .ok (.goto (-125), 3) := by decide +kernel
theorem dX9_sign_412 : decode cX9_sign 412 = .ok (.bipush 32, 2) := by decide +kernel
theorem dX9_sign_414 : decode cX9_sign 414 = .ok (.ireturn, 1) := by decide +kernel
theorem dX9_lineAt_0 : decode cX9_lineAt 0 = .ok (.aload_n 0, 1) := by decide +kernel
theorem dX9_lineAt_1 : decode cX9_lineAt 1 = .ok (.getfield 19, 3) := by decide +kernel
theorem dX9_lineAt_4 : decode cX9_lineAt 4 = .ok (.iload_n 1, 1) := by decide +kernel
theorem dX9_lineAt_5 : decode cX9_lineAt 5 = .ok (.iaload, 1) := by decide +kernel
theorem dX9_lineAt_6 : decode cX9_lineAt 6 = .ok (.istore 7, 2) := by decide +kernel
theorem dX9_lineAt_8 : decode cX9_lineAt 8 = .ok (.aload_n 0, 1) := by decide +kernel
theorem dX9_lineAt_9 : decode cX9_lineAt 9 = .ok (.getfield 25, 3) := by decide +kernel
theorem dX9_lineAt_12 : decode cX9_lineAt 12 = .ok (.iload_n 1, 1) := by decide +kernel
theorem dX9_lineAt_13 : decode cX9_lineAt 13 = .ok (.iaload, 1) := by decide +kernel
theorem dX9_lineAt_14 : decode cX9_lineAt 14 = .ok (.istore 8, 2) := by decide +kernel
theorem dX9_lineAt_16 : decode cX9_lineAt 16 = .ok (.aload_n 0, 1) := by decide +kernel
theorem dX9_lineAt_17 : decode cX9_lineAt 17 = .ok (.getfield 22, 3) := by decide +kernel
theorem dX9_lineAt_20 : decode cX9_lineAt 20 = .ok (.iload_n 1, 1) := by decide +kernel
theorem dX9_lineAt_21 : decode cX9_lineAt 21 = .ok (.iaload, 1) := by decide +kernel
theorem dX9_lineAt_22 : decode cX9_lineAt 22 = .ok (.istore 9, 2) := by decide +kernel
theorem dX9_lineAt_24 : decode cX9_lineAt 24 = .ok (.iload 9, 2) := by decide +kernel
theorem dX9_lineAt_26 : decode cX9_lineAt 26 = .ok (.iconst 2, 1) := by decide +kernel
theorem dX9_lineAt_27 : decode cX9_lineAt 27 = .ok (.if_icmp .eq 10, 3) := by decide +kernel
theorem dX9_lineAt_30 : decode cX9_lineAt 30 = .ok (.iload 9, 2) := by decide +kernel
theorem dX9_lineAt_32 : decode cX9_lineAt 32 = .ok (.bipush 6, 2) := by decide +kernel
theorem dX9_lineAt_34 : decode cX9_lineAt 34 = .ok (.if_icmp .ne 112, 3) := by decide +kernel
theorem dX9_lineAt_37 : decode cX9_lineAt 37 = .ok (.iload 9, 2) := by decide +kernel
theorem dX9_lineAt_39 : decode cX9_lineAt 39 = .ok (.iconst 2, 1) := by decide +kernel
theorem dX9_lineAt_40 : decode cX9_lineAt 40 = .ok (.if_icmp .ne 8, 3) := by decide +kernel
theorem dX9_lineAt_43 : decode cX9_lineAt 43 = .ok (.iload 7, 2) := by decide +kernel
theorem dX9_lineAt_45 : decode cX9_lineAt 45 = .ok (.goto 5, 3) := by decide +kernel
theorem dX9_lineAt_48 : decode cX9_lineAt 48 = .ok (.iload 8, 2) := by decide +kernel
theorem dX9_lineAt_50 : decode cX9_lineAt 50 = .ok (.istore 10, 2) := by decide +kernel
theorem dX9_lineAt_52 : decode cX9_lineAt 52 = .ok (.iload 9, 2) := by decide +kernel
theorem dX9_lineAt_54 : decode cX9_lineAt 54 = .ok (.iconst 2, 1) := by decide +kernel
theorem dX9_lineAt_55 : decode cX9_lineAt 55 = .ok (.if_icmp .ne 8, 3) := by decide +kernel
theorem dX9_lineAt_58 : decode cX9_lineAt 58 = .ok (.iload 8, 2) := by decide +kernel
theorem dX9_lineAt_60 : decode cX9_lineAt 60 = .ok (.goto 5, 3) := by decide +kernel
theorem dX9_lineAt_63 : decode cX9_lineAt 63 = .ok (.iload 7, 2) := by decide +kernel
theorem dX9_lineAt_65 : decode cX9_lineAt 65 = .ok (.istore 11, 2) := by decide +kernel
theorem dX9_lineAt_67 : decode cX9_lineAt 67 = .ok (.iload 4, 2) := by decide +kernel
theorem dX9_lineAt_69 : decode cX9_lineAt 69 = .ok (.iconst 2, 1) := by decide +kernel
theorem dX9_lineAt_70 : decode cX9_lineAt 70 = .ok (.aload_n 0, 1) := by decide +kernel
theorem dX9_lineAt_71 : decode cX9_lineAt 71 = .ok (.getfield 59, 3) := by decide +kernel
theorem dX9_lineAt_74 : decode cX9_lineAt 74 = .ok (.iload 7, 2) := by decide +kernel
theorem dX9_lineAt_76 : decode cX9_lineAt 76 = .ok (.iaload, 1) := by decide +kernel
theorem dX9_lineAt_77 : decode cX9_lineAt 77 = .ok (.iload 6, 2) := by decide +kernel
theorem dX9_lineAt_79 : decode cX9_lineAt 79 = .ok (.isub, 1) := by decide +kernel
theorem dX9_lineAt_80 : decode cX9_lineAt 80 = .ok (.imul, 1) := by decide +kernel
theorem dX9_lineAt_81 : decode cX9_lineAt 81 = .ok (.if_icmp .ne 49, 3) := by decide +kernel
theorem dX9_lineAt_84 : decode cX9_lineAt 84 = .ok (.iload_n 3, 1) := by decide +kernel
theorem dX9_lineAt_85 : decode cX9_lineAt 85 = .ok (.bipush 6, 2) := by decide +kernel
theorem dX9_lineAt_87 : decode cX9_lineAt 87 = .ok (.aload_n 0, 1) := by decide +kernel
theorem dX9_lineAt_88 : decode cX9_lineAt 88 = .ok (.getfield 56, 3) := by decide +kernel
theorem dX9_lineAt_91 : decode cX9_lineAt 91 = .ok (.iload 10, 2) := by decide +kernel
theorem dX9_lineAt_93 : decode cX9_lineAt 93 = .ok (.iaload, 1) := by decide +kernel
theorem dX9_lineAt_94 : decode cX9_lineAt 94 = .ok (.iload 5, 2) := by decide +kernel
theorem dX9_lineAt_96 : decode cX9_lineAt 96 = .ok (.isub, 1) := by decide +kernel
theorem dX9_lineAt_97 : decode cX9_lineAt 97 = .ok (.imul, 1) := by decide +kernel
theorem dX9_lineAt_98 : decode cX9_lineAt 98 = .ok (.aload_n 0, 1) := by decide +kernel
theorem dX9_lineAt_99 : decode cX9_lineAt 99 = .ok (.getfield 7, 3) := by decide +kernel
theorem dX9_lineAt_102 : decode cX9_lineAt 102 = .ok (.iload 10, 2) := by decide +kernel
theorem dX9_lineAt_104 : decode cX9_lineAt 104 = .ok (.iaload, 1) := by decide +kernel
theorem dX9_lineAt_105 : decode cX9_lineAt 105 = .ok (.iadd, 1) := by decide +kernel
theorem dX9_lineAt_106 : decode cX9_lineAt 106 = .ok (.if_icmp .lt 24, 3) := by decide +kernel
theorem dX9_lineAt_109 : decode cX9_lineAt 109 = .ok (.iload_n 3, 1) := by decide +kernel
theorem dX9_lineAt_110 : decode cX9_lineAt 110 = .ok (.bipush 6, 2) := by decide +kernel
theorem dX9_lineAt_112 : decode cX9_lineAt 112 = .ok (.aload_n 0, 1) := by decide +kernel
theorem dX9_lineAt_113 : decode cX9_lineAt 113 = .ok (.getfield 56, 3) := by decide +kernel
theorem dX9_lineAt_116 : decode cX9_lineAt 116 = .ok (.iload 11, 2) := by decide +kernel
theorem dX9_lineAt_118 : decode cX9_lineAt 118 = .ok (.iaload, 1) := by decide +kernel
theorem dX9_lineAt_119 : decode cX9_lineAt 119 = .ok (.iload 5, 2) := by decide +kernel
theorem dX9_lineAt_121 : decode cX9_lineAt 121 = .ok (.isub, 1) := by decide +kernel
theorem dX9_lineAt_122 : decode cX9_lineAt 122 = .ok (.imul, 1) := by decide +kernel
theorem dX9_lineAt_123 : decode cX9_lineAt 123 = .ok (.if_icmp .ge 7, 3) := by decide +kernel
theorem dX9_lineAt_126 : decode cX9_lineAt 126 = .ok (.iconst 1, 1) := by decide +kernel
theorem dX9_lineAt_127 : decode cX9_lineAt 127 = .ok (.goto 4, 3) := by decide +kernel
theorem dX9_lineAt_130 : decode cX9_lineAt 130 = .ok (.iconst 0, 1) := by decide +kernel
theorem dX9_lineAt_131 : decode cX9_lineAt 131 = .ok (.istore 12, 2) := by decide +kernel
theorem dX9_lineAt_133 : decode cX9_lineAt 133 = .ok (.iload 12, 2) := by decide +kernel
theorem dX9_lineAt_135 : decode cX9_lineAt 135 = .ok (.ifCond .eq 8, 3) := by decide +kernel
theorem dX9_lineAt_138 : decode cX9_lineAt 138 = .ok (.bipush 45, 2) := by decide +kernel
theorem dX9_lineAt_140 : decode cX9_lineAt 140 = .ok (.goto 5, 3) := by decide +kernel
theorem dX9_lineAt_143 : decode cX9_lineAt 143 = .ok (.bipush 32, 2) := by decide +kernel
theorem dX9_lineAt_145 : decode cX9_lineAt 145 = .ok (.ireturn, 1) := by decide +kernel
theorem dX9_lineAt_146 : decode cX9_lineAt 146 = .ok (.iload 9, 2) := by decide +kernel
theorem dX9_lineAt_148 : decode cX9_lineAt 148 = .ok (.ifCond .eq 9, 3) := by decide +kernel
theorem dX9_lineAt_151 : decode cX9_lineAt 151 = .ok (.iload 9, 2) := by decide +kernel
theorem dX9_lineAt_153 : decode cX9_lineAt 153 = .ok (.iconst 4, 1) := by decide +kernel
theorem dX9_lineAt_154 : decode cX9_lineAt 154 = .ok (.if_icmp .ne 102, 3) := by decide +kernel
theorem dX9_lineAt_157 : decode cX9_lineAt 157 = .ok (.aload_n 0, 1) := by decide +kernel
theorem dX9_lineAt_158 : decode cX9_lineAt 158 = .ok (.getfield 59, 3) := by decide +kernel
theorem dX9_lineAt_161 : decode cX9_lineAt 161 = .ok (.iload 7, 2) := by decide +kernel
theorem dX9_lineAt_163 : decode cX9_lineAt 163 = .ok (.iaload, 1) := by decide +kernel
theorem dX9_lineAt_164 : decode cX9_lineAt 164 = .ok (.aload_n 0, 1) := by decide +kernel
theorem dX9_lineAt_165 : decode cX9_lineAt 165 = .ok (.getfield 59, 3) := by decide +kernel
theorem dX9_lineAt_168 : decode cX9_lineAt 168 = .ok (.iload 8, 2) := by decide +kernel
theorem dX9_lineAt_170 : decode cX9_lineAt 170 = .ok (.iaload, 1) := by decide +kernel
theorem dX9_lineAt_171 : decode cX9_lineAt 171 = .ok (.if_icmp .ge 13, 3) := by decide +kernel
theorem dX9_lineAt_174 : decode cX9_lineAt 174 = .ok (.aload_n 0, 1) := by decide +kernel
theorem dX9_lineAt_175 : decode cX9_lineAt 175 = .ok (.getfield 59, 3) := by decide +kernel
theorem dX9_lineAt_178 : decode cX9_lineAt 178 = .ok (.iload 7, 2) := by decide +kernel
theorem dX9_lineAt_180 : decode cX9_lineAt 180 = .ok (.iaload, 1) := by decide +kernel
theorem dX9_lineAt_181 : decode cX9_lineAt 181 = .ok (.goto 10, 3) := by decide +kernel
theorem dX9_lineAt_184 : decode cX9_lineAt 184 = .ok (.aload_n 0, 1) := by decide +kernel
theorem dX9_lineAt_185 : decode cX9_lineAt 185 = .ok (.getfield 59, 3) := by decide +kernel
theorem dX9_lineAt_188 : decode cX9_lineAt 188 = .ok (.iload 8, 2) := by decide +kernel
theorem dX9_lineAt_190 : decode cX9_lineAt 190 = .ok (.iaload, 1) := by decide +kernel
theorem dX9_lineAt_191 : decode cX9_lineAt 191 = .ok (.istore 10, 2) := by decide +kernel
theorem dX9_lineAt_193 : decode cX9_lineAt 193 = .ok (.iload_n 3, 1) := by decide +kernel
theorem dX9_lineAt_194 : decode cX9_lineAt 194 = .ok (.bipush 6, 2) := by decide +kernel
theorem dX9_lineAt_196 : decode cX9_lineAt 196 = .ok (.aload_n 0, 1) := by decide +kernel
theorem dX9_lineAt_197 : decode cX9_lineAt 197 = .ok (.getfield 56, 3) := by decide +kernel
theorem dX9_lineAt_200 : decode cX9_lineAt 200 = .ok (.iload 7, 2) := by decide +kernel
theorem dX9_lineAt_202 : decode cX9_lineAt 202 = .ok (.iaload, 1) := by decide +kernel
theorem dX9_lineAt_203 : decode cX9_lineAt 203 = .ok (.iload 5, 2) := by decide +kernel
theorem dX9_lineAt_205 : decode cX9_lineAt 205 = .ok (.isub, 1) := by decide +kernel
theorem dX9_lineAt_206 : decode cX9_lineAt 206 = .ok (.imul, 1) := by decide +kernel
theorem dX9_lineAt_207 : decode cX9_lineAt 207 = .ok (.if_icmp .ne 33, 3) := by decide +kernel
theorem dX9_lineAt_210 : decode cX9_lineAt 210 = .ok (.iload 4, 2) := by decide +kernel
theorem dX9_lineAt_212 : decode cX9_lineAt 212 = .ok (.iconst 2, 1) := by decide +kernel
theorem dX9_lineAt_213 : decode cX9_lineAt 213 = .ok (.iload 10, 2) := by decide +kernel
theorem dX9_lineAt_215 : decode cX9_lineAt 215 = .ok (.iload 6, 2) := by decide +kernel
theorem dX9_lineAt_217 : decode cX9_lineAt 217 = .ok (.isub, 1) := by decide +kernel
theorem dX9_lineAt_218 : decode cX9_lineAt 218 = .ok (.imul, 1) := by decide +kernel
theorem dX9_lineAt_219 : decode cX9_lineAt 219 = .ok (.if_icmp .le 21, 3) := by decide +kernel
theorem dX9_lineAt_222 : decode cX9_lineAt 222 = .ok (.iload 4, 2) := by decide +kernel
theorem dX9_lineAt_224 : decode cX9_lineAt 224 = .ok (.iconst 2, 1) := by decide +kernel
theorem dX9_lineAt_225 : decode cX9_lineAt 225 = .ok (.iload 10, 2) := by decide +kernel
theorem dX9_lineAt_227 : decode cX9_lineAt 227 = .ok (.iload_n 2, 1) := by decide +kernel
theorem dX9_lineAt_228 : decode cX9_lineAt 228 = .ok (.iadd, 1) := by decide +kernel
theorem dX9_lineAt_229 : decode cX9_lineAt 229 = .ok (.iload 6, 2) := by decide +kernel
theorem dX9_lineAt_231 : decode cX9_lineAt 231 = .ok (.isub, 1) := by decide +kernel
theorem dX9_lineAt_232 : decode cX9_lineAt 232 = .ok (.imul, 1) := by decide +kernel
theorem dX9_lineAt_233 : decode cX9_lineAt 233 = .ok (.if_icmp .ge 7, 3) := by decide +kernel
theorem dX9_lineAt_236 : decode cX9_lineAt 236 = .ok (.iconst 1, 1) := by decide +kernel
theorem dX9_lineAt_237 : decode cX9_lineAt 237 = .ok (.goto 4, 3) := by decide +kernel
theorem dX9_lineAt_240 : decode cX9_lineAt 240 = .ok (.iconst 0, 1) := by decide +kernel
theorem dX9_lineAt_241 : decode cX9_lineAt 241 = .ok (.istore 11, 2) := by decide +kernel
theorem dX9_lineAt_243 : decode cX9_lineAt 243 = .ok (.iload 11, 2) := by decide +kernel
theorem dX9_lineAt_245 : decode cX9_lineAt 245 = .ok (.ifCond .eq 8, 3) := by decide +kernel
theorem dX9_lineAt_248 : decode cX9_lineAt 248 = .ok (.bipush 124, 2) := by decide +kernel
theorem dX9_lineAt_250 : decode cX9_lineAt 250 = .ok (.goto 5, 3) := by decide +kernel
theorem dX9_lineAt_253 : decode cX9_lineAt 253 = .ok (.bipush 32, 2) := by decide +kernel
theorem dX9_lineAt_255 : decode cX9_lineAt 255 = .ok (.ireturn, 1) := by decide +kernel
theorem dX9_lineAt_256 : decode cX9_lineAt 256 = .ok (.iconst 0, 1) := by decide +kernel
theorem dX9_lineAt_257 : decode cX9_lineAt 257 = .ok (.istore 10, 2) := by decide +kernel
theorem dX9_lineAt_259 : decode cX9_lineAt 259 = .ok (.iload 10, 2) := by decide +kernel
theorem dX9_lineAt_261 : decode cX9_lineAt 261 = .ok (.iload_n 2, 1) := by decide +kernel
theorem dX9_lineAt_262 : decode cX9_lineAt 262 = .ok (.if_icmp .ge 131, 3) := by decide +kernel
theorem dX9_lineAt_265 : decode cX9_lineAt 265 = .ok (.aload_n 0, 1) := by decide +kernel
theorem dX9_lineAt_266 : decode cX9_lineAt 266 = .ok (.getfield 56, 3) := by decide +kernel
theorem dX9_lineAt_269 : decode cX9_lineAt 269 = .ok (.iload 7, 2) := by decide +kernel
theorem dX9_lineAt_271 : decode cX9_lineAt 271 = .ok (.iaload, 1) := by decide +kernel
theorem dX9_lineAt_272 : decode cX9_lineAt 272 = .ok (.iload 10, 2) := by decide +kernel
theorem dX9_lineAt_274 : decode cX9_lineAt 274 = .ok (.iload 9, 2) := by decide +kernel
theorem dX9_lineAt_276 : decode cX9_lineAt 276 = .ok (.invokestatic 132, 3) := by decide +kernel
theorem dX9_lineAt_279 : decode cX9_lineAt 279 = .ok (.imul, 1) := by decide +kernel
theorem dX9_lineAt_280 : decode cX9_lineAt 280 = .ok (.iadd, 1) := by decide +kernel
theorem dX9_lineAt_281 : decode cX9_lineAt 281 = .ok (.istore 11, 2) := by decide +kernel
theorem dX9_lineAt_283 : decode cX9_lineAt 283 = .ok (.aload_n 0, 1) := by decide +kernel
theorem dX9_lineAt_284 : decode cX9_lineAt 284 = .ok (.getfield 59, 3) := by decide +kernel
theorem dX9_lineAt_287 : decode cX9_lineAt 287 = .ok (.iload 7, 2) := by decide +kernel
theorem dX9_lineAt_289 : decode cX9_lineAt 289 = .ok (.iaload, 1) := by decide +kernel
theorem dX9_lineAt_290 : decode cX9_lineAt 290 = .ok (.iload 10, 2) := by decide +kernel
theorem dX9_lineAt_292 : decode cX9_lineAt 292 = .ok (.iload 9, 2) := by decide +kernel
theorem dX9_lineAt_294 : decode cX9_lineAt 294 = .ok (.invokestatic 135, 3) := by decide +kernel
theorem dX9_lineAt_297 : decode cX9_lineAt 297 = .ok (.imul, 1) := by decide +kernel
theorem dX9_lineAt_298 : decode cX9_lineAt 298 = .ok (.iadd, 1) := by decide +kernel
theorem dX9_lineAt_299 : decode cX9_lineAt 299 = .ok (.istore 12, 2) := by decide +kernel
theorem dX9_lineAt_301 : decode cX9_lineAt 301 = .ok (.iload 9, 2) := by decide +kernel
theorem dX9_lineAt_303 : decode cX9_lineAt 303 = .ok (.invokestatic 132, 3) := by decide +kernel
theorem dX9_lineAt_306 : decode cX9_lineAt 306 = .ok (.ifCond .le 8, 3) := by decide +kernel
theorem dX9_lineAt_309 : decode cX9_lineAt 309 = .ok (.iload 11, 2) := by decide +kernel
theorem dX9_lineAt_311 : decode cX9_lineAt 311 = .ok (.goto 7, 3) := by decide +kernel
theorem dX9_lineAt_314 : decode cX9_lineAt 314 = .ok (.iload 11, 2) := by decide +kernel
theorem dX9_lineAt_316 : decode cX9_lineAt 316 = .ok (.iconst 1, 1) := by decide +kernel
theorem dX9_lineAt_317 : decode cX9_lineAt 317 = .ok (.isub, 1) := by decide +kernel
theorem dX9_lineAt_318 : decode cX9_lineAt 318 = .ok (.istore 13, 2) := by decide +kernel
theorem dX9_lineAt_320 : decode cX9_lineAt 320 = .ok (.iload 9, 2) := by decide +kernel
theorem dX9_lineAt_322 : decode cX9_lineAt 322 = .ok (.invokestatic 135, 3) := by decide +kernel
theorem dX9_lineAt_325 : decode cX9_lineAt 325 = .ok (.ifCond .le 8, 3) := by decide +kernel
theorem dX9_lineAt_328 : decode cX9_lineAt 328 = .ok (.iload 12, 2) := by decide +kernel
theorem dX9_lineAt_330 : decode cX9_lineAt 330 = .ok (.goto 7, 3) := by decide +kernel
theorem dX9_lineAt_333 : decode cX9_lineAt 333 = .ok (.iload 12, 2) := by decide +kernel
theorem dX9_lineAt_335 : decode cX9_lineAt 335 = .ok (.iconst 1, 1) := by decide +kernel
theorem dX9_lineAt_336 : decode cX9_lineAt 336 = .ok (.isub, 1) := by decide +kernel
theorem dX9_lineAt_337 : decode cX9_lineAt 337 = .ok (.istore 14, 2) := by decide +kernel
theorem dX9_lineAt_339 : decode cX9_lineAt 339 = .ok (.iload_n 3, 1) := by decide +kernel
theorem dX9_lineAt_340 : decode cX9_lineAt 340 = .ok (.bipush 6, 2) := by decide +kernel
theorem dX9_lineAt_342 : decode cX9_lineAt 342 = .ok (.iload 13, 2) := by decide +kernel
theorem dX9_lineAt_344 : decode cX9_lineAt 344 = .ok (.iload 5, 2) := by decide +kernel
theorem dX9_lineAt_346 : decode cX9_lineAt 346 = .ok (.isub, 1) := by decide +kernel
theorem dX9_lineAt_347 : decode cX9_lineAt 347 = .ok (.imul, 1) := by decide +kernel
theorem dX9_lineAt_348 : decode cX9_lineAt 348 = .ok (.iconst 3, 1) := by decide +kernel
theorem dX9_lineAt_349 : decode cX9_lineAt 349 = .ok (.iadd, 1) := by decide +kernel
theorem dX9_lineAt_350 : decode cX9_lineAt 350 = .ok (.if_icmp .ne 37, 3) := by decide +kernel
theorem dX9_lineAt_353 : decode cX9_lineAt 353 = .ok (.iload 4, 2) := by decide +kernel
theorem dX9_lineAt_355 : decode cX9_lineAt 355 = .ok (.iconst 2, 1) := by decide +kernel
theorem dX9_lineAt_356 : decode cX9_lineAt 356 = .ok (.iload 14, 2) := by decide +kernel
theorem dX9_lineAt_358 : decode cX9_lineAt 358 = .ok (.iload 6, 2) := by decide +kernel
theorem dX9_lineAt_360 : decode cX9_lineAt 360 = .ok (.isub, 1) := by decide +kernel
theorem dX9_lineAt_361 : decode cX9_lineAt 361 = .ok (.imul, 1) := by decide +kernel
theorem dX9_lineAt_362 : decode cX9_lineAt 362 = .ok (.iconst 1, 1) := by decide +kernel
theorem dX9_lineAt_363 : decode cX9_lineAt 363 = .ok (.iadd, 1) := by decide +kernel
theorem dX9_lineAt_364 : decode cX9_lineAt 364 = .ok (.if_icmp .ne 23, 3) := by decide +kernel
theorem dX9_lineAt_367 : decode cX9_lineAt 367 = .ok (.iload 9, 2) := by decide +kernel
theorem dX9_lineAt_369 : decode cX9_lineAt 369 = .ok (.iconst 1, 1) := by decide +kernel
theorem dX9_lineAt_370 : decode cX9_lineAt 370 = .ok (.if_icmp .eq 9, 3) := by decide +kernel
theorem dX9_lineAt_373 : decode cX9_lineAt 373 = .ok (.iload 9, 2) := by decide +kernel
theorem dX9_lineAt_375 : decode cX9_lineAt 375 = .ok (.iconst 5, 1) := by decide +kernel
theorem dX9_lineAt_376 : decode cX9_lineAt 376 = .ok (.if_icmp .ne 8, 3) := by decide +kernel
theorem dX9_lineAt_379 : decode cX9_lineAt 379 = .ok (.bipush 47, 2) := by decide +kernel
theorem dX9_lineAt_381 : decode cX9_lineAt 381 = .ok (.goto 5, 3) := by decide +kernel
theorem dX9_lineAt_384 : decode cX9_lineAt 384 = .ok (.bipush 92, 2) := by decide +kernel
theorem dX9_lineAt_386 : decode cX9_lineAt 386 = .ok (.ireturn, 1) := by decide +kernel
theorem dX9_lineAt_387 : decode cX9_lineAt 387 = .ok (.iinc 10 1, 3) := by decide +kernel
theorem dX9_lineAt_390 : decode cX9_lineAt 390 = .ok (.goto (-131), 3) := by decide +kernel
theorem dX9_lineAt_393 : decode cX9_lineAt 393 = .ok (.bipush 32, 2) := by decide +kernel
theorem dX9_lineAt_395 : decode cX9_lineAt 395 = .ok (.ireturn, 1) := by decide +kernel
theorem dX9_told_0 : decode cX9_told 0 = .ok (.iconst 0, 1) := by decide +kernel
theorem dX9_told_1 : decode cX9_told 1 = .ok (.istore_n 2, 1) := by decide +kernel
theorem dX9_told_2 : decode cX9_told 2 = .ok (.iconst 0, 1) := by decide +kernel
theorem dX9_told_3 : decode cX9_told 3 = .ok (.istore_n 3, 1) := by decide +kernel
theorem dX9_told_4 : decode cX9_told 4 = .ok (.iconst 0, 1) := by decide +kernel
theorem dX9_told_5 : decode cX9_told 5 = .ok (.istore 4, 2) := by decide +kernel
theorem dX9_told_7 : decode cX9_told 7 = .ok (.iconst 0, 1) := by decide +kernel
theorem dX9_told_8 : decode cX9_told 8 = .ok (.istore 5, 2) := by decide +kernel
theorem dX9_told_10 : decode cX9_told 10 = .ok (.iconst 0, 1) := by decide +kernel
theorem dX9_told_11 : decode cX9_told 11 = .ok (.istore 6, 2) := by decide +kernel
theorem dX9_told_13 : decode cX9_told 13 = .ok (.iconst 0, 1) := by decide +kernel
theorem dX9_told_14 : decode cX9_told 14 = .ok (.istore 7, 2) := by decide +kernel
theorem dX9_told_16 : decode cX9_told 16 = .ok (.iload 7, 2) := by decide +kernel
theorem dX9_told_18 : decode cX9_told 18 = .ok (.aload_n 0, 1) := by decide +kernel
theorem dX9_told_19 : decode cX9_told 19 = .ok (.getfield 86, 3) := by decide +kernel
theorem dX9_told_22 : decode cX9_told 22 = .ok (.if_icmp .ge 139, 3) := by decide +kernel
theorem dX9_told_25 : decode cX9_told 25 = .ok (.aload_n 0, 1) := by decide +kernel
theorem dX9_told_26 : decode cX9_told 26 = .ok (.getfield 32, 3) := by decide +kernel
theorem dX9_told_29 : decode cX9_told 29 = .ok (.iload 7, 2) := by decide +kernel
theorem dX9_told_31 : decode cX9_told 31 = .ok (.baload, 1) := by decide +kernel
theorem dX9_told_32 : decode cX9_told 32 = .ok (.ifCond .eq 123, 3) := by decide +kernel
theorem dX9_told_35 : decode cX9_told 35 = .ok (.iload_n 2, 1) := by decide +kernel
theorem dX9_told_36 : decode cX9_told 36 = .ok (.ifCond .eq 14, 3) := by decide +kernel
theorem dX9_told_39 : decode cX9_told 39 = .ok (.aload_n 0, 1) := by decide +kernel
theorem dX9_told_40 : decode cX9_told 40 = .ok (.getfield 41, 3) := by decide +kernel
theorem dX9_told_43 : decode cX9_told 43 = .ok (.iload 7, 2) := by decide +kernel
theorem dX9_told_45 : decode cX9_told 45 = .ok (.iaload, 1) := by decide +kernel
theorem dX9_told_46 : decode cX9_told 46 = .ok (.iload_n 3, 1) := by decide +kernel
theorem dX9_told_47 : decode cX9_told 47 = .ok (.if_icmp .ge 13, 3) := by decide +kernel
theorem dX9_told_50 : decode cX9_told 50 = .ok (.aload_n 0, 1) := by decide +kernel
theorem dX9_told_51 : decode cX9_told 51 = .ok (.getfield 41, 3) := by decide +kernel
theorem dX9_told_54 : decode cX9_told 54 = .ok (.iload 7, 2) := by decide +kernel
theorem dX9_told_56 : decode cX9_told 56 = .ok (.iaload, 1) := by decide +kernel
theorem dX9_told_57 : decode cX9_told 57 = .ok (.goto 4, 3) := by decide +kernel
theorem dX9_told_60 : decode cX9_told 60 = .ok (.iload_n 3, 1) := by decide +kernel
theorem dX9_told_61 : decode cX9_told 61 = .ok (.istore_n 3, 1) := by decide +kernel
theorem dX9_told_62 : decode cX9_told 62 = .ok (.iload_n 2, 1) := by decide +kernel
theorem dX9_told_63 : decode cX9_told 63 = .ok (.ifCond .eq 15, 3) := by decide +kernel
theorem dX9_told_66 : decode cX9_told 66 = .ok (.aload_n 0, 1) := by decide +kernel
theorem dX9_told_67 : decode cX9_told 67 = .ok (.getfield 41, 3) := by decide +kernel
theorem dX9_told_70 : decode cX9_told 70 = .ok (.iload 7, 2) := by decide +kernel
theorem dX9_told_72 : decode cX9_told 72 = .ok (.iaload, 1) := by decide +kernel
theorem dX9_told_73 : decode cX9_told 73 = .ok (.iload 4, 2) := by decide +kernel
theorem dX9_told_75 : decode cX9_told 75 = .ok (.if_icmp .le 13, 3) := by decide +kernel
theorem dX9_told_78 : decode cX9_told 78 = .ok (.aload_n 0, 1) := by decide +kernel
theorem dX9_told_79 : decode cX9_told 79 = .ok (.getfield 41, 3) := by decide +kernel
theorem dX9_told_82 : decode cX9_told 82 = .ok (.iload 7, 2) := by decide +kernel
theorem dX9_told_84 : decode cX9_told 84 = .ok (.iaload, 1) := by decide +kernel
theorem dX9_told_85 : decode cX9_told 85 = .ok (.goto 5, 3) := by decide +kernel
theorem dX9_told_88 : decode cX9_told 88 = .ok (.iload 4, 2) := by decide +kernel
theorem dX9_told_90 : decode cX9_told 90 = .ok (.istore 4, 2) := by decide +kernel
theorem dX9_told_92 : decode cX9_told 92 = .ok (.iload_n 2, 1) := by decide +kernel
theorem dX9_told_93 : decode cX9_told 93 = .ok (.ifCond .eq 15, 3) := by decide +kernel
theorem dX9_told_96 : decode cX9_told 96 = .ok (.aload_n 0, 1) := by decide +kernel
theorem dX9_told_97 : decode cX9_told 97 = .ok (.getfield 35, 3) := by decide +kernel
theorem dX9_told_100 : decode cX9_told 100 = .ok (.iload 7, 2) := by decide +kernel
theorem dX9_told_102 : decode cX9_told 102 = .ok (.iaload, 1) := by decide +kernel
theorem dX9_told_103 : decode cX9_told 103 = .ok (.iload 5, 2) := by decide +kernel
theorem dX9_told_105 : decode cX9_told 105 = .ok (.if_icmp .le 13, 3) := by decide +kernel
theorem dX9_told_108 : decode cX9_told 108 = .ok (.aload_n 0, 1) := by decide +kernel
theorem dX9_told_109 : decode cX9_told 109 = .ok (.getfield 35, 3) := by decide +kernel
theorem dX9_told_112 : decode cX9_told 112 = .ok (.iload 7, 2) := by decide +kernel
theorem dX9_told_114 : decode cX9_told 114 = .ok (.iaload, 1) := by decide +kernel
theorem dX9_told_115 : decode cX9_told 115 = .ok (.goto 5, 3) := by decide +kernel
theorem dX9_told_118 : decode cX9_told 118 = .ok (.iload 5, 2) := by decide +kernel
theorem dX9_told_120 : decode cX9_told 120 = .ok (.istore 5, 2) := by decide +kernel
theorem dX9_told_122 : decode cX9_told 122 = .ok (.iload_n 2, 1) := by decide +kernel
theorem dX9_told_123 : decode cX9_told 123 = .ok (.ifCond .eq 15, 3) := by decide +kernel
theorem dX9_told_126 : decode cX9_told 126 = .ok (.aload_n 0, 1) := by decide +kernel
theorem dX9_told_127 : decode cX9_told 127 = .ok (.getfield 38, 3) := by decide +kernel
theorem dX9_told_130 : decode cX9_told 130 = .ok (.iload 7, 2) := by decide +kernel
theorem dX9_told_132 : decode cX9_told 132 = .ok (.iaload, 1) := by decide +kernel
theorem dX9_told_133 : decode cX9_told 133 = .ok (.iload 6, 2) := by decide +kernel
theorem dX9_told_135 : decode cX9_told 135 = .ok (.if_icmp .le 13, 3) := by decide +kernel
theorem dX9_told_138 : decode cX9_told 138 = .ok (.aload_n 0, 1) := by decide +kernel
theorem dX9_told_139 : decode cX9_told 139 = .ok (.getfield 38, 3) := by decide +kernel
theorem dX9_told_142 : decode cX9_told 142 = .ok (.iload 7, 2) := by decide +kernel
theorem dX9_told_144 : decode cX9_told 144 = .ok (.iaload, 1) := by decide +kernel
theorem dX9_told_145 : decode cX9_told 145 = .ok (.goto 5, 3) := by decide +kernel
theorem dX9_told_148 : decode cX9_told 148 = .ok (.iload 6, 2) := by decide +kernel
theorem dX9_told_150 : decode cX9_told 150 = .ok (.istore 6, 2) := by decide +kernel
theorem dX9_told_152 : decode cX9_told 152 = .ok (.iinc 2 1, 3) := by decide +kernel
theorem dX9_told_155 : decode cX9_told 155 = .ok (.iinc 7 1, 3) := by decide +kernel
theorem dX9_told_158 : decode cX9_told 158 = .ok (.goto (-142), 3) := by decide +kernel
theorem dX9_told_161 : decode cX9_told 161 = .ok (.aload_n 0, 1) := by decide +kernel
theorem dX9_told_162 : decode cX9_told 162 = .ok (.invokevirtual 129, 3) := by decide +kernel
theorem dX9_told_165 : decode cX9_told 165 = .ok (.iload_n 2, 1) := by decide +kernel
theorem dX9_told_166 : decode cX9_told 166 = .ok (.ifCond .ne 7, 3) := by decide +kernel
theorem dX9_told_169 : decode cX9_told 169 = .ok (.iconst 0, 1) := by decide +kernel
theorem dX9_told_170 : decode cX9_told 170 = .ok (.goto 4, 3) := by decide +kernel
theorem dX9_told_173 : decode cX9_told 173 = .ok (.iconst 1, 1) := by decide +kernel
theorem dX9_told_174 : decode cX9_told 174 = .ok (.istore 7, 2) := by decide +kernel
theorem dX9_told_176 : decode cX9_told 176 = .ok (.iload_n 1, 1) := by decide +kernel
theorem dX9_told_177 : decode cX9_told 177 = .ok (.ifCond .ne 10, 3) := by decide +kernel
theorem dX9_told_180 : decode cX9_told 180 = .ok (.aload_n 0, 1) := by decide +kernel
theorem dX9_told_181 : decode cX9_told 181 = .ok (.getfield 86, 3) := by decide +kernel
theorem dX9_told_184 : decode cX9_told 184 = .ok (.goto 100, 3) := by decide +kernel
theorem dX9_told_187 : decode cX9_told 187 = .ok (.iload_n 1, 1) := by decide +kernel
theorem dX9_told_188 : decode cX9_told 188 = .ok (.iconst 1, 1) := by decide +kernel
theorem dX9_told_189 : decode cX9_told 189 = .ok (.if_icmp .ne 10, 3) := by decide +kernel
theorem dX9_told_192 : decode cX9_told 192 = .ok (.aload_n 0, 1) := by decide +kernel
theorem dX9_told_193 : decode cX9_told 193 = .ok (.getfield 94, 3) := by decide +kernel
theorem dX9_told_196 : decode cX9_told 196 = .ok (.goto 88, 3) := by decide +kernel
theorem dX9_told_199 : decode cX9_told 199 = .ok (.iload_n 1, 1) := by decide +kernel
theorem dX9_told_200 : decode cX9_told 200 = .ok (.iconst 2, 1) := by decide +kernel
theorem dX9_told_201 : decode cX9_told 201 = .ok (.if_icmp .ne 10, 3) := by decide +kernel
theorem dX9_told_204 : decode cX9_told 204 = .ok (.aload_n 0, 1) := by decide +kernel
theorem dX9_told_205 : decode cX9_told 205 = .ok (.getfield 126, 3) := by decide +kernel
theorem dX9_told_208 : decode cX9_told 208 = .ok (.goto 76, 3) := by decide +kernel
theorem dX9_told_211 : decode cX9_told 211 = .ok (.iload_n 1, 1) := by decide +kernel
theorem dX9_told_212 : decode cX9_told 212 = .ok (.iconst 3, 1) := by decide +kernel
theorem dX9_told_213 : decode cX9_told 213 = .ok (.if_icmp .ne 7, 3) := by decide +kernel
theorem dX9_told_216 : decode cX9_told 216 = .ok (.iload_n 2, 1) := by decide +kernel
theorem dX9_told_217 : decode cX9_told 217 = .ok (.goto 67, 3) := by decide +kernel
theorem dX9_told_220 : decode cX9_told 220 = .ok (.iload_n 1, 1) := by decide +kernel
theorem dX9_told_221 : decode cX9_told 221 = .ok (.iconst 4, 1) := by decide +kernel
theorem dX9_told_222 : decode cX9_told 222 = .ok (.if_icmp .ne 7, 3) := by decide +kernel
theorem dX9_told_225 : decode cX9_told 225 = .ok (.iload_n 3, 1) := by decide +kernel
theorem dX9_told_226 : decode cX9_told 226 = .ok (.goto 58, 3) := by decide +kernel
theorem dX9_told_229 : decode cX9_told 229 = .ok (.iload_n 1, 1) := by decide +kernel
theorem dX9_told_230 : decode cX9_told 230 = .ok (.iconst 5, 1) := by decide +kernel
theorem dX9_told_231 : decode cX9_told 231 = .ok (.if_icmp .ne 8, 3) := by decide +kernel
theorem dX9_told_234 : decode cX9_told 234 = .ok (.iload 4, 2) := by decide +kernel
theorem dX9_told_236 : decode cX9_told 236 = .ok (.goto 48, 3) := by decide +kernel
theorem dX9_told_239 : decode cX9_told 239 = .ok (.iload_n 1, 1) := by decide +kernel
theorem dX9_told_240 : decode cX9_told 240 = .ok (.bipush 6, 2) := by decide +kernel
theorem dX9_told_242 : decode cX9_told 242 = .ok (.if_icmp .ne 19, 3) := by decide +kernel
theorem dX9_told_245 : decode cX9_told 245 = .ok (.iload 7, 2) := by decide +kernel
theorem dX9_told_247 : decode cX9_told 247 = .ok (.iload 5, 2) := by decide +kernel
theorem dX9_told_249 : decode cX9_told 249 = .ok (.aload_n 0, 1) := by decide +kernel
theorem dX9_told_250 : decode cX9_told 250 = .ok (.iconst 1, 1) := by decide +kernel
theorem dX9_told_251 : decode cX9_told 251 = .ok (.invokevirtual 236, 3) := by decide +kernel
theorem dX9_told_254 : decode cX9_told 254 = .ok (.isub, 1) := by decide +kernel
theorem dX9_told_255 : decode cX9_told 255 = .ok (.iconst 1, 1) := by decide +kernel
theorem dX9_told_256 : decode cX9_told 256 = .ok (.iadd, 1) := by decide +kernel
theorem dX9_told_257 : decode cX9_told 257 = .ok (.imul, 1) := by decide +kernel
theorem dX9_told_258 : decode cX9_told 258 = .ok (.goto 26, 3) := by decide +kernel
theorem dX9_told_261 : decode cX9_told 261 = .ok (.iload_n 1, 1) := by decide +kernel
theorem dX9_told_262 : decode cX9_told 262 = .ok (.bipush 7, 2) := by decide +kernel
theorem dX9_told_264 : decode cX9_told 264 = .ok (.if_icmp .ne 19, 3) := by decide +kernel
theorem dX9_told_267 : decode cX9_told 267 = .ok (.iload 7, 2) := by decide +kernel
theorem dX9_told_269 : decode cX9_told 269 = .ok (.iload 6, 2) := by decide +kernel
theorem dX9_told_271 : decode cX9_told 271 = .ok (.aload_n 0, 1) := by decide +kernel
theorem dX9_told_272 : decode cX9_told 272 = .ok (.iconst 0, 1) := by decide +kernel
theorem dX9_told_273 : decode cX9_told 273 = .ok (.invokevirtual 236, 3) := by decide +kernel
theorem dX9_told_276 : decode cX9_told 276 = .ok (.isub, 1) := by decide +kernel
theorem dX9_told_277 : decode cX9_told 277 = .ok (.iconst 1, 1) := by decide +kernel
theorem dX9_told_278 : decode cX9_told 278 = .ok (.iadd, 1) := by decide +kernel
theorem dX9_told_279 : decode cX9_told 279 = .ok (.imul, 1) := by decide +kernel
theorem dX9_told_280 : decode cX9_told 280 = .ok (.goto 4, 3) := by decide +kernel
theorem dX9_told_283 : decode cX9_told 283 = .ok (.iconst (-1), 1) := by decide +kernel
theorem dX9_told_284 : decode cX9_told 284 = .ok (.ireturn, 1) := by decide +kernel

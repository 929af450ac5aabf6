theorem dX2_distance_21 : decode cX2_distance 21 = .ok (.aload_n 0, 1) := by decide +kernel
theorem dX2_distance_22 : decode cX2_distance 22 = .ok (.getfield 15, 3) := by decide +kernel
theorem dX2_distance_25 : decode cX2_distance 25 = .ok (.iload_n 1, 1) := by decide +kernel
theorem dX2_distance_26 : decode cX2_distance 26 = .ok (.iaload, 1) := by decide +kernel
theorem dX2_distance_27 : decode cX2_distance 27 = .ok (.isub, 1) := by decide +kernel
theorem dX2_distance_28 : decode cX2_distance 28 = .ok (.istore 5, 2) := by decide +kernel
theorem dX2_distance_30 : decode cX2_distance 30 = .ok (.aload_n 0, 1) := by decide +kernel
theorem dX2_distance_31 : decode cX2_distance 31 = .ok (.getfield 18, 3) := by decide +kernel
theorem dX2_distance_34 : decode cX2_distance 34 = .ok (.iload_n 3, 1) := by decide +kernel
theorem dX2_distance_35 : decode cX2_distance 35 = .ok (.iaload, 1) := by decide +kernel
theorem dX2_distance_36 : decode cX2_distance 36 = .ok (.aload_n 0, 1) := by decide +kernel
theorem dX2_distance_37 : decode cX2_distance 37 = .ok (.getfield 18, 3) := by decide +kernel
theorem dX2_distance_40 : decode cX2_distance 40 = .ok (.iload_n 1, 1) := by decide +kernel
theorem dX2_distance_41 : decode cX2_distance 41 = .ok (.iaload, 1) := by decide +kernel
theorem dX2_distance_42 : decode cX2_distance 42 = .ok (.isub, 1) := by decide +kernel
theorem dX2_distance_43 : decode cX2_distance 43 = .ok (.getstatic 76, 3) := by decide +kernel
theorem dX2_distance_46 : decode cX2_distance 46 = .ok (.iload_n 2, 1) := by decide +kernel
theorem dX2_distance_47 : decode cX2_distance 47 = .ok (.iaload, 1) := by decide +kernel
theorem dX2_distance_48 : decode cX2_distance 48 = .ok (.if_icmp .eq 5, 3) := by decide +kernel
theorem dX2_distance_51 : decode cX2_distance 51 = .ok (.iconst 0, 1) := by decide +kernel
theorem dX2_distance_52 : decode cX2_distance 52 = .ok (.ireturn, 1) := by decide +kernel
theorem dX2_distance_53 : decode cX2_distance 53 = .ok (.iload_n 2, 1) := by decide +kernel
theorem dX2_distance_54 : decode cX2_distance 54 = .ok (.bipush 8, 2) := by decide +kernel
theorem dX2_distance_56 : decode cX2_distance 56 = .ok (.if_icmp .lt 19, 3) := by decide +kernel
theorem dX2_distance_59 : decode cX2_distance 59 = .ok (.iload 4, 2) := by decide +kernel
theorem dX2_distance_61 : decode cX2_distance 61 = .ok (.ifCond .ne 12, 3) := by decide +kernel
theorem dX2_distance_64 : decode cX2_distance 64 = .ok (.iload 5, 2) := by decide +kernel
theorem dX2_distance_66 : decode cX2_distance 66 = .ok (.ifCond .ne 7, 3) := by decide +kernel
theorem dX2_distance_69 : decode cX2_distance 69 = .ok (.iconst 1, 1) := by decide +kernel
theorem dX2_distance_70 : decode cX2_distance 70 = .ok (.goto 4, 3) := by decide +kernel
theorem dX2_distance_73 : decode cX2_distance 73 = .ok (.iconst 0, 1) := by decide +kernel
theorem dX2_distance_74 : decode cX2_distance 74 = .ok (.ireturn, 1) := by decide +kernel
theorem dX2_distance_75 : decode cX2_distance 75 = .ok (.getstatic 79, 3) := by decide +kernel
theorem dX2_distance_78 : decode cX2_distance 78 = .ok (.iload_n 2, 1) := by decide +kernel
theorem dX2_distance_79 : decode cX2_distance 79 = .ok (.iaload, 1) := by decide +kernel
theorem dX2_distance_80 : decode cX2_distance 80 = .ok (.ifCond .eq 14, 3) := by decide +kernel
theorem dX2_distance_83 : decode cX2_distance 83 = .ok (.iload 4, 2) := by decide +kernel
theorem dX2_distance_85 : decode cX2_distance 85 = .ok (.getstatic 79, 3) := by decide +kernel
theorem dX2_distance_88 : decode cX2_distance 88 = .ok (.iload_n 2, 1) := by decide +kernel
theorem dX2_distance_89 : decode cX2_distance 89 = .ok (.iaload, 1) := by decide +kernel
theorem dX2_distance_90 : decode cX2_distance 90 = .ok (.imul, 1) := by decide +kernel
theorem dX2_distance_91 : decode cX2_distance 91 = .ok (.goto 11, 3) := by decide +kernel
theorem dX2_distance_94 : decode cX2_distance 94 = .ok (.iload 5, 2) := by decide +kernel
theorem dX2_distance_96 : decode cX2_distance 96 = .ok (.getstatic 82, 3) := by decide +kernel
theorem dX2_distance_99 : decode cX2_distance 99 = .ok (.iload_n 2, 1) := by decide +kernel
theorem dX2_distance_100 : decode cX2_distance 100 = .ok (.iaload, 1) := by decide +kernel
theorem dX2_distance_101 : decode cX2_distance 101 = .ok (.imul, 1) := by decide +kernel
theorem dX2_distance_102 : decode cX2_distance 102 = .ok (.istore 6, 2) := by decide +kernel
theorem dX2_distance_104 : decode cX2_distance 104 = .ok (.iload 6, 2) := by decide +kernel
theorem dX2_distance_106 : decode cX2_distance 106 = .ok (.ifCond .le 40, 3) := by decide +kernel
theorem dX2_distance_109 : decode cX2_distance 109 = .ok (.iload 6, 2) := by decide +kernel
theorem dX2_distance_111 : decode cX2_distance 111 = .ok (.bipush 60, 2) := by decide +kernel
theorem dX2_distance_113 : decode cX2_distance 113 = .ok (.if_icmp .gt 33, 3) := by decide +kernel
theorem dX2_distance_116 : decode cX2_distance 116 = .ok (.iload 4, 2) := by decide +kernel
theorem dX2_distance_118 : decode cX2_distance 118 = .ok (.iload 6, 2) := by decide +kernel
theorem dX2_distance_120 : decode cX2_distance 120 = .ok (.getstatic 79, 3) := by decide +kernel
theorem dX2_distance_123 : decode cX2_distance 123 = .ok (.iload_n 2, 1) := by decide +kernel
theorem dX2_distance_124 : decode cX2_distance 124 = .ok (.iaload, 1) := by decide +kernel
theorem dX2_distance_125 : decode cX2_distance 125 = .ok (.imul, 1) := by decide +kernel
theorem dX2_distance_126 : decode cX2_distance 126 = .ok (.if_icmp .ne 20, 3) := by decide +kernel
theorem dX2_distance_129 : decode cX2_distance 129 = .ok (.iload 5, 2) := by decide +kernel
theorem dX2_distance_131 : decode cX2_distance 131 = .ok (.iload 6, 2) := by decide +kernel
theorem dX2_distance_133 : decode cX2_distance 133 = .ok (.getstatic 82, 3) := by decide +kernel
theorem dX2_distance_136 : decode cX2_distance 136 = .ok (.iload_n 2, 1) := by decide +kernel
theorem dX2_distance_137 : decode cX2_distance 137 = .ok (.iaload, 1) := by decide +kernel
theorem dX2_distance_138 : decode cX2_distance 138 = .ok (.imul, 1) := by decide +kernel
theorem dX2_distance_139 : decode cX2_distance 139 = .ok (.if_icmp .ne 7, 3) := by decide +kernel
theorem dX2_distance_142 : decode cX2_distance 142 = .ok (.iconst 1, 1) := by decide +kernel
theorem dX2_distance_143 : decode cX2_distance 143 = .ok (.goto 4, 3) := by decide +kernel
theorem dX2_distance_146 : decode cX2_distance 146 = .ok (.iconst 0, 1) := by decide +kernel
theorem dX2_distance_147 : decode cX2_distance 147 = .ok (.istore 7, 2) := by decide +kernel
theorem dX2_distance_149 : decode cX2_distance 149 = .ok (.iload 7, 2) := by decide +kernel
theorem dX2_distance_151 : decode cX2_distance 151 = .ok (.ifCond .eq 8, 3) := by decide +kernel
theorem dX2_distance_154 : decode cX2_distance 154 = .ok (.iload 6, 2) := by decide +kernel
theorem dX2_distance_156 : decode cX2_distance 156 = .ok (.goto 4, 3) := by decide +kernel
theorem dX2_distance_159 : decode cX2_distance 159 = .ok (.iconst 0, 1) := by decide +kernel
theorem dX2_distance_160 : decode cX2_distance 160 = .ok (.ireturn, 1) := by decide +kernel
theorem dX6_init_0 : decode cX6_init 0 = .ok (.aload_n 0, 1) := by decide +kernel
theorem dX6_init_1 : decode cX6_init 1 = .ok (.invokespecial 3, 3) := by decide +kernel
theorem dX6_init_4 : decode cX6_init 4 = .ok (.aload_n 0, 1) := by decide +kernel
theorem dX6_init_5 : decode cX6_init 5 = .ok (.bipush 25, 2) := by decide +kernel
theorem dX6_init_7 : decode cX6_init 7 = .ok (.newarray .int, 2) := by decide +kernel
theorem dX6_init_9 : decode cX6_init 9 = .ok (.putfield 9, 3) := by decide +kernel
theorem dX6_init_12 : decode cX6_init 12 = .ok (.aload_n 0, 1) := by decide +kernel
theorem dX6_init_13 : decode cX6_init 13 = .ok (.bipush 120, 2) := by decide +kernel
theorem dX6_init_15 : decode cX6_init 15 = .ok (.newarray .int, 2) := by decide +kernel
theorem dX6_init_17 : decode cX6_init 17 = .ok (.putfield 15, 3) := by decide +kernel
theorem dX6_init_20 : decode cX6_init 20 = .ok (.return_, 1) := by decide +kernel
theorem dX6_gather_0 : decode cX6_gather 0 = .ok (.iconst 0, 1) := by decide +kernel
theorem dX6_gather_1 : decode cX6_gather 1 = .ok (.istore_n 2, 1) := by decide +kernel
theorem dX6_gather_2 : decode cX6_gather 2 = .ok (.iconst 0, 1) := by decide +kernel
theorem dX6_gather_3 : decode cX6_gather 3 = .ok (.istore_n 3, 1) := by decide +kernel
theorem dX6_gather_4 : decode cX6_gather 4 = .ok (.iload_n 3, 1) := by decide +kernel
theorem dX6_gather_5 : decode cX6_gather 5 = .ok (.aload_n 1, 1) := by decide +kernel
theorem dX6_gather_6 : decode cX6_gather 6 = .ok (.getfield 18, 3) := by decide +kernel
theorem dX6_gather_9 : decode cX6_gather 9 = .ok (.if_icmp .ge 97, 3) := by decide +kernel
theorem dX6_gather_12 : decode cX6_gather 12 = .ok (.aload_n 0, 1) := by decide +kernel
theorem dX6_gather_13 : decode cX6_gather 13 = .ok (.getfield 9, 3) := by decide +kernel
theorem dX6_gather_16 : decode cX6_gather 16 = .ok (.iload_n 3, 1) := by decide +kernel
theorem dX6_gather_17 : decode cX6_gather 17 = .ok (.iload_n 2, 1) := by decide +kernel
theorem dX6_gather_18 : decode cX6_gather 18 = .ok (.iastore, 1) := by decide +kernel
theorem dX6_gather_19 : decode cX6_gather 19 = .ok (.iconst 0, 1) := by decide +kernel
theorem dX6_gather_20 : decode cX6_gather 20 = .ok (.istore 4, 2) := by decide +kernel
theorem dX6_gather_22 : decode cX6_gather 22 = .ok (.iload 4, 2) := by decide +kernel
theorem dX6_gather_24 : decode cX6_gather 24 = .ok (.aload_n 1, 1) := by decide +kernel
theorem dX6_gather_25 : decode cX6_gather 25 = .ok (.getfield 24, 3) := by decide +kernel
theorem dX6_gather_28 : decode cX6_gather 28 = .ok (.if_icmp .ge 72, 3) := by decide +kernel
theorem dX6_gather_31 : decode cX6_gather 31 = .ok (.aload_n 1, 1) := by decide +kernel
theorem dX6_gather_32 : decode cX6_gather 32 = .ok (.getfield 27, 3) := by decide +kernel
theorem dX6_gather_35 : decode cX6_gather 35 = .ok (.iload 4, 2) := by decide +kernel
theorem dX6_gather_37 : decode cX6_gather 37 = .ok (.iaload, 1) := by decide +kernel
theorem dX6_gather_38 : decode cX6_gather 38 = .ok (.iload_n 3, 1) := by decide +kernel
theorem dX6_gather_39 : decode cX6_gather 39 = .ok (.if_icmp .eq 14, 3) := by decide +kernel
theorem dX6_gather_42 : decode cX6_gather 42 = .ok (.aload_n 1, 1) := by decide +kernel
theorem dX6_gather_43 : decode cX6_gather 43 = .ok (.getfield 30, 3) := by decide +kernel
theorem dX6_gather_46 : decode cX6_gather 46 = .ok (.iload 4, 2) := by decide +kernel
theorem dX6_gather_48 : decode cX6_gather 48 = .ok (.iaload, 1) := by decide +kernel
theorem dX6_gather_49 : decode cX6_gather 49 = .ok (.iload_n 3, 1) := by decide +kernel
theorem dX6_gather_50 : decode cX6_gather 50 = .ok (.if_icmp .ne 7, 3) := by decide +kernel
theorem dX6_gather_53 : decode cX6_gather 53 = .ok (.iconst 1, 1) := by decide +kernel
theorem dX6_gather_54 : decode cX6_gather 54 = .ok (.goto 4, 3) := by decide +kernel
theorem dX6_gather_57 : decode cX6_gather 57 = .ok (.iconst 0, 1) := by decide +kernel
theorem dX6_gather_58 : decode cX6_gather 58 = .ok (.istore 5, 2) := by decide +kernel
theorem dX6_gather_60 : decode cX6_gather 60 = .ok (.iload 5, 2) := by decide +kernel
theorem dX6_gather_62 : decode cX6_gather 62 = .ok (.ifCond .eq 32, 3) := by decide +kernel
theorem dX6_gather_65 : decode cX6_gather 65 = .ok (.aload_n 1, 1) := by decide +kernel
theorem dX6_gather_66 : decode cX6_gather 66 = .ok (.iload 4, 2) := by decide +kernel
theorem dX6_gather_68 : decode cX6_gather 68 = .ok (.invokevirtual 33, 3) := by decide +kernel
theorem dX6_gather_71 : decode cX6_gather 71 = .ok (.ifCond .ne 23, 3) := by decide +kernel
theorem dX6_gather_74 : decode cX6_gather 74 = .ok (.iload_n 2, 1) := by decide +kernel
theorem dX6_gather_75 : decode cX6_gather 75 = .ok (.aload_n 0, 1) := by decide +kernel
theorem dX6_gather_76 : decode cX6_gather 76 = .ok (.getfield 15, 3) := by decide +kernel
theorem dX6_gather_79 : decode cX6_gather 79 = .ok (.arraylength, 1) := by decide +kernel
theorem dX6_gather_80 : decode cX6_gather 80 = .ok (.if_icmp .ge 14, 3) := by decide +kernel
theorem dX6_gather_83 : decode cX6_gather 83 = .ok (.aload_n 0, 1) := by decide +kernel
theorem dX6_gather_84 : decode cX6_gather 84 = .ok (.getfield 15, 3) := by decide +kernel
theorem dX6_gather_87 : decode cX6_gather 87 = .ok (.iload_n 2, 1) := by decide +kernel
theorem dX6_gather_88 : decode cX6_gather 88 = .ok (.iinc 2 1, 3) := by decide +kernel
theorem dX6_gather_91 : decode cX6_gather 91 = .ok (.iload 4, 2) := by decide +kernel
theorem dX6_gather_93 : decode cX6_gather 93 = .ok (.iastore, 1) := by decide +kernel
theorem dX6_gather_94 : decode cX6_gather 94 = .ok (.iinc 4 1, 3) := by decide +kernel
theorem dX6_gather_97 : decode cX6_gather 97 = .ok (.goto (-75), 3) := by decide +kernel
theorem dX6_gather_100 : decode cX6_gather 100 = .ok (.iinc 3 1, 3) := by decide +kernel
theorem dX6_gather_103 : decode cX6_gather 103 = .ok (.goto (-99), 3) := by decide +kernel
theorem dX6_gather_106 : decode cX6_gather 106 = .ok (.aload_n 0, 1) := by decide +kernel
theorem dX6_gather_107 : decode cX6_gather 107 = .ok (.getfield 9, 3) := by decide +kernel
theorem dX6_gather_110 : decode cX6_gather 110 = .ok (.aload_n 1, 1) := by decide +kernel
theorem dX6_gather_111 : decode cX6_gather 111 = .ok (.getfield 18, 3) := by decide +kernel
theorem dX6_gather_114 : decode cX6_gather 114 = .ok (.iload_n 2, 1) := by decide +kernel
theorem dX6_gather_115 : decode cX6_gather 115 = .ok (.iastore, 1) := by decide +kernel
theorem dX6_gather_116 : decode cX6_gather 116 = .ok (.return_, 1) := by decide +kernel
theorem dX6_count_0 : decode cX6_count 0 = .ok (.aload_n 0, 1) := by decide +kernel
theorem dX6_count_1 : decode cX6_count 1 = .ok (.getfield 9, 3) := by decide +kernel
theorem dX6_count_4 : decode cX6_count 4 = .ok (.iload_n 1, 1) := by decide +kernel
theorem dX6_count_5 : decode cX6_count 5 = .ok (.iconst 1, 1) := by decide +kernel
theorem dX6_count_6 : decode cX6_count 6 = .ok (.iadd, 1) := by decide +kernel
theorem dX6_count_7 : decode cX6_count 7 = .ok (.iaload, 1) := by decide +kernel
theorem dX6_count_8 : decode cX6_count 8 = .ok (.aload_n 0, 1) := by decide +kernel
theorem dX6_count_9 : decode cX6_count 9 = .ok (.getfield 9, 3) := by decide +kernel
theorem dX6_count_12 : decode cX6_count 12 = .ok (.iload_n 1, 1) := by decide +kernel
theorem dX6_count_13 : decode cX6_count 13 = .ok (.iaload, 1) := by decide +kernel
theorem dX6_count_14 : decode cX6_count 14 = .ok (.isub, 1) := by decide +kernel
theorem dX6_count_15 : decode cX6_count 15 = .ok (.ireturn, 1) := by decide +kernel
theorem dX6_get_0 : decode cX6_get 0 = .ok (.aload_n 0, 1) := by decide +kernel
theorem dX6_get_1 : decode cX6_get 1 = .ok (.getfield 15, 3) := by decide +kernel
theorem dX6_get_4 : decode cX6_get 4 = .ok (.aload_n 0, 1) := by decide +kernel
theorem dX6_get_5 : decode cX6_get 5 = .ok (.getfield 9, 3) := by decide +kernel
theorem dX6_get_8 : decode cX6_get 8 = .ok (.iload_n 1, 1) := by decide +kernel
theorem dX6_get_9 : decode cX6_get 9 = .ok (.iaload, 1) := by decide +kernel
theorem dX6_get_10 : decode cX6_get 10 = .ok (.iload_n 2, 1) := by decide +kernel
theorem dX6_get_11 : decode cX6_get 11 = .ok (.iadd, 1) := by decide +kernel
theorem dX6_get_12 : decode cX6_get 12 = .ok (.iaload, 1) := by decide +kernel
theorem dX6_get_13 : decode cX6_get 13 = .ok (.ireturn, 1) := by decide +kernel
theorem dX0_init_0 : decode cX0_init 0 = .ok (.aload_n 0, 1) := by decide +kernel
theorem dX0_init_1 : decode cX0_init 1 = .ok (.invokespecial 3, 3) := by decide +kernel
theorem dX0_init_4 : decode cX0_init 4 = .ok (.aload_n 0, 1) := by decide +kernel
theorem dX0_init_5 : decode cX0_init 5 = .ok (.aload_n 1, 1) := by decide +kernel
theorem dX0_init_6 : decode cX0_init 6 = .ok (.putfield 9, 3) := by decide +kernel
theorem dX0_init_9 : decode cX0_init 9 = .ok (.aload_n 0, 1) := by decide +kernel
theorem dX0_init_10 : decode cX0_init 10 = .ok (.aload_n 2, 1) := by decide +kernel
theorem dX0_init_11 : decode cX0_init 11 = .ok (.putfield 15, 3) := by decide +kernel
theorem dX0_init_14 : decode cX0_init 14 = .ok (.return_, 1) := by decide +kernel
theorem dX0_bound_0 : decode cX0_bound 0 = .ok (.iconst 3, 1) := by decide +kernel
theorem dX0_bound_1 : decode cX0_bound 1 = .ok (.aload_n 0, 1) := by decide +kernel
theorem dX0_bound_2 : decode cX0_bound 2 = .ok (.getfield 15, 3) := by decide +kernel
theorem dX0_bound_5 : decode cX0_bound 5 = .ok (.iload_n 1, 1) := by decide +kernel
theorem dX0_bound_6 : decode cX0_bound 6 = .ok (.invokevirtual 19, 3) := by decide +kernel
theorem dX0_bound_9 : decode cX0_bound 9 = .ok (.imul, 1) := by decide +kernel
theorem dX0_bound_10 : decode cX0_bound 10 = .ok (.ireturn, 1) := by decide +kernel
theorem dX0_lookAtOrigin_0 : decode cX0_lookAtOrigin 0 = .ok (.aload_n 0, 1) := by decide +kernel
theorem dX0_lookAtOrigin_1 : decode cX0_lookAtOrigin 1 = .ok (.iconst 0, 1) := by decide +kernel
theorem dX0_lookAtOrigin_2 : decode cX0_lookAtOrigin 2 = .ok (.putfield 25, 3) := by decide +kernel
theorem dX0_lookAtOrigin_5 : decode cX0_lookAtOrigin 5 = .ok (.aload_n 0, 1) := by decide +kernel
theorem dX0_lookAtOrigin_6 : decode cX0_lookAtOrigin 6 = .ok (.iconst 0, 1) := by decide +kernel
theorem dX0_lookAtOrigin_7 : decode cX0_lookAtOrigin 7 = .ok (.putfield 29, 3) := by decide +kernel
theorem dX0_lookAtOrigin_10 : decode cX0_lookAtOrigin 10 = .ok (.aload_n 0, 1) := by decide +kernel
theorem dX0_lookAtOrigin_11 : decode cX0_lookAtOrigin 11 = .ok (.iconst 0, 1) := by decide +kernel
theorem dX0_lookAtOrigin_12 : decode cX0_lookAtOrigin 12 = .ok (.putfield 32, 3) := by decide +kernel
theorem dX0_lookAtOrigin_15 : decode cX0_lookAtOrigin 15 = .ok (.return_, 1) := by decide +kernel
theorem dX0_lookAtChance_0 : decode cX0_lookAtChance 0 = .ok (.aload_n 0, 1) := by decide +kernel
theorem dX0_lookAtChance_1 : decode cX0_lookAtChance 1 = .ok (.getfield 15, 3) := by decide +kernel
theorem dX0_lookAtChance_4 : decode cX0_lookAtChance 4 = .ok (.iload_n 2, 1) := by decide +kernel
theorem dX0_lookAtChance_5 : decode cX0_lookAtChance 5 = .ok (.iload_n 3, 1) := by decide +kernel
theorem dX0_lookAtChance_6 : decode cX0_lookAtChance 6 = .ok (.iconst 3, 1) := by decide +kernel
theorem dX0_lookAtChance_7 : decode cX0_lookAtChance 7 = .ok (.idiv, 1) := by decide +kernel
theorem dX0_lookAtChance_8 : decode cX0_lookAtChance 8 = .ok (.invokevirtual 35, 3) := by decide +kernel
theorem dX0_lookAtChance_11 : decode cX0_lookAtChance 11 = .ok (.istore 4, 2) := by decide +kernel
theorem dX0_lookAtChance_13 : decode cX0_lookAtChance 13 = .ok (.iload_n 3, 1) := by decide +kernel
theorem dX0_lookAtChance_14 : decode cX0_lookAtChance 14 = .ok (.iconst 3, 1) := by decide +kernel
theorem dX0_lookAtChance_15 : decode cX0_lookAtChance 15 = .ok (.irem, 1) := by decide +kernel
theorem dX0_lookAtChance_16 : decode cX0_lookAtChance 16 = .ok (.iconst 1, 1) := by decide +kernel
theorem dX0_lookAtChance_17 : decode cX0_lookAtChance 17 = .ok (.iadd, 1) := by decide +kernel
theorem dX0_lookAtChance_18 : decode cX0_lookAtChance 18 = .ok (.istore 5, 2) := by decide +kernel
theorem dX0_lookAtChance_20 : decode cX0_lookAtChance 20 = .ok (.aload_n 0, 1) := by decide +kernel
theorem dX0_lookAtChance_21 : decode cX0_lookAtChance 21 = .ok (.getfield 9, 3) := by decide +kernel
theorem dX0_lookAtChance_24 : decode cX0_lookAtChance 24 = .ok (.getfield 39, 3) := by decide +kernel
theorem dX0_lookAtChance_27 : decode cX0_lookAtChance 27 = .ok (.iload 4, 2) := by decide +kernel
theorem dX0_lookAtChance_29 : decode cX0_lookAtChance 29 = .ok (.iaload, 1) := by decide +kernel
theorem dX0_lookAtChance_30 : decode cX0_lookAtChance 30 = .ok (.istore 6, 2) := by decide +kernel
theorem dX0_lookAtChance_32 : decode cX0_lookAtChance 32 = .ok (.aload_n 0, 1) := by decide +kernel
theorem dX0_lookAtChance_33 : decode cX0_lookAtChance 33 = .ok (.getfield 9, 3) := by decide +kernel
theorem dX0_lookAtChance_36 : decode cX0_lookAtChance 36 = .ok (.iload 4, 2) := by decide +kernel
theorem dX0_lookAtChance_38 : decode cX0_lookAtChance 38 = .ok (.iload_n 2, 1) := by decide +kernel
theorem dX0_lookAtChance_39 : decode cX0_lookAtChance 39 = .ok (.invokevirtual 45, 3) := by decide +kernel
theorem dX0_lookAtChance_42 : decode cX0_lookAtChance 42 = .ok (.istore 7, 2) := by decide +kernel
theorem dX0_lookAtChance_44 : decode cX0_lookAtChance 44 = .ok (.aload_n 1, 1) := by decide +kernel
theorem dX0_lookAtChance_45 : decode cX0_lookAtChance 45 = .ok (.getfield 48, 3) := by decide +kernel
theorem dX0_lookAtChance_48 : decode cX0_lookAtChance 48 = .ok (.iload 7, 2) := by decide +kernel
theorem dX0_lookAtChance_50 : decode cX0_lookAtChance 50 = .ok (.baload, 1) := by decide +kernel
theorem dX0_lookAtChance_51 : decode cX0_lookAtChance 51 = .ok (.ifCond .eq 16, 3) := by decide +kernel
theorem dX0_lookAtChance_54 : decode cX0_lookAtChance 54 = .ok (.iload 6, 2) := by decide +kernel
theorem dX0_lookAtChance_56 : decode cX0_lookAtChance 56 = .ok (.bipush 8, 2) := by decide +kernel
theorem dX0_lookAtChance_58 : decode cX0_lookAtChance 58 = .ok (.if_icmp .lt 11, 3) := by decide +kernel
theorem dX0_lookAtChance_61 : decode cX0_lookAtChance 61 = .ok (.iload 5, 2) := by decide +kernel
theorem dX0_lookAtChance_63 : decode cX0_lookAtChance 63 = .ok (.iconst 1, 1) := by decide +kernel
theorem dX0_lookAtChance_64 : decode cX0_lookAtChance 64 = .ok (.if_icmp .le 5, 3) := by decide +kernel
theorem dX0_lookAtChance_67 : decode cX0_lookAtChance 67 = .ok (.iconst 0, 1) := by decide +kernel
theorem dX0_lookAtChance_68 : decode cX0_lookAtChance 68 = .ok (.ireturn, 1) := by decide +kernel
theorem dX0_lookAtChance_69 : decode cX0_lookAtChance 69 = .ok (.aload_n 0, 1) := by decide +kernel
theorem dX0_lookAtChance_70 : decode cX0_lookAtChance 70 = .ok (.getfield 9, 3) := by decide +kernel
theorem dX0_lookAtChance_73 : decode cX0_lookAtChance 73 = .ok (.getfield 54, 3) := by decide +kernel
theorem dX0_lookAtChance_76 : decode cX0_lookAtChance 76 = .ok (.iload 4, 2) := by decide +kernel
theorem dX0_lookAtChance_78 : decode cX0_lookAtChance 78 = .ok (.iaload, 1) := by decide +kernel
theorem dX0_lookAtChance_79 : decode cX0_lookAtChance 79 = .ok (.iload_n 2, 1) := by decide +kernel
theorem dX0_lookAtChance_80 : decode cX0_lookAtChance 80 = .ok (.if_icmp .ne 8, 3) := by decide +kernel
theorem dX0_lookAtChance_83 : decode cX0_lookAtChance 83 = .ok (.iload 5, 2) := by decide +kernel
theorem dX0_lookAtChance_85 : decode cX0_lookAtChance 85 = .ok (.goto 6, 3) := by decide +kernel
theorem dX0_lookAtChance_88 : decode cX0_lookAtChance 88 = .ok (.iload 5, 2) := by decide +kernel
theorem dX0_lookAtChance_90 : decode cX0_lookAtChance 90 = .ok (.ineg, 1) := by decide +kernel
theorem dX0_lookAtChance_91 : decode cX0_lookAtChance 91 = .ok (.istore 8, 2) := by decide +kernel
theorem dX0_lookAtChance_93 : decode cX0_lookAtChance 93 = .ok (.aload_n 0, 1) := by decide +kernel
theorem dX0_lookAtChance_94 : decode cX0_lookAtChance 94 = .ok (.aload_n 1, 1) := by decide +kernel
theorem dX0_lookAtChance_95 : decode cX0_lookAtChance 95 = .ok (.getfield 57, 3) := by decide +kernel
theorem dX0_lookAtChance_98 : decode cX0_lookAtChance 98 = .ok (.iload 7, 2) := by decide +kernel
theorem dX0_lookAtChance_100 : decode cX0_lookAtChance 100 = .ok (.iaload, 1) := by decide +kernel
theorem dX0_lookAtChance_101 : decode cX0_lookAtChance 101 = .ok (.iload 8, 2) := by decide +kernel
theorem dX0_lookAtChance_103 : decode cX0_lookAtChance 103 = .ok (.getstatic 59, 3) := by decide +kernel
theorem dX0_lookAtChance_106 : decode cX0_lookAtChance 106 = .ok (.iload 6, 2) := by decide +kernel
theorem dX0_lookAtChance_108 : decode cX0_lookAtChance 108 = .ok (.iaload, 1) := by decide +kernel
theorem dX0_lookAtChance_109 : decode cX0_lookAtChance 109 = .ok (.imul, 1) := by decide +kernel
theorem dX0_lookAtChance_110 : decode cX0_lookAtChance 110 = .ok (.iadd, 1) := by decide +kernel
theorem dX0_lookAtChance_111 : decode cX0_lookAtChance 111 = .ok (.putfield 25, 3) := by decide +kernel
theorem dX0_lookAtChance_114 : decode cX0_lookAtChance 114 = .ok (.aload_n 0, 1) := by decide +kernel
theorem dX0_lookAtChance_115 : decode cX0_lookAtChance 115 = .ok (.aload_n 1, 1) := by decide +kernel
theorem dX0_lookAtChance_116 : decode cX0_lookAtChance 116 = .ok (.getfield 62, 3) := by decide +kernel
theorem dX0_lookAtChance_119 : decode cX0_lookAtChance 119 = .ok (.iload 7, 2) := by decide +kernel
theorem dX0_lookAtChance_121 : decode cX0_lookAtChance 121 = .ok (.iaload, 1) := by decide +kernel
theorem dX0_lookAtChance_122 : decode cX0_lookAtChance 122 = .ok (.iload 8, 2) := by decide +kernel
theorem dX0_lookAtChance_124 : decode cX0_lookAtChance 124 = .ok (.getstatic 64, 3) := by decide +kernel
theorem dX0_lookAtChance_127 : decode cX0_lookAtChance 127 = .ok (.iload 6, 2) := by decide +kernel
theorem dX0_lookAtChance_129 : decode cX0_lookAtChance 129 = .ok (.iaload, 1) := by decide +kernel
theorem dX0_lookAtChance_130 : decode cX0_lookAtChance 130 = .ok (.imul, 1) := by decide +kernel
theorem dX0_lookAtChance_131 : decode cX0_lookAtChance 131 = .ok (.iadd, 1) := by decide +kernel
theorem dX0_lookAtChance_132 : decode cX0_lookAtChance 132 = .ok (.putfield 29, 3) := by decide +kernel
theorem dX0_lookAtChance_135 : decode cX0_lookAtChance 135 = .ok (.aload_n 0, 1) := by decide +kernel
theorem dX0_lookAtChance_136 : decode cX0_lookAtChance 136 = .ok (.aload_n 1, 1) := by decide +kernel
theorem dX0_lookAtChance_137 : decode cX0_lookAtChance 137 = .ok (.getfield 67, 3) := by decide +kernel
theorem dX0_lookAtChance_140 : decode cX0_lookAtChance 140 = .ok (.iload 7, 2) := by decide +kernel
theorem dX0_lookAtChance_142 : decode cX0_lookAtChance 142 = .ok (.iaload, 1) := by decide +kernel
theorem dX0_lookAtChance_143 : decode cX0_lookAtChance 143 = .ok (.iload 8, 2) := by decide +kernel
theorem dX0_lookAtChance_145 : decode cX0_lookAtChance 145 = .ok (.getstatic 69, 3) := by decide +kernel
theorem dX0_lookAtChance_148 : decode cX0_lookAtChance 148 = .ok (.iload 6, 2) := by decide +kernel
theorem dX0_lookAtChance_150 : decode cX0_lookAtChance 150 = .ok (.iaload, 1) := by decide +kernel
theorem dX0_lookAtChance_151 : decode cX0_lookAtChance 151 = .ok (.imul, 1) := by decide +kernel
theorem dX0_lookAtChance_152 : decode cX0_lookAtChance 152 = .ok (.iadd, 1) := by decide +kernel
theorem dX0_lookAtChance_153 : decode cX0_lookAtChance 153 = .ok (.putfield 32, 3) := by decide +kernel
theorem dX0_lookAtChance_156 : decode cX0_lookAtChance 156 = .ok (.aload_n 1, 1) := by decide +kernel
theorem dX0_lookAtChance_157 : decode cX0_lookAtChance 157 = .ok (.aload_n 0, 1) := by decide +kernel
theorem dX0_lookAtChance_158 : decode cX0_lookAtChance 158 = .ok (.getfield 25, 3) := by decide +kernel
theorem dX0_lookAtChance_161 : decode cX0_lookAtChance 161 = .ok (.aload_n 0, 1) := by decide +kernel
theorem dX0_lookAtChance_162 : decode cX0_lookAtChance 162 = .ok (.getfield 29, 3) := by decide +kernel
theorem dX0_lookAtChance_165 : decode cX0_lookAtChance 165 = .ok (.aload_n 0, 1) := by decide +kernel
theorem dX0_lookAtChance_166 : decode cX0_lookAtChance 166 = .ok (.getfield 32, 3) := by decide +kernel
theorem dX0_lookAtChance_169 : decode cX0_lookAtChance 169 = .ok (.invokevirtual 72, 3) := by decide +kernel
theorem dX0_lookAtChance_172 : decode cX0_lookAtChance 172 = .ok (.ireturn, 1) := by decide +kernel
theorem dX0_lookAtFirst_0 : decode cX0_lookAtFirst 0 = .ok (.iconst 0, 1) := by decide +kernel
theorem dX0_lookAtFirst_1 : decode cX0_lookAtFirst 1 = .ok (.istore_n 3, 1) := by decide +kernel
theorem dX0_lookAtFirst_2 : decode cX0_lookAtFirst 2 = .ok (.iload_n 3, 1) := by decide +kernel
theorem dX0_lookAtFirst_3 : decode cX0_lookAtFirst 3 = .ok (.aload_n 0, 1) := by decide +kernel
theorem dX0_lookAtFirst_4 : decode cX0_lookAtFirst 4 = .ok (.iload_n 2, 1) := by decide +kernel
theorem dX0_lookAtFirst_5 : decode cX0_lookAtFirst 5 = .ok (.invokevirtual 76, 3) := by decide +kernel
theorem dX0_lookAtFirst_8 : decode cX0_lookAtFirst 8 = .ok (.if_icmp .ge 20, 3) := by decide +kernel
theorem dX0_lookAtFirst_11 : decode cX0_lookAtFirst 11 = .ok (.aload_n 0, 1) := by decide +kernel
theorem dX0_lookAtFirst_12 : decode cX0_lookAtFirst 12 = .ok (.aload_n 1, 1) := by decide +kernel
theorem dX0_lookAtFirst_13 : decode cX0_lookAtFirst 13 = .ok (.iload_n 2, 1) := by decide +kernel
theorem dX0_lookAtFirst_14 : decode cX0_lookAtFirst 14 = .ok (.iload_n 3, 1) := by decide +kernel
theorem dX0_lookAtFirst_15 : decode cX0_lookAtFirst 15 = .ok (.invokevirtual 79, 3) := by decide +kernel
theorem dX0_lookAtFirst_18 : decode cX0_lookAtFirst 18 = .ok (.ifCond .eq 4, 3) := by decide +kernel
theorem dX0_lookAtFirst_21 : decode cX0_lookAtFirst 21 = .ok (.return_, 1) := by decide +kernel
theorem dX0_lookAtFirst_22 : decode cX0_lookAtFirst 22 = .ok (.iinc 3 1, 3) := by decide +kernel
theorem dX0_lookAtFirst_25 : decode cX0_lookAtFirst 25 = .ok (.goto (-23), 3) := by decide +kernel
theorem dX0_lookAtFirst_28 : decode cX0_lookAtFirst 28 = .ok (.aload_n 0, 1) := by decide +kernel
theorem dX0_lookAtFirst_29 : decode cX0_lookAtFirst 29 = .ok (.aload_n 1, 1) := by decide +kernel
theorem dX0_lookAtFirst_30 : decode cX0_lookAtFirst 30 = .ok (.iload_n 2, 1) := by decide +kernel
theorem dX0_lookAtFirst_31 : decode cX0_lookAtFirst 31 = .ok (.invokevirtual 83, 3) := by decide +kernel
theorem dX0_lookAtFirst_34 : decode cX0_lookAtFirst 34 = .ok (.return_, 1) := by decide +kernel
theorem dX0_lookAtSpare_0 : decode cX0_lookAtSpare 0 = .ok (.aload_n 0, 1) := by decide +kernel
theorem dX0_lookAtSpare_1 : decode cX0_lookAtSpare 1 = .ok (.aload_n 1, 1) := by decide +kernel
theorem dX0_lookAtSpare_2 : decode cX0_lookAtSpare 2 = .ok (.iload_n 2, 1) := by decide +kernel
theorem dX0_lookAtSpare_3 : decode cX0_lookAtSpare 3 = .ok (.invokevirtual 87, 3) := by decide +kernel
theorem dX0_lookAtSpare_6 : decode cX0_lookAtSpare 6 = .ok (.istore_n 3, 1) := by decide +kernel
theorem dX0_lookAtSpare_7 : decode cX0_lookAtSpare 7 = .ok (.iload_n 3, 1) := by decide +kernel
theorem dX0_lookAtSpare_8 : decode cX0_lookAtSpare 8 = .ok (.ifCond .ge 4, 3) := by decide +kernel
theorem dX0_lookAtSpare_11 : decode cX0_lookAtSpare 11 = .ok (.return_, 1) := by decide +kernel
theorem dX0_lookAtSpare_12 : decode cX0_lookAtSpare 12 = .ok (.aload_n 0, 1) := by decide +kernel
theorem dX0_lookAtSpare_13 : decode cX0_lookAtSpare 13 = .ok (.aload_n 1, 1) := by decide +kernel
theorem dX0_lookAtSpare_14 : decode cX0_lookAtSpare 14 = .ok (.getfield 67, 3) := by decide +kernel
theorem dX0_lookAtSpare_17 : decode cX0_lookAtSpare 17 = .ok (.iload_n 3, 1) := by decide +kernel
theorem dX0_lookAtSpare_18 : decode cX0_lookAtSpare 18 = .ok (.iaload, 1) := by decide +kernel
theorem dX0_lookAtSpare_19 : decode cX0_lookAtSpare 19 = .ok (.putfield 32, 3) := by decide +kernel
theorem dX0_lookAtSpare_22 : decode cX0_lookAtSpare 22 = .ok (.iconst 1, 1) := by decide +kernel
theorem dX0_lookAtSpare_23 : decode cX0_lookAtSpare 23 = .ok (.istore 4, 2) := by decide +kernel
theorem dX0_lookAtSpare_25 : decode cX0_lookAtSpare 25 = .ok (.iload 4, 2) := by decide +kernel
theorem dX0_lookAtSpare_27 : decode cX0_lookAtSpare 27 = .ok (.bipush 24, 2) := by decide +kernel
theorem dX0_lookAtSpare_29 : decode cX0_lookAtSpare 29 = .ok (.if_icmp .gt 32, 3) := by decide +kernel
theorem dX0_lookAtSpare_32 : decode cX0_lookAtSpare 32 = .ok (.aload_n 0, 1) := by decide +kernel
theorem dX0_lookAtSpare_33 : decode cX0_lookAtSpare 33 = .ok (.aload_n 1, 1) := by decide +kernel
theorem dX0_lookAtSpare_34 : decode cX0_lookAtSpare 34 = .ok (.aload_n 1, 1) := by decide +kernel
theorem dX0_lookAtSpare_35 : decode cX0_lookAtSpare 35 = .ok (.getfield 57, 3) := by decide +kernel
theorem dX0_lookAtSpare_38 : decode cX0_lookAtSpare 38 = .ok (.iload_n 3, 1) := by decide +kernel
theorem dX0_lookAtSpare_39 : decode cX0_lookAtSpare 39 = .ok (.iaload, 1) := by decide +kernel
theorem dX0_lookAtSpare_40 : decode cX0_lookAtSpare 40 = .ok (.aload_n 1, 1) := by decide +kernel
theorem dX0_lookAtSpare_41 : decode cX0_lookAtSpare 41 = .ok (.getfield 62, 3) := by decide +kernel
theorem dX0_lookAtSpare_44 : decode cX0_lookAtSpare 44 = .ok (.iload_n 3, 1) := by decide +kernel
theorem dX0_lookAtSpare_45 : decode cX0_lookAtSpare 45 = .ok (.iaload, 1) := by decide +kernel
theorem dX0_lookAtSpare_46 : decode cX0_lookAtSpare 46 = .ok (.iload 4, 2) := by decide +kernel
theorem dX0_lookAtSpare_48 : decode cX0_lookAtSpare 48 = .ok (.invokevirtual 91, 3) := by decide +kernel
theorem dX0_lookAtSpare_51 : decode cX0_lookAtSpare 51 = .ok (.ifCond .eq 4, 3) := by decide +kernel
theorem dX0_lookAtSpare_54 : decode cX0_lookAtSpare 54 = .ok (.return_, 1) := by decide +kernel
theorem dX0_lookAtSpare_55 : decode cX0_lookAtSpare 55 = .ok (.iinc 4 1, 3) := by decide +kernel
theorem dX0_lookAtSpare_58 : decode cX0_lookAtSpare 58 = .ok (.goto (-33), 3) := by decide +kernel
theorem dX0_lookAtSpare_61 : decode cX0_lookAtSpare 61 = .ok (.return_, 1) := by decide +kernel
theorem dX0_firstPlacedNeighbour_0 : decode cX0_firstPlacedNeighbour 0 = .ok (.iconst 0, 1) := by decide +kernel
theorem dX0_firstPlacedNeighbour_1 : decode cX0_firstPlacedNeighbour 1 = .ok (.istore_n 3, 1) := by decide +kernel
theorem dX0_firstPlacedNeighbour_2 : decode cX0_firstPlacedNeighbour 2 = .ok (.iload_n 3, 1) := by decide +kernel
theorem dX0_firstPlacedNeighbour_3 : decode cX0_firstPlacedNeighbour 3 = .ok (.aload_n 0, 1) := by decide +kernel
theorem dX0_firstPlacedNeighbour_4 : decode cX0_firstPlacedNeighbour 4 = .ok (.getfield 15, 3) := by decide +kernel
theorem dX0_firstPlacedNeighbour_7 : decode cX0_firstPlacedNeighbour 7 = .ok (.iload_n 2, 1) := by decide +kernel
theorem dX0_firstPlacedNeighbour_8 : decode cX0_firstPlacedNeighbour 8 = .ok (.invokevirtual 19, 3) := by decide +kernel
theorem dX0_firstPlacedNeighbour_11 : decode cX0_firstPlacedNeighbour 11 = .ok (.if_icmp .ge 41, 3) := by decide +kernel
theorem dX0_firstPlacedNeighbour_14 : decode cX0_firstPlacedNeighbour 14 = .ok (.aload_n 0, 1) := by decide +kernel
theorem dX0_firstPlacedNeighbour_15 : decode cX0_firstPlacedNeighbour 15 = .ok (.getfield 9, 3) := by decide +kernel
theorem dX0_firstPlacedNeighbour_18 : decode cX0_firstPlacedNeighbour 18 = .ok (.aload_n 0, 1) := by decide +kernel
theorem dX0_firstPlacedNeighbour_19 : decode cX0_firstPlacedNeighbour 19 = .ok (.getfield 15, 3) := by decide +kernel
theorem dX0_firstPlacedNeighbour_22 : decode cX0_firstPlacedNeighbour 22 = .ok (.iload_n 2, 1) := by decide +kernel
theorem dX0_firstPlacedNeighbour_23 : decode cX0_firstPlacedNeighbour 23 = .ok (.iload_n 3, 1) := by decide +kernel
theorem dX0_firstPlacedNeighbour_24 : decode cX0_firstPlacedNeighbour 24 = .ok (.invokevirtual 35, 3) := by decide +kernel
theorem dX0_firstPlacedNeighbour_27 : decode cX0_firstPlacedNeighbour 27 = .ok (.iload_n 2, 1) := by decide +kernel
theorem dX0_firstPlacedNeighbour_28 : decode cX0_firstPlacedNeighbour 28 = .ok (.invokevirtual 45, 3) := by decide +kernel
theorem dX0_firstPlacedNeighbour_31 : decode cX0_firstPlacedNeighbour 31 = .ok (.istore 4, 2) := by decide +kernel
theorem dX0_firstPlacedNeighbour_33 : decode cX0_firstPlacedNeighbour 33 = .ok (.aload_n 1, 1) := by decide +kernel
theorem dX0_firstPlacedNeighbour_34 : decode cX0_firstPlacedNeighbour 34 = .ok (.getfield 48, 3) := by decide +kernel
theorem dX0_firstPlacedNeighbour_37 : decode cX0_firstPlacedNeighbour 37 = .ok (.iload 4, 2) := by decide +kernel
theorem dX0_firstPlacedNeighbour_39 : decode cX0_firstPlacedNeighbour 39 = .ok (.baload, 1) := by decide +kernel
theorem dX0_firstPlacedNeighbour_40 : decode cX0_firstPlacedNeighbour 40 = .ok (.ifCond .eq 6, 3) := by decide +kernel
theorem dX0_firstPlacedNeighbour_43 : decode cX0_firstPlacedNeighbour 43 = .ok (.iload 4, 2) := by decide +kernel
theorem dX0_firstPlacedNeighbour_45 : decode cX0_firstPlacedNeighbour 45 = .ok (.ireturn, 1) := by decide +kernel
theorem dX0_firstPlacedNeighbour_46 : decode cX0_firstPlacedNeighbour 46 = .ok (.iinc 3 1, 3) := by decide +kernel
theorem dX0_firstPlacedNeighbour_49 : decode cX0_firstPlacedNeighbour 49 = .ok (.goto (-47), 3) := by decide +kernel
theorem dX0_firstPlacedNeighbour_52 : decode cX0_firstPlacedNeighbour 52 = .ok (.bipush (-2), 2) := by decide +kernel
theorem dX0_firstPlacedNeighbour_54 : decode cX0_firstPlacedNeighbour 54 = .ok (.ireturn, 1) := by decide +kernel
theorem dX0_lookAround_0 : decode cX0_lookAround 0 = .ok (.iload 4, 2) := by decide +kernel
theorem dX0_lookAround_2 : decode cX0_lookAround 2 = .ok (.ineg, 1) := by decide +kernel
theorem dX0_lookAround_3 : decode cX0_lookAround 3 = .ok (.istore 5, 2) := by decide +kernel
theorem dX0_lookAround_5 : decode cX0_lookAround 5 = .ok (.iload 5, 2) := by decide +kernel
theorem dX0_lookAround_7 : decode cX0_lookAround 7 = .ok (.iload 4, 2) := by decide +kernel
theorem dX0_lookAround_9 : decode cX0_lookAround 9 = .ok (.if_icmp .gt 85, 3) := by decide +kernel
theorem dX0_lookAround_12 : decode cX0_lookAround 12 = .ok (.iload 4, 2) := by decide +kernel
theorem dX0_lookAround_14 : decode cX0_lookAround 14 = .ok (.iload 5, 2) := by decide +kernel
theorem dX0_lookAround_16 : decode cX0_lookAround 16 = .ok (.invokestatic 95, 3) := by decide +kernel
theorem dX0_lookAround_19 : decode cX0_lookAround 19 = .ok (.isub, 1) := by decide +kernel
theorem dX0_lookAround_20 : decode cX0_lookAround 20 = .ok (.istore 6, 2) := by decide +kernel
theorem dX0_lookAround_22 : decode cX0_lookAround 22 = .ok (.aload_n 0, 1) := by decide +kernel
theorem dX0_lookAround_23 : decode cX0_lookAround 23 = .ok (.iload_n 3, 1) := by decide +kernel
theorem dX0_lookAround_24 : decode cX0_lookAround 24 = .ok (.iload 5, 2) := by decide +kernel
theorem dX0_lookAround_26 : decode cX0_lookAround 26 = .ok (.iadd, 1) := by decide +kernel
theorem dX0_lookAround_27 : decode cX0_lookAround 27 = .ok (.putfield 29, 3) := by decide +kernel
theorem dX0_lookAround_30 : decode cX0_lookAround 30 = .ok (.aload_n 0, 1) := by decide +kernel
theorem dX0_lookAround_31 : decode cX0_lookAround 31 = .ok (.iload_n 2, 1) := by decide +kernel
theorem dX0_lookAround_32 : decode cX0_lookAround 32 = .ok (.iload 6, 2) := by decide +kernel
theorem dX0_lookAround_34 : decode cX0_lookAround 34 = .ok (.isub, 1) := by decide +kernel
theorem dX0_lookAround_35 : decode cX0_lookAround 35 = .ok (.putfield 25, 3) := by decide +kernel
theorem dX0_lookAround_38 : decode cX0_lookAround 38 = .ok (.aload_n 1, 1) := by decide +kernel
theorem dX0_lookAround_39 : decode cX0_lookAround 39 = .ok (.aload_n 0, 1) := by decide +kernel
theorem dX0_lookAround_40 : decode cX0_lookAround 40 = .ok (.getfield 25, 3) := by decide +kernel
theorem dX0_lookAround_43 : decode cX0_lookAround 43 = .ok (.aload_n 0, 1) := by decide +kernel
theorem dX0_lookAround_44 : decode cX0_lookAround 44 = .ok (.getfield 29, 3) := by decide +kernel
theorem dX0_lookAround_47 : decode cX0_lookAround 47 = .ok (.aload_n 0, 1) := by decide +kernel
theorem dX0_lookAround_48 : decode cX0_lookAround 48 = .ok (.getfield 32, 3) := by decide +kernel
theorem dX0_lookAround_51 : decode cX0_lookAround 51 = .ok (.invokevirtual 72, 3) := by decide +kernel
theorem dX0_lookAround_54 : decode cX0_lookAround 54 = .ok (.ifCond .eq 5, 3) := by decide +kernel
theorem dX0_lookAround_57 : decode cX0_lookAround 57 = .ok (.iconst 1, 1) := by decide +kernel
theorem dX0_lookAround_58 : decode cX0_lookAround 58 = .ok (.ireturn, 1) := by decide +kernel
theorem dX0_lookAround_59 : decode cX0_lookAround 59 = .ok (.aload_n 0, 1) := by decide +kernel
theorem dX0_lookAround_60 : decode cX0_lookAround 60 = .ok (.iload_n 2, 1) := by decide +kernel
theorem dX0_lookAround_61 : decode cX0_lookAround 61 = .ok (.iload 6, 2) := by decide +kernel
theorem dX0_lookAround_63 : decode cX0_lookAround 63 = .ok (.iadd, 1) := by decide +kernel
theorem dX0_lookAround_64 : decode cX0_lookAround 64 = .ok (.putfield 25, 3) := by decide +kernel
theorem dX0_lookAround_67 : decode cX0_lookAround 67 = .ok (.aload_n 1, 1) := by decide +kernel
theorem dX0_lookAround_68 : decode cX0_lookAround 68 = .ok (.aload_n 0, 1) := by decide +kernel
theorem dX0_lookAround_69 : decode cX0_lookAround 69 = .ok (.getfield 25, 3) := by decide +kernel
theorem dX0_lookAround_72 : decode cX0_lookAround 72 = .ok (.aload_n 0, 1) := by decide +kernel
theorem dX0_lookAround_73 : decode cX0_lookAround 73 = .ok (.getfield 29, 3) := by decide +kernel
theorem dX0_lookAround_76 : decode cX0_lookAround 76 = .ok (.aload_n 0, 1) := by decide +kernel
theorem dX0_lookAround_77 : decode cX0_lookAround 77 = .ok (.getfield 32, 3) := by decide +kernel
theorem dX0_lookAround_80 : decode cX0_lookAround 80 = .ok (.invokevirtual 72, 3) := by decide +kernel
theorem dX0_lookAround_83 : decode cX0_lookAround 83 = .ok (.ifCond .eq 5, 3) := by decide +kernel
theorem dX0_lookAround_86 : decode cX0_lookAround 86 = .ok (.iconst 1, 1) := by decide +kernel
theorem dX0_lookAround_87 : decode cX0_lookAround 87 = .ok (.ireturn, 1) := by decide +kernel
theorem dX0_lookAround_88 : decode cX0_lookAround 88 = .ok (.iinc 5 1, 3) := by decide +kernel
theorem dX0_lookAround_91 : decode cX0_lookAround 91 = .ok (.goto (-86), 3) := by decide +kernel
theorem dX0_lookAround_94 : decode cX0_lookAround 94 = .ok (.iconst 0, 1) := by decide +kernel
theorem dX0_lookAround_95 : decode cX0_lookAround 95 = .ok (.ireturn, 1) := by decide +kernel
theorem dX7_init_0 : decode cX7_init 0 = .ok (.aload_n 0, 1) := by decide +kernel
theorem dX7_init_1 : decode cX7_init 1 = .ok (.invokespecial 3, 3) := by decide +kernel
theorem dX7_init_4 : decode cX7_init 4 = .ok (.aload_n 0, 1) := by decide +kernel
theorem dX7_init_5 : decode cX7_init 5 = .ok (.bipush 24, 2) := by decide +kernel
theorem dX7_init_7 : decode cX7_init 7 = .ok (.newarray .int, 2) := by decide +kernel
theorem dX7_init_9 : decode cX7_init 9 = .ok (.putfield 9, 3) := by decide +kernel
theorem dX7_init_12 : decode cX7_init 12 = .ok (.aload_n 0, 1) := by decide +kernel
theorem dX7_init_13 : decode cX7_init 13 = .ok (.aload_n 1, 1) := by decide +kernel
theorem dX7_init_14 : decode cX7_init 14 = .ok (.putfield 15, 3) := by decide +kernel
theorem dX7_init_17 : decode cX7_init 17 = .ok (.return_, 1) := by decide +kernel
theorem dX7_wayLength_0 : decode cX7_wayLength 0 = .ok (.aload_n 0, 1) := by decide +kernel
theorem dX7_wayLength_1 : decode cX7_wayLength 1 = .ok (.iload_n 2, 1) := by decide +kernel
theorem dX7_wayLength_2 : decode cX7_wayLength 2 = .ok (.invokevirtual 19, 3) := by decide +kernel
theorem dX7_wayLength_5 : decode cX7_wayLength 5 = .ok (.aload_n 0, 1) := by decide +kernel
theorem dX7_wayLength_6 : decode cX7_wayLength 6 = .ok (.getfield 9, 3) := by decide +kernel
theorem dX7_wayLength_9 : decode cX7_wayLength 9 = .ok (.iload_n 1, 1) := by decide +kernel
theorem dX7_wayLength_10 : decode cX7_wayLength 10 = .ok (.iaload, 1) := by decide +kernel
theorem dX7_wayLength_11 : decode cX7_wayLength 11 = .ok (.sipush 1000, 3) := by decide +kernel
theorem dX7_wayLength_14 : decode cX7_wayLength 14 = .ok (.if_icmp .ge 12, 3) := by decide +kernel
theorem dX7_wayLength_17 : decode cX7_wayLength 17 = .ok (.aload_n 0, 1) := by decide +kernel
theorem dX7_wayLength_18 : decode cX7_wayLength 18 = .ok (.getfield 9, 3) := by decide +kernel
theorem dX7_wayLength_21 : decode cX7_wayLength 21 = .ok (.iload_n 1, 1) := by decide +kernel
theorem dX7_wayLength_22 : decode cX7_wayLength 22 = .ok (.iaload, 1) := by decide +kernel
theorem dX7_wayLength_23 : decode cX7_wayLength 23 = .ok (.goto 5, 3) := by decide +kernel
theorem dX7_wayLength_26 : decode cX7_wayLength 26 = .ok (.bipush (-2), 2) := by decide +kernel
theorem dX7_wayLength_28 : decode cX7_wayLength 28 = .ok (.ireturn, 1) := by decide +kernel
theorem dX7_wayDirection_0 : decode cX7_wayDirection 0 = .ok (.aload_n 0, 1) := by decide +kernel
theorem dX7_wayDirection_1 : decode cX7_wayDirection 1 = .ok (.iload_n 1, 1) := by decide +kernel
theorem dX7_wayDirection_2 : decode cX7_wayDirection 2 = .ok (.iload_n 2, 1) := by decide +kernel
theorem dX7_wayDirection_3 : decode cX7_wayDirection 3 = .ok (.invokevirtual 23, 3) := by decide +kernel
theorem dX7_wayDirection_6 : decode cX7_wayDirection 6 = .ok (.istore 4, 2) := by decide +kernel
theorem dX7_wayDirection_8 : decode cX7_wayDirection 8 = .ok (.iload_n 3, 1) := by decide +kernel
theorem dX7_wayDirection_9 : decode cX7_wayDirection 9 = .ok (.ifCond .lt 9, 3) := by decide +kernel
theorem dX7_wayDirection_12 : decode cX7_wayDirection 12 = .ok (.iload_n 3, 1) := by decide +kernel
theorem dX7_wayDirection_13 : decode cX7_wayDirection 13 = .ok (.iload 4, 2) := by decide +kernel
theorem dX7_wayDirection_15 : decode cX7_wayDirection 15 = .ok (.if_icmp .lt 6, 3) := by decide +kernel
theorem dX7_wayDirection_18 : decode cX7_wayDirection 18 = .ok (.bipush (-2), 2) := by decide +kernel
theorem dX7_wayDirection_20 : decode cX7_wayDirection 20 = .ok (.ireturn, 1) := by decide +kernel
theorem dX7_wayDirection_21 : decode cX7_wayDirection 21 = .ok (.iload_n 1, 1) := by decide +kernel
theorem dX7_wayDirection_22 : decode cX7_wayDirection 22 = .ok (.istore 5, 2) := by decide +kernel
theorem dX7_wayDirection_24 : decode cX7_wayDirection 24 = .ok (.aload_n 0, 1) := by decide +kernel
theorem dX7_wayDirection_25 : decode cX7_wayDirection 25 = .ok (.iload 5, 2) := by decide +kernel
theorem dX7_wayDirection_27 : decode cX7_wayDirection 27 = .ok (.invokevirtual 27, 3) := by decide +kernel
theorem dX7_wayDirection_30 : decode cX7_wayDirection 30 = .ok (.istore 6, 2) := by decide +kernel
theorem dX7_wayDirection_32 : decode cX7_wayDirection 32 = .ok (.iconst 0, 1) := by decide +kernel
theorem dX7_wayDirection_33 : decode cX7_wayDirection 33 = .ok (.istore 7, 2) := by decide +kernel
theorem dX7_wayDirection_35 : decode cX7_wayDirection 35 = .ok (.iload 7, 2) := by decide +kernel
theorem dX7_wayDirection_37 : decode cX7_wayDirection 37 = .ok (.iload_n 3, 1) := by decide +kernel
theorem dX7_wayDirection_38 : decode cX7_wayDirection 38 = .ok (.if_icmp .ge 35, 3) := by decide +kernel
theorem dX7_wayDirection_41 : decode cX7_wayDirection 41 = .ok (.iload 6, 2) := by decide +kernel
theorem dX7_wayDirection_43 : decode cX7_wayDirection 43 = .ok (.ifCond .lt 30, 3) := by decide +kernel
theorem dX7_wayDirection_46 : decode cX7_wayDirection 46 = .ok (.aload_n 0, 1) := by decide +kernel
theorem dX7_wayDirection_47 : decode cX7_wayDirection 47 = .ok (.getfield 15, 3) := by decide +kernel
theorem dX7_wayDirection_50 : decode cX7_wayDirection 50 = .ok (.iload 5, 2) := by decide +kernel
theorem dX7_wayDirection_52 : decode cX7_wayDirection 52 = .ok (.iload 6, 2) := by decide +kernel
theorem dX7_wayDirection_54 : decode cX7_wayDirection 54 = .ok (.invokevirtual 31, 3) := by decide +kernel
theorem dX7_wayDirection_57 : decode cX7_wayDirection 57 = .ok (.istore 5, 2) := by decide +kernel
theorem dX7_wayDirection_59 : decode cX7_wayDirection 59 = .ok (.aload_n 0, 1) := by decide +kernel
theorem dX7_wayDirection_60 : decode cX7_wayDirection 60 = .ok (.iload 5, 2) := by decide +kernel
theorem dX7_wayDirection_62 : decode cX7_wayDirection 62 = .ok (.invokevirtual 27, 3) := by decide +kernel
theorem dX7_wayDirection_65 : decode cX7_wayDirection 65 = .ok (.istore 6, 2) := by decide +kernel
theorem dX7_wayDirection_67 : decode cX7_wayDirection 67 = .ok (.iinc 7 1, 3) := by decide +kernel
theorem dX7_wayDirection_70 : decode cX7_wayDirection 70 = .ok (.goto (-35), 3) := by decide +kernel
theorem dX7_wayDirection_73 : decode cX7_wayDirection 73 = .ok (.iload 6, 2) := by decide +kernel
theorem dX7_wayDirection_75 : decode cX7_wayDirection 75 = .ok (.ireturn, 1) := by decide +kernel
theorem dX7_measure_0 : decode cX7_measure 0 = .ok (.iconst 0, 1) := by decide +kernel
theorem dX7_measure_1 : decode cX7_measure 1 = .ok (.istore_n 2, 1) := by decide +kernel
theorem dX7_measure_2 : decode cX7_measure 2 = .ok (.iload_n 2, 1) := by decide +kernel
theorem dX7_measure_3 : decode cX7_measure 3 = .ok (.aload_n 0, 1) := by decide +kernel
theorem dX7_measure_4 : decode cX7_measure 4 = .ok (.getfield 15, 3) := by decide +kernel
theorem dX7_measure_7 : decode cX7_measure 7 = .ok (.getfield 36, 3) := by decide +kernel
theorem dX7_measure_10 : decode cX7_measure 10 = .ok (.if_icmp .ge 27, 3) := by decide +kernel
theorem dX7_measure_13 : decode cX7_measure 13 = .ok (.aload_n 0, 1) := by decide +kernel
theorem dX7_measure_14 : decode cX7_measure 14 = .ok (.getfield 9, 3) := by decide +kernel
theorem dX7_measure_17 : decode cX7_measure 17 = .ok (.iload_n 2, 1) := by decide +kernel
theorem dX7_measure_18 : decode cX7_measure 18 = .ok (.iload_n 2, 1) := by decide +kernel
theorem dX7_measure_19 : decode cX7_measure 19 = .ok (.iload_n 1, 1) := by decide +kernel
theorem dX7_measure_20 : decode cX7_measure 20 = .ok (.if_icmp .ne 7, 3) := by decide +kernel
theorem dX7_measure_23 : decode cX7_measure 23 = .ok (.iconst 0, 1) := by decide +kernel
theorem dX7_measure_24 : decode cX7_measure 24 = .ok (.goto 6, 3) := by decide +kernel
theorem dX7_measure_27 : decode cX7_measure 27 = .ok (.sipush 1000, 3) := by decide +kernel
theorem dX7_measure_30 : decode cX7_measure 30 = .ok (.iastore, 1) := by decide +kernel
theorem dX7_measure_31 : decode cX7_measure 31 = .ok (.iinc 2 1, 3) := by decide +kernel
theorem dX7_measure_34 : decode cX7_measure 34 = .ok (.goto (-32), 3) := by decide +kernel
theorem dX7_measure_37 : decode cX7_measure 37 = .ok (.iconst 1, 1) := by decide +kernel
theorem dX7_measure_38 : decode cX7_measure 38 = .ok (.istore_n 2, 1) := by decide +kernel
theorem dX7_measure_39 : decode cX7_measure 39 = .ok (.iconst 0, 1) := by decide +kernel
theorem dX7_measure_40 : decode cX7_measure 40 = .ok (.istore_n 3, 1) := by decide +kernel
theorem dX7_measure_41 : decode cX7_measure 41 = .ok (.iload_n 3, 1) := by decide +kernel
theorem dX7_measure_42 : decode cX7_measure 42 = .ok (.aload_n 0, 1) := by decide +kernel
theorem dX7_measure_43 : decode cX7_measure 43 = .ok (.getfield 15, 3) := by decide +kernel
theorem dX7_measure_46 : decode cX7_measure 46 = .ok (.getfield 36, 3) := by decide +kernel
theorem dX7_measure_49 : decode cX7_measure 49 = .ok (.if_icmp .ge 18, 3) := by decide +kernel
theorem dX7_measure_52 : decode cX7_measure 52 = .ok (.iload_n 2, 1) := by decide +kernel
theorem dX7_measure_53 : decode cX7_measure 53 = .ok (.ifCond .eq 14, 3) := by decide +kernel
theorem dX7_measure_56 : decode cX7_measure 56 = .ok (.aload_n 0, 1) := by decide +kernel
theorem dX7_measure_57 : decode cX7_measure 57 = .ok (.invokevirtual 40, 3) := by decide +kernel
theorem dX7_measure_60 : decode cX7_measure 60 = .ok (.istore_n 2, 1) := by decide +kernel
theorem dX7_measure_61 : decode cX7_measure 61 = .ok (.iinc 3 1, 3) := by decide +kernel
theorem dX7_measure_64 : decode cX7_measure 64 = .ok (.goto (-23), 3) := by decide +kernel
theorem dX7_measure_67 : decode cX7_measure 67 = .ok (.return_, 1) := by decide +kernel
theorem dX7_shortenAll_0 : decode cX7_shortenAll 0 = .ok (.iconst 0, 1) := by decide +kernel
theorem dX7_shortenAll_1 : decode cX7_shortenAll 1 = .ok (.istore_n 1, 1) := by decide +kernel
theorem dX7_shortenAll_2 : decode cX7_shortenAll 2 = .ok (.iconst 0, 1) := by decide +kernel
theorem dX7_shortenAll_3 : decode cX7_shortenAll 3 = .ok (.istore_n 2, 1) := by decide +kernel
theorem dX7_shortenAll_4 : decode cX7_shortenAll 4 = .ok (.iload_n 2, 1) := by decide +kernel
theorem dX7_shortenAll_5 : decode cX7_shortenAll 5 = .ok (.aload_n 0, 1) := by decide +kernel
theorem dX7_shortenAll_6 : decode cX7_shortenAll 6 = .ok (.getfield 15, 3) := by decide +kernel
theorem dX7_shortenAll_9 : decode cX7_shortenAll 9 = .ok (.getfield 44, 3) := by decide +kernel
theorem dX7_shortenAll_12 : decode cX7_shortenAll 12 = .ok (.if_icmp .ge 71, 3) := by decide +kernel
theorem dX7_shortenAll_15 : decode cX7_shortenAll 15 = .ok (.iload_n 1, 1) := by decide +kernel
theorem dX7_shortenAll_16 : decode cX7_shortenAll 16 = .ok (.aload_n 0, 1) := by decide +kernel
theorem dX7_shortenAll_17 : decode cX7_shortenAll 17 = .ok (.aload_n 0, 1) := by decide +kernel
theorem dX7_shortenAll_18 : decode cX7_shortenAll 18 = .ok (.getfield 15, 3) := by decide +kernel
theorem dX7_shortenAll_21 : decode cX7_shortenAll 21 = .ok (.getfield 47, 3) := by decide +kernel
theorem dX7_shortenAll_24 : decode cX7_shortenAll 24 = .ok (.iload_n 2, 1) := by decide +kernel
theorem dX7_shortenAll_25 : decode cX7_shortenAll 25 = .ok (.iaload, 1) := by decide +kernel
theorem dX7_shortenAll_26 : decode cX7_shortenAll 26 = .ok (.aload_n 0, 1) := by decide +kernel
theorem dX7_shortenAll_27 : decode cX7_shortenAll 27 = .ok (.getfield 15, 3) := by decide +kernel
theorem dX7_shortenAll_30 : decode cX7_shortenAll 30 = .ok (.getfield 50, 3) := by decide +kernel
theorem dX7_shortenAll_33 : decode cX7_shortenAll 33 = .ok (.iload_n 2, 1) := by decide +kernel
theorem dX7_shortenAll_34 : decode cX7_shortenAll 34 = .ok (.iaload, 1) := by decide +kernel
theorem dX7_shortenAll_35 : decode cX7_shortenAll 35 = .ok (.invokevirtual 53, 3) := by decide +kernel
theorem dX7_shortenAll_38 : decode cX7_shortenAll 38 = .ok (.ior, 1) := by decide +kernel
theorem dX7_shortenAll_39 : decode cX7_shortenAll 39 = .ok (.istore_n 1, 1) := by decide +kernel
theorem dX7_shortenAll_40 : decode cX7_shortenAll 40 = .ok (.aload_n 0, 1) := by decide +kernel
theorem dX7_shortenAll_41 : decode cX7_shortenAll 41 = .ok (.getfield 15, 3) := by decide +kernel
theorem dX7_shortenAll_44 : decode cX7_shortenAll 44 = .ok (.getfield 57, 3) := by decide +kernel
theorem dX7_shortenAll_47 : decode cX7_shortenAll 47 = .ok (.iload_n 2, 1) := by decide +kernel
theorem dX7_shortenAll_48 : decode cX7_shortenAll 48 = .ok (.baload, 1) := by decide +kernel
theorem dX7_shortenAll_49 : decode cX7_shortenAll 49 = .ok (.ifCond .eq 28, 3) := by decide +kernel
theorem dX7_shortenAll_52 : decode cX7_shortenAll 52 = .ok (.iload_n 1, 1) := by decide +kernel
theorem dX7_shortenAll_53 : decode cX7_shortenAll 53 = .ok (.aload_n 0, 1) := by decide +kernel
theorem dX7_shortenAll_54 : decode cX7_shortenAll 54 = .ok (.aload_n 0, 1) := by decide +kernel
theorem dX7_shortenAll_55 : decode cX7_shortenAll 55 = .ok (.getfield 15, 3) := by decide +kernel
theorem dX7_shortenAll_58 : decode cX7_shortenAll 58 = .ok (.getfield 50, 3) := by decide +kernel
theorem dX7_shortenAll_61 : decode cX7_shortenAll 61 = .ok (.iload_n 2, 1) := by decide +kernel
theorem dX7_shortenAll_62 : decode cX7_shortenAll 62 = .ok (.iaload, 1) := by decide +kernel
theorem dX7_shortenAll_63 : decode cX7_shortenAll 63 = .ok (.aload_n 0, 1) := by decide +kernel
theorem dX7_shortenAll_64 : decode cX7_shortenAll 64 = .ok (.getfield 15, 3) := by decide +kernel
theorem dX7_shortenAll_67 : decode cX7_shortenAll 67 = .ok (.getfield 47, 3) := by decide +kernel
theorem dX7_shortenAll_70 : decode cX7_shortenAll 70 = .ok (.iload_n 2, 1) := by decide +kernel
theorem dX7_shortenAll_71 : decode cX7_shortenAll 71 = .ok (.iaload, 1) := by decide +kernel
theorem dX7_shortenAll_72 : decode cX7_shortenAll 72 = .ok (.invokevirtual 53, 3) := by decide +kernel
theorem dX7_shortenAll_75 : decode cX7_shortenAll 75 = .ok (.ior, 1) := by decide +kernel
theorem dX7_shortenAll_76 : decode cX7_shortenAll 76 = .ok (.istore_n 1, 1) := by decide +kernel
theorem dX7_shortenAll_77 : decode cX7_shortenAll 77 = .ok (.iinc 2 1, 3) := by decide +kernel
theorem dX7_shortenAll_80 : decode cX7_shortenAll 80 = .ok (.goto (-76), 3) := by decide +kernel
theorem dX7_shortenAll_83 : decode cX7_shortenAll 83 = .ok (.iload_n 1, 1) := by decide +kernel
theorem dX7_shortenAll_84 : decode cX7_shortenAll 84 = .ok (.ireturn, 1) := by decide +kernel
theorem dX7_shorten_0 : decode cX7_shorten 0 = .ok (.aload_n 0, 1) := by decide +kernel
theorem dX7_shorten_1 : decode cX7_shorten 1 = .ok (.getfield 9, 3) := by decide +kernel
theorem dX7_shorten_4 : decode cX7_shorten 4 = .ok (.iload_n 2, 1) := by decide +kernel
theorem dX7_shorten_5 : decode cX7_shorten 5 = .ok (.iaload, 1) := by decide +kernel
theorem dX7_shorten_6 : decode cX7_shorten 6 = .ok (.iconst 1, 1) := by decide +kernel
theorem dX7_shorten_7 : decode cX7_shorten 7 = .ok (.iadd, 1) := by decide +kernel
theorem dX7_shorten_8 : decode cX7_shorten 8 = .ok (.aload_n 0, 1) := by decide +kernel
theorem dX7_shorten_9 : decode cX7_shorten 9 = .ok (.getfield 9, 3) := by decide +kernel
theorem dX7_shorten_12 : decode cX7_shorten 12 = .ok (.iload_n 1, 1) := by decide +kernel
theorem dX7_shorten_13 : decode cX7_shorten 13 = .ok (.iaload, 1) := by decide +kernel
theorem dX7_shorten_14 : decode cX7_shorten 14 = .ok (.if_icmp .lt 5, 3) := by decide +kernel
theorem dX7_shorten_17 : decode cX7_shorten 17 = .ok (.iconst 0, 1) := by decide +kernel
theorem dX7_shorten_18 : decode cX7_shorten 18 = .ok (.ireturn, 1) := by decide +kernel
theorem dX7_shorten_19 : decode cX7_shorten 19 = .ok (.aload_n 0, 1) := by decide +kernel
theorem dX7_shorten_20 : decode cX7_shorten 20 = .ok (.getfield 9, 3) := by decide +kernel
theorem dX7_shorten_23 : decode cX7_shorten 23 = .ok (.iload_n 1, 1) := by decide +kernel
theorem dX7_shorten_24 : decode cX7_shorten 24 = .ok (.aload_n 0, 1) := by decide +kernel
theorem dX7_shorten_25 : decode cX7_shorten 25 = .ok (.getfield 9, 3) := by decide +kernel
theorem dX7_shorten_28 : decode cX7_shorten 28 = .ok (.iload_n 2, 1) := by decide +kernel
theorem dX7_shorten_29 : decode cX7_shorten 29 = .ok (.iaload, 1) := by decide +kernel
theorem dX7_shorten_30 : decode cX7_shorten 30 = .ok (.iconst 1, 1) := by decide +kernel
theorem dX7_shorten_31 : decode cX7_shorten 31 = .ok (.iadd, 1) := by decide +kernel
theorem dX7_shorten_32 : decode cX7_shorten 32 = .ok (.iastore, 1) := by decide +kernel
theorem dX7_shorten_33 : decode cX7_shorten 33 = .ok (.iconst 1, 1) := by decide +kernel
theorem dX7_shorten_34 : decode cX7_shorten 34 = .ok (.ireturn, 1) := by decide +kernel
theorem dX7_leastGoodDirection_0 : decode cX7_leastGoodDirection 0 = .ok (.iconst 0, 1) := by decide +kernel
theorem dX7_leastGoodDirection_1 : decode cX7_leastGoodDirection 1 = .ok (.istore_n 2, 1) := by decide +kernel
theorem dX7_leastGoodDirection_2 : decode cX7_leastGoodDirection 2 = .ok (.iload_n 2, 1) := by decide +kernel
theorem dX7_leastGoodDirection_3 : decode cX7_leastGoodDirection 3 = .ok (.bipush 10, 2) := by decide +kernel
theorem dX7_leastGoodDirection_5 : decode cX7_leastGoodDirection 5 = .ok (.if_icmp .ge 42, 3) := by decide +kernel
theorem dX7_leastGoodDirection_8 : decode cX7_leastGoodDirection 8 = .ok (.aload_n 0, 1) := by decide +kernel
theorem dX7_leastGoodDirection_9 : decode cX7_leastGoodDirection 9 = .ok (.getfield 15, 3) := by decide +kernel
theorem dX7_leastGoodDirection_12 : decode cX7_leastGoodDirection 12 = .ok (.iload_n 1, 1) := by decide +kernel
theorem dX7_leastGoodDirection_13 : decode cX7_leastGoodDirection 13 = .ok (.iload_n 2, 1) := by decide +kernel
theorem dX7_leastGoodDirection_14 : decode cX7_leastGoodDirection 14 = .ok (.invokevirtual 31, 3) := by decide +kernel
theorem dX7_leastGoodDirection_17 : decode cX7_leastGoodDirection 17 = .ok (.istore_n 3, 1) := by decide +kernel
theorem dX7_leastGoodDirection_18 : decode cX7_leastGoodDirection 18 = .ok (.iload_n 3, 1) := by decide +kernel
theorem dX7_leastGoodDirection_19 : decode cX7_leastGoodDirection 19 = .ok (.ifCond .lt 22, 3) := by decide +kernel
theorem dX7_leastGoodDirection_22 : decode cX7_leastGoodDirection 22 = .ok (.aload_n 0, 1) := by decide +kernel
theorem dX7_leastGoodDirection_23 : decode cX7_leastGoodDirection 23 = .ok (.getfield 9, 3) := by decide +kernel
theorem dX7_leastGoodDirection_26 : decode cX7_leastGoodDirection 26 = .ok (.iload_n 3, 1) := by decide +kernel
theorem dX7_leastGoodDirection_27 : decode cX7_leastGoodDirection 27 = .ok (.iaload, 1) := by decide +kernel
theorem dX7_leastGoodDirection_28 : decode cX7_leastGoodDirection 28 = .ok (.iconst 1, 1) := by decide +kernel
theorem dX7_leastGoodDirection_29 : decode cX7_leastGoodDirection 29 = .ok (.iadd, 1) := by decide +kernel
theorem dX7_leastGoodDirection_30 : decode cX7_leastGoodDirection 30 = .ok (.aload_n 0, 1) := by decide +kernel
theorem dX7_leastGoodDirection_31 : decode cX7_leastGoodDirection 31 = .ok (.getfield 9, 3) := by decide +kernel
theorem dX7_leastGoodDirection_34 : decode cX7_leastGoodDirection 34 = .ok (.iload_n 1, 1) := by decide +kernel
theorem dX7_leastGoodDirection_35 : decode cX7_leastGoodDirection 35 = .ok (.iaload, 1) := by decide +kernel
theorem dX7_leastGoodDirection_36 : decode cX7_leastGoodDirection 36 = .ok (.if_icmp .ne 5, 3) := by decide +kernel
theorem dX7_leastGoodDirection_39 : decode cX7_leastGoodDirection 39 = .ok (.iload_n 2, 1) := by decide +kernel
theorem dX7_leastGoodDirection_40 : decode cX7_leastGoodDirection 40 = .ok (.ireturn, 1) := by decide +kernel
theorem dX7_leastGoodDirection_41 : decode cX7_leastGoodDirection 41 = .ok (.iinc 2 1, 3) := by decide +kernel
theorem dX7_leastGoodDirection_44 : decode cX7_leastGoodDirection 44 = .ok (.goto (-42), 3) := by decide +kernel
theorem dX7_leastGoodDirection_47 : decode cX7_leastGoodDirection 47 = .ok (.bipush (-2), 2) := by decide +kernel
theorem dX7_leastGoodDirection_49 : decode cX7_leastGoodDirection 49 = .ok (.ireturn, 1) := by decide +kernel
theorem dX4_init_0 : decode cX4_init 0 = .ok (.aload_n 0, 1) := by decide +kernel
theorem dX4_init_1 : decode cX4_init 1 = .ok (.invokespecial 3, 3) := by decide +kernel
theorem dX4_init_4 : decode cX4_init 4 = .ok (.aload_n 0, 1) := by decide +kernel
theorem dX4_init_5 : decode cX4_init 5 = .ok (.aload_n 1, 1) := by decide +kernel
theorem dX4_init_6 : decode cX4_init 6 = .ok (.putfield 9, 3) := by decide +kernel
theorem dX4_init_9 : decode cX4_init 9 = .ok (.aload_n 0, 1) := by decide +kernel
theorem dX4_init_10 : decode cX4_init 10 = .ok (.aload_n 2, 1) := by decide +kernel
theorem dX4_init_11 : decode cX4_init 11 = .ok (.putfield 15, 3) := by decide +kernel
theorem dX4_init_14 : decode cX4_init 14 = .ok (.return_, 1) := by decide +kernel
theorem dX4_signAt_0 : decode cX4_signAt 0 = .ok (.aload_n 0, 1) := by decide +kernel
theorem dX4_signAt_1 : decode cX4_signAt 1 = .ok (.aload_n 0, 1) := by decide +kernel
theorem dX4_signAt_2 : decode cX4_signAt 2 = .ok (.getfield 15, 3) := by decide +kernel
theorem dX4_signAt_5 : decode cX4_signAt 5 = .ok (.aload_n 0, 1) := by decide +kernel
theorem dX4_signAt_6 : decode cX4_signAt 6 = .ok (.getfield 15, 3) := by decide +kernel
theorem dX4_signAt_9 : decode cX4_signAt 9 = .ok (.getfield 19, 3) := by decide +kernel
theorem dX4_signAt_12 : decode cX4_signAt 12 = .ok (.invokevirtual 25, 3) := by decide +kernel
theorem dX4_signAt_15 : decode cX4_signAt 15 = .ok (.putfield 29, 3) := by decide +kernel
theorem dX4_signAt_18 : decode cX4_signAt 18 = .ok (.aload_n 0, 1) := by decide +kernel
theorem dX4_signAt_19 : decode cX4_signAt 19 = .ok (.aload_n 0, 1) := by decide +kernel
theorem dX4_signAt_20 : decode cX4_signAt 20 = .ok (.getfield 15, 3) := by decide +kernel
theorem dX4_signAt_23 : decode cX4_signAt 23 = .ok (.aload_n 0, 1) := by decide +kernel
theorem dX4_signAt_24 : decode cX4_signAt 24 = .ok (.getfield 15, 3) := by decide +kernel
theorem dX4_signAt_27 : decode cX4_signAt 27 = .ok (.getfield 33, 3) := by decide +kernel
theorem dX4_signAt_30 : decode cX4_signAt 30 = .ok (.invokevirtual 25, 3) := by decide +kernel
theorem dX4_signAt_33 : decode cX4_signAt 33 = .ok (.putfield 36, 3) := by decide +kernel
theorem dX4_signAt_36 : decode cX4_signAt 36 = .ok (.aload_n 0, 1) := by decide +kernel
theorem dX4_signAt_37 : decode cX4_signAt 37 = .ok (.iload_n 1, 1) := by decide +kernel
theorem dX4_signAt_38 : decode cX4_signAt 38 = .ok (.iload_n 2, 1) := by decide +kernel
theorem dX4_signAt_39 : decode cX4_signAt 39 = .ok (.iload_n 3, 1) := by decide +kernel
theorem dX4_signAt_40 : decode cX4_signAt 40 = .ok (.invokevirtual 39, 3) := by decide +kernel
theorem dX4_signAt_43 : decode cX4_signAt 43 = .ok (.istore 4, 2) := by decide +kernel
theorem dX4_signAt_45 : decode cX4_signAt 45 = .ok (.iload 4, 2) := by decide +kernel
theorem dX4_signAt_47 : decode cX4_signAt 47 = .ok (.bipush 32, 2) := by decide +kernel
theorem dX4_signAt_49 : decode cX4_signAt 49 = .ok (.if_icmp .ne 12, 3) := by decide +kernel
theorem dX4_signAt_52 : decode cX4_signAt 52 = .ok (.aload_n 0, 1) := by decide +kernel
theorem dX4_signAt_53 : decode cX4_signAt 53 = .ok (.iload_n 1, 1) := by decide +kernel
theorem dX4_signAt_54 : decode cX4_signAt 54 = .ok (.iload_n 2, 1) := by decide +kernel
theorem dX4_signAt_55 : decode cX4_signAt 55 = .ok (.iload_n 3, 1) := by decide +kernel
theorem dX4_signAt_56 : decode cX4_signAt 56 = .ok (.invokevirtual 43, 3) := by decide +kernel
theorem dX4_signAt_59 : decode cX4_signAt 59 = .ok (.istore 4, 2) := by decide +kernel
theorem dX4_signAt_61 : decode cX4_signAt 61 = .ok (.iload 4, 2) := by decide +kernel
theorem dX4_signAt_63 : decode cX4_signAt 63 = .ok (.bipush 32, 2) := by decide +kernel
theorem dX4_signAt_65 : decode cX4_signAt 65 = .ok (.if_icmp .ne 13, 3) := by decide +kernel
theorem dX4_signAt_68 : decode cX4_signAt 68 = .ok (.aload_n 0, 1) := by decide +kernel
theorem dX4_signAt_69 : decode cX4_signAt 69 = .ok (.iload_n 1, 1) := by decide +kernel
theorem dX4_signAt_70 : decode cX4_signAt 70 = .ok (.iload_n 2, 1) := by decide +kernel
theorem dX4_signAt_71 : decode cX4_signAt 71 = .ok (.iload_n 3, 1) := by decide +kernel
theorem dX4_signAt_72 : decode cX4_signAt 72 = .ok (.invokevirtual 46, 3) := by decide +kernel
theorem dX4_signAt_75 : decode cX4_signAt 75 = .ok (.goto 5, 3) := by decide +kernel
theorem dX4_signAt_78 : decode cX4_signAt 78 = .ok (.iload 4, 2) := by decide +kernel
theorem dX4_signAt_80 : decode cX4_signAt 80 = .ok (.ireturn, 1) := by decide +kernel
theorem dX4_letterAt_0 : decode cX4_letterAt 0 = .ok (.iconst 0, 1) := by decide +kernel
theorem dX4_letterAt_1 : decode cX4_letterAt 1 = .ok (.istore 4, 2) := by decide +kernel
theorem dX4_letterAt_3 : decode cX4_letterAt 3 = .ok (.iload 4, 2) := by decide +kernel
theorem dX4_letterAt_5 : decode cX4_letterAt 5 = .ok (.aload_n 0, 1) := by decide +kernel
theorem dX4_letterAt_6 : decode cX4_letterAt 6 = .ok (.getfield 9, 3) := by decide +kernel
theorem dX4_letterAt_9 : decode cX4_letterAt 9 = .ok (.getfield 49, 3) := by decide +kernel
theorem dX4_letterAt_12 : decode cX4_letterAt 12 = .ok (.if_icmp .ge 46, 3) := by decide +kernel
theorem dX4_letterAt_15 : decode cX4_letterAt 15 = .ok (.aload_n 0, 1) := by decide +kernel
theorem dX4_letterAt_16 : decode cX4_letterAt 16 = .ok (.iload 4, 2) := by decide +kernel
theorem dX4_letterAt_18 : decode cX4_letterAt 18 = .ok (.iload_n 1, 1) := by decide +kernel
theorem dX4_letterAt_19 : decode cX4_letterAt 19 = .ok (.iload_n 3, 1) := by decide +kernel
theorem dX4_letterAt_20 : decode cX4_letterAt 20 = .ok (.invokevirtual 54, 3) := by decide +kernel
theorem dX4_letterAt_23 : decode cX4_letterAt 23 = .ok (.ifCond .eq 29, 3) := by decide +kernel
theorem dX4_letterAt_26 : decode cX4_letterAt 26 = .ok (.iload_n 2, 1) := by decide +kernel
theorem dX4_letterAt_27 : decode cX4_letterAt 27 = .ok (.aload_n 0, 1) := by decide +kernel
theorem dX4_letterAt_28 : decode cX4_letterAt 28 = .ok (.iload 4, 2) := by decide +kernel
theorem dX4_letterAt_30 : decode cX4_letterAt 30 = .ok (.invokevirtual 58, 3) := by decide +kernel
theorem dX4_letterAt_33 : decode cX4_letterAt 33 = .ok (.if_icmp .lt 19, 3) := by decide +kernel
theorem dX4_letterAt_36 : decode cX4_letterAt 36 = .ok (.iload_n 2, 1) := by decide +kernel
theorem dX4_letterAt_37 : decode cX4_letterAt 37 = .ok (.aload_n 0, 1) := by decide +kernel
theorem dX4_letterAt_38 : decode cX4_letterAt 38 = .ok (.iload 4, 2) := by decide +kernel
theorem dX4_letterAt_40 : decode cX4_letterAt 40 = .ok (.invokevirtual 62, 3) := by decide +kernel
theorem dX4_letterAt_43 : decode cX4_letterAt 43 = .ok (.if_icmp .ge 9, 3) := by decide +kernel
theorem dX4_letterAt_46 : decode cX4_letterAt 46 = .ok (.bipush 65, 2) := by decide +kernel
theorem dX4_letterAt_48 : decode cX4_letterAt 48 = .ok (.iload 4, 2) := by decide +kernel
theorem dX4_letterAt_50 : decode cX4_letterAt 50 = .ok (.iadd, 1) := by decide +kernel
theorem dX4_letterAt_51 : decode cX4_letterAt 51 = .ok (.ireturn, 1) := by decide +kernel
theorem dX4_letterAt_52 : decode cX4_letterAt 52 = .ok (.iinc 4 1, 3) := by decide +kernel
theorem dX4_letterAt_55 : decode cX4_letterAt 55 = .ok (.goto (-52), 3) := by decide +kernel
theorem dX4_letterAt_58 : decode cX4_letterAt 58 = .ok (.bipush 32, 2) := by decide +kernel
theorem dX4_letterAt_60 : decode cX4_letterAt 60 = .ok (.ireturn, 1) := by decide +kernel
theorem dX4_stairsAt_0 : decode cX4_stairsAt 0 = .ok (.iconst 0, 1) := by decide +kernel
theorem dX4_stairsAt_1 : decode cX4_stairsAt 1 = .ok (.istore 4, 2) := by decide +kernel
theorem dX4_stairsAt_3 : decode cX4_stairsAt 3 = .ok (.iload 4, 2) := by decide +kernel
theorem dX4_stairsAt_5 : decode cX4_stairsAt 5 = .ok (.aload_n 0, 1) := by decide +kernel
theorem dX4_stairsAt_6 : decode cX4_stairsAt 6 = .ok (.getfield 9, 3) := by decide +kernel
theorem dX4_stairsAt_9 : decode cX4_stairsAt 9 = .ok (.getfield 49, 3) := by decide +kernel
theorem dX4_stairsAt_12 : decode cX4_stairsAt 12 = .ok (.if_icmp .ge 77, 3) := by decide +kernel
theorem dX4_stairsAt_15 : decode cX4_stairsAt 15 = .ok (.aload_n 0, 1) := by decide +kernel
theorem dX4_stairsAt_16 : decode cX4_stairsAt 16 = .ok (.iload 4, 2) := by decide +kernel
theorem dX4_stairsAt_18 : decode cX4_stairsAt 18 = .ok (.iload_n 1, 1) := by decide +kernel
theorem dX4_stairsAt_19 : decode cX4_stairsAt 19 = .ok (.iload_n 3, 1) := by decide +kernel
theorem dX4_stairsAt_20 : decode cX4_stairsAt 20 = .ok (.invokevirtual 54, 3) := by decide +kernel
theorem dX4_stairsAt_23 : decode cX4_stairsAt 23 = .ok (.ifCond .eq 60, 3) := by decide +kernel
theorem dX4_stairsAt_26 : decode cX4_stairsAt 26 = .ok (.aload_n 0, 1) := by decide +kernel
theorem dX4_stairsAt_27 : decode cX4_stairsAt 27 = .ok (.iload 4, 2) := by decide +kernel
theorem dX4_stairsAt_29 : decode cX4_stairsAt 29 = .ok (.invokevirtual 62, 3) := by decide +kernel
theorem dX4_stairsAt_32 : decode cX4_stairsAt 32 = .ok (.istore 5, 2) := by decide +kernel
theorem dX4_stairsAt_34 : decode cX4_stairsAt 34 = .ok (.aload_n 0, 1) := by decide +kernel
theorem dX4_stairsAt_35 : decode cX4_stairsAt 35 = .ok (.getfield 9, 3) := by decide +kernel
theorem dX4_stairsAt_38 : decode cX4_stairsAt 38 = .ok (.iload 4, 2) := by decide +kernel
theorem dX4_stairsAt_40 : decode cX4_stairsAt 40 = .ok (.bipush 8, 2) := by decide +kernel
theorem dX4_stairsAt_42 : decode cX4_stairsAt 42 = .ok (.invokevirtual 65, 3) := by decide +kernel
theorem dX4_stairsAt_45 : decode cX4_stairsAt 45 = .ok (.ifCond .lt 15, 3) := by decide +kernel
theorem dX4_stairsAt_48 : decode cX4_stairsAt 48 = .ok (.iload_n 2, 1) := by decide +kernel
theorem dX4_stairsAt_49 : decode cX4_stairsAt 49 = .ok (.iload 5, 2) := by decide +kernel
theorem dX4_stairsAt_51 : decode cX4_stairsAt 51 = .ok (.if_icmp .ne 6, 3) := by decide +kernel
theorem dX4_stairsAt_54 : decode cX4_stairsAt 54 = .ok (.bipush 94, 2) := by decide +kernel
theorem dX4_stairsAt_56 : decode cX4_stairsAt 56 = .ok (.ireturn, 1) := by decide +kernel
theorem dX4_stairsAt_57 : decode cX4_stairsAt 57 = .ok (.iinc 5 1, 3) := by decide +kernel
theorem dX4_stairsAt_60 : decode cX4_stairsAt 60 = .ok (.iload_n 2, 1) := by decide +kernel
theorem dX4_stairsAt_61 : decode cX4_stairsAt 61 = .ok (.iload 5, 2) := by decide +kernel
theorem dX4_stairsAt_63 : decode cX4_stairsAt 63 = .ok (.if_icmp .ne 20, 3) := by decide +kernel
theorem dX4_stairsAt_66 : decode cX4_stairsAt 66 = .ok (.aload_n 0, 1) := by decide +kernel
theorem dX4_stairsAt_67 : decode cX4_stairsAt 67 = .ok (.getfield 9, 3) := by decide +kernel
theorem dX4_stairsAt_70 : decode cX4_stairsAt 70 = .ok (.iload 4, 2) := by decide +kernel
theorem dX4_stairsAt_72 : decode cX4_stairsAt 72 = .ok (.bipush 9, 2) := by decide +kernel
theorem dX4_stairsAt_74 : decode cX4_stairsAt 74 = .ok (.invokevirtual 65, 3) := by decide +kernel
theorem dX4_stairsAt_77 : decode cX4_stairsAt 77 = .ok (.ifCond .lt 6, 3) := by decide +kernel
theorem dX4_stairsAt_80 : decode cX4_stairsAt 80 = .ok (.bipush 118, 2) := by decide +kernel
theorem dX4_stairsAt_82 : decode cX4_stairsAt 82 = .ok (.ireturn, 1) := by decide +kernel
theorem dX4_stairsAt_83 : decode cX4_stairsAt 83 = .ok (.iinc 4 1, 3) := by decide +kernel
theorem dX4_stairsAt_86 : decode cX4_stairsAt 86 = .ok (.goto (-83), 3) := by decide +kernel
theorem dX4_stairsAt_89 : decode cX4_stairsAt 89 = .ok (.bipush 32, 2) := by decide +kernel
theorem dX4_stairsAt_91 : decode cX4_stairsAt 91 = .ok (.ireturn, 1) := by decide +kernel
theorem dX4_lineAt_0 : decode cX4_lineAt 0 = .ok (.iconst 0, 1) := by decide +kernel
theorem dX4_lineAt_1 : decode cX4_lineAt 1 = .ok (.istore 4, 2) := by decide +kernel
theorem dX4_lineAt_3 : decode cX4_lineAt 3 = .ok (.iload 4, 2) := by decide +kernel
theorem dX4_lineAt_5 : decode cX4_lineAt 5 = .ok (.aload_n 0, 1) := by decide +kernel
theorem dX4_lineAt_6 : decode cX4_lineAt 6 = .ok (.getfield 9, 3) := by decide +kernel
theorem dX4_lineAt_9 : decode cX4_lineAt 9 = .ok (.getfield 69, 3) := by decide +kernel
theorem dX4_lineAt_12 : decode cX4_lineAt 12 = .ok (.if_icmp .ge 96, 3) := by decide +kernel
theorem dX4_lineAt_15 : decode cX4_lineAt 15 = .ok (.aload_n 0, 1) := by decide +kernel
theorem dX4_lineAt_16 : decode cX4_lineAt 16 = .ok (.getfield 9, 3) := by decide +kernel
theorem dX4_lineAt_19 : decode cX4_lineAt 19 = .ok (.getfield 72, 3) := by decide +kernel
theorem dX4_lineAt_22 : decode cX4_lineAt 22 = .ok (.iload 4, 2) := by decide +kernel
theorem dX4_lineAt_24 : decode cX4_lineAt 24 = .ok (.iaload, 1) := by decide +kernel
theorem dX4_lineAt_25 : decode cX4_lineAt 25 = .ok (.bipush 8, 2) := by decide +kernel
theorem dX4_lineAt_27 : decode cX4_lineAt 27 = .ok (.if_icmp .ge 19, 3) := by decide +kernel
theorem dX4_lineAt_30 : decode cX4_lineAt 30 = .ok (.aload_n 0, 1) := by decide +kernel
theorem dX4_lineAt_31 : decode cX4_lineAt 31 = .ok (.getfield 15, 3) := by decide +kernel
theorem dX4_lineAt_34 : decode cX4_lineAt 34 = .ok (.iload 4, 2) := by decide +kernel
theorem dX4_lineAt_36 : decode cX4_lineAt 36 = .ok (.invokevirtual 75, 3) := by decide +kernel
theorem dX4_lineAt_39 : decode cX4_lineAt 39 = .ok (.ifCond .eq 7, 3) := by decide +kernel
theorem dX4_lineAt_42 : decode cX4_lineAt 42 = .ok (.iconst 1, 1) := by decide +kernel
theorem dX4_lineAt_43 : decode cX4_lineAt 43 = .ok (.goto 4, 3) := by decide +kernel
theorem dX4_lineAt_46 : decode cX4_lineAt 46 = .ok (.iconst 0, 1) := by decide +kernel
theorem dX4_lineAt_47 : decode cX4_lineAt 47 = .ok (.istore 5, 2) := by decide +kernel
theorem dX4_lineAt_49 : decode cX4_lineAt 49 = .ok (.iload 5, 2) := by decide +kernel
theorem dX4_lineAt_51 : decode cX4_lineAt 51 = .ok (.ifCond .eq 51, 3) := by decide +kernel
theorem dX4_lineAt_54 : decode cX4_lineAt 54 = .ok (.aload_n 0, 1) := by decide +kernel
theorem dX4_lineAt_55 : decode cX4_lineAt 55 = .ok (.getfield 15, 3) := by decide +kernel
theorem dX4_lineAt_58 : decode cX4_lineAt 58 = .ok (.getfield 79, 3) := by decide +kernel
theorem dX4_lineAt_61 : decode cX4_lineAt 61 = .ok (.aload_n 0, 1) := by decide +kernel
theorem dX4_lineAt_62 : decode cX4_lineAt 62 = .ok (.getfield 9, 3) := by decide +kernel
theorem dX4_lineAt_65 : decode cX4_lineAt 65 = .ok (.getfield 82, 3) := by decide +kernel
theorem dX4_lineAt_68 : decode cX4_lineAt 68 = .ok (.iload 4, 2) := by decide +kernel
theorem dX4_lineAt_70 : decode cX4_lineAt 70 = .ok (.iaload, 1) := by decide +kernel
theorem dX4_lineAt_71 : decode cX4_lineAt 71 = .ok (.iaload, 1) := by decide +kernel
theorem dX4_lineAt_72 : decode cX4_lineAt 72 = .ok (.iload_n 1, 1) := by decide +kernel
theorem dX4_lineAt_73 : decode cX4_lineAt 73 = .ok (.if_icmp .ne 29, 3) := by decide +kernel
theorem dX4_lineAt_76 : decode cX4_lineAt 76 = .ok (.aload_n 0, 1) := by decide +kernel
theorem dX4_lineAt_77 : decode cX4_lineAt 77 = .ok (.iload 4, 2) := by decide +kernel
theorem dX4_lineAt_79 : decode cX4_lineAt 79 = .ok (.iload_n 2, 1) := by decide +kernel
theorem dX4_lineAt_80 : decode cX4_lineAt 80 = .ok (.iload_n 3, 1) := by decide +kernel
theorem dX4_lineAt_81 : decode cX4_lineAt 81 = .ok (.invokevirtual 85, 3) := by decide +kernel
theorem dX4_lineAt_84 : decode cX4_lineAt 84 = .ok (.ifCond .eq 18, 3) := by decide +kernel
theorem dX4_lineAt_87 : decode cX4_lineAt 87 = .ok (.getstatic 88, 3) := by decide +kernel
theorem dX4_lineAt_90 : decode cX4_lineAt 90 = .ok (.aload_n 0, 1) := by decide +kernel
theorem dX4_lineAt_91 : decode cX4_lineAt 91 = .ok (.getfield 9, 3) := by decide +kernel
theorem dX4_lineAt_94 : decode cX4_lineAt 94 = .ok (.getfield 72, 3) := by decide +kernel
theorem dX4_lineAt_97 : decode cX4_lineAt 97 = .ok (.iload 4, 2) := by decide +kernel
theorem dX4_lineAt_99 : decode cX4_lineAt 99 = .ok (.iaload, 1) := by decide +kernel
theorem dX4_lineAt_100 : decode cX4_lineAt 100 = .ok (.iaload, 1) := by decide +kernel
theorem dX4_lineAt_101 : decode cX4_lineAt 101 = .ok (.ireturn, 1) := by decide +kernel
theorem dX4_lineAt_102 : decode cX4_lineAt 102 = .ok (.iinc 4 1, 3) := by decide +kernel
theorem dX4_lineAt_105 : decode cX4_lineAt 105 = .ok (.goto (-102), 3) := by decide +kernel
theorem dX4_lineAt_108 : decode cX4_lineAt 108 = .ok (.bipush 32, 2) := by decide +kernel
theorem dX4_lineAt_110 : decode cX4_lineAt 110 = .ok (.ireturn, 1) := by decide +kernel
theorem dX4_isOnLine_0 : decode cX4_isOnLine 0 = .ok (.aload_n 0, 1) := by decide +kernel
theorem dX4_isOnLine_1 : decode cX4_isOnLine 1 = .ok (.getfield 15, 3) := by decide +kernel
theorem dX4_isOnLine_4 : decode cX4_isOnLine 4 = .ok (.iload_n 1, 1) := by decide +kernel
theorem dX4_isOnLine_5 : decode cX4_isOnLine 5 = .ok (.invokevirtual 91, 3) := by decide +kernel
theorem dX4_isOnLine_8 : decode cX4_isOnLine 8 = .ok (.istore 4, 2) := by decide +kernel
theorem dX4_isOnLine_10 : decode cX4_isOnLine 10 = .ok (.iload 4, 2) := by decide +kernel
theorem dX4_isOnLine_12 : decode cX4_isOnLine 12 = .ok (.ifCond .ne 5, 3) := by decide +kernel
theorem dX4_isOnLine_15 : decode cX4_isOnLine 15 = .ok (.iconst 0, 1) := by decide +kernel
theorem dX4_isOnLine_16 : decode cX4_isOnLine 16 = .ok (.ireturn, 1) := by decide +kernel
theorem dX4_isOnLine_17 : decode cX4_isOnLine 17 = .ok (.aload_n 0, 1) := by decide +kernel
theorem dX4_isOnLine_18 : decode cX4_isOnLine 18 = .ok (.getfield 9, 3) := by decide +kernel
theorem dX4_isOnLine_21 : decode cX4_isOnLine 21 = .ok (.getfield 72, 3) := by decide +kernel
theorem dX4_isOnLine_24 : decode cX4_isOnLine 24 = .ok (.iload_n 1, 1) := by decide +kernel
theorem dX4_isOnLine_25 : decode cX4_isOnLine 25 = .ok (.iaload, 1) := by decide +kernel
theorem dX4_isOnLine_26 : decode cX4_isOnLine 26 = .ok (.istore 5, 2) := by decide +kernel
theorem dX4_isOnLine_28 : decode cX4_isOnLine 28 = .ok (.getstatic 94, 3) := by decide +kernel
theorem dX4_isOnLine_31 : decode cX4_isOnLine 31 = .ok (.iload 5, 2) := by decide +kernel
theorem dX4_isOnLine_33 : decode cX4_isOnLine 33 = .ok (.iaload, 1) := by decide +kernel
theorem dX4_isOnLine_34 : decode cX4_isOnLine 34 = .ok (.ifCond .lt 21, 3) := by decide +kernel
theorem dX4_isOnLine_37 : decode cX4_isOnLine 37 = .ok (.getstatic 94, 3) := by decide +kernel
theorem dX4_isOnLine_40 : decode cX4_isOnLine 40 = .ok (.iload 5, 2) := by decide +kernel
theorem dX4_isOnLine_42 : decode cX4_isOnLine 42 = .ok (.iaload, 1) := by decide +kernel
theorem dX4_isOnLine_43 : decode cX4_isOnLine 43 = .ok (.ifCond .ne 16, 3) := by decide +kernel
theorem dX4_isOnLine_46 : decode cX4_isOnLine 46 = .ok (.getstatic 97, 3) := by decide +kernel
theorem dX4_isOnLine_49 : decode cX4_isOnLine 49 = .ok (.iload 5, 2) := by decide +kernel
theorem dX4_isOnLine_51 : decode cX4_isOnLine 51 = .ok (.iaload, 1) := by decide +kernel
theorem dX4_isOnLine_52 : decode cX4_isOnLine 52 = .ok (.ifCond .ge 7, 3) := by decide +kernel
theorem dX4_isOnLine_55 : decode cX4_isOnLine 55 = .ok (.iconst 1, 1) := by decide +kernel
theorem dX4_isOnLine_56 : decode cX4_isOnLine 56 = .ok (.goto 4, 3) := by decide +kernel
theorem dX4_isOnLine_59 : decode cX4_isOnLine 59 = .ok (.iconst 0, 1) := by decide +kernel
theorem dX4_isOnLine_60 : decode cX4_isOnLine 60 = .ok (.istore 6, 2) := by decide +kernel
theorem dX4_isOnLine_62 : decode cX4_isOnLine 62 = .ok (.iload 6, 2) := by decide +kernel

theorem dX9_findOrder_6 : decode cX9_findOrder 6 = .ok (.istore_n 2, 1) := by decide +kernel
theorem dX9_findOrder_7 : decode cX9_findOrder 7 = .ok (.iload_n 2, 1) := by decide +kernel
theorem dX9_findOrder_8 : decode cX9_findOrder 8 = .ok (.aload_n 0, 1) := by decide +kernel
theorem dX9_findOrder_9 : decode cX9_findOrder 9 = .ok (.getfield 86, 3) := by decide +kernel
theorem dX9_findOrder_12 : decode cX9_findOrder 12 = .ok (.if_icmp .ge 16, 3) := by decide +kernel
theorem dX9_findOrder_15 : decode cX9_findOrder 15 = .ok (.aload_n 0, 1) := by decide +kernel
theorem dX9_findOrder_16 : decode cX9_findOrder 16 = .ok (.getfield 68, 3) := by decide +kernel
theorem dX9_findOrder_19 : decode cX9_findOrder 19 = .ok (.iload_n 2, 1) := by decide +kernel
theorem dX9_findOrder_20 : decode cX9_findOrder 20 = .ok (.iconst 0, 1) := by decide +kernel
theorem dX9_findOrder_21 : decode cX9_findOrder 21 = .ok (.bastore, 1) := by decide +kernel
theorem dX9_findOrder_22 : decode cX9_findOrder 22 = .ok (.iinc 2 1, 3) := by decide +kernel
theorem dX9_findOrder_25 : decode cX9_findOrder 25 = .ok (.goto (-18), 3) := by decide +kernel
theorem dX9_findOrder_28 : decode cX9_findOrder 28 = .ok (.iconst 1, 1) := by decide +kernel
theorem dX9_findOrder_29 : decode cX9_findOrder 29 = .ok (.istore_n 2, 1) := by decide +kernel
theorem dX9_findOrder_30 : decode cX9_findOrder 30 = .ok (.iload_n 2, 1) := by decide +kernel
theorem dX9_findOrder_31 : decode cX9_findOrder 31 = .ok (.ifCond .eq 91, 3) := by decide +kernel
theorem dX9_findOrder_34 : decode cX9_findOrder 34 = .ok (.iconst 0, 1) := by decide +kernel
theorem dX9_findOrder_35 : decode cX9_findOrder 35 = .ok (.istore_n 2, 1) := by decide +kernel
theorem dX9_findOrder_36 : decode cX9_findOrder 36 = .ok (.iconst 0, 1) := by decide +kernel
theorem dX9_findOrder_37 : decode cX9_findOrder 37 = .ok (.istore_n 3, 1) := by decide +kernel
theorem dX9_findOrder_38 : decode cX9_findOrder 38 = .ok (.iload_n 3, 1) := by decide +kernel
theorem dX9_findOrder_39 : decode cX9_findOrder 39 = .ok (.aload_n 0, 1) := by decide +kernel
theorem dX9_findOrder_40 : decode cX9_findOrder 40 = .ok (.getfield 86, 3) := by decide +kernel
theorem dX9_findOrder_43 : decode cX9_findOrder 43 = .ok (.if_icmp .ge 76, 3) := by decide +kernel
theorem dX9_findOrder_46 : decode cX9_findOrder 46 = .ok (.iload_n 2, 1) := by decide +kernel
theorem dX9_findOrder_47 : decode cX9_findOrder 47 = .ok (.ifCond .ne 72, 3) := by decide +kernel
theorem dX9_findOrder_50 : decode cX9_findOrder 50 = .ok (.aload_n 0, 1) := by decide +kernel
theorem dX9_findOrder_51 : decode cX9_findOrder 51 = .ok (.getfield 50, 3) := by decide +kernel
theorem dX9_findOrder_54 : decode cX9_findOrder 54 = .ok (.iload_n 3, 1) := by decide +kernel
theorem dX9_findOrder_55 : decode cX9_findOrder 55 = .ok (.iaload, 1) := by decide +kernel
theorem dX9_findOrder_56 : decode cX9_findOrder 56 = .ok (.iload_n 1, 1) := by decide +kernel
theorem dX9_findOrder_57 : decode cX9_findOrder 57 = .ok (.if_icmp .ne 56, 3) := by decide +kernel
theorem dX9_findOrder_60 : decode cX9_findOrder 60 = .ok (.aload_n 0, 1) := by decide +kernel
theorem dX9_findOrder_61 : decode cX9_findOrder 61 = .ok (.getfield 68, 3) := by decide +kernel
theorem dX9_findOrder_64 : decode cX9_findOrder 64 = .ok (.iload_n 3, 1) := by decide +kernel
theorem dX9_findOrder_65 : decode cX9_findOrder 65 = .ok (.baload, 1) := by decide +kernel
theorem dX9_findOrder_66 : decode cX9_findOrder 66 = .ok (.ifCond .ne 47, 3) := by decide +kernel
theorem dX9_findOrder_69 : decode cX9_findOrder 69 = .ok (.aload_n 0, 1) := by decide +kernel
theorem dX9_findOrder_70 : decode cX9_findOrder 70 = .ok (.getfield 175, 3) := by decide +kernel
theorem dX9_findOrder_73 : decode cX9_findOrder 73 = .ok (.ifCond .eq 11, 3) := by decide +kernel
theorem dX9_findOrder_76 : decode cX9_findOrder 76 = .ok (.aload_n 0, 1) := by decide +kernel
theorem dX9_findOrder_77 : decode cX9_findOrder 77 = .ok (.iload_n 3, 1) := by decide +kernel
theorem dX9_findOrder_78 : decode cX9_findOrder 78 = .ok (.invokevirtual 178, 3) := by decide +kernel
theorem dX9_findOrder_81 : decode cX9_findOrder 81 = .ok (.ifCond .eq 32, 3) := by decide +kernel
theorem dX9_findOrder_84 : decode cX9_findOrder 84 = .ok (.aload_n 0, 1) := by decide +kernel
theorem dX9_findOrder_85 : decode cX9_findOrder 85 = .ok (.getfield 65, 3) := by decide +kernel
theorem dX9_findOrder_88 : decode cX9_findOrder 88 = .ok (.aload_n 0, 1) := by decide +kernel
theorem dX9_findOrder_89 : decode cX9_findOrder 89 = .ok (.getfield 175, 3) := by decide +kernel
theorem dX9_findOrder_92 : decode cX9_findOrder 92 = .ok (.iload_n 3, 1) := by decide +kernel
theorem dX9_findOrder_93 : decode cX9_findOrder 93 = .ok (.iastore, 1) := by decide +kernel
theorem dX9_findOrder_94 : decode cX9_findOrder 94 = .ok (.aload_n 0, 1) := by decide +kernel
theorem dX9_findOrder_95 : decode cX9_findOrder 95 = .ok (.getfield 68, 3) := by decide +kernel
theorem dX9_findOrder_98 : decode cX9_findOrder 98 = .ok (.iload_n 3, 1) := by decide +kernel
theorem dX9_findOrder_99 : decode cX9_findOrder 99 = .ok (.iconst 1, 1) := by decide +kernel
theorem dX9_findOrder_100 : decode cX9_findOrder 100 = .ok (.bastore, 1) := by decide +kernel
theorem dX9_findOrder_101 : decode cX9_findOrder 101 = .ok (.aload_n 0, 1) := by decide +kernel
theorem dX9_findOrder_102 : decode cX9_findOrder 102 = .ok (.dup, 1) := by decide +kernel
theorem dX9_findOrder_103 : decode cX9_findOrder 103 = .ok (.getfield 175, 3) := by decide +kernel
theorem dX9_findOrder_106 : decode cX9_findOrder 106 = .ok (.iconst 1, 1) := by decide +kernel
theorem dX9_findOrder_107 : decode cX9_findOrder 107 = .ok (.iadd, 1) := by decide +kernel
theorem dX9_findOrder_108 : decode cX9_findOrder 108 = .ok (.putfield 175, 3) := by decide +kernel
theorem dX9_findOrder_111 : decode cX9_findOrder 111 = .ok (.iconst 1, 1) := by decide +kernel
theorem dX9_findOrder_112 : decode cX9_findOrder 112 = .ok (.istore_n 2, 1) := by decide +kernel
theorem dX9_findOrder_113 : decode cX9_findOrder 113 = .ok (.iinc 3 1, 3) := by decide +kernel
theorem dX9_findOrder_116 : decode cX9_findOrder 116 = .ok (.goto (-78), 3) := by decide +kernel
theorem dX9_findOrder_119 : decode cX9_findOrder 119 = .ok (.goto (-89), 3) := by decide +kernel
theorem dX9_findOrder_122 : decode cX9_findOrder 122 = .ok (.return_, 1) := by decide +kernel
theorem dX9_noteBest_0 : decode cX9_noteBest 0 = .ok (.aload_n 0, 1) := by decide +kernel
theorem dX9_noteBest_1 : decode cX9_noteBest 1 = .ok (.invokevirtual 181, 3) := by decide +kernel
theorem dX9_noteBest_4 : decode cX9_noteBest 4 = .ok (.istore_n 1, 1) := by decide +kernel
theorem dX9_noteBest_5 : decode cX9_noteBest 5 = .ok (.aload_n 0, 1) := by decide +kernel
theorem dX9_noteBest_6 : decode cX9_noteBest 6 = .ok (.getfield 185, 3) := by decide +kernel
theorem dX9_noteBest_9 : decode cX9_noteBest 9 = .ok (.ifCond .lt 11, 3) := by decide +kernel
theorem dX9_noteBest_12 : decode cX9_noteBest 12 = .ok (.iload_n 1, 1) := by decide +kernel
theorem dX9_noteBest_13 : decode cX9_noteBest 13 = .ok (.aload_n 0, 1) := by decide +kernel
theorem dX9_noteBest_14 : decode cX9_noteBest 14 = .ok (.getfield 185, 3) := by decide +kernel
theorem dX9_noteBest_17 : decode cX9_noteBest 17 = .ok (.if_icmp .ge 67, 3) := by decide +kernel
theorem dX9_noteBest_20 : decode cX9_noteBest 20 = .ok (.aload_n 0, 1) := by decide +kernel
theorem dX9_noteBest_21 : decode cX9_noteBest 21 = .ok (.iload_n 1, 1) := by decide +kernel
theorem dX9_noteBest_22 : decode cX9_noteBest 22 = .ok (.putfield 185, 3) := by decide +kernel
theorem dX9_noteBest_25 : decode cX9_noteBest 25 = .ok (.iconst 0, 1) := by decide +kernel
theorem dX9_noteBest_26 : decode cX9_noteBest 26 = .ok (.istore_n 2, 1) := by decide +kernel
theorem dX9_noteBest_27 : decode cX9_noteBest 27 = .ok (.iload_n 2, 1) := by decide +kernel
theorem dX9_noteBest_28 : decode cX9_noteBest 28 = .ok (.aload_n 0, 1) := by decide +kernel
theorem dX9_noteBest_29 : decode cX9_noteBest 29 = .ok (.getfield 175, 3) := by decide +kernel
theorem dX9_noteBest_32 : decode cX9_noteBest 32 = .ok (.if_icmp .ge 52, 3) := by decide +kernel
theorem dX9_noteBest_35 : decode cX9_noteBest 35 = .ok (.aload_n 0, 1) := by decide +kernel
theorem dX9_noteBest_36 : decode cX9_noteBest 36 = .ok (.getfield 65, 3) := by decide +kernel
theorem dX9_noteBest_39 : decode cX9_noteBest 39 = .ok (.iload_n 2, 1) := by decide +kernel
theorem dX9_noteBest_40 : decode cX9_noteBest 40 = .ok (.iaload, 1) := by decide +kernel
theorem dX9_noteBest_41 : decode cX9_noteBest 41 = .ok (.istore_n 3, 1) := by decide +kernel
theorem dX9_noteBest_42 : decode cX9_noteBest 42 = .ok (.aload_n 0, 1) := by decide +kernel
theorem dX9_noteBest_43 : decode cX9_noteBest 43 = .ok (.getfield 74, 3) := by decide +kernel
theorem dX9_noteBest_46 : decode cX9_noteBest 46 = .ok (.iload_n 3, 1) := by decide +kernel
theorem dX9_noteBest_47 : decode cX9_noteBest 47 = .ok (.aload_n 0, 1) := by decide +kernel
theorem dX9_noteBest_48 : decode cX9_noteBest 48 = .ok (.getfield 56, 3) := by decide +kernel
theorem dX9_noteBest_51 : decode cX9_noteBest 51 = .ok (.iload_n 3, 1) := by decide +kernel
theorem dX9_noteBest_52 : decode cX9_noteBest 52 = .ok (.iaload, 1) := by decide +kernel
theorem dX9_noteBest_53 : decode cX9_noteBest 53 = .ok (.iastore, 1) := by decide +kernel
theorem dX9_noteBest_54 : decode cX9_noteBest 54 = .ok (.aload_n 0, 1) := by decide +kernel
theorem dX9_noteBest_55 : decode cX9_noteBest 55 = .ok (.getfield 77, 3) := by decide +kernel
theorem dX9_noteBest_58 : decode cX9_noteBest 58 = .ok (.iload_n 3, 1) := by decide +kernel
theorem dX9_noteBest_59 : decode cX9_noteBest 59 = .ok (.aload_n 0, 1) := by decide +kernel
theorem dX9_noteBest_60 : decode cX9_noteBest 60 = .ok (.getfield 59, 3) := by decide +kernel
theorem dX9_noteBest_63 : decode cX9_noteBest 63 = .ok (.iload_n 3, 1) := by decide +kernel
theorem dX9_noteBest_64 : decode cX9_noteBest 64 = .ok (.iaload, 1) := by decide +kernel
theorem dX9_noteBest_65 : decode cX9_noteBest 65 = .ok (.iastore, 1) := by decide +kernel
theorem dX9_noteBest_66 : decode cX9_noteBest 66 = .ok (.aload_n 0, 1) := by decide +kernel
theorem dX9_noteBest_67 : decode cX9_noteBest 67 = .ok (.getfield 80, 3) := by decide +kernel
theorem dX9_noteBest_70 : decode cX9_noteBest 70 = .ok (.iload_n 3, 1) := by decide +kernel
theorem dX9_noteBest_71 : decode cX9_noteBest 71 = .ok (.aload_n 0, 1) := by decide +kernel
theorem dX9_noteBest_72 : decode cX9_noteBest 72 = .ok (.getfield 62, 3) := by decide +kernel
theorem dX9_noteBest_75 : decode cX9_noteBest 75 = .ok (.iload_n 3, 1) := by decide +kernel
theorem dX9_noteBest_76 : decode cX9_noteBest 76 = .ok (.iaload, 1) := by decide +kernel
theorem dX9_noteBest_77 : decode cX9_noteBest 77 = .ok (.iastore, 1) := by decide +kernel
theorem dX9_noteBest_78 : decode cX9_noteBest 78 = .ok (.iinc 2 1, 3) := by decide +kernel
theorem dX9_noteBest_81 : decode cX9_noteBest 81 = .ok (.goto (-54), 3) := by decide +kernel
theorem dX9_noteBest_84 : decode cX9_noteBest 84 = .ok (.return_, 1) := by decide +kernel
theorem dX9_noneThere_0 : decode cX9_noneThere 0 = .ok (.iconst 0, 1) := by decide +kernel
theorem dX9_noneThere_1 : decode cX9_noneThere 1 = .ok (.istore_n 1, 1) := by decide +kernel
theorem dX9_noneThere_2 : decode cX9_noneThere 2 = .ok (.iload_n 1, 1) := by decide +kernel
theorem dX9_noneThere_3 : decode cX9_noneThere 3 = .ok (.aload_n 0, 1) := by decide +kernel
theorem dX9_noneThere_4 : decode cX9_noneThere 4 = .ok (.getfield 86, 3) := by decide +kernel
theorem dX9_noneThere_7 : decode cX9_noneThere 7 = .ok (.if_icmp .ge 16, 3) := by decide +kernel
theorem dX9_noneThere_10 : decode cX9_noneThere 10 = .ok (.aload_n 0, 1) := by decide +kernel
theorem dX9_noneThere_11 : decode cX9_noneThere 11 = .ok (.getfield 53, 3) := by decide +kernel
theorem dX9_noneThere_14 : decode cX9_noneThere 14 = .ok (.iload_n 1, 1) := by decide +kernel
theorem dX9_noneThere_15 : decode cX9_noneThere 15 = .ok (.iconst 0, 1) := by decide +kernel
theorem dX9_noneThere_16 : decode cX9_noneThere 16 = .ok (.bastore, 1) := by decide +kernel
theorem dX9_noneThere_17 : decode cX9_noneThere 17 = .ok (.iinc 1 1, 3) := by decide +kernel
theorem dX9_noneThere_20 : decode cX9_noneThere 20 = .ok (.goto (-18), 3) := by decide +kernel
theorem dX9_noneThere_23 : decode cX9_noneThere 23 = .ok (.return_, 1) := by decide +kernel
theorem dX9_tryPart_0 : decode cX9_tryPart 0 = .ok (.aload_n 0, 1) := by decide +kernel
theorem dX9_tryPart_1 : decode cX9_tryPart 1 = .ok (.invokevirtual 188, 3) := by decide +kernel
theorem dX9_tryPart_4 : decode cX9_tryPart 4 = .ok (.aload_n 0, 1) := by decide +kernel
theorem dX9_tryPart_5 : decode cX9_tryPart 5 = .ok (.iconst (-1), 1) := by decide +kernel
theorem dX9_tryPart_6 : decode cX9_tryPart 6 = .ok (.putfield 185, 3) := by decide +kernel
theorem dX9_tryPart_9 : decode cX9_tryPart 9 = .ok (.iconst 1, 1) := by decide +kernel
theorem dX9_tryPart_10 : decode cX9_tryPart 10 = .ok (.istore_n 2, 1) := by decide +kernel
theorem dX9_tryPart_11 : decode cX9_tryPart 11 = .ok (.aload_n 0, 1) := by decide +kernel
theorem dX9_tryPart_12 : decode cX9_tryPart 12 = .ok (.aload_n 0, 1) := by decide +kernel
theorem dX9_tryPart_13 : decode cX9_tryPart 13 = .ok (.getfield 65, 3) := by decide +kernel
theorem dX9_tryPart_16 : decode cX9_tryPart 16 = .ok (.iconst 0, 1) := by decide +kernel
theorem dX9_tryPart_17 : decode cX9_tryPart 17 = .ok (.iaload, 1) := by decide +kernel
theorem dX9_tryPart_18 : decode cX9_tryPart 18 = .ok (.iconst 0, 1) := by decide +kernel
theorem dX9_tryPart_19 : decode cX9_tryPart 19 = .ok (.iconst 0, 1) := by decide +kernel
theorem dX9_tryPart_20 : decode cX9_tryPart 20 = .ok (.iconst 0, 1) := by decide +kernel
theorem dX9_tryPart_21 : decode cX9_tryPart 21 = .ok (.invokevirtual 171, 3) := by decide +kernel
theorem dX9_tryPart_24 : decode cX9_tryPart 24 = .ok (.iconst 1, 1) := by decide +kernel
theorem dX9_tryPart_25 : decode cX9_tryPart 25 = .ok (.istore_n 3, 1) := by decide +kernel
theorem dX9_tryPart_26 : decode cX9_tryPart 26 = .ok (.aload_n 0, 1) := by decide +kernel
theorem dX9_tryPart_27 : decode cX9_tryPart 27 = .ok (.getfield 71, 3) := by decide +kernel
theorem dX9_tryPart_30 : decode cX9_tryPart 30 = .ok (.iconst 1, 1) := by decide +kernel
theorem dX9_tryPart_31 : decode cX9_tryPart 31 = .ok (.iconst 0, 1) := by decide +kernel
theorem dX9_tryPart_32 : decode cX9_tryPart 32 = .ok (.iastore, 1) := by decide +kernel
theorem dX9_tryPart_33 : decode cX9_tryPart 33 = .ok (.iconst 0, 1) := by decide +kernel
theorem dX9_tryPart_34 : decode cX9_tryPart 34 = .ok (.istore 4, 2) := by decide +kernel
theorem dX9_tryPart_36 : decode cX9_tryPart 36 = .ok (.aload_n 0, 1) := by decide +kernel
theorem dX9_tryPart_37 : decode cX9_tryPart 37 = .ok (.getfield 175, 3) := by decide +kernel
theorem dX9_tryPart_40 : decode cX9_tryPart 40 = .ok (.iconst 1, 1) := by decide +kernel
theorem dX9_tryPart_41 : decode cX9_tryPart 41 = .ok (.if_icmp .ne 7, 3) := by decide +kernel
theorem dX9_tryPart_44 : decode cX9_tryPart 44 = .ok (.aload_n 0, 1) := by decide +kernel
theorem dX9_tryPart_45 : decode cX9_tryPart 45 = .ok (.invokevirtual 191, 3) := by decide +kernel
theorem dX9_tryPart_48 : decode cX9_tryPart 48 = .ok (.iload_n 3, 1) := by decide +kernel
theorem dX9_tryPart_49 : decode cX9_tryPart 49 = .ok (.ifCond .le 16, 3) := by decide +kernel
theorem dX9_tryPart_52 : decode cX9_tryPart 52 = .ok (.iload_n 3, 1) := by decide +kernel
theorem dX9_tryPart_53 : decode cX9_tryPart 53 = .ok (.aload_n 0, 1) := by decide +kernel
theorem dX9_tryPart_54 : decode cX9_tryPart 54 = .ok (.getfield 175, 3) := by decide +kernel
theorem dX9_tryPart_57 : decode cX9_tryPart 57 = .ok (.if_icmp .ge 8, 3) := by decide +kernel
theorem dX9_tryPart_60 : decode cX9_tryPart 60 = .ok (.iload 4, 2) := by decide +kernel
theorem dX9_tryPart_62 : decode cX9_tryPart 62 = .ok (.ifCond .eq 24, 3) := by decide +kernel
theorem dX9_tryPart_65 : decode cX9_tryPart 65 = .ok (.iload_n 3, 1) := by decide +kernel
theorem dX9_tryPart_66 : decode cX9_tryPart 66 = .ok (.aload_n 0, 1) := by decide +kernel
theorem dX9_tryPart_67 : decode cX9_tryPart 67 = .ok (.getfield 175, 3) := by decide +kernel
theorem dX9_tryPart_70 : decode cX9_tryPart 70 = .ok (.if_icmp .ne 181, 3) := by decide +kernel
theorem dX9_tryPart_73 : decode cX9_tryPart 73 = .ok (.aload_n 0, 1) := by decide +kernel
theorem dX9_tryPart_74 : decode cX9_tryPart 74 = .ok (.getfield 175, 3) := by decide +kernel
theorem dX9_tryPart_77 : decode cX9_tryPart 77 = .ok (.iconst 1, 1) := by decide +kernel
theorem dX9_tryPart_78 : decode cX9_tryPart 78 = .ok (.if_icmp .le 173, 3) := by decide +kernel
theorem dX9_tryPart_81 : decode cX9_tryPart 81 = .ok (.iload 4, 2) := by decide +kernel
theorem dX9_tryPart_83 : decode cX9_tryPart 83 = .ok (.ifCond .ne 168, 3) := by decide +kernel
theorem dX9_tryPart_86 : decode cX9_tryPart 86 = .ok (.iload_n 3, 1) := by decide +kernel
theorem dX9_tryPart_87 : decode cX9_tryPart 87 = .ok (.aload_n 0, 1) := by decide +kernel
theorem dX9_tryPart_88 : decode cX9_tryPart 88 = .ok (.getfield 175, 3) := by decide +kernel
theorem dX9_tryPart_91 : decode cX9_tryPart 91 = .ok (.if_icmp .ne 35, 3) := by decide +kernel
theorem dX9_tryPart_94 : decode cX9_tryPart 94 = .ok (.aload_n 0, 1) := by decide +kernel
theorem dX9_tryPart_95 : decode cX9_tryPart 95 = .ok (.invokevirtual 191, 3) := by decide +kernel
theorem dX9_tryPart_98 : decode cX9_tryPart 98 = .ok (.iinc 3 (-1), 3) := by decide +kernel
theorem dX9_tryPart_101 : decode cX9_tryPart 101 = .ok (.aload_n 0, 1) := by decide +kernel
theorem dX9_tryPart_102 : decode cX9_tryPart 102 = .ok (.getfield 53, 3) := by decide +kernel
theorem dX9_tryPart_105 : decode cX9_tryPart 105 = .ok (.aload_n 0, 1) := by decide +kernel
theorem dX9_tryPart_106 : decode cX9_tryPart 106 = .ok (.getfield 65, 3) := by decide +kernel
theorem dX9_tryPart_109 : decode cX9_tryPart 109 = .ok (.iload_n 3, 1) := by decide +kernel
theorem dX9_tryPart_110 : decode cX9_tryPart 110 = .ok (.iaload, 1) := by decide +kernel
theorem dX9_tryPart_111 : decode cX9_tryPart 111 = .ok (.iconst 0, 1) := by decide +kernel
theorem dX9_tryPart_112 : decode cX9_tryPart 112 = .ok (.bastore, 1) := by decide +kernel
theorem dX9_tryPart_113 : decode cX9_tryPart 113 = .ok (.aload_n 0, 1) := by decide +kernel
theorem dX9_tryPart_114 : decode cX9_tryPart 114 = .ok (.getfield 71, 3) := by decide +kernel
theorem dX9_tryPart_117 : decode cX9_tryPart 117 = .ok (.iload_n 3, 1) := by decide +kernel
theorem dX9_tryPart_118 : decode cX9_tryPart 118 = .ok (.dup2, 1) := by decide +kernel
theorem dX9_tryPart_119 : decode cX9_tryPart 119 = .ok (.iaload, 1) := by decide +kernel
theorem dX9_tryPart_120 : decode cX9_tryPart 120 = .ok (.iconst 1, 1) := by decide +kernel
theorem dX9_tryPart_121 : decode cX9_tryPart 121 = .ok (.iadd, 1) := by decide +kernel
theorem dX9_tryPart_122 : decode cX9_tryPart 122 = .ok (.iastore, 1) := by decide +kernel
theorem dX9_tryPart_123 : decode cX9_tryPart 123 = .ok (.goto (-75), 3) := by decide +kernel
theorem dX9_tryPart_126 : decode cX9_tryPart 126 = .ok (.aload_n 0, 1) := by decide +kernel
theorem dX9_tryPart_127 : decode cX9_tryPart 127 = .ok (.getfield 65, 3) := by decide +kernel
theorem dX9_tryPart_130 : decode cX9_tryPart 130 = .ok (.iload_n 3, 1) := by decide +kernel
theorem dX9_tryPart_131 : decode cX9_tryPart 131 = .ok (.iaload, 1) := by decide +kernel
theorem dX9_tryPart_132 : decode cX9_tryPart 132 = .ok (.istore 5, 2) := by decide +kernel
theorem dX9_tryPart_134 : decode cX9_tryPart 134 = .ok (.aload_n 0, 1) := by decide +kernel
theorem dX9_tryPart_135 : decode cX9_tryPart 135 = .ok (.iload 5, 2) := by decide +kernel
theorem dX9_tryPart_137 : decode cX9_tryPart 137 = .ok (.aload_n 0, 1) := by decide +kernel
theorem dX9_tryPart_138 : decode cX9_tryPart 138 = .ok (.getfield 71, 3) := by decide +kernel
theorem dX9_tryPart_141 : decode cX9_tryPart 141 = .ok (.iload_n 3, 1) := by decide +kernel
theorem dX9_tryPart_142 : decode cX9_tryPart 142 = .ok (.iaload, 1) := by decide +kernel
theorem dX9_tryPart_143 : decode cX9_tryPart 143 = .ok (.invokevirtual 163, 3) := by decide +kernel
theorem dX9_tryPart_146 : decode cX9_tryPart 146 = .ok (.ifCond .ne 12, 3) := by decide +kernel
theorem dX9_tryPart_149 : decode cX9_tryPart 149 = .ok (.aload_n 0, 1) := by decide +kernel
theorem dX9_tryPart_150 : decode cX9_tryPart 150 = .ok (.getfield 71, 3) := by decide +kernel
theorem dX9_tryPart_153 : decode cX9_tryPart 153 = .ok (.iload_n 3, 1) := by decide +kernel
theorem dX9_tryPart_154 : decode cX9_tryPart 154 = .ok (.iaload, 1) := by decide +kernel
theorem dX9_tryPart_155 : decode cX9_tryPart 155 = .ok (.ifCond .ne 7, 3) := by decide +kernel
theorem dX9_tryPart_158 : decode cX9_tryPart 158 = .ok (.iconst 1, 1) := by decide +kernel
theorem dX9_tryPart_159 : decode cX9_tryPart 159 = .ok (.goto 4, 3) := by decide +kernel
theorem dX9_tryPart_162 : decode cX9_tryPart 162 = .ok (.iconst 0, 1) := by decide +kernel
theorem dX9_tryPart_163 : decode cX9_tryPart 163 = .ok (.istore 6, 2) := by decide +kernel
theorem dX9_tryPart_165 : decode cX9_tryPart 165 = .ok (.iload 6, 2) := by decide +kernel
theorem dX9_tryPart_167 : decode cX9_tryPart 167 = .ok (.ifCond .ne 35, 3) := by decide +kernel
theorem dX9_tryPart_170 : decode cX9_tryPart 170 = .ok (.iinc 3 (-1), 3) := by decide +kernel
theorem dX9_tryPart_173 : decode cX9_tryPart 173 = .ok (.iload_n 3, 1) := by decide +kernel
theorem dX9_tryPart_174 : decode cX9_tryPart 174 = .ok (.ifCond .le 74, 3) := by decide +kernel
theorem dX9_tryPart_177 : decode cX9_tryPart 177 = .ok (.aload_n 0, 1) := by decide +kernel
theorem dX9_tryPart_178 : decode cX9_tryPart 178 = .ok (.getfield 53, 3) := by decide +kernel
theorem dX9_tryPart_181 : decode cX9_tryPart 181 = .ok (.aload_n 0, 1) := by decide +kernel
theorem dX9_tryPart_182 : decode cX9_tryPart 182 = .ok (.getfield 65, 3) := by decide +kernel
theorem dX9_tryPart_185 : decode cX9_tryPart 185 = .ok (.iload_n 3, 1) := by decide +kernel
theorem dX9_tryPart_186 : decode cX9_tryPart 186 = .ok (.iaload, 1) := by decide +kernel
theorem dX9_tryPart_187 : decode cX9_tryPart 187 = .ok (.iconst 0, 1) := by decide +kernel
theorem dX9_tryPart_188 : decode cX9_tryPart 188 = .ok (.bastore, 1) := by decide +kernel
theorem dX9_tryPart_189 : decode cX9_tryPart 189 = .ok (.aload_n 0, 1) := by decide +kernel
theorem dX9_tryPart_190 : decode cX9_tryPart 190 = .ok (.getfield 71, 3) := by decide +kernel
theorem dX9_tryPart_193 : decode cX9_tryPart 193 = .ok (.iload_n 3, 1) := by decide +kernel
theorem dX9_tryPart_194 : decode cX9_tryPart 194 = .ok (.dup2, 1) := by decide +kernel
theorem dX9_tryPart_195 : decode cX9_tryPart 195 = .ok (.iaload, 1) := by decide +kernel
theorem dX9_tryPart_196 : decode cX9_tryPart 196 = .ok (.iconst 1, 1) := by decide +kernel
theorem dX9_tryPart_197 : decode cX9_tryPart 197 = .ok (.iadd, 1) := by decide +kernel
theorem dX9_tryPart_198 : decode cX9_tryPart 198 = .ok (.iastore, 1) := by decide +kernel
theorem dX9_tryPart_199 : decode cX9_tryPart 199 = .ok (.goto 49, 3) := by decide +kernel
theorem dX9_tryPart_202 : decode cX9_tryPart 202 = .ok (.iload_n 2, 1) := by decide +kernel
theorem dX9_tryPart_203 : decode cX9_tryPart 203 = .ok (.iload_n 1, 1) := by decide +kernel
theorem dX9_tryPart_204 : decode cX9_tryPart 204 = .ok (.if_icmp .ne 9, 3) := by decide +kernel
theorem dX9_tryPart_207 : decode cX9_tryPart 207 = .ok (.iconst 1, 1) := by decide +kernel
theorem dX9_tryPart_208 : decode cX9_tryPart 208 = .ok (.istore 4, 2) := by decide +kernel
theorem dX9_tryPart_210 : decode cX9_tryPart 210 = .ok (.goto 38, 3) := by decide +kernel
theorem dX9_tryPart_213 : decode cX9_tryPart 213 = .ok (.aload_n 0, 1) := by decide +kernel
theorem dX9_tryPart_214 : decode cX9_tryPart 214 = .ok (.iload 5, 2) := by decide +kernel
theorem dX9_tryPart_216 : decode cX9_tryPart 216 = .ok (.aload_n 0, 1) := by decide +kernel
theorem dX9_tryPart_217 : decode cX9_tryPart 217 = .ok (.getfield 71, 3) := by decide +kernel
theorem dX9_tryPart_220 : decode cX9_tryPart 220 = .ok (.iload_n 3, 1) := by decide +kernel
theorem dX9_tryPart_221 : decode cX9_tryPart 221 = .ok (.iaload, 1) := by decide +kernel
theorem dX9_tryPart_222 : decode cX9_tryPart 222 = .ok (.invokevirtual 194, 3) := by decide +kernel
theorem dX9_tryPart_225 : decode cX9_tryPart 225 = .ok (.istore 7, 2) := by decide +kernel
theorem dX9_tryPart_227 : decode cX9_tryPart 227 = .ok (.iinc 2 1, 3) := by decide +kernel
theorem dX9_tryPart_230 : decode cX9_tryPart 230 = .ok (.iinc 3 1, 3) := by decide +kernel
theorem dX9_tryPart_233 : decode cX9_tryPart 233 = .ok (.iload_n 3, 1) := by decide +kernel
theorem dX9_tryPart_234 : decode cX9_tryPart 234 = .ok (.aload_n 0, 1) := by decide +kernel
theorem dX9_tryPart_235 : decode cX9_tryPart 235 = .ok (.getfield 175, 3) := by decide +kernel
theorem dX9_tryPart_238 : decode cX9_tryPart 238 = .ok (.if_icmp .ge 10, 3) := by decide +kernel
theorem dX9_tryPart_241 : decode cX9_tryPart 241 = .ok (.aload_n 0, 1) := by decide +kernel
theorem dX9_tryPart_242 : decode cX9_tryPart 242 = .ok (.getfield 71, 3) := by decide +kernel
theorem dX9_tryPart_245 : decode cX9_tryPart 245 = .ok (.iload_n 3, 1) := by decide +kernel
theorem dX9_tryPart_246 : decode cX9_tryPart 246 = .ok (.iconst 0, 1) := by decide +kernel
theorem dX9_tryPart_247 : decode cX9_tryPart 247 = .ok (.iastore, 1) := by decide +kernel
theorem dX9_tryPart_248 : decode cX9_tryPart 248 = .ok (.goto (-200), 3) := by decide +kernel
theorem dX9_tryPart_251 : decode cX9_tryPart 251 = .ok (.aload_n 0, 1) := by decide +kernel
theorem dX9_tryPart_252 : decode cX9_tryPart 252 = .ok (.dup, 1) := by decide +kernel
theorem dX9_tryPart_253 : decode cX9_tryPart 253 = .ok (.getfield 197, 3) := by decide +kernel
theorem dX9_tryPart_256 : decode cX9_tryPart 256 = .ok (.iload_n 2, 1) := by decide +kernel
theorem dX9_tryPart_257 : decode cX9_tryPart 257 = .ok (.iadd, 1) := by decide +kernel
theorem dX9_tryPart_258 : decode cX9_tryPart 258 = .ok (.putfield 197, 3) := by decide +kernel
theorem dX9_tryPart_261 : decode cX9_tryPart 261 = .ok (.iload 4, 2) := by decide +kernel
theorem dX9_tryPart_263 : decode cX9_tryPart 263 = .ok (.ifCond .ne 7, 3) := by decide +kernel
theorem dX9_tryPart_266 : decode cX9_tryPart 266 = .ok (.iconst 1, 1) := by decide +kernel
theorem dX9_tryPart_267 : decode cX9_tryPart 267 = .ok (.goto 4, 3) := by decide +kernel
theorem dX9_tryPart_270 : decode cX9_tryPart 270 = .ok (.iconst 0, 1) := by decide +kernel
theorem dX9_tryPart_271 : decode cX9_tryPart 271 = .ok (.ireturn, 1) := by decide +kernel
theorem dX9_byFirst_0 : decode cX9_byFirst 0 = .ok (.aload_n 0, 1) := by decide +kernel
theorem dX9_byFirst_1 : decode cX9_byFirst 1 = .ok (.invokevirtual 188, 3) := by decide +kernel
theorem dX9_byFirst_4 : decode cX9_byFirst 4 = .ok (.aload_n 0, 1) := by decide +kernel
theorem dX9_byFirst_5 : decode cX9_byFirst 5 = .ok (.aload_n 0, 1) := by decide +kernel
theorem dX9_byFirst_6 : decode cX9_byFirst 6 = .ok (.getfield 65, 3) := by decide +kernel
theorem dX9_byFirst_9 : decode cX9_byFirst 9 = .ok (.iconst 0, 1) := by decide +kernel
theorem dX9_byFirst_10 : decode cX9_byFirst 10 = .ok (.iaload, 1) := by decide +kernel
theorem dX9_byFirst_11 : decode cX9_byFirst 11 = .ok (.iconst 0, 1) := by decide +kernel
theorem dX9_byFirst_12 : decode cX9_byFirst 12 = .ok (.iconst 0, 1) := by decide +kernel
theorem dX9_byFirst_13 : decode cX9_byFirst 13 = .ok (.iconst 0, 1) := by decide +kernel
theorem dX9_byFirst_14 : decode cX9_byFirst 14 = .ok (.invokevirtual 171, 3) := by decide +kernel
theorem dX9_byFirst_17 : decode cX9_byFirst 17 = .ok (.iconst 1, 1) := by decide +kernel
theorem dX9_byFirst_18 : decode cX9_byFirst 18 = .ok (.istore_n 1, 1) := by decide +kernel
theorem dX9_byFirst_19 : decode cX9_byFirst 19 = .ok (.iload_n 1, 1) := by decide +kernel
theorem dX9_byFirst_20 : decode cX9_byFirst 20 = .ok (.aload_n 0, 1) := by decide +kernel
theorem dX9_byFirst_21 : decode cX9_byFirst 21 = .ok (.getfield 175, 3) := by decide +kernel
theorem dX9_byFirst_24 : decode cX9_byFirst 24 = .ok (.if_icmp .ge 21, 3) := by decide +kernel
theorem dX9_byFirst_27 : decode cX9_byFirst 27 = .ok (.aload_n 0, 1) := by decide +kernel
theorem dX9_byFirst_28 : decode cX9_byFirst 28 = .ok (.aload_n 0, 1) := by decide +kernel
theorem dX9_byFirst_29 : decode cX9_byFirst 29 = .ok (.getfield 65, 3) := by decide +kernel
theorem dX9_byFirst_32 : decode cX9_byFirst 32 = .ok (.iload_n 1, 1) := by decide +kernel
theorem dX9_byFirst_33 : decode cX9_byFirst 33 = .ok (.iaload, 1) := by decide +kernel
theorem dX9_byFirst_34 : decode cX9_byFirst 34 = .ok (.iconst 0, 1) := by decide +kernel
theorem dX9_byFirst_35 : decode cX9_byFirst 35 = .ok (.invokevirtual 194, 3) := by decide +kernel
theorem dX9_byFirst_38 : decode cX9_byFirst 38 = .ok (.istore_n 2, 1) := by decide +kernel
theorem dX9_byFirst_39 : decode cX9_byFirst 39 = .ok (.iinc 1 1, 3) := by decide +kernel
theorem dX9_byFirst_42 : decode cX9_byFirst 42 = .ok (.goto (-23), 3) := by decide +kernel
theorem dX9_byFirst_45 : decode cX9_byFirst 45 = .ok (.aload_n 0, 1) := by decide +kernel
theorem dX9_byFirst_46 : decode cX9_byFirst 46 = .ok (.invokevirtual 191, 3) := by decide +kernel
theorem dX9_byFirst_49 : decode cX9_byFirst 49 = .ok (.return_, 1) := by decide +kernel
theorem dX9_draw_0 : decode cX9_draw 0 = .ok (.iload_n 1, 1) := by decide +kernel
theorem dX9_draw_1 : decode cX9_draw 1 = .ok (.iconst 1, 1) := by decide +kernel
theorem dX9_draw_2 : decode cX9_draw 2 = .ok (.sipush 20000, 3) := by decide +kernel
theorem dX9_draw_5 : decode cX9_draw 5 = .ok (.invokestatic 90, 3) := by decide +kernel
theorem dX9_draw_8 : decode cX9_draw 8 = .ok (.ifCond .ne 5, 3) := by decide +kernel
theorem dX9_draw_11 : decode cX9_draw 11 = .ok (.iconst (-1), 1) := by decide +kernel
theorem dX9_draw_12 : decode cX9_draw 12 = .ok (.ireturn, 1) := by decide +kernel
theorem dX9_draw_13 : decode cX9_draw 13 = .ok (.aload_n 0, 1) := by decide +kernel
theorem dX9_draw_14 : decode cX9_draw 14 = .ok (.invokevirtual 129, 3) := by decide +kernel
theorem dX9_draw_17 : decode cX9_draw 17 = .ok (.aload_n 0, 1) := by decide +kernel
theorem dX9_draw_18 : decode cX9_draw 18 = .ok (.iconst 0, 1) := by decide +kernel
theorem dX9_draw_19 : decode cX9_draw 19 = .ok (.putfield 197, 3) := by decide +kernel
theorem dX9_draw_22 : decode cX9_draw 22 = .ok (.aload_n 0, 1) := by decide +kernel
theorem dX9_draw_23 : decode cX9_draw 23 = .ok (.aload_n 0, 1) := by decide +kernel
theorem dX9_draw_24 : decode cX9_draw 24 = .ok (.getfield 126, 3) := by decide +kernel
theorem dX9_draw_27 : decode cX9_draw 27 = .ok (.putfield 200, 3) := by decide +kernel
theorem dX9_draw_30 : decode cX9_draw 30 = .ok (.iconst 0, 1) := by decide +kernel
theorem dX9_draw_31 : decode cX9_draw 31 = .ok (.istore_n 2, 1) := by decide +kernel
theorem dX9_draw_32 : decode cX9_draw 32 = .ok (.iconst 0, 1) := by decide +kernel
theorem dX9_draw_33 : decode cX9_draw 33 = .ok (.istore_n 3, 1) := by decide +kernel
theorem dX9_draw_34 : decode cX9_draw 34 = .ok (.iload_n 3, 1) := by decide +kernel
theorem dX9_draw_35 : decode cX9_draw 35 = .ok (.aload_n 0, 1) := by decide +kernel
theorem dX9_draw_36 : decode cX9_draw 36 = .ok (.getfield 126, 3) := by decide +kernel
theorem dX9_draw_39 : decode cX9_draw 39 = .ok (.if_icmp .ge 42, 3) := by decide +kernel
theorem dX9_draw_42 : decode cX9_draw 42 = .ok (.aload_n 0, 1) := by decide +kernel
theorem dX9_draw_43 : decode cX9_draw 43 = .ok (.iload_n 3, 1) := by decide +kernel
theorem dX9_draw_44 : decode cX9_draw 44 = .ok (.invokevirtual 203, 3) := by decide +kernel
theorem dX9_draw_47 : decode cX9_draw 47 = .ok (.aload_n 0, 1) := by decide +kernel
theorem dX9_draw_48 : decode cX9_draw 48 = .ok (.getfield 44, 3) := by decide +kernel
theorem dX9_draw_51 : decode cX9_draw 51 = .ok (.iload_n 3, 1) := by decide +kernel
theorem dX9_draw_52 : decode cX9_draw 52 = .ok (.aload_n 0, 1) := by decide +kernel
theorem dX9_draw_53 : decode cX9_draw 53 = .ok (.iload_n 1, 1) := by decide +kernel
theorem dX9_draw_54 : decode cX9_draw 54 = .ok (.invokevirtual 206, 3) := by decide +kernel
theorem dX9_draw_57 : decode cX9_draw 57 = .ok (.bastore, 1) := by decide +kernel
theorem dX9_draw_58 : decode cX9_draw 58 = .ok (.aload_n 0, 1) := by decide +kernel
theorem dX9_draw_59 : decode cX9_draw 59 = .ok (.getfield 185, 3) := by decide +kernel
theorem dX9_draw_62 : decode cX9_draw 62 = .ok (.ifCond .ge 7, 3) := by decide +kernel
theorem dX9_draw_65 : decode cX9_draw 65 = .ok (.aload_n 0, 1) := by decide +kernel
theorem dX9_draw_66 : decode cX9_draw 66 = .ok (.invokevirtual 209, 3) := by decide +kernel
theorem dX9_draw_69 : decode cX9_draw 69 = .ok (.aload_n 0, 1) := by decide +kernel
theorem dX9_draw_70 : decode cX9_draw 70 = .ok (.iload_n 2, 1) := by decide +kernel
theorem dX9_draw_71 : decode cX9_draw 71 = .ok (.invokevirtual 212, 3) := by decide +kernel
theorem dX9_draw_74 : decode cX9_draw 74 = .ok (.istore_n 2, 1) := by decide +kernel
theorem dX9_draw_75 : decode cX9_draw 75 = .ok (.iinc 3 1, 3) := by decide +kernel
theorem dX9_draw_78 : decode cX9_draw 78 = .ok (.goto (-44), 3) := by decide +kernel
theorem dX9_draw_81 : decode cX9_draw 81 = .ok (.aload_n 0, 1) := by decide +kernel
theorem dX9_draw_82 : decode cX9_draw 82 = .ok (.invokevirtual 215, 3) := by decide +kernel
theorem dX9_draw_85 : decode cX9_draw 85 = .ok (.aload_n 0, 1) := by decide +kernel
theorem dX9_draw_86 : decode cX9_draw 86 = .ok (.invokevirtual 218, 3) := by decide +kernel
theorem dX9_draw_89 : decode cX9_draw 89 = .ok (.ireturn, 1) := by decide +kernel
theorem dX9_movePart_0 : decode cX9_movePart 0 = .ok (.aload_n 0, 1) := by decide +kernel
theorem dX9_movePart_1 : decode cX9_movePart 1 = .ok (.getfield 74, 3) := by decide +kernel
theorem dX9_movePart_4 : decode cX9_movePart 4 = .ok (.aload_n 0, 1) := by decide +kernel
theorem dX9_movePart_5 : decode cX9_movePart 5 = .ok (.getfield 65, 3) := by decide +kernel
theorem dX9_movePart_8 : decode cX9_movePart 8 = .ok (.iconst 0, 1) := by decide +kernel
theorem dX9_movePart_9 : decode cX9_movePart 9 = .ok (.iaload, 1) := by decide +kernel
theorem dX9_movePart_10 : decode cX9_movePart 10 = .ok (.iaload, 1) := by decide +kernel
theorem dX9_movePart_11 : decode cX9_movePart 11 = .ok (.istore_n 2, 1) := by decide +kernel
theorem dX9_movePart_12 : decode cX9_movePart 12 = .ok (.aload_n 0, 1) := by decide +kernel
theorem dX9_movePart_13 : decode cX9_movePart 13 = .ok (.getfield 77, 3) := by decide +kernel
theorem dX9_movePart_16 : decode cX9_movePart 16 = .ok (.aload_n 0, 1) := by decide +kernel
theorem dX9_movePart_17 : decode cX9_movePart 17 = .ok (.getfield 65, 3) := by decide +kernel
theorem dX9_movePart_20 : decode cX9_movePart 20 = .ok (.iconst 0, 1) := by decide +kernel
theorem dX9_movePart_21 : decode cX9_movePart 21 = .ok (.iaload, 1) := by decide +kernel
theorem dX9_movePart_22 : decode cX9_movePart 22 = .ok (.iaload, 1) := by decide +kernel
theorem dX9_movePart_23 : decode cX9_movePart 23 = .ok (.istore_n 3, 1) := by decide +kernel
theorem dX9_movePart_24 : decode cX9_movePart 24 = .ok (.iconst 0, 1) := by decide +kernel
theorem dX9_movePart_25 : decode cX9_movePart 25 = .ok (.istore 4, 2) := by decide +kernel
theorem dX9_movePart_27 : decode cX9_movePart 27 = .ok (.iload 4, 2) := by decide +kernel
theorem dX9_movePart_29 : decode cX9_movePart 29 = .ok (.aload_n 0, 1) := by decide +kernel
theorem dX9_movePart_30 : decode cX9_movePart 30 = .ok (.getfield 175, 3) := by decide +kernel
theorem dX9_movePart_33 : decode cX9_movePart 33 = .ok (.if_icmp .ge 75, 3) := by decide +kernel
theorem dX9_movePart_36 : decode cX9_movePart 36 = .ok (.aload_n 0, 1) := by decide +kernel
theorem dX9_movePart_37 : decode cX9_movePart 37 = .ok (.getfield 74, 3) := by decide +kernel
theorem dX9_movePart_40 : decode cX9_movePart 40 = .ok (.aload_n 0, 1) := by decide +kernel
theorem dX9_movePart_41 : decode cX9_movePart 41 = .ok (.getfield 65, 3) := by decide +kernel
theorem dX9_movePart_44 : decode cX9_movePart 44 = .ok (.iload 4, 2) := by decide +kernel
theorem dX9_movePart_46 : decode cX9_movePart 46 = .ok (.iaload, 1) := by decide +kernel
theorem dX9_movePart_47 : decode cX9_movePart 47 = .ok (.iaload, 1) := by decide +kernel
theorem dX9_movePart_48 : decode cX9_movePart 48 = .ok (.iload_n 2, 1) := by decide +kernel
theorem dX9_movePart_49 : decode cX9_movePart 49 = .ok (.if_icmp .ge 18, 3) := by decide +kernel
theorem dX9_movePart_52 : decode cX9_movePart 52 = .ok (.aload_n 0, 1) := by decide +kernel
theorem dX9_movePart_53 : decode cX9_movePart 53 = .ok (.getfield 74, 3) := by decide +kernel
theorem dX9_movePart_56 : decode cX9_movePart 56 = .ok (.aload_n 0, 1) := by decide +kernel
theorem dX9_movePart_57 : decode cX9_movePart 57 = .ok (.getfield 65, 3) := by decide +kernel
theorem dX9_movePart_60 : decode cX9_movePart 60 = .ok (.iload 4, 2) := by decide +kernel
theorem dX9_movePart_62 : decode cX9_movePart 62 = .ok (.iaload, 1) := by decide +kernel
theorem dX9_movePart_63 : decode cX9_movePart 63 = .ok (.iaload, 1) := by decide +kernel
theorem dX9_movePart_64 : decode cX9_movePart 64 = .ok (.goto 4, 3) := by decide +kernel
theorem dX9_movePart_67 : decode cX9_movePart 67 = .ok (.iload_n 2, 1) := by decide +kernel
theorem dX9_movePart_68 : decode cX9_movePart 68 = .ok (.istore_n 2, 1) := by decide +kernel
theorem dX9_movePart_69 : decode cX9_movePart 69 = .ok (.aload_n 0, 1) := by decide +kernel
theorem dX9_movePart_70 : decode cX9_movePart 70 = .ok (.getfield 77, 3) := by decide +kernel
theorem dX9_movePart_73 : decode cX9_movePart 73 = .ok (.aload_n 0, 1) := by decide +kernel
theorem dX9_movePart_74 : decode cX9_movePart 74 = .ok (.getfield 65, 3) := by decide +kernel
theorem dX9_movePart_77 : decode cX9_movePart 77 = .ok (.iload 4, 2) := by decide +kernel
theorem dX9_movePart_79 : decode cX9_movePart 79 = .ok (.iaload, 1) := by decide +kernel
theorem dX9_movePart_80 : decode cX9_movePart 80 = .ok (.iaload, 1) := by decide +kernel
theorem dX9_movePart_81 : decode cX9_movePart 81 = .ok (.iload_n 3, 1) := by decide +kernel
theorem dX9_movePart_82 : decode cX9_movePart 82 = .ok (.if_icmp .ge 18, 3) := by decide +kernel
theorem dX9_movePart_85 : decode cX9_movePart 85 = .ok (.aload_n 0, 1) := by decide +kernel
theorem dX9_movePart_86 : decode cX9_movePart 86 = .ok (.getfield 77, 3) := by decide +kernel
theorem dX9_movePart_89 : decode cX9_movePart 89 = .ok (.aload_n 0, 1) := by decide +kernel
theorem dX9_movePart_90 : decode cX9_movePart 90 = .ok (.getfield 65, 3) := by decide +kernel
theorem dX9_movePart_93 : decode cX9_movePart 93 = .ok (.iload 4, 2) := by decide +kernel
theorem dX9_movePart_95 : decode cX9_movePart 95 = .ok (.iaload, 1) := by decide +kernel
theorem dX9_movePart_96 : decode cX9_movePart 96 = .ok (.iaload, 1) := by decide +kernel
theorem dX9_movePart_97 : decode cX9_movePart 97 = .ok (.goto 4, 3) := by decide +kernel
theorem dX9_movePart_100 : decode cX9_movePart 100 = .ok (.iload_n 3, 1) := by decide +kernel
theorem dX9_movePart_101 : decode cX9_movePart 101 = .ok (.istore_n 3, 1) := by decide +kernel
theorem dX9_movePart_102 : decode cX9_movePart 102 = .ok (.iinc 4 1, 3) := by decide +kernel
theorem dX9_movePart_105 : decode cX9_movePart 105 = .ok (.goto (-78), 3) := by decide +kernel
theorem dX9_movePart_108 : decode cX9_movePart 108 = .ok (.iload_n 1, 1) := by decide +kernel
theorem dX9_movePart_109 : decode cX9_movePart 109 = .ok (.istore 4, 2) := by decide +kernel
theorem dX9_movePart_111 : decode cX9_movePart 111 = .ok (.iconst 0, 1) := by decide +kernel
theorem dX9_movePart_112 : decode cX9_movePart 112 = .ok (.istore 5, 2) := by decide +kernel
theorem dX9_movePart_114 : decode cX9_movePart 114 = .ok (.iload 5, 2) := by decide +kernel
theorem dX9_movePart_116 : decode cX9_movePart 116 = .ok (.aload_n 0, 1) := by decide +kernel
theorem dX9_movePart_117 : decode cX9_movePart 117 = .ok (.getfield 175, 3) := by decide +kernel
theorem dX9_movePart_120 : decode cX9_movePart 120 = .ok (.if_icmp .ge 104, 3) := by decide +kernel
theorem dX9_movePart_123 : decode cX9_movePart 123 = .ok (.aload_n 0, 1) := by decide +kernel
theorem dX9_movePart_124 : decode cX9_movePart 124 = .ok (.getfield 65, 3) := by decide +kernel
theorem dX9_movePart_127 : decode cX9_movePart 127 = .ok (.iload 5, 2) := by decide +kernel
theorem dX9_movePart_129 : decode cX9_movePart 129 = .ok (.iaload, 1) := by decide +kernel
theorem dX9_movePart_130 : decode cX9_movePart 130 = .ok (.istore 6, 2) := by decide +kernel
theorem dX9_movePart_132 : decode cX9_movePart 132 = .ok (.aload_n 0, 1) := by decide +kernel
theorem dX9_movePart_133 : decode cX9_movePart 133 = .ok (.getfield 32, 3) := by decide +kernel
theorem dX9_movePart_136 : decode cX9_movePart 136 = .ok (.iload 6, 2) := by decide +kernel
theorem dX9_movePart_138 : decode cX9_movePart 138 = .ok (.iconst 1, 1) := by decide +kernel
theorem dX9_movePart_139 : decode cX9_movePart 139 = .ok (.bastore, 1) := by decide +kernel
theorem dX9_movePart_140 : decode cX9_movePart 140 = .ok (.aload_n 0, 1) := by decide +kernel
theorem dX9_movePart_141 : decode cX9_movePart 141 = .ok (.getfield 35, 3) := by decide +kernel
theorem dX9_movePart_144 : decode cX9_movePart 144 = .ok (.iload 6, 2) := by decide +kernel
theorem dX9_movePart_146 : decode cX9_movePart 146 = .ok (.aload_n 0, 1) := by decide +kernel
theorem dX9_movePart_147 : decode cX9_movePart 147 = .ok (.getfield 74, 3) := by decide +kernel
theorem dX9_movePart_150 : decode cX9_movePart 150 = .ok (.iload 6, 2) := by decide +kernel
theorem dX9_movePart_152 : decode cX9_movePart 152 = .ok (.iaload, 1) := by decide +kernel
theorem dX9_movePart_153 : decode cX9_movePart 153 = .ok (.iload_n 2, 1) := by decide +kernel
theorem dX9_movePart_154 : decode cX9_movePart 154 = .ok (.isub, 1) := by decide +kernel
theorem dX9_movePart_155 : decode cX9_movePart 155 = .ok (.iload_n 1, 1) := by decide +kernel
theorem dX9_movePart_156 : decode cX9_movePart 156 = .ok (.iadd, 1) := by decide +kernel
theorem dX9_movePart_157 : decode cX9_movePart 157 = .ok (.iastore, 1) := by decide +kernel
theorem dX9_movePart_158 : decode cX9_movePart 158 = .ok (.aload_n 0, 1) := by decide +kernel
theorem dX9_movePart_159 : decode cX9_movePart 159 = .ok (.getfield 38, 3) := by decide +kernel
theorem dX9_movePart_162 : decode cX9_movePart 162 = .ok (.iload 6, 2) := by decide +kernel
theorem dX9_movePart_164 : decode cX9_movePart 164 = .ok (.aload_n 0, 1) := by decide +kernel
theorem dX9_movePart_165 : decode cX9_movePart 165 = .ok (.getfield 77, 3) := by decide +kernel
theorem dX9_movePart_168 : decode cX9_movePart 168 = .ok (.iload 6, 2) := by decide +kernel
theorem dX9_movePart_170 : decode cX9_movePart 170 = .ok (.iaload, 1) := by decide +kernel
theorem dX9_movePart_171 : decode cX9_movePart 171 = .ok (.iload_n 3, 1) := by decide +kernel
theorem dX9_movePart_172 : decode cX9_movePart 172 = .ok (.isub, 1) := by decide +kernel
theorem dX9_movePart_173 : decode cX9_movePart 173 = .ok (.iastore, 1) := by decide +kernel
theorem dX9_movePart_174 : decode cX9_movePart 174 = .ok (.aload_n 0, 1) := by decide +kernel
theorem dX9_movePart_175 : decode cX9_movePart 175 = .ok (.getfield 41, 3) := by decide +kernel
theorem dX9_movePart_178 : decode cX9_movePart 178 = .ok (.iload 6, 2) := by decide +kernel
theorem dX9_movePart_180 : decode cX9_movePart 180 = .ok (.aload_n 0, 1) := by decide +kernel
theorem dX9_movePart_181 : decode cX9_movePart 181 = .ok (.getfield 80, 3) := by decide +kernel
theorem dX9_movePart_184 : decode cX9_movePart 184 = .ok (.iload 6, 2) := by decide +kernel
theorem dX9_movePart_186 : decode cX9_movePart 186 = .ok (.iaload, 1) := by decide +kernel
theorem dX9_movePart_187 : decode cX9_movePart 187 = .ok (.iastore, 1) := by decide +kernel
theorem dX9_movePart_188 : decode cX9_movePart 188 = .ok (.aload_n 0, 1) := by decide +kernel
theorem dX9_movePart_189 : decode cX9_movePart 189 = .ok (.getfield 35, 3) := by decide +kernel
theorem dX9_movePart_192 : decode cX9_movePart 192 = .ok (.iload 6, 2) := by decide +kernel
theorem dX9_movePart_194 : decode cX9_movePart 194 = .ok (.iaload, 1) := by decide +kernel
theorem dX9_movePart_195 : decode cX9_movePart 195 = .ok (.iconst 2, 1) := by decide +kernel
theorem dX9_movePart_196 : decode cX9_movePart 196 = .ok (.iadd, 1) := by decide +kernel
theorem dX9_movePart_197 : decode cX9_movePart 197 = .ok (.iload 4, 2) := by decide +kernel
theorem dX9_movePart_199 : decode cX9_movePart 199 = .ok (.if_icmp .le 15, 3) := by decide +kernel
theorem dX9_movePart_202 : decode cX9_movePart 202 = .ok (.aload_n 0, 1) := by decide +kernel
theorem dX9_movePart_203 : decode cX9_movePart 203 = .ok (.getfield 35, 3) := by decide +kernel
theorem dX9_movePart_206 : decode cX9_movePart 206 = .ok (.iload 6, 2) := by decide +kernel
theorem dX9_movePart_208 : decode cX9_movePart 208 = .ok (.iaload, 1) := by decide +kernel
theorem dX9_movePart_209 : decode cX9_movePart 209 = .ok (.iconst 2, 1) := by decide +kernel
theorem dX9_movePart_210 : decode cX9_movePart 210 = .ok (.iadd, 1) := by decide +kernel
theorem dX9_movePart_211 : decode cX9_movePart 211 = .ok (.goto 5, 3) := by decide +kernel
theorem dX9_movePart_214 : decode cX9_movePart 214 = .ok (.iload 4, 2) := by decide +kernel
theorem dX9_movePart_216 : decode cX9_movePart 216 = .ok (.istore 4, 2) := by decide +kernel
theorem dX9_movePart_218 : decode cX9_movePart 218 = .ok (.iinc 5 1, 3) := by decide +kernel
theorem dX9_movePart_221 : decode cX9_movePart 221 = .ok (.goto (-107), 3) := by decide +kernel
theorem dX9_movePart_224 : decode cX9_movePart 224 = .ok (.iload 4, 2) := by decide +kernel
theorem dX9_movePart_226 : decode cX9_movePart 226 = .ok (.ireturn, 1) := by decide +kernel
theorem dX9_load_0 : decode cX9_load 0 = .ok (.iconst 0, 1) := by decide +kernel
theorem dX9_load_1 : decode cX9_load 1 = .ok (.istore_n 1, 1) := by decide +kernel
theorem dX9_load_2 : decode cX9_load 2 = .ok (.iload_n 1, 1) := by decide +kernel
theorem dX9_load_3 : decode cX9_load 3 = .ok (.aload_n 0, 1) := by decide +kernel
theorem dX9_load_4 : decode cX9_load 4 = .ok (.getfield 86, 3) := by decide +kernel
theorem dX9_load_7 : decode cX9_load 7 = .ok (.if_icmp .ge 57, 3) := by decide +kernel
theorem dX9_load_10 : decode cX9_load 10 = .ok (.aload_n 0, 1) := by decide +kernel
theorem dX9_load_11 : decode cX9_load 11 = .ok (.getfield 53, 3) := by decide +kernel
theorem dX9_load_14 : decode cX9_load 14 = .ok (.iload_n 1, 1) := by decide +kernel
theorem dX9_load_15 : decode cX9_load 15 = .ok (.aload_n 0, 1) := by decide +kernel
theorem dX9_load_16 : decode cX9_load 16 = .ok (.getfield 32, 3) := by decide +kernel
theorem dX9_load_19 : decode cX9_load 19 = .ok (.iload_n 1, 1) := by decide +kernel
theorem dX9_load_20 : decode cX9_load 20 = .ok (.baload, 1) := by decide +kernel
theorem dX9_load_21 : decode cX9_load 21 = .ok (.bastore, 1) := by decide +kernel
theorem dX9_load_22 : decode cX9_load 22 = .ok (.aload_n 0, 1) := by decide +kernel
theorem dX9_load_23 : decode cX9_load 23 = .ok (.getfield 56, 3) := by decide +kernel
theorem dX9_load_26 : decode cX9_load 26 = .ok (.iload_n 1, 1) := by decide +kernel
theorem dX9_load_27 : decode cX9_load 27 = .ok (.aload_n 0, 1) := by decide +kernel
theorem dX9_load_28 : decode cX9_load 28 = .ok (.getfield 35, 3) := by decide +kernel
theorem dX9_load_31 : decode cX9_load 31 = .ok (.iload_n 1, 1) := by decide +kernel
theorem dX9_load_32 : decode cX9_load 32 = .ok (.iaload, 1) := by decide +kernel
theorem dX9_load_33 : decode cX9_load 33 = .ok (.iastore, 1) := by decide +kernel
theorem dX9_load_34 : decode cX9_load 34 = .ok (.aload_n 0, 1) := by decide +kernel
theorem dX9_load_35 : decode cX9_load 35 = .ok (.getfield 59, 3) := by decide +kernel
theorem dX9_load_38 : decode cX9_load 38 = .ok (.iload_n 1, 1) := by decide +kernel
theorem dX9_load_39 : decode cX9_load 39 = .ok (.aload_n 0, 1) := by decide +kernel
theorem dX9_load_40 : decode cX9_load 40 = .ok (.getfield 38, 3) := by decide +kernel
theorem dX9_load_43 : decode cX9_load 43 = .ok (.iload_n 1, 1) := by decide +kernel
theorem dX9_load_44 : decode cX9_load 44 = .ok (.iaload, 1) := by decide +kernel
theorem dX9_load_45 : decode cX9_load 45 = .ok (.iastore, 1) := by decide +kernel
theorem dX9_load_46 : decode cX9_load 46 = .ok (.aload_n 0, 1) := by decide +kernel
theorem dX9_load_47 : decode cX9_load 47 = .ok (.getfield 62, 3) := by decide +kernel
theorem dX9_load_50 : decode cX9_load 50 = .ok (.iload_n 1, 1) := by decide +kernel
theorem dX9_load_51 : decode cX9_load 51 = .ok (.aload_n 0, 1) := by decide +kernel
theorem dX9_load_52 : decode cX9_load 52 = .ok (.getfield 41, 3) := by decide +kernel
theorem dX9_load_55 : decode cX9_load 55 = .ok (.iload_n 1, 1) := by decide +kernel
theorem dX9_load_56 : decode cX9_load 56 = .ok (.iaload, 1) := by decide +kernel
theorem dX9_load_57 : decode cX9_load 57 = .ok (.iastore, 1) := by decide +kernel
theorem dX9_load_58 : decode cX9_load 58 = .ok (.iinc 1 1, 3) := by decide +kernel
theorem dX9_load_61 : decode cX9_load 61 = .ok (.goto (-59), 3) := by decide +kernel
theorem dX9_load_64 : decode cX9_load 64 = .ok (.return_, 1) := by decide +kernel
theorem dX9_keep_0 : decode cX9_keep 0 = .ok (.aload_n 0, 1) := by decide +kernel
theorem dX9_keep_1 : decode cX9_keep 1 = .ok (.getfield 32, 3) := by decide +kernel
theorem dX9_keep_4 : decode cX9_keep 4 = .ok (.iload_n 1, 1) := by decide +kernel
theorem dX9_keep_5 : decode cX9_keep 5 = .ok (.iconst 1, 1) := by decide +kernel
theorem dX9_keep_6 : decode cX9_keep 6 = .ok (.bastore, 1) := by decide +kernel
theorem dX9_keep_7 : decode cX9_keep 7 = .ok (.aload_n 0, 1) := by decide +kernel
theorem dX9_keep_8 : decode cX9_keep 8 = .ok (.getfield 35, 3) := by decide +kernel
theorem dX9_keep_11 : decode cX9_keep 11 = .ok (.iload_n 1, 1) := by decide +kernel
theorem dX9_keep_12 : decode cX9_keep 12 = .ok (.aload_n 0, 1) := by decide +kernel
theorem dX9_keep_13 : decode cX9_keep 13 = .ok (.getfield 56, 3) := by decide +kernel
theorem dX9_keep_16 : decode cX9_keep 16 = .ok (.iload_n 1, 1) := by decide +kernel
theorem dX9_keep_17 : decode cX9_keep 17 = .ok (.iaload, 1) := by decide +kernel
theorem dX9_keep_18 : decode cX9_keep 18 = .ok (.iastore, 1) := by decide +kernel
theorem dX9_keep_19 : decode cX9_keep 19 = .ok (.aload_n 0, 1) := by decide +kernel
theorem dX9_keep_20 : decode cX9_keep 20 = .ok (.getfield 38, 3) := by decide +kernel
theorem dX9_keep_23 : decode cX9_keep 23 = .ok (.iload_n 1, 1) := by decide +kernel
theorem dX9_keep_24 : decode cX9_keep 24 = .ok (.aload_n 0, 1) := by decide +kernel
theorem dX9_keep_25 : decode cX9_keep 25 = .ok (.getfield 59, 3) := by decide +kernel
theorem dX9_keep_28 : decode cX9_keep 28 = .ok (.iload_n 1, 1) := by decide +kernel
theorem dX9_keep_29 : decode cX9_keep 29 = .ok (.iaload, 1) := by decide +kernel
theorem dX9_keep_30 : decode cX9_keep 30 = .ok (.iastore, 1) := by decide +kernel
theorem dX9_keep_31 : decode cX9_keep 31 = .ok (.aload_n 0, 1) := by decide +kernel
theorem dX9_keep_32 : decode cX9_keep 32 = .ok (.getfield 41, 3) := by decide +kernel
theorem dX9_keep_35 : decode cX9_keep 35 = .ok (.iload_n 1, 1) := by decide +kernel
theorem dX9_keep_36 : decode cX9_keep 36 = .ok (.aload_n 0, 1) := by decide +kernel
theorem dX9_keep_37 : decode cX9_keep 37 = .ok (.getfield 62, 3) := by decide +kernel
theorem dX9_keep_40 : decode cX9_keep 40 = .ok (.iload_n 1, 1) := by decide +kernel
theorem dX9_keep_41 : decode cX9_keep 41 = .ok (.iaload, 1) := by decide +kernel
theorem dX9_keep_42 : decode cX9_keep 42 = .ok (.iastore, 1) := by decide +kernel
theorem dX9_keep_43 : decode cX9_keep 43 = .ok (.return_, 1) := by decide +kernel
theorem dX9_grow_0 : decode cX9_grow 0 = .ok (.aload_n 0, 1) := by decide +kernel
theorem dX9_grow_1 : decode cX9_grow 1 = .ok (.invokevirtual 215, 3) := by decide +kernel
theorem dX9_grow_4 : decode cX9_grow 4 = .ok (.aload_n 0, 1) := by decide +kernel
theorem dX9_grow_5 : decode cX9_grow 5 = .ok (.iconst 0, 1) := by decide +kernel
theorem dX9_grow_6 : decode cX9_grow 6 = .ok (.putfield 200, 3) := by decide +kernel
theorem dX9_grow_9 : decode cX9_grow 9 = .ok (.iconst 1, 1) := by decide +kernel
theorem dX9_grow_10 : decode cX9_grow 10 = .ok (.istore_n 1, 1) := by decide +kernel
theorem dX9_grow_11 : decode cX9_grow 11 = .ok (.iload_n 1, 1) := by decide +kernel
theorem dX9_grow_12 : decode cX9_grow 12 = .ok (.ifCond .eq 118, 3) := by decide +kernel
theorem dX9_grow_15 : decode cX9_grow 15 = .ok (.iconst 0, 1) := by decide +kernel
theorem dX9_grow_16 : decode cX9_grow 16 = .ok (.istore_n 1, 1) := by decide +kernel
theorem dX9_grow_17 : decode cX9_grow 17 = .ok (.bipush (-2), 2) := by decide +kernel
theorem dX9_grow_19 : decode cX9_grow 19 = .ok (.istore_n 2, 1) := by decide +kernel
theorem dX9_grow_20 : decode cX9_grow 20 = .ok (.iconst 0, 1) := by decide +kernel
theorem dX9_grow_21 : decode cX9_grow 21 = .ok (.istore_n 3, 1) := by decide +kernel
theorem dX9_grow_22 : decode cX9_grow 22 = .ok (.aload_n 0, 1) := by decide +kernel
theorem dX9_grow_23 : decode cX9_grow 23 = .ok (.getfield 86, 3) := by decide +kernel
theorem dX9_grow_26 : decode cX9_grow 26 = .ok (.iconst 1, 1) := by decide +kernel
theorem dX9_grow_27 : decode cX9_grow 27 = .ok (.isub, 1) := by decide +kernel
theorem dX9_grow_28 : decode cX9_grow 28 = .ok (.istore 4, 2) := by decide +kernel
theorem dX9_grow_30 : decode cX9_grow 30 = .ok (.iload 4, 2) := by decide +kernel
theorem dX9_grow_32 : decode cX9_grow 32 = .ok (.ifCond .lt 58, 3) := by decide +kernel
theorem dX9_grow_35 : decode cX9_grow 35 = .ok (.aload_n 0, 1) := by decide +kernel
theorem dX9_grow_36 : decode cX9_grow 36 = .ok (.getfield 53, 3) := by decide +kernel
theorem dX9_grow_39 : decode cX9_grow 39 = .ok (.iload 4, 2) := by decide +kernel
theorem dX9_grow_41 : decode cX9_grow 41 = .ok (.baload, 1) := by decide +kernel
theorem dX9_grow_42 : decode cX9_grow 42 = .ok (.ifCond .ne 42, 3) := by decide +kernel
theorem dX9_grow_45 : decode cX9_grow 45 = .ok (.aload_n 0, 1) := by decide +kernel
theorem dX9_grow_46 : decode cX9_grow 46 = .ok (.iload 4, 2) := by decide +kernel
theorem dX9_grow_48 : decode cX9_grow 48 = .ok (.invokevirtual 221, 3) := by decide +kernel
theorem dX9_grow_51 : decode cX9_grow 51 = .ok (.istore 5, 2) := by decide +kernel
theorem dX9_grow_53 : decode cX9_grow 53 = .ok (.iload 5, 2) := by decide +kernel
theorem dX9_grow_55 : decode cX9_grow 55 = .ok (.ifCond .ne 7, 3) := by decide +kernel
theorem dX9_grow_58 : decode cX9_grow 58 = .ok (.iload_n 3, 1) := by decide +kernel
theorem dX9_grow_59 : decode cX9_grow 59 = .ok (.ifCond .ne 8, 3) := by decide +kernel
theorem dX9_grow_62 : decode cX9_grow 62 = .ok (.iload 4, 2) := by decide +kernel
theorem dX9_grow_64 : decode cX9_grow 64 = .ok (.goto 4, 3) := by decide +kernel
theorem dX9_grow_67 : decode cX9_grow 67 = .ok (.iload_n 2, 1) := by decide +kernel
theorem dX9_grow_68 : decode cX9_grow 68 = .ok (.istore_n 2, 1) := by decide +kernel
theorem dX9_grow_69 : decode cX9_grow 69 = .ok (.iload_n 3, 1) := by decide +kernel
theorem dX9_grow_70 : decode cX9_grow 70 = .ok (.ifCond .ne 8, 3) := by decide +kernel
theorem dX9_grow_73 : decode cX9_grow 73 = .ok (.iload 5, 2) := by decide +kernel
theorem dX9_grow_75 : decode cX9_grow 75 = .ok (.ifCond .eq 7, 3) := by decide +kernel
theorem dX9_grow_78 : decode cX9_grow 78 = .ok (.iconst 1, 1) := by decide +kernel
theorem dX9_grow_79 : decode cX9_grow 79 = .ok (.goto 4, 3) := by decide +kernel
theorem dX9_grow_82 : decode cX9_grow 82 = .ok (.iconst 0, 1) := by decide +kernel
theorem dX9_grow_83 : decode cX9_grow 83 = .ok (.istore_n 3, 1) := by decide +kernel
theorem dX9_grow_84 : decode cX9_grow 84 = .ok (.iinc 4 (-1), 3) := by decide +kernel
theorem dX9_grow_87 : decode cX9_grow 87 = .ok (.goto (-57), 3) := by decide +kernel
theorem dX9_grow_90 : decode cX9_grow 90 = .ok (.iload_n 2, 1) := by decide +kernel
theorem dX9_grow_91 : decode cX9_grow 91 = .ok (.ifCond .lt 36, 3) := by decide +kernel
theorem dX9_grow_94 : decode cX9_grow 94 = .ok (.iconst 1, 1) := by decide +kernel
theorem dX9_grow_95 : decode cX9_grow 95 = .ok (.istore_n 1, 1) := by decide +kernel
theorem dX9_grow_96 : decode cX9_grow 96 = .ok (.iload_n 3, 1) := by decide +kernel
theorem dX9_grow_97 : decode cX9_grow 97 = .ok (.ifCond .eq 14, 3) := by decide +kernel
theorem dX9_grow_100 : decode cX9_grow 100 = .ok (.aload_n 0, 1) := by decide +kernel
theorem dX9_grow_101 : decode cX9_grow 101 = .ok (.iload_n 2, 1) := by decide +kernel
theorem dX9_grow_102 : decode cX9_grow 102 = .ok (.iconst 0, 1) := by decide +kernel
theorem dX9_grow_103 : decode cX9_grow 103 = .ok (.invokevirtual 194, 3) := by decide +kernel
theorem dX9_grow_106 : decode cX9_grow 106 = .ok (.istore 4, 2) := by decide +kernel
theorem dX9_grow_108 : decode cX9_grow 108 = .ok (.goto 14, 3) := by decide +kernel
theorem dX9_grow_111 : decode cX9_grow 111 = .ok (.aload_n 0, 1) := by decide +kernel
theorem dX9_grow_112 : decode cX9_grow 112 = .ok (.iload_n 2, 1) := by decide +kernel
theorem dX9_grow_113 : decode cX9_grow 113 = .ok (.aload_n 0, 1) := by decide +kernel
theorem dX9_grow_114 : decode cX9_grow 114 = .ok (.invokevirtual 224, 3) := by decide +kernel
theorem dX9_grow_117 : decode cX9_grow 117 = .ok (.iconst 0, 1) := by decide +kernel
theorem dX9_grow_118 : decode cX9_grow 118 = .ok (.iconst 0, 1) := by decide +kernel
theorem dX9_grow_119 : decode cX9_grow 119 = .ok (.invokevirtual 171, 3) := by decide +kernel
theorem dX9_grow_122 : decode cX9_grow 122 = .ok (.aload_n 0, 1) := by decide +kernel
theorem dX9_grow_123 : decode cX9_grow 123 = .ok (.iload_n 2, 1) := by decide +kernel
theorem dX9_grow_124 : decode cX9_grow 124 = .ok (.invokevirtual 227, 3) := by decide +kernel
theorem dX9_grow_127 : decode cX9_grow 127 = .ok (.goto (-116), 3) := by decide +kernel
theorem dX9_grow_130 : decode cX9_grow 130 = .ok (.aload_n 0, 1) := by decide +kernel
theorem dX9_grow_131 : decode cX9_grow 131 = .ok (.invokevirtual 218, 3) := by decide +kernel
theorem dX9_grow_134 : decode cX9_grow 134 = .ok (.ireturn, 1) := by decide +kernel
theorem dX9_isJoined_0 : decode cX9_isJoined 0 = .ok (.iconst 0, 1) := by decide +kernel
theorem dX9_isJoined_1 : decode cX9_isJoined 1 = .ok (.istore_n 2, 1) := by decide +kernel
theorem dX9_isJoined_2 : decode cX9_isJoined 2 = .ok (.iconst 0, 1) := by decide +kernel
theorem dX9_isJoined_3 : decode cX9_isJoined 3 = .ok (.istore_n 3, 1) := by decide +kernel
theorem dX9_isJoined_4 : decode cX9_isJoined 4 = .ok (.iload_n 3, 1) := by decide +kernel
theorem dX9_isJoined_5 : decode cX9_isJoined 5 = .ok (.aload_n 0, 1) := by decide +kernel
theorem dX9_isJoined_6 : decode cX9_isJoined 6 = .ok (.getfield 94, 3) := by decide +kernel
theorem dX9_isJoined_9 : decode cX9_isJoined 9 = .ok (.if_icmp .ge 67, 3) := by decide +kernel
theorem dX9_isJoined_12 : decode cX9_isJoined 12 = .ok (.iload_n 2, 1) := by decide +kernel
theorem dX9_isJoined_13 : decode cX9_isJoined 13 = .ok (.ifCond .ne 51, 3) := by decide +kernel
theorem dX9_isJoined_16 : decode cX9_isJoined 16 = .ok (.aload_n 0, 1) := by decide +kernel
theorem dX9_isJoined_17 : decode cX9_isJoined 17 = .ok (.getfield 19, 3) := by decide +kernel
theorem dX9_isJoined_20 : decode cX9_isJoined 20 = .ok (.iload_n 3, 1) := by decide +kernel
theorem dX9_isJoined_21 : decode cX9_isJoined 21 = .ok (.iaload, 1) := by decide +kernel
theorem dX9_isJoined_22 : decode cX9_isJoined 22 = .ok (.iload_n 1, 1) := by decide +kernel
theorem dX9_isJoined_23 : decode cX9_isJoined 23 = .ok (.if_icmp .ne 17, 3) := by decide +kernel
theorem dX9_isJoined_26 : decode cX9_isJoined 26 = .ok (.aload_n 0, 1) := by decide +kernel
theorem dX9_isJoined_27 : decode cX9_isJoined 27 = .ok (.getfield 53, 3) := by decide +kernel
theorem dX9_isJoined_30 : decode cX9_isJoined 30 = .ok (.aload_n 0, 1) := by decide +kernel
theorem dX9_isJoined_31 : decode cX9_isJoined 31 = .ok (.getfield 25, 3) := by decide +kernel
theorem dX9_isJoined_34 : decode cX9_isJoined 34 = .ok (.iload_n 3, 1) := by decide +kernel
theorem dX9_isJoined_35 : decode cX9_isJoined 35 = .ok (.iaload, 1) := by decide +kernel
theorem dX9_isJoined_36 : decode cX9_isJoined 36 = .ok (.baload, 1) := by decide +kernel
theorem dX9_isJoined_37 : decode cX9_isJoined 37 = .ok (.ifCond .ne 27, 3) := by decide +kernel
theorem dX9_isJoined_40 : decode cX9_isJoined 40 = .ok (.aload_n 0, 1) := by decide +kernel
theorem dX9_isJoined_41 : decode cX9_isJoined 41 = .ok (.getfield 25, 3) := by decide +kernel
theorem dX9_isJoined_44 : decode cX9_isJoined 44 = .ok (.iload_n 3, 1) := by decide +kernel
theorem dX9_isJoined_45 : decode cX9_isJoined 45 = .ok (.iaload, 1) := by decide +kernel
theorem dX9_isJoined_46 : decode cX9_isJoined 46 = .ok (.iload_n 1, 1) := by decide +kernel
theorem dX9_isJoined_47 : decode cX9_isJoined 47 = .ok (.if_icmp .ne 21, 3) := by decide +kernel
theorem dX9_isJoined_50 : decode cX9_isJoined 50 = .ok (.aload_n 0, 1) := by decide +kernel
theorem dX9_isJoined_51 : decode cX9_isJoined 51 = .ok (.getfield 53, 3) := by decide +kernel
theorem dX9_isJoined_54 : decode cX9_isJoined 54 = .ok (.aload_n 0, 1) := by decide +kernel
theorem dX9_isJoined_55 : decode cX9_isJoined 55 = .ok (.getfield 19, 3) := by decide +kernel
theorem dX9_isJoined_58 : decode cX9_isJoined 58 = .ok (.iload_n 3, 1) := by decide +kernel
theorem dX9_isJoined_59 : decode cX9_isJoined 59 = .ok (.iaload, 1) := by decide +kernel
theorem dX9_isJoined_60 : decode cX9_isJoined 60 = .ok (.baload, 1) := by decide +kernel
theorem dX9_isJoined_61 : decode cX9_isJoined 61 = .ok (.ifCond .eq 7, 3) := by decide +kernel
theorem dX9_isJoined_64 : decode cX9_isJoined 64 = .ok (.iconst 1, 1) := by decide +kernel
theorem dX9_isJoined_65 : decode cX9_isJoined 65 = .ok (.goto 4, 3) := by decide +kernel
theorem dX9_isJoined_68 : decode cX9_isJoined 68 = .ok (.iconst 0, 1) := by decide +kernel
theorem dX9_isJoined_69 : decode cX9_isJoined 69 = .ok (.istore_n 2, 1) := by decide +kernel
theorem dX9_isJoined_70 : decode cX9_isJoined 70 = .ok (.iinc 3 1, 3) := by decide +kernel
theorem dX9_isJoined_73 : decode cX9_isJoined 73 = .ok (.goto (-69), 3) := by decide +kernel
theorem dX9_isJoined_76 : decode cX9_isJoined 76 = .ok (.iload_n 2, 1) := by decide +kernel
theorem dX9_isJoined_77 : decode cX9_isJoined 77 = .ok (.ireturn, 1) := by decide +kernel
theorem dX9_eastmost_0 : decode cX9_eastmost 0 = .ok (.bipush (-2), 2) := by decide +kernel
theorem dX9_eastmost_2 : decode cX9_eastmost 2 = .ok (.istore_n 1, 1) := by decide +kernel
theorem dX9_eastmost_3 : decode cX9_eastmost 3 = .ok (.iconst 0, 1) := by decide +kernel
theorem dX9_eastmost_4 : decode cX9_eastmost 4 = .ok (.istore_n 2, 1) := by decide +kernel
theorem dX9_eastmost_5 : decode cX9_eastmost 5 = .ok (.iconst 0, 1) := by decide +kernel
theorem dX9_eastmost_6 : decode cX9_eastmost 6 = .ok (.istore_n 3, 1) := by decide +kernel
theorem dX9_eastmost_7 : decode cX9_eastmost 7 = .ok (.iload_n 3, 1) := by decide +kernel
theorem dX9_eastmost_8 : decode cX9_eastmost 8 = .ok (.aload_n 0, 1) := by decide +kernel
theorem dX9_eastmost_9 : decode cX9_eastmost 9 = .ok (.getfield 86, 3) := by decide +kernel
theorem dX9_eastmost_12 : decode cX9_eastmost 12 = .ok (.if_icmp .ge 45, 3) := by decide +kernel
theorem dX9_eastmost_15 : decode cX9_eastmost 15 = .ok (.aload_n 0, 1) := by decide +kernel
theorem dX9_eastmost_16 : decode cX9_eastmost 16 = .ok (.getfield 53, 3) := by decide +kernel
theorem dX9_eastmost_19 : decode cX9_eastmost 19 = .ok (.iload_n 3, 1) := by decide +kernel
theorem dX9_eastmost_20 : decode cX9_eastmost 20 = .ok (.baload, 1) := by decide +kernel
theorem dX9_eastmost_21 : decode cX9_eastmost 21 = .ok (.ifCond .eq 30, 3) := by decide +kernel
theorem dX9_eastmost_24 : decode cX9_eastmost 24 = .ok (.iload_n 2, 1) := by decide +kernel
theorem dX9_eastmost_25 : decode cX9_eastmost 25 = .ok (.ifCond .eq 13, 3) := by decide +kernel
theorem dX9_eastmost_28 : decode cX9_eastmost 28 = .ok (.aload_n 0, 1) := by decide +kernel
theorem dX9_eastmost_29 : decode cX9_eastmost 29 = .ok (.getfield 56, 3) := by decide +kernel
theorem dX9_eastmost_32 : decode cX9_eastmost 32 = .ok (.iload_n 3, 1) := by decide +kernel
theorem dX9_eastmost_33 : decode cX9_eastmost 33 = .ok (.iaload, 1) := by decide +kernel
theorem dX9_eastmost_34 : decode cX9_eastmost 34 = .ok (.iload_n 1, 1) := by decide +kernel
theorem dX9_eastmost_35 : decode cX9_eastmost 35 = .ok (.if_icmp .le 12, 3) := by decide +kernel
theorem dX9_eastmost_38 : decode cX9_eastmost 38 = .ok (.aload_n 0, 1) := by decide +kernel
theorem dX9_eastmost_39 : decode cX9_eastmost 39 = .ok (.getfield 56, 3) := by decide +kernel
theorem dX9_eastmost_42 : decode cX9_eastmost 42 = .ok (.iload_n 3, 1) := by decide +kernel
theorem dX9_eastmost_43 : decode cX9_eastmost 43 = .ok (.iaload, 1) := by decide +kernel
theorem dX9_eastmost_44 : decode cX9_eastmost 44 = .ok (.goto 4, 3) := by decide +kernel
theorem dX9_eastmost_47 : decode cX9_eastmost 47 = .ok (.iload_n 1, 1) := by decide +kernel
theorem dX9_eastmost_48 : decode cX9_eastmost 48 = .ok (.istore_n 1, 1) := by decide +kernel
theorem dX9_eastmost_49 : decode cX9_eastmost 49 = .ok (.iconst 1, 1) := by decide +kernel
theorem dX9_eastmost_50 : decode cX9_eastmost 50 = .ok (.istore_n 2, 1) := by decide +kernel
theorem dX9_eastmost_51 : decode cX9_eastmost 51 = .ok (.iinc 3 1, 3) := by decide +kernel
theorem dX9_eastmost_54 : decode cX9_eastmost 54 = .ok (.goto (-47), 3) := by decide +kernel
theorem dX9_eastmost_57 : decode cX9_eastmost 57 = .ok (.iload_n 2, 1) := by decide +kernel
theorem dX9_eastmost_58 : decode cX9_eastmost 58 = .ok (.ifCond .eq 9, 3) := by decide +kernel
theorem dX9_eastmost_61 : decode cX9_eastmost 61 = .ok (.iload_n 1, 1) := by decide +kernel
theorem dX9_eastmost_62 : decode cX9_eastmost 62 = .ok (.iconst 2, 1) := by decide +kernel
theorem dX9_eastmost_63 : decode cX9_eastmost 63 = .ok (.iadd, 1) := by decide +kernel
theorem dX9_eastmost_64 : decode cX9_eastmost 64 = .ok (.goto 4, 3) := by decide +kernel
theorem dX9_eastmost_67 : decode cX9_eastmost 67 = .ok (.iconst 0, 1) := by decide +kernel
theorem dX9_eastmost_68 : decode cX9_eastmost 68 = .ok (.ireturn, 1) := by decide +kernel
theorem dX9_least_0 : decode cX9_least 0 = .ok (.iload_n 1, 1) := by decide +kernel
theorem dX9_least_1 : decode cX9_least 1 = .ok (.iconst 0, 1) := by decide +kernel
theorem dX9_least_2 : decode cX9_least 2 = .ok (.bipush 23, 2) := by decide +kernel
theorem dX9_least_4 : decode cX9_least 4 = .ok (.invokestatic 90, 3) := by decide +kernel
theorem dX9_least_7 : decode cX9_least 7 = .ok (.ifCond .ne 7, 3) := by decide +kernel
theorem dX9_least_10 : decode cX9_least 10 = .ok (.iconst (-1), 1) := by decide +kernel
theorem dX9_least_11 : decode cX9_least 11 = .ok (.goto 30, 3) := by decide +kernel
theorem dX9_least_14 : decode cX9_least 14 = .ok (.iload_n 1, 1) := by decide +kernel
theorem dX9_least_15 : decode cX9_least 15 = .ok (.aload_n 0, 1) := by decide +kernel
theorem dX9_least_16 : decode cX9_least 16 = .ok (.getfield 200, 3) := by decide +kernel
theorem dX9_least_19 : decode cX9_least 19 = .ok (.if_icmp .lt 8, 3) := by decide +kernel
theorem dX9_least_22 : decode cX9_least 22 = .ok (.bipush (-2), 2) := by decide +kernel
theorem dX9_least_24 : decode cX9_least 24 = .ok (.goto 17, 3) := by decide +kernel
theorem dX9_least_27 : decode cX9_least 27 = .ok (.aload_n 0, 1) := by decide +kernel
theorem dX9_least_28 : decode cX9_least 28 = .ok (.getfield 44, 3) := by decide +kernel
theorem dX9_least_31 : decode cX9_least 31 = .ok (.iload_n 1, 1) := by decide +kernel
theorem dX9_least_32 : decode cX9_least 32 = .ok (.baload, 1) := by decide +kernel
theorem dX9_least_33 : decode cX9_least 33 = .ok (.ifCond .eq 7, 3) := by decide +kernel
theorem dX9_least_36 : decode cX9_least 36 = .ok (.iconst 1, 1) := by decide +kernel
theorem dX9_least_37 : decode cX9_least 37 = .ok (.goto 4, 3) := by decide +kernel
theorem dX9_least_40 : decode cX9_least 40 = .ok (.iconst 0, 1) := by decide +kernel
theorem dX9_least_41 : decode cX9_least 41 = .ok (.ireturn, 1) := by decide +kernel
theorem dX9_steps_0 : decode cX9_steps 0 = .ok (.aload_n 0, 1) := by decide +kernel
theorem dX9_steps_1 : decode cX9_steps 1 = .ok (.getfield 197, 3) := by decide +kernel
theorem dX9_steps_4 : decode cX9_steps 4 = .ok (.ireturn, 1) := by decide +kernel
theorem dX9_place_0 : decode cX9_place 0 = .ok (.aload_n 0, 1) := by decide +kernel
theorem dX9_place_1 : decode cX9_place 1 = .ok (.iload_n 1, 1) := by decide +kernel
theorem dX9_place_2 : decode cX9_place 2 = .ok (.invokevirtual 101, 3) := by decide +kernel
theorem dX9_place_5 : decode cX9_place 5 = .ok (.ifCond .eq 12, 3) := by decide +kernel
theorem dX9_place_8 : decode cX9_place 8 = .ok (.iload_n 2, 1) := by decide +kernel
theorem dX9_place_9 : decode cX9_place 9 = .ok (.iconst 0, 1) := by decide +kernel
theorem dX9_place_10 : decode cX9_place 10 = .ok (.iconst 2, 1) := by decide +kernel
theorem dX9_place_11 : decode cX9_place 11 = .ok (.invokestatic 90, 3) := by decide +kernel
theorem dX9_place_14 : decode cX9_place 14 = .ok (.ifCond .ne 7, 3) := by decide +kernel
theorem dX9_place_17 : decode cX9_place 17 = .ok (.sipush (-1001), 3) := by decide +kernel
theorem dX9_place_20 : decode cX9_place 20 = .ok (.ireturn, 1) := by decide +kernel
theorem dX9_place_21 : decode cX9_place 21 = .ok (.aload_n 0, 1) := by decide +kernel
theorem dX9_place_22 : decode cX9_place 22 = .ok (.getfield 32, 3) := by decide +kernel
theorem dX9_place_25 : decode cX9_place 25 = .ok (.iload_n 1, 1) := by decide +kernel
theorem dX9_place_26 : decode cX9_place 26 = .ok (.baload, 1) := by decide +kernel
theorem dX9_place_27 : decode cX9_place 27 = .ok (.ifCond .ne 9, 3) := by decide +kernel
theorem dX9_place_30 : decode cX9_place 30 = .ok (.sipush (-1002), 3) := by decide +kernel
theorem dX9_place_33 : decode cX9_place 33 = .ok (.goto 36, 3) := by decide +kernel
theorem dX9_place_36 : decode cX9_place 36 = .ok (.iload_n 2, 1) := by decide +kernel
theorem dX9_place_37 : decode cX9_place 37 = .ok (.ifCond .ne 12, 3) := by decide +kernel
theorem dX9_place_40 : decode cX9_place 40 = .ok (.aload_n 0, 1) := by decide +kernel
theorem dX9_place_41 : decode cX9_place 41 = .ok (.getfield 35, 3) := by decide +kernel
theorem dX9_place_44 : decode cX9_place 44 = .ok (.iload_n 1, 1) := by decide +kernel
theorem dX9_place_45 : decode cX9_place 45 = .ok (.iaload, 1) := by decide +kernel
theorem dX9_place_46 : decode cX9_place 46 = .ok (.goto 23, 3) := by decide +kernel
theorem dX9_place_49 : decode cX9_place 49 = .ok (.iload_n 2, 1) := by decide +kernel
theorem dX9_place_50 : decode cX9_place 50 = .ok (.iconst 1, 1) := by decide +kernel
theorem dX9_place_51 : decode cX9_place 51 = .ok (.if_icmp .ne 12, 3) := by decide +kernel
theorem dX9_place_54 : decode cX9_place 54 = .ok (.aload_n 0, 1) := by decide +kernel
theorem dX9_place_55 : decode cX9_place 55 = .ok (.getfield 38, 3) := by decide +kernel
theorem dX9_place_58 : decode cX9_place 58 = .ok (.iload_n 1, 1) := by decide +kernel
theorem dX9_place_59 : decode cX9_place 59 = .ok (.iaload, 1) := by decide +kernel
theorem dX9_place_60 : decode cX9_place 60 = .ok (.goto 9, 3) := by decide +kernel
theorem dX9_place_63 : decode cX9_place 63 = .ok (.aload_n 0, 1) := by decide +kernel
theorem dX9_place_64 : decode cX9_place 64 = .ok (.getfield 41, 3) := by decide +kernel
theorem dX9_place_67 : decode cX9_place 67 = .ok (.iload_n 1, 1) := by decide +kernel
theorem dX9_place_68 : decode cX9_place 68 = .ok (.iaload, 1) := by decide +kernel
theorem dX9_place_69 : decode cX9_place 69 = .ok (.ireturn, 1) := by decide +kernel
theorem dX9_straight_0 : decode cX9_straight 0 = .ok (.aload_n 0, 1) := by decide +kernel
theorem dX9_straight_1 : decode cX9_straight 1 = .ok (.iload_n 1, 1) := by decide +kernel
theorem dX9_straight_2 : decode cX9_straight 2 = .ok (.invokevirtual 113, 3) := by decide +kernel
theorem dX9_straight_5 : decode cX9_straight 5 = .ok (.ifCond .ne 5, 3) := by decide +kernel
theorem dX9_straight_8 : decode cX9_straight 8 = .ok (.iconst (-1), 1) := by decide +kernel
theorem dX9_straight_9 : decode cX9_straight 9 = .ok (.ireturn, 1) := by decide +kernel
theorem dX9_straight_10 : decode cX9_straight 10 = .ok (.aload_n 0, 1) := by decide +kernel
theorem dX9_straight_11 : decode cX9_straight 11 = .ok (.getfield 32, 3) := by decide +kernel
theorem dX9_straight_14 : decode cX9_straight 14 = .ok (.aload_n 0, 1) := by decide +kernel
theorem dX9_straight_15 : decode cX9_straight 15 = .ok (.getfield 19, 3) := by decide +kernel
theorem dX9_straight_18 : decode cX9_straight 18 = .ok (.iload_n 1, 1) := by decide +kernel
theorem dX9_straight_19 : decode cX9_straight 19 = .ok (.iaload, 1) := by decide +kernel
theorem dX9_straight_20 : decode cX9_straight 20 = .ok (.baload, 1) := by decide +kernel
theorem dX9_straight_21 : decode cX9_straight 21 = .ok (.ifCond .eq 17, 3) := by decide +kernel
theorem dX9_straight_24 : decode cX9_straight 24 = .ok (.aload_n 0, 1) := by decide +kernel
theorem dX9_straight_25 : decode cX9_straight 25 = .ok (.getfield 32, 3) := by decide +kernel
theorem dX9_straight_28 : decode cX9_straight 28 = .ok (.aload_n 0, 1) := by decide +kernel
theorem dX9_straight_29 : decode cX9_straight 29 = .ok (.getfield 25, 3) := by decide +kernel
theorem dX9_straight_32 : decode cX9_straight 32 = .ok (.iload_n 1, 1) := by decide +kernel
theorem dX9_straight_33 : decode cX9_straight 33 = .ok (.iaload, 1) := by decide +kernel
theorem dX9_straight_34 : decode cX9_straight 34 = .ok (.baload, 1) := by decide +kernel
theorem dX9_straight_35 : decode cX9_straight 35 = .ok (.ifCond .ne 6, 3) := by decide +kernel
theorem dX9_straight_38 : decode cX9_straight 38 = .ok (.bipush (-3), 2) := by decide +kernel
theorem dX9_straight_40 : decode cX9_straight 40 = .ok (.ireturn, 1) := by decide +kernel
theorem dX9_straight_41 : decode cX9_straight 41 = .ok (.aload_n 0, 1) := by decide +kernel
theorem dX9_straight_42 : decode cX9_straight 42 = .ok (.invokevirtual 215, 3) := by decide +kernel
theorem dX9_straight_45 : decode cX9_straight 45 = .ok (.aload_n 0, 1) := by decide +kernel
theorem dX9_straight_46 : decode cX9_straight 46 = .ok (.iload_n 1, 1) := by decide +kernel
theorem dX9_straight_47 : decode cX9_straight 47 = .ok (.invokevirtual 145, 3) := by decide +kernel
theorem dX9_straight_50 : decode cX9_straight 50 = .ok (.ifCond .eq 7, 3) := by decide +kernel
theorem dX9_straight_53 : decode cX9_straight 53 = .ok (.iconst 0, 1) := by decide +kernel
theorem dX9_straight_54 : decode cX9_straight 54 = .ok (.goto 8, 3) := by decide +kernel
theorem dX9_straight_57 : decode cX9_straight 57 = .ok (.aload_n 0, 1) := by decide +kernel
theorem dX9_straight_58 : decode cX9_straight 58 = .ok (.iload_n 1, 1) := by decide +kernel
theorem dX9_straight_59 : decode cX9_straight 59 = .ok (.invokevirtual 148, 3) := by decide +kernel
theorem dX9_straight_62 : decode cX9_straight 62 = .ok (.istore_n 2, 1) := by decide +kernel
theorem dX9_straight_63 : decode cX9_straight 63 = .ok (.aload_n 0, 1) := by decide +kernel
theorem dX9_straight_64 : decode cX9_straight 64 = .ok (.iload_n 1, 1) := by decide +kernel
theorem dX9_straight_65 : decode cX9_straight 65 = .ok (.invokevirtual 145, 3) := by decide +kernel
theorem dX9_straight_68 : decode cX9_straight 68 = .ok (.ifCond .eq 7, 3) := by decide +kernel
theorem dX9_straight_71 : decode cX9_straight 71 = .ok (.iconst 0, 1) := by decide +kernel
theorem dX9_straight_72 : decode cX9_straight 72 = .ok (.goto 13, 3) := by decide +kernel
theorem dX9_straight_75 : decode cX9_straight 75 = .ok (.iload_n 2, 1) := by decide +kernel
theorem dX9_straight_76 : decode cX9_straight 76 = .ok (.ifCond .ne 8, 3) := by decide +kernel
theorem dX9_straight_79 : decode cX9_straight 79 = .ok (.bipush (-2), 2) := by decide +kernel
theorem dX9_straight_81 : decode cX9_straight 81 = .ok (.goto 4, 3) := by decide +kernel
theorem dX9_straight_84 : decode cX9_straight 84 = .ok (.iload_n 2, 1) := by decide +kernel
theorem dX9_straight_85 : decode cX9_straight 85 = .ok (.ireturn, 1) := by decide +kernel
theorem dX9_cost_0 : decode cX9_cost 0 = .ok (.aload_n 0, 1) := by decide +kernel
theorem dX9_cost_1 : decode cX9_cost 1 = .ok (.invokevirtual 215, 3) := by decide +kernel
theorem dX9_cost_4 : decode cX9_cost 4 = .ok (.aload_n 0, 1) := by decide +kernel
theorem dX9_cost_5 : decode cX9_cost 5 = .ok (.invokevirtual 181, 3) := by decide +kernel
theorem dX9_cost_8 : decode cX9_cost 8 = .ok (.ireturn, 1) := by decide +kernel
theorem dX9_findDistances_0 : decode cX9_findDistances 0 = .ok (.iconst 0, 1) := by decide +kernel
theorem dX9_findDistances_1 : decode cX9_findDistances 1 = .ok (.istore_n 2, 1) := by decide +kernel

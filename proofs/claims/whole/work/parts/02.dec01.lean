theorem dX5_init_0 : decode cX5_init 0 = .ok (.aload_n 0, 1) := by decide +kernel
theorem dX5_init_1 : decode cX5_init 1 = .ok (.invokespecial 3, 3) := by decide +kernel
theorem dX5_init_4 : decode cX5_init 4 = .ok (.aload_n 0, 1) := by decide +kernel
theorem dX5_init_5 : decode cX5_init 5 = .ok (.bipush 24, 2) := by decide +kernel
theorem dX5_init_7 : decode cX5_init 7 = .ok (.newarray .int, 2) := by decide +kernel
theorem dX5_init_9 : decode cX5_init 9 = .ok (.putfield 9, 3) := by decide +kernel
theorem dX5_init_12 : decode cX5_init 12 = .ok (.aload_n 0, 1) := by decide +kernel
theorem dX5_init_13 : decode cX5_init 13 = .ok (.bipush 24, 2) := by decide +kernel
theorem dX5_init_15 : decode cX5_init 15 = .ok (.newarray .int, 2) := by decide +kernel
theorem dX5_init_17 : decode cX5_init 17 = .ok (.putfield 15, 3) := by decide +kernel
theorem dX5_init_20 : decode cX5_init 20 = .ok (.aload_n 0, 1) := by decide +kernel
theorem dX5_init_21 : decode cX5_init 21 = .ok (.bipush 24, 2) := by decide +kernel
theorem dX5_init_23 : decode cX5_init 23 = .ok (.newarray .int, 2) := by decide +kernel
theorem dX5_init_25 : decode cX5_init 25 = .ok (.putfield 18, 3) := by decide +kernel
theorem dX5_init_28 : decode cX5_init 28 = .ok (.aload_n 0, 1) := by decide +kernel
theorem dX5_init_29 : decode cX5_init 29 = .ok (.bipush 60, 2) := by decide +kernel
theorem dX5_init_31 : decode cX5_init 31 = .ok (.newarray .int, 2) := by decide +kernel
theorem dX5_init_33 : decode cX5_init 33 = .ok (.putfield 21, 3) := by decide +kernel
theorem dX5_init_36 : decode cX5_init 36 = .ok (.aload_n 0, 1) := by decide +kernel
theorem dX5_init_37 : decode cX5_init 37 = .ok (.bipush 60, 2) := by decide +kernel
theorem dX5_init_39 : decode cX5_init 39 = .ok (.newarray .int, 2) := by decide +kernel
theorem dX5_init_41 : decode cX5_init 41 = .ok (.putfield 24, 3) := by decide +kernel
theorem dX5_init_44 : decode cX5_init 44 = .ok (.aload_n 0, 1) := by decide +kernel
theorem dX5_init_45 : decode cX5_init 45 = .ok (.bipush 60, 2) := by decide +kernel
theorem dX5_init_47 : decode cX5_init 47 = .ok (.newarray .int, 2) := by decide +kernel
theorem dX5_init_49 : decode cX5_init 49 = .ok (.putfield 27, 3) := by decide +kernel
theorem dX5_init_52 : decode cX5_init 52 = .ok (.aload_n 0, 1) := by decide +kernel
theorem dX5_init_53 : decode cX5_init 53 = .ok (.bipush 60, 2) := by decide +kernel
theorem dX5_init_55 : decode cX5_init 55 = .ok (.newarray .boolean, 2) := by decide +kernel
theorem dX5_init_57 : decode cX5_init 57 = .ok (.putfield 30, 3) := by decide +kernel
theorem dX5_init_60 : decode cX5_init 60 = .ok (.return_, 1) := by decide +kernel
theorem dX5_isRoom_0 : decode cX5_isRoom 0 = .ok (.iload_n 1, 1) := by decide +kernel
theorem dX5_isRoom_1 : decode cX5_isRoom 1 = .ok (.ifCond .lt 15, 3) := by decide +kernel
theorem dX5_isRoom_4 : decode cX5_isRoom 4 = .ok (.iload_n 1, 1) := by decide +kernel
theorem dX5_isRoom_5 : decode cX5_isRoom 5 = .ok (.aload_n 0, 1) := by decide +kernel
theorem dX5_isRoom_6 : decode cX5_isRoom 6 = .ok (.getfield 34, 3) := by decide +kernel
theorem dX5_isRoom_9 : decode cX5_isRoom 9 = .ok (.if_icmp .ge 7, 3) := by decide +kernel
theorem dX5_isRoom_12 : decode cX5_isRoom 12 = .ok (.iconst 1, 1) := by decide +kernel
theorem dX5_isRoom_13 : decode cX5_isRoom 13 = .ok (.goto 4, 3) := by decide +kernel
theorem dX5_isRoom_16 : decode cX5_isRoom 16 = .ok (.iconst 0, 1) := by decide +kernel
theorem dX5_isRoom_17 : decode cX5_isRoom 17 = .ok (.ireturn, 1) := by decide +kernel
theorem dX5_isLink_0 : decode cX5_isLink 0 = .ok (.iload_n 1, 1) := by decide +kernel
theorem dX5_isLink_1 : decode cX5_isLink 1 = .ok (.ifCond .lt 15, 3) := by decide +kernel
theorem dX5_isLink_4 : decode cX5_isLink 4 = .ok (.iload_n 1, 1) := by decide +kernel
theorem dX5_isLink_5 : decode cX5_isLink 5 = .ok (.aload_n 0, 1) := by decide +kernel
theorem dX5_isLink_6 : decode cX5_isLink 6 = .ok (.getfield 38, 3) := by decide +kernel
theorem dX5_isLink_9 : decode cX5_isLink 9 = .ok (.if_icmp .ge 7, 3) := by decide +kernel
theorem dX5_isLink_12 : decode cX5_isLink 12 = .ok (.iconst 1, 1) := by decide +kernel
theorem dX5_isLink_13 : decode cX5_isLink 13 = .ok (.goto 4, 3) := by decide +kernel
theorem dX5_isLink_16 : decode cX5_isLink 16 = .ok (.iconst 0, 1) := by decide +kernel
theorem dX5_isLink_17 : decode cX5_isLink 17 = .ok (.ireturn, 1) := by decide +kernel
theorem dX5_isFullOfRooms_0 : decode cX5_isFullOfRooms 0 = .ok (.aload_n 0, 1) := by decide +kernel
theorem dX5_isFullOfRooms_1 : decode cX5_isFullOfRooms 1 = .ok (.getfield 34, 3) := by decide +kernel
theorem dX5_isFullOfRooms_4 : decode cX5_isFullOfRooms 4 = .ok (.bipush 24, 2) := by decide +kernel
theorem dX5_isFullOfRooms_6 : decode cX5_isFullOfRooms 6 = .ok (.if_icmp .lt 7, 3) := by decide +kernel
theorem dX5_isFullOfRooms_9 : decode cX5_isFullOfRooms 9 = .ok (.iconst 1, 1) := by decide +kernel
theorem dX5_isFullOfRooms_10 : decode cX5_isFullOfRooms 10 = .ok (.goto 4, 3) := by decide +kernel
theorem dX5_isFullOfRooms_13 : decode cX5_isFullOfRooms 13 = .ok (.iconst 0, 1) := by decide +kernel
theorem dX5_isFullOfRooms_14 : decode cX5_isFullOfRooms 14 = .ok (.ireturn, 1) := by decide +kernel
theorem dX5_isFullOfLinks_0 : decode cX5_isFullOfLinks 0 = .ok (.aload_n 0, 1) := by decide +kernel
theorem dX5_isFullOfLinks_1 : decode cX5_isFullOfLinks 1 = .ok (.getfield 38, 3) := by decide +kernel
theorem dX5_isFullOfLinks_4 : decode cX5_isFullOfLinks 4 = .ok (.bipush 60, 2) := by decide +kernel
theorem dX5_isFullOfLinks_6 : decode cX5_isFullOfLinks 6 = .ok (.if_icmp .lt 7, 3) := by decide +kernel
theorem dX5_isFullOfLinks_9 : decode cX5_isFullOfLinks 9 = .ok (.iconst 1, 1) := by decide +kernel
theorem dX5_isFullOfLinks_10 : decode cX5_isFullOfLinks 10 = .ok (.goto 4, 3) := by decide +kernel
theorem dX5_isFullOfLinks_13 : decode cX5_isFullOfLinks 13 = .ok (.iconst 0, 1) := by decide +kernel
theorem dX5_isFullOfLinks_14 : decode cX5_isFullOfLinks 14 = .ok (.ireturn, 1) := by decide +kernel
theorem dX5_addRoom_0 : decode cX5_addRoom 0 = .ok (.aload_n 0, 1) := by decide +kernel
theorem dX5_addRoom_1 : decode cX5_addRoom 1 = .ok (.invokevirtual 41, 3) := by decide +kernel
theorem dX5_addRoom_4 : decode cX5_addRoom 4 = .ok (.ifCond .eq 6, 3) := by decide +kernel
theorem dX5_addRoom_7 : decode cX5_addRoom 7 = .ok (.bipush (-4), 2) := by decide +kernel
theorem dX5_addRoom_9 : decode cX5_addRoom 9 = .ok (.ireturn, 1) := by decide +kernel
theorem dX5_addRoom_10 : decode cX5_addRoom 10 = .ok (.aload_n 0, 1) := by decide +kernel
theorem dX5_addRoom_11 : decode cX5_addRoom 11 = .ok (.getfield 9, 3) := by decide +kernel
theorem dX5_addRoom_14 : decode cX5_addRoom 14 = .ok (.aload_n 0, 1) := by decide +kernel
theorem dX5_addRoom_15 : decode cX5_addRoom 15 = .ok (.getfield 34, 3) := by decide +kernel
theorem dX5_addRoom_18 : decode cX5_addRoom 18 = .ok (.iload_n 1, 1) := by decide +kernel
theorem dX5_addRoom_19 : decode cX5_addRoom 19 = .ok (.iastore, 1) := by decide +kernel
theorem dX5_addRoom_20 : decode cX5_addRoom 20 = .ok (.aload_n 0, 1) := by decide +kernel
theorem dX5_addRoom_21 : decode cX5_addRoom 21 = .ok (.getfield 15, 3) := by decide +kernel
theorem dX5_addRoom_24 : decode cX5_addRoom 24 = .ok (.aload_n 0, 1) := by decide +kernel
theorem dX5_addRoom_25 : decode cX5_addRoom 25 = .ok (.getfield 34, 3) := by decide +kernel
theorem dX5_addRoom_28 : decode cX5_addRoom 28 = .ok (.iload_n 2, 1) := by decide +kernel
theorem dX5_addRoom_29 : decode cX5_addRoom 29 = .ok (.iastore, 1) := by decide +kernel
theorem dX5_addRoom_30 : decode cX5_addRoom 30 = .ok (.aload_n 0, 1) := by decide +kernel
theorem dX5_addRoom_31 : decode cX5_addRoom 31 = .ok (.getfield 18, 3) := by decide +kernel
theorem dX5_addRoom_34 : decode cX5_addRoom 34 = .ok (.aload_n 0, 1) := by decide +kernel
theorem dX5_addRoom_35 : decode cX5_addRoom 35 = .ok (.getfield 34, 3) := by decide +kernel
theorem dX5_addRoom_38 : decode cX5_addRoom 38 = .ok (.bipush (-2), 2) := by decide +kernel
theorem dX5_addRoom_40 : decode cX5_addRoom 40 = .ok (.iastore, 1) := by decide +kernel
theorem dX5_addRoom_41 : decode cX5_addRoom 41 = .ok (.aload_n 0, 1) := by decide +kernel
theorem dX5_addRoom_42 : decode cX5_addRoom 42 = .ok (.dup, 1) := by decide +kernel
theorem dX5_addRoom_43 : decode cX5_addRoom 43 = .ok (.getfield 34, 3) := by decide +kernel
theorem dX5_addRoom_46 : decode cX5_addRoom 46 = .ok (.dup_x1, 1) := by decide +kernel
theorem dX5_addRoom_47 : decode cX5_addRoom 47 = .ok (.iconst 1, 1) := by decide +kernel
theorem dX5_addRoom_48 : decode cX5_addRoom 48 = .ok (.iadd, 1) := by decide +kernel
theorem dX5_addRoom_49 : decode cX5_addRoom 49 = .ok (.putfield 34, 3) := by decide +kernel
theorem dX5_addRoom_52 : decode cX5_addRoom 52 = .ok (.ireturn, 1) := by decide +kernel
theorem dX5_addLink_0 : decode cX5_addLink 0 = .ok (.aload_n 0, 1) := by decide +kernel
theorem dX5_addLink_1 : decode cX5_addLink 1 = .ok (.invokevirtual 45, 3) := by decide +kernel
theorem dX5_addLink_4 : decode cX5_addLink 4 = .ok (.ifCond .eq 6, 3) := by decide +kernel
theorem dX5_addLink_7 : decode cX5_addLink 7 = .ok (.bipush (-4), 2) := by decide +kernel
theorem dX5_addLink_9 : decode cX5_addLink 9 = .ok (.ireturn, 1) := by decide +kernel
theorem dX5_addLink_10 : decode cX5_addLink 10 = .ok (.aload_n 0, 1) := by decide +kernel
theorem dX5_addLink_11 : decode cX5_addLink 11 = .ok (.getfield 21, 3) := by decide +kernel
theorem dX5_addLink_14 : decode cX5_addLink 14 = .ok (.aload_n 0, 1) := by decide +kernel
theorem dX5_addLink_15 : decode cX5_addLink 15 = .ok (.getfield 38, 3) := by decide +kernel
theorem dX5_addLink_18 : decode cX5_addLink 18 = .ok (.iload_n 1, 1) := by decide +kernel
theorem dX5_addLink_19 : decode cX5_addLink 19 = .ok (.iastore, 1) := by decide +kernel
theorem dX5_addLink_20 : decode cX5_addLink 20 = .ok (.aload_n 0, 1) := by decide +kernel
theorem dX5_addLink_21 : decode cX5_addLink 21 = .ok (.getfield 24, 3) := by decide +kernel
theorem dX5_addLink_24 : decode cX5_addLink 24 = .ok (.aload_n 0, 1) := by decide +kernel
theorem dX5_addLink_25 : decode cX5_addLink 25 = .ok (.getfield 38, 3) := by decide +kernel
theorem dX5_addLink_28 : decode cX5_addLink 28 = .ok (.iload_n 2, 1) := by decide +kernel
theorem dX5_addLink_29 : decode cX5_addLink 29 = .ok (.iastore, 1) := by decide +kernel
theorem dX5_addLink_30 : decode cX5_addLink 30 = .ok (.aload_n 0, 1) := by decide +kernel
theorem dX5_addLink_31 : decode cX5_addLink 31 = .ok (.getfield 27, 3) := by decide +kernel
theorem dX5_addLink_34 : decode cX5_addLink 34 = .ok (.aload_n 0, 1) := by decide +kernel
theorem dX5_addLink_35 : decode cX5_addLink 35 = .ok (.getfield 38, 3) := by decide +kernel
theorem dX5_addLink_38 : decode cX5_addLink 38 = .ok (.iload_n 3, 1) := by decide +kernel
theorem dX5_addLink_39 : decode cX5_addLink 39 = .ok (.iastore, 1) := by decide +kernel
theorem dX5_addLink_40 : decode cX5_addLink 40 = .ok (.aload_n 0, 1) := by decide +kernel
theorem dX5_addLink_41 : decode cX5_addLink 41 = .ok (.getfield 30, 3) := by decide +kernel
theorem dX5_addLink_44 : decode cX5_addLink 44 = .ok (.aload_n 0, 1) := by decide +kernel
theorem dX5_addLink_45 : decode cX5_addLink 45 = .ok (.getfield 38, 3) := by decide +kernel
theorem dX5_addLink_48 : decode cX5_addLink 48 = .ok (.iload 4, 2) := by decide +kernel
theorem dX5_addLink_50 : decode cX5_addLink 50 = .ok (.bastore, 1) := by decide +kernel
theorem dX5_addLink_51 : decode cX5_addLink 51 = .ok (.aload_n 0, 1) := by decide +kernel
theorem dX5_addLink_52 : decode cX5_addLink 52 = .ok (.dup, 1) := by decide +kernel
theorem dX5_addLink_53 : decode cX5_addLink 53 = .ok (.getfield 38, 3) := by decide +kernel
theorem dX5_addLink_56 : decode cX5_addLink 56 = .ok (.dup_x1, 1) := by decide +kernel
theorem dX5_addLink_57 : decode cX5_addLink 57 = .ok (.iconst 1, 1) := by decide +kernel
theorem dX5_addLink_58 : decode cX5_addLink 58 = .ok (.iadd, 1) := by decide +kernel
theorem dX5_addLink_59 : decode cX5_addLink 59 = .ok (.putfield 38, 3) := by decide +kernel
theorem dX5_addLink_62 : decode cX5_addLink 62 = .ok (.ireturn, 1) := by decide +kernel
theorem dX5_removeLink_0 : decode cX5_removeLink 0 = .ok (.iload_n 1, 1) := by decide +kernel
theorem dX5_removeLink_1 : decode cX5_removeLink 1 = .ok (.istore_n 2, 1) := by decide +kernel
theorem dX5_removeLink_2 : decode cX5_removeLink 2 = .ok (.iload_n 2, 1) := by decide +kernel
theorem dX5_removeLink_3 : decode cX5_removeLink 3 = .ok (.iconst 1, 1) := by decide +kernel
theorem dX5_removeLink_4 : decode cX5_removeLink 4 = .ok (.iadd, 1) := by decide +kernel
theorem dX5_removeLink_5 : decode cX5_removeLink 5 = .ok (.aload_n 0, 1) := by decide +kernel
theorem dX5_removeLink_6 : decode cX5_removeLink 6 = .ok (.getfield 38, 3) := by decide +kernel
theorem dX5_removeLink_9 : decode cX5_removeLink 9 = .ok (.if_icmp .ge 65, 3) := by decide +kernel
theorem dX5_removeLink_12 : decode cX5_removeLink 12 = .ok (.aload_n 0, 1) := by decide +kernel
theorem dX5_removeLink_13 : decode cX5_removeLink 13 = .ok (.getfield 21, 3) := by decide +kernel
theorem dX5_removeLink_16 : decode cX5_removeLink 16 = .ok (.iload_n 2, 1) := by decide +kernel
theorem dX5_removeLink_17 : decode cX5_removeLink 17 = .ok (.aload_n 0, 1) := by decide +kernel
theorem dX5_removeLink_18 : decode cX5_removeLink 18 = .ok (.getfield 21, 3) := by decide +kernel
theorem dX5_removeLink_21 : decode cX5_removeLink 21 = .ok (.iload_n 2, 1) := by decide +kernel
theorem dX5_removeLink_22 : decode cX5_removeLink 22 = .ok (.iconst 1, 1) := by decide +kernel
theorem dX5_removeLink_23 : decode cX5_removeLink 23 = .ok (.iadd, 1) := by decide +kernel
theorem dX5_removeLink_24 : decode cX5_removeLink 24 = .ok (.iaload, 1) := by decide +kernel
theorem dX5_removeLink_25 : decode cX5_removeLink 25 = .ok (.iastore, 1) := by decide +kernel
theorem dX5_removeLink_26 : decode cX5_removeLink 26 = .ok (.aload_n 0, 1) := by decide +kernel
theorem dX5_removeLink_27 : decode cX5_removeLink 27 = .ok (.getfield 24, 3) := by decide +kernel
theorem dX5_removeLink_30 : decode cX5_removeLink 30 = .ok (.iload_n 2, 1) := by decide +kernel
theorem dX5_removeLink_31 : decode cX5_removeLink 31 = .ok (.aload_n 0, 1) := by decide +kernel
theorem dX5_removeLink_32 : decode cX5_removeLink 32 = .ok (.getfield 24, 3) := by decide +kernel
theorem dX5_removeLink_35 : decode cX5_removeLink 35 = .ok (.iload_n 2, 1) := by decide +kernel
theorem dX5_removeLink_36 : decode cX5_removeLink 36 = .ok (.iconst 1, 1) := by decide +kernel
theorem dX5_removeLink_37 : decode cX5_removeLink 37 = .ok (.iadd, 1) := by decide +kernel
theorem dX5_removeLink_38 : decode cX5_removeLink 38 = .ok (.iaload, 1) := by decide +kernel
theorem dX5_removeLink_39 : decode cX5_removeLink 39 = .ok (.iastore, 1) := by decide +kernel
theorem dX5_removeLink_40 : decode cX5_removeLink 40 = .ok (.aload_n 0, 1) := by decide +kernel
theorem dX5_removeLink_41 : decode cX5_removeLink 41 = .ok (.getfield 27, 3) := by decide +kernel
theorem dX5_removeLink_44 : decode cX5_removeLink 44 = .ok (.iload_n 2, 1) := by decide +kernel
theorem dX5_removeLink_45 : decode cX5_removeLink 45 = .ok (.aload_n 0, 1) := by decide +kernel
theorem dX5_removeLink_46 : decode cX5_removeLink 46 = .ok (.getfield 27, 3) := by decide +kernel
theorem dX5_removeLink_49 : decode cX5_removeLink 49 = .ok (.iload_n 2, 1) := by decide +kernel
theorem dX5_removeLink_50 : decode cX5_removeLink 50 = .ok (.iconst 1, 1) := by decide +kernel
theorem dX5_removeLink_51 : decode cX5_removeLink 51 = .ok (.iadd, 1) := by decide +kernel
theorem dX5_removeLink_52 : decode cX5_removeLink 52 = .ok (.iaload, 1) := by decide +kernel
theorem dX5_removeLink_53 : decode cX5_removeLink 53 = .ok (.iastore, 1) := by decide +kernel
theorem dX5_removeLink_54 : decode cX5_removeLink 54 = .ok (.aload_n 0, 1) := by decide +kernel
theorem dX5_removeLink_55 : decode cX5_removeLink 55 = .ok (.getfield 30, 3) := by decide +kernel
theorem dX5_removeLink_58 : decode cX5_removeLink 58 = .ok (.iload_n 2, 1) := by decide +kernel
theorem dX5_removeLink_59 : decode cX5_removeLink 59 = .ok (.aload_n 0, 1) := by decide +kernel
theorem dX5_removeLink_60 : decode cX5_removeLink 60 = .ok (.getfield 30, 3) := by decide +kernel
theorem dX5_removeLink_63 : decode cX5_removeLink 63 = .ok (.iload_n 2, 1) := by decide +kernel
theorem dX5_removeLink_64 : decode cX5_removeLink 64 = .ok (.iconst 1, 1) := by decide +kernel
theorem dX5_removeLink_65 : decode cX5_removeLink 65 = .ok (.iadd, 1) := by decide +kernel
theorem dX5_removeLink_66 : decode cX5_removeLink 66 = .ok (.baload, 1) := by decide +kernel
theorem dX5_removeLink_67 : decode cX5_removeLink 67 = .ok (.bastore, 1) := by decide +kernel
theorem dX5_removeLink_68 : decode cX5_removeLink 68 = .ok (.iinc 2 1, 3) := by decide +kernel
theorem dX5_removeLink_71 : decode cX5_removeLink 71 = .ok (.goto (-69), 3) := by decide +kernel
theorem dX5_removeLink_74 : decode cX5_removeLink 74 = .ok (.aload_n 0, 1) := by decide +kernel
theorem dX5_removeLink_75 : decode cX5_removeLink 75 = .ok (.dup, 1) := by decide +kernel
theorem dX5_removeLink_76 : decode cX5_removeLink 76 = .ok (.getfield 38, 3) := by decide +kernel
theorem dX5_removeLink_79 : decode cX5_removeLink 79 = .ok (.iconst 1, 1) := by decide +kernel
theorem dX5_removeLink_80 : decode cX5_removeLink 80 = .ok (.isub, 1) := by decide +kernel
theorem dX5_removeLink_81 : decode cX5_removeLink 81 = .ok (.putfield 38, 3) := by decide +kernel
theorem dX5_removeLink_84 : decode cX5_removeLink 84 = .ok (.return_, 1) := by decide +kernel
theorem dX5_isLoop_0 : decode cX5_isLoop 0 = .ok (.aload_n 0, 1) := by decide +kernel
theorem dX5_isLoop_1 : decode cX5_isLoop 1 = .ok (.getfield 21, 3) := by decide +kernel
theorem dX5_isLoop_4 : decode cX5_isLoop 4 = .ok (.iload_n 1, 1) := by decide +kernel
theorem dX5_isLoop_5 : decode cX5_isLoop 5 = .ok (.iaload, 1) := by decide +kernel
theorem dX5_isLoop_6 : decode cX5_isLoop 6 = .ok (.aload_n 0, 1) := by decide +kernel
theorem dX5_isLoop_7 : decode cX5_isLoop 7 = .ok (.getfield 27, 3) := by decide +kernel
theorem dX5_isLoop_10 : decode cX5_isLoop 10 = .ok (.iload_n 1, 1) := by decide +kernel
theorem dX5_isLoop_11 : decode cX5_isLoop 11 = .ok (.iaload, 1) := by decide +kernel
theorem dX5_isLoop_12 : decode cX5_isLoop 12 = .ok (.if_icmp .ne 7, 3) := by decide +kernel
theorem dX5_isLoop_15 : decode cX5_isLoop 15 = .ok (.iconst 1, 1) := by decide +kernel
theorem dX5_isLoop_16 : decode cX5_isLoop 16 = .ok (.goto 4, 3) := by decide +kernel
theorem dX5_isLoop_19 : decode cX5_isLoop 19 = .ok (.iconst 0, 1) := by decide +kernel
theorem dX5_isLoop_20 : decode cX5_isLoop 20 = .ok (.ireturn, 1) := by decide +kernel
theorem dX5_leading_0 : decode cX5_leading 0 = .ok (.iconst 0, 1) := by decide +kernel
theorem dX5_leading_1 : decode cX5_leading 1 = .ok (.istore_n 3, 1) := by decide +kernel
theorem dX5_leading_2 : decode cX5_leading 2 = .ok (.iload_n 3, 1) := by decide +kernel
theorem dX5_leading_3 : decode cX5_leading 3 = .ok (.aload_n 0, 1) := by decide +kernel
theorem dX5_leading_4 : decode cX5_leading 4 = .ok (.getfield 38, 3) := by decide +kernel
theorem dX5_leading_7 : decode cX5_leading 7 = .ok (.if_icmp .ge 31, 3) := by decide +kernel
theorem dX5_leading_10 : decode cX5_leading 10 = .ok (.aload_n 0, 1) := by decide +kernel
theorem dX5_leading_11 : decode cX5_leading 11 = .ok (.iload_n 3, 1) := by decide +kernel
theorem dX5_leading_12 : decode cX5_leading 12 = .ok (.iload_n 1, 1) := by decide +kernel
theorem dX5_leading_13 : decode cX5_leading 13 = .ok (.iload_n 2, 1) := by decide +kernel
theorem dX5_leading_14 : decode cX5_leading 14 = .ok (.invokevirtual 48, 3) := by decide +kernel
theorem dX5_leading_17 : decode cX5_leading 17 = .ok (.ifCond .ne 13, 3) := by decide +kernel
theorem dX5_leading_20 : decode cX5_leading 20 = .ok (.aload_n 0, 1) := by decide +kernel
theorem dX5_leading_21 : decode cX5_leading 21 = .ok (.iload_n 3, 1) := by decide +kernel
theorem dX5_leading_22 : decode cX5_leading 22 = .ok (.iload_n 1, 1) := by decide +kernel
theorem dX5_leading_23 : decode cX5_leading 23 = .ok (.iload_n 2, 1) := by decide +kernel
theorem dX5_leading_24 : decode cX5_leading 24 = .ok (.invokevirtual 52, 3) := by decide +kernel
theorem dX5_leading_27 : decode cX5_leading 27 = .ok (.ifCond .eq 5, 3) := by decide +kernel
theorem dX5_leading_30 : decode cX5_leading 30 = .ok (.iload_n 3, 1) := by decide +kernel
theorem dX5_leading_31 : decode cX5_leading 31 = .ok (.ireturn, 1) := by decide +kernel
theorem dX5_leading_32 : decode cX5_leading 32 = .ok (.iinc 3 1, 3) := by decide +kernel
theorem dX5_leading_35 : decode cX5_leading 35 = .ok (.goto (-33), 3) := by decide +kernel
theorem dX5_leading_38 : decode cX5_leading 38 = .ok (.bipush (-2), 2) := by decide +kernel
theorem dX5_leading_40 : decode cX5_leading 40 = .ok (.ireturn, 1) := by decide +kernel
theorem dX5_beyond_0 : decode cX5_beyond 0 = .ok (.aload_n 0, 1) := by decide +kernel
theorem dX5_beyond_1 : decode cX5_beyond 1 = .ok (.iload_n 1, 1) := by decide +kernel
theorem dX5_beyond_2 : decode cX5_beyond 2 = .ok (.iload_n 2, 1) := by decide +kernel
theorem dX5_beyond_3 : decode cX5_beyond 3 = .ok (.invokevirtual 55, 3) := by decide +kernel
theorem dX5_beyond_6 : decode cX5_beyond 6 = .ok (.istore_n 3, 1) := by decide +kernel
theorem dX5_beyond_7 : decode cX5_beyond 7 = .ok (.iload_n 3, 1) := by decide +kernel
theorem dX5_beyond_8 : decode cX5_beyond 8 = .ok (.ifCond .ge 6, 3) := by decide +kernel
theorem dX5_beyond_11 : decode cX5_beyond 11 = .ok (.bipush (-2), 2) := by decide +kernel
theorem dX5_beyond_13 : decode cX5_beyond 13 = .ok (.ireturn, 1) := by decide +kernel
theorem dX5_beyond_14 : decode cX5_beyond 14 = .ok (.aload_n 0, 1) := by decide +kernel
theorem dX5_beyond_15 : decode cX5_beyond 15 = .ok (.iload_n 3, 1) := by decide +kernel
theorem dX5_beyond_16 : decode cX5_beyond 16 = .ok (.iload_n 1, 1) := by decide +kernel
theorem dX5_beyond_17 : decode cX5_beyond 17 = .ok (.iload_n 2, 1) := by decide +kernel
theorem dX5_beyond_18 : decode cX5_beyond 18 = .ok (.invokevirtual 48, 3) := by decide +kernel
theorem dX5_beyond_21 : decode cX5_beyond 21 = .ok (.ifCond .eq 12, 3) := by decide +kernel
theorem dX5_beyond_24 : decode cX5_beyond 24 = .ok (.aload_n 0, 1) := by decide +kernel
theorem dX5_beyond_25 : decode cX5_beyond 25 = .ok (.getfield 27, 3) := by decide +kernel
theorem dX5_beyond_28 : decode cX5_beyond 28 = .ok (.iload_n 3, 1) := by decide +kernel
theorem dX5_beyond_29 : decode cX5_beyond 29 = .ok (.iaload, 1) := by decide +kernel
theorem dX5_beyond_30 : decode cX5_beyond 30 = .ok (.goto 9, 3) := by decide +kernel
theorem dX5_beyond_33 : decode cX5_beyond 33 = .ok (.aload_n 0, 1) := by decide +kernel
theorem dX5_beyond_34 : decode cX5_beyond 34 = .ok (.getfield 21, 3) := by decide +kernel
theorem dX5_beyond_37 : decode cX5_beyond 37 = .ok (.iload_n 3, 1) := by decide +kernel
theorem dX5_beyond_38 : decode cX5_beyond 38 = .ok (.iaload, 1) := by decide +kernel
theorem dX5_beyond_39 : decode cX5_beyond 39 = .ok (.ireturn, 1) := by decide +kernel
theorem dX5_otherEnd_0 : decode cX5_otherEnd 0 = .ok (.aload_n 0, 1) := by decide +kernel
theorem dX5_otherEnd_1 : decode cX5_otherEnd 1 = .ok (.getfield 21, 3) := by decide +kernel
theorem dX5_otherEnd_4 : decode cX5_otherEnd 4 = .ok (.iload_n 1, 1) := by decide +kernel
theorem dX5_otherEnd_5 : decode cX5_otherEnd 5 = .ok (.iaload, 1) := by decide +kernel
theorem dX5_otherEnd_6 : decode cX5_otherEnd 6 = .ok (.iload_n 2, 1) := by decide +kernel
theorem dX5_otherEnd_7 : decode cX5_otherEnd 7 = .ok (.if_icmp .ne 12, 3) := by decide +kernel
theorem dX5_otherEnd_10 : decode cX5_otherEnd 10 = .ok (.aload_n 0, 1) := by decide +kernel
theorem dX5_otherEnd_11 : decode cX5_otherEnd 11 = .ok (.getfield 27, 3) := by decide +kernel
theorem dX5_otherEnd_14 : decode cX5_otherEnd 14 = .ok (.iload_n 1, 1) := by decide +kernel
theorem dX5_otherEnd_15 : decode cX5_otherEnd 15 = .ok (.iaload, 1) := by decide +kernel
theorem dX5_otherEnd_16 : decode cX5_otherEnd 16 = .ok (.goto 9, 3) := by decide +kernel
theorem dX5_otherEnd_19 : decode cX5_otherEnd 19 = .ok (.aload_n 0, 1) := by decide +kernel
theorem dX5_otherEnd_20 : decode cX5_otherEnd 20 = .ok (.getfield 21, 3) := by decide +kernel
theorem dX5_otherEnd_23 : decode cX5_otherEnd 23 = .ok (.iload_n 1, 1) := by decide +kernel
theorem dX5_otherEnd_24 : decode cX5_otherEnd 24 = .ok (.iaload, 1) := by decide +kernel
theorem dX5_otherEnd_25 : decode cX5_otherEnd 25 = .ok (.ireturn, 1) := by decide +kernel
theorem dX5_firstNotToldApart_0 : decode cX5_firstNotToldApart 0 = .ok (.iconst 0, 1) := by decide +kernel
theorem dX5_firstNotToldApart_1 : decode cX5_firstNotToldApart 1 = .ok (.istore_n 2, 1) := by decide +kernel
theorem dX5_firstNotToldApart_2 : decode cX5_firstNotToldApart 2 = .ok (.iconst 0, 1) := by decide +kernel
theorem dX5_firstNotToldApart_3 : decode cX5_firstNotToldApart 3 = .ok (.istore_n 3, 1) := by decide +kernel
theorem dX5_firstNotToldApart_4 : decode cX5_firstNotToldApart 4 = .ok (.iload_n 3, 1) := by decide +kernel
theorem dX5_firstNotToldApart_5 : decode cX5_firstNotToldApart 5 = .ok (.aload_n 0, 1) := by decide +kernel
theorem dX5_firstNotToldApart_6 : decode cX5_firstNotToldApart 6 = .ok (.getfield 34, 3) := by decide +kernel
theorem dX5_firstNotToldApart_9 : decode cX5_firstNotToldApart 9 = .ok (.if_icmp .ge 57, 3) := by decide +kernel
theorem dX5_firstNotToldApart_12 : decode cX5_firstNotToldApart 12 = .ok (.aload_n 0, 1) := by decide +kernel
theorem dX5_firstNotToldApart_13 : decode cX5_firstNotToldApart 13 = .ok (.getfield 15, 3) := by decide +kernel
theorem dX5_firstNotToldApart_16 : decode cX5_firstNotToldApart 16 = .ok (.iload_n 3, 1) := by decide +kernel
theorem dX5_firstNotToldApart_17 : decode cX5_firstNotToldApart 17 = .ok (.iaload, 1) := by decide +kernel
theorem dX5_firstNotToldApart_18 : decode cX5_firstNotToldApart 18 = .ok (.iload_n 1, 1) := by decide +kernel
theorem dX5_firstNotToldApart_19 : decode cX5_firstNotToldApart 19 = .ok (.if_icmp .ne 41, 3) := by decide +kernel
theorem dX5_firstNotToldApart_22 : decode cX5_firstNotToldApart 22 = .ok (.aload_n 0, 1) := by decide +kernel
theorem dX5_firstNotToldApart_23 : decode cX5_firstNotToldApart 23 = .ok (.getfield 18, 3) := by decide +kernel
theorem dX5_firstNotToldApart_26 : decode cX5_firstNotToldApart 26 = .ok (.iload_n 3, 1) := by decide +kernel
theorem dX5_firstNotToldApart_27 : decode cX5_firstNotToldApart 27 = .ok (.iaload, 1) := by decide +kernel
theorem dX5_firstNotToldApart_28 : decode cX5_firstNotToldApart 28 = .ok (.bipush (-2), 2) := by decide +kernel
theorem dX5_firstNotToldApart_30 : decode cX5_firstNotToldApart 30 = .ok (.if_icmp .eq 17, 3) := by decide +kernel
theorem dX5_firstNotToldApart_33 : decode cX5_firstNotToldApart 33 = .ok (.iload_n 2, 1) := by decide +kernel
theorem dX5_firstNotToldApart_34 : decode cX5_firstNotToldApart 34 = .ok (.aload_n 0, 1) := by decide +kernel
theorem dX5_firstNotToldApart_35 : decode cX5_firstNotToldApart 35 = .ok (.getfield 18, 3) := by decide +kernel
theorem dX5_firstNotToldApart_38 : decode cX5_firstNotToldApart 38 = .ok (.iload_n 3, 1) := by decide +kernel
theorem dX5_firstNotToldApart_39 : decode cX5_firstNotToldApart 39 = .ok (.iaload, 1) := by decide +kernel
theorem dX5_firstNotToldApart_40 : decode cX5_firstNotToldApart 40 = .ok (.ishr, 1) := by decide +kernel
theorem dX5_firstNotToldApart_41 : decode cX5_firstNotToldApart 41 = .ok (.iconst 1, 1) := by decide +kernel
theorem dX5_firstNotToldApart_42 : decode cX5_firstNotToldApart 42 = .ok (.iand, 1) := by decide +kernel
theorem dX5_firstNotToldApart_43 : decode cX5_firstNotToldApart 43 = .ok (.iconst 1, 1) := by decide +kernel
theorem dX5_firstNotToldApart_44 : decode cX5_firstNotToldApart 44 = .ok (.if_icmp .ne 5, 3) := by decide +kernel
theorem dX5_firstNotToldApart_47 : decode cX5_firstNotToldApart 47 = .ok (.iload_n 3, 1) := by decide +kernel
theorem dX5_firstNotToldApart_48 : decode cX5_firstNotToldApart 48 = .ok (.ireturn, 1) := by decide +kernel
theorem dX5_firstNotToldApart_49 : decode cX5_firstNotToldApart 49 = .ok (.iload_n 2, 1) := by decide +kernel
theorem dX5_firstNotToldApart_50 : decode cX5_firstNotToldApart 50 = .ok (.iconst 1, 1) := by decide +kernel
theorem dX5_firstNotToldApart_51 : decode cX5_firstNotToldApart 51 = .ok (.aload_n 0, 1) := by decide +kernel
theorem dX5_firstNotToldApart_52 : decode cX5_firstNotToldApart 52 = .ok (.getfield 18, 3) := by decide +kernel
theorem dX5_firstNotToldApart_55 : decode cX5_firstNotToldApart 55 = .ok (.iload_n 3, 1) := by decide +kernel
theorem dX5_firstNotToldApart_56 : decode cX5_firstNotToldApart 56 = .ok (.iaload, 1) := by decide +kernel
theorem dX5_firstNotToldApart_57 : decode cX5_firstNotToldApart 57 = .ok (.ishl, 1) := by decide +kernel
theorem dX5_firstNotToldApart_58 : decode cX5_firstNotToldApart 58 = .ok (.ior, 1) := by decide +kernel
theorem dX5_firstNotToldApart_59 : decode cX5_firstNotToldApart 59 = .ok (.istore_n 2, 1) := by decide +kernel
theorem dX5_firstNotToldApart_60 : decode cX5_firstNotToldApart 60 = .ok (.iinc 3 1, 3) := by decide +kernel
theorem dX5_firstNotToldApart_63 : decode cX5_firstNotToldApart 63 = .ok (.goto (-59), 3) := by decide +kernel
theorem dX5_firstNotToldApart_66 : decode cX5_firstNotToldApart 66 = .ok (.bipush (-2), 2) := by decide +kernel
theorem dX5_firstNotToldApart_68 : decode cX5_firstNotToldApart 68 = .ok (.ireturn, 1) := by decide +kernel
theorem dX5_leadsForth_0 : decode cX5_leadsForth 0 = .ok (.aload_n 0, 1) := by decide +kernel
theorem dX5_leadsForth_1 : decode cX5_leadsForth 1 = .ok (.getfield 21, 3) := by decide +kernel
theorem dX5_leadsForth_4 : decode cX5_leadsForth 4 = .ok (.iload_n 1, 1) := by decide +kernel
theorem dX5_leadsForth_5 : decode cX5_leadsForth 5 = .ok (.iaload, 1) := by decide +kernel
theorem dX5_leadsForth_6 : decode cX5_leadsForth 6 = .ok (.iload_n 2, 1) := by decide +kernel
theorem dX5_leadsForth_7 : decode cX5_leadsForth 7 = .ok (.if_icmp .ne 17, 3) := by decide +kernel
theorem dX5_leadsForth_10 : decode cX5_leadsForth 10 = .ok (.aload_n 0, 1) := by decide +kernel
theorem dX5_leadsForth_11 : decode cX5_leadsForth 11 = .ok (.getfield 24, 3) := by decide +kernel
theorem dX5_leadsForth_14 : decode cX5_leadsForth 14 = .ok (.iload_n 1, 1) := by decide +kernel
theorem dX5_leadsForth_15 : decode cX5_leadsForth 15 = .ok (.iaload, 1) := by decide +kernel
theorem dX5_leadsForth_16 : decode cX5_leadsForth 16 = .ok (.iload_n 3, 1) := by decide +kernel
theorem dX5_leadsForth_17 : decode cX5_leadsForth 17 = .ok (.if_icmp .ne 7, 3) := by decide +kernel
theorem dX5_leadsForth_20 : decode cX5_leadsForth 20 = .ok (.iconst 1, 1) := by decide +kernel
theorem dX5_leadsForth_21 : decode cX5_leadsForth 21 = .ok (.goto 4, 3) := by decide +kernel
theorem dX5_leadsForth_24 : decode cX5_leadsForth 24 = .ok (.iconst 0, 1) := by decide +kernel
theorem dX5_leadsForth_25 : decode cX5_leadsForth 25 = .ok (.ireturn, 1) := by decide +kernel
theorem dX5_leadsBack_0 : decode cX5_leadsBack 0 = .ok (.aload_n 0, 1) := by decide +kernel
theorem dX5_leadsBack_1 : decode cX5_leadsBack 1 = .ok (.getfield 30, 3) := by decide +kernel
theorem dX5_leadsBack_4 : decode cX5_leadsBack 4 = .ok (.iload_n 1, 1) := by decide +kernel
theorem dX5_leadsBack_5 : decode cX5_leadsBack 5 = .ok (.baload, 1) := by decide +kernel
theorem dX5_leadsBack_6 : decode cX5_leadsBack 6 = .ok (.ifCond .eq 31, 3) := by decide +kernel
theorem dX5_leadsBack_9 : decode cX5_leadsBack 9 = .ok (.aload_n 0, 1) := by decide +kernel
theorem dX5_leadsBack_10 : decode cX5_leadsBack 10 = .ok (.getfield 27, 3) := by decide +kernel
theorem dX5_leadsBack_13 : decode cX5_leadsBack 13 = .ok (.iload_n 1, 1) := by decide +kernel
theorem dX5_leadsBack_14 : decode cX5_leadsBack 14 = .ok (.iaload, 1) := by decide +kernel
theorem dX5_leadsBack_15 : decode cX5_leadsBack 15 = .ok (.iload_n 2, 1) := by decide +kernel
theorem dX5_leadsBack_16 : decode cX5_leadsBack 16 = .ok (.if_icmp .ne 21, 3) := by decide +kernel
theorem dX5_leadsBack_19 : decode cX5_leadsBack 19 = .ok (.getstatic 59, 3) := by decide +kernel
theorem dX5_leadsBack_22 : decode cX5_leadsBack 22 = .ok (.aload_n 0, 1) := by decide +kernel
theorem dX5_leadsBack_23 : decode cX5_leadsBack 23 = .ok (.getfield 24, 3) := by decide +kernel
theorem dX5_leadsBack_26 : decode cX5_leadsBack 26 = .ok (.iload_n 1, 1) := by decide +kernel
theorem dX5_leadsBack_27 : decode cX5_leadsBack 27 = .ok (.iaload, 1) := by decide +kernel
theorem dX5_leadsBack_28 : decode cX5_leadsBack 28 = .ok (.iaload, 1) := by decide +kernel
theorem dX5_leadsBack_29 : decode cX5_leadsBack 29 = .ok (.iload_n 3, 1) := by decide +kernel
theorem dX5_leadsBack_30 : decode cX5_leadsBack 30 = .ok (.if_icmp .ne 7, 3) := by decide +kernel
theorem dX5_leadsBack_33 : decode cX5_leadsBack 33 = .ok (.iconst 1, 1) := by decide +kernel
theorem dX5_leadsBack_34 : decode cX5_leadsBack 34 = .ok (.goto 4, 3) := by decide +kernel
theorem dX5_leadsBack_37 : decode cX5_leadsBack 37 = .ok (.iconst 0, 1) := by decide +kernel
theorem dX5_leadsBack_38 : decode cX5_leadsBack 38 = .ok (.ireturn, 1) := by decide +kernel
theorem dX1_init_0 : decode cX1_init 0 = .ok (.aload_n 0, 1) := by decide +kernel
theorem dX1_init_1 : decode cX1_init 1 = .ok (.invokespecial 3, 3) := by decide +kernel
theorem dX1_init_4 : decode cX1_init 4 = .ok (.aload_n 0, 1) := by decide +kernel
theorem dX1_init_5 : decode cX1_init 5 = .ok (.bipush 24, 2) := by decide +kernel
theorem dX1_init_7 : decode cX1_init 7 = .ok (.newarray .int, 2) := by decide +kernel
theorem dX1_init_9 : decode cX1_init 9 = .ok (.putfield 9, 3) := by decide +kernel
theorem dX1_init_12 : decode cX1_init 12 = .ok (.return_, 1) := by decide +kernel
theorem dX1_find_0 : decode cX1_find 0 = .ok (.iconst 0, 1) := by decide +kernel
theorem dX1_find_1 : decode cX1_find 1 = .ok (.istore_n 2, 1) := by decide +kernel
theorem dX1_find_2 : decode cX1_find 2 = .ok (.iload_n 2, 1) := by decide +kernel
theorem dX1_find_3 : decode cX1_find 3 = .ok (.aload_n 1, 1) := by decide +kernel
theorem dX1_find_4 : decode cX1_find 4 = .ok (.getfield 15, 3) := by decide +kernel
theorem dX1_find_7 : decode cX1_find 7 = .ok (.if_icmp .ge 16, 3) := by decide +kernel
theorem dX1_find_10 : decode cX1_find 10 = .ok (.aload_n 0, 1) := by decide +kernel
theorem dX1_find_11 : decode cX1_find 11 = .ok (.getfield 9, 3) := by decide +kernel
theorem dX1_find_14 : decode cX1_find 14 = .ok (.iload_n 2, 1) := by decide +kernel
theorem dX1_find_15 : decode cX1_find 15 = .ok (.iload_n 2, 1) := by decide +kernel
theorem dX1_find_16 : decode cX1_find 16 = .ok (.iastore, 1) := by decide +kernel
theorem dX1_find_17 : decode cX1_find 17 = .ok (.iinc 2 1, 3) := by decide +kernel
theorem dX1_find_20 : decode cX1_find 20 = .ok (.goto (-18), 3) := by decide +kernel
theorem dX1_find_23 : decode cX1_find 23 = .ok (.iconst 1, 1) := by decide +kernel
theorem dX1_find_24 : decode cX1_find 24 = .ok (.istore_n 2, 1) := by decide +kernel
theorem dX1_find_25 : decode cX1_find 25 = .ok (.iconst 0, 1) := by decide +kernel
theorem dX1_find_26 : decode cX1_find 26 = .ok (.istore_n 3, 1) := by decide +kernel
theorem dX1_find_27 : decode cX1_find 27 = .ok (.iload_n 3, 1) := by decide +kernel
theorem dX1_find_28 : decode cX1_find 28 = .ok (.aload_n 1, 1) := by decide +kernel
theorem dX1_find_29 : decode cX1_find 29 = .ok (.getfield 15, 3) := by decide +kernel
theorem dX1_find_32 : decode cX1_find 32 = .ok (.if_icmp .ge 19, 3) := by decide +kernel
theorem dX1_find_35 : decode cX1_find 35 = .ok (.iload_n 2, 1) := by decide +kernel
theorem dX1_find_36 : decode cX1_find 36 = .ok (.ifCond .eq 15, 3) := by decide +kernel
theorem dX1_find_39 : decode cX1_find 39 = .ok (.aload_n 0, 1) := by decide +kernel
theorem dX1_find_40 : decode cX1_find 40 = .ok (.aload_n 1, 1) := by decide +kernel
theorem dX1_find_41 : decode cX1_find 41 = .ok (.invokevirtual 21, 3) := by decide +kernel
theorem dX1_find_44 : decode cX1_find 44 = .ok (.istore_n 2, 1) := by decide +kernel
theorem dX1_find_45 : decode cX1_find 45 = .ok (.iinc 3 1, 3) := by decide +kernel
theorem dX1_find_48 : decode cX1_find 48 = .ok (.goto (-21), 3) := by decide +kernel
theorem dX1_find_51 : decode cX1_find 51 = .ok (.aload_n 0, 1) := by decide +kernel
theorem dX1_find_52 : decode cX1_find 52 = .ok (.aload_n 1, 1) := by decide +kernel
theorem dX1_find_53 : decode cX1_find 53 = .ok (.getfield 15, 3) := by decide +kernel
theorem dX1_find_56 : decode cX1_find 56 = .ok (.invokevirtual 25, 3) := by decide +kernel
theorem dX1_find_59 : decode cX1_find 59 = .ok (.ireturn, 1) := by decide +kernel
theorem dX1_sinkToLeastRooms_0 : decode cX1_sinkToLeastRooms 0 = .ok (.iconst 0, 1) := by decide +kernel
theorem dX1_sinkToLeastRooms_1 : decode cX1_sinkToLeastRooms 1 = .ok (.istore_n 2, 1) := by decide +kernel
theorem dX1_sinkToLeastRooms_2 : decode cX1_sinkToLeastRooms 2 = .ok (.iconst 0, 1) := by decide +kernel
theorem dX1_sinkToLeastRooms_3 : decode cX1_sinkToLeastRooms 3 = .ok (.istore_n 3, 1) := by decide +kernel
theorem dX1_sinkToLeastRooms_4 : decode cX1_sinkToLeastRooms 4 = .ok (.iload_n 3, 1) := by decide +kernel
theorem dX1_sinkToLeastRooms_5 : decode cX1_sinkToLeastRooms 5 = .ok (.aload_n 1, 1) := by decide +kernel
theorem dX1_sinkToLeastRooms_6 : decode cX1_sinkToLeastRooms 6 = .ok (.getfield 29, 3) := by decide +kernel
theorem dX1_sinkToLeastRooms_9 : decode cX1_sinkToLeastRooms 9 = .ok (.if_icmp .ge 82, 3) := by decide +kernel
theorem dX1_sinkToLeastRooms_12 : decode cX1_sinkToLeastRooms 12 = .ok (.aload_n 1, 1) := by decide +kernel
theorem dX1_sinkToLeastRooms_13 : decode cX1_sinkToLeastRooms 13 = .ok (.getfield 32, 3) := by decide +kernel
theorem dX1_sinkToLeastRooms_16 : decode cX1_sinkToLeastRooms 16 = .ok (.iload_n 3, 1) := by decide +kernel
theorem dX1_sinkToLeastRooms_17 : decode cX1_sinkToLeastRooms 17 = .ok (.iaload, 1) := by decide +kernel
theorem dX1_sinkToLeastRooms_18 : decode cX1_sinkToLeastRooms 18 = .ok (.istore 4, 2) := by decide +kernel
theorem dX1_sinkToLeastRooms_20 : decode cX1_sinkToLeastRooms 20 = .ok (.aload_n 1, 1) := by decide +kernel
theorem dX1_sinkToLeastRooms_21 : decode cX1_sinkToLeastRooms 21 = .ok (.getfield 35, 3) := by decide +kernel
theorem dX1_sinkToLeastRooms_24 : decode cX1_sinkToLeastRooms 24 = .ok (.iload_n 3, 1) := by decide +kernel
theorem dX1_sinkToLeastRooms_25 : decode cX1_sinkToLeastRooms 25 = .ok (.iaload, 1) := by decide +kernel
theorem dX1_sinkToLeastRooms_26 : decode cX1_sinkToLeastRooms 26 = .ok (.istore 5, 2) := by decide +kernel
theorem dX1_sinkToLeastRooms_28 : decode cX1_sinkToLeastRooms 28 = .ok (.aload_n 0, 1) := by decide +kernel
theorem dX1_sinkToLeastRooms_29 : decode cX1_sinkToLeastRooms 29 = .ok (.getfield 9, 3) := by decide +kernel
theorem dX1_sinkToLeastRooms_32 : decode cX1_sinkToLeastRooms 32 = .ok (.iload 4, 2) := by decide +kernel
theorem dX1_sinkToLeastRooms_34 : decode cX1_sinkToLeastRooms 34 = .ok (.iaload, 1) := by decide +kernel
theorem dX1_sinkToLeastRooms_35 : decode cX1_sinkToLeastRooms 35 = .ok (.aload_n 0, 1) := by decide +kernel
theorem dX1_sinkToLeastRooms_36 : decode cX1_sinkToLeastRooms 36 = .ok (.getfield 9, 3) := by decide +kernel
theorem dX1_sinkToLeastRooms_39 : decode cX1_sinkToLeastRooms 39 = .ok (.iload 5, 2) := by decide +kernel
theorem dX1_sinkToLeastRooms_41 : decode cX1_sinkToLeastRooms 41 = .ok (.iaload, 1) := by decide +kernel
theorem dX1_sinkToLeastRooms_42 : decode cX1_sinkToLeastRooms 42 = .ok (.if_icmp .eq 43, 3) := by decide +kernel
theorem dX1_sinkToLeastRooms_45 : decode cX1_sinkToLeastRooms 45 = .ok (.aload_n 0, 1) := by decide +kernel
theorem dX1_sinkToLeastRooms_46 : decode cX1_sinkToLeastRooms 46 = .ok (.getfield 9, 3) := by decide +kernel
theorem dX1_sinkToLeastRooms_49 : decode cX1_sinkToLeastRooms 49 = .ok (.iload 4, 2) := by decide +kernel
theorem dX1_sinkToLeastRooms_51 : decode cX1_sinkToLeastRooms 51 = .ok (.aload_n 0, 1) := by decide +kernel
theorem dX1_sinkToLeastRooms_52 : decode cX1_sinkToLeastRooms 52 = .ok (.getfield 9, 3) := by decide +kernel
theorem dX1_sinkToLeastRooms_55 : decode cX1_sinkToLeastRooms 55 = .ok (.iload 4, 2) := by decide +kernel
theorem dX1_sinkToLeastRooms_57 : decode cX1_sinkToLeastRooms 57 = .ok (.iaload, 1) := by decide +kernel
theorem dX1_sinkToLeastRooms_58 : decode cX1_sinkToLeastRooms 58 = .ok (.aload_n 0, 1) := by decide +kernel
theorem dX1_sinkToLeastRooms_59 : decode cX1_sinkToLeastRooms 59 = .ok (.getfield 9, 3) := by decide +kernel
theorem dX1_sinkToLeastRooms_62 : decode cX1_sinkToLeastRooms 62 = .ok (.iload 5, 2) := by decide +kernel
theorem dX1_sinkToLeastRooms_64 : decode cX1_sinkToLeastRooms 64 = .ok (.iaload, 1) := by decide +kernel
theorem dX1_sinkToLeastRooms_65 : decode cX1_sinkToLeastRooms 65 = .ok (.invokestatic 38, 3) := by decide +kernel
theorem dX1_sinkToLeastRooms_68 : decode cX1_sinkToLeastRooms 68 = .ok (.iastore, 1) := by decide +kernel
theorem dX1_sinkToLeastRooms_69 : decode cX1_sinkToLeastRooms 69 = .ok (.aload_n 0, 1) := by decide +kernel
theorem dX1_sinkToLeastRooms_70 : decode cX1_sinkToLeastRooms 70 = .ok (.getfield 9, 3) := by decide +kernel
theorem dX1_sinkToLeastRooms_73 : decode cX1_sinkToLeastRooms 73 = .ok (.iload 5, 2) := by decide +kernel
theorem dX1_sinkToLeastRooms_75 : decode cX1_sinkToLeastRooms 75 = .ok (.aload_n 0, 1) := by decide +kernel
theorem dX1_sinkToLeastRooms_76 : decode cX1_sinkToLeastRooms 76 = .ok (.getfield 9, 3) := by decide +kernel
theorem dX1_sinkToLeastRooms_79 : decode cX1_sinkToLeastRooms 79 = .ok (.iload 4, 2) := by decide +kernel
theorem dX1_sinkToLeastRooms_81 : decode cX1_sinkToLeastRooms 81 = .ok (.iaload, 1) := by decide +kernel
theorem dX1_sinkToLeastRooms_82 : decode cX1_sinkToLeastRooms 82 = .ok (.iastore, 1) := by decide +kernel
theorem dX1_sinkToLeastRooms_83 : decode cX1_sinkToLeastRooms 83 = .ok (.iconst 1, 1) := by decide +kernel
theorem dX1_sinkToLeastRooms_84 : decode cX1_sinkToLeastRooms 84 = .ok (.istore_n 2, 1) := by decide +kernel
theorem dX1_sinkToLeastRooms_85 : decode cX1_sinkToLeastRooms 85 = .ok (.iinc 3 1, 3) := by decide +kernel
theorem dX1_sinkToLeastRooms_88 : decode cX1_sinkToLeastRooms 88 = .ok (.goto (-84), 3) := by decide +kernel
theorem dX1_sinkToLeastRooms_91 : decode cX1_sinkToLeastRooms 91 = .ok (.iload_n 2, 1) := by decide +kernel
theorem dX1_sinkToLeastRooms_92 : decode cX1_sinkToLeastRooms 92 = .ok (.ireturn, 1) := by decide +kernel
theorem dX1_countUp_0 : decode cX1_countUp 0 = .ok (.iconst 0, 1) := by decide +kernel
theorem dX1_countUp_1 : decode cX1_countUp 1 = .ok (.istore_n 2, 1) := by decide +kernel
theorem dX1_countUp_2 : decode cX1_countUp 2 = .ok (.iconst 0, 1) := by decide +kernel
theorem dX1_countUp_3 : decode cX1_countUp 3 = .ok (.istore_n 3, 1) := by decide +kernel
theorem dX1_countUp_4 : decode cX1_countUp 4 = .ok (.iload_n 3, 1) := by decide +kernel
theorem dX1_countUp_5 : decode cX1_countUp 5 = .ok (.iload_n 1, 1) := by decide +kernel
theorem dX1_countUp_6 : decode cX1_countUp 6 = .ok (.if_icmp .ge 43, 3) := by decide +kernel
theorem dX1_countUp_9 : decode cX1_countUp 9 = .ok (.aload_n 0, 1) := by decide +kernel
theorem dX1_countUp_10 : decode cX1_countUp 10 = .ok (.getfield 9, 3) := by decide +kernel
theorem dX1_countUp_13 : decode cX1_countUp 13 = .ok (.iload_n 3, 1) := by decide +kernel
theorem dX1_countUp_14 : decode cX1_countUp 14 = .ok (.aload_n 0, 1) := by decide +kernel
theorem dX1_countUp_15 : decode cX1_countUp 15 = .ok (.getfield 9, 3) := by decide +kernel
theorem dX1_countUp_18 : decode cX1_countUp 18 = .ok (.iload_n 3, 1) := by decide +kernel
theorem dX1_countUp_19 : decode cX1_countUp 19 = .ok (.iaload, 1) := by decide +kernel
theorem dX1_countUp_20 : decode cX1_countUp 20 = .ok (.iload_n 3, 1) := by decide +kernel
theorem dX1_countUp_21 : decode cX1_countUp 21 = .ok (.if_icmp .ne 10, 3) := by decide +kernel
theorem dX1_countUp_24 : decode cX1_countUp 24 = .ok (.iload_n 2, 1) := by decide +kernel
theorem dX1_countUp_25 : decode cX1_countUp 25 = .ok (.iinc 2 1, 3) := by decide +kernel
theorem dX1_countUp_28 : decode cX1_countUp 28 = .ok (.goto 14, 3) := by decide +kernel
theorem dX1_countUp_31 : decode cX1_countUp 31 = .ok (.aload_n 0, 1) := by decide +kernel
theorem dX1_countUp_32 : decode cX1_countUp 32 = .ok (.getfield 9, 3) := by decide +kernel
theorem dX1_countUp_35 : decode cX1_countUp 35 = .ok (.aload_n 0, 1) := by decide +kernel
theorem dX1_countUp_36 : decode cX1_countUp 36 = .ok (.getfield 9, 3) := by decide +kernel
theorem dX1_countUp_39 : decode cX1_countUp 39 = .ok (.iload_n 3, 1) := by decide +kernel
theorem dX1_countUp_40 : decode cX1_countUp 40 = .ok (.iaload, 1) := by decide +kernel
theorem dX1_countUp_41 : decode cX1_countUp 41 = .ok (.iaload, 1) := by decide +kernel
theorem dX1_countUp_42 : decode cX1_countUp 42 = .ok (.iastore, 1) := by decide +kernel
theorem dX1_countUp_43 : decode cX1_countUp 43 = .ok (.iinc 3 1, 3) := by decide +kernel
theorem dX1_countUp_46 : decode cX1_countUp 46 = .ok (.goto (-42), 3) := by decide +kernel
theorem dX1_countUp_49 : decode cX1_countUp 49 = .ok (.iload_n 2, 1) := by decide +kernel
theorem dX1_countUp_50 : decode cX1_countUp 50 = .ok (.ireturn, 1) := by decide +kernel
theorem dX2_init_0 : decode cX2_init 0 = .ok (.aload_n 0, 1) := by decide +kernel
theorem dX2_init_1 : decode cX2_init 1 = .ok (.invokespecial 5, 3) := by decide +kernel
theorem dX2_init_4 : decode cX2_init 4 = .ok (.aload_n 0, 1) := by decide +kernel
theorem dX2_init_5 : decode cX2_init 5 = .ok (.bipush 24, 2) := by decide +kernel
theorem dX2_init_7 : decode cX2_init 7 = .ok (.newarray .int, 2) := by decide +kernel
theorem dX2_init_9 : decode cX2_init 9 = .ok (.putfield 11, 3) := by decide +kernel
theorem dX2_init_12 : decode cX2_init 12 = .ok (.aload_n 0, 1) := by decide +kernel
theorem dX2_init_13 : decode cX2_init 13 = .ok (.bipush 24, 2) := by decide +kernel
theorem dX2_init_15 : decode cX2_init 15 = .ok (.newarray .int, 2) := by decide +kernel
theorem dX2_init_17 : decode cX2_init 17 = .ok (.putfield 15, 3) := by decide +kernel
theorem dX2_init_20 : decode cX2_init 20 = .ok (.aload_n 0, 1) := by decide +kernel
theorem dX2_init_21 : decode cX2_init 21 = .ok (.bipush 24, 2) := by decide +kernel
theorem dX2_init_23 : decode cX2_init 23 = .ok (.newarray .int, 2) := by decide +kernel
theorem dX2_init_25 : decode cX2_init 25 = .ok (.putfield 18, 3) := by decide +kernel
theorem dX2_init_28 : decode cX2_init 28 = .ok (.aload_n 0, 1) := by decide +kernel
theorem dX2_init_29 : decode cX2_init 29 = .ok (.bipush 24, 2) := by decide +kernel
theorem dX2_init_31 : decode cX2_init 31 = .ok (.newarray .boolean, 2) := by decide +kernel
theorem dX2_init_33 : decode cX2_init 33 = .ok (.putfield 21, 3) := by decide +kernel
theorem dX2_init_36 : decode cX2_init 36 = .ok (.aload_n 0, 1) := by decide +kernel
theorem dX2_init_37 : decode cX2_init 37 = .ok (.aload_n 1, 1) := by decide +kernel
theorem dX2_init_38 : decode cX2_init 38 = .ok (.putfield 25, 3) := by decide +kernel
theorem dX2_init_41 : decode cX2_init 41 = .ok (.return_, 1) := by decide +kernel
theorem dX2_clear_0 : decode cX2_clear 0 = .ok (.iconst 0, 1) := by decide +kernel
theorem dX2_clear_1 : decode cX2_clear 1 = .ok (.istore_n 1, 1) := by decide +kernel
theorem dX2_clear_2 : decode cX2_clear 2 = .ok (.iload_n 1, 1) := by decide +kernel
theorem dX2_clear_3 : decode cX2_clear 3 = .ok (.aload_n 0, 1) := by decide +kernel
theorem dX2_clear_4 : decode cX2_clear 4 = .ok (.getfield 25, 3) := by decide +kernel
theorem dX2_clear_7 : decode cX2_clear 7 = .ok (.getfield 29, 3) := by decide +kernel
theorem dX2_clear_10 : decode cX2_clear 10 = .ok (.if_icmp .ge 16, 3) := by decide +kernel
theorem dX2_clear_13 : decode cX2_clear 13 = .ok (.aload_n 0, 1) := by decide +kernel
theorem dX2_clear_14 : decode cX2_clear 14 = .ok (.getfield 21, 3) := by decide +kernel
theorem dX2_clear_17 : decode cX2_clear 17 = .ok (.iload_n 1, 1) := by decide +kernel
theorem dX2_clear_18 : decode cX2_clear 18 = .ok (.iconst 0, 1) := by decide +kernel
theorem dX2_clear_19 : decode cX2_clear 19 = .ok (.bastore, 1) := by decide +kernel
theorem dX2_clear_20 : decode cX2_clear 20 = .ok (.iinc 1 1, 3) := by decide +kernel
theorem dX2_clear_23 : decode cX2_clear 23 = .ok (.goto (-21), 3) := by decide +kernel
theorem dX2_clear_26 : decode cX2_clear 26 = .ok (.return_, 1) := by decide +kernel
theorem dX2_put_0 : decode cX2_put 0 = .ok (.aload_n 0, 1) := by decide +kernel
theorem dX2_put_1 : decode cX2_put 1 = .ok (.getfield 11, 3) := by decide +kernel
theorem dX2_put_4 : decode cX2_put 4 = .ok (.iload_n 1, 1) := by decide +kernel
theorem dX2_put_5 : decode cX2_put 5 = .ok (.iload_n 2, 1) := by decide +kernel
theorem dX2_put_6 : decode cX2_put 6 = .ok (.iastore, 1) := by decide +kernel
theorem dX2_put_7 : decode cX2_put 7 = .ok (.aload_n 0, 1) := by decide +kernel
theorem dX2_put_8 : decode cX2_put 8 = .ok (.getfield 15, 3) := by decide +kernel
theorem dX2_put_11 : decode cX2_put 11 = .ok (.iload_n 1, 1) := by decide +kernel
theorem dX2_put_12 : decode cX2_put 12 = .ok (.iload_n 3, 1) := by decide +kernel
theorem dX2_put_13 : decode cX2_put 13 = .ok (.iastore, 1) := by decide +kernel
theorem dX2_put_14 : decode cX2_put 14 = .ok (.aload_n 0, 1) := by decide +kernel
theorem dX2_put_15 : decode cX2_put 15 = .ok (.getfield 18, 3) := by decide +kernel
theorem dX2_put_18 : decode cX2_put 18 = .ok (.iload_n 1, 1) := by decide +kernel
theorem dX2_put_19 : decode cX2_put 19 = .ok (.iload 4, 2) := by decide +kernel
theorem dX2_put_21 : decode cX2_put 21 = .ok (.iastore, 1) := by decide +kernel
theorem dX2_put_22 : decode cX2_put 22 = .ok (.aload_n 0, 1) := by decide +kernel
theorem dX2_put_23 : decode cX2_put 23 = .ok (.getfield 21, 3) := by decide +kernel
theorem dX2_put_26 : decode cX2_put 26 = .ok (.iload_n 1, 1) := by decide +kernel
theorem dX2_put_27 : decode cX2_put 27 = .ok (.iconst 1, 1) := by decide +kernel
theorem dX2_put_28 : decode cX2_put 28 = .ok (.bastore, 1) := by decide +kernel
theorem dX2_put_29 : decode cX2_put 29 = .ok (.return_, 1) := by decide +kernel
theorem dX2_lift_0 : decode cX2_lift 0 = .ok (.aload_n 0, 1) := by decide +kernel
theorem dX2_lift_1 : decode cX2_lift 1 = .ok (.getfield 21, 3) := by decide +kernel
theorem dX2_lift_4 : decode cX2_lift 4 = .ok (.iload_n 1, 1) := by decide +kernel
theorem dX2_lift_5 : decode cX2_lift 5 = .ok (.iconst 0, 1) := by decide +kernel
theorem dX2_lift_6 : decode cX2_lift 6 = .ok (.bastore, 1) := by decide +kernel
theorem dX2_lift_7 : decode cX2_lift 7 = .ok (.return_, 1) := by decide +kernel
theorem dX2_isFree_0 : decode cX2_isFree 0 = .ok (.iconst 0, 1) := by decide +kernel
theorem dX2_isFree_1 : decode cX2_isFree 1 = .ok (.istore 4, 2) := by decide +kernel
theorem dX2_isFree_3 : decode cX2_isFree 3 = .ok (.iload 4, 2) := by decide +kernel
theorem dX2_isFree_5 : decode cX2_isFree 5 = .ok (.aload_n 0, 1) := by decide +kernel
theorem dX2_isFree_6 : decode cX2_isFree 6 = .ok (.getfield 25, 3) := by decide +kernel
theorem dX2_isFree_9 : decode cX2_isFree 9 = .ok (.getfield 29, 3) := by decide +kernel
theorem dX2_isFree_12 : decode cX2_isFree 12 = .ok (.if_icmp .ge 54, 3) := by decide +kernel
theorem dX2_isFree_15 : decode cX2_isFree 15 = .ok (.aload_n 0, 1) := by decide +kernel
theorem dX2_isFree_16 : decode cX2_isFree 16 = .ok (.getfield 21, 3) := by decide +kernel
theorem dX2_isFree_19 : decode cX2_isFree 19 = .ok (.iload 4, 2) := by decide +kernel
theorem dX2_isFree_21 : decode cX2_isFree 21 = .ok (.baload, 1) := by decide +kernel
theorem dX2_isFree_22 : decode cX2_isFree 22 = .ok (.ifCond .eq 38, 3) := by decide +kernel
theorem dX2_isFree_25 : decode cX2_isFree 25 = .ok (.aload_n 0, 1) := by decide +kernel
theorem dX2_isFree_26 : decode cX2_isFree 26 = .ok (.getfield 11, 3) := by decide +kernel
theorem dX2_isFree_29 : decode cX2_isFree 29 = .ok (.iload 4, 2) := by decide +kernel
theorem dX2_isFree_31 : decode cX2_isFree 31 = .ok (.iaload, 1) := by decide +kernel
theorem dX2_isFree_32 : decode cX2_isFree 32 = .ok (.iload_n 1, 1) := by decide +kernel
theorem dX2_isFree_33 : decode cX2_isFree 33 = .ok (.if_icmp .ne 27, 3) := by decide +kernel
theorem dX2_isFree_36 : decode cX2_isFree 36 = .ok (.aload_n 0, 1) := by decide +kernel
theorem dX2_isFree_37 : decode cX2_isFree 37 = .ok (.getfield 15, 3) := by decide +kernel
theorem dX2_isFree_40 : decode cX2_isFree 40 = .ok (.iload 4, 2) := by decide +kernel
theorem dX2_isFree_42 : decode cX2_isFree 42 = .ok (.iaload, 1) := by decide +kernel
theorem dX2_isFree_43 : decode cX2_isFree 43 = .ok (.iload_n 2, 1) := by decide +kernel
theorem dX2_isFree_44 : decode cX2_isFree 44 = .ok (.if_icmp .ne 16, 3) := by decide +kernel
theorem dX2_isFree_47 : decode cX2_isFree 47 = .ok (.aload_n 0, 1) := by decide +kernel
theorem dX2_isFree_48 : decode cX2_isFree 48 = .ok (.getfield 18, 3) := by decide +kernel
theorem dX2_isFree_51 : decode cX2_isFree 51 = .ok (.iload 4, 2) := by decide +kernel
theorem dX2_isFree_53 : decode cX2_isFree 53 = .ok (.iaload, 1) := by decide +kernel
theorem dX2_isFree_54 : decode cX2_isFree 54 = .ok (.iload_n 3, 1) := by decide +kernel
theorem dX2_isFree_55 : decode cX2_isFree 55 = .ok (.if_icmp .ne 5, 3) := by decide +kernel
theorem dX2_isFree_58 : decode cX2_isFree 58 = .ok (.iconst 0, 1) := by decide +kernel
theorem dX2_isFree_59 : decode cX2_isFree 59 = .ok (.ireturn, 1) := by decide +kernel
theorem dX2_isFree_60 : decode cX2_isFree 60 = .ok (.iinc 4 1, 3) := by decide +kernel
theorem dX2_isFree_63 : decode cX2_isFree 63 = .ok (.goto (-60), 3) := by decide +kernel
theorem dX2_isFree_66 : decode cX2_isFree 66 = .ok (.iconst 1, 1) := by decide +kernel
theorem dX2_isFree_67 : decode cX2_isFree 67 = .ok (.ireturn, 1) := by decide +kernel
theorem dX2_hasBothEnds_0 : decode cX2_hasBothEnds 0 = .ok (.aload_n 0, 1) := by decide +kernel
theorem dX2_hasBothEnds_1 : decode cX2_hasBothEnds 1 = .ok (.getfield 21, 3) := by decide +kernel
theorem dX2_hasBothEnds_4 : decode cX2_hasBothEnds 4 = .ok (.aload_n 0, 1) := by decide +kernel
theorem dX2_hasBothEnds_5 : decode cX2_hasBothEnds 5 = .ok (.getfield 25, 3) := by decide +kernel
theorem dX2_hasBothEnds_8 : decode cX2_hasBothEnds 8 = .ok (.getfield 35, 3) := by decide +kernel
theorem dX2_hasBothEnds_11 : decode cX2_hasBothEnds 11 = .ok (.iload_n 1, 1) := by decide +kernel
theorem dX2_hasBothEnds_12 : decode cX2_hasBothEnds 12 = .ok (.iaload, 1) := by decide +kernel
theorem dX2_hasBothEnds_13 : decode cX2_hasBothEnds 13 = .ok (.baload, 1) := by decide +kernel
theorem dX2_hasBothEnds_14 : decode cX2_hasBothEnds 14 = .ok (.ifCond .eq 24, 3) := by decide +kernel
theorem dX2_hasBothEnds_17 : decode cX2_hasBothEnds 17 = .ok (.aload_n 0, 1) := by decide +kernel
theorem dX2_hasBothEnds_18 : decode cX2_hasBothEnds 18 = .ok (.getfield 21, 3) := by decide +kernel
theorem dX2_hasBothEnds_21 : decode cX2_hasBothEnds 21 = .ok (.aload_n 0, 1) := by decide +kernel
theorem dX2_hasBothEnds_22 : decode cX2_hasBothEnds 22 = .ok (.getfield 25, 3) := by decide +kernel
theorem dX2_hasBothEnds_25 : decode cX2_hasBothEnds 25 = .ok (.getfield 38, 3) := by decide +kernel
theorem dX2_hasBothEnds_28 : decode cX2_hasBothEnds 28 = .ok (.iload_n 1, 1) := by decide +kernel
theorem dX2_hasBothEnds_29 : decode cX2_hasBothEnds 29 = .ok (.iaload, 1) := by decide +kernel
theorem dX2_hasBothEnds_30 : decode cX2_hasBothEnds 30 = .ok (.baload, 1) := by decide +kernel
theorem dX2_hasBothEnds_31 : decode cX2_hasBothEnds 31 = .ok (.ifCond .eq 7, 3) := by decide +kernel
theorem dX2_hasBothEnds_34 : decode cX2_hasBothEnds 34 = .ok (.iconst 1, 1) := by decide +kernel
theorem dX2_hasBothEnds_35 : decode cX2_hasBothEnds 35 = .ok (.goto 4, 3) := by decide +kernel
theorem dX2_hasBothEnds_38 : decode cX2_hasBothEnds 38 = .ok (.iconst 0, 1) := by decide +kernel
theorem dX2_hasBothEnds_39 : decode cX2_hasBothEnds 39 = .ok (.ireturn, 1) := by decide +kernel
theorem dX2_straightLength_0 : decode cX2_straightLength 0 = .ok (.aload_n 0, 1) := by decide +kernel
theorem dX2_straightLength_1 : decode cX2_straightLength 1 = .ok (.getfield 25, 3) := by decide +kernel
theorem dX2_straightLength_4 : decode cX2_straightLength 4 = .ok (.getfield 35, 3) := by decide +kernel
theorem dX2_straightLength_7 : decode cX2_straightLength 7 = .ok (.iload_n 1, 1) := by decide +kernel
theorem dX2_straightLength_8 : decode cX2_straightLength 8 = .ok (.iaload, 1) := by decide +kernel
theorem dX2_straightLength_9 : decode cX2_straightLength 9 = .ok (.istore_n 2, 1) := by decide +kernel
theorem dX2_straightLength_10 : decode cX2_straightLength 10 = .ok (.aload_n 0, 1) := by decide +kernel
theorem dX2_straightLength_11 : decode cX2_straightLength 11 = .ok (.getfield 25, 3) := by decide +kernel
theorem dX2_straightLength_14 : decode cX2_straightLength 14 = .ok (.getfield 41, 3) := by decide +kernel
theorem dX2_straightLength_17 : decode cX2_straightLength 17 = .ok (.iload_n 1, 1) := by decide +kernel
theorem dX2_straightLength_18 : decode cX2_straightLength 18 = .ok (.iaload, 1) := by decide +kernel
theorem dX2_straightLength_19 : decode cX2_straightLength 19 = .ok (.istore_n 3, 1) := by decide +kernel
theorem dX2_straightLength_20 : decode cX2_straightLength 20 = .ok (.aload_n 0, 1) := by decide +kernel
theorem dX2_straightLength_21 : decode cX2_straightLength 21 = .ok (.iload_n 2, 1) := by decide +kernel
theorem dX2_straightLength_22 : decode cX2_straightLength 22 = .ok (.iload_n 3, 1) := by decide +kernel
theorem dX2_straightLength_23 : decode cX2_straightLength 23 = .ok (.aload_n 0, 1) := by decide +kernel
theorem dX2_straightLength_24 : decode cX2_straightLength 24 = .ok (.getfield 25, 3) := by decide +kernel
theorem dX2_straightLength_27 : decode cX2_straightLength 27 = .ok (.getfield 38, 3) := by decide +kernel
theorem dX2_straightLength_30 : decode cX2_straightLength 30 = .ok (.iload_n 1, 1) := by decide +kernel
theorem dX2_straightLength_31 : decode cX2_straightLength 31 = .ok (.iaload, 1) := by decide +kernel
theorem dX2_straightLength_32 : decode cX2_straightLength 32 = .ok (.invokevirtual 44, 3) := by decide +kernel
theorem dX2_straightLength_35 : decode cX2_straightLength 35 = .ok (.istore 4, 2) := by decide +kernel
theorem dX2_straightLength_37 : decode cX2_straightLength 37 = .ok (.iconst 0, 1) := by decide +kernel
theorem dX2_straightLength_38 : decode cX2_straightLength 38 = .ok (.istore 5, 2) := by decide +kernel
theorem dX2_straightLength_40 : decode cX2_straightLength 40 = .ok (.iload 5, 2) := by decide +kernel
theorem dX2_straightLength_42 : decode cX2_straightLength 42 = .ok (.aload_n 0, 1) := by decide +kernel
theorem dX2_straightLength_43 : decode cX2_straightLength 43 = .ok (.getfield 25, 3) := by decide +kernel
theorem dX2_straightLength_46 : decode cX2_straightLength 46 = .ok (.getfield 29, 3) := by decide +kernel
theorem dX2_straightLength_49 : decode cX2_straightLength 49 = .ok (.if_icmp .ge 53, 3) := by decide +kernel
theorem dX2_straightLength_52 : decode cX2_straightLength 52 = .ok (.iload 4, 2) := by decide +kernel
theorem dX2_straightLength_54 : decode cX2_straightLength 54 = .ok (.iconst 1, 1) := by decide +kernel
theorem dX2_straightLength_55 : decode cX2_straightLength 55 = .ok (.if_icmp .le 47, 3) := by decide +kernel
theorem dX2_straightLength_58 : decode cX2_straightLength 58 = .ok (.aload_n 0, 1) := by decide +kernel
theorem dX2_straightLength_59 : decode cX2_straightLength 59 = .ok (.getfield 21, 3) := by decide +kernel
theorem dX2_straightLength_62 : decode cX2_straightLength 62 = .ok (.iload 5, 2) := by decide +kernel
theorem dX2_straightLength_64 : decode cX2_straightLength 64 = .ok (.baload, 1) := by decide +kernel
theorem dX2_straightLength_65 : decode cX2_straightLength 65 = .ok (.ifCond .eq 14, 3) := by decide +kernel
theorem dX2_straightLength_68 : decode cX2_straightLength 68 = .ok (.aload_n 0, 1) := by decide +kernel
theorem dX2_straightLength_69 : decode cX2_straightLength 69 = .ok (.iload_n 2, 1) := by decide +kernel
theorem dX2_straightLength_70 : decode cX2_straightLength 70 = .ok (.iload_n 3, 1) := by decide +kernel
theorem dX2_straightLength_71 : decode cX2_straightLength 71 = .ok (.iload 5, 2) := by decide +kernel
theorem dX2_straightLength_73 : decode cX2_straightLength 73 = .ok (.invokevirtual 44, 3) := by decide +kernel
theorem dX2_straightLength_76 : decode cX2_straightLength 76 = .ok (.goto 4, 3) := by decide +kernel
theorem dX2_straightLength_79 : decode cX2_straightLength 79 = .ok (.iconst 0, 1) := by decide +kernel
theorem dX2_straightLength_80 : decode cX2_straightLength 80 = .ok (.istore 6, 2) := by decide +kernel
theorem dX2_straightLength_82 : decode cX2_straightLength 82 = .ok (.iload 6, 2) := by decide +kernel
theorem dX2_straightLength_84 : decode cX2_straightLength 84 = .ok (.ifCond .le 12, 3) := by decide +kernel
theorem dX2_straightLength_87 : decode cX2_straightLength 87 = .ok (.iload 6, 2) := by decide +kernel
theorem dX2_straightLength_89 : decode cX2_straightLength 89 = .ok (.iload 4, 2) := by decide +kernel
theorem dX2_straightLength_91 : decode cX2_straightLength 91 = .ok (.if_icmp .ge 5, 3) := by decide +kernel
theorem dX2_straightLength_94 : decode cX2_straightLength 94 = .ok (.iconst 0, 1) := by decide +kernel
theorem dX2_straightLength_95 : decode cX2_straightLength 95 = .ok (.ireturn, 1) := by decide +kernel
theorem dX2_straightLength_96 : decode cX2_straightLength 96 = .ok (.iinc 5 1, 3) := by decide +kernel
theorem dX2_straightLength_99 : decode cX2_straightLength 99 = .ok (.goto (-59), 3) := by decide +kernel
theorem dX2_straightLength_102 : decode cX2_straightLength 102 = .ok (.iload 4, 2) := by decide +kernel
theorem dX2_straightLength_104 : decode cX2_straightLength 104 = .ok (.ireturn, 1) := by decide +kernel
theorem dX2_costBelow_0 : decode cX2_costBelow 0 = .ok (.iconst 0, 1) := by decide +kernel
theorem dX2_costBelow_1 : decode cX2_costBelow 1 = .ok (.istore_n 2, 1) := by decide +kernel
theorem dX2_costBelow_2 : decode cX2_costBelow 2 = .ok (.iconst 0, 1) := by decide +kernel
theorem dX2_costBelow_3 : decode cX2_costBelow 3 = .ok (.istore_n 3, 1) := by decide +kernel
theorem dX2_costBelow_4 : decode cX2_costBelow 4 = .ok (.iload_n 3, 1) := by decide +kernel
theorem dX2_costBelow_5 : decode cX2_costBelow 5 = .ok (.aload_n 0, 1) := by decide +kernel
theorem dX2_costBelow_6 : decode cX2_costBelow 6 = .ok (.getfield 25, 3) := by decide +kernel
theorem dX2_costBelow_9 : decode cX2_costBelow 9 = .ok (.getfield 48, 3) := by decide +kernel
theorem dX2_costBelow_12 : decode cX2_costBelow 12 = .ok (.if_icmp .ge 46, 3) := by decide +kernel
theorem dX2_costBelow_15 : decode cX2_costBelow 15 = .ok (.iload_n 2, 1) := by decide +kernel
theorem dX2_costBelow_16 : decode cX2_costBelow 16 = .ok (.iload_n 1, 1) := by decide +kernel
theorem dX2_costBelow_17 : decode cX2_costBelow 17 = .ok (.if_icmp .ge 41, 3) := by decide +kernel
theorem dX2_costBelow_20 : decode cX2_costBelow 20 = .ok (.aload_n 0, 1) := by decide +kernel
theorem dX2_costBelow_21 : decode cX2_costBelow 21 = .ok (.iload_n 3, 1) := by decide +kernel
theorem dX2_costBelow_22 : decode cX2_costBelow 22 = .ok (.invokevirtual 51, 3) := by decide +kernel
theorem dX2_costBelow_25 : decode cX2_costBelow 25 = .ok (.ifCond .eq 27, 3) := by decide +kernel
theorem dX2_costBelow_28 : decode cX2_costBelow 28 = .ok (.aload_n 0, 1) := by decide +kernel
theorem dX2_costBelow_29 : decode cX2_costBelow 29 = .ok (.iload_n 3, 1) := by decide +kernel
theorem dX2_costBelow_30 : decode cX2_costBelow 30 = .ok (.invokevirtual 55, 3) := by decide +kernel
theorem dX2_costBelow_33 : decode cX2_costBelow 33 = .ok (.istore 4, 2) := by decide +kernel
theorem dX2_costBelow_35 : decode cX2_costBelow 35 = .ok (.iload_n 2, 1) := by decide +kernel
theorem dX2_costBelow_36 : decode cX2_costBelow 36 = .ok (.iload 4, 2) := by decide +kernel
theorem dX2_costBelow_38 : decode cX2_costBelow 38 = .ok (.ifCond .le 10, 3) := by decide +kernel
theorem dX2_costBelow_41 : decode cX2_costBelow 41 = .ok (.iload 4, 2) := by decide +kernel
theorem dX2_costBelow_43 : decode cX2_costBelow 43 = .ok (.iconst 1, 1) := by decide +kernel
theorem dX2_costBelow_44 : decode cX2_costBelow 44 = .ok (.isub, 1) := by decide +kernel
theorem dX2_costBelow_45 : decode cX2_costBelow 45 = .ok (.goto 5, 3) := by decide +kernel
theorem dX2_costBelow_48 : decode cX2_costBelow 48 = .ok (.bipush 10, 2) := by decide +kernel
theorem dX2_costBelow_50 : decode cX2_costBelow 50 = .ok (.iadd, 1) := by decide +kernel
theorem dX2_costBelow_51 : decode cX2_costBelow 51 = .ok (.istore_n 2, 1) := by decide +kernel
theorem dX2_costBelow_52 : decode cX2_costBelow 52 = .ok (.iinc 3 1, 3) := by decide +kernel
theorem dX2_costBelow_55 : decode cX2_costBelow 55 = .ok (.goto (-51), 3) := by decide +kernel
theorem dX2_costBelow_58 : decode cX2_costBelow 58 = .ok (.iload_n 2, 1) := by decide +kernel
theorem dX2_costBelow_59 : decode cX2_costBelow 59 = .ok (.ireturn, 1) := by decide +kernel
theorem dX2_bentLinks_0 : decode cX2_bentLinks 0 = .ok (.iconst 0, 1) := by decide +kernel
theorem dX2_bentLinks_1 : decode cX2_bentLinks 1 = .ok (.istore_n 1, 1) := by decide +kernel
theorem dX2_bentLinks_2 : decode cX2_bentLinks 2 = .ok (.iconst 0, 1) := by decide +kernel
theorem dX2_bentLinks_3 : decode cX2_bentLinks 3 = .ok (.istore_n 2, 1) := by decide +kernel
theorem dX2_bentLinks_4 : decode cX2_bentLinks 4 = .ok (.iload_n 2, 1) := by decide +kernel
theorem dX2_bentLinks_5 : decode cX2_bentLinks 5 = .ok (.aload_n 0, 1) := by decide +kernel
theorem dX2_bentLinks_6 : decode cX2_bentLinks 6 = .ok (.getfield 25, 3) := by decide +kernel
theorem dX2_bentLinks_9 : decode cX2_bentLinks 9 = .ok (.getfield 48, 3) := by decide +kernel
theorem dX2_bentLinks_12 : decode cX2_bentLinks 12 = .ok (.if_icmp .ge 28, 3) := by decide +kernel
theorem dX2_bentLinks_15 : decode cX2_bentLinks 15 = .ok (.aload_n 0, 1) := by decide +kernel
theorem dX2_bentLinks_16 : decode cX2_bentLinks 16 = .ok (.iload_n 2, 1) := by decide +kernel
theorem dX2_bentLinks_17 : decode cX2_bentLinks 17 = .ok (.invokevirtual 51, 3) := by decide +kernel
theorem dX2_bentLinks_20 : decode cX2_bentLinks 20 = .ok (.ifCond .eq 14, 3) := by decide +kernel
theorem dX2_bentLinks_23 : decode cX2_bentLinks 23 = .ok (.aload_n 0, 1) := by decide +kernel
theorem dX2_bentLinks_24 : decode cX2_bentLinks 24 = .ok (.iload_n 2, 1) := by decide +kernel
theorem dX2_bentLinks_25 : decode cX2_bentLinks 25 = .ok (.invokevirtual 55, 3) := by decide +kernel
theorem dX2_bentLinks_28 : decode cX2_bentLinks 28 = .ok (.ifCond .ne 6, 3) := by decide +kernel
theorem dX2_bentLinks_31 : decode cX2_bentLinks 31 = .ok (.iinc 1 1, 3) := by decide +kernel
theorem dX2_bentLinks_34 : decode cX2_bentLinks 34 = .ok (.iinc 2 1, 3) := by decide +kernel
theorem dX2_bentLinks_37 : decode cX2_bentLinks 37 = .ok (.goto (-33), 3) := by decide +kernel
theorem dX2_bentLinks_40 : decode cX2_bentLinks 40 = .ok (.iload_n 1, 1) := by decide +kernel
theorem dX2_bentLinks_41 : decode cX2_bentLinks 41 = .ok (.ireturn, 1) := by decide +kernel
theorem dX2_count_0 : decode cX2_count 0 = .ok (.iconst 0, 1) := by decide +kernel
theorem dX2_count_1 : decode cX2_count 1 = .ok (.istore_n 1, 1) := by decide +kernel
theorem dX2_count_2 : decode cX2_count 2 = .ok (.iconst 0, 1) := by decide +kernel
theorem dX2_count_3 : decode cX2_count 3 = .ok (.istore_n 2, 1) := by decide +kernel
theorem dX2_count_4 : decode cX2_count 4 = .ok (.iload_n 2, 1) := by decide +kernel
theorem dX2_count_5 : decode cX2_count 5 = .ok (.aload_n 0, 1) := by decide +kernel
theorem dX2_count_6 : decode cX2_count 6 = .ok (.getfield 25, 3) := by decide +kernel
theorem dX2_count_9 : decode cX2_count 9 = .ok (.getfield 29, 3) := by decide +kernel
theorem dX2_count_12 : decode cX2_count 12 = .ok (.if_icmp .ge 26, 3) := by decide +kernel
theorem dX2_count_15 : decode cX2_count 15 = .ok (.iload_n 1, 1) := by decide +kernel
theorem dX2_count_16 : decode cX2_count 16 = .ok (.aload_n 0, 1) := by decide +kernel
theorem dX2_count_17 : decode cX2_count 17 = .ok (.getfield 21, 3) := by decide +kernel
theorem dX2_count_20 : decode cX2_count 20 = .ok (.iload_n 2, 1) := by decide +kernel
theorem dX2_count_21 : decode cX2_count 21 = .ok (.baload, 1) := by decide +kernel
theorem dX2_count_22 : decode cX2_count 22 = .ok (.ifCond .eq 7, 3) := by decide +kernel
theorem dX2_count_25 : decode cX2_count 25 = .ok (.iconst 1, 1) := by decide +kernel
theorem dX2_count_26 : decode cX2_count 26 = .ok (.goto 4, 3) := by decide +kernel
theorem dX2_count_29 : decode cX2_count 29 = .ok (.iconst 0, 1) := by decide +kernel
theorem dX2_count_30 : decode cX2_count 30 = .ok (.iadd, 1) := by decide +kernel
theorem dX2_count_31 : decode cX2_count 31 = .ok (.istore_n 1, 1) := by decide +kernel
theorem dX2_count_32 : decode cX2_count 32 = .ok (.iinc 2 1, 3) := by decide +kernel
theorem dX2_count_35 : decode cX2_count 35 = .ok (.goto (-31), 3) := by decide +kernel
theorem dX2_count_38 : decode cX2_count 38 = .ok (.iload_n 1, 1) := by decide +kernel
theorem dX2_count_39 : decode cX2_count 39 = .ok (.ireturn, 1) := by decide +kernel
theorem dX2_lowest_0 : decode cX2_lowest 0 = .ok (.bipush (-2), 2) := by decide +kernel
theorem dX2_lowest_2 : decode cX2_lowest 2 = .ok (.istore_n 2, 1) := by decide +kernel
theorem dX2_lowest_3 : decode cX2_lowest 3 = .ok (.iconst 0, 1) := by decide +kernel
theorem dX2_lowest_4 : decode cX2_lowest 4 = .ok (.istore_n 3, 1) := by decide +kernel
theorem dX2_lowest_5 : decode cX2_lowest 5 = .ok (.iload_n 3, 1) := by decide +kernel
theorem dX2_lowest_6 : decode cX2_lowest 6 = .ok (.aload_n 0, 1) := by decide +kernel
theorem dX2_lowest_7 : decode cX2_lowest 7 = .ok (.getfield 25, 3) := by decide +kernel
theorem dX2_lowest_10 : decode cX2_lowest 10 = .ok (.getfield 29, 3) := by decide +kernel
theorem dX2_lowest_13 : decode cX2_lowest 13 = .ok (.if_icmp .ge 33, 3) := by decide +kernel
theorem dX2_lowest_16 : decode cX2_lowest 16 = .ok (.aload_n 0, 1) := by decide +kernel
theorem dX2_lowest_17 : decode cX2_lowest 17 = .ok (.getfield 21, 3) := by decide +kernel
theorem dX2_lowest_20 : decode cX2_lowest 20 = .ok (.iload_n 3, 1) := by decide +kernel
theorem dX2_lowest_21 : decode cX2_lowest 21 = .ok (.baload, 1) := by decide +kernel
theorem dX2_lowest_22 : decode cX2_lowest 22 = .ok (.ifCond .eq 18, 3) := by decide +kernel
theorem dX2_lowest_25 : decode cX2_lowest 25 = .ok (.iload_n 2, 1) := by decide +kernel
theorem dX2_lowest_26 : decode cX2_lowest 26 = .ok (.ifCond .lt 12, 3) := by decide +kernel
theorem dX2_lowest_29 : decode cX2_lowest 29 = .ok (.aload_n 1, 1) := by decide +kernel
theorem dX2_lowest_30 : decode cX2_lowest 30 = .ok (.iload_n 3, 1) := by decide +kernel
theorem dX2_lowest_31 : decode cX2_lowest 31 = .ok (.iaload, 1) := by decide +kernel
theorem dX2_lowest_32 : decode cX2_lowest 32 = .ok (.aload_n 1, 1) := by decide +kernel
theorem dX2_lowest_33 : decode cX2_lowest 33 = .ok (.iload_n 2, 1) := by decide +kernel
theorem dX2_lowest_34 : decode cX2_lowest 34 = .ok (.iaload, 1) := by decide +kernel
theorem dX2_lowest_35 : decode cX2_lowest 35 = .ok (.if_icmp .ge 5, 3) := by decide +kernel
theorem dX2_lowest_38 : decode cX2_lowest 38 = .ok (.iload_n 3, 1) := by decide +kernel
theorem dX2_lowest_39 : decode cX2_lowest 39 = .ok (.istore_n 2, 1) := by decide +kernel
theorem dX2_lowest_40 : decode cX2_lowest 40 = .ok (.iinc 3 1, 3) := by decide +kernel
theorem dX2_lowest_43 : decode cX2_lowest 43 = .ok (.goto (-38), 3) := by decide +kernel
theorem dX2_lowest_46 : decode cX2_lowest 46 = .ok (.iload_n 2, 1) := by decide +kernel
theorem dX2_lowest_47 : decode cX2_lowest 47 = .ok (.ifCond .ge 7, 3) := by decide +kernel
theorem dX2_lowest_50 : decode cX2_lowest 50 = .ok (.iconst 0, 1) := by decide +kernel
theorem dX2_lowest_51 : decode cX2_lowest 51 = .ok (.goto 6, 3) := by decide +kernel
theorem dX2_lowest_54 : decode cX2_lowest 54 = .ok (.aload_n 1, 1) := by decide +kernel
theorem dX2_lowest_55 : decode cX2_lowest 55 = .ok (.iload_n 2, 1) := by decide +kernel
theorem dX2_lowest_56 : decode cX2_lowest 56 = .ok (.iaload, 1) := by decide +kernel
theorem dX2_lowest_57 : decode cX2_lowest 57 = .ok (.ireturn, 1) := by decide +kernel
theorem dX2_highest_0 : decode cX2_highest 0 = .ok (.bipush (-2), 2) := by decide +kernel
theorem dX2_highest_2 : decode cX2_highest 2 = .ok (.istore_n 2, 1) := by decide +kernel
theorem dX2_highest_3 : decode cX2_highest 3 = .ok (.iconst 0, 1) := by decide +kernel
theorem dX2_highest_4 : decode cX2_highest 4 = .ok (.istore_n 3, 1) := by decide +kernel
theorem dX2_highest_5 : decode cX2_highest 5 = .ok (.iload_n 3, 1) := by decide +kernel
theorem dX2_highest_6 : decode cX2_highest 6 = .ok (.aload_n 0, 1) := by decide +kernel
theorem dX2_highest_7 : decode cX2_highest 7 = .ok (.getfield 25, 3) := by decide +kernel
theorem dX2_highest_10 : decode cX2_highest 10 = .ok (.getfield 29, 3) := by decide +kernel
theorem dX2_highest_13 : decode cX2_highest 13 = .ok (.if_icmp .ge 33, 3) := by decide +kernel
theorem dX2_highest_16 : decode cX2_highest 16 = .ok (.aload_n 0, 1) := by decide +kernel
theorem dX2_highest_17 : decode cX2_highest 17 = .ok (.getfield 21, 3) := by decide +kernel
theorem dX2_highest_20 : decode cX2_highest 20 = .ok (.iload_n 3, 1) := by decide +kernel
theorem dX2_highest_21 : decode cX2_highest 21 = .ok (.baload, 1) := by decide +kernel
theorem dX2_highest_22 : decode cX2_highest 22 = .ok (.ifCond .eq 18, 3) := by decide +kernel
theorem dX2_highest_25 : decode cX2_highest 25 = .ok (.iload_n 2, 1) := by decide +kernel
theorem dX2_highest_26 : decode cX2_highest 26 = .ok (.ifCond .lt 12, 3) := by decide +kernel
theorem dX2_highest_29 : decode cX2_highest 29 = .ok (.aload_n 1, 1) := by decide +kernel
theorem dX2_highest_30 : decode cX2_highest 30 = .ok (.iload_n 3, 1) := by decide +kernel
theorem dX2_highest_31 : decode cX2_highest 31 = .ok (.iaload, 1) := by decide +kernel
theorem dX2_highest_32 : decode cX2_highest 32 = .ok (.aload_n 1, 1) := by decide +kernel
theorem dX2_highest_33 : decode cX2_highest 33 = .ok (.iload_n 2, 1) := by decide +kernel
theorem dX2_highest_34 : decode cX2_highest 34 = .ok (.iaload, 1) := by decide +kernel
theorem dX2_highest_35 : decode cX2_highest 35 = .ok (.if_icmp .le 5, 3) := by decide +kernel
theorem dX2_highest_38 : decode cX2_highest 38 = .ok (.iload_n 3, 1) := by decide +kernel
theorem dX2_highest_39 : decode cX2_highest 39 = .ok (.istore_n 2, 1) := by decide +kernel
theorem dX2_highest_40 : decode cX2_highest 40 = .ok (.iinc 3 1, 3) := by decide +kernel
theorem dX2_highest_43 : decode cX2_highest 43 = .ok (.goto (-38), 3) := by decide +kernel
theorem dX2_highest_46 : decode cX2_highest 46 = .ok (.iload_n 2, 1) := by decide +kernel
theorem dX2_highest_47 : decode cX2_highest 47 = .ok (.ifCond .ge 7, 3) := by decide +kernel
theorem dX2_highest_50 : decode cX2_highest 50 = .ok (.iconst 0, 1) := by decide +kernel
theorem dX2_highest_51 : decode cX2_highest 51 = .ok (.goto 6, 3) := by decide +kernel
theorem dX2_highest_54 : decode cX2_highest 54 = .ok (.aload_n 1, 1) := by decide +kernel
theorem dX2_highest_55 : decode cX2_highest 55 = .ok (.iload_n 2, 1) := by decide +kernel
theorem dX2_highest_56 : decode cX2_highest 56 = .ok (.iaload, 1) := by decide +kernel
theorem dX2_highest_57 : decode cX2_highest 57 = .ok (.ireturn, 1) := by decide +kernel
theorem dX2_extent_0 : decode cX2_extent 0 = .ok (.aload_n 0, 1) := by decide +kernel
theorem dX2_extent_1 : decode cX2_extent 1 = .ok (.invokevirtual 59, 3) := by decide +kernel
theorem dX2_extent_4 : decode cX2_extent 4 = .ok (.ifCond .ne 7, 3) := by decide +kernel
theorem dX2_extent_7 : decode cX2_extent 7 = .ok (.iconst 0, 1) := by decide +kernel
theorem dX2_extent_8 : decode cX2_extent 8 = .ok (.goto 16, 3) := by decide +kernel
theorem dX2_extent_11 : decode cX2_extent 11 = .ok (.aload_n 0, 1) := by decide +kernel
theorem dX2_extent_12 : decode cX2_extent 12 = .ok (.aload_n 1, 1) := by decide +kernel
theorem dX2_extent_13 : decode cX2_extent 13 = .ok (.invokevirtual 63, 3) := by decide +kernel
theorem dX2_extent_16 : decode cX2_extent 16 = .ok (.aload_n 0, 1) := by decide +kernel
theorem dX2_extent_17 : decode cX2_extent 17 = .ok (.aload_n 1, 1) := by decide +kernel
theorem dX2_extent_18 : decode cX2_extent 18 = .ok (.invokevirtual 67, 3) := by decide +kernel
theorem dX2_extent_21 : decode cX2_extent 21 = .ok (.isub, 1) := by decide +kernel
theorem dX2_extent_22 : decode cX2_extent 22 = .ok (.iconst 1, 1) := by decide +kernel
theorem dX2_extent_23 : decode cX2_extent 23 = .ok (.iadd, 1) := by decide +kernel
theorem dX2_extent_24 : decode cX2_extent 24 = .ok (.ireturn, 1) := by decide +kernel
theorem dX2_isWeighed_0 : decode cX2_isWeighed 0 = .ok (.aload_n 0, 1) := by decide +kernel
theorem dX2_isWeighed_1 : decode cX2_isWeighed 1 = .ok (.getfield 25, 3) := by decide +kernel
theorem dX2_isWeighed_4 : decode cX2_isWeighed 4 = .ok (.iload_n 1, 1) := by decide +kernel
theorem dX2_isWeighed_5 : decode cX2_isWeighed 5 = .ok (.invokevirtual 70, 3) := by decide +kernel
theorem dX2_isWeighed_8 : decode cX2_isWeighed 8 = .ok (.ifCond .ne 15, 3) := by decide +kernel
theorem dX2_isWeighed_11 : decode cX2_isWeighed 11 = .ok (.aload_n 0, 1) := by decide +kernel
theorem dX2_isWeighed_12 : decode cX2_isWeighed 12 = .ok (.iload_n 1, 1) := by decide +kernel
theorem dX2_isWeighed_13 : decode cX2_isWeighed 13 = .ok (.invokevirtual 73, 3) := by decide +kernel
theorem dX2_isWeighed_16 : decode cX2_isWeighed 16 = .ok (.ifCond .eq 7, 3) := by decide +kernel
theorem dX2_isWeighed_19 : decode cX2_isWeighed 19 = .ok (.iconst 1, 1) := by decide +kernel
theorem dX2_isWeighed_20 : decode cX2_isWeighed 20 = .ok (.goto 4, 3) := by decide +kernel
theorem dX2_isWeighed_23 : decode cX2_isWeighed 23 = .ok (.iconst 0, 1) := by decide +kernel
theorem dX2_isWeighed_24 : decode cX2_isWeighed 24 = .ok (.ireturn, 1) := by decide +kernel
theorem dX2_distance_0 : decode cX2_distance 0 = .ok (.aload_n 0, 1) := by decide +kernel
theorem dX2_distance_1 : decode cX2_distance 1 = .ok (.getfield 11, 3) := by decide +kernel
theorem dX2_distance_4 : decode cX2_distance 4 = .ok (.iload_n 3, 1) := by decide +kernel
theorem dX2_distance_5 : decode cX2_distance 5 = .ok (.iaload, 1) := by decide +kernel
theorem dX2_distance_6 : decode cX2_distance 6 = .ok (.aload_n 0, 1) := by decide +kernel
theorem dX2_distance_7 : decode cX2_distance 7 = .ok (.getfield 11, 3) := by decide +kernel
theorem dX2_distance_10 : decode cX2_distance 10 = .ok (.iload_n 1, 1) := by decide +kernel
theorem dX2_distance_11 : decode cX2_distance 11 = .ok (.iaload, 1) := by decide +kernel
theorem dX2_distance_12 : decode cX2_distance 12 = .ok (.isub, 1) := by decide +kernel
theorem dX2_distance_13 : decode cX2_distance 13 = .ok (.istore 4, 2) := by decide +kernel
theorem dX2_distance_15 : decode cX2_distance 15 = .ok (.aload_n 0, 1) := by decide +kernel
theorem dX2_distance_16 : decode cX2_distance 16 = .ok (.getfield 15, 3) := by decide +kernel
theorem dX2_distance_19 : decode cX2_distance 19 = .ok (.iload_n 3, 1) := by decide +kernel
theorem dX2_distance_20 : decode cX2_distance 20 = .ok (.iaload, 1) := by decide +kernel

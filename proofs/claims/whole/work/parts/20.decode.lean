theorem dX5_init_0 : decode cX5_init 0 = .ok (.aload_n 0, 1) := by decide +kernel
theorem dX5_init_1 : decode cX5_init 1 = .ok (.invokespecial 3, 3) := by decide +kernel
theorem dX5_init_4 : decode cX5_init 4 = .ok (.aload_n 0, 1) := by decide +kernel
theorem dX5_init_5 : decode cX5_init 5 = .ok (.bipush 6, 2) := by decide +kernel
theorem dX5_init_7 : decode cX5_init 7 = .ok (.newarray .int, 2) := by decide +kernel
theorem dX5_init_9 : decode cX5_init 9 = .ok (.putfield 9, 3) := by decide +kernel
theorem dX5_init_12 : decode cX5_init 12 = .ok (.aload_n 0, 1) := by decide +kernel
theorem dX5_init_13 : decode cX5_init 13 = .ok (.bipush 8, 2) := by decide +kernel
theorem dX5_init_15 : decode cX5_init 15 = .ok (.newarray .int, 2) := by decide +kernel
theorem dX5_init_17 : decode cX5_init 17 = .ok (.putfield 15, 3) := by decide +kernel
theorem dX5_init_20 : decode cX5_init 20 = .ok (.aload_n 0, 1) := by decide +kernel
theorem dX5_init_21 : decode cX5_init 21 = .ok (.bipush 6, 2) := by decide +kernel
theorem dX5_init_23 : decode cX5_init 23 = .ok (.newarray .int, 2) := by decide +kernel
theorem dX5_init_25 : decode cX5_init 25 = .ok (.putfield 18, 3) := by decide +kernel
theorem dX5_init_28 : decode cX5_init 28 = .ok (.aload_n 0, 1) := by decide +kernel
theorem dX5_init_29 : decode cX5_init 29 = .ok (.bipush 6, 2) := by decide +kernel
theorem dX5_init_31 : decode cX5_init 31 = .ok (.newarray .int, 2) := by decide +kernel
theorem dX5_init_33 : decode cX5_init 33 = .ok (.putfield 21, 3) := by decide +kernel
theorem dX5_init_36 : decode cX5_init 36 = .ok (.aload_n 0, 1) := by decide +kernel
theorem dX5_init_37 : decode cX5_init 37 = .ok (.bipush 6, 2) := by decide +kernel
theorem dX5_init_39 : decode cX5_init 39 = .ok (.newarray .int, 2) := by decide +kernel
theorem dX5_init_41 : decode cX5_init 41 = .ok (.putfield 24, 3) := by decide +kernel
theorem dX5_init_44 : decode cX5_init 44 = .ok (.aload_n 0, 1) := by decide +kernel
theorem dX5_init_45 : decode cX5_init 45 = .ok (.bipush 36, 2) := by decide +kernel
theorem dX5_init_47 : decode cX5_init 47 = .ok (.newarray .int, 2) := by decide +kernel
theorem dX5_init_49 : decode cX5_init 49 = .ok (.putfield 27, 3) := by decide +kernel
theorem dX5_init_52 : decode cX5_init 52 = .ok (.return_, 1) := by decide +kernel
theorem dX0_init_0 : decode cX0_init 0 = .ok (.aload_n 0, 1) := by decide +kernel
theorem dX0_init_1 : decode cX0_init 1 = .ok (.invokespecial 3, 3) := by decide +kernel
theorem dX0_init_4 : decode cX0_init 4 = .ok (.aload_n 0, 1) := by decide +kernel
theorem dX0_init_5 : decode cX0_init 5 = .ok (.bipush 24, 2) := by decide +kernel
theorem dX0_init_7 : decode cX0_init 7 = .ok (.anewarray 9, 3) := by decide +kernel
theorem dX0_init_10 : decode cX0_init 10 = .ok (.putfield 11, 3) := by decide +kernel
theorem dX0_init_13 : decode cX0_init 13 = .ok (.iconst 0, 1) := by decide +kernel
theorem dX0_init_14 : decode cX0_init 14 = .ok (.istore_n 1, 1) := by decide +kernel
theorem dX0_init_15 : decode cX0_init 15 = .ok (.iload_n 1, 1) := by decide +kernel
theorem dX0_init_16 : decode cX0_init 16 = .ok (.bipush 24, 2) := by decide +kernel
theorem dX0_init_18 : decode cX0_init 18 = .ok (.if_icmp .ge 22, 3) := by decide +kernel
theorem dX0_init_21 : decode cX0_init 21 = .ok (.aload_n 0, 1) := by decide +kernel
theorem dX0_init_22 : decode cX0_init 22 = .ok (.getfield 11, 3) := by decide +kernel
theorem dX0_init_25 : decode cX0_init 25 = .ok (.iload_n 1, 1) := by decide +kernel
theorem dX0_init_26 : decode cX0_init 26 = .ok (.new 9, 3) := by decide +kernel
theorem dX0_init_29 : decode cX0_init 29 = .ok (.dup, 1) := by decide +kernel
theorem dX0_init_30 : decode cX0_init 30 = .ok (.invokespecial 17, 3) := by decide +kernel
theorem dX0_init_33 : decode cX0_init 33 = .ok (.aastore, 1) := by decide +kernel
theorem dX0_init_34 : decode cX0_init 34 = .ok (.iinc 1 1, 3) := by decide +kernel
theorem dX0_init_37 : decode cX0_init 37 = .ok (.goto (-22), 3) := by decide +kernel
theorem dX0_init_40 : decode cX0_init 40 = .ok (.return_, 1) := by decide +kernel
theorem dX5_become_0 : decode cX5_become 0 = .ok (.aload_n 0, 1) := by decide +kernel
theorem dX5_become_1 : decode cX5_become 1 = .ok (.aload_n 1, 1) := by decide +kernel
theorem dX5_become_2 : decode cX5_become 2 = .ok (.getfield 30, 3) := by decide +kernel
theorem dX5_become_5 : decode cX5_become 5 = .ok (.putfield 30, 3) := by decide +kernel
theorem dX5_become_8 : decode cX5_become 8 = .ok (.aload_n 0, 1) := by decide +kernel
theorem dX5_become_9 : decode cX5_become 9 = .ok (.aload_n 1, 1) := by decide +kernel
theorem dX5_become_10 : decode cX5_become 10 = .ok (.getfield 34, 3) := by decide +kernel
theorem dX5_become_13 : decode cX5_become 13 = .ok (.putfield 34, 3) := by decide +kernel
theorem dX5_become_16 : decode cX5_become 16 = .ok (.aload_n 0, 1) := by decide +kernel
theorem dX5_become_17 : decode cX5_become 17 = .ok (.aload_n 1, 1) := by decide +kernel
theorem dX5_become_18 : decode cX5_become 18 = .ok (.getfield 37, 3) := by decide +kernel
theorem dX5_become_21 : decode cX5_become 21 = .ok (.putfield 37, 3) := by decide +kernel
theorem dX5_become_24 : decode cX5_become 24 = .ok (.aload_n 0, 1) := by decide +kernel
theorem dX5_become_25 : decode cX5_become 25 = .ok (.aload_n 1, 1) := by decide +kernel
theorem dX5_become_26 : decode cX5_become 26 = .ok (.getfield 40, 3) := by decide +kernel
theorem dX5_become_29 : decode cX5_become 29 = .ok (.putfield 40, 3) := by decide +kernel
theorem dX5_become_32 : decode cX5_become 32 = .ok (.aload_n 0, 1) := by decide +kernel
theorem dX5_become_33 : decode cX5_become 33 = .ok (.aload_n 1, 1) := by decide +kernel
theorem dX5_become_34 : decode cX5_become 34 = .ok (.getfield 43, 3) := by decide +kernel
theorem dX5_become_37 : decode cX5_become 37 = .ok (.putfield 43, 3) := by decide +kernel
theorem dX5_become_40 : decode cX5_become 40 = .ok (.aload_n 1, 1) := by decide +kernel
theorem dX5_become_41 : decode cX5_become 41 = .ok (.getfield 9, 3) := by decide +kernel
theorem dX5_become_44 : decode cX5_become 44 = .ok (.iconst 0, 1) := by decide +kernel
theorem dX5_become_45 : decode cX5_become 45 = .ok (.aload_n 0, 1) := by decide +kernel
theorem dX5_become_46 : decode cX5_become 46 = .ok (.getfield 9, 3) := by decide +kernel
theorem dX5_become_49 : decode cX5_become 49 = .ok (.iconst 0, 1) := by decide +kernel
theorem dX5_become_50 : decode cX5_become 50 = .ok (.bipush 6, 2) := by decide +kernel
theorem dX5_become_52 : decode cX5_become 52 = .ok (.invokestatic 46, 3) := by decide +kernel
theorem dX5_become_55 : decode cX5_become 55 = .ok (.aload_n 1, 1) := by decide +kernel
theorem dX5_become_56 : decode cX5_become 56 = .ok (.getfield 15, 3) := by decide +kernel
theorem dX5_become_59 : decode cX5_become 59 = .ok (.iconst 0, 1) := by decide +kernel
theorem dX5_become_60 : decode cX5_become 60 = .ok (.aload_n 0, 1) := by decide +kernel
theorem dX5_become_61 : decode cX5_become 61 = .ok (.getfield 15, 3) := by decide +kernel
theorem dX5_become_64 : decode cX5_become 64 = .ok (.iconst 0, 1) := by decide +kernel
theorem dX5_become_65 : decode cX5_become 65 = .ok (.bipush 8, 2) := by decide +kernel
theorem dX5_become_67 : decode cX5_become 67 = .ok (.invokestatic 46, 3) := by decide +kernel
theorem dX5_become_70 : decode cX5_become 70 = .ok (.aload_n 1, 1) := by decide +kernel
theorem dX5_become_71 : decode cX5_become 71 = .ok (.getfield 18, 3) := by decide +kernel
theorem dX5_become_74 : decode cX5_become 74 = .ok (.iconst 0, 1) := by decide +kernel
theorem dX5_become_75 : decode cX5_become 75 = .ok (.aload_n 0, 1) := by decide +kernel
theorem dX5_become_76 : decode cX5_become 76 = .ok (.getfield 18, 3) := by decide +kernel
theorem dX5_become_79 : decode cX5_become 79 = .ok (.iconst 0, 1) := by decide +kernel
theorem dX5_become_80 : decode cX5_become 80 = .ok (.bipush 6, 2) := by decide +kernel
theorem dX5_become_82 : decode cX5_become 82 = .ok (.invokestatic 46, 3) := by decide +kernel
theorem dX5_become_85 : decode cX5_become 85 = .ok (.aload_n 1, 1) := by decide +kernel
theorem dX5_become_86 : decode cX5_become 86 = .ok (.getfield 21, 3) := by decide +kernel
theorem dX5_become_89 : decode cX5_become 89 = .ok (.iconst 0, 1) := by decide +kernel
theorem dX5_become_90 : decode cX5_become 90 = .ok (.aload_n 0, 1) := by decide +kernel
theorem dX5_become_91 : decode cX5_become 91 = .ok (.getfield 21, 3) := by decide +kernel
theorem dX5_become_94 : decode cX5_become 94 = .ok (.iconst 0, 1) := by decide +kernel
theorem dX5_become_95 : decode cX5_become 95 = .ok (.bipush 6, 2) := by decide +kernel
theorem dX5_become_97 : decode cX5_become 97 = .ok (.invokestatic 46, 3) := by decide +kernel
theorem dX5_become_100 : decode cX5_become 100 = .ok (.aload_n 1, 1) := by decide +kernel
theorem dX5_become_101 : decode cX5_become 101 = .ok (.getfield 24, 3) := by decide +kernel
theorem dX5_become_104 : decode cX5_become 104 = .ok (.iconst 0, 1) := by decide +kernel
theorem dX5_become_105 : decode cX5_become 105 = .ok (.aload_n 0, 1) := by decide +kernel
theorem dX5_become_106 : decode cX5_become 106 = .ok (.getfield 24, 3) := by decide +kernel
theorem dX5_become_109 : decode cX5_become 109 = .ok (.iconst 0, 1) := by decide +kernel
theorem dX5_become_110 : decode cX5_become 110 = .ok (.bipush 6, 2) := by decide +kernel
theorem dX5_become_112 : decode cX5_become 112 = .ok (.invokestatic 46, 3) := by decide +kernel
theorem dX5_become_115 : decode cX5_become 115 = .ok (.aload_n 1, 1) := by decide +kernel
theorem dX5_become_116 : decode cX5_become 116 = .ok (.getfield 27, 3) := by decide +kernel
theorem dX5_become_119 : decode cX5_become 119 = .ok (.iconst 0, 1) := by decide +kernel
theorem dX5_become_120 : decode cX5_become 120 = .ok (.aload_n 0, 1) := by decide +kernel
theorem dX5_become_121 : decode cX5_become 121 = .ok (.getfield 27, 3) := by decide +kernel
theorem dX5_become_124 : decode cX5_become 124 = .ok (.iconst 0, 1) := by decide +kernel
theorem dX5_become_125 : decode cX5_become 125 = .ok (.bipush 36, 2) := by decide +kernel
theorem dX5_become_127 : decode cX5_become 127 = .ok (.invokestatic 46, 3) := by decide +kernel
theorem dX5_become_130 : decode cX5_become 130 = .ok (.return_, 1) := by decide +kernel
theorem dX0_keep_0 : decode cX0_keep 0 = .ok (.aload_n 0, 1) := by decide +kernel
theorem dX0_keep_1 : decode cX0_keep 1 = .ok (.aload_n 0, 1) := by decide +kernel
theorem dX0_keep_2 : decode cX0_keep 2 = .ok (.getfield 18, 3) := by decide +kernel
theorem dX0_keep_5 : decode cX0_keep 5 = .ok (.iconst 1, 1) := by decide +kernel
theorem dX0_keep_6 : decode cX0_keep 6 = .ok (.iadd, 1) := by decide +kernel
theorem dX0_keep_7 : decode cX0_keep 7 = .ok (.bipush 24, 2) := by decide +kernel
theorem dX0_keep_9 : decode cX0_keep 9 = .ok (.irem, 1) := by decide +kernel
theorem dX0_keep_10 : decode cX0_keep 10 = .ok (.putfield 18, 3) := by decide +kernel
theorem dX0_keep_13 : decode cX0_keep 13 = .ok (.aload_n 0, 1) := by decide +kernel
theorem dX0_keep_14 : decode cX0_keep 14 = .ok (.getfield 11, 3) := by decide +kernel
theorem dX0_keep_17 : decode cX0_keep 17 = .ok (.aload_n 0, 1) := by decide +kernel
theorem dX0_keep_18 : decode cX0_keep 18 = .ok (.getfield 18, 3) := by decide +kernel
theorem dX0_keep_21 : decode cX0_keep 21 = .ok (.aaload, 1) := by decide +kernel
theorem dX0_keep_22 : decode cX0_keep 22 = .ok (.aload_n 1, 1) := by decide +kernel
theorem dX0_keep_23 : decode cX0_keep 23 = .ok (.invokevirtual 22, 3) := by decide +kernel
theorem dX0_keep_26 : decode cX0_keep 26 = .ok (.aload_n 0, 1) := by decide +kernel
theorem dX0_keep_27 : decode cX0_keep 27 = .ok (.getfield 26, 3) := by decide +kernel
theorem dX0_keep_30 : decode cX0_keep 30 = .ok (.bipush 24, 2) := by decide +kernel
theorem dX0_keep_32 : decode cX0_keep 32 = .ok (.if_icmp .ge 13, 3) := by decide +kernel
theorem dX0_keep_35 : decode cX0_keep 35 = .ok (.aload_n 0, 1) := by decide +kernel
theorem dX0_keep_36 : decode cX0_keep 36 = .ok (.dup, 1) := by decide +kernel
theorem dX0_keep_37 : decode cX0_keep 37 = .ok (.getfield 26, 3) := by decide +kernel
theorem dX0_keep_40 : decode cX0_keep 40 = .ok (.iconst 1, 1) := by decide +kernel
theorem dX0_keep_41 : decode cX0_keep 41 = .ok (.iadd, 1) := by decide +kernel
theorem dX0_keep_42 : decode cX0_keep 42 = .ok (.putfield 26, 3) := by decide +kernel
theorem dX0_keep_45 : decode cX0_keep 45 = .ok (.return_, 1) := by decide +kernel
theorem dX0_takeBack_0 : decode cX0_takeBack 0 = .ok (.aload_n 0, 1) := by decide +kernel
theorem dX0_takeBack_1 : decode cX0_takeBack 1 = .ok (.getfield 26, 3) := by decide +kernel
theorem dX0_takeBack_4 : decode cX0_takeBack 4 = .ok (.ifCond .ne 5, 3) := by decide +kernel
theorem dX0_takeBack_7 : decode cX0_takeBack 7 = .ok (.iconst 0, 1) := by decide +kernel
theorem dX0_takeBack_8 : decode cX0_takeBack 8 = .ok (.ireturn, 1) := by decide +kernel
theorem dX0_takeBack_9 : decode cX0_takeBack 9 = .ok (.aload_n 1, 1) := by decide +kernel
theorem dX0_takeBack_10 : decode cX0_takeBack 10 = .ok (.aload_n 0, 1) := by decide +kernel
theorem dX0_takeBack_11 : decode cX0_takeBack 11 = .ok (.getfield 11, 3) := by decide +kernel
theorem dX0_takeBack_14 : decode cX0_takeBack 14 = .ok (.aload_n 0, 1) := by decide +kernel
theorem dX0_takeBack_15 : decode cX0_takeBack 15 = .ok (.getfield 18, 3) := by decide +kernel
theorem dX0_takeBack_18 : decode cX0_takeBack 18 = .ok (.aaload, 1) := by decide +kernel
theorem dX0_takeBack_19 : decode cX0_takeBack 19 = .ok (.invokevirtual 22, 3) := by decide +kernel
theorem dX0_takeBack_22 : decode cX0_takeBack 22 = .ok (.aload_n 0, 1) := by decide +kernel
theorem dX0_takeBack_23 : decode cX0_takeBack 23 = .ok (.aload_n 0, 1) := by decide +kernel
theorem dX0_takeBack_24 : decode cX0_takeBack 24 = .ok (.getfield 18, 3) := by decide +kernel
theorem dX0_takeBack_27 : decode cX0_takeBack 27 = .ok (.bipush 24, 2) := by decide +kernel
theorem dX0_takeBack_29 : decode cX0_takeBack 29 = .ok (.iadd, 1) := by decide +kernel
theorem dX0_takeBack_30 : decode cX0_takeBack 30 = .ok (.iconst 1, 1) := by decide +kernel
theorem dX0_takeBack_31 : decode cX0_takeBack 31 = .ok (.isub, 1) := by decide +kernel
theorem dX0_takeBack_32 : decode cX0_takeBack 32 = .ok (.bipush 24, 2) := by decide +kernel
theorem dX0_takeBack_34 : decode cX0_takeBack 34 = .ok (.irem, 1) := by decide +kernel
theorem dX0_takeBack_35 : decode cX0_takeBack 35 = .ok (.putfield 18, 3) := by decide +kernel
theorem dX0_takeBack_38 : decode cX0_takeBack 38 = .ok (.aload_n 0, 1) := by decide +kernel
theorem dX0_takeBack_39 : decode cX0_takeBack 39 = .ok (.dup, 1) := by decide +kernel
theorem dX0_takeBack_40 : decode cX0_takeBack 40 = .ok (.getfield 26, 3) := by decide +kernel
theorem dX0_takeBack_43 : decode cX0_takeBack 43 = .ok (.iconst 1, 1) := by decide +kernel
theorem dX0_takeBack_44 : decode cX0_takeBack 44 = .ok (.isub, 1) := by decide +kernel
theorem dX0_takeBack_45 : decode cX0_takeBack 45 = .ok (.putfield 26, 3) := by decide +kernel
theorem dX0_takeBack_48 : decode cX0_takeBack 48 = .ok (.iconst 1, 1) := by decide +kernel
theorem dX0_takeBack_49 : decode cX0_takeBack 49 = .ok (.ireturn, 1) := by decide +kernel
theorem dX1_init_0 : decode cX1_init 0 = .ok (.aload_n 0, 1) := by decide +kernel
theorem dX1_init_1 : decode cX1_init 1 = .ok (.invokespecial 3, 3) := by decide +kernel
theorem dX1_init_4 : decode cX1_init 4 = .ok (.aload_n 0, 1) := by decide +kernel
theorem dX1_init_5 : decode cX1_init 5 = .ok (.bipush 16, 2) := by decide +kernel
theorem dX1_init_7 : decode cX1_init 7 = .ok (.newarray .int, 2) := by decide +kernel
theorem dX1_init_9 : decode cX1_init 9 = .ok (.putfield 9, 3) := by decide +kernel
theorem dX1_init_12 : decode cX1_init 12 = .ok (.return_, 1) := by decide +kernel
theorem dX1_leave_0 : decode cX1_leave 0 = .ok (.aload_n 0, 1) := by decide +kernel
theorem dX1_leave_1 : decode cX1_leave 1 = .ok (.getfield 15, 3) := by decide +kernel
theorem dX1_leave_4 : decode cX1_leave 4 = .ok (.bipush 16, 2) := by decide +kernel
theorem dX1_leave_6 : decode cX1_leave 6 = .ok (.if_icmp .ge 23, 3) := by decide +kernel
theorem dX1_leave_9 : decode cX1_leave 9 = .ok (.aload_n 0, 1) := by decide +kernel
theorem dX1_leave_10 : decode cX1_leave 10 = .ok (.getfield 9, 3) := by decide +kernel
theorem dX1_leave_13 : decode cX1_leave 13 = .ok (.aload_n 0, 1) := by decide +kernel
theorem dX1_leave_14 : decode cX1_leave 14 = .ok (.getfield 15, 3) := by decide +kernel
theorem dX1_leave_17 : decode cX1_leave 17 = .ok (.iload_n 1, 1) := by decide +kernel
theorem dX1_leave_18 : decode cX1_leave 18 = .ok (.iastore, 1) := by decide +kernel
theorem dX1_leave_19 : decode cX1_leave 19 = .ok (.aload_n 0, 1) := by decide +kernel
theorem dX1_leave_20 : decode cX1_leave 20 = .ok (.dup, 1) := by decide +kernel
theorem dX1_leave_21 : decode cX1_leave 21 = .ok (.getfield 15, 3) := by decide +kernel
theorem dX1_leave_24 : decode cX1_leave 24 = .ok (.iconst 1, 1) := by decide +kernel
theorem dX1_leave_25 : decode cX1_leave 25 = .ok (.iadd, 1) := by decide +kernel
theorem dX1_leave_26 : decode cX1_leave 26 = .ok (.putfield 15, 3) := by decide +kernel
theorem dX1_leave_29 : decode cX1_leave 29 = .ok (.return_, 1) := by decide +kernel
theorem dX1_begin_0 : decode cX1_begin 0 = .ok (.iload_n 2, 1) := by decide +kernel
theorem dX1_begin_1 : decode cX1_begin 1 = .ok (.bipush 16, 2) := by decide +kernel
theorem dX1_begin_3 : decode cX1_begin 3 = .ok (.if_icmp .le 5, 3) := by decide +kernel
theorem dX1_begin_6 : decode cX1_begin 6 = .ok (.iconst 0, 1) := by decide +kernel
theorem dX1_begin_7 : decode cX1_begin 7 = .ok (.ireturn, 1) := by decide +kernel
theorem dX1_begin_8 : decode cX1_begin 8 = .ok (.aload_n 0, 1) := by decide +kernel
theorem dX1_begin_9 : decode cX1_begin 9 = .ok (.iload_n 1, 1) := by decide +kernel
theorem dX1_begin_10 : decode cX1_begin 10 = .ok (.invokevirtual 60, 3) := by decide +kernel
theorem dX1_begin_13 : decode cX1_begin 13 = .ok (.iload_n 2, 1) := by decide +kernel
theorem dX1_begin_14 : decode cX1_begin 14 = .ok (.iconst 1, 1) := by decide +kernel
theorem dX1_begin_15 : decode cX1_begin 15 = .ok (.iadd, 1) := by decide +kernel
theorem dX1_begin_16 : decode cX1_begin 16 = .ok (.istore_n 3, 1) := by decide +kernel
theorem dX1_begin_17 : decode cX1_begin 17 = .ok (.iload_n 1, 1) := by decide +kernel
theorem dX1_begin_18 : decode cX1_begin 18 = .ok (.tableswitch 185 10 24 #[74, 79, 97, 106, 117, 185, 185, 185, 185, 185, 127, 132, 145, 157, 175], 74) := by decide +kernel
theorem dX1_begin_92 : decode cX1_begin 92 = .ok (.aload_n 0, 1) := by decide +kernel
theorem dX1_begin_93 : decode cX1_begin 93 = .ok (.getfield 34, 3) := by decide +kernel
theorem dX1_begin_96 : decode cX1_begin 96 = .ok (.ireturn, 1) := by decide +kernel
theorem dX1_begin_97 : decode cX1_begin 97 = .ok (.aload_n 0, 1) := by decide +kernel
theorem dX1_begin_98 : decode cX1_begin 98 = .ok (.bipush 10, 2) := by decide +kernel
theorem dX1_begin_100 : decode cX1_begin 100 = .ok (.iload_n 3, 1) := by decide +kernel
theorem dX1_begin_101 : decode cX1_begin 101 = .ok (.invokestatic 56, 3) := by decide +kernel
theorem dX1_begin_104 : decode cX1_begin 104 = .ok (.aload_n 0, 1) := by decide +kernel
theorem dX1_begin_105 : decode cX1_begin 105 = .ok (.aload_n 0, 1) := by decide +kernel
theorem dX1_begin_106 : decode cX1_begin 106 = .ok (.getfield 53, 3) := by decide +kernel
theorem dX1_begin_109 : decode cX1_begin 109 = .ok (.iload_n 3, 1) := by decide +kernel
theorem dX1_begin_110 : decode cX1_begin 110 = .ok (.invokestatic 56, 3) := by decide +kernel
theorem dX1_begin_113 : decode cX1_begin 113 = .ok (.iadd, 1) := by decide +kernel
theorem dX1_begin_114 : decode cX1_begin 114 = .ok (.ireturn, 1) := by decide +kernel
theorem dX1_begin_115 : decode cX1_begin 115 = .ok (.aload_n 0, 1) := by decide +kernel
theorem dX1_begin_116 : decode cX1_begin 116 = .ok (.bipush 11, 2) := by decide +kernel
theorem dX1_begin_118 : decode cX1_begin 118 = .ok (.iload_n 3, 1) := by decide +kernel
theorem dX1_begin_119 : decode cX1_begin 119 = .ok (.invokestatic 56, 3) := by decide +kernel
theorem dX1_begin_122 : decode cX1_begin 122 = .ok (.ineg, 1) := by decide +kernel
theorem dX1_begin_123 : decode cX1_begin 123 = .ok (.ireturn, 1) := by decide +kernel
theorem dX1_begin_124 : decode cX1_begin 124 = .ok (.aload_n 0, 1) := by decide +kernel
theorem dX1_begin_125 : decode cX1_begin 125 = .ok (.bipush 10, 2) := by decide +kernel
theorem dX1_begin_127 : decode cX1_begin 127 = .ok (.iload_n 3, 1) := by decide +kernel
theorem dX1_begin_128 : decode cX1_begin 128 = .ok (.invokestatic 56, 3) := by decide +kernel
theorem dX1_begin_131 : decode cX1_begin 131 = .ok (.bipush 100, 2) := by decide +kernel
theorem dX1_begin_133 : decode cX1_begin 133 = .ok (.isub, 1) := by decide +kernel
theorem dX1_begin_134 : decode cX1_begin 134 = .ok (.ireturn, 1) := by decide +kernel
theorem dX1_begin_135 : decode cX1_begin 135 = .ok (.iconst 2, 1) := by decide +kernel
theorem dX1_begin_136 : decode cX1_begin 136 = .ok (.aload_n 0, 1) := by decide +kernel
theorem dX1_begin_137 : decode cX1_begin 137 = .ok (.bipush 13, 2) := by decide +kernel
theorem dX1_begin_139 : decode cX1_begin 139 = .ok (.iload_n 3, 1) := by decide +kernel
theorem dX1_begin_140 : decode cX1_begin 140 = .ok (.invokestatic 56, 3) := by decide +kernel
theorem dX1_begin_143 : decode cX1_begin 143 = .ok (.imul, 1) := by decide +kernel
theorem dX1_begin_144 : decode cX1_begin 144 = .ok (.ireturn, 1) := by decide +kernel
theorem dX1_begin_145 : decode cX1_begin 145 = .ok (.aload_n 0, 1) := by decide +kernel
theorem dX1_begin_146 : decode cX1_begin 146 = .ok (.getfield 19, 3) := by decide +kernel
theorem dX1_begin_149 : decode cX1_begin 149 = .ok (.ireturn, 1) := by decide +kernel
theorem dX1_begin_150 : decode cX1_begin 150 = .ok (.aload_n 0, 1) := by decide +kernel
theorem dX1_begin_151 : decode cX1_begin 151 = .ok (.bipush 20, 2) := by decide +kernel
theorem dX1_begin_153 : decode cX1_begin 153 = .ok (.iload_n 3, 1) := by decide +kernel
theorem dX1_begin_154 : decode cX1_begin 154 = .ok (.invokestatic 56, 3) := by decide +kernel
theorem dX1_begin_157 : decode cX1_begin 157 = .ok (.aload_n 0, 1) := by decide +kernel
theorem dX1_begin_158 : decode cX1_begin 158 = .ok (.getfield 28, 3) := by decide +kernel
theorem dX1_begin_161 : decode cX1_begin 161 = .ok (.iadd, 1) := by decide +kernel
theorem dX1_begin_162 : decode cX1_begin 162 = .ok (.ireturn, 1) := by decide +kernel
theorem dX1_begin_163 : decode cX1_begin 163 = .ok (.aload_n 0, 1) := by decide +kernel
theorem dX1_begin_164 : decode cX1_begin 164 = .ok (.bipush 21, 2) := by decide +kernel
theorem dX1_begin_166 : decode cX1_begin 166 = .ok (.iload_n 3, 1) := by decide +kernel
theorem dX1_begin_167 : decode cX1_begin 167 = .ok (.invokestatic 56, 3) := by decide +kernel
theorem dX1_begin_170 : decode cX1_begin 170 = .ok (.sipush 1000, 3) := by decide +kernel
theorem dX1_begin_173 : decode cX1_begin 173 = .ok (.isub, 1) := by decide +kernel
theorem dX1_begin_174 : decode cX1_begin 174 = .ok (.ireturn, 1) := by decide +kernel
theorem dX1_begin_175 : decode cX1_begin 175 = .ok (.aload_n 0, 1) := by decide +kernel
theorem dX1_begin_176 : decode cX1_begin 176 = .ok (.bipush 20, 2) := by decide +kernel
theorem dX1_begin_178 : decode cX1_begin 178 = .ok (.iload_n 3, 1) := by decide +kernel
theorem dX1_begin_179 : decode cX1_begin 179 = .ok (.invokestatic 56, 3) := by decide +kernel
theorem dX1_begin_182 : decode cX1_begin 182 = .ok (.aload_n 0, 1) := by decide +kernel
theorem dX1_begin_183 : decode cX1_begin 183 = .ok (.aload_n 0, 1) := by decide +kernel
theorem dX1_begin_184 : decode cX1_begin 184 = .ok (.getfield 47, 3) := by decide +kernel
theorem dX1_begin_187 : decode cX1_begin 187 = .ok (.iload_n 3, 1) := by decide +kernel
theorem dX1_begin_188 : decode cX1_begin 188 = .ok (.invokestatic 56, 3) := by decide +kernel
theorem dX1_begin_191 : decode cX1_begin 191 = .ok (.isub, 1) := by decide +kernel
theorem dX1_begin_192 : decode cX1_begin 192 = .ok (.ireturn, 1) := by decide +kernel
theorem dX1_begin_193 : decode cX1_begin 193 = .ok (.iconst 2, 1) := by decide +kernel
theorem dX1_begin_194 : decode cX1_begin 194 = .ok (.aload_n 0, 1) := by decide +kernel
theorem dX1_begin_195 : decode cX1_begin 195 = .ok (.bipush 21, 2) := by decide +kernel
theorem dX1_begin_197 : decode cX1_begin 197 = .ok (.iload_n 3, 1) := by decide +kernel
theorem dX1_begin_198 : decode cX1_begin 198 = .ok (.invokestatic 56, 3) := by decide +kernel
theorem dX1_begin_201 : decode cX1_begin 201 = .ok (.imul, 1) := by decide +kernel
theorem dX1_begin_202 : decode cX1_begin 202 = .ok (.ireturn, 1) := by decide +kernel
theorem dX1_begin_203 : decode cX1_begin 203 = .ok (.iconst 0, 1) := by decide +kernel
theorem dX1_begin_204 : decode cX1_begin 204 = .ok (.ireturn, 1) := by decide +kernel
theorem dJ6_bitCount_0f7a4_0 : decode cJ6_bitCount_0f7a4 0 = .ok (.iload_n 0, 1) := by decide +kernel
theorem dJ6_bitCount_0f7a4_1 : decode cJ6_bitCount_0f7a4 1 = .ok (.iload_n 0, 1) := by decide +kernel
theorem dJ6_bitCount_0f7a4_2 : decode cJ6_bitCount_0f7a4 2 = .ok (.iconst 1, 1) := by decide +kernel
theorem dJ6_bitCount_0f7a4_3 : decode cJ6_bitCount_0f7a4 3 = .ok (.iushr, 1) := by decide +kernel
theorem dJ6_bitCount_0f7a4_4 : decode cJ6_bitCount_0f7a4 4 = .ok (.ldc_w 265, 3) := by decide +kernel
theorem dJ6_bitCount_0f7a4_7 : decode cJ6_bitCount_0f7a4 7 = .ok (.iand, 1) := by decide +kernel
theorem dJ6_bitCount_0f7a4_8 : decode cJ6_bitCount_0f7a4 8 = .ok (.isub, 1) := by decide +kernel
theorem dJ6_bitCount_0f7a4_9 : decode cJ6_bitCount_0f7a4 9 = .ok (.istore_n 0, 1) := by decide +kernel
theorem dJ6_bitCount_0f7a4_10 : decode cJ6_bitCount_0f7a4 10 = .ok (.iload_n 0, 1) := by decide +kernel
theorem dJ6_bitCount_0f7a4_11 : decode cJ6_bitCount_0f7a4 11 = .ok (.ldc_w 266, 3) := by decide +kernel
theorem dJ6_bitCount_0f7a4_14 : decode cJ6_bitCount_0f7a4 14 = .ok (.iand, 1) := by decide +kernel
theorem dJ6_bitCount_0f7a4_15 : decode cJ6_bitCount_0f7a4 15 = .ok (.iload_n 0, 1) := by decide +kernel
theorem dJ6_bitCount_0f7a4_16 : decode cJ6_bitCount_0f7a4 16 = .ok (.iconst 2, 1) := by decide +kernel
theorem dJ6_bitCount_0f7a4_17 : decode cJ6_bitCount_0f7a4 17 = .ok (.iushr, 1) := by decide +kernel
theorem dJ6_bitCount_0f7a4_18 : decode cJ6_bitCount_0f7a4 18 = .ok (.ldc_w 266, 3) := by decide +kernel
theorem dJ6_bitCount_0f7a4_21 : decode cJ6_bitCount_0f7a4 21 = .ok (.iand, 1) := by decide +kernel
theorem dJ6_bitCount_0f7a4_22 : decode cJ6_bitCount_0f7a4 22 = .ok (.iadd, 1) := by decide +kernel
theorem dJ6_bitCount_0f7a4_23 : decode cJ6_bitCount_0f7a4 23 = .ok (.istore_n 0, 1) := by decide +kernel
theorem dJ6_bitCount_0f7a4_24 : decode cJ6_bitCount_0f7a4 24 = .ok (.iload_n 0, 1) := by decide +kernel
theorem dJ6_bitCount_0f7a4_25 : decode cJ6_bitCount_0f7a4 25 = .ok (.iload_n 0, 1) := by decide +kernel
theorem dJ6_bitCount_0f7a4_26 : decode cJ6_bitCount_0f7a4 26 = .ok (.iconst 4, 1) := by decide +kernel
theorem dJ6_bitCount_0f7a4_27 : decode cJ6_bitCount_0f7a4 27 = .ok (.iushr, 1) := by decide +kernel
theorem dJ6_bitCount_0f7a4_28 : decode cJ6_bitCount_0f7a4 28 = .ok (.iadd, 1) := by decide +kernel
theorem dJ6_bitCount_0f7a4_29 : decode cJ6_bitCount_0f7a4 29 = .ok (.ldc_w 267, 3) := by decide +kernel
theorem dJ6_bitCount_0f7a4_32 : decode cJ6_bitCount_0f7a4 32 = .ok (.iand, 1) := by decide +kernel
theorem dJ6_bitCount_0f7a4_33 : decode cJ6_bitCount_0f7a4 33 = .ok (.istore_n 0, 1) := by decide +kernel
theorem dJ6_bitCount_0f7a4_34 : decode cJ6_bitCount_0f7a4 34 = .ok (.iload_n 0, 1) := by decide +kernel
theorem dJ6_bitCount_0f7a4_35 : decode cJ6_bitCount_0f7a4 35 = .ok (.iload_n 0, 1) := by decide +kernel
theorem dJ6_bitCount_0f7a4_36 : decode cJ6_bitCount_0f7a4 36 = .ok (.bipush 8, 2) := by decide +kernel
theorem dJ6_bitCount_0f7a4_38 : decode cJ6_bitCount_0f7a4 38 = .ok (.iushr, 1) := by decide +kernel
theorem dJ6_bitCount_0f7a4_39 : decode cJ6_bitCount_0f7a4 39 = .ok (.iadd, 1) := by decide +kernel
theorem dJ6_bitCount_0f7a4_40 : decode cJ6_bitCount_0f7a4 40 = .ok (.istore_n 0, 1) := by decide +kernel
theorem dJ6_bitCount_0f7a4_41 : decode cJ6_bitCount_0f7a4 41 = .ok (.iload_n 0, 1) := by decide +kernel
theorem dJ6_bitCount_0f7a4_42 : decode cJ6_bitCount_0f7a4 42 = .ok (.iload_n 0, 1) := by decide +kernel
theorem dJ6_bitCount_0f7a4_43 : decode cJ6_bitCount_0f7a4 43 = .ok (.bipush 16, 2) := by decide +kernel
theorem dJ6_bitCount_0f7a4_45 : decode cJ6_bitCount_0f7a4 45 = .ok (.iushr, 1) := by decide +kernel
theorem dJ6_bitCount_0f7a4_46 : decode cJ6_bitCount_0f7a4 46 = .ok (.iadd, 1) := by decide +kernel
theorem dJ6_bitCount_0f7a4_47 : decode cJ6_bitCount_0f7a4 47 = .ok (.istore_n 0, 1) := by decide +kernel
theorem dJ6_bitCount_0f7a4_48 : decode cJ6_bitCount_0f7a4 48 = .ok (.iload_n 0, 1) := by decide +kernel
theorem dJ6_bitCount_0f7a4_49 : decode cJ6_bitCount_0f7a4 49 = .ok (.bipush 63, 2) := by decide +kernel
theorem dJ6_bitCount_0f7a4_51 : decode cJ6_bitCount_0f7a4 51 = .ok (.iand, 1) := by decide +kernel
theorem dJ6_bitCount_0f7a4_52 : decode cJ6_bitCount_0f7a4 52 = .ok (.ireturn, 1) := by decide +kernel
theorem dX5_form_0 : decode cX5_form 0 = .ok (.aload_n 0, 1) := by decide +kernel
theorem dX5_form_1 : decode cX5_form 1 = .ok (.getfield 21, 3) := by decide +kernel
theorem dX5_form_4 : decode cX5_form 4 = .ok (.iload_n 1, 1) := by decide +kernel
theorem dX5_form_5 : decode cX5_form 5 = .ok (.iaload, 1) := by decide +kernel
theorem dX5_form_6 : decode cX5_form 6 = .ok (.invokestatic 52, 3) := by decide +kernel
theorem dX5_form_9 : decode cX5_form 9 = .ok (.ireturn, 1) := by decide +kernel
theorem dX5_seatOf_0 : decode cX5_seatOf 0 = .ok (.iconst 0, 1) := by decide +kernel
theorem dX5_seatOf_1 : decode cX5_seatOf 1 = .ok (.istore_n 2, 1) := by decide +kernel
theorem dX5_seatOf_2 : decode cX5_seatOf 2 = .ok (.iload_n 2, 1) := by decide +kernel
theorem dX5_seatOf_3 : decode cX5_seatOf 3 = .ok (.aload_n 0, 1) := by decide +kernel
theorem dX5_seatOf_4 : decode cX5_seatOf 4 = .ok (.getfield 40, 3) := by decide +kernel
theorem dX5_seatOf_7 : decode cX5_seatOf 7 = .ok (.if_icmp .ge 21, 3) := by decide +kernel
theorem dX5_seatOf_10 : decode cX5_seatOf 10 = .ok (.aload_n 0, 1) := by decide +kernel
theorem dX5_seatOf_11 : decode cX5_seatOf 11 = .ok (.getfield 24, 3) := by decide +kernel
theorem dX5_seatOf_14 : decode cX5_seatOf 14 = .ok (.iload_n 2, 1) := by decide +kernel
theorem dX5_seatOf_15 : decode cX5_seatOf 15 = .ok (.iaload, 1) := by decide +kernel
theorem dX5_seatOf_16 : decode cX5_seatOf 16 = .ok (.iload_n 1, 1) := by decide +kernel
theorem dX5_seatOf_17 : decode cX5_seatOf 17 = .ok (.if_icmp .ne 5, 3) := by decide +kernel
theorem dX5_seatOf_20 : decode cX5_seatOf 20 = .ok (.iload_n 2, 1) := by decide +kernel
theorem dX5_seatOf_21 : decode cX5_seatOf 21 = .ok (.ireturn, 1) := by decide +kernel
theorem dX5_seatOf_22 : decode cX5_seatOf 22 = .ok (.iinc 2 1, 3) := by decide +kernel
theorem dX5_seatOf_25 : decode cX5_seatOf 25 = .ok (.goto (-23), 3) := by decide +kernel
theorem dX5_seatOf_28 : decode cX5_seatOf 28 = .ok (.iconst 0, 1) := by decide +kernel
theorem dX5_seatOf_29 : decode cX5_seatOf 29 = .ok (.ireturn, 1) := by decide +kernel
theorem dX6_outside_0 : decode cX6_outside 0 = .ok (.iload_n 0, 1) := by decide +kernel
theorem dX6_outside_1 : decode cX6_outside 1 = .ok (.iload_n 1, 1) := by decide +kernel
theorem dX6_outside_2 : decode cX6_outside 2 = .ok (.if_icmp .lt 8, 3) := by decide +kernel
theorem dX6_outside_5 : decode cX6_outside 5 = .ok (.iload_n 0, 1) := by decide +kernel
theorem dX6_outside_6 : decode cX6_outside 6 = .ok (.iload_n 2, 1) := by decide +kernel
theorem dX6_outside_7 : decode cX6_outside 7 = .ok (.if_icmp .le 7, 3) := by decide +kernel
theorem dX6_outside_10 : decode cX6_outside 10 = .ok (.iconst 1, 1) := by decide +kernel
theorem dX6_outside_11 : decode cX6_outside 11 = .ok (.goto 4, 3) := by decide +kernel
theorem dX6_outside_14 : decode cX6_outside 14 = .ok (.iconst 0, 1) := by decide +kernel
theorem dX6_outside_15 : decode cX6_outside 15 = .ok (.ireturn, 1) := by decide +kernel
theorem dX1_answer_0 : decode cX1_answer 0 = .ok (.aload_n 0, 1) := by decide +kernel
theorem dX1_answer_1 : decode cX1_answer 1 = .ok (.iconst 0, 1) := by decide +kernel
theorem dX1_answer_2 : decode cX1_answer 2 = .ok (.putfield 15, 3) := by decide +kernel
theorem dX1_answer_5 : decode cX1_answer 5 = .ok (.aload_n 0, 1) := by decide +kernel
theorem dX1_answer_6 : decode cX1_answer 6 = .ok (.iload_n 2, 1) := by decide +kernel
theorem dX1_answer_7 : decode cX1_answer 7 = .ok (.putfield 19, 3) := by decide +kernel
theorem dX1_answer_10 : decode cX1_answer 10 = .ok (.aload_n 0, 1) := by decide +kernel
theorem dX1_answer_11 : decode cX1_answer 11 = .ok (.aload_n 1, 1) := by decide +kernel
theorem dX1_answer_12 : decode cX1_answer 12 = .ok (.iload_n 2, 1) := by decide +kernel
theorem dX1_answer_13 : decode cX1_answer 13 = .ok (.invokevirtual 22, 3) := by decide +kernel
theorem dX1_answer_16 : decode cX1_answer 16 = .ok (.putfield 28, 3) := by decide +kernel
theorem dX1_answer_19 : decode cX1_answer 19 = .ok (.aload_n 0, 1) := by decide +kernel
theorem dX1_answer_20 : decode cX1_answer 20 = .ok (.aload_n 1, 1) := by decide +kernel
theorem dX1_answer_21 : decode cX1_answer 21 = .ok (.iload_n 2, 1) := by decide +kernel
theorem dX1_answer_22 : decode cX1_answer 22 = .ok (.invokevirtual 31, 3) := by decide +kernel
theorem dX1_answer_25 : decode cX1_answer 25 = .ok (.putfield 34, 3) := by decide +kernel
theorem dX1_answer_28 : decode cX1_answer 28 = .ok (.aload_n 1, 1) := by decide +kernel
theorem dX1_answer_29 : decode cX1_answer 29 = .ok (.getfield 36, 3) := by decide +kernel
theorem dX1_answer_32 : decode cX1_answer 32 = .ok (.iload_n 2, 1) := by decide +kernel
theorem dX1_answer_33 : decode cX1_answer 33 = .ok (.iaload, 1) := by decide +kernel
theorem dX1_answer_34 : decode cX1_answer 34 = .ok (.istore 4, 2) := by decide +kernel
theorem dX1_answer_36 : decode cX1_answer 36 = .ok (.iload 4, 2) := by decide +kernel
theorem dX1_answer_38 : decode cX1_answer 38 = .ok (.iconst 0, 1) := by decide +kernel
theorem dX1_answer_39 : decode cX1_answer 39 = .ok (.iconst 5, 1) := by decide +kernel
theorem dX1_answer_40 : decode cX1_answer 40 = .ok (.invokestatic 39, 3) := by decide +kernel
theorem dX1_answer_43 : decode cX1_answer 43 = .ok (.ifCond .eq 6, 3) := by decide +kernel
theorem dX1_answer_46 : decode cX1_answer 46 = .ok (.ldc 43, 2) := by decide +kernel
theorem dX1_answer_48 : decode cX1_answer 48 = .ok (.ireturn, 1) := by decide +kernel
theorem dX1_answer_49 : decode cX1_answer 49 = .ok (.aload_n 0, 1) := by decide +kernel
theorem dX1_answer_50 : decode cX1_answer 50 = .ok (.getstatic 44, 3) := by decide +kernel
theorem dX1_answer_53 : decode cX1_answer 53 = .ok (.iload 4, 2) := by decide +kernel
theorem dX1_answer_55 : decode cX1_answer 55 = .ok (.iaload, 1) := by decide +kernel
theorem dX1_answer_56 : decode cX1_answer 56 = .ok (.putfield 47, 3) := by decide +kernel
theorem dX1_answer_59 : decode cX1_answer 59 = .ok (.aload_n 0, 1) := by decide +kernel
theorem dX1_answer_60 : decode cX1_answer 60 = .ok (.getstatic 50, 3) := by decide +kernel
theorem dX1_answer_63 : decode cX1_answer 63 = .ok (.iload 4, 2) := by decide +kernel
theorem dX1_answer_65 : decode cX1_answer 65 = .ok (.iaload, 1) := by decide +kernel
theorem dX1_answer_66 : decode cX1_answer 66 = .ok (.putfield 53, 3) := by decide +kernel
theorem dX1_answer_69 : decode cX1_answer 69 = .ok (.aload_n 0, 1) := by decide +kernel
theorem dX1_answer_70 : decode cX1_answer 70 = .ok (.iload_n 3, 1) := by decide +kernel
theorem dX1_answer_71 : decode cX1_answer 71 = .ok (.ifCond .ne 10, 3) := by decide +kernel
theorem dX1_answer_74 : decode cX1_answer 74 = .ok (.aload_n 0, 1) := by decide +kernel
theorem dX1_answer_75 : decode cX1_answer 75 = .ok (.getfield 47, 3) := by decide +kernel
theorem dX1_answer_78 : decode cX1_answer 78 = .ok (.goto 7, 3) := by decide +kernel
theorem dX1_answer_81 : decode cX1_answer 81 = .ok (.aload_n 0, 1) := by decide +kernel
theorem dX1_answer_82 : decode cX1_answer 82 = .ok (.getfield 53, 3) := by decide +kernel
theorem dX1_answer_85 : decode cX1_answer 85 = .ok (.iconst 0, 1) := by decide +kernel
theorem dX1_answer_86 : decode cX1_answer 86 = .ok (.invokestatic 56, 3) := by decide +kernel
theorem dX1_answer_89 : decode cX1_answer 89 = .ok (.ireturn, 1) := by decide +kernel
theorem dX2_init_0 : decode cX2_init 0 = .ok (.aload_n 0, 1) := by decide +kernel
theorem dX2_init_1 : decode cX2_init 1 = .ok (.invokespecial 3, 3) := by decide +kernel
theorem dX2_init_4 : decode cX2_init 4 = .ok (.aload_n 0, 1) := by decide +kernel
theorem dX2_init_5 : decode cX2_init 5 = .ok (.new 9, 3) := by decide +kernel
theorem dX2_init_8 : decode cX2_init 8 = .ok (.dup, 1) := by decide +kernel
theorem dX2_init_9 : decode cX2_init 9 = .ok (.invokespecial 11, 3) := by decide +kernel
theorem dX2_init_12 : decode cX2_init 12 = .ok (.putfield 12, 3) := by decide +kernel
theorem dX2_init_15 : decode cX2_init 15 = .ok (.aload_n 0, 1) := by decide +kernel
theorem dX2_init_16 : decode cX2_init 16 = .ok (.bipush 6, 2) := by decide +kernel
theorem dX2_init_18 : decode cX2_init 18 = .ok (.newarray .int, 2) := by decide +kernel
theorem dX2_init_20 : decode cX2_init 20 = .ok (.putfield 18, 3) := by decide +kernel
theorem dX2_init_23 : decode cX2_init 23 = .ok (.aload_n 0, 1) := by decide +kernel
theorem dX2_init_24 : decode cX2_init 24 = .ok (.bipush 6, 2) := by decide +kernel
theorem dX2_init_26 : decode cX2_init 26 = .ok (.newarray .int, 2) := by decide +kernel
theorem dX2_init_28 : decode cX2_init 28 = .ok (.putfield 22, 3) := by decide +kernel
theorem dX2_init_31 : decode cX2_init 31 = .ok (.return_, 1) := by decide +kernel
theorem dX5_timesHeard_0 : decode cX5_timesHeard 0 = .ok (.aload_n 0, 1) := by decide +kernel
theorem dX5_timesHeard_1 : decode cX5_timesHeard 1 = .ok (.getfield 27, 3) := by decide +kernel
theorem dX5_timesHeard_4 : decode cX5_timesHeard 4 = .ok (.iload_n 1, 1) := by decide +kernel
theorem dX5_timesHeard_5 : decode cX5_timesHeard 5 = .ok (.bipush 6, 2) := by decide +kernel
theorem dX5_timesHeard_7 : decode cX5_timesHeard 7 = .ok (.imul, 1) := by decide +kernel
theorem dX5_timesHeard_8 : decode cX5_timesHeard 8 = .ok (.iload_n 2, 1) := by decide +kernel
theorem dX5_timesHeard_9 : decode cX5_timesHeard 9 = .ok (.iadd, 1) := by decide +kernel
theorem dX5_timesHeard_10 : decode cX5_timesHeard 10 = .ok (.iaload, 1) := by decide +kernel
theorem dX5_timesHeard_11 : decode cX5_timesHeard 11 = .ok (.ireturn, 1) := by decide +kernel
theorem dX5_learnAsSnake_0 : decode cX5_learnAsSnake 0 = .ok (.aload_n 0, 1) := by decide +kernel
theorem dX5_learnAsSnake_1 : decode cX5_learnAsSnake 1 = .ok (.iload_n 1, 1) := by decide +kernel
theorem dX5_learnAsSnake_2 : decode cX5_learnAsSnake 2 = .ok (.iload_n 2, 1) := by decide +kernel
theorem dX5_learnAsSnake_3 : decode cX5_learnAsSnake 3 = .ok (.invokevirtual 87, 3) := by decide +kernel
theorem dX5_learnAsSnake_6 : decode cX5_learnAsSnake 6 = .ok (.aload_n 0, 1) := by decide +kernel
theorem dX5_learnAsSnake_7 : decode cX5_learnAsSnake 7 = .ok (.getfield 9, 3) := by decide +kernel
theorem dX5_learnAsSnake_10 : decode cX5_learnAsSnake 10 = .ok (.iload_n 2, 1) := by decide +kernel
theorem dX5_learnAsSnake_11 : decode cX5_learnAsSnake 11 = .ok (.iaload, 1) := by decide +kernel
theorem dX5_learnAsSnake_12 : decode cX5_learnAsSnake 12 = .ok (.invokestatic 52, 3) := by decide +kernel
theorem dX5_learnAsSnake_15 : decode cX5_learnAsSnake 15 = .ok (.if_icmp .lt 15, 3) := by decide +kernel
theorem dX5_learnAsSnake_18 : decode cX5_learnAsSnake 18 = .ok (.aload_n 0, 1) := by decide +kernel
theorem dX5_learnAsSnake_19 : decode cX5_learnAsSnake 19 = .ok (.getfield 21, 3) := by decide +kernel
theorem dX5_learnAsSnake_22 : decode cX5_learnAsSnake 22 = .ok (.iload_n 1, 1) := by decide +kernel
theorem dX5_learnAsSnake_23 : decode cX5_learnAsSnake 23 = .ok (.dup2, 1) := by decide +kernel
theorem dX5_learnAsSnake_24 : decode cX5_learnAsSnake 24 = .ok (.iaload, 1) := by decide +kernel
theorem dX5_learnAsSnake_25 : decode cX5_learnAsSnake 25 = .ok (.iconst 1, 1) := by decide +kernel
theorem dX5_learnAsSnake_26 : decode cX5_learnAsSnake 26 = .ok (.iload_n 2, 1) := by decide +kernel
theorem dX5_learnAsSnake_27 : decode cX5_learnAsSnake 27 = .ok (.ishl, 1) := by decide +kernel
theorem dX5_learnAsSnake_28 : decode cX5_learnAsSnake 28 = .ok (.ior, 1) := by decide +kernel
theorem dX5_learnAsSnake_29 : decode cX5_learnAsSnake 29 = .ok (.iastore, 1) := by decide +kernel
theorem dX5_learnAsSnake_30 : decode cX5_learnAsSnake 30 = .ok (.aload_n 0, 1) := by decide +kernel
theorem dX5_learnAsSnake_31 : decode cX5_learnAsSnake 31 = .ok (.getfield 18, 3) := by decide +kernel
theorem dX5_learnAsSnake_34 : decode cX5_learnAsSnake 34 = .ok (.iload_n 1, 1) := by decide +kernel
theorem dX5_learnAsSnake_35 : decode cX5_learnAsSnake 35 = .ok (.iaload, 1) := by decide +kernel
theorem dX5_learnAsSnake_36 : decode cX5_learnAsSnake 36 = .ok (.iconst 5, 1) := by decide +kernel
theorem dX5_learnAsSnake_37 : decode cX5_learnAsSnake 37 = .ok (.if_icmp .ne 29, 3) := by decide +kernel
theorem dX5_learnAsSnake_40 : decode cX5_learnAsSnake 40 = .ok (.aload_n 0, 1) := by decide +kernel
theorem dX5_learnAsSnake_41 : decode cX5_learnAsSnake 41 = .ok (.iload_n 1, 1) := by decide +kernel
theorem dX5_learnAsSnake_42 : decode cX5_learnAsSnake 42 = .ok (.invokevirtual 91, 3) := by decide +kernel
theorem dX5_learnAsSnake_45 : decode cX5_learnAsSnake 45 = .ok (.iconst 4, 1) := by decide +kernel
theorem dX5_learnAsSnake_46 : decode cX5_learnAsSnake 46 = .ok (.if_icmp .le 20, 3) := by decide +kernel
theorem dX5_learnAsSnake_49 : decode cX5_learnAsSnake 49 = .ok (.aload_n 0, 1) := by decide +kernel
theorem dX5_learnAsSnake_50 : decode cX5_learnAsSnake 50 = .ok (.getfield 21, 3) := by decide +kernel
theorem dX5_learnAsSnake_53 : decode cX5_learnAsSnake 53 = .ok (.iload_n 1, 1) := by decide +kernel
theorem dX5_learnAsSnake_54 : decode cX5_learnAsSnake 54 = .ok (.dup2, 1) := by decide +kernel
theorem dX5_learnAsSnake_55 : decode cX5_learnAsSnake 55 = .ok (.iaload, 1) := by decide +kernel
theorem dX5_learnAsSnake_56 : decode cX5_learnAsSnake 56 = .ok (.aload_n 0, 1) := by decide +kernel
theorem dX5_learnAsSnake_57 : decode cX5_learnAsSnake 57 = .ok (.getfield 21, 3) := by decide +kernel
theorem dX5_learnAsSnake_60 : decode cX5_learnAsSnake 60 = .ok (.iload_n 1, 1) := by decide +kernel
theorem dX5_learnAsSnake_61 : decode cX5_learnAsSnake 61 = .ok (.iaload, 1) := by decide +kernel
theorem dX5_learnAsSnake_62 : decode cX5_learnAsSnake 62 = .ok (.iconst 1, 1) := by decide +kernel
theorem dX5_learnAsSnake_63 : decode cX5_learnAsSnake 63 = .ok (.isub, 1) := by decide +kernel
theorem dX5_learnAsSnake_64 : decode cX5_learnAsSnake 64 = .ok (.iand, 1) := by decide +kernel
theorem dX5_learnAsSnake_65 : decode cX5_learnAsSnake 65 = .ok (.iastore, 1) := by decide +kernel
theorem dX5_learnAsSnake_66 : decode cX5_learnAsSnake 66 = .ok (.return_, 1) := by decide +kernel
theorem dX5_learnByGrasp_0 : decode cX5_learnByGrasp 0 = .ok (.aload_n 0, 1) := by decide +kernel
theorem dX5_learnByGrasp_1 : decode cX5_learnByGrasp 1 = .ok (.getfield 9, 3) := by decide +kernel
theorem dX5_learnByGrasp_4 : decode cX5_learnByGrasp 4 = .ok (.iload_n 2, 1) := by decide +kernel
theorem dX5_learnByGrasp_5 : decode cX5_learnByGrasp 5 = .ok (.iaload, 1) := by decide +kernel
theorem dX5_learnByGrasp_6 : decode cX5_learnByGrasp 6 = .ok (.aload_n 0, 1) := by decide +kernel
theorem dX5_learnByGrasp_7 : decode cX5_learnByGrasp 7 = .ok (.getfield 21, 3) := by decide +kernel
theorem dX5_learnByGrasp_10 : decode cX5_learnByGrasp 10 = .ok (.iload_n 1, 1) := by decide +kernel
theorem dX5_learnByGrasp_11 : decode cX5_learnByGrasp 11 = .ok (.iaload, 1) := by decide +kernel
theorem dX5_learnByGrasp_12 : decode cX5_learnByGrasp 12 = .ok (.iconst (-1), 1) := by decide +kernel
theorem dX5_learnByGrasp_13 : decode cX5_learnByGrasp 13 = .ok (.ixor, 1) := by decide +kernel
theorem dX5_learnByGrasp_14 : decode cX5_learnByGrasp 14 = .ok (.iand, 1) := by decide +kernel
theorem dX5_learnByGrasp_15 : decode cX5_learnByGrasp 15 = .ok (.ifCond .ne 15, 3) := by decide +kernel
theorem dX5_learnByGrasp_18 : decode cX5_learnByGrasp 18 = .ok (.aload_n 0, 1) := by decide +kernel
theorem dX5_learnByGrasp_19 : decode cX5_learnByGrasp 19 = .ok (.getfield 21, 3) := by decide +kernel
theorem dX5_learnByGrasp_22 : decode cX5_learnByGrasp 22 = .ok (.iload_n 1, 1) := by decide +kernel
theorem dX5_learnByGrasp_23 : decode cX5_learnByGrasp 23 = .ok (.dup2, 1) := by decide +kernel
theorem dX5_learnByGrasp_24 : decode cX5_learnByGrasp 24 = .ok (.iaload, 1) := by decide +kernel
theorem dX5_learnByGrasp_25 : decode cX5_learnByGrasp 25 = .ok (.iconst 1, 1) := by decide +kernel
theorem dX5_learnByGrasp_26 : decode cX5_learnByGrasp 26 = .ok (.iload_n 2, 1) := by decide +kernel
theorem dX5_learnByGrasp_27 : decode cX5_learnByGrasp 27 = .ok (.ishl, 1) := by decide +kernel
theorem dX5_learnByGrasp_28 : decode cX5_learnByGrasp 28 = .ok (.ior, 1) := by decide +kernel
theorem dX5_learnByGrasp_29 : decode cX5_learnByGrasp 29 = .ok (.iastore, 1) := by decide +kernel
theorem dX5_learnByGrasp_30 : decode cX5_learnByGrasp 30 = .ok (.return_, 1) := by decide +kernel
theorem dX5_learnOnwards_0 : decode cX5_learnOnwards 0 = .ok (.iload_n 2, 1) := by decide +kernel
theorem dX5_learnOnwards_1 : decode cX5_learnOnwards 1 = .ok (.iconst 1, 1) := by decide +kernel
theorem dX5_learnOnwards_2 : decode cX5_learnOnwards 2 = .ok (.iadd, 1) := by decide +kernel
theorem dX5_learnOnwards_3 : decode cX5_learnOnwards 3 = .ok (.istore_n 3, 1) := by decide +kernel
theorem dX5_learnOnwards_4 : decode cX5_learnOnwards 4 = .ok (.iload_n 3, 1) := by decide +kernel
theorem dX5_learnOnwards_5 : decode cX5_learnOnwards 5 = .ok (.aload_n 0, 1) := by decide +kernel
theorem dX5_learnOnwards_6 : decode cX5_learnOnwards 6 = .ok (.getfield 34, 3) := by decide +kernel
theorem dX5_learnOnwards_9 : decode cX5_learnOnwards 9 = .ok (.if_icmp .ge 24, 3) := by decide +kernel
theorem dX5_learnOnwards_12 : decode cX5_learnOnwards 12 = .ok (.aload_n 0, 1) := by decide +kernel
theorem dX5_learnOnwards_13 : decode cX5_learnOnwards 13 = .ok (.getfield 9, 3) := by decide +kernel
theorem dX5_learnOnwards_16 : decode cX5_learnOnwards 16 = .ok (.iload_n 3, 1) := by decide +kernel
theorem dX5_learnOnwards_17 : decode cX5_learnOnwards 17 = .ok (.iaload, 1) := by decide +kernel
theorem dX5_learnOnwards_18 : decode cX5_learnOnwards 18 = .ok (.ifCond .eq 9, 3) := by decide +kernel
theorem dX5_learnOnwards_21 : decode cX5_learnOnwards 21 = .ok (.aload_n 0, 1) := by decide +kernel
theorem dX5_learnOnwards_22 : decode cX5_learnOnwards 22 = .ok (.iload_n 1, 1) := by decide +kernel
theorem dX5_learnOnwards_23 : decode cX5_learnOnwards 23 = .ok (.iload_n 3, 1) := by decide +kernel
theorem dX5_learnOnwards_24 : decode cX5_learnOnwards 24 = .ok (.invokevirtual 78, 3) := by decide +kernel
theorem dX5_learnOnwards_27 : decode cX5_learnOnwards 27 = .ok (.iinc 3 1, 3) := by decide +kernel
theorem dX5_learnOnwards_30 : decode cX5_learnOnwards 30 = .ok (.goto (-26), 3) := by decide +kernel
theorem dX5_learnOnwards_33 : decode cX5_learnOnwards 33 = .ok (.return_, 1) := by decide +kernel
theorem dX5_hearLesson_0 : decode cX5_hearLesson 0 = .ok (.iload_n 1, 1) := by decide +kernel
theorem dX5_hearLesson_1 : decode cX5_hearLesson 1 = .ok (.bipush 6, 2) := by decide +kernel
theorem dX5_hearLesson_3 : decode cX5_hearLesson 3 = .ok (.imul, 1) := by decide +kernel
theorem dX5_hearLesson_4 : decode cX5_hearLesson 4 = .ok (.iload_n 2, 1) := by decide +kernel
theorem dX5_hearLesson_5 : decode cX5_hearLesson 5 = .ok (.iadd, 1) := by decide +kernel
theorem dX5_hearLesson_6 : decode cX5_hearLesson 6 = .ok (.istore_n 3, 1) := by decide +kernel
theorem dX5_hearLesson_7 : decode cX5_hearLesson 7 = .ok (.aload_n 0, 1) := by decide +kernel
theorem dX5_hearLesson_8 : decode cX5_hearLesson 8 = .ok (.getfield 27, 3) := by decide +kernel
theorem dX5_hearLesson_11 : decode cX5_hearLesson 11 = .ok (.iload_n 3, 1) := by decide +kernel
theorem dX5_hearLesson_12 : decode cX5_hearLesson 12 = .ok (.iaload, 1) := by decide +kernel
theorem dX5_hearLesson_13 : decode cX5_hearLesson 13 = .ok (.bipush 99, 2) := by decide +kernel
theorem dX5_hearLesson_15 : decode cX5_hearLesson 15 = .ok (.if_icmp .ge 13, 3) := by decide +kernel
theorem dX5_hearLesson_18 : decode cX5_hearLesson 18 = .ok (.aload_n 0, 1) := by decide +kernel
theorem dX5_hearLesson_19 : decode cX5_hearLesson 19 = .ok (.getfield 27, 3) := by decide +kernel
theorem dX5_hearLesson_22 : decode cX5_hearLesson 22 = .ok (.iload_n 3, 1) := by decide +kernel
theorem dX5_hearLesson_23 : decode cX5_hearLesson 23 = .ok (.dup2, 1) := by decide +kernel
theorem dX5_hearLesson_24 : decode cX5_hearLesson 24 = .ok (.iaload, 1) := by decide +kernel
theorem dX5_hearLesson_25 : decode cX5_hearLesson 25 = .ok (.iconst 1, 1) := by decide +kernel
theorem dX5_hearLesson_26 : decode cX5_hearLesson 26 = .ok (.iadd, 1) := by decide +kernel
theorem dX5_hearLesson_27 : decode cX5_hearLesson 27 = .ok (.iastore, 1) := by decide +kernel
theorem dX5_hearLesson_28 : decode cX5_hearLesson 28 = .ok (.aload_n 0, 1) := by decide +kernel
theorem dX5_hearLesson_29 : decode cX5_hearLesson 29 = .ok (.getfield 18, 3) := by decide +kernel
theorem dX5_hearLesson_32 : decode cX5_hearLesson 32 = .ok (.iload_n 1, 1) := by decide +kernel
theorem dX5_hearLesson_33 : decode cX5_hearLesson 33 = .ok (.iaload, 1) := by decide +kernel
theorem dX5_hearLesson_34 : decode cX5_hearLesson 34 = .ok (.tableswitch 69 1 3 #[26, 35, 50], 26) := by decide +kernel
theorem dX5_hearLesson_60 : decode cX5_hearLesson 60 = .ok (.aload_n 0, 1) := by decide +kernel
theorem dX5_hearLesson_61 : decode cX5_hearLesson 61 = .ok (.iload_n 1, 1) := by decide +kernel
theorem dX5_hearLesson_62 : decode cX5_hearLesson 62 = .ok (.iload_n 2, 1) := by decide +kernel
theorem dX5_hearLesson_63 : decode cX5_hearLesson 63 = .ok (.invokevirtual 78, 3) := by decide +kernel
theorem dX5_hearLesson_66 : decode cX5_hearLesson 66 = .ok (.goto 43, 3) := by decide +kernel
theorem dX5_hearLesson_69 : decode cX5_hearLesson 69 = .ok (.aload_n 0, 1) := by decide +kernel
theorem dX5_hearLesson_70 : decode cX5_hearLesson 70 = .ok (.iload_n 1, 1) := by decide +kernel
theorem dX5_hearLesson_71 : decode cX5_hearLesson 71 = .ok (.iload_n 2, 1) := by decide +kernel
theorem dX5_hearLesson_72 : decode cX5_hearLesson 72 = .ok (.invokevirtual 78, 3) := by decide +kernel
theorem dX5_hearLesson_75 : decode cX5_hearLesson 75 = .ok (.aload_n 0, 1) := by decide +kernel
theorem dX5_hearLesson_76 : decode cX5_hearLesson 76 = .ok (.iload_n 1, 1) := by decide +kernel
theorem dX5_hearLesson_77 : decode cX5_hearLesson 77 = .ok (.iload_n 2, 1) := by decide +kernel
theorem dX5_hearLesson_78 : decode cX5_hearLesson 78 = .ok (.invokevirtual 81, 3) := by decide +kernel
theorem dX5_hearLesson_81 : decode cX5_hearLesson 81 = .ok (.goto 28, 3) := by decide +kernel
theorem dX5_hearLesson_84 : decode cX5_hearLesson 84 = .ok (.aload_n 0, 1) := by decide +kernel
theorem dX5_hearLesson_85 : decode cX5_hearLesson 85 = .ok (.getfield 27, 3) := by decide +kernel
theorem dX5_hearLesson_88 : decode cX5_hearLesson 88 = .ok (.iload_n 3, 1) := by decide +kernel
theorem dX5_hearLesson_89 : decode cX5_hearLesson 89 = .ok (.iaload, 1) := by decide +kernel
theorem dX5_hearLesson_90 : decode cX5_hearLesson 90 = .ok (.iconst 2, 1) := by decide +kernel
theorem dX5_hearLesson_91 : decode cX5_hearLesson 91 = .ok (.if_icmp .lt 18, 3) := by decide +kernel
theorem dX5_hearLesson_94 : decode cX5_hearLesson 94 = .ok (.aload_n 0, 1) := by decide +kernel
theorem dX5_hearLesson_95 : decode cX5_hearLesson 95 = .ok (.iload_n 1, 1) := by decide +kernel
theorem dX5_hearLesson_96 : decode cX5_hearLesson 96 = .ok (.iload_n 2, 1) := by decide +kernel
theorem dX5_hearLesson_97 : decode cX5_hearLesson 97 = .ok (.invokevirtual 78, 3) := by decide +kernel
theorem dX5_hearLesson_100 : decode cX5_hearLesson 100 = .ok (.goto 9, 3) := by decide +kernel
theorem dX5_hearLesson_103 : decode cX5_hearLesson 103 = .ok (.aload_n 0, 1) := by decide +kernel
theorem dX5_hearLesson_104 : decode cX5_hearLesson 104 = .ok (.iload_n 1, 1) := by decide +kernel
theorem dX5_hearLesson_105 : decode cX5_hearLesson 105 = .ok (.iload_n 2, 1) := by decide +kernel
theorem dX5_hearLesson_106 : decode cX5_hearLesson 106 = .ok (.invokevirtual 84, 3) := by decide +kernel
theorem dX5_hearLesson_109 : decode cX5_hearLesson 109 = .ok (.return_, 1) := by decide +kernel
theorem dX6_isKind_0 : decode cX6_isKind 0 = .ok (.iload_n 1, 1) := by decide +kernel
theorem dX6_isKind_1 : decode cX6_isKind 1 = .ok (.tableswitch 74 0 4 #[35, 37, 74, 74, 58], 35) := by decide +kernel
theorem dX6_isKind_36 : decode cX6_isKind 36 = .ok (.iconst 1, 1) := by decide +kernel
theorem dX6_isKind_37 : decode cX6_isKind 37 = .ok (.ireturn, 1) := by decide +kernel
theorem dX6_isKind_38 : decode cX6_isKind 38 = .ok (.iload_n 0, 1) := by decide +kernel
theorem dX6_isKind_39 : decode cX6_isKind 39 = .ok (.iconst 1, 1) := by decide +kernel
theorem dX6_isKind_40 : decode cX6_isKind 40 = .ok (.if_icmp .eq 13, 3) := by decide +kernel
theorem dX6_isKind_43 : decode cX6_isKind 43 = .ok (.iload_n 0, 1) := by decide +kernel
theorem dX6_isKind_44 : decode cX6_isKind 44 = .ok (.iconst 2, 1) := by decide +kernel
theorem dX6_isKind_45 : decode cX6_isKind 45 = .ok (.if_icmp .eq 8, 3) := by decide +kernel
theorem dX6_isKind_48 : decode cX6_isKind 48 = .ok (.iload_n 0, 1) := by decide +kernel
theorem dX6_isKind_49 : decode cX6_isKind 49 = .ok (.iconst 3, 1) := by decide +kernel
theorem dX6_isKind_50 : decode cX6_isKind 50 = .ok (.if_icmp .ne 7, 3) := by decide +kernel
theorem dX6_isKind_53 : decode cX6_isKind 53 = .ok (.iconst 1, 1) := by decide +kernel
theorem dX6_isKind_54 : decode cX6_isKind 54 = .ok (.goto 4, 3) := by decide +kernel
theorem dX6_isKind_57 : decode cX6_isKind 57 = .ok (.iconst 0, 1) := by decide +kernel
theorem dX6_isKind_58 : decode cX6_isKind 58 = .ok (.ireturn, 1) := by decide +kernel
theorem dX6_isKind_59 : decode cX6_isKind 59 = .ok (.iload_n 0, 1) := by decide +kernel
theorem dX6_isKind_60 : decode cX6_isKind 60 = .ok (.iconst 4, 1) := by decide +kernel
theorem dX6_isKind_61 : decode cX6_isKind 61 = .ok (.if_icmp .eq 8, 3) := by decide +kernel
theorem dX6_isKind_64 : decode cX6_isKind 64 = .ok (.iload_n 0, 1) := by decide +kernel
theorem dX6_isKind_65 : decode cX6_isKind 65 = .ok (.iconst 5, 1) := by decide +kernel
theorem dX6_isKind_66 : decode cX6_isKind 66 = .ok (.if_icmp .ne 7, 3) := by decide +kernel
theorem dX6_isKind_69 : decode cX6_isKind 69 = .ok (.iconst 1, 1) := by decide +kernel
theorem dX6_isKind_70 : decode cX6_isKind 70 = .ok (.goto 4, 3) := by decide +kernel
theorem dX6_isKind_73 : decode cX6_isKind 73 = .ok (.iconst 0, 1) := by decide +kernel
theorem dX6_isKind_74 : decode cX6_isKind 74 = .ok (.ireturn, 1) := by decide +kernel
theorem dX6_isKind_75 : decode cX6_isKind 75 = .ok (.iload_n 0, 1) := by decide +kernel
theorem dX6_isKind_76 : decode cX6_isKind 76 = .ok (.iload_n 1, 1) := by decide +kernel
theorem dX6_isKind_77 : decode cX6_isKind 77 = .ok (.if_icmp .ne 7, 3) := by decide +kernel
theorem dX6_isKind_80 : decode cX6_isKind 80 = .ok (.iconst 1, 1) := by decide +kernel
theorem dX6_isKind_81 : decode cX6_isKind 81 = .ok (.goto 4, 3) := by decide +kernel
theorem dX6_isKind_84 : decode cX6_isKind 84 = .ok (.iconst 0, 1) := by decide +kernel
theorem dX6_isKind_85 : decode cX6_isKind 85 = .ok (.ireturn, 1) := by decide +kernel
theorem dX5_hearsAnyway_0 : decode cX5_hearsAnyway 0 = .ok (.iload_n 2, 1) := by decide +kernel
theorem dX5_hearsAnyway_1 : decode cX5_hearsAnyway 1 = .ok (.aload_n 0, 1) := by decide +kernel
theorem dX5_hearsAnyway_2 : decode cX5_hearsAnyway 2 = .ok (.getfield 30, 3) := by decide +kernel
theorem dX5_hearsAnyway_5 : decode cX5_hearsAnyway 5 = .ok (.if_icmp .le 16, 3) := by decide +kernel
theorem dX5_hearsAnyway_8 : decode cX5_hearsAnyway 8 = .ok (.aload_n 0, 1) := by decide +kernel
theorem dX5_hearsAnyway_9 : decode cX5_hearsAnyway 9 = .ok (.getfield 18, 3) := by decide +kernel
theorem dX5_hearsAnyway_12 : decode cX5_hearsAnyway 12 = .ok (.iload_n 1, 1) := by decide +kernel
theorem dX5_hearsAnyway_13 : decode cX5_hearsAnyway 13 = .ok (.iaload, 1) := by decide +kernel
theorem dX5_hearsAnyway_14 : decode cX5_hearsAnyway 14 = .ok (.iconst 4, 1) := by decide +kernel
theorem dX5_hearsAnyway_15 : decode cX5_hearsAnyway 15 = .ok (.invokestatic 58, 3) := by decide +kernel
theorem dX5_hearsAnyway_18 : decode cX5_hearsAnyway 18 = .ok (.ifCond .eq 7, 3) := by decide +kernel
theorem dX5_hearsAnyway_21 : decode cX5_hearsAnyway 21 = .ok (.iconst 1, 1) := by decide +kernel
theorem dX5_hearsAnyway_22 : decode cX5_hearsAnyway 22 = .ok (.goto 4, 3) := by decide +kernel
theorem dX5_hearsAnyway_25 : decode cX5_hearsAnyway 25 = .ok (.iconst 0, 1) := by decide +kernel
theorem dX5_hearsAnyway_26 : decode cX5_hearsAnyway 26 = .ok (.ireturn, 1) := by decide +kernel
theorem dX5_knowsIt_0 : decode cX5_knowsIt 0 = .ok (.aload_n 0, 1) := by decide +kernel
theorem dX5_knowsIt_1 : decode cX5_knowsIt 1 = .ok (.getfield 21, 3) := by decide +kernel
theorem dX5_knowsIt_4 : decode cX5_knowsIt 4 = .ok (.iload_n 1, 1) := by decide +kernel
theorem dX5_knowsIt_5 : decode cX5_knowsIt 5 = .ok (.iaload, 1) := by decide +kernel
theorem dX5_knowsIt_6 : decode cX5_knowsIt 6 = .ok (.iload_n 2, 1) := by decide +kernel
theorem dX5_knowsIt_7 : decode cX5_knowsIt 7 = .ok (.ishr, 1) := by decide +kernel
theorem dX5_knowsIt_8 : decode cX5_knowsIt 8 = .ok (.iconst 1, 1) := by decide +kernel
theorem dX5_knowsIt_9 : decode cX5_knowsIt 9 = .ok (.iand, 1) := by decide +kernel
theorem dX5_knowsIt_10 : decode cX5_knowsIt 10 = .ok (.ifCond .eq 7, 3) := by decide +kernel
theorem dX5_knowsIt_13 : decode cX5_knowsIt 13 = .ok (.iconst 1, 1) := by decide +kernel
theorem dX5_knowsIt_14 : decode cX5_knowsIt 14 = .ok (.goto 4, 3) := by decide +kernel
theorem dX5_knowsIt_17 : decode cX5_knowsIt 17 = .ok (.iconst 0, 1) := by decide +kernel
theorem dX5_knowsIt_18 : decode cX5_knowsIt 18 = .ok (.ireturn, 1) := by decide +kernel
theorem dX5_taughtOn_0 : decode cX5_taughtOn 0 = .ok (.aload_n 0, 1) := by decide +kernel
theorem dX5_taughtOn_1 : decode cX5_taughtOn 1 = .ok (.getfield 37, 3) := by decide +kernel
theorem dX5_taughtOn_4 : decode cX5_taughtOn 4 = .ok (.iconst 1, 1) := by decide +kernel
theorem dX5_taughtOn_5 : decode cX5_taughtOn 5 = .ok (.if_icmp .lt 7, 3) := by decide +kernel
theorem dX5_taughtOn_8 : decode cX5_taughtOn 8 = .ok (.iload_n 1, 1) := by decide +kernel
theorem dX5_taughtOn_9 : decode cX5_taughtOn 9 = .ok (.ifCond .ge 7, 3) := by decide +kernel
theorem dX5_taughtOn_12 : decode cX5_taughtOn 12 = .ok (.iconst 0, 1) := by decide +kernel
theorem dX5_taughtOn_13 : decode cX5_taughtOn 13 = .ok (.goto 14, 3) := by decide +kernel
theorem dX5_taughtOn_16 : decode cX5_taughtOn 16 = .ok (.aload_n 0, 1) := by decide +kernel
theorem dX5_taughtOn_17 : decode cX5_taughtOn 17 = .ok (.getfield 15, 3) := by decide +kernel
theorem dX5_taughtOn_20 : decode cX5_taughtOn 20 = .ok (.iload_n 1, 1) := by decide +kernel
theorem dX5_taughtOn_21 : decode cX5_taughtOn 21 = .ok (.aload_n 0, 1) := by decide +kernel
theorem dX5_taughtOn_22 : decode cX5_taughtOn 22 = .ok (.getfield 37, 3) := by decide +kernel
theorem dX5_taughtOn_25 : decode cX5_taughtOn 25 = .ok (.irem, 1) := by decide +kernel
theorem dX5_taughtOn_26 : decode cX5_taughtOn 26 = .ok (.iaload, 1) := by decide +kernel
theorem dX5_taughtOn_27 : decode cX5_taughtOn 27 = .ok (.ireturn, 1) := by decide +kernel
theorem dX5_passDay_0 : decode cX5_passDay 0 = .ok (.aload_n 0, 1) := by decide +kernel
theorem dX5_passDay_1 : decode cX5_passDay 1 = .ok (.aload_n 0, 1) := by decide +kernel
theorem dX5_passDay_2 : decode cX5_passDay 2 = .ok (.getfield 43, 3) := by decide +kernel
theorem dX5_passDay_5 : decode cX5_passDay 5 = .ok (.invokevirtual 68, 3) := by decide +kernel
theorem dX5_passDay_8 : decode cX5_passDay 8 = .ok (.istore_n 1, 1) := by decide +kernel
theorem dX5_passDay_9 : decode cX5_passDay 9 = .ok (.iconst 0, 1) := by decide +kernel
theorem dX5_passDay_10 : decode cX5_passDay 10 = .ok (.istore_n 2, 1) := by decide +kernel
theorem dX5_passDay_11 : decode cX5_passDay 11 = .ok (.iconst 0, 1) := by decide +kernel
theorem dX5_passDay_12 : decode cX5_passDay 12 = .ok (.istore_n 3, 1) := by decide +kernel
theorem dX5_passDay_13 : decode cX5_passDay 13 = .ok (.iload_n 3, 1) := by decide +kernel
theorem dX5_passDay_14 : decode cX5_passDay 14 = .ok (.aload_n 0, 1) := by decide +kernel
theorem dX5_passDay_15 : decode cX5_passDay 15 = .ok (.getfield 40, 3) := by decide +kernel
theorem dX5_passDay_18 : decode cX5_passDay 18 = .ok (.if_icmp .ge 58, 3) := by decide +kernel
theorem dX5_passDay_21 : decode cX5_passDay 21 = .ok (.aload_n 0, 1) := by decide +kernel
theorem dX5_passDay_22 : decode cX5_passDay 22 = .ok (.getfield 24, 3) := by decide +kernel
theorem dX5_passDay_25 : decode cX5_passDay 25 = .ok (.iload_n 3, 1) := by decide +kernel
theorem dX5_passDay_26 : decode cX5_passDay 26 = .ok (.iaload, 1) := by decide +kernel
theorem dX5_passDay_27 : decode cX5_passDay 27 = .ok (.istore 4, 2) := by decide +kernel
theorem dX5_passDay_29 : decode cX5_passDay 29 = .ok (.iload_n 2, 1) := by decide +kernel
theorem dX5_passDay_30 : decode cX5_passDay 30 = .ok (.ifCond .ne 13, 3) := by decide +kernel
theorem dX5_passDay_33 : decode cX5_passDay 33 = .ok (.aload_n 0, 1) := by decide +kernel
theorem dX5_passDay_34 : decode cX5_passDay 34 = .ok (.iload 4, 2) := by decide +kernel
theorem dX5_passDay_36 : decode cX5_passDay 36 = .ok (.iload_n 3, 1) := by decide +kernel
theorem dX5_passDay_37 : decode cX5_passDay 37 = .ok (.invokevirtual 65, 3) := by decide +kernel
theorem dX5_passDay_40 : decode cX5_passDay 40 = .ok (.ifCond .eq 7, 3) := by decide +kernel
theorem dX5_passDay_43 : decode cX5_passDay 43 = .ok (.iconst 1, 1) := by decide +kernel
theorem dX5_passDay_44 : decode cX5_passDay 44 = .ok (.goto 4, 3) := by decide +kernel
theorem dX5_passDay_47 : decode cX5_passDay 47 = .ok (.iconst 0, 1) := by decide +kernel
theorem dX5_passDay_48 : decode cX5_passDay 48 = .ok (.istore 5, 2) := by decide +kernel
theorem dX5_passDay_50 : decode cX5_passDay 50 = .ok (.aload_n 0, 1) := by decide +kernel
theorem dX5_passDay_51 : decode cX5_passDay 51 = .ok (.iload 4, 2) := by decide +kernel
theorem dX5_passDay_53 : decode cX5_passDay 53 = .ok (.iload_n 1, 1) := by decide +kernel
theorem dX5_passDay_54 : decode cX5_passDay 54 = .ok (.invokevirtual 71, 3) := by decide +kernel
theorem dX5_passDay_57 : decode cX5_passDay 57 = .ok (.istore_n 2, 1) := by decide +kernel
theorem dX5_passDay_58 : decode cX5_passDay 58 = .ok (.iload 5, 2) := by decide +kernel
theorem dX5_passDay_60 : decode cX5_passDay 60 = .ok (.ifCond .eq 10, 3) := by decide +kernel
theorem dX5_passDay_63 : decode cX5_passDay 63 = .ok (.aload_n 0, 1) := by decide +kernel
theorem dX5_passDay_64 : decode cX5_passDay 64 = .ok (.iload 4, 2) := by decide +kernel
theorem dX5_passDay_66 : decode cX5_passDay 66 = .ok (.iload_n 1, 1) := by decide +kernel
theorem dX5_passDay_67 : decode cX5_passDay 67 = .ok (.invokevirtual 74, 3) := by decide +kernel
theorem dX5_passDay_70 : decode cX5_passDay 70 = .ok (.iinc 3 1, 3) := by decide +kernel
theorem dX5_passDay_73 : decode cX5_passDay 73 = .ok (.goto (-60), 3) := by decide +kernel
theorem dX5_passDay_76 : decode cX5_passDay 76 = .ok (.aload_n 0, 1) := by decide +kernel
theorem dX5_passDay_77 : decode cX5_passDay 77 = .ok (.dup, 1) := by decide +kernel
theorem dX5_passDay_78 : decode cX5_passDay 78 = .ok (.getfield 43, 3) := by decide +kernel
theorem dX5_passDay_81 : decode cX5_passDay 81 = .ok (.iconst 1, 1) := by decide +kernel
theorem dX5_passDay_82 : decode cX5_passDay 82 = .ok (.iadd, 1) := by decide +kernel
theorem dX5_passDay_83 : decode cX5_passDay 83 = .ok (.putfield 43, 3) := by decide +kernel
theorem dX5_passDay_86 : decode cX5_passDay 86 = .ok (.return_, 1) := by decide +kernel
theorem dX2_after_0 : decode cX2_after 0 = .ok (.aload_n 0, 1) := by decide +kernel
theorem dX2_after_1 : decode cX2_after 1 = .ok (.getfield 12, 3) := by decide +kernel
theorem dX2_after_4 : decode cX2_after 4 = .ok (.aload_n 1, 1) := by decide +kernel
theorem dX2_after_5 : decode cX2_after 5 = .ok (.invokevirtual 25, 3) := by decide +kernel
theorem dX2_after_8 : decode cX2_after 8 = .ok (.iconst 0, 1) := by decide +kernel
theorem dX2_after_9 : decode cX2_after 9 = .ok (.istore_n 3, 1) := by decide +kernel
theorem dX2_after_10 : decode cX2_after 10 = .ok (.iload_n 3, 1) := by decide +kernel
theorem dX2_after_11 : decode cX2_after 11 = .ok (.iload_n 2, 1) := by decide +kernel
theorem dX2_after_12 : decode cX2_after 12 = .ok (.if_icmp .ge 16, 3) := by decide +kernel
theorem dX2_after_15 : decode cX2_after 15 = .ok (.aload_n 0, 1) := by decide +kernel
theorem dX2_after_16 : decode cX2_after 16 = .ok (.getfield 12, 3) := by decide +kernel
theorem dX2_after_19 : decode cX2_after 19 = .ok (.invokevirtual 29, 3) := by decide +kernel
theorem dX2_after_22 : decode cX2_after 22 = .ok (.iinc 3 1, 3) := by decide +kernel
theorem dX2_after_25 : decode cX2_after 25 = .ok (.goto (-15), 3) := by decide +kernel
theorem dX2_after_28 : decode cX2_after 28 = .ok (.aload_n 0, 1) := by decide +kernel
theorem dX2_after_29 : decode cX2_after 29 = .ok (.getfield 12, 3) := by decide +kernel
theorem dX2_after_32 : decode cX2_after 32 = .ok (.areturn, 1) := by decide +kernel
theorem dX2_firstKnown_0 : decode cX2_firstKnown 0 = .ok (.aload_n 0, 1) := by decide +kernel
theorem dX2_firstKnown_1 : decode cX2_firstKnown 1 = .ok (.getfield 12, 3) := by decide +kernel
theorem dX2_firstKnown_4 : decode cX2_firstKnown 4 = .ok (.aload_n 1, 1) := by decide +kernel
theorem dX2_firstKnown_5 : decode cX2_firstKnown 5 = .ok (.invokevirtual 25, 3) := by decide +kernel
theorem dX2_firstKnown_8 : decode cX2_firstKnown 8 = .ok (.iconst 0, 1) := by decide +kernel
theorem dX2_firstKnown_9 : decode cX2_firstKnown 9 = .ok (.istore 4, 2) := by decide +kernel
theorem dX2_firstKnown_11 : decode cX2_firstKnown 11 = .ok (.iload 4, 2) := by decide +kernel
theorem dX2_firstKnown_13 : decode cX2_firstKnown 13 = .ok (.bipush 60, 2) := by decide +kernel
theorem dX2_firstKnown_15 : decode cX2_firstKnown 15 = .ok (.if_icmp .gt 31, 3) := by decide +kernel
theorem dX2_firstKnown_18 : decode cX2_firstKnown 18 = .ok (.aload_n 0, 1) := by decide +kernel
theorem dX2_firstKnown_19 : decode cX2_firstKnown 19 = .ok (.getfield 12, 3) := by decide +kernel
theorem dX2_firstKnown_22 : decode cX2_firstKnown 22 = .ok (.iload_n 2, 1) := by decide +kernel
theorem dX2_firstKnown_23 : decode cX2_firstKnown 23 = .ok (.iload_n 3, 1) := by decide +kernel
theorem dX2_firstKnown_24 : decode cX2_firstKnown 24 = .ok (.invokevirtual 32, 3) := by decide +kernel
theorem dX2_firstKnown_27 : decode cX2_firstKnown 27 = .ok (.ifCond .eq 6, 3) := by decide +kernel
theorem dX2_firstKnown_30 : decode cX2_firstKnown 30 = .ok (.iload 4, 2) := by decide +kernel
theorem dX2_firstKnown_32 : decode cX2_firstKnown 32 = .ok (.ireturn, 1) := by decide +kernel
theorem dX2_firstKnown_33 : decode cX2_firstKnown 33 = .ok (.aload_n 0, 1) := by decide +kernel
theorem dX2_firstKnown_34 : decode cX2_firstKnown 34 = .ok (.getfield 12, 3) := by decide +kernel
theorem dX2_firstKnown_37 : decode cX2_firstKnown 37 = .ok (.invokevirtual 29, 3) := by decide +kernel
theorem dX2_firstKnown_40 : decode cX2_firstKnown 40 = .ok (.iinc 4 1, 3) := by decide +kernel
theorem dX2_firstKnown_43 : decode cX2_firstKnown 43 = .ok (.goto (-32), 3) := by decide +kernel
theorem dX2_firstKnown_46 : decode cX2_firstKnown 46 = .ok (.ldc 36, 2) := by decide +kernel
theorem dX2_firstKnown_48 : decode cX2_firstKnown 48 = .ok (.ireturn, 1) := by decide +kernel
theorem dX5_becomePupil_0 : decode cX5_becomePupil 0 = .ok (.aload_n 0, 1) := by decide +kernel
theorem dX5_becomePupil_1 : decode cX5_becomePupil 1 = .ok (.getfield 21, 3) := by decide +kernel
theorem dX5_becomePupil_4 : decode cX5_becomePupil 4 = .ok (.iload_n 2, 1) := by decide +kernel
theorem dX5_becomePupil_5 : decode cX5_becomePupil 5 = .ok (.aload_n 1, 1) := by decide +kernel
theorem dX5_becomePupil_6 : decode cX5_becomePupil 6 = .ok (.getfield 21, 3) := by decide +kernel
theorem dX5_becomePupil_9 : decode cX5_becomePupil 9 = .ok (.iload_n 2, 1) := by decide +kernel
theorem dX5_becomePupil_10 : decode cX5_becomePupil 10 = .ok (.iaload, 1) := by decide +kernel
theorem dX5_becomePupil_11 : decode cX5_becomePupil 11 = .ok (.iastore, 1) := by decide +kernel
theorem dX5_becomePupil_12 : decode cX5_becomePupil 12 = .ok (.aload_n 1, 1) := by decide +kernel
theorem dX5_becomePupil_13 : decode cX5_becomePupil 13 = .ok (.getfield 27, 3) := by decide +kernel
theorem dX5_becomePupil_16 : decode cX5_becomePupil 16 = .ok (.iload_n 2, 1) := by decide +kernel
theorem dX5_becomePupil_17 : decode cX5_becomePupil 17 = .ok (.bipush 6, 2) := by decide +kernel
theorem dX5_becomePupil_19 : decode cX5_becomePupil 19 = .ok (.imul, 1) := by decide +kernel
theorem dX5_becomePupil_20 : decode cX5_becomePupil 20 = .ok (.aload_n 0, 1) := by decide +kernel
theorem dX5_becomePupil_21 : decode cX5_becomePupil 21 = .ok (.getfield 27, 3) := by decide +kernel
theorem dX5_becomePupil_24 : decode cX5_becomePupil 24 = .ok (.iload_n 2, 1) := by decide +kernel
theorem dX5_becomePupil_25 : decode cX5_becomePupil 25 = .ok (.bipush 6, 2) := by decide +kernel
theorem dX5_becomePupil_27 : decode cX5_becomePupil 27 = .ok (.imul, 1) := by decide +kernel
theorem dX5_becomePupil_28 : decode cX5_becomePupil 28 = .ok (.bipush 6, 2) := by decide +kernel
theorem dX5_becomePupil_30 : decode cX5_becomePupil 30 = .ok (.invokestatic 46, 3) := by decide +kernel
theorem dX5_becomePupil_33 : decode cX5_becomePupil 33 = .ok (.return_, 1) := by decide +kernel
theorem dX2_goThrough_0 : decode cX2_goThrough 0 = .ok (.aload_n 0, 1) := by decide +kernel
theorem dX2_goThrough_1 : decode cX2_goThrough 1 = .ok (.getfield 12, 3) := by decide +kernel
theorem dX2_goThrough_4 : decode cX2_goThrough 4 = .ok (.aload_n 0, 1) := by decide +kernel
theorem dX2_goThrough_5 : decode cX2_goThrough 5 = .ok (.getfield 37, 3) := by decide +kernel
theorem dX2_goThrough_8 : decode cX2_goThrough 8 = .ok (.iload_n 1, 1) := by decide +kernel
theorem dX2_goThrough_9 : decode cX2_goThrough 9 = .ok (.invokevirtual 75, 3) := by decide +kernel
theorem dX2_goThrough_12 : decode cX2_goThrough 12 = .ok (.iconst 0, 1) := by decide +kernel
theorem dX2_goThrough_13 : decode cX2_goThrough 13 = .ok (.istore_n 3, 1) := by decide +kernel
theorem dX2_goThrough_14 : decode cX2_goThrough 14 = .ok (.iconst 0, 1) := by decide +kernel
theorem dX2_goThrough_15 : decode cX2_goThrough 15 = .ok (.istore 4, 2) := by decide +kernel
theorem dX2_goThrough_17 : decode cX2_goThrough 17 = .ok (.iload 4, 2) := by decide +kernel
theorem dX2_goThrough_19 : decode cX2_goThrough 19 = .ok (.aload_n 0, 1) := by decide +kernel
theorem dX2_goThrough_20 : decode cX2_goThrough 20 = .ok (.getfield 40, 3) := by decide +kernel
theorem dX2_goThrough_23 : decode cX2_goThrough 23 = .ok (.if_icmp .ge 67, 3) := by decide +kernel
theorem dX2_goThrough_26 : decode cX2_goThrough 26 = .ok (.aload_n 0, 1) := by decide +kernel
theorem dX2_goThrough_27 : decode cX2_goThrough 27 = .ok (.getfield 12, 3) := by decide +kernel
theorem dX2_goThrough_30 : decode cX2_goThrough 30 = .ok (.aload_n 0, 1) := by decide +kernel
theorem dX2_goThrough_31 : decode cX2_goThrough 31 = .ok (.getfield 37, 3) := by decide +kernel
theorem dX2_goThrough_34 : decode cX2_goThrough 34 = .ok (.getfield 79, 3) := by decide +kernel
theorem dX2_goThrough_37 : decode cX2_goThrough 37 = .ok (.iload 4, 2) := by decide +kernel
theorem dX2_goThrough_39 : decode cX2_goThrough 39 = .ok (.iadd, 1) := by decide +kernel
theorem dX2_goThrough_40 : decode cX2_goThrough 40 = .ok (.invokevirtual 82, 3) := by decide +kernel
theorem dX2_goThrough_43 : decode cX2_goThrough 43 = .ok (.istore 5, 2) := by decide +kernel
theorem dX2_goThrough_45 : decode cX2_goThrough 45 = .ok (.aload_n 0, 1) := by decide +kernel
theorem dX2_goThrough_46 : decode cX2_goThrough 46 = .ok (.getfield 12, 3) := by decide +kernel
theorem dX2_goThrough_49 : decode cX2_goThrough 49 = .ok (.iload_n 1, 1) := by decide +kernel
theorem dX2_goThrough_50 : decode cX2_goThrough 50 = .ok (.iload 5, 2) := by decide +kernel
theorem dX2_goThrough_52 : decode cX2_goThrough 52 = .ok (.invokevirtual 32, 3) := by decide +kernel
theorem dX2_goThrough_55 : decode cX2_goThrough 55 = .ok (.ifCond .eq 10, 3) := by decide +kernel
theorem dX2_goThrough_58 : decode cX2_goThrough 58 = .ok (.iload_n 3, 1) := by decide +kernel
theorem dX2_goThrough_59 : decode cX2_goThrough 59 = .ok (.iconst 1, 1) := by decide +kernel
theorem dX2_goThrough_60 : decode cX2_goThrough 60 = .ok (.iload 4, 2) := by decide +kernel
theorem dX2_goThrough_62 : decode cX2_goThrough 62 = .ok (.ishl, 1) := by decide +kernel
theorem dX2_goThrough_63 : decode cX2_goThrough 63 = .ok (.ior, 1) := by decide +kernel
theorem dX2_goThrough_64 : decode cX2_goThrough 64 = .ok (.istore_n 3, 1) := by decide +kernel
theorem dX2_goThrough_65 : decode cX2_goThrough 65 = .ok (.iload_n 2, 1) := by decide +kernel
theorem dX2_goThrough_66 : decode cX2_goThrough 66 = .ok (.iload 4, 2) := by decide +kernel
theorem dX2_goThrough_68 : decode cX2_goThrough 68 = .ok (.ishr, 1) := by decide +kernel
theorem dX2_goThrough_69 : decode cX2_goThrough 69 = .ok (.iconst 1, 1) := by decide +kernel
theorem dX2_goThrough_70 : decode cX2_goThrough 70 = .ok (.iand, 1) := by decide +kernel
theorem dX2_goThrough_71 : decode cX2_goThrough 71 = .ok (.ifCond .eq 13, 3) := by decide +kernel
theorem dX2_goThrough_74 : decode cX2_goThrough 74 = .ok (.aload_n 0, 1) := by decide +kernel
theorem dX2_goThrough_75 : decode cX2_goThrough 75 = .ok (.getfield 12, 3) := by decide +kernel
theorem dX2_goThrough_78 : decode cX2_goThrough 78 = .ok (.iload_n 1, 1) := by decide +kernel
theorem dX2_goThrough_79 : decode cX2_goThrough 79 = .ok (.iload 5, 2) := by decide +kernel
theorem dX2_goThrough_81 : decode cX2_goThrough 81 = .ok (.invokevirtual 85, 3) := by decide +kernel
theorem dX2_goThrough_84 : decode cX2_goThrough 84 = .ok (.iinc 4 1, 3) := by decide +kernel
theorem dX2_goThrough_87 : decode cX2_goThrough 87 = .ok (.goto (-70), 3) := by decide +kernel
theorem dX2_goThrough_90 : decode cX2_goThrough 90 = .ok (.iload_n 3, 1) := by decide +kernel
theorem dX2_goThrough_91 : decode cX2_goThrough 91 = .ok (.ireturn, 1) := by decide +kernel
theorem dX2_weigh_0 : decode cX2_weigh 0 = .ok (.iload_n 1, 1) := by decide +kernel
theorem dX2_weigh_1 : decode cX2_weigh 1 = .ok (.aload_n 0, 1) := by decide +kernel
theorem dX2_weigh_2 : decode cX2_weigh 2 = .ok (.getfield 44, 3) := by decide +kernel
theorem dX2_weigh_5 : decode cX2_weigh 5 = .ok (.if_icmp .le 23, 3) := by decide +kernel
theorem dX2_weigh_8 : decode cX2_weigh 8 = .ok (.aload_n 0, 1) := by decide +kernel
theorem dX2_weigh_9 : decode cX2_weigh 9 = .ok (.iload_n 1, 1) := by decide +kernel
theorem dX2_weigh_10 : decode cX2_weigh 10 = .ok (.putfield 44, 3) := by decide +kernel
theorem dX2_weigh_13 : decode cX2_weigh 13 = .ok (.aload_n 0, 1) := by decide +kernel
theorem dX2_weigh_14 : decode cX2_weigh 14 = .ok (.getfield 22, 3) := by decide +kernel
theorem dX2_weigh_17 : decode cX2_weigh 17 = .ok (.iconst 0, 1) := by decide +kernel
theorem dX2_weigh_18 : decode cX2_weigh 18 = .ok (.aload_n 0, 1) := by decide +kernel
theorem dX2_weigh_19 : decode cX2_weigh 19 = .ok (.getfield 18, 3) := by decide +kernel
theorem dX2_weigh_22 : decode cX2_weigh 22 = .ok (.iconst 0, 1) := by decide +kernel
theorem dX2_weigh_23 : decode cX2_weigh 23 = .ok (.bipush 6, 2) := by decide +kernel
theorem dX2_weigh_25 : decode cX2_weigh 25 = .ok (.invokestatic 69, 3) := by decide +kernel
theorem dX2_weigh_28 : decode cX2_weigh 28 = .ok (.return_, 1) := by decide +kernel
theorem dX2_fillSeat_0 : decode cX2_fillSeat 0 = .ok (.iload_n 1, 1) := by decide +kernel
theorem dX2_fillSeat_1 : decode cX2_fillSeat 1 = .ok (.aload_n 0, 1) := by decide +kernel
theorem dX2_fillSeat_2 : decode cX2_fillSeat 2 = .ok (.getfield 12, 3) := by decide +kernel
theorem dX2_fillSeat_5 : decode cX2_fillSeat 5 = .ok (.getfield 51, 3) := by decide +kernel
theorem dX2_fillSeat_8 : decode cX2_fillSeat 8 = .ok (.if_icmp .ge 9, 3) := by decide +kernel
theorem dX2_fillSeat_11 : decode cX2_fillSeat 11 = .ok (.iload_n 1, 1) := by decide +kernel
theorem dX2_fillSeat_12 : decode cX2_fillSeat 12 = .ok (.bipush 6, 2) := by decide +kernel
theorem dX2_fillSeat_14 : decode cX2_fillSeat 14 = .ok (.if_icmp .lt 10, 3) := by decide +kernel
theorem dX2_fillSeat_17 : decode cX2_fillSeat 17 = .ok (.aload_n 0, 1) := by decide +kernel
theorem dX2_fillSeat_18 : decode cX2_fillSeat 18 = .ok (.iload 4, 2) := by decide +kernel
theorem dX2_fillSeat_20 : decode cX2_fillSeat 20 = .ok (.invokevirtual 54, 3) := by decide +kernel
theorem dX2_fillSeat_23 : decode cX2_fillSeat 23 = .ok (.return_, 1) := by decide +kernel
theorem dX2_fillSeat_24 : decode cX2_fillSeat 24 = .ok (.iconst 0, 1) := by decide +kernel
theorem dX2_fillSeat_25 : decode cX2_fillSeat 25 = .ok (.istore 5, 2) := by decide +kernel
theorem dX2_fillSeat_27 : decode cX2_fillSeat 27 = .ok (.iload 5, 2) := by decide +kernel
theorem dX2_fillSeat_29 : decode cX2_fillSeat 29 = .ok (.aload_n 0, 1) := by decide +kernel
theorem dX2_fillSeat_30 : decode cX2_fillSeat 30 = .ok (.getfield 12, 3) := by decide +kernel
theorem dX2_fillSeat_33 : decode cX2_fillSeat 33 = .ok (.getfield 51, 3) := by decide +kernel
theorem dX2_fillSeat_36 : decode cX2_fillSeat 36 = .ok (.if_icmp .ge 83, 3) := by decide +kernel
theorem dX2_fillSeat_39 : decode cX2_fillSeat 39 = .ok (.iload_n 2, 1) := by decide +kernel
theorem dX2_fillSeat_40 : decode cX2_fillSeat 40 = .ok (.iload 5, 2) := by decide +kernel
theorem dX2_fillSeat_42 : decode cX2_fillSeat 42 = .ok (.ishr, 1) := by decide +kernel
theorem dX2_fillSeat_43 : decode cX2_fillSeat 43 = .ok (.iconst 1, 1) := by decide +kernel
theorem dX2_fillSeat_44 : decode cX2_fillSeat 44 = .ok (.iand, 1) := by decide +kernel
theorem dX2_fillSeat_45 : decode cX2_fillSeat 45 = .ok (.ifCond .ne 68, 3) := by decide +kernel
theorem dX2_fillSeat_48 : decode cX2_fillSeat 48 = .ok (.aload_n 0, 1) := by decide +kernel
theorem dX2_fillSeat_49 : decode cX2_fillSeat 49 = .ok (.getfield 22, 3) := by decide +kernel
theorem dX2_fillSeat_52 : decode cX2_fillSeat 52 = .ok (.iload_n 1, 1) := by decide +kernel
theorem dX2_fillSeat_53 : decode cX2_fillSeat 53 = .ok (.iload 5, 2) := by decide +kernel
theorem dX2_fillSeat_55 : decode cX2_fillSeat 55 = .ok (.iastore, 1) := by decide +kernel
theorem dX2_fillSeat_56 : decode cX2_fillSeat 56 = .ok (.aload_n 0, 1) := by decide +kernel
theorem dX2_fillSeat_57 : decode cX2_fillSeat 57 = .ok (.getfield 12, 3) := by decide +kernel
theorem dX2_fillSeat_60 : decode cX2_fillSeat 60 = .ok (.iload 5, 2) := by decide +kernel
theorem dX2_fillSeat_62 : decode cX2_fillSeat 62 = .ok (.iload_n 1, 1) := by decide +kernel
theorem dX2_fillSeat_63 : decode cX2_fillSeat 63 = .ok (.invokevirtual 58, 3) := by decide +kernel
theorem dX2_fillSeat_66 : decode cX2_fillSeat 66 = .ok (.ifCond .eq 7, 3) := by decide +kernel
theorem dX2_fillSeat_69 : decode cX2_fillSeat 69 = .ok (.iconst (-1), 1) := by decide +kernel
theorem dX2_fillSeat_70 : decode cX2_fillSeat 70 = .ok (.goto 4, 3) := by decide +kernel
theorem dX2_fillSeat_73 : decode cX2_fillSeat 73 = .ok (.iload_n 3, 1) := by decide +kernel
theorem dX2_fillSeat_74 : decode cX2_fillSeat 74 = .ok (.istore 6, 2) := by decide +kernel
theorem dX2_fillSeat_76 : decode cX2_fillSeat 76 = .ok (.aload_n 0, 1) := by decide +kernel
theorem dX2_fillSeat_77 : decode cX2_fillSeat 77 = .ok (.iload 5, 2) := by decide +kernel
theorem dX2_fillSeat_79 : decode cX2_fillSeat 79 = .ok (.iload 6, 2) := by decide +kernel
theorem dX2_fillSeat_81 : decode cX2_fillSeat 81 = .ok (.invokevirtual 61, 3) := by decide +kernel
theorem dX2_fillSeat_84 : decode cX2_fillSeat 84 = .ok (.istore 7, 2) := by decide +kernel
theorem dX2_fillSeat_86 : decode cX2_fillSeat 86 = .ok (.aload_n 0, 1) := by decide +kernel
theorem dX2_fillSeat_87 : decode cX2_fillSeat 87 = .ok (.iload_n 1, 1) := by decide +kernel
theorem dX2_fillSeat_88 : decode cX2_fillSeat 88 = .ok (.iconst 1, 1) := by decide +kernel
theorem dX2_fillSeat_89 : decode cX2_fillSeat 89 = .ok (.iadd, 1) := by decide +kernel
theorem dX2_fillSeat_90 : decode cX2_fillSeat 90 = .ok (.iload_n 2, 1) := by decide +kernel
theorem dX2_fillSeat_91 : decode cX2_fillSeat 91 = .ok (.iconst 1, 1) := by decide +kernel
theorem dX2_fillSeat_92 : decode cX2_fillSeat 92 = .ok (.iload 5, 2) := by decide +kernel
theorem dX2_fillSeat_94 : decode cX2_fillSeat 94 = .ok (.ishl, 1) := by decide +kernel
theorem dX2_fillSeat_95 : decode cX2_fillSeat 95 = .ok (.ior, 1) := by decide +kernel
theorem dX2_fillSeat_96 : decode cX2_fillSeat 96 = .ok (.iload 7, 2) := by decide +kernel
theorem dX2_fillSeat_98 : decode cX2_fillSeat 98 = .ok (.iload 4, 2) := by decide +kernel
theorem dX2_fillSeat_100 : decode cX2_fillSeat 100 = .ok (.aload_n 0, 1) := by decide +kernel
theorem dX2_fillSeat_101 : decode cX2_fillSeat 101 = .ok (.getfield 12, 3) := by decide +kernel
theorem dX2_fillSeat_104 : decode cX2_fillSeat 104 = .ok (.iload 5, 2) := by decide +kernel
theorem dX2_fillSeat_106 : decode cX2_fillSeat 106 = .ok (.invokevirtual 65, 3) := by decide +kernel
theorem dX2_fillSeat_109 : decode cX2_fillSeat 109 = .ok (.iadd, 1) := by decide +kernel
theorem dX2_fillSeat_110 : decode cX2_fillSeat 110 = .ok (.invokestatic 47, 3) := by decide +kernel
theorem dX2_fillSeat_113 : decode cX2_fillSeat 113 = .ok (.iinc 5 1, 3) := by decide +kernel
theorem dX2_fillSeat_116 : decode cX2_fillSeat 116 = .ok (.goto (-89), 3) := by decide +kernel
theorem dX2_fillSeat_119 : decode cX2_fillSeat 119 = .ok (.return_, 1) := by decide +kernel
theorem dX2_seatBest_0 : decode cX2_seatBest 0 = .ok (.aload_n 0, 1) := by decide +kernel
theorem dX2_seatBest_1 : decode cX2_seatBest 1 = .ok (.getfield 12, 3) := by decide +kernel
theorem dX2_seatBest_4 : decode cX2_seatBest 4 = .ok (.aload_n 1, 1) := by decide +kernel
theorem dX2_seatBest_5 : decode cX2_seatBest 5 = .ok (.invokevirtual 25, 3) := by decide +kernel
theorem dX2_seatBest_8 : decode cX2_seatBest 8 = .ok (.aload_n 0, 1) := by decide +kernel
theorem dX2_seatBest_9 : decode cX2_seatBest 9 = .ok (.aload_n 1, 1) := by decide +kernel
theorem dX2_seatBest_10 : decode cX2_seatBest 10 = .ok (.putfield 37, 3) := by decide +kernel
theorem dX2_seatBest_13 : decode cX2_seatBest 13 = .ok (.aload_n 0, 1) := by decide +kernel
theorem dX2_seatBest_14 : decode cX2_seatBest 14 = .ok (.iload_n 2, 1) := by decide +kernel
theorem dX2_seatBest_15 : decode cX2_seatBest 15 = .ok (.putfield 40, 3) := by decide +kernel
theorem dX2_seatBest_18 : decode cX2_seatBest 18 = .ok (.aload_n 0, 1) := by decide +kernel
theorem dX2_seatBest_19 : decode cX2_seatBest 19 = .ok (.iconst (-1), 1) := by decide +kernel
theorem dX2_seatBest_20 : decode cX2_seatBest 20 = .ok (.putfield 44, 3) := by decide +kernel
theorem dX2_seatBest_23 : decode cX2_seatBest 23 = .ok (.aload_n 0, 1) := by decide +kernel
theorem dX2_seatBest_24 : decode cX2_seatBest 24 = .ok (.iconst 0, 1) := by decide +kernel
theorem dX2_seatBest_25 : decode cX2_seatBest 25 = .ok (.iconst 0, 1) := by decide +kernel
theorem dX2_seatBest_26 : decode cX2_seatBest 26 = .ok (.iconst 0, 1) := by decide +kernel
theorem dX2_seatBest_27 : decode cX2_seatBest 27 = .ok (.iconst 0, 1) := by decide +kernel
theorem dX2_seatBest_28 : decode cX2_seatBest 28 = .ok (.invokestatic 47, 3) := by decide +kernel
theorem dX2_seatBest_31 : decode cX2_seatBest 31 = .ok (.return_, 1) := by decide +kernel
theorem dX5_known_0 : decode cX5_known 0 = .ok (.iconst 0, 1) := by decide +kernel
theorem dX5_known_1 : decode cX5_known 1 = .ok (.istore_n 1, 1) := by decide +kernel
theorem dX5_known_2 : decode cX5_known 2 = .ok (.iconst 0, 1) := by decide +kernel
theorem dX5_known_3 : decode cX5_known 3 = .ok (.istore_n 2, 1) := by decide +kernel
theorem dX5_known_4 : decode cX5_known 4 = .ok (.iload_n 2, 1) := by decide +kernel
theorem dX5_known_5 : decode cX5_known 5 = .ok (.aload_n 0, 1) := by decide +kernel
theorem dX5_known_6 : decode cX5_known 6 = .ok (.getfield 40, 3) := by decide +kernel
theorem dX5_known_9 : decode cX5_known 9 = .ok (.if_icmp .ge 17, 3) := by decide +kernel
theorem dX5_known_12 : decode cX5_known 12 = .ok (.iload_n 1, 1) := by decide +kernel
theorem dX5_known_13 : decode cX5_known 13 = .ok (.aload_n 0, 1) := by decide +kernel
theorem dX5_known_14 : decode cX5_known 14 = .ok (.iload_n 2, 1) := by decide +kernel
theorem dX5_known_15 : decode cX5_known 15 = .ok (.invokevirtual 91, 3) := by decide +kernel
theorem dX5_known_18 : decode cX5_known 18 = .ok (.iadd, 1) := by decide +kernel
theorem dX5_known_19 : decode cX5_known 19 = .ok (.istore_n 1, 1) := by decide +kernel
theorem dX5_known_20 : decode cX5_known 20 = .ok (.iinc 2 1, 3) := by decide +kernel
theorem dX5_known_23 : decode cX5_known 23 = .ok (.goto (-19), 3) := by decide +kernel
theorem dX5_known_26 : decode cX5_known 26 = .ok (.iload_n 1, 1) := by decide +kernel
theorem dX5_known_27 : decode cX5_known 27 = .ok (.ireturn, 1) := by decide +kernel
theorem dX5_swapLessons_0 : decode cX5_swapLessons 0 = .ok (.aload_n 0, 1) := by decide +kernel
theorem dX5_swapLessons_1 : decode cX5_swapLessons 1 = .ok (.getfield 15, 3) := by decide +kernel
theorem dX5_swapLessons_4 : decode cX5_swapLessons 4 = .ok (.iload_n 1, 1) := by decide +kernel
theorem dX5_swapLessons_5 : decode cX5_swapLessons 5 = .ok (.iaload, 1) := by decide +kernel
theorem dX5_swapLessons_6 : decode cX5_swapLessons 6 = .ok (.istore_n 3, 1) := by decide +kernel
theorem dX5_swapLessons_7 : decode cX5_swapLessons 7 = .ok (.aload_n 0, 1) := by decide +kernel
theorem dX5_swapLessons_8 : decode cX5_swapLessons 8 = .ok (.getfield 15, 3) := by decide +kernel
theorem dX5_swapLessons_11 : decode cX5_swapLessons 11 = .ok (.iload_n 1, 1) := by decide +kernel
theorem dX5_swapLessons_12 : decode cX5_swapLessons 12 = .ok (.aload_n 0, 1) := by decide +kernel
theorem dX5_swapLessons_13 : decode cX5_swapLessons 13 = .ok (.getfield 15, 3) := by decide +kernel
theorem dX5_swapLessons_16 : decode cX5_swapLessons 16 = .ok (.iload_n 2, 1) := by decide +kernel
theorem dX5_swapLessons_17 : decode cX5_swapLessons 17 = .ok (.iaload, 1) := by decide +kernel
theorem dX5_swapLessons_18 : decode cX5_swapLessons 18 = .ok (.iastore, 1) := by decide +kernel
theorem dX5_swapLessons_19 : decode cX5_swapLessons 19 = .ok (.aload_n 0, 1) := by decide +kernel
theorem dX5_swapLessons_20 : decode cX5_swapLessons 20 = .ok (.getfield 15, 3) := by decide +kernel
theorem dX5_swapLessons_23 : decode cX5_swapLessons 23 = .ok (.iload_n 2, 1) := by decide +kernel
theorem dX5_swapLessons_24 : decode cX5_swapLessons 24 = .ok (.iload_n 3, 1) := by decide +kernel
theorem dX5_swapLessons_25 : decode cX5_swapLessons 25 = .ok (.iastore, 1) := by decide +kernel
theorem dX5_swapLessons_26 : decode cX5_swapLessons 26 = .ok (.return_, 1) := by decide +kernel
theorem dX2_knownExchanged_0 : decode cX2_knownExchanged 0 = .ok (.aload_n 0, 1) := by decide +kernel
theorem dX2_knownExchanged_1 : decode cX2_knownExchanged 1 = .ok (.getfield 12, 3) := by decide +kernel
theorem dX2_knownExchanged_4 : decode cX2_knownExchanged 4 = .ok (.aload_n 1, 1) := by decide +kernel
theorem dX2_knownExchanged_5 : decode cX2_knownExchanged 5 = .ok (.invokevirtual 25, 3) := by decide +kernel
theorem dX2_knownExchanged_8 : decode cX2_knownExchanged 8 = .ok (.aload_n 0, 1) := by decide +kernel
theorem dX2_knownExchanged_9 : decode cX2_knownExchanged 9 = .ok (.getfield 12, 3) := by decide +kernel
theorem dX2_knownExchanged_12 : decode cX2_knownExchanged 12 = .ok (.iload_n 3, 1) := by decide +kernel
theorem dX2_knownExchanged_13 : decode cX2_knownExchanged 13 = .ok (.iload 4, 2) := by decide +kernel
theorem dX2_knownExchanged_15 : decode cX2_knownExchanged 15 = .ok (.invokevirtual 104, 3) := by decide +kernel
theorem dX2_knownExchanged_18 : decode cX2_knownExchanged 18 = .ok (.iconst 0, 1) := by decide +kernel
theorem dX2_knownExchanged_19 : decode cX2_knownExchanged 19 = .ok (.istore 5, 2) := by decide +kernel
theorem dX2_knownExchanged_21 : decode cX2_knownExchanged 21 = .ok (.iload 5, 2) := by decide +kernel
theorem dX2_knownExchanged_23 : decode cX2_knownExchanged 23 = .ok (.iload_n 2, 1) := by decide +kernel
theorem dX2_knownExchanged_24 : decode cX2_knownExchanged 24 = .ok (.if_icmp .ge 16, 3) := by decide +kernel
theorem dX2_knownExchanged_27 : decode cX2_knownExchanged 27 = .ok (.aload_n 0, 1) := by decide +kernel
theorem dX2_knownExchanged_28 : decode cX2_knownExchanged 28 = .ok (.getfield 12, 3) := by decide +kernel
theorem dX2_knownExchanged_31 : decode cX2_knownExchanged 31 = .ok (.invokevirtual 29, 3) := by decide +kernel
theorem dX2_knownExchanged_34 : decode cX2_knownExchanged 34 = .ok (.iinc 5 1, 3) := by decide +kernel
theorem dX2_knownExchanged_37 : decode cX2_knownExchanged 37 = .ok (.goto (-16), 3) := by decide +kernel
theorem dX2_knownExchanged_40 : decode cX2_knownExchanged 40 = .ok (.aload_n 0, 1) := by decide +kernel
theorem dX2_knownExchanged_41 : decode cX2_knownExchanged 41 = .ok (.getfield 12, 3) := by decide +kernel
theorem dX2_knownExchanged_44 : decode cX2_knownExchanged 44 = .ok (.invokevirtual 93, 3) := by decide +kernel
theorem dX2_knownExchanged_47 : decode cX2_knownExchanged 47 = .ok (.ireturn, 1) := by decide +kernel
theorem dX2_bestExchange_0 : decode cX2_bestExchange 0 = .ok (.aload_n 0, 1) := by decide +kernel
theorem dX2_bestExchange_1 : decode cX2_bestExchange 1 = .ok (.aload_n 0, 1) := by decide +kernel
theorem dX2_bestExchange_2 : decode cX2_bestExchange 2 = .ok (.aload_n 1, 1) := by decide +kernel
theorem dX2_bestExchange_3 : decode cX2_bestExchange 3 = .ok (.iload_n 2, 1) := by decide +kernel
theorem dX2_bestExchange_4 : decode cX2_bestExchange 4 = .ok (.invokevirtual 89, 3) := by decide +kernel
theorem dX2_bestExchange_7 : decode cX2_bestExchange 7 = .ok (.invokevirtual 93, 3) := by decide +kernel
theorem dX2_bestExchange_10 : decode cX2_bestExchange 10 = .ok (.putfield 44, 3) := by decide +kernel
theorem dX2_bestExchange_13 : decode cX2_bestExchange 13 = .ok (.ldc 36, 2) := by decide +kernel
theorem dX2_bestExchange_15 : decode cX2_bestExchange 15 = .ok (.istore_n 3, 1) := by decide +kernel
theorem dX2_bestExchange_16 : decode cX2_bestExchange 16 = .ok (.iconst 0, 1) := by decide +kernel
theorem dX2_bestExchange_17 : decode cX2_bestExchange 17 = .ok (.istore 4, 2) := by decide +kernel
theorem dX2_bestExchange_19 : decode cX2_bestExchange 19 = .ok (.iload 4, 2) := by decide +kernel
theorem dX2_bestExchange_21 : decode cX2_bestExchange 21 = .ok (.aload_n 1, 1) := by decide +kernel
theorem dX2_bestExchange_22 : decode cX2_bestExchange 22 = .ok (.getfield 97, 3) := by decide +kernel
theorem dX2_bestExchange_25 : decode cX2_bestExchange 25 = .ok (.if_icmp .ge 66, 3) := by decide +kernel
theorem dX2_bestExchange_28 : decode cX2_bestExchange 28 = .ok (.iload 4, 2) := by decide +kernel
theorem dX2_bestExchange_30 : decode cX2_bestExchange 30 = .ok (.iconst 1, 1) := by decide +kernel
theorem dX2_bestExchange_31 : decode cX2_bestExchange 31 = .ok (.iadd, 1) := by decide +kernel
theorem dX2_bestExchange_32 : decode cX2_bestExchange 32 = .ok (.istore 5, 2) := by decide +kernel
theorem dX2_bestExchange_34 : decode cX2_bestExchange 34 = .ok (.iload 5, 2) := by decide +kernel
theorem dX2_bestExchange_36 : decode cX2_bestExchange 36 = .ok (.aload_n 1, 1) := by decide +kernel
theorem dX2_bestExchange_37 : decode cX2_bestExchange 37 = .ok (.getfield 97, 3) := by decide +kernel
theorem dX2_bestExchange_40 : decode cX2_bestExchange 40 = .ok (.if_icmp .ge 45, 3) := by decide +kernel
theorem dX2_bestExchange_43 : decode cX2_bestExchange 43 = .ok (.aload_n 0, 1) := by decide +kernel
theorem dX2_bestExchange_44 : decode cX2_bestExchange 44 = .ok (.aload_n 1, 1) := by decide +kernel
theorem dX2_bestExchange_45 : decode cX2_bestExchange 45 = .ok (.iload_n 2, 1) := by decide +kernel
theorem dX2_bestExchange_46 : decode cX2_bestExchange 46 = .ok (.iload 4, 2) := by decide +kernel
theorem dX2_bestExchange_48 : decode cX2_bestExchange 48 = .ok (.iload 5, 2) := by decide +kernel
theorem dX2_bestExchange_50 : decode cX2_bestExchange 50 = .ok (.invokevirtual 100, 3) := by decide +kernel
theorem dX2_bestExchange_53 : decode cX2_bestExchange 53 = .ok (.istore 6, 2) := by decide +kernel
theorem dX2_bestExchange_55 : decode cX2_bestExchange 55 = .ok (.iload 6, 2) := by decide +kernel
theorem dX2_bestExchange_57 : decode cX2_bestExchange 57 = .ok (.aload_n 0, 1) := by decide +kernel
theorem dX2_bestExchange_58 : decode cX2_bestExchange 58 = .ok (.getfield 44, 3) := by decide +kernel
theorem dX2_bestExchange_61 : decode cX2_bestExchange 61 = .ok (.if_icmp .le 18, 3) := by decide +kernel
theorem dX2_bestExchange_64 : decode cX2_bestExchange 64 = .ok (.aload_n 0, 1) := by decide +kernel
theorem dX2_bestExchange_65 : decode cX2_bestExchange 65 = .ok (.iload 6, 2) := by decide +kernel
theorem dX2_bestExchange_67 : decode cX2_bestExchange 67 = .ok (.putfield 44, 3) := by decide +kernel
theorem dX2_bestExchange_70 : decode cX2_bestExchange 70 = .ok (.bipush 10, 2) := by decide +kernel
theorem dX2_bestExchange_72 : decode cX2_bestExchange 72 = .ok (.iload 4, 2) := by decide +kernel
theorem dX2_bestExchange_74 : decode cX2_bestExchange 74 = .ok (.imul, 1) := by decide +kernel
theorem dX2_bestExchange_75 : decode cX2_bestExchange 75 = .ok (.iload 5, 2) := by decide +kernel
theorem dX2_bestExchange_77 : decode cX2_bestExchange 77 = .ok (.iadd, 1) := by decide +kernel
theorem dX2_bestExchange_78 : decode cX2_bestExchange 78 = .ok (.istore_n 3, 1) := by decide +kernel
theorem dX2_bestExchange_79 : decode cX2_bestExchange 79 = .ok (.iinc 5 1, 3) := by decide +kernel
theorem dX2_bestExchange_82 : decode cX2_bestExchange 82 = .ok (.goto (-48), 3) := by decide +kernel
theorem dX2_bestExchange_85 : decode cX2_bestExchange 85 = .ok (.iinc 4 1, 3) := by decide +kernel
theorem dX2_bestExchange_88 : decode cX2_bestExchange 88 = .ok (.goto (-69), 3) := by decide +kernel
theorem dX2_bestExchange_91 : decode cX2_bestExchange 91 = .ok (.iload_n 3, 1) := by decide +kernel
theorem dX2_bestExchange_92 : decode cX2_bestExchange 92 = .ok (.ireturn, 1) := by decide +kernel
theorem dX2_believe_0 : decode cX2_believe 0 = .ok (.aload_n 0, 1) := by decide +kernel
theorem dX2_believe_1 : decode cX2_believe 1 = .ok (.aload_n 1, 1) := by decide +kernel
theorem dX2_believe_2 : decode cX2_believe 2 = .ok (.putfield 107, 3) := by decide +kernel
theorem dX2_believe_5 : decode cX2_believe 5 = .ok (.aload_n 0, 1) := by decide +kernel
theorem dX2_believe_6 : decode cX2_believe 6 = .ok (.iload_n 2, 1) := by decide +kernel
theorem dX2_believe_7 : decode cX2_believe 7 = .ok (.putfield 111, 3) := by decide +kernel
theorem dX2_believe_10 : decode cX2_believe 10 = .ok (.aload_n 0, 1) := by decide +kernel
theorem dX2_believe_11 : decode cX2_believe 11 = .ok (.iload_n 3, 1) := by decide +kernel
theorem dX2_believe_12 : decode cX2_believe 12 = .ok (.putfield 40, 3) := by decide +kernel
theorem dX2_believe_15 : decode cX2_believe 15 = .ok (.return_, 1) := by decide +kernel
theorem dX4_has_0 : decode cX4_has 0 = .ok (.iload_n 1, 1) := by decide +kernel
theorem dX4_has_1 : decode cX4_has 1 = .ok (.ifCond .lt 29, 3) := by decide +kernel
theorem dX4_has_4 : decode cX4_has 4 = .ok (.iload_n 2, 1) := by decide +kernel
theorem dX4_has_5 : decode cX4_has 5 = .ok (.ifCond .lt 25, 3) := by decide +kernel
theorem dX4_has_8 : decode cX4_has 8 = .ok (.iload_n 1, 1) := by decide +kernel
theorem dX4_has_9 : decode cX4_has 9 = .ok (.aload_n 0, 1) := by decide +kernel
theorem dX4_has_10 : decode cX4_has 10 = .ok (.getfield 23, 3) := by decide +kernel
theorem dX4_has_13 : decode cX4_has 13 = .ok (.if_icmp .gt 17, 3) := by decide +kernel
theorem dX4_has_16 : decode cX4_has 16 = .ok (.iload_n 2, 1) := by decide +kernel
theorem dX4_has_17 : decode cX4_has 17 = .ok (.aload_n 0, 1) := by decide +kernel
theorem dX4_has_18 : decode cX4_has 18 = .ok (.getfield 23, 3) := by decide +kernel
theorem dX4_has_21 : decode cX4_has 21 = .ok (.iload_n 1, 1) := by decide +kernel
theorem dX4_has_22 : decode cX4_has 22 = .ok (.isub, 1) := by decide +kernel
theorem dX4_has_23 : decode cX4_has 23 = .ok (.if_icmp .gt 7, 3) := by decide +kernel
theorem dX4_has_26 : decode cX4_has 26 = .ok (.iconst 1, 1) := by decide +kernel
theorem dX4_has_27 : decode cX4_has 27 = .ok (.goto 4, 3) := by decide +kernel
theorem dX4_has_30 : decode cX4_has 30 = .ok (.iconst 0, 1) := by decide +kernel
theorem dX4_has_31 : decode cX4_has 31 = .ok (.ireturn, 1) := by decide +kernel
theorem dX2_fits_0 : decode cX2_fits 0 = .ok (.aload_n 0, 1) := by decide +kernel
theorem dX2_fits_1 : decode cX2_fits 1 = .ok (.getfield 107, 3) := by decide +kernel
theorem dX2_fits_4 : decode cX2_fits 4 = .ok (.ifnull 21, 3) := by decide +kernel
theorem dX2_fits_7 : decode cX2_fits 7 = .ok (.aload_n 0, 1) := by decide +kernel
theorem dX2_fits_8 : decode cX2_fits 8 = .ok (.getfield 107, 3) := by decide +kernel
theorem dX2_fits_11 : decode cX2_fits 11 = .ok (.aload_n 0, 1) := by decide +kernel
theorem dX2_fits_12 : decode cX2_fits 12 = .ok (.getfield 111, 3) := by decide +kernel
theorem dX2_fits_15 : decode cX2_fits 15 = .ok (.aload_n 0, 1) := by decide +kernel
theorem dX2_fits_16 : decode cX2_fits 16 = .ok (.getfield 40, 3) := by decide +kernel
theorem dX2_fits_19 : decode cX2_fits 19 = .ok (.invokevirtual 135, 3) := by decide +kernel
theorem dX2_fits_22 : decode cX2_fits 22 = .ok (.ifCond .ne 5, 3) := by decide +kernel
theorem dX2_fits_25 : decode cX2_fits 25 = .ok (.iconst 0, 1) := by decide +kernel
theorem dX2_fits_26 : decode cX2_fits 26 = .ok (.ireturn, 1) := by decide +kernel
theorem dX2_fits_27 : decode cX2_fits 27 = .ok (.iconst 0, 1) := by decide +kernel
theorem dX2_fits_28 : decode cX2_fits 28 = .ok (.istore_n 2, 1) := by decide +kernel
theorem dX2_fits_29 : decode cX2_fits 29 = .ok (.iload_n 2, 1) := by decide +kernel
theorem dX2_fits_30 : decode cX2_fits 30 = .ok (.aload_n 0, 1) := by decide +kernel
theorem dX2_fits_31 : decode cX2_fits 31 = .ok (.getfield 40, 3) := by decide +kernel
theorem dX2_fits_34 : decode cX2_fits 34 = .ok (.if_icmp .ge 43, 3) := by decide +kernel
theorem dX2_fits_37 : decode cX2_fits 37 = .ok (.aload_n 0, 1) := by decide +kernel
theorem dX2_fits_38 : decode cX2_fits 38 = .ok (.getfield 12, 3) := by decide +kernel
theorem dX2_fits_41 : decode cX2_fits 41 = .ok (.invokevirtual 29, 3) := by decide +kernel
theorem dX2_fits_44 : decode cX2_fits 44 = .ok (.aload_n 0, 1) := by decide +kernel
theorem dX2_fits_45 : decode cX2_fits 45 = .ok (.getfield 12, 3) := by decide +kernel
theorem dX2_fits_48 : decode cX2_fits 48 = .ok (.iload_n 1, 1) := by decide +kernel
theorem dX2_fits_49 : decode cX2_fits 49 = .ok (.invokevirtual 65, 3) := by decide +kernel
theorem dX2_fits_52 : decode cX2_fits 52 = .ok (.aload_n 0, 1) := by decide +kernel
theorem dX2_fits_53 : decode cX2_fits 53 = .ok (.getfield 107, 3) := by decide +kernel
theorem dX2_fits_56 : decode cX2_fits 56 = .ok (.getfield 140, 3) := by decide +kernel
theorem dX2_fits_59 : decode cX2_fits 59 = .ok (.aload_n 0, 1) := by decide +kernel
theorem dX2_fits_60 : decode cX2_fits 60 = .ok (.getfield 111, 3) := by decide +kernel
theorem dX2_fits_63 : decode cX2_fits 63 = .ok (.iload_n 2, 1) := by decide +kernel
theorem dX2_fits_64 : decode cX2_fits 64 = .ok (.iadd, 1) := by decide +kernel
theorem dX2_fits_65 : decode cX2_fits 65 = .ok (.iaload, 1) := by decide +kernel
theorem dX2_fits_66 : decode cX2_fits 66 = .ok (.if_icmp .eq 5, 3) := by decide +kernel
theorem dX2_fits_69 : decode cX2_fits 69 = .ok (.iconst 0, 1) := by decide +kernel
theorem dX2_fits_70 : decode cX2_fits 70 = .ok (.ireturn, 1) := by decide +kernel
theorem dX2_fits_71 : decode cX2_fits 71 = .ok (.iinc 2 1, 3) := by decide +kernel
theorem dX2_fits_74 : decode cX2_fits 74 = .ok (.goto (-45), 3) := by decide +kernel
theorem dX2_fits_77 : decode cX2_fits 77 = .ok (.iconst 1, 1) := by decide +kernel
theorem dX2_fits_78 : decode cX2_fits 78 = .ok (.ireturn, 1) := by decide +kernel
theorem dX2_kindsThatFit_0 : decode cX2_kindsThatFit 0 = .ok (.iconst 0, 1) := by decide +kernel
theorem dX2_kindsThatFit_1 : decode cX2_kindsThatFit 1 = .ok (.istore_n 3, 1) := by decide +kernel
theorem dX2_kindsThatFit_2 : decode cX2_kindsThatFit 2 = .ok (.iconst 1, 1) := by decide +kernel
theorem dX2_kindsThatFit_3 : decode cX2_kindsThatFit 3 = .ok (.istore 4, 2) := by decide +kernel
theorem dX2_kindsThatFit_5 : decode cX2_kindsThatFit 5 = .ok (.iload 4, 2) := by decide +kernel
theorem dX2_kindsThatFit_7 : decode cX2_kindsThatFit 7 = .ok (.iconst 5, 1) := by decide +kernel
theorem dX2_kindsThatFit_8 : decode cX2_kindsThatFit 8 = .ok (.if_icmp .gt 39, 3) := by decide +kernel
theorem dX2_kindsThatFit_11 : decode cX2_kindsThatFit 11 = .ok (.aload_n 0, 1) := by decide +kernel
theorem dX2_kindsThatFit_12 : decode cX2_kindsThatFit 12 = .ok (.getfield 12, 3) := by decide +kernel
theorem dX2_kindsThatFit_15 : decode cX2_kindsThatFit 15 = .ok (.aload_n 1, 1) := by decide +kernel
theorem dX2_kindsThatFit_16 : decode cX2_kindsThatFit 16 = .ok (.invokevirtual 25, 3) := by decide +kernel
theorem dX2_kindsThatFit_19 : decode cX2_kindsThatFit 19 = .ok (.aload_n 0, 1) := by decide +kernel
theorem dX2_kindsThatFit_20 : decode cX2_kindsThatFit 20 = .ok (.getfield 12, 3) := by decide +kernel
theorem dX2_kindsThatFit_23 : decode cX2_kindsThatFit 23 = .ok (.getfield 114, 3) := by decide +kernel
theorem dX2_kindsThatFit_26 : decode cX2_kindsThatFit 26 = .ok (.iload_n 2, 1) := by decide +kernel
theorem dX2_kindsThatFit_27 : decode cX2_kindsThatFit 27 = .ok (.iload 4, 2) := by decide +kernel
theorem dX2_kindsThatFit_29 : decode cX2_kindsThatFit 29 = .ok (.iastore, 1) := by decide +kernel
theorem dX2_kindsThatFit_30 : decode cX2_kindsThatFit 30 = .ok (.iload_n 3, 1) := by decide +kernel
theorem dX2_kindsThatFit_31 : decode cX2_kindsThatFit 31 = .ok (.aload_n 0, 1) := by decide +kernel
theorem dX2_kindsThatFit_32 : decode cX2_kindsThatFit 32 = .ok (.iload_n 2, 1) := by decide +kernel
theorem dX2_kindsThatFit_33 : decode cX2_kindsThatFit 33 = .ok (.invokevirtual 117, 3) := by decide +kernel
theorem dX2_kindsThatFit_36 : decode cX2_kindsThatFit 36 = .ok (.iload 4, 2) := by decide +kernel
theorem dX2_kindsThatFit_38 : decode cX2_kindsThatFit 38 = .ok (.ishl, 1) := by decide +kernel
theorem dX2_kindsThatFit_39 : decode cX2_kindsThatFit 39 = .ok (.ior, 1) := by decide +kernel
theorem dX2_kindsThatFit_40 : decode cX2_kindsThatFit 40 = .ok (.istore_n 3, 1) := by decide +kernel
theorem dX2_kindsThatFit_41 : decode cX2_kindsThatFit 41 = .ok (.iinc 4 1, 3) := by decide +kernel
theorem dX2_kindsThatFit_44 : decode cX2_kindsThatFit 44 = .ok (.goto (-39), 3) := by decide +kernel
theorem dX2_kindsThatFit_47 : decode cX2_kindsThatFit 47 = .ok (.iload_n 3, 1) := by decide +kernel
theorem dX2_kindsThatFit_48 : decode cX2_kindsThatFit 48 = .ok (.ireturn, 1) := by decide +kernel
theorem dX5_swapSeats_0 : decode cX5_swapSeats 0 = .ok (.aload_n 0, 1) := by decide +kernel
theorem dX5_swapSeats_1 : decode cX5_swapSeats 1 = .ok (.getfield 24, 3) := by decide +kernel
theorem dX5_swapSeats_4 : decode cX5_swapSeats 4 = .ok (.iload_n 1, 1) := by decide +kernel
theorem dX5_swapSeats_5 : decode cX5_swapSeats 5 = .ok (.iaload, 1) := by decide +kernel
theorem dX5_swapSeats_6 : decode cX5_swapSeats 6 = .ok (.istore_n 3, 1) := by decide +kernel
theorem dX5_swapSeats_7 : decode cX5_swapSeats 7 = .ok (.aload_n 0, 1) := by decide +kernel
theorem dX5_swapSeats_8 : decode cX5_swapSeats 8 = .ok (.getfield 24, 3) := by decide +kernel
theorem dX5_swapSeats_11 : decode cX5_swapSeats 11 = .ok (.iload_n 1, 1) := by decide +kernel
theorem dX5_swapSeats_12 : decode cX5_swapSeats 12 = .ok (.aload_n 0, 1) := by decide +kernel
theorem dX5_swapSeats_13 : decode cX5_swapSeats 13 = .ok (.getfield 24, 3) := by decide +kernel
theorem dX5_swapSeats_16 : decode cX5_swapSeats 16 = .ok (.iload_n 2, 1) := by decide +kernel
theorem dX5_swapSeats_17 : decode cX5_swapSeats 17 = .ok (.iaload, 1) := by decide +kernel
theorem dX5_swapSeats_18 : decode cX5_swapSeats 18 = .ok (.iastore, 1) := by decide +kernel
theorem dX5_swapSeats_19 : decode cX5_swapSeats 19 = .ok (.aload_n 0, 1) := by decide +kernel
theorem dX5_swapSeats_20 : decode cX5_swapSeats 20 = .ok (.getfield 24, 3) := by decide +kernel
theorem dX5_swapSeats_23 : decode cX5_swapSeats 23 = .ok (.iload_n 2, 1) := by decide +kernel
theorem dX5_swapSeats_24 : decode cX5_swapSeats 24 = .ok (.iload_n 3, 1) := by decide +kernel
theorem dX5_swapSeats_25 : decode cX5_swapSeats 25 = .ok (.iastore, 1) := by decide +kernel
theorem dX5_swapSeats_26 : decode cX5_swapSeats 26 = .ok (.return_, 1) := by decide +kernel
theorem dX2_seatsThatFit_0 : decode cX2_seatsThatFit 0 = .ok (.iconst 0, 1) := by decide +kernel
theorem dX2_seatsThatFit_1 : decode cX2_seatsThatFit 1 = .ok (.istore_n 3, 1) := by decide +kernel
theorem dX2_seatsThatFit_2 : decode cX2_seatsThatFit 2 = .ok (.iconst 0, 1) := by decide +kernel
theorem dX2_seatsThatFit_3 : decode cX2_seatsThatFit 3 = .ok (.istore 4, 2) := by decide +kernel
theorem dX2_seatsThatFit_5 : decode cX2_seatsThatFit 5 = .ok (.iload 4, 2) := by decide +kernel
theorem dX2_seatsThatFit_7 : decode cX2_seatsThatFit 7 = .ok (.aload_n 1, 1) := by decide +kernel
theorem dX2_seatsThatFit_8 : decode cX2_seatsThatFit 8 = .ok (.getfield 51, 3) := by decide +kernel
theorem dX2_seatsThatFit_11 : decode cX2_seatsThatFit 11 = .ok (.if_icmp .ge 45, 3) := by decide +kernel
theorem dX2_seatsThatFit_14 : decode cX2_seatsThatFit 14 = .ok (.aload_n 0, 1) := by decide +kernel
theorem dX2_seatsThatFit_15 : decode cX2_seatsThatFit 15 = .ok (.getfield 12, 3) := by decide +kernel
theorem dX2_seatsThatFit_18 : decode cX2_seatsThatFit 18 = .ok (.aload_n 1, 1) := by decide +kernel
theorem dX2_seatsThatFit_19 : decode cX2_seatsThatFit 19 = .ok (.invokevirtual 25, 3) := by decide +kernel
theorem dX2_seatsThatFit_22 : decode cX2_seatsThatFit 22 = .ok (.aload_n 0, 1) := by decide +kernel
theorem dX2_seatsThatFit_23 : decode cX2_seatsThatFit 23 = .ok (.getfield 12, 3) := by decide +kernel
theorem dX2_seatsThatFit_26 : decode cX2_seatsThatFit 26 = .ok (.aload_n 0, 1) := by decide +kernel
theorem dX2_seatsThatFit_27 : decode cX2_seatsThatFit 27 = .ok (.getfield 12, 3) := by decide +kernel
theorem dX2_seatsThatFit_30 : decode cX2_seatsThatFit 30 = .ok (.iload_n 2, 1) := by decide +kernel
theorem dX2_seatsThatFit_31 : decode cX2_seatsThatFit 31 = .ok (.invokevirtual 120, 3) := by decide +kernel
theorem dX2_seatsThatFit_34 : decode cX2_seatsThatFit 34 = .ok (.iload 4, 2) := by decide +kernel
theorem dX2_seatsThatFit_36 : decode cX2_seatsThatFit 36 = .ok (.invokevirtual 123, 3) := by decide +kernel
theorem dX2_seatsThatFit_39 : decode cX2_seatsThatFit 39 = .ok (.iload_n 3, 1) := by decide +kernel
theorem dX2_seatsThatFit_40 : decode cX2_seatsThatFit 40 = .ok (.aload_n 0, 1) := by decide +kernel
theorem dX2_seatsThatFit_41 : decode cX2_seatsThatFit 41 = .ok (.iload_n 2, 1) := by decide +kernel
theorem dX2_seatsThatFit_42 : decode cX2_seatsThatFit 42 = .ok (.invokevirtual 117, 3) := by decide +kernel
theorem dX2_seatsThatFit_45 : decode cX2_seatsThatFit 45 = .ok (.iload 4, 2) := by decide +kernel
theorem dX2_seatsThatFit_47 : decode cX2_seatsThatFit 47 = .ok (.ishl, 1) := by decide +kernel
theorem dX2_seatsThatFit_48 : decode cX2_seatsThatFit 48 = .ok (.ior, 1) := by decide +kernel
theorem dX2_seatsThatFit_49 : decode cX2_seatsThatFit 49 = .ok (.istore_n 3, 1) := by decide +kernel
theorem dX2_seatsThatFit_50 : decode cX2_seatsThatFit 50 = .ok (.iinc 4 1, 3) := by decide +kernel
theorem dX2_seatsThatFit_53 : decode cX2_seatsThatFit 53 = .ok (.goto (-48), 3) := by decide +kernel
theorem dX2_seatsThatFit_56 : decode cX2_seatsThatFit 56 = .ok (.iload_n 3, 1) := by decide +kernel
theorem dX2_seatsThatFit_57 : decode cX2_seatsThatFit 57 = .ok (.ireturn, 1) := by decide +kernel
theorem dX2_subjectsThatFit_0 : decode cX2_subjectsThatFit 0 = .ok (.iconst 0, 1) := by decide +kernel
theorem dX2_subjectsThatFit_1 : decode cX2_subjectsThatFit 1 = .ok (.istore 4, 2) := by decide +kernel
theorem dX2_subjectsThatFit_3 : decode cX2_subjectsThatFit 3 = .ok (.iconst 0, 1) := by decide +kernel
theorem dX2_subjectsThatFit_4 : decode cX2_subjectsThatFit 4 = .ok (.istore 5, 2) := by decide +kernel
theorem dX2_subjectsThatFit_6 : decode cX2_subjectsThatFit 6 = .ok (.iload 5, 2) := by decide +kernel
theorem dX2_subjectsThatFit_8 : decode cX2_subjectsThatFit 8 = .ok (.aload_n 1, 1) := by decide +kernel
theorem dX2_subjectsThatFit_9 : decode cX2_subjectsThatFit 9 = .ok (.getfield 126, 3) := by decide +kernel
theorem dX2_subjectsThatFit_12 : decode cX2_subjectsThatFit 12 = .ok (.if_icmp .ge 41, 3) := by decide +kernel
theorem dX2_subjectsThatFit_15 : decode cX2_subjectsThatFit 15 = .ok (.aload_n 0, 1) := by decide +kernel
theorem dX2_subjectsThatFit_16 : decode cX2_subjectsThatFit 16 = .ok (.getfield 12, 3) := by decide +kernel
theorem dX2_subjectsThatFit_19 : decode cX2_subjectsThatFit 19 = .ok (.aload_n 1, 1) := by decide +kernel
theorem dX2_subjectsThatFit_20 : decode cX2_subjectsThatFit 20 = .ok (.invokevirtual 25, 3) := by decide +kernel
theorem dX2_subjectsThatFit_23 : decode cX2_subjectsThatFit 23 = .ok (.aload_n 0, 1) := by decide +kernel
theorem dX2_subjectsThatFit_24 : decode cX2_subjectsThatFit 24 = .ok (.getfield 12, 3) := by decide +kernel
theorem dX2_subjectsThatFit_27 : decode cX2_subjectsThatFit 27 = .ok (.getfield 129, 3) := by decide +kernel
theorem dX2_subjectsThatFit_30 : decode cX2_subjectsThatFit 30 = .ok (.iload_n 3, 1) := by decide +kernel
theorem dX2_subjectsThatFit_31 : decode cX2_subjectsThatFit 31 = .ok (.iload 5, 2) := by decide +kernel
theorem dX2_subjectsThatFit_33 : decode cX2_subjectsThatFit 33 = .ok (.iastore, 1) := by decide +kernel
theorem dX2_subjectsThatFit_34 : decode cX2_subjectsThatFit 34 = .ok (.iload 4, 2) := by decide +kernel
theorem dX2_subjectsThatFit_36 : decode cX2_subjectsThatFit 36 = .ok (.aload_n 0, 1) := by decide +kernel
theorem dX2_subjectsThatFit_37 : decode cX2_subjectsThatFit 37 = .ok (.iload_n 2, 1) := by decide +kernel
theorem dX2_subjectsThatFit_38 : decode cX2_subjectsThatFit 38 = .ok (.invokevirtual 117, 3) := by decide +kernel
theorem dX2_subjectsThatFit_41 : decode cX2_subjectsThatFit 41 = .ok (.iload 5, 2) := by decide +kernel
theorem dX2_subjectsThatFit_43 : decode cX2_subjectsThatFit 43 = .ok (.ishl, 1) := by decide +kernel
theorem dX2_subjectsThatFit_44 : decode cX2_subjectsThatFit 44 = .ok (.ior, 1) := by decide +kernel
theorem dX2_subjectsThatFit_45 : decode cX2_subjectsThatFit 45 = .ok (.istore 4, 2) := by decide +kernel
theorem dX2_subjectsThatFit_47 : decode cX2_subjectsThatFit 47 = .ok (.iinc 5 1, 3) := by decide +kernel
theorem dX2_subjectsThatFit_50 : decode cX2_subjectsThatFit 50 = .ok (.goto (-44), 3) := by decide +kernel
theorem dX2_subjectsThatFit_53 : decode cX2_subjectsThatFit 53 = .ok (.iload 4, 2) := by decide +kernel
theorem dX2_subjectsThatFit_55 : decode cX2_subjectsThatFit 55 = .ok (.ireturn, 1) := by decide +kernel
theorem dX2_reachesThatFit_0 : decode cX2_reachesThatFit 0 = .ok (.iconst 0, 1) := by decide +kernel
theorem dX2_reachesThatFit_1 : decode cX2_reachesThatFit 1 = .ok (.istore_n 3, 1) := by decide +kernel
theorem dX2_reachesThatFit_2 : decode cX2_reachesThatFit 2 = .ok (.iconst 0, 1) := by decide +kernel
theorem dX2_reachesThatFit_3 : decode cX2_reachesThatFit 3 = .ok (.istore 4, 2) := by decide +kernel
theorem dX2_reachesThatFit_5 : decode cX2_reachesThatFit 5 = .ok (.iload 4, 2) := by decide +kernel
theorem dX2_reachesThatFit_7 : decode cX2_reachesThatFit 7 = .ok (.bipush 7, 2) := by decide +kernel
theorem dX2_reachesThatFit_9 : decode cX2_reachesThatFit 9 = .ok (.if_icmp .ge 37, 3) := by decide +kernel
theorem dX2_reachesThatFit_12 : decode cX2_reachesThatFit 12 = .ok (.aload_n 0, 1) := by decide +kernel
theorem dX2_reachesThatFit_13 : decode cX2_reachesThatFit 13 = .ok (.getfield 12, 3) := by decide +kernel
theorem dX2_reachesThatFit_16 : decode cX2_reachesThatFit 16 = .ok (.aload_n 1, 1) := by decide +kernel
theorem dX2_reachesThatFit_17 : decode cX2_reachesThatFit 17 = .ok (.invokevirtual 25, 3) := by decide +kernel
theorem dX2_reachesThatFit_20 : decode cX2_reachesThatFit 20 = .ok (.aload_n 0, 1) := by decide +kernel
theorem dX2_reachesThatFit_21 : decode cX2_reachesThatFit 21 = .ok (.getfield 12, 3) := by decide +kernel
theorem dX2_reachesThatFit_24 : decode cX2_reachesThatFit 24 = .ok (.iload 4, 2) := by decide +kernel
theorem dX2_reachesThatFit_26 : decode cX2_reachesThatFit 26 = .ok (.putfield 132, 3) := by decide +kernel
theorem dX2_reachesThatFit_29 : decode cX2_reachesThatFit 29 = .ok (.iload_n 3, 1) := by decide +kernel
theorem dX2_reachesThatFit_30 : decode cX2_reachesThatFit 30 = .ok (.aload_n 0, 1) := by decide +kernel
theorem dX2_reachesThatFit_31 : decode cX2_reachesThatFit 31 = .ok (.iload_n 2, 1) := by decide +kernel
theorem dX2_reachesThatFit_32 : decode cX2_reachesThatFit 32 = .ok (.invokevirtual 117, 3) := by decide +kernel
theorem dX2_reachesThatFit_35 : decode cX2_reachesThatFit 35 = .ok (.iload 4, 2) := by decide +kernel
theorem dX2_reachesThatFit_37 : decode cX2_reachesThatFit 37 = .ok (.ishl, 1) := by decide +kernel
theorem dX2_reachesThatFit_38 : decode cX2_reachesThatFit 38 = .ok (.ior, 1) := by decide +kernel
theorem dX2_reachesThatFit_39 : decode cX2_reachesThatFit 39 = .ok (.istore_n 3, 1) := by decide +kernel
theorem dX2_reachesThatFit_40 : decode cX2_reachesThatFit 40 = .ok (.iinc 4 1, 3) := by decide +kernel
theorem dX2_reachesThatFit_43 : decode cX2_reachesThatFit 43 = .ok (.goto (-38), 3) := by decide +kernel
theorem dX2_reachesThatFit_46 : decode cX2_reachesThatFit 46 = .ok (.iload_n 3, 1) := by decide +kernel
theorem dX2_reachesThatFit_47 : decode cX2_reachesThatFit 47 = .ok (.ireturn, 1) := by decide +kernel
theorem dX2_knownDespite_0 : decode cX2_knownDespite 0 = .ok (.aload_n 0, 1) := by decide +kernel
theorem dX2_knownDespite_1 : decode cX2_knownDespite 1 = .ok (.getfield 12, 3) := by decide +kernel
theorem dX2_knownDespite_4 : decode cX2_knownDespite 4 = .ok (.aload_n 1, 1) := by decide +kernel
theorem dX2_knownDespite_5 : decode cX2_knownDespite 5 = .ok (.invokevirtual 25, 3) := by decide +kernel
theorem dX2_knownDespite_8 : decode cX2_knownDespite 8 = .ok (.iconst 0, 1) := by decide +kernel
theorem dX2_knownDespite_9 : decode cX2_knownDespite 9 = .ok (.istore 6, 2) := by decide +kernel
theorem dX2_knownDespite_11 : decode cX2_knownDespite 11 = .ok (.iload 6, 2) := by decide +kernel
theorem dX2_knownDespite_13 : decode cX2_knownDespite 13 = .ok (.iload 4, 2) := by decide +kernel
theorem dX2_knownDespite_15 : decode cX2_knownDespite 15 = .ok (.if_icmp .ge 42, 3) := by decide +kernel
theorem dX2_knownDespite_18 : decode cX2_knownDespite 18 = .ok (.iload 5, 2) := by decide +kernel
theorem dX2_knownDespite_20 : decode cX2_knownDespite 20 = .ok (.iload 6, 2) := by decide +kernel
theorem dX2_knownDespite_22 : decode cX2_knownDespite 22 = .ok (.ishr, 1) := by decide +kernel
theorem dX2_knownDespite_23 : decode cX2_knownDespite 23 = .ok (.iconst 1, 1) := by decide +kernel
theorem dX2_knownDespite_24 : decode cX2_knownDespite 24 = .ok (.iand, 1) := by decide +kernel
theorem dX2_knownDespite_25 : decode cX2_knownDespite 25 = .ok (.ifCond .eq 19, 3) := by decide +kernel
theorem dX2_knownDespite_28 : decode cX2_knownDespite 28 = .ok (.aload_n 0, 1) := by decide +kernel
theorem dX2_knownDespite_29 : decode cX2_knownDespite 29 = .ok (.getfield 12, 3) := by decide +kernel
theorem dX2_knownDespite_32 : decode cX2_knownDespite 32 = .ok (.dup, 1) := by decide +kernel
theorem dX2_knownDespite_33 : decode cX2_knownDespite 33 = .ok (.getfield 79, 3) := by decide +kernel
theorem dX2_knownDespite_36 : decode cX2_knownDespite 36 = .ok (.iconst 1, 1) := by decide +kernel
theorem dX2_knownDespite_37 : decode cX2_knownDespite 37 = .ok (.iadd, 1) := by decide +kernel
theorem dX2_knownDespite_38 : decode cX2_knownDespite 38 = .ok (.putfield 79, 3) := by decide +kernel
theorem dX2_knownDespite_41 : decode cX2_knownDespite 41 = .ok (.goto 10, 3) := by decide +kernel
theorem dX2_knownDespite_44 : decode cX2_knownDespite 44 = .ok (.aload_n 0, 1) := by decide +kernel
theorem dX2_knownDespite_45 : decode cX2_knownDespite 45 = .ok (.getfield 12, 3) := by decide +kernel
theorem dX2_knownDespite_48 : decode cX2_knownDespite 48 = .ok (.invokevirtual 29, 3) := by decide +kernel
theorem dX2_knownDespite_51 : decode cX2_knownDespite 51 = .ok (.iinc 6 1, 3) := by decide +kernel
theorem dX2_knownDespite_54 : decode cX2_knownDespite 54 = .ok (.goto (-43), 3) := by decide +kernel
theorem dX2_knownDespite_57 : decode cX2_knownDespite 57 = .ok (.aload_n 0, 1) := by decide +kernel
theorem dX2_knownDespite_58 : decode cX2_knownDespite 58 = .ok (.getfield 12, 3) := by decide +kernel
theorem dX2_knownDespite_61 : decode cX2_knownDespite 61 = .ok (.iload_n 2, 1) := by decide +kernel
theorem dX2_knownDespite_62 : decode cX2_knownDespite 62 = .ok (.iload_n 3, 1) := by decide +kernel
theorem dX2_knownDespite_63 : decode cX2_knownDespite 63 = .ok (.invokevirtual 32, 3) := by decide +kernel
theorem dX2_knownDespite_66 : decode cX2_knownDespite 66 = .ok (.ireturn, 1) := by decide +kernel
theorem dX6_power_0 : decode cX6_power 0 = .ok (.lconst 1, 1) := by decide +kernel
theorem dX6_power_1 : decode cX6_power 1 = .ok (.lstore_n 3, 1) := by decide +kernel
theorem dX6_power_2 : decode cX6_power 2 = .ok (.iconst 0, 1) := by decide +kernel
theorem dX6_power_3 : decode cX6_power 3 = .ok (.istore 5, 2) := by decide +kernel
theorem dX6_power_5 : decode cX6_power 5 = .ok (.iload 5, 2) := by decide +kernel
theorem dX6_power_7 : decode cX6_power 7 = .ok (.iload_n 2, 1) := by decide +kernel
theorem dX6_power_8 : decode cX6_power 8 = .ok (.if_icmp .ge 13, 3) := by decide +kernel
theorem dX6_power_11 : decode cX6_power 11 = .ok (.lload_n 3, 1) := by decide +kernel
theorem dX6_power_12 : decode cX6_power 12 = .ok (.lload_n 0, 1) := by decide +kernel
theorem dX6_power_13 : decode cX6_power 13 = .ok (.lmul, 1) := by decide +kernel
theorem dX6_power_14 : decode cX6_power 14 = .ok (.lstore_n 3, 1) := by decide +kernel
theorem dX6_power_15 : decode cX6_power 15 = .ok (.iinc 5 1, 3) := by decide +kernel
theorem dX6_power_18 : decode cX6_power 18 = .ok (.goto (-13), 3) := by decide +kernel
theorem dX6_power_21 : decode cX6_power 21 = .ok (.lload_n 3, 1) := by decide +kernel
theorem dX6_power_22 : decode cX6_power 22 = .ok (.lreturn, 1) := by decide +kernel
theorem dX2_casesKnown_0 : decode cX2_casesKnown 0 = .ok (.lconst 0, 1) := by decide +kernel
theorem dX2_casesKnown_1 : decode cX2_casesKnown 1 = .ok (.lstore 6, 2) := by decide +kernel
theorem dX2_casesKnown_3 : decode cX2_casesKnown 3 = .ok (.iconst 0, 1) := by decide +kernel
theorem dX2_casesKnown_4 : decode cX2_casesKnown 4 = .ok (.istore 8, 2) := by decide +kernel
theorem dX2_casesKnown_6 : decode cX2_casesKnown 6 = .ok (.iload 8, 2) := by decide +kernel
theorem dX2_casesKnown_8 : decode cX2_casesKnown 8 = .ok (.iconst 1, 1) := by decide +kernel
theorem dX2_casesKnown_9 : decode cX2_casesKnown 9 = .ok (.iload 4, 2) := by decide +kernel
theorem dX2_casesKnown_11 : decode cX2_casesKnown 11 = .ok (.ishl, 1) := by decide +kernel
theorem dX2_casesKnown_12 : decode cX2_casesKnown 12 = .ok (.if_icmp .ge 69, 3) := by decide +kernel
theorem dX2_casesKnown_15 : decode cX2_casesKnown 15 = .ok (.iload 8, 2) := by decide +kernel
theorem dX2_casesKnown_17 : decode cX2_casesKnown 17 = .ok (.invokestatic 143, 3) := by decide +kernel
theorem dX2_casesKnown_20 : decode cX2_casesKnown 20 = .ok (.istore 9, 2) := by decide +kernel
theorem dX2_casesKnown_22 : decode cX2_casesKnown 22 = .ok (.iload 5, 2) := by decide +kernel
theorem dX2_casesKnown_24 : decode cX2_casesKnown 24 = .ok (.i2l, 1) := by decide +kernel
theorem dX2_casesKnown_25 : decode cX2_casesKnown 25 = .ok (.iload 9, 2) := by decide +kernel
theorem dX2_casesKnown_27 : decode cX2_casesKnown 27 = .ok (.invokestatic 148, 3) := by decide +kernel
theorem dX2_casesKnown_30 : decode cX2_casesKnown 30 = .ok (.bipush 10, 2) := by decide +kernel
theorem dX2_casesKnown_32 : decode cX2_casesKnown 32 = .ok (.iload 5, 2) := by decide +kernel
theorem dX2_casesKnown_34 : decode cX2_casesKnown 34 = .ok (.isub, 1) := by decide +kernel
theorem dX2_casesKnown_35 : decode cX2_casesKnown 35 = .ok (.i2l, 1) := by decide +kernel
theorem dX2_casesKnown_36 : decode cX2_casesKnown 36 = .ok (.iload 4, 2) := by decide +kernel
theorem dX2_casesKnown_38 : decode cX2_casesKnown 38 = .ok (.iload 9, 2) := by decide +kernel
theorem dX2_casesKnown_40 : decode cX2_casesKnown 40 = .ok (.isub, 1) := by decide +kernel
theorem dX2_casesKnown_41 : decode cX2_casesKnown 41 = .ok (.invokestatic 148, 3) := by decide +kernel
theorem dX2_casesKnown_44 : decode cX2_casesKnown 44 = .ok (.lmul, 1) := by decide +kernel
theorem dX2_casesKnown_45 : decode cX2_casesKnown 45 = .ok (.lstore 10, 2) := by decide +kernel
theorem dX2_casesKnown_47 : decode cX2_casesKnown 47 = .ok (.lload 10, 2) := by decide +kernel
theorem dX2_casesKnown_49 : decode cX2_casesKnown 49 = .ok (.lconst 0, 1) := by decide +kernel
theorem dX2_casesKnown_50 : decode cX2_casesKnown 50 = .ok (.lcmp, 1) := by decide +kernel
theorem dX2_casesKnown_51 : decode cX2_casesKnown 51 = .ok (.ifCond .eq 24, 3) := by decide +kernel
theorem dX2_casesKnown_54 : decode cX2_casesKnown 54 = .ok (.aload_n 0, 1) := by decide +kernel
theorem dX2_casesKnown_55 : decode cX2_casesKnown 55 = .ok (.aload_n 1, 1) := by decide +kernel
theorem dX2_casesKnown_56 : decode cX2_casesKnown 56 = .ok (.iload_n 2, 1) := by decide +kernel
theorem dX2_casesKnown_57 : decode cX2_casesKnown 57 = .ok (.iload_n 3, 1) := by decide +kernel
theorem dX2_casesKnown_58 : decode cX2_casesKnown 58 = .ok (.iload 4, 2) := by decide +kernel
theorem dX2_casesKnown_60 : decode cX2_casesKnown 60 = .ok (.iload 8, 2) := by decide +kernel
theorem dX2_casesKnown_62 : decode cX2_casesKnown 62 = .ok (.invokevirtual 152, 3) := by decide +kernel
theorem dX2_casesKnown_65 : decode cX2_casesKnown 65 = .ok (.ifCond .eq 10, 3) := by decide +kernel
theorem dX2_casesKnown_68 : decode cX2_casesKnown 68 = .ok (.lload 6, 2) := by decide +kernel
theorem dX2_casesKnown_70 : decode cX2_casesKnown 70 = .ok (.lload 10, 2) := by decide +kernel
theorem dX2_casesKnown_72 : decode cX2_casesKnown 72 = .ok (.ladd, 1) := by decide +kernel
theorem dX2_casesKnown_73 : decode cX2_casesKnown 73 = .ok (.lstore 6, 2) := by decide +kernel
theorem dX2_casesKnown_75 : decode cX2_casesKnown 75 = .ok (.iinc 8 1, 3) := by decide +kernel
theorem dX2_casesKnown_78 : decode cX2_casesKnown 78 = .ok (.goto (-72), 3) := by decide +kernel
theorem dX2_casesKnown_81 : decode cX2_casesKnown 81 = .ok (.lload 6, 2) := by decide +kernel
theorem dX2_casesKnown_83 : decode cX2_casesKnown 83 = .ok (.lreturn, 1) := by decide +kernel
theorem dX2_drawOnce_0 : decode cX2_drawOnce 0 = .ok (.aload_n 0, 1) := by decide +kernel
theorem dX2_drawOnce_1 : decode cX2_drawOnce 1 = .ok (.getfield 12, 3) := by decide +kernel
theorem dX2_drawOnce_4 : decode cX2_drawOnce 4 = .ok (.getfield 126, 3) := by decide +kernel
theorem dX2_drawOnce_7 : decode cX2_drawOnce 7 = .ok (.iconst 1, 1) := by decide +kernel
theorem dX2_drawOnce_8 : decode cX2_drawOnce 8 = .ok (.if_icmp .lt 25, 3) := by decide +kernel
theorem dX2_drawOnce_11 : decode cX2_drawOnce 11 = .ok (.aload_n 0, 1) := by decide +kernel
theorem dX2_drawOnce_12 : decode cX2_drawOnce 12 = .ok (.getfield 12, 3) := by decide +kernel
theorem dX2_drawOnce_15 : decode cX2_drawOnce 15 = .ok (.getfield 97, 3) := by decide +kernel
theorem dX2_drawOnce_18 : decode cX2_drawOnce 18 = .ok (.iconst 1, 1) := by decide +kernel
theorem dX2_drawOnce_19 : decode cX2_drawOnce 19 = .ok (.if_icmp .lt 14, 3) := by decide +kernel
theorem dX2_drawOnce_22 : decode cX2_drawOnce 22 = .ok (.aload_n 0, 1) := by decide +kernel
theorem dX2_drawOnce_23 : decode cX2_drawOnce 23 = .ok (.getfield 12, 3) := by decide +kernel
theorem dX2_drawOnce_26 : decode cX2_drawOnce 26 = .ok (.getfield 51, 3) := by decide +kernel
theorem dX2_drawOnce_29 : decode cX2_drawOnce 29 = .ok (.iconst 1, 1) := by decide +kernel
theorem dX2_drawOnce_30 : decode cX2_drawOnce 30 = .ok (.if_icmp .ge 4, 3) := by decide +kernel
theorem dX2_drawOnce_33 : decode cX2_drawOnce 33 = .ok (.return_, 1) := by decide +kernel
theorem dX2_drawOnce_34 : decode cX2_drawOnce 34 = .ok (.lload_n 1, 1) := by decide +kernel
theorem dX2_drawOnce_35 : decode cX2_drawOnce 35 = .ok (.aload_n 0, 1) := by decide +kernel
theorem dX2_drawOnce_36 : decode cX2_drawOnce 36 = .ok (.getfield 12, 3) := by decide +kernel
theorem dX2_drawOnce_39 : decode cX2_drawOnce 39 = .ok (.getfield 126, 3) := by decide +kernel
theorem dX2_drawOnce_42 : decode cX2_drawOnce 42 = .ok (.i2l, 1) := by decide +kernel
theorem dX2_drawOnce_43 : decode cX2_drawOnce 43 = .ok (.lrem, 1) := by decide +kernel
theorem dX2_drawOnce_44 : decode cX2_drawOnce 44 = .ok (.l2i, 1) := by decide +kernel
theorem dX2_drawOnce_45 : decode cX2_drawOnce 45 = .ok (.istore_n 3, 1) := by decide +kernel
theorem dX2_drawOnce_46 : decode cX2_drawOnce 46 = .ok (.lload_n 1, 1) := by decide +kernel
theorem dX2_drawOnce_47 : decode cX2_drawOnce 47 = .ok (.ldc2_w 164, 3) := by decide +kernel
theorem dX2_drawOnce_50 : decode cX2_drawOnce 50 = .ok (.lrem, 1) := by decide +kernel
theorem dX2_drawOnce_51 : decode cX2_drawOnce 51 = .ok (.lconst 0, 1) := by decide +kernel
theorem dX2_drawOnce_52 : decode cX2_drawOnce 52 = .ok (.lcmp, 1) := by decide +kernel
theorem dX2_drawOnce_53 : decode cX2_drawOnce 53 = .ok (.ifCond .ne 23, 3) := by decide +kernel
theorem dX2_drawOnce_56 : decode cX2_drawOnce 56 = .ok (.aload_n 0, 1) := by decide +kernel
theorem dX2_drawOnce_57 : decode cX2_drawOnce 57 = .ok (.getfield 12, 3) := by decide +kernel
theorem dX2_drawOnce_60 : decode cX2_drawOnce 60 = .ok (.getfield 129, 3) := by decide +kernel
theorem dX2_drawOnce_63 : decode cX2_drawOnce 63 = .ok (.lload_n 1, 1) := by decide +kernel
theorem dX2_drawOnce_64 : decode cX2_drawOnce 64 = .ok (.aload_n 0, 1) := by decide +kernel
theorem dX2_drawOnce_65 : decode cX2_drawOnce 65 = .ok (.getfield 12, 3) := by decide +kernel
theorem dX2_drawOnce_68 : decode cX2_drawOnce 68 = .ok (.getfield 97, 3) := by decide +kernel
theorem dX2_drawOnce_71 : decode cX2_drawOnce 71 = .ok (.i2l, 1) := by decide +kernel
theorem dX2_drawOnce_72 : decode cX2_drawOnce 72 = .ok (.lrem, 1) := by decide +kernel
theorem dX2_drawOnce_73 : decode cX2_drawOnce 73 = .ok (.l2i, 1) := by decide +kernel
theorem dX2_drawOnce_74 : decode cX2_drawOnce 74 = .ok (.iload_n 3, 1) := by decide +kernel
theorem dX2_drawOnce_75 : decode cX2_drawOnce 75 = .ok (.iastore, 1) := by decide +kernel
theorem dX2_drawOnce_76 : decode cX2_drawOnce 76 = .ok (.lload_n 1, 1) := by decide +kernel
theorem dX2_drawOnce_77 : decode cX2_drawOnce 77 = .ok (.ldc2_w 166, 3) := by decide +kernel
theorem dX2_drawOnce_80 : decode cX2_drawOnce 80 = .ok (.lrem, 1) := by decide +kernel
theorem dX2_drawOnce_81 : decode cX2_drawOnce 81 = .ok (.lconst 0, 1) := by decide +kernel
theorem dX2_drawOnce_82 : decode cX2_drawOnce 82 = .ok (.lcmp, 1) := by decide +kernel
theorem dX2_drawOnce_83 : decode cX2_drawOnce 83 = .ok (.ifCond .ne 30, 3) := by decide +kernel
theorem dX2_drawOnce_86 : decode cX2_drawOnce 86 = .ok (.aload_n 0, 1) := by decide +kernel
theorem dX2_drawOnce_87 : decode cX2_drawOnce 87 = .ok (.getfield 12, 3) := by decide +kernel
theorem dX2_drawOnce_90 : decode cX2_drawOnce 90 = .ok (.getfield 168, 3) := by decide +kernel
theorem dX2_drawOnce_93 : decode cX2_drawOnce 93 = .ok (.lload_n 1, 1) := by decide +kernel
theorem dX2_drawOnce_94 : decode cX2_drawOnce 94 = .ok (.aload_n 0, 1) := by decide +kernel
theorem dX2_drawOnce_95 : decode cX2_drawOnce 95 = .ok (.getfield 12, 3) := by decide +kernel
theorem dX2_drawOnce_98 : decode cX2_drawOnce 98 = .ok (.getfield 51, 3) := by decide +kernel
theorem dX2_drawOnce_101 : decode cX2_drawOnce 101 = .ok (.i2l, 1) := by decide +kernel
theorem dX2_drawOnce_102 : decode cX2_drawOnce 102 = .ok (.lrem, 1) := by decide +kernel
theorem dX2_drawOnce_103 : decode cX2_drawOnce 103 = .ok (.l2i, 1) := by decide +kernel
theorem dX2_drawOnce_104 : decode cX2_drawOnce 104 = .ok (.dup2, 1) := by decide +kernel
theorem dX2_drawOnce_105 : decode cX2_drawOnce 105 = .ok (.iaload, 1) := by decide +kernel
theorem dX2_drawOnce_106 : decode cX2_drawOnce 106 = .ok (.iconst 1, 1) := by decide +kernel
theorem dX2_drawOnce_107 : decode cX2_drawOnce 107 = .ok (.iload_n 3, 1) := by decide +kernel
theorem dX2_drawOnce_108 : decode cX2_drawOnce 108 = .ok (.ishl, 1) := by decide +kernel
theorem dX2_drawOnce_109 : decode cX2_drawOnce 109 = .ok (.iconst (-1), 1) := by decide +kernel
theorem dX2_drawOnce_110 : decode cX2_drawOnce 110 = .ok (.ixor, 1) := by decide +kernel
theorem dX2_drawOnce_111 : decode cX2_drawOnce 111 = .ok (.iand, 1) := by decide +kernel
theorem dX2_drawOnce_112 : decode cX2_drawOnce 112 = .ok (.iastore, 1) := by decide +kernel
theorem dX2_drawOnce_113 : decode cX2_drawOnce 113 = .ok (.return_, 1) := by decide +kernel
theorem dX2_afterDraws_0 : decode cX2_afterDraws 0 = .ok (.aload_n 0, 1) := by decide +kernel
theorem dX2_afterDraws_1 : decode cX2_afterDraws 1 = .ok (.getfield 12, 3) := by decide +kernel
theorem dX2_afterDraws_4 : decode cX2_afterDraws 4 = .ok (.aload_n 1, 1) := by decide +kernel
theorem dX2_afterDraws_5 : decode cX2_afterDraws 5 = .ok (.invokevirtual 25, 3) := by decide +kernel
theorem dX2_afterDraws_8 : decode cX2_afterDraws 8 = .ok (.iload_n 3, 1) := by decide +kernel
theorem dX2_afterDraws_9 : decode cX2_afterDraws 9 = .ok (.i2l, 1) := by decide +kernel
theorem dX2_afterDraws_10 : decode cX2_afterDraws 10 = .ok (.lstore 4, 2) := by decide +kernel
theorem dX2_afterDraws_12 : decode cX2_afterDraws 12 = .ok (.iconst 0, 1) := by decide +kernel
theorem dX2_afterDraws_13 : decode cX2_afterDraws 13 = .ok (.istore 6, 2) := by decide +kernel
theorem dX2_afterDraws_15 : decode cX2_afterDraws 15 = .ok (.iload 6, 2) := by decide +kernel
theorem dX2_afterDraws_17 : decode cX2_afterDraws 17 = .ok (.iload_n 2, 1) := by decide +kernel
theorem dX2_afterDraws_18 : decode cX2_afterDraws 18 = .ok (.if_icmp .ge 34, 3) := by decide +kernel
theorem dX2_afterDraws_21 : decode cX2_afterDraws 21 = .ok (.lload 4, 2) := by decide +kernel
theorem dX2_afterDraws_23 : decode cX2_afterDraws 23 = .ok (.ldc2_w 156, 3) := by decide +kernel
theorem dX2_afterDraws_26 : decode cX2_afterDraws 26 = .ok (.lmul, 1) := by decide +kernel
theorem dX2_afterDraws_27 : decode cX2_afterDraws 27 = .ok (.ldc2_w 158, 3) := by decide +kernel
theorem dX2_afterDraws_30 : decode cX2_afterDraws 30 = .ok (.lrem, 1) := by decide +kernel
theorem dX2_afterDraws_31 : decode cX2_afterDraws 31 = .ok (.lstore 4, 2) := by decide +kernel
theorem dX2_afterDraws_33 : decode cX2_afterDraws 33 = .ok (.aload_n 0, 1) := by decide +kernel
theorem dX2_afterDraws_34 : decode cX2_afterDraws 34 = .ok (.lload 4, 2) := by decide +kernel
theorem dX2_afterDraws_36 : decode cX2_afterDraws 36 = .ok (.invokevirtual 160, 3) := by decide +kernel
theorem dX2_afterDraws_39 : decode cX2_afterDraws 39 = .ok (.aload_n 0, 1) := by decide +kernel
theorem dX2_afterDraws_40 : decode cX2_afterDraws 40 = .ok (.getfield 12, 3) := by decide +kernel
theorem dX2_afterDraws_43 : decode cX2_afterDraws 43 = .ok (.invokevirtual 29, 3) := by decide +kernel
theorem dX2_afterDraws_46 : decode cX2_afterDraws 46 = .ok (.iinc 6 1, 3) := by decide +kernel
theorem dX2_afterDraws_49 : decode cX2_afterDraws 49 = .ok (.goto (-34), 3) := by decide +kernel
theorem dX2_afterDraws_52 : decode cX2_afterDraws 52 = .ok (.aload_n 0, 1) := by decide +kernel
theorem dX2_afterDraws_53 : decode cX2_afterDraws 53 = .ok (.getfield 12, 3) := by decide +kernel
theorem dX2_afterDraws_56 : decode cX2_afterDraws 56 = .ok (.areturn, 1) := by decide +kernel
theorem dX3_init_0 : decode cX3_init 0 = .ok (.aload_n 0, 1) := by decide +kernel
theorem dX3_init_1 : decode cX3_init 1 = .ok (.invokespecial 3, 3) := by decide +kernel
theorem dX3_init_4 : decode cX3_init 4 = .ok (.aload_n 0, 1) := by decide +kernel
theorem dX3_init_5 : decode cX3_init 5 = .ok (.bipush 120, 2) := by decide +kernel
theorem dX3_init_7 : decode cX3_init 7 = .ok (.newarray .int, 2) := by decide +kernel
theorem dX3_init_9 : decode cX3_init 9 = .ok (.putfield 9, 3) := by decide +kernel
theorem dX3_init_12 : decode cX3_init 12 = .ok (.aload_n 0, 1) := by decide +kernel
theorem dX3_init_13 : decode cX3_init 13 = .ok (.new 15, 3) := by decide +kernel
theorem dX3_init_16 : decode cX3_init 16 = .ok (.dup, 1) := by decide +kernel
theorem dX3_init_17 : decode cX3_init 17 = .ok (.invokespecial 17, 3) := by decide +kernel
theorem dX3_init_20 : decode cX3_init 20 = .ok (.putfield 18, 3) := by decide +kernel
theorem dX3_init_23 : decode cX3_init 23 = .ok (.return_, 1) := by decide +kernel
theorem dX3_take_0 : decode cX3_take 0 = .ok (.aload_n 0, 1) := by decide +kernel
theorem dX3_take_1 : decode cX3_take 1 = .ok (.getfield 22, 3) := by decide +kernel
theorem dX3_take_4 : decode cX3_take 4 = .ok (.bipush 120, 2) := by decide +kernel
theorem dX3_take_6 : decode cX3_take 6 = .ok (.if_icmp .lt 5, 3) := by decide +kernel
theorem dX3_take_9 : decode cX3_take 9 = .ok (.iconst 0, 1) := by decide +kernel
theorem dX3_take_10 : decode cX3_take 10 = .ok (.ireturn, 1) := by decide +kernel
theorem dX3_take_11 : decode cX3_take 11 = .ok (.aload_n 0, 1) := by decide +kernel
theorem dX3_take_12 : decode cX3_take 12 = .ok (.getfield 9, 3) := by decide +kernel
theorem dX3_take_15 : decode cX3_take 15 = .ok (.aload_n 0, 1) := by decide +kernel
theorem dX3_take_16 : decode cX3_take 16 = .ok (.getfield 22, 3) := by decide +kernel
theorem dX3_take_19 : decode cX3_take 19 = .ok (.iload_n 1, 1) := by decide +kernel
theorem dX3_take_20 : decode cX3_take 20 = .ok (.iastore, 1) := by decide +kernel
theorem dX3_take_21 : decode cX3_take 21 = .ok (.aload_n 0, 1) := by decide +kernel
theorem dX3_take_22 : decode cX3_take 22 = .ok (.dup, 1) := by decide +kernel
theorem dX3_take_23 : decode cX3_take 23 = .ok (.getfield 22, 3) := by decide +kernel
theorem dX3_take_26 : decode cX3_take 26 = .ok (.iconst 1, 1) := by decide +kernel
theorem dX3_take_27 : decode cX3_take 27 = .ok (.iadd, 1) := by decide +kernel
theorem dX3_take_28 : decode cX3_take 28 = .ok (.putfield 22, 3) := by decide +kernel
theorem dX3_take_31 : decode cX3_take 31 = .ok (.iconst 1, 1) := by decide +kernel
theorem dX3_take_32 : decode cX3_take 32 = .ok (.ireturn, 1) := by decide +kernel
theorem dX3_isFigure_0 : decode cX3_isFigure 0 = .ok (.iload_n 0, 1) := by decide +kernel
theorem dX3_isFigure_1 : decode cX3_isFigure 1 = .ok (.bipush 48, 2) := by decide +kernel
theorem dX3_isFigure_3 : decode cX3_isFigure 3 = .ok (.if_icmp .lt 13, 3) := by decide +kernel
theorem dX3_isFigure_6 : decode cX3_isFigure 6 = .ok (.iload_n 0, 1) := by decide +kernel
theorem dX3_isFigure_7 : decode cX3_isFigure 7 = .ok (.bipush 57, 2) := by decide +kernel
theorem dX3_isFigure_9 : decode cX3_isFigure 9 = .ok (.if_icmp .gt 7, 3) := by decide +kernel
theorem dX3_isFigure_12 : decode cX3_isFigure 12 = .ok (.iconst 1, 1) := by decide +kernel
theorem dX3_isFigure_13 : decode cX3_isFigure 13 = .ok (.goto 4, 3) := by decide +kernel
theorem dX3_isFigure_16 : decode cX3_isFigure 16 = .ok (.iconst 0, 1) := by decide +kernel
theorem dX3_isFigure_17 : decode cX3_isFigure 17 = .ok (.ireturn, 1) := by decide +kernel

theorem dX3_takeNumber_0 : decode cX3_takeNumber 0 = .ok (.aload_n 0, 1) := by decide +kernel
theorem dX3_takeNumber_1 : decode cX3_takeNumber 1 = .ok (.iconst 0, 1) := by decide +kernel
theorem dX3_takeNumber_2 : decode cX3_takeNumber 2 = .ok (.putfield 53, 3) := by decide +kernel
theorem dX3_takeNumber_5 : decode cX3_takeNumber 5 = .ok (.aload_n 0, 1) := by decide +kernel
theorem dX3_takeNumber_6 : decode cX3_takeNumber 6 = .ok (.getfield 29, 3) := by decide +kernel
theorem dX3_takeNumber_9 : decode cX3_takeNumber 9 = .ok (.aload_n 0, 1) := by decide +kernel
theorem dX3_takeNumber_10 : decode cX3_takeNumber 10 = .ok (.getfield 22, 3) := by decide +kernel
theorem dX3_takeNumber_13 : decode cX3_takeNumber 13 = .ok (.if_icmp .ge 68, 3) := by decide +kernel
theorem dX3_takeNumber_16 : decode cX3_takeNumber 16 = .ok (.aload_n 0, 1) := by decide +kernel
theorem dX3_takeNumber_17 : decode cX3_takeNumber 17 = .ok (.getfield 9, 3) := by decide +kernel
theorem dX3_takeNumber_20 : decode cX3_takeNumber 20 = .ok (.aload_n 0, 1) := by decide +kernel
theorem dX3_takeNumber_21 : decode cX3_takeNumber 21 = .ok (.getfield 29, 3) := by decide +kernel
theorem dX3_takeNumber_24 : decode cX3_takeNumber 24 = .ok (.iaload, 1) := by decide +kernel
theorem dX3_takeNumber_25 : decode cX3_takeNumber 25 = .ok (.invokestatic 96, 3) := by decide +kernel
theorem dX3_takeNumber_28 : decode cX3_takeNumber 28 = .ok (.ifCond .eq 53, 3) := by decide +kernel
theorem dX3_takeNumber_31 : decode cX3_takeNumber 31 = .ok (.aload_n 0, 1) := by decide +kernel
theorem dX3_takeNumber_32 : decode cX3_takeNumber 32 = .ok (.getfield 29, 3) := by decide +kernel
theorem dX3_takeNumber_35 : decode cX3_takeNumber 35 = .ok (.aload_n 0, 1) := by decide +kernel
theorem dX3_takeNumber_36 : decode cX3_takeNumber 36 = .ok (.getfield 93, 3) := by decide +kernel
theorem dX3_takeNumber_39 : decode cX3_takeNumber 39 = .ok (.isub, 1) := by decide +kernel
theorem dX3_takeNumber_40 : decode cX3_takeNumber 40 = .ok (.iconst 2, 1) := by decide +kernel
theorem dX3_takeNumber_41 : decode cX3_takeNumber 41 = .ok (.if_icmp .ge 27, 3) := by decide +kernel
theorem dX3_takeNumber_44 : decode cX3_takeNumber 44 = .ok (.aload_n 0, 1) := by decide +kernel
theorem dX3_takeNumber_45 : decode cX3_takeNumber 45 = .ok (.aload_n 0, 1) := by decide +kernel
theorem dX3_takeNumber_46 : decode cX3_takeNumber 46 = .ok (.getfield 53, 3) := by decide +kernel
theorem dX3_takeNumber_49 : decode cX3_takeNumber 49 = .ok (.bipush 10, 2) := by decide +kernel
theorem dX3_takeNumber_51 : decode cX3_takeNumber 51 = .ok (.imul, 1) := by decide +kernel
theorem dX3_takeNumber_52 : decode cX3_takeNumber 52 = .ok (.aload_n 0, 1) := by decide +kernel
theorem dX3_takeNumber_53 : decode cX3_takeNumber 53 = .ok (.getfield 9, 3) := by decide +kernel
theorem dX3_takeNumber_56 : decode cX3_takeNumber 56 = .ok (.aload_n 0, 1) := by decide +kernel
theorem dX3_takeNumber_57 : decode cX3_takeNumber 57 = .ok (.getfield 29, 3) := by decide +kernel
theorem dX3_takeNumber_60 : decode cX3_takeNumber 60 = .ok (.iaload, 1) := by decide +kernel
theorem dX3_takeNumber_61 : decode cX3_takeNumber 61 = .ok (.iadd, 1) := by decide +kernel
theorem dX3_takeNumber_62 : decode cX3_takeNumber 62 = .ok (.bipush 48, 2) := by decide +kernel
theorem dX3_takeNumber_64 : decode cX3_takeNumber 64 = .ok (.isub, 1) := by decide +kernel
theorem dX3_takeNumber_65 : decode cX3_takeNumber 65 = .ok (.putfield 53, 3) := by decide +kernel
theorem dX3_takeNumber_68 : decode cX3_takeNumber 68 = .ok (.aload_n 0, 1) := by decide +kernel
theorem dX3_takeNumber_69 : decode cX3_takeNumber 69 = .ok (.dup, 1) := by decide +kernel
theorem dX3_takeNumber_70 : decode cX3_takeNumber 70 = .ok (.getfield 29, 3) := by decide +kernel
theorem dX3_takeNumber_73 : decode cX3_takeNumber 73 = .ok (.iconst 1, 1) := by decide +kernel
theorem dX3_takeNumber_74 : decode cX3_takeNumber 74 = .ok (.iadd, 1) := by decide +kernel
theorem dX3_takeNumber_75 : decode cX3_takeNumber 75 = .ok (.putfield 29, 3) := by decide +kernel
theorem dX3_takeNumber_78 : decode cX3_takeNumber 78 = .ok (.goto (-73), 3) := by decide +kernel
theorem dX3_takeNumber_81 : decode cX3_takeNumber 81 = .ok (.aload_n 0, 1) := by decide +kernel
theorem dX3_takeNumber_82 : decode cX3_takeNumber 82 = .ok (.aload_n 0, 1) := by decide +kernel
theorem dX3_takeNumber_83 : decode cX3_takeNumber 83 = .ok (.getfield 29, 3) := by decide +kernel
theorem dX3_takeNumber_86 : decode cX3_takeNumber 86 = .ok (.aload_n 0, 1) := by decide +kernel
theorem dX3_takeNumber_87 : decode cX3_takeNumber 87 = .ok (.getfield 93, 3) := by decide +kernel
theorem dX3_takeNumber_90 : decode cX3_takeNumber 90 = .ok (.isub, 1) := by decide +kernel
theorem dX3_takeNumber_91 : decode cX3_takeNumber 91 = .ok (.iconst 2, 1) := by decide +kernel
theorem dX3_takeNumber_92 : decode cX3_takeNumber 92 = .ok (.if_icmp .le 8, 3) := by decide +kernel
theorem dX3_takeNumber_95 : decode cX3_takeNumber 95 = .ok (.bipush (-3), 2) := by decide +kernel
theorem dX3_takeNumber_97 : decode cX3_takeNumber 97 = .ok (.goto 5, 3) := by decide +kernel
theorem dX3_takeNumber_100 : decode cX3_takeNumber 100 = .ok (.bipush (-2), 2) := by decide +kernel
theorem dX3_takeNumber_102 : decode cX3_takeNumber 102 = .ok (.putfield 35, 3) := by decide +kernel
theorem dX3_takeNumber_105 : decode cX3_takeNumber 105 = .ok (.return_, 1) := by decide +kernel
theorem dX3_goOn_0 : decode cX3_goOn 0 = .ok (.aload_n 0, 1) := by decide +kernel
theorem dX3_goOn_1 : decode cX3_goOn 1 = .ok (.aload_n 0, 1) := by decide +kernel
theorem dX3_goOn_2 : decode cX3_goOn 2 = .ok (.getfield 29, 3) := by decide +kernel
theorem dX3_goOn_5 : decode cX3_goOn 5 = .ok (.putfield 93, 3) := by decide +kernel
theorem dX3_goOn_8 : decode cX3_goOn 8 = .ok (.aload_n 0, 1) := by decide +kernel
theorem dX3_goOn_9 : decode cX3_goOn 9 = .ok (.getfield 29, 3) := by decide +kernel
theorem dX3_goOn_12 : decode cX3_goOn 12 = .ok (.aload_n 0, 1) := by decide +kernel
theorem dX3_goOn_13 : decode cX3_goOn 13 = .ok (.getfield 22, 3) := by decide +kernel
theorem dX3_goOn_16 : decode cX3_goOn 16 = .ok (.if_icmp .lt 9, 3) := by decide +kernel
theorem dX3_goOn_19 : decode cX3_goOn 19 = .ok (.aload_n 0, 1) := by decide +kernel
theorem dX3_goOn_20 : decode cX3_goOn 20 = .ok (.iconst (-1), 1) := by decide +kernel
theorem dX3_goOn_21 : decode cX3_goOn 21 = .ok (.putfield 35, 3) := by decide +kernel
theorem dX3_goOn_24 : decode cX3_goOn 24 = .ok (.return_, 1) := by decide +kernel
theorem dX3_goOn_25 : decode cX3_goOn 25 = .ok (.aload_n 0, 1) := by decide +kernel
theorem dX3_goOn_26 : decode cX3_goOn 26 = .ok (.getfield 9, 3) := by decide +kernel
theorem dX3_goOn_29 : decode cX3_goOn 29 = .ok (.aload_n 0, 1) := by decide +kernel
theorem dX3_goOn_30 : decode cX3_goOn 30 = .ok (.getfield 29, 3) := by decide +kernel
theorem dX3_goOn_33 : decode cX3_goOn 33 = .ok (.iaload, 1) := by decide +kernel
theorem dX3_goOn_34 : decode cX3_goOn 34 = .ok (.istore_n 1, 1) := by decide +kernel
theorem dX3_goOn_35 : decode cX3_goOn 35 = .ok (.iload_n 1, 1) := by decide +kernel
theorem dX3_goOn_36 : decode cX3_goOn 36 = .ok (.invokestatic 96, 3) := by decide +kernel
theorem dX3_goOn_39 : decode cX3_goOn 39 = .ok (.ifCond .eq 8, 3) := by decide +kernel
theorem dX3_goOn_42 : decode cX3_goOn 42 = .ok (.aload_n 0, 1) := by decide +kernel
theorem dX3_goOn_43 : decode cX3_goOn 43 = .ok (.invokevirtual 99, 3) := by decide +kernel
theorem dX3_goOn_46 : decode cX3_goOn 46 = .ok (.return_, 1) := by decide +kernel
theorem dX3_goOn_47 : decode cX3_goOn 47 = .ok (.aload_n 0, 1) := by decide +kernel
theorem dX3_goOn_48 : decode cX3_goOn 48 = .ok (.dup, 1) := by decide +kernel
theorem dX3_goOn_49 : decode cX3_goOn 49 = .ok (.getfield 29, 3) := by decide +kernel
theorem dX3_goOn_52 : decode cX3_goOn 52 = .ok (.iconst 1, 1) := by decide +kernel
theorem dX3_goOn_53 : decode cX3_goOn 53 = .ok (.iadd, 1) := by decide +kernel
theorem dX3_goOn_54 : decode cX3_goOn 54 = .ok (.putfield 29, 3) := by decide +kernel
theorem dX3_goOn_57 : decode cX3_goOn 57 = .ok (.aload_n 0, 1) := by decide +kernel
theorem dX3_goOn_58 : decode cX3_goOn 58 = .ok (.iload_n 1, 1) := by decide +kernel
theorem dX3_goOn_59 : decode cX3_goOn 59 = .ok (.putfield 35, 3) := by decide +kernel
theorem dX3_goOn_62 : decode cX3_goOn 62 = .ok (.return_, 1) := by decide +kernel
theorem dX3_kindOf_0 : decode cX3_kindOf 0 = .ok (.iload_n 0, 1) := by decide +kernel
theorem dX3_kindOf_1 : decode cX3_kindOf 1 = .ok (.lookupswitch 61 #[(99, 51), (111, 59), (113, 53), (115, 57), (119, 55)], 51) := by decide +kernel
theorem dX3_kindOf_52 : decode cX3_kindOf 52 = .ok (.iconst 1, 1) := by decide +kernel
theorem dX3_kindOf_53 : decode cX3_kindOf 53 = .ok (.ireturn, 1) := by decide +kernel
theorem dX3_kindOf_54 : decode cX3_kindOf 54 = .ok (.iconst 2, 1) := by decide +kernel
theorem dX3_kindOf_55 : decode cX3_kindOf 55 = .ok (.ireturn, 1) := by decide +kernel
theorem dX3_kindOf_56 : decode cX3_kindOf 56 = .ok (.iconst 3, 1) := by decide +kernel
theorem dX3_kindOf_57 : decode cX3_kindOf 57 = .ok (.ireturn, 1) := by decide +kernel
theorem dX3_kindOf_58 : decode cX3_kindOf 58 = .ok (.iconst 4, 1) := by decide +kernel
theorem dX3_kindOf_59 : decode cX3_kindOf 59 = .ok (.ireturn, 1) := by decide +kernel
theorem dX3_kindOf_60 : decode cX3_kindOf 60 = .ok (.iconst 5, 1) := by decide +kernel
theorem dX3_kindOf_61 : decode cX3_kindOf 61 = .ok (.ireturn, 1) := by decide +kernel
theorem dX3_kindOf_62 : decode cX3_kindOf 62 = .ok (.iconst 0, 1) := by decide +kernel
theorem dX3_kindOf_63 : decode cX3_kindOf 63 = .ok (.ireturn, 1) := by decide +kernel
theorem dX3_partOf_0 : decode cX3_partOf 0 = .ok (.iload_n 0, 1) := by decide +kernel
theorem dX3_partOf_1 : decode cX3_partOf 1 = .ok (.lookupswitch 41 #[(100, 39), (106, 37), (114, 35)], 35) := by decide +kernel
theorem dX3_partOf_36 : decode cX3_partOf 36 = .ok (.iconst 0, 1) := by decide +kernel
theorem dX3_partOf_37 : decode cX3_partOf 37 = .ok (.ireturn, 1) := by decide +kernel
theorem dX3_partOf_38 : decode cX3_partOf 38 = .ok (.iconst 1, 1) := by decide +kernel
theorem dX3_partOf_39 : decode cX3_partOf 39 = .ok (.ireturn, 1) := by decide +kernel
theorem dX3_partOf_40 : decode cX3_partOf 40 = .ok (.iconst 2, 1) := by decide +kernel
theorem dX3_partOf_41 : decode cX3_partOf 41 = .ok (.ireturn, 1) := by decide +kernel
theorem dX3_partOf_42 : decode cX3_partOf 42 = .ok (.iload_n 0, 1) := by decide +kernel
theorem dX3_partOf_43 : decode cX3_partOf 43 = .ok (.invokestatic 63, 3) := by decide +kernel
theorem dX3_partOf_46 : decode cX3_partOf 46 = .ok (.ifCond .ne 7, 3) := by decide +kernel
theorem dX3_partOf_49 : decode cX3_partOf 49 = .ok (.iconst (-1), 1) := by decide +kernel
theorem dX3_partOf_50 : decode cX3_partOf 50 = .ok (.goto 4, 3) := by decide +kernel
theorem dX3_partOf_53 : decode cX3_partOf 53 = .ok (.iconst 3, 1) := by decide +kernel
theorem dX3_partOf_54 : decode cX3_partOf 54 = .ok (.ireturn, 1) := by decide +kernel
theorem dX3_add_0 : decode cX3_add 0 = .ok (.iload_n 1, 1) := by decide +kernel
theorem dX3_add_1 : decode cX3_add 1 = .ok (.tableswitch 111 0 2 #[27, 41, 76], 27) := by decide +kernel
theorem dX3_add_28 : decode cX3_add 28 = .ok (.aload_n 0, 1) := by decide +kernel
theorem dX3_add_29 : decode cX3_add 29 = .ok (.getfield 18, 3) := by decide +kernel
theorem dX3_add_32 : decode cX3_add 32 = .ok (.aload_n 0, 1) := by decide +kernel
theorem dX3_add_33 : decode cX3_add 33 = .ok (.getfield 53, 3) := by decide +kernel
theorem dX3_add_36 : decode cX3_add 36 = .ok (.putfield 75, 3) := by decide +kernel
theorem dX3_add_39 : decode cX3_add 39 = .ok (.goto 146, 3) := by decide +kernel
theorem dX3_add_42 : decode cX3_add 42 = .ok (.aload_n 0, 1) := by decide +kernel
theorem dX3_add_43 : decode cX3_add 43 = .ok (.getfield 18, 3) := by decide +kernel
theorem dX3_add_46 : decode cX3_add 46 = .ok (.getfield 78, 3) := by decide +kernel
theorem dX3_add_49 : decode cX3_add 49 = .ok (.aload_n 0, 1) := by decide +kernel
theorem dX3_add_50 : decode cX3_add 50 = .ok (.getfield 18, 3) := by decide +kernel
theorem dX3_add_53 : decode cX3_add 53 = .ok (.getfield 66, 3) := by decide +kernel
theorem dX3_add_56 : decode cX3_add 56 = .ok (.aload_n 0, 1) := by decide +kernel
theorem dX3_add_57 : decode cX3_add 57 = .ok (.getfield 53, 3) := by decide +kernel
theorem dX3_add_60 : decode cX3_add 60 = .ok (.iastore, 1) := by decide +kernel
theorem dX3_add_61 : decode cX3_add 61 = .ok (.aload_n 0, 1) := by decide +kernel
theorem dX3_add_62 : decode cX3_add 62 = .ok (.getfield 18, 3) := by decide +kernel
theorem dX3_add_65 : decode cX3_add 65 = .ok (.dup, 1) := by decide +kernel
theorem dX3_add_66 : decode cX3_add 66 = .ok (.getfield 66, 3) := by decide +kernel
theorem dX3_add_69 : decode cX3_add 69 = .ok (.iconst 1, 1) := by decide +kernel
theorem dX3_add_70 : decode cX3_add 70 = .ok (.iadd, 1) := by decide +kernel
theorem dX3_add_71 : decode cX3_add 71 = .ok (.putfield 66, 3) := by decide +kernel
theorem dX3_add_74 : decode cX3_add 74 = .ok (.goto 111, 3) := by decide +kernel
theorem dX3_add_77 : decode cX3_add 77 = .ok (.aload_n 0, 1) := by decide +kernel
theorem dX3_add_78 : decode cX3_add 78 = .ok (.getfield 18, 3) := by decide +kernel
theorem dX3_add_81 : decode cX3_add 81 = .ok (.getfield 81, 3) := by decide +kernel
theorem dX3_add_84 : decode cX3_add 84 = .ok (.aload_n 0, 1) := by decide +kernel
theorem dX3_add_85 : decode cX3_add 85 = .ok (.getfield 18, 3) := by decide +kernel
theorem dX3_add_88 : decode cX3_add 88 = .ok (.getfield 69, 3) := by decide +kernel
theorem dX3_add_91 : decode cX3_add 91 = .ok (.aload_n 0, 1) := by decide +kernel
theorem dX3_add_92 : decode cX3_add 92 = .ok (.getfield 53, 3) := by decide +kernel
theorem dX3_add_95 : decode cX3_add 95 = .ok (.iastore, 1) := by decide +kernel
theorem dX3_add_96 : decode cX3_add 96 = .ok (.aload_n 0, 1) := by decide +kernel
theorem dX3_add_97 : decode cX3_add 97 = .ok (.getfield 18, 3) := by decide +kernel
theorem dX3_add_100 : decode cX3_add 100 = .ok (.dup, 1) := by decide +kernel
theorem dX3_add_101 : decode cX3_add 101 = .ok (.getfield 69, 3) := by decide +kernel
theorem dX3_add_104 : decode cX3_add 104 = .ok (.iconst 1, 1) := by decide +kernel
theorem dX3_add_105 : decode cX3_add 105 = .ok (.iadd, 1) := by decide +kernel
theorem dX3_add_106 : decode cX3_add 106 = .ok (.putfield 69, 3) := by decide +kernel
theorem dX3_add_109 : decode cX3_add 109 = .ok (.goto 76, 3) := by decide +kernel
theorem dX3_add_112 : decode cX3_add 112 = .ok (.aload_n 0, 1) := by decide +kernel
theorem dX3_add_113 : decode cX3_add 113 = .ok (.getfield 18, 3) := by decide +kernel
theorem dX3_add_116 : decode cX3_add 116 = .ok (.getfield 84, 3) := by decide +kernel
theorem dX3_add_119 : decode cX3_add 119 = .ok (.aload_n 0, 1) := by decide +kernel
theorem dX3_add_120 : decode cX3_add 120 = .ok (.getfield 18, 3) := by decide +kernel
theorem dX3_add_123 : decode cX3_add 123 = .ok (.getfield 72, 3) := by decide +kernel
theorem dX3_add_126 : decode cX3_add 126 = .ok (.iload_n 2, 1) := by decide +kernel
theorem dX3_add_127 : decode cX3_add 127 = .ok (.invokestatic 63, 3) := by decide +kernel
theorem dX3_add_130 : decode cX3_add 130 = .ok (.iastore, 1) := by decide +kernel
theorem dX3_add_131 : decode cX3_add 131 = .ok (.aload_n 0, 1) := by decide +kernel
theorem dX3_add_132 : decode cX3_add 132 = .ok (.getfield 18, 3) := by decide +kernel
theorem dX3_add_135 : decode cX3_add 135 = .ok (.getfield 87, 3) := by decide +kernel
theorem dX3_add_138 : decode cX3_add 138 = .ok (.aload_n 0, 1) := by decide +kernel
theorem dX3_add_139 : decode cX3_add 139 = .ok (.getfield 18, 3) := by decide +kernel
theorem dX3_add_142 : decode cX3_add 142 = .ok (.getfield 72, 3) := by decide +kernel
theorem dX3_add_145 : decode cX3_add 145 = .ok (.aload_n 0, 1) := by decide +kernel
theorem dX3_add_146 : decode cX3_add 146 = .ok (.getfield 53, 3) := by decide +kernel
theorem dX3_add_149 : decode cX3_add 149 = .ok (.iastore, 1) := by decide +kernel
theorem dX3_add_150 : decode cX3_add 150 = .ok (.aload_n 0, 1) := by decide +kernel
theorem dX3_add_151 : decode cX3_add 151 = .ok (.getfield 18, 3) := by decide +kernel
theorem dX3_add_154 : decode cX3_add 154 = .ok (.getfield 90, 3) := by decide +kernel
theorem dX3_add_157 : decode cX3_add 157 = .ok (.aload_n 0, 1) := by decide +kernel
theorem dX3_add_158 : decode cX3_add 158 = .ok (.getfield 18, 3) := by decide +kernel
theorem dX3_add_161 : decode cX3_add 161 = .ok (.getfield 72, 3) := by decide +kernel
theorem dX3_add_164 : decode cX3_add 164 = .ok (.aload_n 0, 1) := by decide +kernel
theorem dX3_add_165 : decode cX3_add 165 = .ok (.getfield 18, 3) := by decide +kernel
theorem dX3_add_168 : decode cX3_add 168 = .ok (.getfield 72, 3) := by decide +kernel
theorem dX3_add_171 : decode cX3_add 171 = .ok (.iastore, 1) := by decide +kernel
theorem dX3_add_172 : decode cX3_add 172 = .ok (.aload_n 0, 1) := by decide +kernel
theorem dX3_add_173 : decode cX3_add 173 = .ok (.getfield 18, 3) := by decide +kernel
theorem dX3_add_176 : decode cX3_add 176 = .ok (.dup, 1) := by decide +kernel
theorem dX3_add_177 : decode cX3_add 177 = .ok (.getfield 72, 3) := by decide +kernel
theorem dX3_add_180 : decode cX3_add 180 = .ok (.iconst 1, 1) := by decide +kernel
theorem dX3_add_181 : decode cX3_add 181 = .ok (.iadd, 1) := by decide +kernel
theorem dX3_add_182 : decode cX3_add 182 = .ok (.putfield 72, 3) := by decide +kernel
theorem dX3_add_185 : decode cX3_add 185 = .ok (.return_, 1) := by decide +kernel
theorem dX3_isFull_0 : decode cX3_isFull 0 = .ok (.iload_n 1, 1) := by decide +kernel
theorem dX3_isFull_1 : decode cX3_isFull 1 = .ok (.tableswitch 81 1 3 #[27, 45, 63], 27) := by decide +kernel
theorem dX3_isFull_28 : decode cX3_isFull 28 = .ok (.aload_n 0, 1) := by decide +kernel
theorem dX3_isFull_29 : decode cX3_isFull 29 = .ok (.getfield 18, 3) := by decide +kernel
theorem dX3_isFull_32 : decode cX3_isFull 32 = .ok (.getfield 66, 3) := by decide +kernel
theorem dX3_isFull_35 : decode cX3_isFull 35 = .ok (.bipush 6, 2) := by decide +kernel
theorem dX3_isFull_37 : decode cX3_isFull 37 = .ok (.if_icmp .lt 7, 3) := by decide +kernel
theorem dX3_isFull_40 : decode cX3_isFull 40 = .ok (.iconst 1, 1) := by decide +kernel
theorem dX3_isFull_41 : decode cX3_isFull 41 = .ok (.goto 4, 3) := by decide +kernel
theorem dX3_isFull_44 : decode cX3_isFull 44 = .ok (.iconst 0, 1) := by decide +kernel
theorem dX3_isFull_45 : decode cX3_isFull 45 = .ok (.ireturn, 1) := by decide +kernel
theorem dX3_isFull_46 : decode cX3_isFull 46 = .ok (.aload_n 0, 1) := by decide +kernel
theorem dX3_isFull_47 : decode cX3_isFull 47 = .ok (.getfield 18, 3) := by decide +kernel
theorem dX3_isFull_50 : decode cX3_isFull 50 = .ok (.getfield 69, 3) := by decide +kernel
theorem dX3_isFull_53 : decode cX3_isFull 53 = .ok (.bipush 8, 2) := by decide +kernel
theorem dX3_isFull_55 : decode cX3_isFull 55 = .ok (.if_icmp .lt 7, 3) := by decide +kernel
theorem dX3_isFull_58 : decode cX3_isFull 58 = .ok (.iconst 1, 1) := by decide +kernel
theorem dX3_isFull_59 : decode cX3_isFull 59 = .ok (.goto 4, 3) := by decide +kernel
theorem dX3_isFull_62 : decode cX3_isFull 62 = .ok (.iconst 0, 1) := by decide +kernel
theorem dX3_isFull_63 : decode cX3_isFull 63 = .ok (.ireturn, 1) := by decide +kernel
theorem dX3_isFull_64 : decode cX3_isFull 64 = .ok (.aload_n 0, 1) := by decide +kernel
theorem dX3_isFull_65 : decode cX3_isFull 65 = .ok (.getfield 18, 3) := by decide +kernel
theorem dX3_isFull_68 : decode cX3_isFull 68 = .ok (.getfield 72, 3) := by decide +kernel
theorem dX3_isFull_71 : decode cX3_isFull 71 = .ok (.bipush 6, 2) := by decide +kernel
theorem dX3_isFull_73 : decode cX3_isFull 73 = .ok (.if_icmp .lt 7, 3) := by decide +kernel
theorem dX3_isFull_76 : decode cX3_isFull 76 = .ok (.iconst 1, 1) := by decide +kernel
theorem dX3_isFull_77 : decode cX3_isFull 77 = .ok (.goto 4, 3) := by decide +kernel
theorem dX3_isFull_80 : decode cX3_isFull 80 = .ok (.iconst 0, 1) := by decide +kernel
theorem dX3_isFull_81 : decode cX3_isFull 81 = .ok (.ireturn, 1) := by decide +kernel
theorem dX3_isFull_82 : decode cX3_isFull 82 = .ok (.iconst 0, 1) := by decide +kernel
theorem dX3_isFull_83 : decode cX3_isFull 83 = .ok (.ireturn, 1) := by decide +kernel
theorem dX3_limit_0 : decode cX3_limit 0 = .ok (.iload_n 1, 1) := by decide +kernel
theorem dX3_limit_1 : decode cX3_limit 1 = .ok (.lookupswitch 38 #[(0, 27), (2, 30)], 27) := by decide +kernel
theorem dX3_limit_28 : decode cX3_limit 28 = .ok (.bipush 7, 2) := by decide +kernel
theorem dX3_limit_30 : decode cX3_limit 30 = .ok (.ireturn, 1) := by decide +kernel
theorem dX3_limit_31 : decode cX3_limit 31 = .ok (.aload_n 0, 1) := by decide +kernel
theorem dX3_limit_32 : decode cX3_limit 32 = .ok (.getfield 18, 3) := by decide +kernel
theorem dX3_limit_35 : decode cX3_limit 35 = .ok (.getfield 66, 3) := by decide +kernel
theorem dX3_limit_38 : decode cX3_limit 38 = .ok (.ireturn, 1) := by decide +kernel
theorem dX3_limit_39 : decode cX3_limit 39 = .ok (.iconst 1, 1) := by decide +kernel
theorem dX3_limit_40 : decode cX3_limit 40 = .ok (.aload_n 0, 1) := by decide +kernel
theorem dX3_limit_41 : decode cX3_limit 41 = .ok (.getfield 18, 3) := by decide +kernel
theorem dX3_limit_44 : decode cX3_limit 44 = .ok (.getfield 66, 3) := by decide +kernel
theorem dX3_limit_47 : decode cX3_limit 47 = .ok (.ishl, 1) := by decide +kernel
theorem dX3_limit_48 : decode cX3_limit 48 = .ok (.ireturn, 1) := by decide +kernel
theorem dX3_readPart_0 : decode cX3_readPart 0 = .ok (.iload_n 1, 1) := by decide +kernel
theorem dX3_readPart_1 : decode cX3_readPart 1 = .ok (.iconst (-1), 1) := by decide +kernel
theorem dX3_readPart_2 : decode cX3_readPart 2 = .ok (.if_icmp .eq 19, 3) := by decide +kernel
theorem dX3_readPart_5 : decode cX3_readPart 5 = .ok (.iload_n 1, 1) := by decide +kernel
theorem dX3_readPart_6 : decode cX3_readPart 6 = .ok (.iload_n 2, 1) := by decide +kernel
theorem dX3_readPart_7 : decode cX3_readPart 7 = .ok (.iconst 1, 1) := by decide +kernel
theorem dX3_readPart_8 : decode cX3_readPart 8 = .ok (.iadd, 1) := by decide +kernel
theorem dX3_readPart_9 : decode cX3_readPart 9 = .ok (.if_icmp .eq 14, 3) := by decide +kernel
theorem dX3_readPart_12 : decode cX3_readPart 12 = .ok (.iload_n 1, 1) := by decide +kernel
theorem dX3_readPart_13 : decode cX3_readPart 13 = .ok (.iload_n 2, 1) := by decide +kernel
theorem dX3_readPart_14 : decode cX3_readPart 14 = .ok (.if_icmp .ne 7, 3) := by decide +kernel
theorem dX3_readPart_17 : decode cX3_readPart 17 = .ok (.iload_n 1, 1) := by decide +kernel
theorem dX3_readPart_18 : decode cX3_readPart 18 = .ok (.ifCond .ne 5, 3) := by decide +kernel
theorem dX3_readPart_21 : decode cX3_readPart 21 = .ok (.iconst 1, 1) := by decide +kernel
theorem dX3_readPart_22 : decode cX3_readPart 22 = .ok (.ireturn, 1) := by decide +kernel
theorem dX3_readPart_23 : decode cX3_readPart 23 = .ok (.aload_n 0, 1) := by decide +kernel
theorem dX3_readPart_24 : decode cX3_readPart 24 = .ok (.getfield 35, 3) := by decide +kernel
theorem dX3_readPart_27 : decode cX3_readPart 27 = .ok (.istore_n 3, 1) := by decide +kernel
theorem dX3_readPart_28 : decode cX3_readPart 28 = .ok (.aload_n 0, 1) := by decide +kernel
theorem dX3_readPart_29 : decode cX3_readPart 29 = .ok (.iload_n 1, 1) := by decide +kernel
theorem dX3_readPart_30 : decode cX3_readPart 30 = .ok (.invokevirtual 49, 3) := by decide +kernel
theorem dX3_readPart_33 : decode cX3_readPart 33 = .ok (.ifCond .eq 5, 3) := by decide +kernel
theorem dX3_readPart_36 : decode cX3_readPart 36 = .ok (.iconst 3, 1) := by decide +kernel
theorem dX3_readPart_37 : decode cX3_readPart 37 = .ok (.ireturn, 1) := by decide +kernel
theorem dX3_readPart_38 : decode cX3_readPart 38 = .ok (.aload_n 0, 1) := by decide +kernel
theorem dX3_readPart_39 : decode cX3_readPart 39 = .ok (.invokevirtual 32, 3) := by decide +kernel
theorem dX3_readPart_42 : decode cX3_readPart 42 = .ok (.aload_n 0, 1) := by decide +kernel
theorem dX3_readPart_43 : decode cX3_readPart 43 = .ok (.getfield 35, 3) := by decide +kernel
theorem dX3_readPart_46 : decode cX3_readPart 46 = .ok (.bipush (-2), 2) := by decide +kernel
theorem dX3_readPart_48 : decode cX3_readPart 48 = .ok (.if_icmp .eq 5, 3) := by decide +kernel
theorem dX3_readPart_51 : decode cX3_readPart 51 = .ok (.iconst 1, 1) := by decide +kernel
theorem dX3_readPart_52 : decode cX3_readPart 52 = .ok (.ireturn, 1) := by decide +kernel
theorem dX3_readPart_53 : decode cX3_readPart 53 = .ok (.aload_n 0, 1) := by decide +kernel
theorem dX3_readPart_54 : decode cX3_readPart 54 = .ok (.getfield 53, 3) := by decide +kernel
theorem dX3_readPart_57 : decode cX3_readPart 57 = .ok (.aload_n 0, 1) := by decide +kernel
theorem dX3_readPart_58 : decode cX3_readPart 58 = .ok (.iload_n 1, 1) := by decide +kernel
theorem dX3_readPart_59 : decode cX3_readPart 59 = .ok (.invokevirtual 56, 3) := by decide +kernel
theorem dX3_readPart_62 : decode cX3_readPart 62 = .ok (.if_icmp .lt 5, 3) := by decide +kernel
theorem dX3_readPart_65 : decode cX3_readPart 65 = .ok (.iconst 2, 1) := by decide +kernel
theorem dX3_readPart_66 : decode cX3_readPart 66 = .ok (.ireturn, 1) := by decide +kernel
theorem dX3_readPart_67 : decode cX3_readPart 67 = .ok (.aload_n 0, 1) := by decide +kernel
theorem dX3_readPart_68 : decode cX3_readPart 68 = .ok (.iload_n 1, 1) := by decide +kernel
theorem dX3_readPart_69 : decode cX3_readPart 69 = .ok (.iload_n 3, 1) := by decide +kernel
theorem dX3_readPart_70 : decode cX3_readPart 70 = .ok (.invokevirtual 59, 3) := by decide +kernel
theorem dX3_readPart_73 : decode cX3_readPart 73 = .ok (.aload_n 0, 1) := by decide +kernel
theorem dX3_readPart_74 : decode cX3_readPart 74 = .ok (.invokevirtual 32, 3) := by decide +kernel
theorem dX3_readPart_77 : decode cX3_readPart 77 = .ok (.aload_n 0, 1) := by decide +kernel
theorem dX3_readPart_78 : decode cX3_readPart 78 = .ok (.getfield 35, 3) := by decide +kernel
theorem dX3_readPart_81 : decode cX3_readPart 81 = .ok (.bipush 59, 2) := by decide +kernel
theorem dX3_readPart_83 : decode cX3_readPart 83 = .ok (.if_icmp .ne 7, 3) := by decide +kernel
theorem dX3_readPart_86 : decode cX3_readPart 86 = .ok (.iconst 0, 1) := by decide +kernel
theorem dX3_readPart_87 : decode cX3_readPart 87 = .ok (.goto 4, 3) := by decide +kernel
theorem dX3_readPart_90 : decode cX3_readPart 90 = .ok (.iconst 1, 1) := by decide +kernel
theorem dX3_readPart_91 : decode cX3_readPart 91 = .ok (.ireturn, 1) := by decide +kernel
theorem dX5_empty_0 : decode cX5_empty 0 = .ok (.aload_n 0, 1) := by decide +kernel
theorem dX5_empty_1 : decode cX5_empty 1 = .ok (.iconst 0, 1) := by decide +kernel
theorem dX5_empty_2 : decode cX5_empty 2 = .ok (.putfield 30, 3) := by decide +kernel
theorem dX5_empty_5 : decode cX5_empty 5 = .ok (.aload_n 0, 1) := by decide +kernel
theorem dX5_empty_6 : decode cX5_empty 6 = .ok (.iconst 0, 1) := by decide +kernel
theorem dX5_empty_7 : decode cX5_empty 7 = .ok (.putfield 34, 3) := by decide +kernel
theorem dX5_empty_10 : decode cX5_empty 10 = .ok (.aload_n 0, 1) := by decide +kernel
theorem dX5_empty_11 : decode cX5_empty 11 = .ok (.iconst 0, 1) := by decide +kernel
theorem dX5_empty_12 : decode cX5_empty 12 = .ok (.putfield 37, 3) := by decide +kernel
theorem dX5_empty_15 : decode cX5_empty 15 = .ok (.aload_n 0, 1) := by decide +kernel
theorem dX5_empty_16 : decode cX5_empty 16 = .ok (.iconst 0, 1) := by decide +kernel
theorem dX5_empty_17 : decode cX5_empty 17 = .ok (.putfield 40, 3) := by decide +kernel
theorem dX5_empty_20 : decode cX5_empty 20 = .ok (.aload_n 0, 1) := by decide +kernel
theorem dX5_empty_21 : decode cX5_empty 21 = .ok (.iconst 0, 1) := by decide +kernel
theorem dX5_empty_22 : decode cX5_empty 22 = .ok (.putfield 43, 3) := by decide +kernel
theorem dX5_empty_25 : decode cX5_empty 25 = .ok (.iconst 0, 1) := by decide +kernel
theorem dX5_empty_26 : decode cX5_empty 26 = .ok (.istore_n 1, 1) := by decide +kernel
theorem dX5_empty_27 : decode cX5_empty 27 = .ok (.iload_n 1, 1) := by decide +kernel
theorem dX5_empty_28 : decode cX5_empty 28 = .ok (.bipush 36, 2) := by decide +kernel
theorem dX5_empty_30 : decode cX5_empty 30 = .ok (.if_icmp .ge 16, 3) := by decide +kernel
theorem dX5_empty_33 : decode cX5_empty 33 = .ok (.aload_n 0, 1) := by decide +kernel
theorem dX5_empty_34 : decode cX5_empty 34 = .ok (.getfield 27, 3) := by decide +kernel
theorem dX5_empty_37 : decode cX5_empty 37 = .ok (.iload_n 1, 1) := by decide +kernel
theorem dX5_empty_38 : decode cX5_empty 38 = .ok (.iconst 0, 1) := by decide +kernel
theorem dX5_empty_39 : decode cX5_empty 39 = .ok (.iastore, 1) := by decide +kernel
theorem dX5_empty_40 : decode cX5_empty 40 = .ok (.iinc 1 1, 3) := by decide +kernel
theorem dX5_empty_43 : decode cX5_empty 43 = .ok (.goto (-16), 3) := by decide +kernel
theorem dX5_empty_46 : decode cX5_empty 46 = .ok (.return_, 1) := by decide +kernel
theorem dX3_readTape_0 : decode cX3_readTape 0 = .ok (.aload_n 0, 1) := by decide +kernel
theorem dX3_readTape_1 : decode cX3_readTape 1 = .ok (.getfield 18, 3) := by decide +kernel
theorem dX3_readTape_4 : decode cX3_readTape 4 = .ok (.invokevirtual 26, 3) := by decide +kernel
theorem dX3_readTape_7 : decode cX3_readTape 7 = .ok (.aload_n 0, 1) := by decide +kernel
theorem dX3_readTape_8 : decode cX3_readTape 8 = .ok (.iconst 0, 1) := by decide +kernel
theorem dX3_readTape_9 : decode cX3_readTape 9 = .ok (.putfield 29, 3) := by decide +kernel
theorem dX3_readTape_12 : decode cX3_readTape 12 = .ok (.iconst (-1), 1) := by decide +kernel
theorem dX3_readTape_13 : decode cX3_readTape 13 = .ok (.istore_n 1, 1) := by decide +kernel
theorem dX3_readTape_14 : decode cX3_readTape 14 = .ok (.iconst 0, 1) := by decide +kernel
theorem dX3_readTape_15 : decode cX3_readTape 15 = .ok (.istore_n 2, 1) := by decide +kernel
theorem dX3_readTape_16 : decode cX3_readTape 16 = .ok (.iload_n 2, 1) := by decide +kernel
theorem dX3_readTape_17 : decode cX3_readTape 17 = .ok (.bipush 120, 2) := by decide +kernel
theorem dX3_readTape_19 : decode cX3_readTape 19 = .ok (.if_icmp .gt 59, 3) := by decide +kernel
theorem dX3_readTape_22 : decode cX3_readTape 22 = .ok (.aload_n 0, 1) := by decide +kernel
theorem dX3_readTape_23 : decode cX3_readTape 23 = .ok (.invokevirtual 32, 3) := by decide +kernel
theorem dX3_readTape_26 : decode cX3_readTape 26 = .ok (.aload_n 0, 1) := by decide +kernel
theorem dX3_readTape_27 : decode cX3_readTape 27 = .ok (.getfield 35, 3) := by decide +kernel
theorem dX3_readTape_30 : decode cX3_readTape 30 = .ok (.iconst (-1), 1) := by decide +kernel
theorem dX3_readTape_31 : decode cX3_readTape 31 = .ok (.if_icmp .ne 10, 3) := by decide +kernel
theorem dX3_readTape_34 : decode cX3_readTape 34 = .ok (.iload_n 1, 1) := by decide +kernel
theorem dX3_readTape_35 : decode cX3_readTape 35 = .ok (.iconst 3, 1) := by decide +kernel
theorem dX3_readTape_36 : decode cX3_readTape 36 = .ok (.if_icmp .ne 5, 3) := by decide +kernel
theorem dX3_readTape_39 : decode cX3_readTape 39 = .ok (.iconst 1, 1) := by decide +kernel
theorem dX3_readTape_40 : decode cX3_readTape 40 = .ok (.ireturn, 1) := by decide +kernel
theorem dX3_readTape_41 : decode cX3_readTape 41 = .ok (.aload_n 0, 1) := by decide +kernel
theorem dX3_readTape_42 : decode cX3_readTape 42 = .ok (.getfield 35, 3) := by decide +kernel
theorem dX3_readTape_45 : decode cX3_readTape 45 = .ok (.invokestatic 38, 3) := by decide +kernel
theorem dX3_readTape_48 : decode cX3_readTape 48 = .ok (.istore_n 3, 1) := by decide +kernel
theorem dX3_readTape_49 : decode cX3_readTape 49 = .ok (.aload_n 0, 1) := by decide +kernel
theorem dX3_readTape_50 : decode cX3_readTape 50 = .ok (.iload_n 3, 1) := by decide +kernel
theorem dX3_readTape_51 : decode cX3_readTape 51 = .ok (.iload_n 1, 1) := by decide +kernel
theorem dX3_readTape_52 : decode cX3_readTape 52 = .ok (.invokevirtual 42, 3) := by decide +kernel
theorem dX3_readTape_55 : decode cX3_readTape 55 = .ok (.istore 4, 2) := by decide +kernel
theorem dX3_readTape_57 : decode cX3_readTape 57 = .ok (.iload 4, 2) := by decide +kernel
theorem dX3_readTape_59 : decode cX3_readTape 59 = .ok (.ifCond .eq 11, 3) := by decide +kernel
theorem dX3_readTape_62 : decode cX3_readTape 62 = .ok (.aload_n 0, 1) := by decide +kernel
theorem dX3_readTape_63 : decode cX3_readTape 63 = .ok (.iload 4, 2) := by decide +kernel
theorem dX3_readTape_65 : decode cX3_readTape 65 = .ok (.putfield 46, 3) := by decide +kernel
theorem dX3_readTape_68 : decode cX3_readTape 68 = .ok (.iconst 0, 1) := by decide +kernel
theorem dX3_readTape_69 : decode cX3_readTape 69 = .ok (.ireturn, 1) := by decide +kernel
theorem dX3_readTape_70 : decode cX3_readTape 70 = .ok (.iload_n 3, 1) := by decide +kernel
theorem dX3_readTape_71 : decode cX3_readTape 71 = .ok (.istore_n 1, 1) := by decide +kernel
theorem dX3_readTape_72 : decode cX3_readTape 72 = .ok (.iinc 2 1, 3) := by decide +kernel
theorem dX3_readTape_75 : decode cX3_readTape 75 = .ok (.goto (-59), 3) := by decide +kernel
theorem dX3_readTape_78 : decode cX3_readTape 78 = .ok (.iconst 0, 1) := by decide +kernel
theorem dX3_readTape_79 : decode cX3_readTape 79 = .ok (.ireturn, 1) := by decide +kernel
theorem dX4_init_0 : decode cX4_init 0 = .ok (.aload_n 0, 1) := by decide +kernel
theorem dX4_init_1 : decode cX4_init 1 = .ok (.invokespecial 3, 3) := by decide +kernel
theorem dX4_init_4 : decode cX4_init 4 = .ok (.aload_n 0, 1) := by decide +kernel
theorem dX4_init_5 : decode cX4_init 5 = .ok (.bipush 40, 2) := by decide +kernel
theorem dX4_init_7 : decode cX4_init 7 = .ok (.newarray .int, 2) := by decide +kernel
theorem dX4_init_9 : decode cX4_init 9 = .ok (.putfield 9, 3) := by decide +kernel
theorem dX4_init_12 : decode cX4_init 12 = .ok (.return_, 1) := by decide +kernel
theorem dX4_begin_0 : decode cX4_begin 0 = .ok (.aload_n 0, 1) := by decide +kernel
theorem dX4_begin_1 : decode cX4_begin 1 = .ok (.iconst 1, 1) := by decide +kernel
theorem dX4_begin_2 : decode cX4_begin 2 = .ok (.putfield 15, 3) := by decide +kernel
theorem dX4_begin_5 : decode cX4_begin 5 = .ok (.aload_n 0, 1) := by decide +kernel
theorem dX4_begin_6 : decode cX4_begin 6 = .ok (.iload_n 1, 1) := by decide +kernel
theorem dX4_begin_7 : decode cX4_begin 7 = .ok (.putfield 19, 3) := by decide +kernel
theorem dX4_begin_10 : decode cX4_begin 10 = .ok (.aload_n 0, 1) := by decide +kernel
theorem dX4_begin_11 : decode cX4_begin 11 = .ok (.iload_n 2, 1) := by decide +kernel
theorem dX4_begin_12 : decode cX4_begin 12 = .ok (.putfield 23, 3) := by decide +kernel
theorem dX4_begin_15 : decode cX4_begin 15 = .ok (.iconst 0, 1) := by decide +kernel
theorem dX4_begin_16 : decode cX4_begin 16 = .ok (.istore_n 3, 1) := by decide +kernel
theorem dX4_begin_17 : decode cX4_begin 17 = .ok (.iload_n 3, 1) := by decide +kernel
theorem dX4_begin_18 : decode cX4_begin 18 = .ok (.bipush 40, 2) := by decide +kernel
theorem dX4_begin_20 : decode cX4_begin 20 = .ok (.if_icmp .ge 16, 3) := by decide +kernel
theorem dX4_begin_23 : decode cX4_begin 23 = .ok (.aload_n 0, 1) := by decide +kernel
theorem dX4_begin_24 : decode cX4_begin 24 = .ok (.getfield 9, 3) := by decide +kernel
theorem dX4_begin_27 : decode cX4_begin 27 = .ok (.iload_n 3, 1) := by decide +kernel
theorem dX4_begin_28 : decode cX4_begin 28 = .ok (.iconst 0, 1) := by decide +kernel
theorem dX4_begin_29 : decode cX4_begin 29 = .ok (.iastore, 1) := by decide +kernel
theorem dX4_begin_30 : decode cX4_begin 30 = .ok (.iinc 3 1, 3) := by decide +kernel
theorem dX4_begin_33 : decode cX4_begin 33 = .ok (.goto (-16), 3) := by decide +kernel
theorem dX4_begin_36 : decode cX4_begin 36 = .ok (.return_, 1) := by decide +kernel
theorem dX4_put_0 : decode cX4_put 0 = .ok (.aload_n 0, 1) := by decide +kernel
theorem dX4_put_1 : decode cX4_put 1 = .ok (.getfield 9, 3) := by decide +kernel
theorem dX4_put_4 : decode cX4_put 4 = .ok (.iload_n 1, 1) := by decide +kernel
theorem dX4_put_5 : decode cX4_put 5 = .ok (.aload_n 0, 1) := by decide +kernel
theorem dX4_put_6 : decode cX4_put 6 = .ok (.getfield 19, 3) := by decide +kernel
theorem dX4_put_9 : decode cX4_put 9 = .ok (.ifCond .ne 8, 3) := by decide +kernel
theorem dX4_put_12 : decode cX4_put 12 = .ok (.iload_n 2, 1) := by decide +kernel
theorem dX4_put_13 : decode cX4_put 13 = .ok (.i2b, 1) := by decide +kernel
theorem dX4_put_14 : decode cX4_put 14 = .ok (.goto 17, 3) := by decide +kernel
theorem dX4_put_17 : decode cX4_put 17 = .ok (.aload_n 0, 1) := by decide +kernel
theorem dX4_put_18 : decode cX4_put 18 = .ok (.getfield 19, 3) := by decide +kernel
theorem dX4_put_21 : decode cX4_put 21 = .ok (.iconst 1, 1) := by decide +kernel
theorem dX4_put_22 : decode cX4_put 22 = .ok (.if_icmp .ne 8, 3) := by decide +kernel
theorem dX4_put_25 : decode cX4_put 25 = .ok (.iload_n 2, 1) := by decide +kernel
theorem dX4_put_26 : decode cX4_put 26 = .ok (.i2s, 1) := by decide +kernel
theorem dX4_put_27 : decode cX4_put 27 = .ok (.goto 4, 3) := by decide +kernel
theorem dX4_put_30 : decode cX4_put 30 = .ok (.iload_n 2, 1) := by decide +kernel
theorem dX4_put_31 : decode cX4_put 31 = .ok (.iastore, 1) := by decide +kernel
theorem dX4_put_32 : decode cX4_put 32 = .ok (.aload_n 0, 1) := by decide +kernel
theorem dX4_put_33 : decode cX4_put 33 = .ok (.getfield 9, 3) := by decide +kernel
theorem dX4_put_36 : decode cX4_put 36 = .ok (.iload_n 1, 1) := by decide +kernel
theorem dX4_put_37 : decode cX4_put 37 = .ok (.iaload, 1) := by decide +kernel
theorem dX4_put_38 : decode cX4_put 38 = .ok (.ireturn, 1) := by decide +kernel
theorem dX5_hears_0 : decode cX5_hears 0 = .ok (.aload_n 0, 1) := by decide +kernel
theorem dX5_hears_1 : decode cX5_hears 1 = .ok (.iload_n 1, 1) := by decide +kernel
theorem dX5_hears_2 : decode cX5_hears 2 = .ok (.invokevirtual 62, 3) := by decide +kernel
theorem dX5_hears_5 : decode cX5_hears 5 = .ok (.istore_n 2, 1) := by decide +kernel
theorem dX5_hears_6 : decode cX5_hears 6 = .ok (.aload_n 0, 1) := by decide +kernel
theorem dX5_hears_7 : decode cX5_hears 7 = .ok (.iload_n 1, 1) := by decide +kernel
theorem dX5_hears_8 : decode cX5_hears 8 = .ok (.iload_n 2, 1) := by decide +kernel
theorem dX5_hears_9 : decode cX5_hears 9 = .ok (.invokevirtual 65, 3) := by decide +kernel
theorem dX5_hears_12 : decode cX5_hears 12 = .ok (.ifCond .ne 30, 3) := by decide +kernel
theorem dX5_hears_15 : decode cX5_hears 15 = .ok (.iload_n 2, 1) := by decide +kernel
theorem dX5_hears_16 : decode cX5_hears 16 = .ok (.ifCond .le 30, 3) := by decide +kernel
theorem dX5_hears_19 : decode cX5_hears 19 = .ok (.aload_n 0, 1) := by decide +kernel
theorem dX5_hears_20 : decode cX5_hears 20 = .ok (.aload_n 0, 1) := by decide +kernel
theorem dX5_hears_21 : decode cX5_hears 21 = .ok (.getfield 24, 3) := by decide +kernel
theorem dX5_hears_24 : decode cX5_hears 24 = .ok (.iload_n 2, 1) := by decide +kernel
theorem dX5_hears_25 : decode cX5_hears 25 = .ok (.iconst 1, 1) := by decide +kernel
theorem dX5_hears_26 : decode cX5_hears 26 = .ok (.isub, 1) := by decide +kernel
theorem dX5_hears_27 : decode cX5_hears 27 = .ok (.iaload, 1) := by decide +kernel
theorem dX5_hears_28 : decode cX5_hears 28 = .ok (.aload_n 0, 1) := by decide +kernel
theorem dX5_hears_29 : decode cX5_hears 29 = .ok (.aload_n 0, 1) := by decide +kernel
theorem dX5_hears_30 : decode cX5_hears 30 = .ok (.getfield 43, 3) := by decide +kernel
theorem dX5_hears_33 : decode cX5_hears 33 = .ok (.invokevirtual 68, 3) := by decide +kernel
theorem dX5_hears_36 : decode cX5_hears 36 = .ok (.invokevirtual 71, 3) := by decide +kernel
theorem dX5_hears_39 : decode cX5_hears 39 = .ok (.ifCond .eq 7, 3) := by decide +kernel
theorem dX5_hears_42 : decode cX5_hears 42 = .ok (.iconst 1, 1) := by decide +kernel
theorem dX5_hears_43 : decode cX5_hears 43 = .ok (.goto 4, 3) := by decide +kernel
theorem dX5_hears_46 : decode cX5_hears 46 = .ok (.iconst 0, 1) := by decide +kernel
theorem dX5_hears_47 : decode cX5_hears 47 = .ok (.ireturn, 1) := by decide +kernel
theorem dX5_knownByAll_0 : decode cX5_knownByAll 0 = .ok (.iconst 1, 1) := by decide +kernel
theorem dX5_knownByAll_1 : decode cX5_knownByAll 1 = .ok (.aload_n 0, 1) := by decide +kernel
theorem dX5_knownByAll_2 : decode cX5_knownByAll 2 = .ok (.getfield 34, 3) := by decide +kernel
theorem dX5_knownByAll_5 : decode cX5_knownByAll 5 = .ok (.ishl, 1) := by decide +kernel
theorem dX5_knownByAll_6 : decode cX5_knownByAll 6 = .ok (.iconst 1, 1) := by decide +kernel
theorem dX5_knownByAll_7 : decode cX5_knownByAll 7 = .ok (.isub, 1) := by decide +kernel
theorem dX5_knownByAll_8 : decode cX5_knownByAll 8 = .ok (.istore_n 1, 1) := by decide +kernel
theorem dX5_knownByAll_9 : decode cX5_knownByAll 9 = .ok (.iconst 0, 1) := by decide +kernel
theorem dX5_knownByAll_10 : decode cX5_knownByAll 10 = .ok (.istore_n 2, 1) := by decide +kernel
theorem dX5_knownByAll_11 : decode cX5_knownByAll 11 = .ok (.iload_n 2, 1) := by decide +kernel
theorem dX5_knownByAll_12 : decode cX5_knownByAll 12 = .ok (.aload_n 0, 1) := by decide +kernel
theorem dX5_knownByAll_13 : decode cX5_knownByAll 13 = .ok (.getfield 40, 3) := by decide +kernel
theorem dX5_knownByAll_16 : decode cX5_knownByAll 16 = .ok (.if_icmp .ge 18, 3) := by decide +kernel
theorem dX5_knownByAll_19 : decode cX5_knownByAll 19 = .ok (.iload_n 1, 1) := by decide +kernel
theorem dX5_knownByAll_20 : decode cX5_knownByAll 20 = .ok (.aload_n 0, 1) := by decide +kernel
theorem dX5_knownByAll_21 : decode cX5_knownByAll 21 = .ok (.getfield 21, 3) := by decide +kernel
theorem dX5_knownByAll_24 : decode cX5_knownByAll 24 = .ok (.iload_n 2, 1) := by decide +kernel
theorem dX5_knownByAll_25 : decode cX5_knownByAll 25 = .ok (.iaload, 1) := by decide +kernel
theorem dX5_knownByAll_26 : decode cX5_knownByAll 26 = .ok (.iand, 1) := by decide +kernel
theorem dX5_knownByAll_27 : decode cX5_knownByAll 27 = .ok (.istore_n 1, 1) := by decide +kernel
theorem dX5_knownByAll_28 : decode cX5_knownByAll 28 = .ok (.iinc 2 1, 3) := by decide +kernel
theorem dX5_knownByAll_31 : decode cX5_knownByAll 31 = .ok (.goto (-20), 3) := by decide +kernel
theorem dX5_knownByAll_34 : decode cX5_knownByAll 34 = .ok (.iload_n 1, 1) := by decide +kernel
theorem dX5_knownByAll_35 : decode cX5_knownByAll 35 = .ok (.ireturn, 1) := by decide +kernel
theorem dX5_knownByAny_0 : decode cX5_knownByAny 0 = .ok (.iconst 0, 1) := by decide +kernel
theorem dX5_knownByAny_1 : decode cX5_knownByAny 1 = .ok (.istore_n 1, 1) := by decide +kernel
theorem dX5_knownByAny_2 : decode cX5_knownByAny 2 = .ok (.iconst 0, 1) := by decide +kernel
theorem dX5_knownByAny_3 : decode cX5_knownByAny 3 = .ok (.istore_n 2, 1) := by decide +kernel
theorem dX5_knownByAny_4 : decode cX5_knownByAny 4 = .ok (.iload_n 2, 1) := by decide +kernel
theorem dX5_knownByAny_5 : decode cX5_knownByAny 5 = .ok (.aload_n 0, 1) := by decide +kernel
theorem dX5_knownByAny_6 : decode cX5_knownByAny 6 = .ok (.getfield 40, 3) := by decide +kernel
theorem dX5_knownByAny_9 : decode cX5_knownByAny 9 = .ok (.if_icmp .ge 18, 3) := by decide +kernel
theorem dX5_knownByAny_12 : decode cX5_knownByAny 12 = .ok (.iload_n 1, 1) := by decide +kernel
theorem dX5_knownByAny_13 : decode cX5_knownByAny 13 = .ok (.aload_n 0, 1) := by decide +kernel
theorem dX5_knownByAny_14 : decode cX5_knownByAny 14 = .ok (.getfield 21, 3) := by decide +kernel
theorem dX5_knownByAny_17 : decode cX5_knownByAny 17 = .ok (.iload_n 2, 1) := by decide +kernel
theorem dX5_knownByAny_18 : decode cX5_knownByAny 18 = .ok (.iaload, 1) := by decide +kernel
theorem dX5_knownByAny_19 : decode cX5_knownByAny 19 = .ok (.ior, 1) := by decide +kernel
theorem dX5_knownByAny_20 : decode cX5_knownByAny 20 = .ok (.istore_n 1, 1) := by decide +kernel
theorem dX5_knownByAny_21 : decode cX5_knownByAny 21 = .ok (.iinc 2 1, 3) := by decide +kernel
theorem dX5_knownByAny_24 : decode cX5_knownByAny 24 = .ok (.goto (-20), 3) := by decide +kernel
theorem dX5_knownByAny_27 : decode cX5_knownByAny 27 = .ok (.iload_n 1, 1) := by decide +kernel
theorem dX5_knownByAny_28 : decode cX5_knownByAny 28 = .ok (.ireturn, 1) := by decide +kernel
theorem dX5_graspable_0 : decode cX5_graspable 0 = .ok (.iconst 0, 1) := by decide +kernel
theorem dX5_graspable_1 : decode cX5_graspable 1 = .ok (.istore_n 2, 1) := by decide +kernel
theorem dX5_graspable_2 : decode cX5_graspable 2 = .ok (.iconst 0, 1) := by decide +kernel
theorem dX5_graspable_3 : decode cX5_graspable 3 = .ok (.istore_n 3, 1) := by decide +kernel
theorem dX5_graspable_4 : decode cX5_graspable 4 = .ok (.iload_n 3, 1) := by decide +kernel
theorem dX5_graspable_5 : decode cX5_graspable 5 = .ok (.aload_n 0, 1) := by decide +kernel
theorem dX5_graspable_6 : decode cX5_graspable 6 = .ok (.getfield 34, 3) := by decide +kernel
theorem dX5_graspable_9 : decode cX5_graspable 9 = .ok (.if_icmp .ge 28, 3) := by decide +kernel
theorem dX5_graspable_12 : decode cX5_graspable 12 = .ok (.aload_n 0, 1) := by decide +kernel
theorem dX5_graspable_13 : decode cX5_graspable 13 = .ok (.getfield 9, 3) := by decide +kernel
theorem dX5_graspable_16 : decode cX5_graspable 16 = .ok (.iload_n 3, 1) := by decide +kernel
theorem dX5_graspable_17 : decode cX5_graspable 17 = .ok (.iaload, 1) := by decide +kernel
theorem dX5_graspable_18 : decode cX5_graspable 18 = .ok (.iload_n 1, 1) := by decide +kernel
theorem dX5_graspable_19 : decode cX5_graspable 19 = .ok (.iconst (-1), 1) := by decide +kernel
theorem dX5_graspable_20 : decode cX5_graspable 20 = .ok (.ixor, 1) := by decide +kernel
theorem dX5_graspable_21 : decode cX5_graspable 21 = .ok (.iand, 1) := by decide +kernel
theorem dX5_graspable_22 : decode cX5_graspable 22 = .ok (.ifCond .ne 9, 3) := by decide +kernel
theorem dX5_graspable_25 : decode cX5_graspable 25 = .ok (.iload_n 2, 1) := by decide +kernel
theorem dX5_graspable_26 : decode cX5_graspable 26 = .ok (.iconst 1, 1) := by decide +kernel
theorem dX5_graspable_27 : decode cX5_graspable 27 = .ok (.iload_n 3, 1) := by decide +kernel
theorem dX5_graspable_28 : decode cX5_graspable 28 = .ok (.ishl, 1) := by decide +kernel
theorem dX5_graspable_29 : decode cX5_graspable 29 = .ok (.ior, 1) := by decide +kernel
theorem dX5_graspable_30 : decode cX5_graspable 30 = .ok (.istore_n 2, 1) := by decide +kernel
theorem dX5_graspable_31 : decode cX5_graspable 31 = .ok (.iinc 3 1, 3) := by decide +kernel
theorem dX5_graspable_34 : decode cX5_graspable 34 = .ok (.goto (-30), 3) := by decide +kernel
theorem dX5_graspable_37 : decode cX5_graspable 37 = .ok (.iload_n 2, 1) := by decide +kernel
theorem dX5_graspable_38 : decode cX5_graspable 38 = .ok (.ireturn, 1) := by decide +kernel
theorem dX5_closure_0 : decode cX5_closure 0 = .ok (.iload_n 1, 1) := by decide +kernel
theorem dX5_closure_1 : decode cX5_closure 1 = .ok (.istore_n 2, 1) := by decide +kernel
theorem dX5_closure_2 : decode cX5_closure 2 = .ok (.iconst 0, 1) := by decide +kernel
theorem dX5_closure_3 : decode cX5_closure 3 = .ok (.istore_n 3, 1) := by decide +kernel
theorem dX5_closure_4 : decode cX5_closure 4 = .ok (.iload_n 3, 1) := by decide +kernel
theorem dX5_closure_5 : decode cX5_closure 5 = .ok (.aload_n 0, 1) := by decide +kernel
theorem dX5_closure_6 : decode cX5_closure 6 = .ok (.getfield 34, 3) := by decide +kernel
theorem dX5_closure_9 : decode cX5_closure 9 = .ok (.if_icmp .ge 17, 3) := by decide +kernel
theorem dX5_closure_12 : decode cX5_closure 12 = .ok (.iload_n 2, 1) := by decide +kernel
theorem dX5_closure_13 : decode cX5_closure 13 = .ok (.aload_n 0, 1) := by decide +kernel
theorem dX5_closure_14 : decode cX5_closure 14 = .ok (.iload_n 2, 1) := by decide +kernel
theorem dX5_closure_15 : decode cX5_closure 15 = .ok (.invokevirtual 94, 3) := by decide +kernel
theorem dX5_closure_18 : decode cX5_closure 18 = .ok (.ior, 1) := by decide +kernel
theorem dX5_closure_19 : decode cX5_closure 19 = .ok (.istore_n 2, 1) := by decide +kernel
theorem dX5_closure_20 : decode cX5_closure 20 = .ok (.iinc 3 1, 3) := by decide +kernel
theorem dX5_closure_23 : decode cX5_closure 23 = .ok (.goto (-19), 3) := by decide +kernel
theorem dX5_closure_26 : decode cX5_closure 26 = .ok (.iload_n 2, 1) := by decide +kernel
theorem dX5_closure_27 : decode cX5_closure 27 = .ok (.ireturn, 1) := by decide +kernel
theorem dX5_needed_0 : decode cX5_needed 0 = .ok (.iconst 1, 1) := by decide +kernel
theorem dX5_needed_1 : decode cX5_needed 1 = .ok (.iload_n 1, 1) := by decide +kernel
theorem dX5_needed_2 : decode cX5_needed 2 = .ok (.ishl, 1) := by decide +kernel
theorem dX5_needed_3 : decode cX5_needed 3 = .ok (.iload_n 2, 1) := by decide +kernel
theorem dX5_needed_4 : decode cX5_needed 4 = .ok (.iconst (-1), 1) := by decide +kernel
theorem dX5_needed_5 : decode cX5_needed 5 = .ok (.ixor, 1) := by decide +kernel
theorem dX5_needed_6 : decode cX5_needed 6 = .ok (.iand, 1) := by decide +kernel
theorem dX5_needed_7 : decode cX5_needed 7 = .ok (.istore_n 3, 1) := by decide +kernel
theorem dX5_needed_8 : decode cX5_needed 8 = .ok (.iload_n 1, 1) := by decide +kernel
theorem dX5_needed_9 : decode cX5_needed 9 = .ok (.istore 4, 2) := by decide +kernel
theorem dX5_needed_11 : decode cX5_needed 11 = .ok (.iload 4, 2) := by decide +kernel
theorem dX5_needed_13 : decode cX5_needed 13 = .ok (.ifCond .lt 32, 3) := by decide +kernel
theorem dX5_needed_16 : decode cX5_needed 16 = .ok (.iload_n 3, 1) := by decide +kernel
theorem dX5_needed_17 : decode cX5_needed 17 = .ok (.iload 4, 2) := by decide +kernel
theorem dX5_needed_19 : decode cX5_needed 19 = .ok (.ishr, 1) := by decide +kernel
theorem dX5_needed_20 : decode cX5_needed 20 = .ok (.iconst 1, 1) := by decide +kernel
theorem dX5_needed_21 : decode cX5_needed 21 = .ok (.iand, 1) := by decide +kernel
theorem dX5_needed_22 : decode cX5_needed 22 = .ok (.ifCond .eq 17, 3) := by decide +kernel
theorem dX5_needed_25 : decode cX5_needed 25 = .ok (.iload_n 3, 1) := by decide +kernel
theorem dX5_needed_26 : decode cX5_needed 26 = .ok (.aload_n 0, 1) := by decide +kernel
theorem dX5_needed_27 : decode cX5_needed 27 = .ok (.getfield 9, 3) := by decide +kernel
theorem dX5_needed_30 : decode cX5_needed 30 = .ok (.iload 4, 2) := by decide +kernel
theorem dX5_needed_32 : decode cX5_needed 32 = .ok (.iaload, 1) := by decide +kernel
theorem dX5_needed_33 : decode cX5_needed 33 = .ok (.iload_n 2, 1) := by decide +kernel
theorem dX5_needed_34 : decode cX5_needed 34 = .ok (.iconst (-1), 1) := by decide +kernel
theorem dX5_needed_35 : decode cX5_needed 35 = .ok (.ixor, 1) := by decide +kernel
theorem dX5_needed_36 : decode cX5_needed 36 = .ok (.iand, 1) := by decide +kernel
theorem dX5_needed_37 : decode cX5_needed 37 = .ok (.ior, 1) := by decide +kernel
theorem dX5_needed_38 : decode cX5_needed 38 = .ok (.istore_n 3, 1) := by decide +kernel
theorem dX5_needed_39 : decode cX5_needed 39 = .ok (.iinc 4 (-1), 3) := by decide +kernel
theorem dX5_needed_42 : decode cX5_needed 42 = .ok (.goto (-31), 3) := by decide +kernel
theorem dX5_needed_45 : decode cX5_needed 45 = .ok (.iload_n 3, 1) := by decide +kernel
theorem dX5_needed_46 : decode cX5_needed 46 = .ok (.ireturn, 1) := by decide +kernel
theorem dX5_bestPupil_0 : decode cX5_bestPupil 0 = .ok (.iconst 0, 1) := by decide +kernel
theorem dX5_bestPupil_1 : decode cX5_bestPupil 1 = .ok (.istore_n 1, 1) := by decide +kernel
theorem dX5_bestPupil_2 : decode cX5_bestPupil 2 = .ok (.iconst 1, 1) := by decide +kernel
theorem dX5_bestPupil_3 : decode cX5_bestPupil 3 = .ok (.istore_n 2, 1) := by decide +kernel
theorem dX5_bestPupil_4 : decode cX5_bestPupil 4 = .ok (.iload_n 2, 1) := by decide +kernel
theorem dX5_bestPupil_5 : decode cX5_bestPupil 5 = .ok (.aload_n 0, 1) := by decide +kernel
theorem dX5_bestPupil_6 : decode cX5_bestPupil 6 = .ok (.getfield 40, 3) := by decide +kernel
theorem dX5_bestPupil_9 : decode cX5_bestPupil 9 = .ok (.if_icmp .ge 24, 3) := by decide +kernel
theorem dX5_bestPupil_12 : decode cX5_bestPupil 12 = .ok (.aload_n 0, 1) := by decide +kernel
theorem dX5_bestPupil_13 : decode cX5_bestPupil 13 = .ok (.iload_n 2, 1) := by decide +kernel
theorem dX5_bestPupil_14 : decode cX5_bestPupil 14 = .ok (.invokevirtual 91, 3) := by decide +kernel
theorem dX5_bestPupil_17 : decode cX5_bestPupil 17 = .ok (.aload_n 0, 1) := by decide +kernel
theorem dX5_bestPupil_18 : decode cX5_bestPupil 18 = .ok (.iload_n 1, 1) := by decide +kernel
theorem dX5_bestPupil_19 : decode cX5_bestPupil 19 = .ok (.invokevirtual 91, 3) := by decide +kernel
theorem dX5_bestPupil_22 : decode cX5_bestPupil 22 = .ok (.if_icmp .le 5, 3) := by decide +kernel
theorem dX5_bestPupil_25 : decode cX5_bestPupil 25 = .ok (.iload_n 2, 1) := by decide +kernel
theorem dX5_bestPupil_26 : decode cX5_bestPupil 26 = .ok (.istore_n 1, 1) := by decide +kernel
theorem dX5_bestPupil_27 : decode cX5_bestPupil 27 = .ok (.iinc 2 1, 3) := by decide +kernel
theorem dX5_bestPupil_30 : decode cX5_bestPupil 30 = .ok (.goto (-26), 3) := by decide +kernel
theorem dX5_bestPupil_33 : decode cX5_bestPupil 33 = .ok (.iload_n 1, 1) := by decide +kernel
theorem dX5_bestPupil_34 : decode cX5_bestPupil 34 = .ok (.ireturn, 1) := by decide +kernel
theorem dX5_alike_0 : decode cX5_alike 0 = .ok (.iconst 0, 1) := by decide +kernel
theorem dX5_alike_1 : decode cX5_alike 1 = .ok (.istore_n 2, 1) := by decide +kernel
theorem dX5_alike_2 : decode cX5_alike 2 = .ok (.iconst 0, 1) := by decide +kernel
theorem dX5_alike_3 : decode cX5_alike 3 = .ok (.istore_n 3, 1) := by decide +kernel
theorem dX5_alike_4 : decode cX5_alike 4 = .ok (.iload_n 3, 1) := by decide +kernel
theorem dX5_alike_5 : decode cX5_alike 5 = .ok (.aload_n 0, 1) := by decide +kernel
theorem dX5_alike_6 : decode cX5_alike 6 = .ok (.getfield 40, 3) := by decide +kernel
theorem dX5_alike_9 : decode cX5_alike 9 = .ok (.if_icmp .ge 35, 3) := by decide +kernel
theorem dX5_alike_12 : decode cX5_alike 12 = .ok (.iload_n 3, 1) := by decide +kernel
theorem dX5_alike_13 : decode cX5_alike 13 = .ok (.iload_n 1, 1) := by decide +kernel
theorem dX5_alike_14 : decode cX5_alike 14 = .ok (.if_icmp .eq 24, 3) := by decide +kernel
theorem dX5_alike_17 : decode cX5_alike 17 = .ok (.aload_n 0, 1) := by decide +kernel
theorem dX5_alike_18 : decode cX5_alike 18 = .ok (.getfield 21, 3) := by decide +kernel
theorem dX5_alike_21 : decode cX5_alike 21 = .ok (.iload_n 3, 1) := by decide +kernel
theorem dX5_alike_22 : decode cX5_alike 22 = .ok (.iaload, 1) := by decide +kernel
theorem dX5_alike_23 : decode cX5_alike 23 = .ok (.aload_n 0, 1) := by decide +kernel
theorem dX5_alike_24 : decode cX5_alike 24 = .ok (.getfield 21, 3) := by decide +kernel
theorem dX5_alike_27 : decode cX5_alike 27 = .ok (.iload_n 1, 1) := by decide +kernel
theorem dX5_alike_28 : decode cX5_alike 28 = .ok (.iaload, 1) := by decide +kernel
theorem dX5_alike_29 : decode cX5_alike 29 = .ok (.if_icmp .ne 9, 3) := by decide +kernel
theorem dX5_alike_32 : decode cX5_alike 32 = .ok (.iload_n 2, 1) := by decide +kernel
theorem dX5_alike_33 : decode cX5_alike 33 = .ok (.iconst 1, 1) := by decide +kernel
theorem dX5_alike_34 : decode cX5_alike 34 = .ok (.iload_n 3, 1) := by decide +kernel
theorem dX5_alike_35 : decode cX5_alike 35 = .ok (.ishl, 1) := by decide +kernel
theorem dX5_alike_36 : decode cX5_alike 36 = .ok (.ior, 1) := by decide +kernel
theorem dX5_alike_37 : decode cX5_alike 37 = .ok (.istore_n 2, 1) := by decide +kernel
theorem dX5_alike_38 : decode cX5_alike 38 = .ok (.iinc 3 1, 3) := by decide +kernel
theorem dX5_alike_41 : decode cX5_alike 41 = .ok (.goto (-37), 3) := by decide +kernel
theorem dX5_alike_44 : decode cX5_alike 44 = .ok (.iload_n 2, 1) := by decide +kernel
theorem dX5_alike_45 : decode cX5_alike 45 = .ok (.ireturn, 1) := by decide +kernel
theorem dX5_tellsApart_0 : decode cX5_tellsApart 0 = .ok (.iconst 0, 1) := by decide +kernel
theorem dX5_tellsApart_1 : decode cX5_tellsApart 1 = .ok (.istore_n 2, 1) := by decide +kernel
theorem dX5_tellsApart_2 : decode cX5_tellsApart 2 = .ok (.iload_n 2, 1) := by decide +kernel
theorem dX5_tellsApart_3 : decode cX5_tellsApart 3 = .ok (.aload_n 0, 1) := by decide +kernel
theorem dX5_tellsApart_4 : decode cX5_tellsApart 4 = .ok (.getfield 40, 3) := by decide +kernel
theorem dX5_tellsApart_7 : decode cX5_tellsApart 7 = .ok (.if_icmp .ge 51, 3) := by decide +kernel
theorem dX5_tellsApart_10 : decode cX5_tellsApart 10 = .ok (.iconst 0, 1) := by decide +kernel
theorem dX5_tellsApart_11 : decode cX5_tellsApart 11 = .ok (.istore_n 3, 1) := by decide +kernel
theorem dX5_tellsApart_12 : decode cX5_tellsApart 12 = .ok (.iload_n 3, 1) := by decide +kernel
theorem dX5_tellsApart_13 : decode cX5_tellsApart 13 = .ok (.iload_n 2, 1) := by decide +kernel
theorem dX5_tellsApart_14 : decode cX5_tellsApart 14 = .ok (.if_icmp .ge 38, 3) := by decide +kernel
theorem dX5_tellsApart_17 : decode cX5_tellsApart 17 = .ok (.aload_n 0, 1) := by decide +kernel
theorem dX5_tellsApart_18 : decode cX5_tellsApart 18 = .ok (.getfield 21, 3) := by decide +kernel
theorem dX5_tellsApart_21 : decode cX5_tellsApart 21 = .ok (.iload_n 2, 1) := by decide +kernel
theorem dX5_tellsApart_22 : decode cX5_tellsApart 22 = .ok (.iaload, 1) := by decide +kernel
theorem dX5_tellsApart_23 : decode cX5_tellsApart 23 = .ok (.aload_n 0, 1) := by decide +kernel
theorem dX5_tellsApart_24 : decode cX5_tellsApart 24 = .ok (.getfield 21, 3) := by decide +kernel
theorem dX5_tellsApart_27 : decode cX5_tellsApart 27 = .ok (.iload_n 3, 1) := by decide +kernel
theorem dX5_tellsApart_28 : decode cX5_tellsApart 28 = .ok (.iaload, 1) := by decide +kernel
theorem dX5_tellsApart_29 : decode cX5_tellsApart 29 = .ok (.ixor, 1) := by decide +kernel
theorem dX5_tellsApart_30 : decode cX5_tellsApart 30 = .ok (.istore 4, 2) := by decide +kernel
theorem dX5_tellsApart_32 : decode cX5_tellsApart 32 = .ok (.iload 4, 2) := by decide +kernel
theorem dX5_tellsApart_34 : decode cX5_tellsApart 34 = .ok (.ifCond .eq 12, 3) := by decide +kernel
theorem dX5_tellsApart_37 : decode cX5_tellsApart 37 = .ok (.iload 4, 2) := by decide +kernel
theorem dX5_tellsApart_39 : decode cX5_tellsApart 39 = .ok (.iload_n 1, 1) := by decide +kernel
theorem dX5_tellsApart_40 : decode cX5_tellsApart 40 = .ok (.iand, 1) := by decide +kernel
theorem dX5_tellsApart_41 : decode cX5_tellsApart 41 = .ok (.ifCond .ne 5, 3) := by decide +kernel
theorem dX5_tellsApart_44 : decode cX5_tellsApart 44 = .ok (.iconst 0, 1) := by decide +kernel
theorem dX5_tellsApart_45 : decode cX5_tellsApart 45 = .ok (.ireturn, 1) := by decide +kernel
theorem dX5_tellsApart_46 : decode cX5_tellsApart 46 = .ok (.iinc 3 1, 3) := by decide +kernel
theorem dX5_tellsApart_49 : decode cX5_tellsApart 49 = .ok (.goto (-37), 3) := by decide +kernel
theorem dX5_tellsApart_52 : decode cX5_tellsApart 52 = .ok (.iinc 2 1, 3) := by decide +kernel
theorem dX5_tellsApart_55 : decode cX5_tellsApart 55 = .ok (.goto (-53), 3) := by decide +kernel
theorem dX5_tellsApart_58 : decode cX5_tellsApart 58 = .ok (.iconst 1, 1) := by decide +kernel
theorem dX5_tellsApart_59 : decode cX5_tellsApart 59 = .ok (.ireturn, 1) := by decide +kernel
theorem dX5_fewestQuestions_0 : decode cX5_fewestQuestions 0 = .ok (.iconst 1, 1) := by decide +kernel
theorem dX5_fewestQuestions_1 : decode cX5_fewestQuestions 1 = .ok (.aload_n 0, 1) := by decide +kernel
theorem dX5_fewestQuestions_2 : decode cX5_fewestQuestions 2 = .ok (.getfield 34, 3) := by decide +kernel
theorem dX5_fewestQuestions_5 : decode cX5_fewestQuestions 5 = .ok (.ishl, 1) := by decide +kernel
theorem dX5_fewestQuestions_6 : decode cX5_fewestQuestions 6 = .ok (.iconst 1, 1) := by decide +kernel
theorem dX5_fewestQuestions_7 : decode cX5_fewestQuestions 7 = .ok (.isub, 1) := by decide +kernel
theorem dX5_fewestQuestions_8 : decode cX5_fewestQuestions 8 = .ok (.istore_n 1, 1) := by decide +kernel
theorem dX5_fewestQuestions_9 : decode cX5_fewestQuestions 9 = .ok (.iconst 0, 1) := by decide +kernel
theorem dX5_fewestQuestions_10 : decode cX5_fewestQuestions 10 = .ok (.istore_n 2, 1) := by decide +kernel
theorem dX5_fewestQuestions_11 : decode cX5_fewestQuestions 11 = .ok (.iload_n 2, 1) := by decide +kernel
theorem dX5_fewestQuestions_12 : decode cX5_fewestQuestions 12 = .ok (.iconst 1, 1) := by decide +kernel
theorem dX5_fewestQuestions_13 : decode cX5_fewestQuestions 13 = .ok (.aload_n 0, 1) := by decide +kernel
theorem dX5_fewestQuestions_14 : decode cX5_fewestQuestions 14 = .ok (.getfield 34, 3) := by decide +kernel
theorem dX5_fewestQuestions_17 : decode cX5_fewestQuestions 17 = .ok (.ishl, 1) := by decide +kernel
theorem dX5_fewestQuestions_18 : decode cX5_fewestQuestions 18 = .ok (.if_icmp .ge 30, 3) := by decide +kernel
theorem dX5_fewestQuestions_21 : decode cX5_fewestQuestions 21 = .ok (.iload_n 2, 1) := by decide +kernel
theorem dX5_fewestQuestions_22 : decode cX5_fewestQuestions 22 = .ok (.invokestatic 52, 3) := by decide +kernel
theorem dX5_fewestQuestions_25 : decode cX5_fewestQuestions 25 = .ok (.iload_n 1, 1) := by decide +kernel
theorem dX5_fewestQuestions_26 : decode cX5_fewestQuestions 26 = .ok (.invokestatic 52, 3) := by decide +kernel
theorem dX5_fewestQuestions_29 : decode cX5_fewestQuestions 29 = .ok (.if_icmp .ge 13, 3) := by decide +kernel
theorem dX5_fewestQuestions_32 : decode cX5_fewestQuestions 32 = .ok (.aload_n 0, 1) := by decide +kernel
theorem dX5_fewestQuestions_33 : decode cX5_fewestQuestions 33 = .ok (.iload_n 2, 1) := by decide +kernel
theorem dX5_fewestQuestions_34 : decode cX5_fewestQuestions 34 = .ok (.invokevirtual 97, 3) := by decide +kernel
theorem dX5_fewestQuestions_37 : decode cX5_fewestQuestions 37 = .ok (.ifCond .eq 5, 3) := by decide +kernel
theorem dX5_fewestQuestions_40 : decode cX5_fewestQuestions 40 = .ok (.iload_n 2, 1) := by decide +kernel
theorem dX5_fewestQuestions_41 : decode cX5_fewestQuestions 41 = .ok (.istore_n 1, 1) := by decide +kernel
theorem dX5_fewestQuestions_42 : decode cX5_fewestQuestions 42 = .ok (.iinc 2 1, 3) := by decide +kernel
theorem dX5_fewestQuestions_45 : decode cX5_fewestQuestions 45 = .ok (.goto (-34), 3) := by decide +kernel
theorem dX5_fewestQuestions_48 : decode cX5_fewestQuestions 48 = .ok (.iload_n 1, 1) := by decide +kernel
theorem dX5_fewestQuestions_49 : decode cX5_fewestQuestions 49 = .ok (.ireturn, 1) := by decide +kernel
theorem dX6_init_0 : decode cX6_init 0 = .ok (.aload_n 0, 1) := by decide +kernel
theorem dX6_init_1 : decode cX6_init 1 = .ok (.invokespecial 1, 3) := by decide +kernel
theorem dX6_init_4 : decode cX6_init 4 = .ok (.aload_n 0, 1) := by decide +kernel
theorem dX6_init_5 : decode cX6_init 5 = .ok (.bipush 8, 2) := by decide +kernel
theorem dX6_init_7 : decode cX6_init 7 = .ok (.anewarray 9, 3) := by decide +kernel
theorem dX6_init_10 : decode cX6_init 10 = .ok (.putfield 11, 3) := by decide +kernel
theorem dX6_init_13 : decode cX6_init 13 = .ok (.aload_n 0, 1) := by decide +kernel
theorem dX6_init_14 : decode cX6_init 14 = .ok (.new 15, 3) := by decide +kernel
theorem dX6_init_17 : decode cX6_init 17 = .ok (.dup, 1) := by decide +kernel
theorem dX6_init_18 : decode cX6_init 18 = .ok (.invokespecial 17, 3) := by decide +kernel
theorem dX6_init_21 : decode cX6_init 21 = .ok (.putfield 18, 3) := by decide +kernel
theorem dX6_init_24 : decode cX6_init 24 = .ok (.aload_n 0, 1) := by decide +kernel
theorem dX6_init_25 : decode cX6_init 25 = .ok (.iconst 2, 1) := by decide +kernel
theorem dX6_init_26 : decode cX6_init 26 = .ok (.anewarray 15, 3) := by decide +kernel
theorem dX6_init_29 : decode cX6_init 29 = .ok (.putfield 22, 3) := by decide +kernel
theorem dX6_init_32 : decode cX6_init 32 = .ok (.aload_n 0, 1) := by decide +kernel
theorem dX6_init_33 : decode cX6_init 33 = .ok (.new 26, 3) := by decide +kernel
theorem dX6_init_36 : decode cX6_init 36 = .ok (.dup, 1) := by decide +kernel
theorem dX6_init_37 : decode cX6_init 37 = .ok (.invokespecial 28, 3) := by decide +kernel
theorem dX6_init_40 : decode cX6_init 40 = .ok (.putfield 29, 3) := by decide +kernel
theorem dX6_init_43 : decode cX6_init 43 = .ok (.aload_n 0, 1) := by decide +kernel
theorem dX6_init_44 : decode cX6_init 44 = .ok (.new 33, 3) := by decide +kernel
theorem dX6_init_47 : decode cX6_init 47 = .ok (.dup, 1) := by decide +kernel
theorem dX6_init_48 : decode cX6_init 48 = .ok (.invokespecial 35, 3) := by decide +kernel
theorem dX6_init_51 : decode cX6_init 51 = .ok (.putfield 36, 3) := by decide +kernel
theorem dX6_init_54 : decode cX6_init 54 = .ok (.aload_n 0, 1) := by decide +kernel
theorem dX6_init_55 : decode cX6_init 55 = .ok (.new 40, 3) := by decide +kernel
theorem dX6_init_58 : decode cX6_init 58 = .ok (.dup, 1) := by decide +kernel
theorem dX6_init_59 : decode cX6_init 59 = .ok (.invokespecial 42, 3) := by decide +kernel
theorem dX6_init_62 : decode cX6_init 62 = .ok (.putfield 43, 3) := by decide +kernel
theorem dX6_init_65 : decode cX6_init 65 = .ok (.aload_n 0, 1) := by decide +kernel
theorem dX6_init_66 : decode cX6_init 66 = .ok (.new 47, 3) := by decide +kernel
theorem dX6_init_69 : decode cX6_init 69 = .ok (.dup, 1) := by decide +kernel
theorem dX6_init_70 : decode cX6_init 70 = .ok (.invokespecial 49, 3) := by decide +kernel
theorem dX6_init_73 : decode cX6_init 73 = .ok (.putfield 50, 3) := by decide +kernel
theorem dX6_init_76 : decode cX6_init 76 = .ok (.iconst 0, 1) := by decide +kernel
theorem dX6_init_77 : decode cX6_init 77 = .ok (.istore_n 1, 1) := by decide +kernel
theorem dX6_init_78 : decode cX6_init 78 = .ok (.iload_n 1, 1) := by decide +kernel
theorem dX6_init_79 : decode cX6_init 79 = .ok (.bipush 8, 2) := by decide +kernel
theorem dX6_init_81 : decode cX6_init 81 = .ok (.if_icmp .ge 22, 3) := by decide +kernel
theorem dX6_init_84 : decode cX6_init 84 = .ok (.aload_n 0, 1) := by decide +kernel
theorem dX6_init_85 : decode cX6_init 85 = .ok (.getfield 11, 3) := by decide +kernel
theorem dX6_init_88 : decode cX6_init 88 = .ok (.iload_n 1, 1) := by decide +kernel
theorem dX6_init_89 : decode cX6_init 89 = .ok (.new 9, 3) := by decide +kernel
theorem dX6_init_92 : decode cX6_init 92 = .ok (.dup, 1) := by decide +kernel
theorem dX6_init_93 : decode cX6_init 93 = .ok (.invokespecial 54, 3) := by decide +kernel
theorem dX6_init_96 : decode cX6_init 96 = .ok (.aastore, 1) := by decide +kernel
theorem dX6_init_97 : decode cX6_init 97 = .ok (.iinc 1 1, 3) := by decide +kernel
theorem dX6_init_100 : decode cX6_init 100 = .ok (.goto (-22), 3) := by decide +kernel
theorem dX6_init_103 : decode cX6_init 103 = .ok (.iconst 0, 1) := by decide +kernel
theorem dX6_init_104 : decode cX6_init 104 = .ok (.istore_n 1, 1) := by decide +kernel
theorem dX6_init_105 : decode cX6_init 105 = .ok (.iload_n 1, 1) := by decide +kernel
theorem dX6_init_106 : decode cX6_init 106 = .ok (.iconst 2, 1) := by decide +kernel
theorem dX6_init_107 : decode cX6_init 107 = .ok (.if_icmp .ge 22, 3) := by decide +kernel
theorem dX6_init_110 : decode cX6_init 110 = .ok (.aload_n 0, 1) := by decide +kernel
theorem dX6_init_111 : decode cX6_init 111 = .ok (.getfield 22, 3) := by decide +kernel
theorem dX6_init_114 : decode cX6_init 114 = .ok (.iload_n 1, 1) := by decide +kernel
theorem dX6_init_115 : decode cX6_init 115 = .ok (.new 15, 3) := by decide +kernel
theorem dX6_init_118 : decode cX6_init 118 = .ok (.dup, 1) := by decide +kernel
theorem dX6_init_119 : decode cX6_init 119 = .ok (.invokespecial 17, 3) := by decide +kernel
theorem dX6_init_122 : decode cX6_init 122 = .ok (.aastore, 1) := by decide +kernel
theorem dX6_init_123 : decode cX6_init 123 = .ok (.iinc 1 1, 3) := by decide +kernel
theorem dX6_init_126 : decode cX6_init 126 = .ok (.goto (-21), 3) := by decide +kernel
theorem dX6_init_129 : decode cX6_init 129 = .ok (.return_, 1) := by decide +kernel
theorem dX6_fine_0 : decode cX6_fine 0 = .ok (.aload_n 0, 1) := by decide +kernel
theorem dX6_fine_1 : decode cX6_fine 1 = .ok (.iconst 0, 1) := by decide +kernel
theorem dX6_fine_2 : decode cX6_fine 2 = .ok (.putfield 315, 3) := by decide +kernel
theorem dX6_fine_5 : decode cX6_fine 5 = .ok (.iload_n 1, 1) := by decide +kernel
theorem dX6_fine_6 : decode cX6_fine 6 = .ok (.ireturn, 1) := by decide +kernel
theorem dX6_found_0 : decode cX6_found 0 = .ok (.aload_n 0, 1) := by decide +kernel
theorem dX6_found_1 : decode cX6_found 1 = .ok (.iload_n 1, 1) := by decide +kernel
theorem dX6_found_2 : decode cX6_found 2 = .ok (.putfield 315, 3) := by decide +kernel
theorem dX6_found_5 : decode cX6_found 5 = .ok (.ldc_w 318, 3) := by decide +kernel
theorem dX6_found_8 : decode cX6_found 8 = .ok (.iload_n 1, 1) := by decide +kernel
theorem dX6_found_9 : decode cX6_found 9 = .ok (.isub, 1) := by decide +kernel
theorem dX6_found_10 : decode cX6_found 10 = .ok (.ireturn, 1) := by decide +kernel
theorem dX6_noRow_0 : decode cX6_noRow 0 = .ok (.iload_n 0, 1) := by decide +kernel
theorem dX6_noRow_1 : decode cX6_noRow 1 = .ok (.iconst 0, 1) := by decide +kernel
theorem dX6_noRow_2 : decode cX6_noRow 2 = .ok (.bipush 7, 2) := by decide +kernel
theorem dX6_noRow_4 : decode cX6_noRow 4 = .ok (.invokestatic 59, 3) := by decide +kernel
theorem dX6_noRow_7 : decode cX6_noRow 7 = .ok (.ireturn, 1) := by decide +kernel
theorem dX6_row_0 : decode cX6_row 0 = .ok (.iload_n 1, 1) := by decide +kernel
theorem dX6_row_1 : decode cX6_row 1 = .ok (.invokestatic 55, 3) := by decide +kernel
theorem dX6_row_4 : decode cX6_row 4 = .ok (.ifCond .ne 18, 3) := by decide +kernel
theorem dX6_row_7 : decode cX6_row 7 = .ok (.iload_n 2, 1) := by decide +kernel
theorem dX6_row_8 : decode cX6_row 8 = .ok (.iconst 0, 1) := by decide +kernel
theorem dX6_row_9 : decode cX6_row 9 = .ok (.iconst 2, 1) := by decide +kernel
theorem dX6_row_10 : decode cX6_row 10 = .ok (.invokestatic 59, 3) := by decide +kernel
theorem dX6_row_13 : decode cX6_row 13 = .ok (.ifCond .ne 9, 3) := by decide +kernel
theorem dX6_row_16 : decode cX6_row 16 = .ok (.iload_n 3, 1) := by decide +kernel
theorem dX6_row_17 : decode cX6_row 17 = .ok (.bipush 40, 2) := by decide +kernel
theorem dX6_row_19 : decode cX6_row 19 = .ok (.if_icmp .le 6, 3) := by decide +kernel
theorem dX6_row_22 : decode cX6_row 22 = .ok (.ldc 63, 2) := by decide +kernel
theorem dX6_row_24 : decode cX6_row 24 = .ok (.ireturn, 1) := by decide +kernel
theorem dX6_row_25 : decode cX6_row 25 = .ok (.iload_n 3, 1) := by decide +kernel
theorem dX6_row_26 : decode cX6_row 26 = .ok (.ifCond .ge 9, 3) := by decide +kernel
theorem dX6_row_29 : decode cX6_row 29 = .ok (.aload_n 0, 1) := by decide +kernel
theorem dX6_row_30 : decode cX6_row 30 = .ok (.iconst 4, 1) := by decide +kernel
theorem dX6_row_31 : decode cX6_row 31 = .ok (.invokevirtual 64, 3) := by decide +kernel
theorem dX6_row_34 : decode cX6_row 34 = .ok (.ireturn, 1) := by decide +kernel
theorem dX6_row_35 : decode cX6_row 35 = .ok (.aload_n 0, 1) := by decide +kernel
theorem dX6_row_36 : decode cX6_row 36 = .ok (.getfield 11, 3) := by decide +kernel
theorem dX6_row_39 : decode cX6_row 39 = .ok (.iload_n 1, 1) := by decide +kernel
theorem dX6_row_40 : decode cX6_row 40 = .ok (.aaload, 1) := by decide +kernel
theorem dX6_row_41 : decode cX6_row 41 = .ok (.iload_n 2, 1) := by decide +kernel
theorem dX6_row_42 : decode cX6_row 42 = .ok (.iload_n 3, 1) := by decide +kernel
theorem dX6_row_43 : decode cX6_row 43 = .ok (.invokevirtual 68, 3) := by decide +kernel
theorem dX6_row_46 : decode cX6_row 46 = .ok (.aload_n 0, 1) := by decide +kernel
theorem dX6_row_47 : decode cX6_row 47 = .ok (.iload_n 3, 1) := by decide +kernel
theorem dX6_row_48 : decode cX6_row 48 = .ok (.invokevirtual 72, 3) := by decide +kernel
theorem dX6_row_51 : decode cX6_row 51 = .ok (.ireturn, 1) := by decide +kernel
theorem dX6_wrongPlace_0 : decode cX6_wrongPlace 0 = .ok (.aload_n 0, 1) := by decide +kernel
theorem dX6_wrongPlace_1 : decode cX6_wrongPlace 1 = .ok (.getfield 11, 3) := by decide +kernel
theorem dX6_wrongPlace_4 : decode cX6_wrongPlace 4 = .ok (.iload_n 1, 1) := by decide +kernel
theorem dX6_wrongPlace_5 : decode cX6_wrongPlace 5 = .ok (.aaload, 1) := by decide +kernel
theorem dX6_wrongPlace_6 : decode cX6_wrongPlace 6 = .ok (.getfield 83, 3) := by decide +kernel
theorem dX6_wrongPlace_9 : decode cX6_wrongPlace 9 = .ok (.ifCond .ne 5, 3) := by decide +kernel
theorem dX6_wrongPlace_12 : decode cX6_wrongPlace 12 = .ok (.iconst 1, 1) := by decide +kernel
theorem dX6_wrongPlace_13 : decode cX6_wrongPlace 13 = .ok (.ireturn, 1) := by decide +kernel
theorem dX6_wrongPlace_14 : decode cX6_wrongPlace 14 = .ok (.aload_n 0, 1) := by decide +kernel
theorem dX6_wrongPlace_15 : decode cX6_wrongPlace 15 = .ok (.getfield 11, 3) := by decide +kernel
theorem dX6_wrongPlace_18 : decode cX6_wrongPlace 18 = .ok (.iload_n 1, 1) := by decide +kernel
theorem dX6_wrongPlace_19 : decode cX6_wrongPlace 19 = .ok (.aaload, 1) := by decide +kernel
theorem dX6_wrongPlace_20 : decode cX6_wrongPlace 20 = .ok (.iload_n 2, 1) := by decide +kernel
theorem dX6_wrongPlace_21 : decode cX6_wrongPlace 21 = .ok (.iload_n 3, 1) := by decide +kernel
theorem dX6_wrongPlace_22 : decode cX6_wrongPlace 22 = .ok (.invokevirtual 91, 3) := by decide +kernel
theorem dX6_wrongPlace_25 : decode cX6_wrongPlace 25 = .ok (.ifCond .eq 7, 3) := by decide +kernel
theorem dX6_wrongPlace_28 : decode cX6_wrongPlace 28 = .ok (.iconst 0, 1) := by decide +kernel
theorem dX6_wrongPlace_29 : decode cX6_wrongPlace 29 = .ok (.goto 4, 3) := by decide +kernel
theorem dX6_wrongPlace_32 : decode cX6_wrongPlace 32 = .ok (.iconst 2, 1) := by decide +kernel
theorem dX6_wrongPlace_33 : decode cX6_wrongPlace 33 = .ok (.ireturn, 1) := by decide +kernel
theorem dX6_set_0 : decode cX6_set 0 = .ok (.iload_n 1, 1) := by decide +kernel
theorem dX6_set_1 : decode cX6_set 1 = .ok (.invokestatic 55, 3) := by decide +kernel
theorem dX6_set_4 : decode cX6_set 4 = .ok (.ifCond .eq 6, 3) := by decide +kernel
theorem dX6_set_7 : decode cX6_set 7 = .ok (.ldc 63, 2) := by decide +kernel
theorem dX6_set_9 : decode cX6_set 9 = .ok (.ireturn, 1) := by decide +kernel
theorem dX6_set_10 : decode cX6_set 10 = .ok (.aload_n 0, 1) := by decide +kernel
theorem dX6_set_11 : decode cX6_set 11 = .ok (.iload_n 1, 1) := by decide +kernel
theorem dX6_set_12 : decode cX6_set 12 = .ok (.iload_n 2, 1) := by decide +kernel
theorem dX6_set_13 : decode cX6_set 13 = .ok (.iconst 1, 1) := by decide +kernel
theorem dX6_set_14 : decode cX6_set 14 = .ok (.invokevirtual 75, 3) := by decide +kernel
theorem dX6_set_17 : decode cX6_set 17 = .ok (.istore 4, 2) := by decide +kernel
theorem dX6_set_19 : decode cX6_set 19 = .ok (.iload 4, 2) := by decide +kernel
theorem dX6_set_21 : decode cX6_set 21 = .ok (.ifCond .eq 12, 3) := by decide +kernel
theorem dX6_set_24 : decode cX6_set 24 = .ok (.aload_n 0, 1) := by decide +kernel
theorem dX6_set_25 : decode cX6_set 25 = .ok (.iload 4, 2) := by decide +kernel
theorem dX6_set_27 : decode cX6_set 27 = .ok (.invokevirtual 64, 3) := by decide +kernel
theorem dX6_set_30 : decode cX6_set 30 = .ok (.goto 18, 3) := by decide +kernel
theorem dX6_set_33 : decode cX6_set 33 = .ok (.aload_n 0, 1) := by decide +kernel
theorem dX6_set_34 : decode cX6_set 34 = .ok (.aload_n 0, 1) := by decide +kernel
theorem dX6_set_35 : decode cX6_set 35 = .ok (.getfield 11, 3) := by decide +kernel
theorem dX6_set_38 : decode cX6_set 38 = .ok (.iload_n 1, 1) := by decide +kernel
theorem dX6_set_39 : decode cX6_set 39 = .ok (.aaload, 1) := by decide +kernel
theorem dX6_set_40 : decode cX6_set 40 = .ok (.iload_n 2, 1) := by decide +kernel
theorem dX6_set_41 : decode cX6_set 41 = .ok (.iload_n 3, 1) := by decide +kernel
theorem dX6_set_42 : decode cX6_set 42 = .ok (.invokevirtual 79, 3) := by decide +kernel
theorem dX6_set_45 : decode cX6_set 45 = .ok (.invokevirtual 72, 3) := by decide +kernel
theorem dX6_set_48 : decode cX6_set 48 = .ok (.ireturn, 1) := by decide +kernel
theorem dX6_copy_0 : decode cX6_copy 0 = .ok (.iload_n 1, 1) := by decide +kernel
theorem dX6_copy_1 : decode cX6_copy 1 = .ok (.invokestatic 55, 3) := by decide +kernel
theorem dX6_copy_4 : decode cX6_copy 4 = .ok (.ifCond .ne 10, 3) := by decide +kernel
theorem dX6_copy_7 : decode cX6_copy 7 = .ok (.iload_n 3, 1) := by decide +kernel
theorem dX6_copy_8 : decode cX6_copy 8 = .ok (.invokestatic 55, 3) := by decide +kernel
theorem dX6_copy_11 : decode cX6_copy 11 = .ok (.ifCond .eq 6, 3) := by decide +kernel
theorem dX6_copy_14 : decode cX6_copy 14 = .ok (.ldc 63, 2) := by decide +kernel
theorem dX6_copy_16 : decode cX6_copy 16 = .ok (.ireturn, 1) := by decide +kernel
theorem dX6_copy_17 : decode cX6_copy 17 = .ok (.aload_n 0, 1) := by decide +kernel
theorem dX6_copy_18 : decode cX6_copy 18 = .ok (.getfield 11, 3) := by decide +kernel
theorem dX6_copy_21 : decode cX6_copy 21 = .ok (.iload_n 1, 1) := by decide +kernel
theorem dX6_copy_22 : decode cX6_copy 22 = .ok (.aaload, 1) := by decide +kernel
theorem dX6_copy_23 : decode cX6_copy 23 = .ok (.astore 6, 2) := by decide +kernel
theorem dX6_copy_25 : decode cX6_copy 25 = .ok (.aload_n 0, 1) := by decide +kernel
theorem dX6_copy_26 : decode cX6_copy 26 = .ok (.getfield 11, 3) := by decide +kernel
theorem dX6_copy_29 : decode cX6_copy 29 = .ok (.iload_n 3, 1) := by decide +kernel
theorem dX6_copy_30 : decode cX6_copy 30 = .ok (.aaload, 1) := by decide +kernel
theorem dX6_copy_31 : decode cX6_copy 31 = .ok (.astore 7, 2) := by decide +kernel
theorem dX6_copy_33 : decode cX6_copy 33 = .ok (.aload 6, 2) := by decide +kernel
theorem dX6_copy_35 : decode cX6_copy 35 = .ok (.getfield 83, 3) := by decide +kernel
theorem dX6_copy_38 : decode cX6_copy 38 = .ok (.ifCond .eq 11, 3) := by decide +kernel
theorem dX6_copy_41 : decode cX6_copy 41 = .ok (.aload 7, 2) := by decide +kernel
theorem dX6_copy_43 : decode cX6_copy 43 = .ok (.getfield 83, 3) := by decide +kernel
theorem dX6_copy_46 : decode cX6_copy 46 = .ok (.ifCond .ne 9, 3) := by decide +kernel
theorem dX6_copy_49 : decode cX6_copy 49 = .ok (.aload_n 0, 1) := by decide +kernel
theorem dX6_copy_50 : decode cX6_copy 50 = .ok (.iconst 1, 1) := by decide +kernel
theorem dX6_copy_51 : decode cX6_copy 51 = .ok (.invokevirtual 64, 3) := by decide +kernel
theorem dX6_copy_54 : decode cX6_copy 54 = .ok (.ireturn, 1) := by decide +kernel
theorem dX6_copy_55 : decode cX6_copy 55 = .ok (.aload 6, 2) := by decide +kernel
theorem dX6_copy_57 : decode cX6_copy 57 = .ok (.getfield 87, 3) := by decide +kernel
theorem dX6_copy_60 : decode cX6_copy 60 = .ok (.aload 7, 2) := by decide +kernel
theorem dX6_copy_62 : decode cX6_copy 62 = .ok (.getfield 87, 3) := by decide +kernel
theorem dX6_copy_65 : decode cX6_copy 65 = .ok (.if_icmp .eq 9, 3) := by decide +kernel
theorem dX6_copy_68 : decode cX6_copy 68 = .ok (.aload_n 0, 1) := by decide +kernel
theorem dX6_copy_69 : decode cX6_copy 69 = .ok (.iconst 5, 1) := by decide +kernel
theorem dX6_copy_70 : decode cX6_copy 70 = .ok (.invokevirtual 64, 3) := by decide +kernel
theorem dX6_copy_73 : decode cX6_copy 73 = .ok (.ireturn, 1) := by decide +kernel
theorem dX6_copy_74 : decode cX6_copy 74 = .ok (.aload 6, 2) := by decide +kernel
theorem dX6_copy_76 : decode cX6_copy 76 = .ok (.iload_n 2, 1) := by decide +kernel
theorem dX6_copy_77 : decode cX6_copy 77 = .ok (.iload 5, 2) := by decide +kernel
theorem dX6_copy_79 : decode cX6_copy 79 = .ok (.invokevirtual 91, 3) := by decide +kernel
theorem dX6_copy_82 : decode cX6_copy 82 = .ok (.ifCond .eq 15, 3) := by decide +kernel
theorem dX6_copy_85 : decode cX6_copy 85 = .ok (.aload 7, 2) := by decide +kernel
theorem dX6_copy_87 : decode cX6_copy 87 = .ok (.iload 4, 2) := by decide +kernel
theorem dX6_copy_89 : decode cX6_copy 89 = .ok (.iload 5, 2) := by decide +kernel
theorem dX6_copy_91 : decode cX6_copy 91 = .ok (.invokevirtual 91, 3) := by decide +kernel
theorem dX6_copy_94 : decode cX6_copy 94 = .ok (.ifCond .ne 9, 3) := by decide +kernel
theorem dX6_copy_97 : decode cX6_copy 97 = .ok (.aload_n 0, 1) := by decide +kernel
theorem dX6_copy_98 : decode cX6_copy 98 = .ok (.iconst 2, 1) := by decide +kernel
theorem dX6_copy_99 : decode cX6_copy 99 = .ok (.invokevirtual 64, 3) := by decide +kernel
theorem dX6_copy_102 : decode cX6_copy 102 = .ok (.ireturn, 1) := by decide +kernel
theorem dX6_copy_103 : decode cX6_copy 103 = .ok (.aload 6, 2) := by decide +kernel
theorem dX6_copy_105 : decode cX6_copy 105 = .ok (.getfield 95, 3) := by decide +kernel
theorem dX6_copy_108 : decode cX6_copy 108 = .ok (.iload_n 2, 1) := by decide +kernel
theorem dX6_copy_109 : decode cX6_copy 109 = .ok (.aload 7, 2) := by decide +kernel
theorem dX6_copy_111 : decode cX6_copy 111 = .ok (.getfield 95, 3) := by decide +kernel
theorem dX6_copy_114 : decode cX6_copy 114 = .ok (.iload 4, 2) := by decide +kernel
theorem dX6_copy_116 : decode cX6_copy 116 = .ok (.iload 5, 2) := by decide +kernel
theorem dX6_copy_118 : decode cX6_copy 118 = .ok (.invokestatic 99, 3) := by decide +kernel
theorem dX6_copy_121 : decode cX6_copy 121 = .ok (.aload_n 0, 1) := by decide +kernel
theorem dX6_copy_122 : decode cX6_copy 122 = .ok (.iload 5, 2) := by decide +kernel
theorem dX6_copy_124 : decode cX6_copy 124 = .ok (.invokevirtual 72, 3) := by decide +kernel
theorem dX6_copy_127 : decode cX6_copy 127 = .ok (.ireturn, 1) := by decide +kernel
theorem dX6_drop_0 : decode cX6_drop 0 = .ok (.iload_n 1, 1) := by decide +kernel
theorem dX6_drop_1 : decode cX6_drop 1 = .ok (.invokestatic 55, 3) := by decide +kernel
theorem dX6_drop_4 : decode cX6_drop 4 = .ok (.ifCond .eq 6, 3) := by decide +kernel
theorem dX6_drop_7 : decode cX6_drop 7 = .ok (.ldc 63, 2) := by decide +kernel
theorem dX6_drop_9 : decode cX6_drop 9 = .ok (.ireturn, 1) := by decide +kernel
theorem dX6_drop_10 : decode cX6_drop 10 = .ok (.aload_n 0, 1) := by decide +kernel
theorem dX6_drop_11 : decode cX6_drop 11 = .ok (.getfield 11, 3) := by decide +kernel
theorem dX6_drop_14 : decode cX6_drop 14 = .ok (.iload_n 1, 1) := by decide +kernel
theorem dX6_drop_15 : decode cX6_drop 15 = .ok (.aaload, 1) := by decide +kernel
theorem dX6_drop_16 : decode cX6_drop 16 = .ok (.getfield 83, 3) := by decide +kernel
theorem dX6_drop_19 : decode cX6_drop 19 = .ok (.ifCond .ne 9, 3) := by decide +kernel
theorem dX6_drop_22 : decode cX6_drop 22 = .ok (.aload_n 0, 1) := by decide +kernel
theorem dX6_drop_23 : decode cX6_drop 23 = .ok (.iconst 1, 1) := by decide +kernel
theorem dX6_drop_24 : decode cX6_drop 24 = .ok (.invokevirtual 64, 3) := by decide +kernel
theorem dX6_drop_27 : decode cX6_drop 27 = .ok (.ireturn, 1) := by decide +kernel
theorem dX6_drop_28 : decode cX6_drop 28 = .ok (.aload_n 0, 1) := by decide +kernel
theorem dX6_drop_29 : decode cX6_drop 29 = .ok (.getfield 11, 3) := by decide +kernel
theorem dX6_drop_32 : decode cX6_drop 32 = .ok (.iload_n 1, 1) := by decide +kernel
theorem dX6_drop_33 : decode cX6_drop 33 = .ok (.aaload, 1) := by decide +kernel
theorem dX6_drop_34 : decode cX6_drop 34 = .ok (.iconst 0, 1) := by decide +kernel
theorem dX6_drop_35 : decode cX6_drop 35 = .ok (.putfield 83, 3) := by decide +kernel
theorem dX6_drop_38 : decode cX6_drop 38 = .ok (.aload_n 0, 1) := by decide +kernel
theorem dX6_drop_39 : decode cX6_drop 39 = .ok (.aload_n 0, 1) := by decide +kernel
theorem dX6_drop_40 : decode cX6_drop 40 = .ok (.getfield 11, 3) := by decide +kernel
theorem dX6_drop_43 : decode cX6_drop 43 = .ok (.iload_n 1, 1) := by decide +kernel
theorem dX6_drop_44 : decode cX6_drop 44 = .ok (.aaload, 1) := by decide +kernel
theorem dX6_drop_45 : decode cX6_drop 45 = .ok (.getfield 105, 3) := by decide +kernel
theorem dX6_drop_48 : decode cX6_drop 48 = .ok (.invokevirtual 72, 3) := by decide +kernel
theorem dX6_drop_51 : decode cX6_drop 51 = .ok (.ireturn, 1) := by decide +kernel
theorem dX6_feed_0 : decode cX6_feed 0 = .ok (.iload_n 1, 1) := by decide +kernel
theorem dX6_feed_1 : decode cX6_feed 1 = .ok (.iconst 0, 1) := by decide +kernel
theorem dX6_feed_2 : decode cX6_feed 2 = .ok (.sipush 255, 3) := by decide +kernel
theorem dX6_feed_5 : decode cX6_feed 5 = .ok (.invokestatic 59, 3) := by decide +kernel
theorem dX6_feed_8 : decode cX6_feed 8 = .ok (.ifCond .eq 6, 3) := by decide +kernel
theorem dX6_feed_11 : decode cX6_feed 11 = .ok (.ldc 63, 2) := by decide +kernel
theorem dX6_feed_13 : decode cX6_feed 13 = .ok (.ireturn, 1) := by decide +kernel
theorem dX6_feed_14 : decode cX6_feed 14 = .ok (.aload_n 0, 1) := by decide +kernel
theorem dX6_feed_15 : decode cX6_feed 15 = .ok (.getfield 36, 3) := by decide +kernel
theorem dX6_feed_18 : decode cX6_feed 18 = .ok (.iload_n 1, 1) := by decide +kernel
theorem dX6_feed_19 : decode cX6_feed 19 = .ok (.invokevirtual 108, 3) := by decide +kernel
theorem dX6_feed_22 : decode cX6_feed 22 = .ok (.ifCond .eq 13, 3) := by decide +kernel
theorem dX6_feed_25 : decode cX6_feed 25 = .ok (.aload_n 0, 1) := by decide +kernel
theorem dX6_feed_26 : decode cX6_feed 26 = .ok (.getfield 36, 3) := by decide +kernel
theorem dX6_feed_29 : decode cX6_feed 29 = .ok (.getfield 111, 3) := by decide +kernel
theorem dX6_feed_32 : decode cX6_feed 32 = .ok (.goto 5, 3) := by decide +kernel
theorem dX6_feed_35 : decode cX6_feed 35 = .ok (.ldc 114, 2) := by decide +kernel
theorem dX6_feed_37 : decode cX6_feed 37 = .ok (.ireturn, 1) := by decide +kernel
theorem dX6_school_0 : decode cX6_school 0 = .ok (.aload_n 0, 1) := by decide +kernel
theorem dX6_school_1 : decode cX6_school 1 = .ok (.getfield 36, 3) := by decide +kernel
theorem dX6_school_4 : decode cX6_school 4 = .ok (.invokevirtual 115, 3) := by decide +kernel
theorem dX6_school_7 : decode cX6_school 7 = .ok (.istore_n 1, 1) := by decide +kernel
theorem dX6_school_8 : decode cX6_school 8 = .ok (.aload_n 0, 1) := by decide +kernel
theorem dX6_school_9 : decode cX6_school 9 = .ok (.getfield 36, 3) := by decide +kernel
theorem dX6_school_12 : decode cX6_school 12 = .ok (.iconst 0, 1) := by decide +kernel
theorem dX6_school_13 : decode cX6_school 13 = .ok (.putfield 111, 3) := by decide +kernel
theorem dX6_school_16 : decode cX6_school 16 = .ok (.iload_n 1, 1) := by decide +kernel
theorem dX6_school_17 : decode cX6_school 17 = .ok (.ifCond .ne 14, 3) := by decide +kernel
theorem dX6_school_20 : decode cX6_school 20 = .ok (.ldc 119, 2) := by decide +kernel
theorem dX6_school_22 : decode cX6_school 22 = .ok (.aload_n 0, 1) := by decide +kernel
theorem dX6_school_23 : decode cX6_school 23 = .ok (.getfield 36, 3) := by decide +kernel
theorem dX6_school_26 : decode cX6_school 26 = .ok (.getfield 120, 3) := by decide +kernel
theorem dX6_school_29 : decode cX6_school 29 = .ok (.isub, 1) := by decide +kernel
theorem dX6_school_30 : decode cX6_school 30 = .ok (.ireturn, 1) := by decide +kernel
theorem dX6_school_31 : decode cX6_school 31 = .ok (.aload_n 0, 1) := by decide +kernel
theorem dX6_school_32 : decode cX6_school 32 = .ok (.getfield 18, 3) := by decide +kernel
theorem dX6_school_35 : decode cX6_school 35 = .ok (.aload_n 0, 1) := by decide +kernel
theorem dX6_school_36 : decode cX6_school 36 = .ok (.getfield 36, 3) := by decide +kernel
theorem dX6_school_39 : decode cX6_school 39 = .ok (.getfield 123, 3) := by decide +kernel
theorem dX6_school_42 : decode cX6_school 42 = .ok (.invokevirtual 126, 3) := by decide +kernel
theorem dX6_school_45 : decode cX6_school 45 = .ok (.aload_n 0, 1) := by decide +kernel
theorem dX6_school_46 : decode cX6_school 46 = .ok (.getfield 29, 3) := by decide +kernel
theorem dX6_school_49 : decode cX6_school 49 = .ok (.iconst 0, 1) := by decide +kernel
theorem dX6_school_50 : decode cX6_school 50 = .ok (.putfield 130, 3) := by decide +kernel
theorem dX6_school_53 : decode cX6_school 53 = .ok (.aload_n 0, 1) := by decide +kernel
theorem dX6_school_54 : decode cX6_school 54 = .ok (.getfield 18, 3) := by decide +kernel
theorem dX6_school_57 : decode cX6_school 57 = .ok (.getfield 133, 3) := by decide +kernel
theorem dX6_school_60 : decode cX6_school 60 = .ok (.ireturn, 1) := by decide +kernel
theorem dX6_fault_0 : decode cX6_fault 0 = .ok (.aload_n 0, 1) := by decide +kernel
theorem dX6_fault_1 : decode cX6_fault 1 = .ok (.getfield 36, 3) := by decide +kernel
theorem dX6_fault_4 : decode cX6_fault 4 = .ok (.getfield 136, 3) := by decide +kernel
theorem dX6_fault_7 : decode cX6_fault 7 = .ok (.ireturn, 1) := by decide +kernel
theorem dX6_undo_0 : decode cX6_undo 0 = .ok (.aload_n 0, 1) := by decide +kernel
theorem dX6_undo_1 : decode cX6_undo 1 = .ok (.getfield 29, 3) := by decide +kernel
theorem dX6_undo_4 : decode cX6_undo 4 = .ok (.aload_n 0, 1) := by decide +kernel
theorem dX6_undo_5 : decode cX6_undo 5 = .ok (.getfield 18, 3) := by decide +kernel
theorem dX6_undo_8 : decode cX6_undo 8 = .ok (.invokevirtual 139, 3) := by decide +kernel
theorem dX6_undo_11 : decode cX6_undo 11 = .ok (.ifCond .eq 13, 3) := by decide +kernel
theorem dX6_undo_14 : decode cX6_undo 14 = .ok (.aload_n 0, 1) := by decide +kernel
theorem dX6_undo_15 : decode cX6_undo 15 = .ok (.getfield 29, 3) := by decide +kernel
theorem dX6_undo_18 : decode cX6_undo 18 = .ok (.getfield 130, 3) := by decide +kernel
theorem dX6_undo_21 : decode cX6_undo 21 = .ok (.goto 5, 3) := by decide +kernel
theorem dX6_undo_24 : decode cX6_undo 24 = .ok (.ldc 143, 2) := by decide +kernel
theorem dX6_undo_26 : decode cX6_undo 26 = .ok (.ireturn, 1) := by decide +kernel
theorem dX6_noSchool_0 : decode cX6_noSchool 0 = .ok (.aload_n 0, 1) := by decide +kernel
theorem dX6_noSchool_1 : decode cX6_noSchool 1 = .ok (.getfield 18, 3) := by decide +kernel
theorem dX6_noSchool_4 : decode cX6_noSchool 4 = .ok (.getfield 133, 3) := by decide +kernel
theorem dX6_noSchool_7 : decode cX6_noSchool 7 = .ok (.ifCond .ne 7, 3) := by decide +kernel
theorem dX6_noSchool_10 : decode cX6_noSchool 10 = .ok (.iconst 1, 1) := by decide +kernel
theorem dX6_noSchool_11 : decode cX6_noSchool 11 = .ok (.goto 4, 3) := by decide +kernel
theorem dX6_noSchool_14 : decode cX6_noSchool 14 = .ok (.iconst 0, 1) := by decide +kernel
theorem dX6_noSchool_15 : decode cX6_noSchool 15 = .ok (.ireturn, 1) := by decide +kernel
theorem dX6_days_0 : decode cX6_days 0 = .ok (.aload_n 0, 1) := by decide +kernel
theorem dX6_days_1 : decode cX6_days 1 = .ok (.invokevirtual 144, 3) := by decide +kernel
theorem dX6_days_4 : decode cX6_days 4 = .ok (.ifCond .eq 6, 3) := by decide +kernel
theorem dX6_days_7 : decode cX6_days 7 = .ok (.ldc 143, 2) := by decide +kernel
theorem dX6_days_9 : decode cX6_days 9 = .ok (.ireturn, 1) := by decide +kernel
theorem dX6_days_10 : decode cX6_days 10 = .ok (.iload_n 1, 1) := by decide +kernel
theorem dX6_days_11 : decode cX6_days 11 = .ok (.iconst 1, 1) := by decide +kernel
theorem dX6_days_12 : decode cX6_days 12 = .ok (.bipush 24, 2) := by decide +kernel
theorem dX6_days_14 : decode cX6_days 14 = .ok (.invokestatic 59, 3) := by decide +kernel
theorem dX6_days_17 : decode cX6_days 17 = .ok (.ifCond .eq 6, 3) := by decide +kernel
theorem dX6_days_20 : decode cX6_days 20 = .ok (.ldc 63, 2) := by decide +kernel
theorem dX6_days_22 : decode cX6_days 22 = .ok (.ireturn, 1) := by decide +kernel
theorem dX6_days_23 : decode cX6_days 23 = .ok (.aload_n 0, 1) := by decide +kernel
theorem dX6_days_24 : decode cX6_days 24 = .ok (.getfield 18, 3) := by decide +kernel
theorem dX6_days_27 : decode cX6_days 27 = .ok (.getfield 147, 3) := by decide +kernel
theorem dX6_days_30 : decode cX6_days 30 = .ok (.iload_n 1, 1) := by decide +kernel
theorem dX6_days_31 : decode cX6_days 31 = .ok (.iadd, 1) := by decide +kernel
theorem dX6_days_32 : decode cX6_days 32 = .ok (.sipush 999, 3) := by decide +kernel
theorem dX6_days_35 : decode cX6_days 35 = .ok (.if_icmp .le 6, 3) := by decide +kernel
theorem dX6_days_38 : decode cX6_days 38 = .ok (.ldc 114, 2) := by decide +kernel
theorem dX6_days_40 : decode cX6_days 40 = .ok (.ireturn, 1) := by decide +kernel
theorem dX6_days_41 : decode cX6_days 41 = .ok (.iconst 0, 1) := by decide +kernel
theorem dX6_days_42 : decode cX6_days 42 = .ok (.istore_n 2, 1) := by decide +kernel
theorem dX6_days_43 : decode cX6_days 43 = .ok (.iload_n 2, 1) := by decide +kernel
theorem dX6_days_44 : decode cX6_days 44 = .ok (.iload_n 1, 1) := by decide +kernel
theorem dX6_days_45 : decode cX6_days 45 = .ok (.if_icmp .ge 27, 3) := by decide +kernel
theorem dX6_days_48 : decode cX6_days 48 = .ok (.aload_n 0, 1) := by decide +kernel
theorem dX6_days_49 : decode cX6_days 49 = .ok (.getfield 29, 3) := by decide +kernel
theorem dX6_days_52 : decode cX6_days 52 = .ok (.aload_n 0, 1) := by decide +kernel
theorem dX6_days_53 : decode cX6_days 53 = .ok (.getfield 18, 3) := by decide +kernel
theorem dX6_days_56 : decode cX6_days 56 = .ok (.invokevirtual 150, 3) := by decide +kernel
theorem dX6_days_59 : decode cX6_days 59 = .ok (.aload_n 0, 1) := by decide +kernel
theorem dX6_days_60 : decode cX6_days 60 = .ok (.getfield 18, 3) := by decide +kernel
theorem dX6_days_63 : decode cX6_days 63 = .ok (.invokevirtual 153, 3) := by decide +kernel
theorem dX6_days_66 : decode cX6_days 66 = .ok (.iinc 2 1, 3) := by decide +kernel
theorem dX6_days_69 : decode cX6_days 69 = .ok (.goto (-26), 3) := by decide +kernel
theorem dX6_days_72 : decode cX6_days 72 = .ok (.aload_n 0, 1) := by decide +kernel
theorem dX6_days_73 : decode cX6_days 73 = .ok (.getfield 18, 3) := by decide +kernel
theorem dX6_days_76 : decode cX6_days 76 = .ok (.invokevirtual 156, 3) := by decide +kernel
theorem dX6_days_79 : decode cX6_days 79 = .ok (.ireturn, 1) := by decide +kernel
theorem dX6_noPupil_0 : decode cX6_noPupil 0 = .ok (.iload_n 1, 1) := by decide +kernel
theorem dX6_noPupil_1 : decode cX6_noPupil 1 = .ok (.iconst 0, 1) := by decide +kernel
theorem dX6_noPupil_2 : decode cX6_noPupil 2 = .ok (.aload_n 0, 1) := by decide +kernel
theorem dX6_noPupil_3 : decode cX6_noPupil 3 = .ok (.getfield 18, 3) := by decide +kernel
theorem dX6_noPupil_6 : decode cX6_noPupil 6 = .ok (.getfield 133, 3) := by decide +kernel
theorem dX6_noPupil_9 : decode cX6_noPupil 9 = .ok (.iconst 1, 1) := by decide +kernel
theorem dX6_noPupil_10 : decode cX6_noPupil 10 = .ok (.isub, 1) := by decide +kernel
theorem dX6_noPupil_11 : decode cX6_noPupil 11 = .ok (.invokestatic 59, 3) := by decide +kernel
theorem dX6_noPupil_14 : decode cX6_noPupil 14 = .ok (.ireturn, 1) := by decide +kernel
theorem dX6_change_0 : decode cX6_change 0 = .ok (.aload_n 0, 1) := by decide +kernel
theorem dX6_change_1 : decode cX6_change 1 = .ok (.iload_n 1, 1) := by decide +kernel
theorem dX6_change_2 : decode cX6_change 2 = .ok (.invokevirtual 160, 3) := by decide +kernel
theorem dX6_change_5 : decode cX6_change 5 = .ok (.ifCond .ne 16, 3) := by decide +kernel
theorem dX6_change_8 : decode cX6_change 8 = .ok (.aload_n 0, 1) := by decide +kernel
theorem dX6_change_9 : decode cX6_change 9 = .ok (.iload_n 2, 1) := by decide +kernel
theorem dX6_change_10 : decode cX6_change 10 = .ok (.invokevirtual 160, 3) := by decide +kernel
theorem dX6_change_13 : decode cX6_change 13 = .ok (.ifCond .ne 8, 3) := by decide +kernel
theorem dX6_change_16 : decode cX6_change 16 = .ok (.iload_n 1, 1) := by decide +kernel
theorem dX6_change_17 : decode cX6_change 17 = .ok (.iload_n 2, 1) := by decide +kernel
theorem dX6_change_18 : decode cX6_change 18 = .ok (.if_icmp .ne 6, 3) := by decide +kernel
theorem dX6_change_21 : decode cX6_change 21 = .ok (.ldc 63, 2) := by decide +kernel
theorem dX6_change_23 : decode cX6_change 23 = .ok (.ireturn, 1) := by decide +kernel
theorem dX6_change_24 : decode cX6_change 24 = .ok (.aload_n 0, 1) := by decide +kernel
theorem dX6_change_25 : decode cX6_change 25 = .ok (.getfield 29, 3) := by decide +kernel
theorem dX6_change_28 : decode cX6_change 28 = .ok (.aload_n 0, 1) := by decide +kernel
theorem dX6_change_29 : decode cX6_change 29 = .ok (.getfield 18, 3) := by decide +kernel
theorem dX6_change_32 : decode cX6_change 32 = .ok (.invokevirtual 150, 3) := by decide +kernel
theorem dX6_change_35 : decode cX6_change 35 = .ok (.aload_n 0, 1) := by decide +kernel
theorem dX6_change_36 : decode cX6_change 36 = .ok (.getfield 18, 3) := by decide +kernel
theorem dX6_change_39 : decode cX6_change 39 = .ok (.aload_n 0, 1) := by decide +kernel
theorem dX6_change_40 : decode cX6_change 40 = .ok (.getfield 18, 3) := by decide +kernel
theorem dX6_change_43 : decode cX6_change 43 = .ok (.iload_n 1, 1) := by decide +kernel
theorem dX6_change_44 : decode cX6_change 44 = .ok (.invokevirtual 163, 3) := by decide +kernel
theorem dX6_change_47 : decode cX6_change 47 = .ok (.aload_n 0, 1) := by decide +kernel
theorem dX6_change_48 : decode cX6_change 48 = .ok (.getfield 18, 3) := by decide +kernel
theorem dX6_change_51 : decode cX6_change 51 = .ok (.iload_n 2, 1) := by decide +kernel
theorem dX6_change_52 : decode cX6_change 52 = .ok (.invokevirtual 163, 3) := by decide +kernel
theorem dX6_change_55 : decode cX6_change 55 = .ok (.invokevirtual 166, 3) := by decide +kernel
theorem dX6_change_58 : decode cX6_change 58 = .ok (.aload_n 0, 1) := by decide +kernel
theorem dX6_change_59 : decode cX6_change 59 = .ok (.getfield 18, 3) := by decide +kernel
theorem dX6_change_62 : decode cX6_change 62 = .ok (.iload_n 1, 1) := by decide +kernel
theorem dX6_change_63 : decode cX6_change 63 = .ok (.invokevirtual 163, 3) := by decide +kernel
theorem dX6_change_66 : decode cX6_change 66 = .ok (.ireturn, 1) := by decide +kernel
theorem dX6_noLesson_0 : decode cX6_noLesson 0 = .ok (.iload_n 1, 1) := by decide +kernel
theorem dX6_noLesson_1 : decode cX6_noLesson 1 = .ok (.iconst 0, 1) := by decide +kernel
theorem dX6_noLesson_2 : decode cX6_noLesson 2 = .ok (.aload_n 0, 1) := by decide +kernel
theorem dX6_noLesson_3 : decode cX6_noLesson 3 = .ok (.getfield 18, 3) := by decide +kernel
theorem dX6_noLesson_6 : decode cX6_noLesson 6 = .ok (.getfield 266, 3) := by decide +kernel
theorem dX6_noLesson_9 : decode cX6_noLesson 9 = .ok (.iconst 1, 1) := by decide +kernel
theorem dX6_noLesson_10 : decode cX6_noLesson 10 = .ok (.isub, 1) := by decide +kernel
theorem dX6_noLesson_11 : decode cX6_noLesson 11 = .ok (.invokestatic 59, 3) := by decide +kernel
theorem dX6_noLesson_14 : decode cX6_noLesson 14 = .ok (.ireturn, 1) := by decide +kernel
theorem dX6_noSubject_0 : decode cX6_noSubject 0 = .ok (.iload_n 1, 1) := by decide +kernel
theorem dX6_noSubject_1 : decode cX6_noSubject 1 = .ok (.iconst 0, 1) := by decide +kernel
theorem dX6_noSubject_2 : decode cX6_noSubject 2 = .ok (.aload_n 0, 1) := by decide +kernel
theorem dX6_noSubject_3 : decode cX6_noSubject 3 = .ok (.getfield 18, 3) := by decide +kernel
theorem dX6_noSubject_6 : decode cX6_noSubject 6 = .ok (.getfield 202, 3) := by decide +kernel
theorem dX6_noSubject_9 : decode cX6_noSubject 9 = .ok (.iconst 1, 1) := by decide +kernel
theorem dX6_noSubject_10 : decode cX6_noSubject 10 = .ok (.isub, 1) := by decide +kernel
theorem dX6_noSubject_11 : decode cX6_noSubject 11 = .ok (.invokestatic 59, 3) := by decide +kernel
theorem dX6_noSubject_14 : decode cX6_noSubject 14 = .ok (.ireturn, 1) := by decide +kernel
theorem dX6_teach_0 : decode cX6_teach 0 = .ok (.aload_n 0, 1) := by decide +kernel
theorem dX6_teach_1 : decode cX6_teach 1 = .ok (.iload_n 1, 1) := by decide +kernel
theorem dX6_teach_2 : decode cX6_teach 2 = .ok (.invokevirtual 169, 3) := by decide +kernel
theorem dX6_teach_5 : decode cX6_teach 5 = .ok (.ifCond .ne 11, 3) := by decide +kernel
theorem dX6_teach_8 : decode cX6_teach 8 = .ok (.aload_n 0, 1) := by decide +kernel
theorem dX6_teach_9 : decode cX6_teach 9 = .ok (.iload_n 2, 1) := by decide +kernel
theorem dX6_teach_10 : decode cX6_teach 10 = .ok (.invokevirtual 172, 3) := by decide +kernel
theorem dX6_teach_13 : decode cX6_teach 13 = .ok (.ifCond .eq 6, 3) := by decide +kernel
theorem dX6_teach_16 : decode cX6_teach 16 = .ok (.ldc 63, 2) := by decide +kernel
theorem dX6_teach_18 : decode cX6_teach 18 = .ok (.ireturn, 1) := by decide +kernel
theorem dX6_teach_19 : decode cX6_teach 19 = .ok (.aload_n 0, 1) := by decide +kernel
theorem dX6_teach_20 : decode cX6_teach 20 = .ok (.getfield 29, 3) := by decide +kernel
theorem dX6_teach_23 : decode cX6_teach 23 = .ok (.aload_n 0, 1) := by decide +kernel
theorem dX6_teach_24 : decode cX6_teach 24 = .ok (.getfield 18, 3) := by decide +kernel
theorem dX6_teach_27 : decode cX6_teach 27 = .ok (.invokevirtual 150, 3) := by decide +kernel
theorem dX6_teach_30 : decode cX6_teach 30 = .ok (.aload_n 0, 1) := by decide +kernel
theorem dX6_teach_31 : decode cX6_teach 31 = .ok (.getfield 18, 3) := by decide +kernel
theorem dX6_teach_34 : decode cX6_teach 34 = .ok (.getfield 175, 3) := by decide +kernel
theorem dX6_teach_37 : decode cX6_teach 37 = .ok (.iload_n 1, 1) := by decide +kernel
theorem dX6_teach_38 : decode cX6_teach 38 = .ok (.iaload, 1) := by decide +kernel
theorem dX6_teach_39 : decode cX6_teach 39 = .ok (.istore_n 3, 1) := by decide +kernel
theorem dX6_teach_40 : decode cX6_teach 40 = .ok (.aload_n 0, 1) := by decide +kernel
theorem dX6_teach_41 : decode cX6_teach 41 = .ok (.getfield 18, 3) := by decide +kernel
theorem dX6_teach_44 : decode cX6_teach 44 = .ok (.getfield 175, 3) := by decide +kernel
theorem dX6_teach_47 : decode cX6_teach 47 = .ok (.iload_n 1, 1) := by decide +kernel
theorem dX6_teach_48 : decode cX6_teach 48 = .ok (.iload_n 2, 1) := by decide +kernel
theorem dX6_teach_49 : decode cX6_teach 49 = .ok (.iastore, 1) := by decide +kernel
theorem dX6_teach_50 : decode cX6_teach 50 = .ok (.iload_n 3, 1) := by decide +kernel
theorem dX6_teach_51 : decode cX6_teach 51 = .ok (.ireturn, 1) := by decide +kernel
theorem dX6_forget_0 : decode cX6_forget 0 = .ok (.aload_n 0, 1) := by decide +kernel
theorem dX6_forget_1 : decode cX6_forget 1 = .ok (.iload_n 1, 1) := by decide +kernel
theorem dX6_forget_2 : decode cX6_forget 2 = .ok (.invokevirtual 160, 3) := by decide +kernel
theorem dX6_forget_5 : decode cX6_forget 5 = .ok (.ifCond .ne 11, 3) := by decide +kernel
theorem dX6_forget_8 : decode cX6_forget 8 = .ok (.aload_n 0, 1) := by decide +kernel
theorem dX6_forget_9 : decode cX6_forget 9 = .ok (.iload_n 2, 1) := by decide +kernel
theorem dX6_forget_10 : decode cX6_forget 10 = .ok (.invokevirtual 172, 3) := by decide +kernel
theorem dX6_forget_13 : decode cX6_forget 13 = .ok (.ifCond .eq 6, 3) := by decide +kernel
theorem dX6_forget_16 : decode cX6_forget 16 = .ok (.ldc 63, 2) := by decide +kernel
theorem dX6_forget_18 : decode cX6_forget 18 = .ok (.ireturn, 1) := by decide +kernel
theorem dX6_forget_19 : decode cX6_forget 19 = .ok (.aload_n 0, 1) := by decide +kernel
theorem dX6_forget_20 : decode cX6_forget 20 = .ok (.getfield 18, 3) := by decide +kernel
theorem dX6_forget_23 : decode cX6_forget 23 = .ok (.iload_n 1, 1) := by decide +kernel
theorem dX6_forget_24 : decode cX6_forget 24 = .ok (.iload_n 2, 1) := by decide +kernel
theorem dX6_forget_25 : decode cX6_forget 25 = .ok (.invokevirtual 178, 3) := by decide +kernel
theorem dX6_forget_28 : decode cX6_forget 28 = .ok (.ifCond .ne 6, 3) := by decide +kernel
theorem dX6_forget_31 : decode cX6_forget 31 = .ok (.ldc 143, 2) := by decide +kernel
theorem dX6_forget_33 : decode cX6_forget 33 = .ok (.ireturn, 1) := by decide +kernel
theorem dX6_forget_34 : decode cX6_forget 34 = .ok (.aload_n 0, 1) := by decide +kernel
theorem dX6_forget_35 : decode cX6_forget 35 = .ok (.getfield 29, 3) := by decide +kernel
theorem dX6_forget_38 : decode cX6_forget 38 = .ok (.aload_n 0, 1) := by decide +kernel
theorem dX6_forget_39 : decode cX6_forget 39 = .ok (.getfield 18, 3) := by decide +kernel
theorem dX6_forget_42 : decode cX6_forget 42 = .ok (.invokevirtual 150, 3) := by decide +kernel
theorem dX6_forget_45 : decode cX6_forget 45 = .ok (.aload_n 0, 1) := by decide +kernel
theorem dX6_forget_46 : decode cX6_forget 46 = .ok (.getfield 18, 3) := by decide +kernel
theorem dX6_forget_49 : decode cX6_forget 49 = .ok (.getfield 181, 3) := by decide +kernel
theorem dX6_forget_52 : decode cX6_forget 52 = .ok (.iload_n 1, 1) := by decide +kernel
theorem dX6_forget_53 : decode cX6_forget 53 = .ok (.dup2, 1) := by decide +kernel
theorem dX6_forget_54 : decode cX6_forget 54 = .ok (.iaload, 1) := by decide +kernel
theorem dX6_forget_55 : decode cX6_forget 55 = .ok (.iconst 1, 1) := by decide +kernel
theorem dX6_forget_56 : decode cX6_forget 56 = .ok (.iload_n 2, 1) := by decide +kernel
theorem dX6_forget_57 : decode cX6_forget 57 = .ok (.ishl, 1) := by decide +kernel
theorem dX6_forget_58 : decode cX6_forget 58 = .ok (.iconst (-1), 1) := by decide +kernel
theorem dX6_forget_59 : decode cX6_forget 59 = .ok (.ixor, 1) := by decide +kernel
theorem dX6_forget_60 : decode cX6_forget 60 = .ok (.iand, 1) := by decide +kernel
theorem dX6_forget_61 : decode cX6_forget 61 = .ok (.iastore, 1) := by decide +kernel
theorem dX6_forget_62 : decode cX6_forget 62 = .ok (.aload_n 0, 1) := by decide +kernel
theorem dX6_forget_63 : decode cX6_forget 63 = .ok (.getfield 18, 3) := by decide +kernel
theorem dX6_forget_66 : decode cX6_forget 66 = .ok (.getfield 181, 3) := by decide +kernel
theorem dX6_forget_69 : decode cX6_forget 69 = .ok (.iload_n 1, 1) := by decide +kernel
theorem dX6_forget_70 : decode cX6_forget 70 = .ok (.iaload, 1) := by decide +kernel
theorem dX6_forget_71 : decode cX6_forget 71 = .ok (.ireturn, 1) := by decide +kernel
theorem dX6_tell_0 : decode cX6_tell 0 = .ok (.aload_n 0, 1) := by decide +kernel
theorem dX6_tell_1 : decode cX6_tell 1 = .ok (.iload_n 1, 1) := by decide +kernel
theorem dX6_tell_2 : decode cX6_tell 2 = .ok (.invokevirtual 160, 3) := by decide +kernel
theorem dX6_tell_5 : decode cX6_tell 5 = .ok (.ifCond .ne 11, 3) := by decide +kernel
theorem dX6_tell_8 : decode cX6_tell 8 = .ok (.aload_n 0, 1) := by decide +kernel
theorem dX6_tell_9 : decode cX6_tell 9 = .ok (.iload_n 2, 1) := by decide +kernel
theorem dX6_tell_10 : decode cX6_tell 10 = .ok (.invokevirtual 172, 3) := by decide +kernel
theorem dX6_tell_13 : decode cX6_tell 13 = .ok (.ifCond .eq 6, 3) := by decide +kernel
theorem dX6_tell_16 : decode cX6_tell 16 = .ok (.ldc 63, 2) := by decide +kernel
theorem dX6_tell_18 : decode cX6_tell 18 = .ok (.ireturn, 1) := by decide +kernel
theorem dX6_tell_19 : decode cX6_tell 19 = .ok (.aload_n 0, 1) := by decide +kernel
theorem dX6_tell_20 : decode cX6_tell 20 = .ok (.getfield 18, 3) := by decide +kernel
theorem dX6_tell_23 : decode cX6_tell 23 = .ok (.iload_n 1, 1) := by decide +kernel
theorem dX6_tell_24 : decode cX6_tell 24 = .ok (.iload_n 2, 1) := by decide +kernel
theorem dX6_tell_25 : decode cX6_tell 25 = .ok (.invokevirtual 178, 3) := by decide +kernel
theorem dX6_tell_28 : decode cX6_tell 28 = .ok (.ifCond .eq 6, 3) := by decide +kernel
theorem dX6_tell_31 : decode cX6_tell 31 = .ok (.ldc 143, 2) := by decide +kernel
theorem dX6_tell_33 : decode cX6_tell 33 = .ok (.ireturn, 1) := by decide +kernel
theorem dX6_tell_34 : decode cX6_tell 34 = .ok (.aload_n 0, 1) := by decide +kernel
theorem dX6_tell_35 : decode cX6_tell 35 = .ok (.getfield 29, 3) := by decide +kernel
theorem dX6_tell_38 : decode cX6_tell 38 = .ok (.aload_n 0, 1) := by decide +kernel
theorem dX6_tell_39 : decode cX6_tell 39 = .ok (.getfield 18, 3) := by decide +kernel
theorem dX6_tell_42 : decode cX6_tell 42 = .ok (.invokevirtual 150, 3) := by decide +kernel
theorem dX6_tell_45 : decode cX6_tell 45 = .ok (.aload_n 0, 1) := by decide +kernel
theorem dX6_tell_46 : decode cX6_tell 46 = .ok (.getfield 18, 3) := by decide +kernel
theorem dX6_tell_49 : decode cX6_tell 49 = .ok (.getfield 181, 3) := by decide +kernel
theorem dX6_tell_52 : decode cX6_tell 52 = .ok (.iload_n 1, 1) := by decide +kernel
theorem dX6_tell_53 : decode cX6_tell 53 = .ok (.dup2, 1) := by decide +kernel
theorem dX6_tell_54 : decode cX6_tell 54 = .ok (.iaload, 1) := by decide +kernel
theorem dX6_tell_55 : decode cX6_tell 55 = .ok (.iconst 1, 1) := by decide +kernel
theorem dX6_tell_56 : decode cX6_tell 56 = .ok (.iload_n 2, 1) := by decide +kernel
theorem dX6_tell_57 : decode cX6_tell 57 = .ok (.ishl, 1) := by decide +kernel
theorem dX6_tell_58 : decode cX6_tell 58 = .ok (.ior, 1) := by decide +kernel
theorem dX6_tell_59 : decode cX6_tell 59 = .ok (.iastore, 1) := by decide +kernel
theorem dX6_tell_60 : decode cX6_tell 60 = .ok (.aload_n 0, 1) := by decide +kernel
theorem dX6_tell_61 : decode cX6_tell 61 = .ok (.getfield 18, 3) := by decide +kernel
theorem dX6_tell_64 : decode cX6_tell 64 = .ok (.getfield 181, 3) := by decide +kernel
theorem dX6_tell_67 : decode cX6_tell 67 = .ok (.iload_n 1, 1) := by decide +kernel
theorem dX6_tell_68 : decode cX6_tell 68 = .ok (.iaload, 1) := by decide +kernel
theorem dX6_tell_69 : decode cX6_tell 69 = .ok (.ireturn, 1) := by decide +kernel
theorem dX6_pupil_0 : decode cX6_pupil 0 = .ok (.aload_n 0, 1) := by decide +kernel
theorem dX6_pupil_1 : decode cX6_pupil 1 = .ok (.iload_n 1, 1) := by decide +kernel
theorem dX6_pupil_2 : decode cX6_pupil 2 = .ok (.invokevirtual 160, 3) := by decide +kernel
theorem dX6_pupil_5 : decode cX6_pupil 5 = .ok (.ifCond .eq 6, 3) := by decide +kernel
theorem dX6_pupil_8 : decode cX6_pupil 8 = .ok (.ldc 63, 2) := by decide +kernel
theorem dX6_pupil_10 : decode cX6_pupil 10 = .ok (.ireturn, 1) := by decide +kernel
theorem dX6_pupil_11 : decode cX6_pupil 11 = .ok (.iload_n 2, 1) := by decide +kernel
theorem dX6_pupil_12 : decode cX6_pupil 12 = .ok (.tableswitch 98 0 4 #[36, 46, 55, 64, 81], 36) := by decide +kernel
theorem dX6_pupil_48 : decode cX6_pupil 48 = .ok (.aload_n 0, 1) := by decide +kernel
theorem dX6_pupil_49 : decode cX6_pupil 49 = .ok (.getfield 18, 3) := by decide +kernel
theorem dX6_pupil_52 : decode cX6_pupil 52 = .ok (.getfield 181, 3) := by decide +kernel
theorem dX6_pupil_55 : decode cX6_pupil 55 = .ok (.iload_n 1, 1) := by decide +kernel
theorem dX6_pupil_56 : decode cX6_pupil 56 = .ok (.iaload, 1) := by decide +kernel
theorem dX6_pupil_57 : decode cX6_pupil 57 = .ok (.ireturn, 1) := by decide +kernel
theorem dX6_pupil_58 : decode cX6_pupil 58 = .ok (.aload_n 0, 1) := by decide +kernel
theorem dX6_pupil_59 : decode cX6_pupil 59 = .ok (.getfield 18, 3) := by decide +kernel
theorem dX6_pupil_62 : decode cX6_pupil 62 = .ok (.iload_n 1, 1) := by decide +kernel
theorem dX6_pupil_63 : decode cX6_pupil 63 = .ok (.invokevirtual 163, 3) := by decide +kernel
theorem dX6_pupil_66 : decode cX6_pupil 66 = .ok (.ireturn, 1) := by decide +kernel
theorem dX6_pupil_67 : decode cX6_pupil 67 = .ok (.aload_n 0, 1) := by decide +kernel
theorem dX6_pupil_68 : decode cX6_pupil 68 = .ok (.getfield 18, 3) := by decide +kernel
theorem dX6_pupil_71 : decode cX6_pupil 71 = .ok (.iload_n 1, 1) := by decide +kernel
theorem dX6_pupil_72 : decode cX6_pupil 72 = .ok (.invokevirtual 184, 3) := by decide +kernel
theorem dX6_pupil_75 : decode cX6_pupil 75 = .ok (.ireturn, 1) := by decide +kernel
theorem dX6_pupil_76 : decode cX6_pupil 76 = .ok (.aload_n 0, 1) := by decide +kernel
theorem dX6_pupil_77 : decode cX6_pupil 77 = .ok (.getfield 18, 3) := by decide +kernel
theorem dX6_pupil_80 : decode cX6_pupil 80 = .ok (.iload_n 1, 1) := by decide +kernel
theorem dX6_pupil_81 : decode cX6_pupil 81 = .ok (.invokevirtual 187, 3) := by decide +kernel
theorem dX6_pupil_84 : decode cX6_pupil 84 = .ok (.ifCond .eq 7, 3) := by decide +kernel
theorem dX6_pupil_87 : decode cX6_pupil 87 = .ok (.iconst 1, 1) := by decide +kernel
theorem dX6_pupil_88 : decode cX6_pupil 88 = .ok (.goto 4, 3) := by decide +kernel
theorem dX6_pupil_91 : decode cX6_pupil 91 = .ok (.iconst 0, 1) := by decide +kernel
theorem dX6_pupil_92 : decode cX6_pupil 92 = .ok (.ireturn, 1) := by decide +kernel
theorem dX6_pupil_93 : decode cX6_pupil 93 = .ok (.aload_n 0, 1) := by decide +kernel
theorem dX6_pupil_94 : decode cX6_pupil 94 = .ok (.getfield 18, 3) := by decide +kernel
theorem dX6_pupil_97 : decode cX6_pupil 97 = .ok (.aload_n 0, 1) := by decide +kernel
theorem dX6_pupil_98 : decode cX6_pupil 98 = .ok (.getfield 18, 3) := by decide +kernel
theorem dX6_pupil_101 : decode cX6_pupil 101 = .ok (.getfield 181, 3) := by decide +kernel
theorem dX6_pupil_104 : decode cX6_pupil 104 = .ok (.iload_n 1, 1) := by decide +kernel
theorem dX6_pupil_105 : decode cX6_pupil 105 = .ok (.iaload, 1) := by decide +kernel
theorem dX6_pupil_106 : decode cX6_pupil 106 = .ok (.invokevirtual 190, 3) := by decide +kernel
theorem dX6_pupil_109 : decode cX6_pupil 109 = .ok (.ireturn, 1) := by decide +kernel
theorem dX6_pupil_110 : decode cX6_pupil 110 = .ok (.ldc 63, 2) := by decide +kernel
theorem dX6_pupil_112 : decode cX6_pupil 112 = .ok (.ireturn, 1) := by decide +kernel
theorem dX6_heard_0 : decode cX6_heard 0 = .ok (.aload_n 0, 1) := by decide +kernel
theorem dX6_heard_1 : decode cX6_heard 1 = .ok (.iload_n 1, 1) := by decide +kernel
theorem dX6_heard_2 : decode cX6_heard 2 = .ok (.invokevirtual 160, 3) := by decide +kernel
theorem dX6_heard_5 : decode cX6_heard 5 = .ok (.ifCond .ne 11, 3) := by decide +kernel
theorem dX6_heard_8 : decode cX6_heard 8 = .ok (.aload_n 0, 1) := by decide +kernel
theorem dX6_heard_9 : decode cX6_heard 9 = .ok (.iload_n 2, 1) := by decide +kernel
theorem dX6_heard_10 : decode cX6_heard 10 = .ok (.invokevirtual 172, 3) := by decide +kernel
theorem dX6_heard_13 : decode cX6_heard 13 = .ok (.ifCond .eq 6, 3) := by decide +kernel
theorem dX6_heard_16 : decode cX6_heard 16 = .ok (.ldc 63, 2) := by decide +kernel
theorem dX6_heard_18 : decode cX6_heard 18 = .ok (.ireturn, 1) := by decide +kernel
theorem dX6_heard_19 : decode cX6_heard 19 = .ok (.aload_n 0, 1) := by decide +kernel
theorem dX6_heard_20 : decode cX6_heard 20 = .ok (.getfield 18, 3) := by decide +kernel
theorem dX6_heard_23 : decode cX6_heard 23 = .ok (.iload_n 1, 1) := by decide +kernel
theorem dX6_heard_24 : decode cX6_heard 24 = .ok (.iload_n 2, 1) := by decide +kernel
theorem dX6_heard_25 : decode cX6_heard 25 = .ok (.invokevirtual 193, 3) := by decide +kernel
theorem dX6_heard_28 : decode cX6_heard 28 = .ok (.ireturn, 1) := by decide +kernel
theorem dX6_subject_0 : decode cX6_subject 0 = .ok (.aload_n 0, 1) := by decide +kernel
theorem dX6_subject_1 : decode cX6_subject 1 = .ok (.iload_n 1, 1) := by decide +kernel
theorem dX6_subject_2 : decode cX6_subject 2 = .ok (.invokevirtual 172, 3) := by decide +kernel
theorem dX6_subject_5 : decode cX6_subject 5 = .ok (.ifCond .eq 8, 3) := by decide +kernel
theorem dX6_subject_8 : decode cX6_subject 8 = .ok (.ldc 63, 2) := by decide +kernel
theorem dX6_subject_10 : decode cX6_subject 10 = .ok (.goto 12, 3) := by decide +kernel
theorem dX6_subject_13 : decode cX6_subject 13 = .ok (.aload_n 0, 1) := by decide +kernel
theorem dX6_subject_14 : decode cX6_subject 14 = .ok (.getfield 18, 3) := by decide +kernel
theorem dX6_subject_17 : decode cX6_subject 17 = .ok (.getfield 196, 3) := by decide +kernel
theorem dX6_subject_20 : decode cX6_subject 20 = .ok (.iload_n 1, 1) := by decide +kernel
theorem dX6_subject_21 : decode cX6_subject 21 = .ok (.iaload, 1) := by decide +kernel
theorem dX6_subject_22 : decode cX6_subject 22 = .ok (.ireturn, 1) := by decide +kernel
theorem dX6_lesson_0 : decode cX6_lesson 0 = .ok (.aload_n 0, 1) := by decide +kernel
theorem dX6_lesson_1 : decode cX6_lesson 1 = .ok (.invokevirtual 144, 3) := by decide +kernel
theorem dX6_lesson_4 : decode cX6_lesson 4 = .ok (.ifCond .eq 6, 3) := by decide +kernel
theorem dX6_lesson_7 : decode cX6_lesson 7 = .ok (.ldc 143, 2) := by decide +kernel
theorem dX6_lesson_9 : decode cX6_lesson 9 = .ok (.ireturn, 1) := by decide +kernel
theorem dX6_lesson_10 : decode cX6_lesson 10 = .ok (.iload_n 1, 1) := by decide +kernel
theorem dX6_lesson_11 : decode cX6_lesson 11 = .ok (.iconst 0, 1) := by decide +kernel
theorem dX6_lesson_12 : decode cX6_lesson 12 = .ok (.bipush 60, 2) := by decide +kernel
theorem dX6_lesson_14 : decode cX6_lesson 14 = .ok (.invokestatic 59, 3) := by decide +kernel
theorem dX6_lesson_17 : decode cX6_lesson 17 = .ok (.ifCond .eq 8, 3) := by decide +kernel
theorem dX6_lesson_20 : decode cX6_lesson 20 = .ok (.ldc 63, 2) := by decide +kernel
theorem dX6_lesson_22 : decode cX6_lesson 22 = .ok (.goto 19, 3) := by decide +kernel
theorem dX6_lesson_25 : decode cX6_lesson 25 = .ok (.aload_n 0, 1) := by decide +kernel
theorem dX6_lesson_26 : decode cX6_lesson 26 = .ok (.getfield 18, 3) := by decide +kernel
theorem dX6_lesson_29 : decode cX6_lesson 29 = .ok (.aload_n 0, 1) := by decide +kernel
theorem dX6_lesson_30 : decode cX6_lesson 30 = .ok (.getfield 18, 3) := by decide +kernel
theorem dX6_lesson_33 : decode cX6_lesson 33 = .ok (.getfield 147, 3) := by decide +kernel
theorem dX6_lesson_36 : decode cX6_lesson 36 = .ok (.iload_n 1, 1) := by decide +kernel
theorem dX6_lesson_37 : decode cX6_lesson 37 = .ok (.iadd, 1) := by decide +kernel
theorem dX6_lesson_38 : decode cX6_lesson 38 = .ok (.invokevirtual 199, 3) := by decide +kernel
theorem dX6_lesson_41 : decode cX6_lesson 41 = .ok (.ireturn, 1) := by decide +kernel
theorem dX6_ahead_0 : decode cX6_ahead 0 = .ok (.aload_n 0, 1) := by decide +kernel
theorem dX6_ahead_1 : decode cX6_ahead 1 = .ok (.iload_n 1, 1) := by decide +kernel
theorem dX6_ahead_2 : decode cX6_ahead 2 = .ok (.invokevirtual 160, 3) := by decide +kernel
theorem dX6_ahead_5 : decode cX6_ahead 5 = .ok (.ifCond .ne 30, 3) := by decide +kernel
theorem dX6_ahead_8 : decode cX6_ahead 8 = .ok (.iload_n 2, 1) := by decide +kernel
theorem dX6_ahead_9 : decode cX6_ahead 9 = .ok (.iconst 0, 1) := by decide +kernel
theorem dX6_ahead_10 : decode cX6_ahead 10 = .ok (.bipush 60, 2) := by decide +kernel
theorem dX6_ahead_12 : decode cX6_ahead 12 = .ok (.invokestatic 59, 3) := by decide +kernel
theorem dX6_ahead_15 : decode cX6_ahead 15 = .ok (.ifCond .ne 20, 3) := by decide +kernel
theorem dX6_ahead_18 : decode cX6_ahead 18 = .ok (.iload_n 3, 1) := by decide +kernel
theorem dX6_ahead_19 : decode cX6_ahead 19 = .ok (.iconst (-1), 1) := by decide +kernel
theorem dX6_ahead_20 : decode cX6_ahead 20 = .ok (.aload_n 0, 1) := by decide +kernel
theorem dX6_ahead_21 : decode cX6_ahead 21 = .ok (.getfield 18, 3) := by decide +kernel
theorem dX6_ahead_24 : decode cX6_ahead 24 = .ok (.getfield 202, 3) := by decide +kernel
theorem dX6_ahead_27 : decode cX6_ahead 27 = .ok (.iconst 1, 1) := by decide +kernel
theorem dX6_ahead_28 : decode cX6_ahead 28 = .ok (.isub, 1) := by decide +kernel
theorem dX6_ahead_29 : decode cX6_ahead 29 = .ok (.invokestatic 59, 3) := by decide +kernel
theorem dX6_ahead_32 : decode cX6_ahead 32 = .ok (.ifCond .eq 6, 3) := by decide +kernel
theorem dX6_ahead_35 : decode cX6_ahead 35 = .ok (.ldc 63, 2) := by decide +kernel
theorem dX6_ahead_37 : decode cX6_ahead 37 = .ok (.ireturn, 1) := by decide +kernel
theorem dX6_ahead_38 : decode cX6_ahead 38 = .ok (.aload_n 0, 1) := by decide +kernel
theorem dX6_ahead_39 : decode cX6_ahead 39 = .ok (.getfield 43, 3) := by decide +kernel
theorem dX6_ahead_42 : decode cX6_ahead 42 = .ok (.aload_n 0, 1) := by decide +kernel
theorem dX6_ahead_43 : decode cX6_ahead 43 = .ok (.getfield 18, 3) := by decide +kernel
theorem dX6_ahead_46 : decode cX6_ahead 46 = .ok (.iload_n 2, 1) := by decide +kernel
theorem dX6_ahead_47 : decode cX6_ahead 47 = .ok (.invokevirtual 205, 3) := by decide +kernel
theorem dX6_ahead_50 : decode cX6_ahead 50 = .ok (.astore 4, 2) := by decide +kernel
theorem dX6_ahead_52 : decode cX6_ahead 52 = .ok (.iload_n 3, 1) := by decide +kernel
theorem dX6_ahead_53 : decode cX6_ahead 53 = .ok (.ifCond .ge 13, 3) := by decide +kernel
theorem dX6_ahead_56 : decode cX6_ahead 56 = .ok (.aload 4, 2) := by decide +kernel
theorem dX6_ahead_58 : decode cX6_ahead 58 = .ok (.getfield 181, 3) := by decide +kernel
theorem dX6_ahead_61 : decode cX6_ahead 61 = .ok (.iload_n 1, 1) := by decide +kernel
theorem dX6_ahead_62 : decode cX6_ahead 62 = .ok (.iaload, 1) := by decide +kernel
theorem dX6_ahead_63 : decode cX6_ahead 63 = .ok (.goto 10, 3) := by decide +kernel
theorem dX6_ahead_66 : decode cX6_ahead 66 = .ok (.aload 4, 2) := by decide +kernel
theorem dX6_ahead_68 : decode cX6_ahead 68 = .ok (.iload_n 1, 1) := by decide +kernel
theorem dX6_ahead_69 : decode cX6_ahead 69 = .ok (.iload_n 3, 1) := by decide +kernel
theorem dX6_ahead_70 : decode cX6_ahead 70 = .ok (.invokevirtual 193, 3) := by decide +kernel
theorem dX6_ahead_73 : decode cX6_ahead 73 = .ok (.ireturn, 1) := by decide +kernel
theorem dX6_when_0 : decode cX6_when 0 = .ok (.aload_n 0, 1) := by decide +kernel
theorem dX6_when_1 : decode cX6_when 1 = .ok (.iload_n 1, 1) := by decide +kernel
theorem dX6_when_2 : decode cX6_when 2 = .ok (.invokevirtual 160, 3) := by decide +kernel
theorem dX6_when_5 : decode cX6_when 5 = .ok (.ifCond .ne 11, 3) := by decide +kernel
theorem dX6_when_8 : decode cX6_when 8 = .ok (.aload_n 0, 1) := by decide +kernel
theorem dX6_when_9 : decode cX6_when 9 = .ok (.iload_n 2, 1) := by decide +kernel
theorem dX6_when_10 : decode cX6_when 10 = .ok (.invokevirtual 172, 3) := by decide +kernel
theorem dX6_when_13 : decode cX6_when 13 = .ok (.ifCond .eq 6, 3) := by decide +kernel
theorem dX6_when_16 : decode cX6_when 16 = .ok (.ldc 63, 2) := by decide +kernel
theorem dX6_when_18 : decode cX6_when 18 = .ok (.ireturn, 1) := by decide +kernel
theorem dX6_when_19 : decode cX6_when 19 = .ok (.aload_n 0, 1) := by decide +kernel
theorem dX6_when_20 : decode cX6_when 20 = .ok (.getfield 43, 3) := by decide +kernel
theorem dX6_when_23 : decode cX6_when 23 = .ok (.aload_n 0, 1) := by decide +kernel
theorem dX6_when_24 : decode cX6_when 24 = .ok (.getfield 18, 3) := by decide +kernel
theorem dX6_when_27 : decode cX6_when 27 = .ok (.iload_n 1, 1) := by decide +kernel
theorem dX6_when_28 : decode cX6_when 28 = .ok (.iload_n 2, 1) := by decide +kernel
theorem dX6_when_29 : decode cX6_when 29 = .ok (.invokevirtual 209, 3) := by decide +kernel
theorem dX6_when_32 : decode cX6_when 32 = .ok (.ireturn, 1) := by decide +kernel
theorem dX6_all_0 : decode cX6_all 0 = .ok (.aload_n 0, 1) := by decide +kernel
theorem dX6_all_1 : decode cX6_all 1 = .ok (.invokevirtual 144, 3) := by decide +kernel
theorem dX6_all_4 : decode cX6_all 4 = .ok (.ifCond .eq 6, 3) := by decide +kernel
theorem dX6_all_7 : decode cX6_all 7 = .ok (.ldc 143, 2) := by decide +kernel
theorem dX6_all_9 : decode cX6_all 9 = .ok (.ireturn, 1) := by decide +kernel
theorem dX6_all_10 : decode cX6_all 10 = .ok (.iload_n 1, 1) := by decide +kernel
theorem dX6_all_11 : decode cX6_all 11 = .ok (.iconst 0, 1) := by decide +kernel
theorem dX6_all_12 : decode cX6_all 12 = .ok (.iconst 1, 1) := by decide +kernel
theorem dX6_all_13 : decode cX6_all 13 = .ok (.invokestatic 59, 3) := by decide +kernel
theorem dX6_all_16 : decode cX6_all 16 = .ok (.ifCond .eq 6, 3) := by decide +kernel
theorem dX6_all_19 : decode cX6_all 19 = .ok (.ldc 63, 2) := by decide +kernel
theorem dX6_all_21 : decode cX6_all 21 = .ok (.ireturn, 1) := by decide +kernel
theorem dX6_all_22 : decode cX6_all 22 = .ok (.iload_n 1, 1) := by decide +kernel
theorem dX6_all_23 : decode cX6_all 23 = .ok (.ifCond .ne 13, 3) := by decide +kernel
theorem dX6_all_26 : decode cX6_all 26 = .ok (.aload_n 0, 1) := by decide +kernel
theorem dX6_all_27 : decode cX6_all 27 = .ok (.getfield 18, 3) := by decide +kernel
theorem dX6_all_30 : decode cX6_all 30 = .ok (.invokevirtual 213, 3) := by decide +kernel
theorem dX6_all_33 : decode cX6_all 33 = .ok (.goto 10, 3) := by decide +kernel
theorem dX6_all_36 : decode cX6_all 36 = .ok (.aload_n 0, 1) := by decide +kernel
theorem dX6_all_37 : decode cX6_all 37 = .ok (.getfield 18, 3) := by decide +kernel
theorem dX6_all_40 : decode cX6_all 40 = .ok (.invokevirtual 216, 3) := by decide +kernel
theorem dX6_all_43 : decode cX6_all 43 = .ok (.ireturn, 1) := by decide +kernel
theorem dX6_follows_0 : decode cX6_follows 0 = .ok (.aload_n 0, 1) := by decide +kernel
theorem dX6_follows_1 : decode cX6_follows 1 = .ok (.iload_n 1, 1) := by decide +kernel
theorem dX6_follows_2 : decode cX6_follows 2 = .ok (.invokevirtual 160, 3) := by decide +kernel
theorem dX6_follows_5 : decode cX6_follows 5 = .ok (.ifCond .eq 8, 3) := by decide +kernel
theorem dX6_follows_8 : decode cX6_follows 8 = .ok (.ldc 63, 2) := by decide +kernel
theorem dX6_follows_10 : decode cX6_follows 10 = .ok (.goto 19, 3) := by decide +kernel
theorem dX6_follows_13 : decode cX6_follows 13 = .ok (.aload_n 0, 1) := by decide +kernel
theorem dX6_follows_14 : decode cX6_follows 14 = .ok (.getfield 18, 3) := by decide +kernel
theorem dX6_follows_17 : decode cX6_follows 17 = .ok (.aload_n 0, 1) := by decide +kernel
theorem dX6_follows_18 : decode cX6_follows 18 = .ok (.getfield 18, 3) := by decide +kernel
theorem dX6_follows_21 : decode cX6_follows 21 = .ok (.getfield 181, 3) := by decide +kernel
theorem dX6_follows_24 : decode cX6_follows 24 = .ok (.iload_n 1, 1) := by decide +kernel
theorem dX6_follows_25 : decode cX6_follows 25 = .ok (.iaload, 1) := by decide +kernel
theorem dX6_follows_26 : decode cX6_follows 26 = .ok (.invokevirtual 219, 3) := by decide +kernel
theorem dX6_follows_29 : decode cX6_follows 29 = .ok (.ireturn, 1) := by decide +kernel
theorem dX6_lacks_0 : decode cX6_lacks 0 = .ok (.aload_n 0, 1) := by decide +kernel
theorem dX6_lacks_1 : decode cX6_lacks 1 = .ok (.iload_n 1, 1) := by decide +kernel
theorem dX6_lacks_2 : decode cX6_lacks 2 = .ok (.invokevirtual 160, 3) := by decide +kernel
theorem dX6_lacks_5 : decode cX6_lacks 5 = .ok (.ifCond .ne 11, 3) := by decide +kernel
theorem dX6_lacks_8 : decode cX6_lacks 8 = .ok (.aload_n 0, 1) := by decide +kernel
theorem dX6_lacks_9 : decode cX6_lacks 9 = .ok (.iload_n 2, 1) := by decide +kernel
theorem dX6_lacks_10 : decode cX6_lacks 10 = .ok (.invokevirtual 172, 3) := by decide +kernel
theorem dX6_lacks_13 : decode cX6_lacks 13 = .ok (.ifCond .eq 6, 3) := by decide +kernel
theorem dX6_lacks_16 : decode cX6_lacks 16 = .ok (.ldc 63, 2) := by decide +kernel
theorem dX6_lacks_18 : decode cX6_lacks 18 = .ok (.ireturn, 1) := by decide +kernel
theorem dX6_lacks_19 : decode cX6_lacks 19 = .ok (.aload_n 0, 1) := by decide +kernel
theorem dX6_lacks_20 : decode cX6_lacks 20 = .ok (.getfield 18, 3) := by decide +kernel
theorem dX6_lacks_23 : decode cX6_lacks 23 = .ok (.iload_n 2, 1) := by decide +kernel
theorem dX6_lacks_24 : decode cX6_lacks 24 = .ok (.iconst 0, 1) := by decide +kernel
theorem dX6_lacks_25 : decode cX6_lacks 25 = .ok (.invokevirtual 222, 3) := by decide +kernel
theorem dX6_lacks_28 : decode cX6_lacks 28 = .ok (.aload_n 0, 1) := by decide +kernel
theorem dX6_lacks_29 : decode cX6_lacks 29 = .ok (.getfield 18, 3) := by decide +kernel
theorem dX6_lacks_32 : decode cX6_lacks 32 = .ok (.getfield 181, 3) := by decide +kernel
theorem dX6_lacks_35 : decode cX6_lacks 35 = .ok (.iload_n 1, 1) := by decide +kernel
theorem dX6_lacks_36 : decode cX6_lacks 36 = .ok (.iaload, 1) := by decide +kernel
theorem dX6_lacks_37 : decode cX6_lacks 37 = .ok (.iconst (-1), 1) := by decide +kernel
theorem dX6_lacks_38 : decode cX6_lacks 38 = .ok (.ixor, 1) := by decide +kernel
theorem dX6_lacks_39 : decode cX6_lacks 39 = .ok (.iand, 1) := by decide +kernel
theorem dX6_lacks_40 : decode cX6_lacks 40 = .ok (.ireturn, 1) := by decide +kernel
theorem dX6_bitNumber_0 : decode cX6_bitNumber 0 = .ok (.iconst 0, 1) := by decide +kernel
theorem dX6_bitNumber_1 : decode cX6_bitNumber 1 = .ok (.istore_n 2, 1) := by decide +kernel
theorem dX6_bitNumber_2 : decode cX6_bitNumber 2 = .ok (.iconst 0, 1) := by decide +kernel
theorem dX6_bitNumber_3 : decode cX6_bitNumber 3 = .ok (.istore_n 3, 1) := by decide +kernel
theorem dX6_bitNumber_4 : decode cX6_bitNumber 4 = .ok (.iload_n 3, 1) := by decide +kernel
theorem dX6_bitNumber_5 : decode cX6_bitNumber 5 = .ok (.bipush 6, 2) := by decide +kernel
theorem dX6_bitNumber_7 : decode cX6_bitNumber 7 = .ok (.if_icmp .ge 27, 3) := by decide +kernel
theorem dX6_bitNumber_10 : decode cX6_bitNumber 10 = .ok (.iload_n 0, 1) := by decide +kernel
theorem dX6_bitNumber_11 : decode cX6_bitNumber 11 = .ok (.iload_n 3, 1) := by decide +kernel
theorem dX6_bitNumber_12 : decode cX6_bitNumber 12 = .ok (.ishr, 1) := by decide +kernel
theorem dX6_bitNumber_13 : decode cX6_bitNumber 13 = .ok (.iconst 1, 1) := by decide +kernel
theorem dX6_bitNumber_14 : decode cX6_bitNumber 14 = .ok (.iand, 1) := by decide +kernel
theorem dX6_bitNumber_15 : decode cX6_bitNumber 15 = .ok (.ifCond .eq 13, 3) := by decide +kernel
theorem dX6_bitNumber_18 : decode cX6_bitNumber 18 = .ok (.iload_n 2, 1) := by decide +kernel
theorem dX6_bitNumber_19 : decode cX6_bitNumber 19 = .ok (.iload_n 1, 1) := by decide +kernel
theorem dX6_bitNumber_20 : decode cX6_bitNumber 20 = .ok (.if_icmp .ne 5, 3) := by decide +kernel
theorem dX6_bitNumber_23 : decode cX6_bitNumber 23 = .ok (.iload_n 3, 1) := by decide +kernel
theorem dX6_bitNumber_24 : decode cX6_bitNumber 24 = .ok (.ireturn, 1) := by decide +kernel
theorem dX6_bitNumber_25 : decode cX6_bitNumber 25 = .ok (.iinc 2 1, 3) := by decide +kernel
theorem dX6_bitNumber_28 : decode cX6_bitNumber 28 = .ok (.iinc 3 1, 3) := by decide +kernel
theorem dX6_bitNumber_31 : decode cX6_bitNumber 31 = .ok (.goto (-27), 3) := by decide +kernel
theorem dX6_bitNumber_34 : decode cX6_bitNumber 34 = .ok (.ldc_w 308, 3) := by decide +kernel
theorem dX6_bitNumber_37 : decode cX6_bitNumber 37 = .ok (.ireturn, 1) := by decide +kernel
theorem dX6_shortest_0 : decode cX6_shortest 0 = .ok (.aload_n 0, 1) := by decide +kernel
theorem dX6_shortest_1 : decode cX6_shortest 1 = .ok (.iload_n 1, 1) := by decide +kernel
theorem dX6_shortest_2 : decode cX6_shortest 2 = .ok (.invokevirtual 160, 3) := by decide +kernel
theorem dX6_shortest_5 : decode cX6_shortest 5 = .ok (.ifCond .ne 16, 3) := by decide +kernel
theorem dX6_shortest_8 : decode cX6_shortest 8 = .ok (.aload_n 0, 1) := by decide +kernel
theorem dX6_shortest_9 : decode cX6_shortest 9 = .ok (.iload_n 2, 1) := by decide +kernel
theorem dX6_shortest_10 : decode cX6_shortest 10 = .ok (.invokevirtual 172, 3) := by decide +kernel
theorem dX6_shortest_13 : decode cX6_shortest 13 = .ok (.ifCond .ne 8, 3) := by decide +kernel
theorem dX6_shortest_16 : decode cX6_shortest 16 = .ok (.iload_n 3, 1) := by decide +kernel
theorem dX6_shortest_17 : decode cX6_shortest 17 = .ok (.iconst (-1), 1) := by decide +kernel
theorem dX6_shortest_18 : decode cX6_shortest 18 = .ok (.if_icmp .ge 6, 3) := by decide +kernel
theorem dX6_shortest_21 : decode cX6_shortest 21 = .ok (.ldc 63, 2) := by decide +kernel
theorem dX6_shortest_23 : decode cX6_shortest 23 = .ok (.ireturn, 1) := by decide +kernel
theorem dX6_shortest_24 : decode cX6_shortest 24 = .ok (.aload_n 0, 1) := by decide +kernel
theorem dX6_shortest_25 : decode cX6_shortest 25 = .ok (.getfield 18, 3) := by decide +kernel
theorem dX6_shortest_28 : decode cX6_shortest 28 = .ok (.iload_n 2, 1) := by decide +kernel
theorem dX6_shortest_29 : decode cX6_shortest 29 = .ok (.aload_n 0, 1) := by decide +kernel
theorem dX6_shortest_30 : decode cX6_shortest 30 = .ok (.getfield 18, 3) := by decide +kernel
theorem dX6_shortest_33 : decode cX6_shortest 33 = .ok (.getfield 181, 3) := by decide +kernel
theorem dX6_shortest_36 : decode cX6_shortest 36 = .ok (.iload_n 1, 1) := by decide +kernel
theorem dX6_shortest_37 : decode cX6_shortest 37 = .ok (.iaload, 1) := by decide +kernel
theorem dX6_shortest_38 : decode cX6_shortest 38 = .ok (.invokevirtual 222, 3) := by decide +kernel
theorem dX6_shortest_41 : decode cX6_shortest 41 = .ok (.istore 4, 2) := by decide +kernel
theorem dX6_shortest_43 : decode cX6_shortest 43 = .ok (.iload_n 3, 1) := by decide +kernel
theorem dX6_shortest_44 : decode cX6_shortest 44 = .ok (.ifCond .ge 11, 3) := by decide +kernel
theorem dX6_shortest_47 : decode cX6_shortest 47 = .ok (.iload 4, 2) := by decide +kernel
theorem dX6_shortest_49 : decode cX6_shortest 49 = .ok (.invokestatic 225, 3) := by decide +kernel
theorem dX6_shortest_52 : decode cX6_shortest 52 = .ok (.goto 9, 3) := by decide +kernel
theorem dX6_shortest_55 : decode cX6_shortest 55 = .ok (.iload 4, 2) := by decide +kernel
theorem dX6_shortest_57 : decode cX6_shortest 57 = .ok (.iload_n 3, 1) := by decide +kernel
theorem dX6_shortest_58 : decode cX6_shortest 58 = .ok (.invokestatic 230, 3) := by decide +kernel
theorem dX6_shortest_61 : decode cX6_shortest 61 = .ok (.ireturn, 1) := by decide +kernel

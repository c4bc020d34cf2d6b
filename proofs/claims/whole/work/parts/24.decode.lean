theorem dX7_table_0 : decode cX7_table 0 = .ok (.aload_n 0, 1) := by decide +kernel
theorem dX7_table_1 : decode cX7_table 1 = .ok (.iconst 0, 1) := by decide +kernel
theorem dX7_table_2 : decode cX7_table 2 = .ok (.putfield 53, 3) := by decide +kernel
theorem dX7_table_5 : decode cX7_table 5 = .ok (.aload_n 0, 1) := by decide +kernel
theorem dX7_table_6 : decode cX7_table 6 = .ok (.invokevirtual 198, 3) := by decide +kernel
theorem dX7_table_9 : decode cX7_table 9 = .ok (.ifCond .ne 6, 3) := by decide +kernel
theorem dX7_table_12 : decode cX7_table 12 = .ok (.ldc 201, 2) := by decide +kernel
theorem dX7_table_14 : decode cX7_table 14 = .ok (.ireturn, 1) := by decide +kernel
theorem dX7_table_15 : decode cX7_table 15 = .ok (.iload_n 1, 1) := by decide +kernel
theorem dX7_table_16 : decode cX7_table 16 = .ok (.i2l, 1) := by decide +kernel
theorem dX7_table_17 : decode cX7_table 17 = .ok (.lconst 1, 1) := by decide +kernel
theorem dX7_table_18 : decode cX7_table 18 = .ok (.ldc2_w 252, 3) := by decide +kernel
theorem dX7_table_21 : decode cX7_table 21 = .ok (.invokestatic 63, 3) := by decide +kernel
theorem dX7_table_24 : decode cX7_table 24 = .ok (.ifCond .eq 13, 3) := by decide +kernel
theorem dX7_table_27 : decode cX7_table 27 = .ok (.iload_n 2, 1) := by decide +kernel
theorem dX7_table_28 : decode cX7_table 28 = .ok (.i2l, 1) := by decide +kernel
theorem dX7_table_29 : decode cX7_table 29 = .ok (.lconst 0, 1) := by decide +kernel
theorem dX7_table_30 : decode cX7_table 30 = .ok (.lconst 1, 1) := by decide +kernel
theorem dX7_table_31 : decode cX7_table 31 = .ok (.invokestatic 63, 3) := by decide +kernel
theorem dX7_table_34 : decode cX7_table 34 = .ok (.ifCond .ne 6, 3) := by decide +kernel
theorem dX7_table_37 : decode cX7_table 37 = .ok (.ldc 73, 2) := by decide +kernel
theorem dX7_table_39 : decode cX7_table 39 = .ok (.ireturn, 1) := by decide +kernel
theorem dX7_table_40 : decode cX7_table 40 = .ok (.aload_n 0, 1) := by decide +kernel
theorem dX7_table_41 : decode cX7_table 41 = .ok (.invokevirtual 233, 3) := by decide +kernel
theorem dX7_table_44 : decode cX7_table 44 = .ok (.aload_n 0, 1) := by decide +kernel
theorem dX7_table_45 : decode cX7_table 45 = .ok (.aload_n 0, 1) := by decide +kernel
theorem dX7_table_46 : decode cX7_table 46 = .ok (.getfield 25, 3) := by decide +kernel
theorem dX7_table_49 : decode cX7_table 49 = .ok (.iload_n 1, 1) := by decide +kernel
theorem dX7_table_50 : decode cX7_table 50 = .ok (.invokevirtual 236, 3) := by decide +kernel
theorem dX7_table_53 : decode cX7_table 53 = .ok (.aload_n 0, 1) := by decide +kernel
theorem dX7_table_54 : decode cX7_table 54 = .ok (.getfield 25, 3) := by decide +kernel
theorem dX7_table_57 : decode cX7_table 57 = .ok (.invokestatic 207, 3) := by decide +kernel
theorem dX7_table_60 : decode cX7_table 60 = .ok (.istore_n 3, 1) := by decide +kernel
theorem dX7_table_61 : decode cX7_table 61 = .ok (.ldc 96, 2) := by decide +kernel
theorem dX7_table_63 : decode cX7_table 63 = .ok (.istore 4, 2) := by decide +kernel
theorem dX7_table_65 : decode cX7_table 65 = .ok (.iconst 0, 1) := by decide +kernel
theorem dX7_table_66 : decode cX7_table 66 = .ok (.istore 5, 2) := by decide +kernel
theorem dX7_table_68 : decode cX7_table 68 = .ok (.iload 5, 2) := by decide +kernel
theorem dX7_table_70 : decode cX7_table 70 = .ok (.aload_n 0, 1) := by decide +kernel
theorem dX7_table_71 : decode cX7_table 71 = .ok (.getfield 19, 3) := by decide +kernel
theorem dX7_table_74 : decode cX7_table 74 = .ok (.iconst 2, 1) := by decide +kernel
theorem dX7_table_75 : decode cX7_table 75 = .ok (.iaload, 1) := by decide +kernel
theorem dX7_table_76 : decode cX7_table 76 = .ok (.if_icmp .ge 113, 3) := by decide +kernel
theorem dX7_table_79 : decode cX7_table 79 = .ok (.iload 5, 2) := by decide +kernel
theorem dX7_table_81 : decode cX7_table 81 = .ok (.iconst 1, 1) := by decide +kernel
theorem dX7_table_82 : decode cX7_table 82 = .ok (.iadd, 1) := by decide +kernel
theorem dX7_table_83 : decode cX7_table 83 = .ok (.istore 6, 2) := by decide +kernel
theorem dX7_table_85 : decode cX7_table 85 = .ok (.iload 6, 2) := by decide +kernel
theorem dX7_table_87 : decode cX7_table 87 = .ok (.aload_n 0, 1) := by decide +kernel
theorem dX7_table_88 : decode cX7_table 88 = .ok (.getfield 19, 3) := by decide +kernel
theorem dX7_table_91 : decode cX7_table 91 = .ok (.iconst 2, 1) := by decide +kernel
theorem dX7_table_92 : decode cX7_table 92 = .ok (.iaload, 1) := by decide +kernel
theorem dX7_table_93 : decode cX7_table 93 = .ok (.if_icmp .ge 90, 3) := by decide +kernel
theorem dX7_table_96 : decode cX7_table 96 = .ok (.aload_n 0, 1) := by decide +kernel
theorem dX7_table_97 : decode cX7_table 97 = .ok (.invokevirtual 233, 3) := by decide +kernel
theorem dX7_table_100 : decode cX7_table 100 = .ok (.aload_n 0, 1) := by decide +kernel
theorem dX7_table_101 : decode cX7_table 101 = .ok (.getfield 25, 3) := by decide +kernel
theorem dX7_table_104 : decode cX7_table 104 = .ok (.bipush 11, 2) := by decide +kernel
theorem dX7_table_106 : decode cX7_table 106 = .ok (.iload 5, 2) := by decide +kernel
theorem dX7_table_108 : decode cX7_table 108 = .ok (.iadd, 1) := by decide +kernel
theorem dX7_table_109 : decode cX7_table 109 = .ok (.aload_n 0, 1) := by decide +kernel
theorem dX7_table_110 : decode cX7_table 110 = .ok (.getfield 19, 3) := by decide +kernel
theorem dX7_table_113 : decode cX7_table 113 = .ok (.bipush 11, 2) := by decide +kernel
theorem dX7_table_115 : decode cX7_table 115 = .ok (.iload 6, 2) := by decide +kernel
theorem dX7_table_117 : decode cX7_table 117 = .ok (.iadd, 1) := by decide +kernel
theorem dX7_table_118 : decode cX7_table 118 = .ok (.iaload, 1) := by decide +kernel
theorem dX7_table_119 : decode cX7_table 119 = .ok (.iastore, 1) := by decide +kernel
theorem dX7_table_120 : decode cX7_table 120 = .ok (.aload_n 0, 1) := by decide +kernel
theorem dX7_table_121 : decode cX7_table 121 = .ok (.getfield 25, 3) := by decide +kernel
theorem dX7_table_124 : decode cX7_table 124 = .ok (.bipush 11, 2) := by decide +kernel
theorem dX7_table_126 : decode cX7_table 126 = .ok (.iload 6, 2) := by decide +kernel
theorem dX7_table_128 : decode cX7_table 128 = .ok (.iadd, 1) := by decide +kernel
theorem dX7_table_129 : decode cX7_table 129 = .ok (.aload_n 0, 1) := by decide +kernel
theorem dX7_table_130 : decode cX7_table 130 = .ok (.getfield 19, 3) := by decide +kernel
theorem dX7_table_133 : decode cX7_table 133 = .ok (.bipush 11, 2) := by decide +kernel
theorem dX7_table_135 : decode cX7_table 135 = .ok (.iload 5, 2) := by decide +kernel
theorem dX7_table_137 : decode cX7_table 137 = .ok (.iadd, 1) := by decide +kernel
theorem dX7_table_138 : decode cX7_table 138 = .ok (.iaload, 1) := by decide +kernel
theorem dX7_table_139 : decode cX7_table 139 = .ok (.iastore, 1) := by decide +kernel
theorem dX7_table_140 : decode cX7_table 140 = .ok (.aload_n 0, 1) := by decide +kernel
theorem dX7_table_141 : decode cX7_table 141 = .ok (.aload_n 0, 1) := by decide +kernel
theorem dX7_table_142 : decode cX7_table 142 = .ok (.getfield 25, 3) := by decide +kernel
theorem dX7_table_145 : decode cX7_table 145 = .ok (.iload_n 1, 1) := by decide +kernel
theorem dX7_table_146 : decode cX7_table 146 = .ok (.invokevirtual 236, 3) := by decide +kernel
theorem dX7_table_149 : decode cX7_table 149 = .ok (.aload_n 0, 1) := by decide +kernel
theorem dX7_table_150 : decode cX7_table 150 = .ok (.getfield 25, 3) := by decide +kernel
theorem dX7_table_153 : decode cX7_table 153 = .ok (.invokestatic 207, 3) := by decide +kernel
theorem dX7_table_156 : decode cX7_table 156 = .ok (.istore 7, 2) := by decide +kernel
theorem dX7_table_158 : decode cX7_table 158 = .ok (.iload 7, 2) := by decide +kernel
theorem dX7_table_160 : decode cX7_table 160 = .ok (.iload_n 3, 1) := by decide +kernel
theorem dX7_table_161 : decode cX7_table 161 = .ok (.if_icmp .le 16, 3) := by decide +kernel
theorem dX7_table_164 : decode cX7_table 164 = .ok (.iload 7, 2) := by decide +kernel
theorem dX7_table_166 : decode cX7_table 166 = .ok (.istore_n 3, 1) := by decide +kernel
theorem dX7_table_167 : decode cX7_table 167 = .ok (.bipush 10, 2) := by decide +kernel
theorem dX7_table_169 : decode cX7_table 169 = .ok (.iload 5, 2) := by decide +kernel
theorem dX7_table_171 : decode cX7_table 171 = .ok (.imul, 1) := by decide +kernel
theorem dX7_table_172 : decode cX7_table 172 = .ok (.iload 6, 2) := by decide +kernel
theorem dX7_table_174 : decode cX7_table 174 = .ok (.iadd, 1) := by decide +kernel
theorem dX7_table_175 : decode cX7_table 175 = .ok (.istore 4, 2) := by decide +kernel
theorem dX7_table_177 : decode cX7_table 177 = .ok (.iinc 6 1, 3) := by decide +kernel
theorem dX7_table_180 : decode cX7_table 180 = .ok (.goto (-95), 3) := by decide +kernel
theorem dX7_table_183 : decode cX7_table 183 = .ok (.iinc 5 1, 3) := by decide +kernel
theorem dX7_table_186 : decode cX7_table 186 = .ok (.goto (-118), 3) := by decide +kernel
theorem dX7_table_189 : decode cX7_table 189 = .ok (.iload 4, 2) := by decide +kernel
theorem dX7_table_191 : decode cX7_table 191 = .ok (.ldc 96, 2) := by decide +kernel
theorem dX7_table_193 : decode cX7_table 193 = .ok (.if_icmp .eq 7, 3) := by decide +kernel
theorem dX7_table_196 : decode cX7_table 196 = .ok (.iload_n 2, 1) := by decide +kernel
theorem dX7_table_197 : decode cX7_table 197 = .ok (.ifCond .ne 8, 3) := by decide +kernel
theorem dX7_table_200 : decode cX7_table 200 = .ok (.iload 4, 2) := by decide +kernel
theorem dX7_table_202 : decode cX7_table 202 = .ok (.goto 4, 3) := by decide +kernel
theorem dX7_table_205 : decode cX7_table 205 = .ok (.iload_n 3, 1) := by decide +kernel
theorem dX7_table_206 : decode cX7_table 206 = .ok (.ireturn, 1) := by decide +kernel
theorem dX7_tellsApart_0 : decode cX7_tellsApart 0 = .ok (.iconst 1, 1) := by decide +kernel
theorem dX7_tellsApart_1 : decode cX7_tellsApart 1 = .ok (.istore_n 2, 1) := by decide +kernel
theorem dX7_tellsApart_2 : decode cX7_tellsApart 2 = .ok (.iconst 0, 1) := by decide +kernel
theorem dX7_tellsApart_3 : decode cX7_tellsApart 3 = .ok (.istore_n 3, 1) := by decide +kernel
theorem dX7_tellsApart_4 : decode cX7_tellsApart 4 = .ok (.iload_n 3, 1) := by decide +kernel
theorem dX7_tellsApart_5 : decode cX7_tellsApart 5 = .ok (.aload_n 0, 1) := by decide +kernel
theorem dX7_tellsApart_6 : decode cX7_tellsApart 6 = .ok (.getfield 19, 3) := by decide +kernel
theorem dX7_tellsApart_9 : decode cX7_tellsApart 9 = .ok (.iconst 0, 1) := by decide +kernel
theorem dX7_tellsApart_10 : decode cX7_tellsApart 10 = .ok (.iaload, 1) := by decide +kernel
theorem dX7_tellsApart_11 : decode cX7_tellsApart 11 = .ok (.if_icmp .ge 68, 3) := by decide +kernel
theorem dX7_tellsApart_14 : decode cX7_tellsApart 14 = .ok (.iconst 0, 1) := by decide +kernel
theorem dX7_tellsApart_15 : decode cX7_tellsApart 15 = .ok (.istore 4, 2) := by decide +kernel
theorem dX7_tellsApart_17 : decode cX7_tellsApart 17 = .ok (.iload 4, 2) := by decide +kernel
theorem dX7_tellsApart_19 : decode cX7_tellsApart 19 = .ok (.iload_n 3, 1) := by decide +kernel
theorem dX7_tellsApart_20 : decode cX7_tellsApart 20 = .ok (.if_icmp .ge 53, 3) := by decide +kernel
theorem dX7_tellsApart_23 : decode cX7_tellsApart 23 = .ok (.aload_n 0, 1) := by decide +kernel
theorem dX7_tellsApart_24 : decode cX7_tellsApart 24 = .ok (.getfield 19, 3) := by decide +kernel
theorem dX7_tellsApart_27 : decode cX7_tellsApart 27 = .ok (.iload_n 3, 1) := by decide +kernel
theorem dX7_tellsApart_28 : decode cX7_tellsApart 28 = .ok (.iconst 2, 1) := by decide +kernel
theorem dX7_tellsApart_29 : decode cX7_tellsApart 29 = .ok (.invokestatic 161, 3) := by decide +kernel
theorem dX7_tellsApart_32 : decode cX7_tellsApart 32 = .ok (.aload_n 0, 1) := by decide +kernel
theorem dX7_tellsApart_33 : decode cX7_tellsApart 33 = .ok (.getfield 19, 3) := by decide +kernel
theorem dX7_tellsApart_36 : decode cX7_tellsApart 36 = .ok (.iload 4, 2) := by decide +kernel
theorem dX7_tellsApart_38 : decode cX7_tellsApart 38 = .ok (.iconst 2, 1) := by decide +kernel
theorem dX7_tellsApart_39 : decode cX7_tellsApart 39 = .ok (.invokestatic 161, 3) := by decide +kernel
theorem dX7_tellsApart_42 : decode cX7_tellsApart 42 = .ok (.ixor, 1) := by decide +kernel
theorem dX7_tellsApart_43 : decode cX7_tellsApart 43 = .ok (.istore 5, 2) := by decide +kernel
theorem dX7_tellsApart_45 : decode cX7_tellsApart 45 = .ok (.iload_n 2, 1) := by decide +kernel
theorem dX7_tellsApart_46 : decode cX7_tellsApart 46 = .ok (.ifCond .eq 19, 3) := by decide +kernel
theorem dX7_tellsApart_49 : decode cX7_tellsApart 49 = .ok (.iload 5, 2) := by decide +kernel
theorem dX7_tellsApart_51 : decode cX7_tellsApart 51 = .ok (.ifCond .eq 10, 3) := by decide +kernel
theorem dX7_tellsApart_54 : decode cX7_tellsApart 54 = .ok (.iload 5, 2) := by decide +kernel
theorem dX7_tellsApart_56 : decode cX7_tellsApart 56 = .ok (.iload_n 1, 1) := by decide +kernel
theorem dX7_tellsApart_57 : decode cX7_tellsApart 57 = .ok (.iand, 1) := by decide +kernel
theorem dX7_tellsApart_58 : decode cX7_tellsApart 58 = .ok (.ifCond .eq 7, 3) := by decide +kernel
theorem dX7_tellsApart_61 : decode cX7_tellsApart 61 = .ok (.iconst 1, 1) := by decide +kernel
theorem dX7_tellsApart_62 : decode cX7_tellsApart 62 = .ok (.goto 4, 3) := by decide +kernel
theorem dX7_tellsApart_65 : decode cX7_tellsApart 65 = .ok (.iconst 0, 1) := by decide +kernel
theorem dX7_tellsApart_66 : decode cX7_tellsApart 66 = .ok (.istore_n 2, 1) := by decide +kernel
theorem dX7_tellsApart_67 : decode cX7_tellsApart 67 = .ok (.iinc 4 1, 3) := by decide +kernel
theorem dX7_tellsApart_70 : decode cX7_tellsApart 70 = .ok (.goto (-53), 3) := by decide +kernel
theorem dX7_tellsApart_73 : decode cX7_tellsApart 73 = .ok (.iinc 3 1, 3) := by decide +kernel
theorem dX7_tellsApart_76 : decode cX7_tellsApart 76 = .ok (.goto (-72), 3) := by decide +kernel
theorem dX7_tellsApart_79 : decode cX7_tellsApart 79 = .ok (.iload_n 2, 1) := by decide +kernel
theorem dX7_tellsApart_80 : decode cX7_tellsApart 80 = .ok (.ireturn, 1) := by decide +kernel
theorem dX7_questions_0 : decode cX7_questions 0 = .ok (.aload_n 0, 1) := by decide +kernel
theorem dX7_questions_1 : decode cX7_questions 1 = .ok (.iconst 0, 1) := by decide +kernel
theorem dX7_questions_2 : decode cX7_questions 2 = .ok (.putfield 53, 3) := by decide +kernel
theorem dX7_questions_5 : decode cX7_questions 5 = .ok (.aload_n 0, 1) := by decide +kernel
theorem dX7_questions_6 : decode cX7_questions 6 = .ok (.invokevirtual 198, 3) := by decide +kernel
theorem dX7_questions_9 : decode cX7_questions 9 = .ok (.ifCond .ne 6, 3) := by decide +kernel
theorem dX7_questions_12 : decode cX7_questions 12 = .ok (.ldc 201, 2) := by decide +kernel
theorem dX7_questions_14 : decode cX7_questions 14 = .ok (.ireturn, 1) := by decide +kernel
theorem dX7_questions_15 : decode cX7_questions 15 = .ok (.iload_n 1, 1) := by decide +kernel
theorem dX7_questions_16 : decode cX7_questions 16 = .ok (.i2l, 1) := by decide +kernel
theorem dX7_questions_17 : decode cX7_questions 17 = .ok (.lconst 0, 1) := by decide +kernel
theorem dX7_questions_18 : decode cX7_questions 18 = .ok (.lconst 1, 1) := by decide +kernel
theorem dX7_questions_19 : decode cX7_questions 19 = .ok (.invokestatic 63, 3) := by decide +kernel
theorem dX7_questions_22 : decode cX7_questions 22 = .ok (.ifCond .ne 6, 3) := by decide +kernel
theorem dX7_questions_25 : decode cX7_questions 25 = .ok (.ldc 73, 2) := by decide +kernel
theorem dX7_questions_27 : decode cX7_questions 27 = .ok (.ireturn, 1) := by decide +kernel
theorem dX7_questions_28 : decode cX7_questions 28 = .ok (.ldc 96, 2) := by decide +kernel
theorem dX7_questions_30 : decode cX7_questions 30 = .ok (.istore_n 2, 1) := by decide +kernel
theorem dX7_questions_31 : decode cX7_questions 31 = .ok (.iconst 0, 1) := by decide +kernel
theorem dX7_questions_32 : decode cX7_questions 32 = .ok (.istore_n 3, 1) := by decide +kernel
theorem dX7_questions_33 : decode cX7_questions 33 = .ok (.iload_n 3, 1) := by decide +kernel
theorem dX7_questions_34 : decode cX7_questions 34 = .ok (.iconst 1, 1) := by decide +kernel
theorem dX7_questions_35 : decode cX7_questions 35 = .ok (.aload_n 0, 1) := by decide +kernel
theorem dX7_questions_36 : decode cX7_questions 36 = .ok (.getfield 19, 3) := by decide +kernel
theorem dX7_questions_39 : decode cX7_questions 39 = .ok (.iconst 1, 1) := by decide +kernel
theorem dX7_questions_40 : decode cX7_questions 40 = .ok (.iaload, 1) := by decide +kernel
theorem dX7_questions_41 : decode cX7_questions 41 = .ok (.ishl, 1) := by decide +kernel
theorem dX7_questions_42 : decode cX7_questions 42 = .ok (.if_icmp .ge 36, 3) := by decide +kernel
theorem dX7_questions_45 : decode cX7_questions 45 = .ok (.iload_n 2, 1) := by decide +kernel
theorem dX7_questions_46 : decode cX7_questions 46 = .ok (.ldc 96, 2) := by decide +kernel
theorem dX7_questions_48 : decode cX7_questions 48 = .ok (.if_icmp .eq 14, 3) := by decide +kernel
theorem dX7_questions_51 : decode cX7_questions 51 = .ok (.iload_n 3, 1) := by decide +kernel
theorem dX7_questions_52 : decode cX7_questions 52 = .ok (.invokestatic 180, 3) := by decide +kernel
theorem dX7_questions_55 : decode cX7_questions 55 = .ok (.iload_n 2, 1) := by decide +kernel
theorem dX7_questions_56 : decode cX7_questions 56 = .ok (.invokestatic 180, 3) := by decide +kernel
theorem dX7_questions_59 : decode cX7_questions 59 = .ok (.if_icmp .ge 13, 3) := by decide +kernel
theorem dX7_questions_62 : decode cX7_questions 62 = .ok (.aload_n 0, 1) := by decide +kernel
theorem dX7_questions_63 : decode cX7_questions 63 = .ok (.iload_n 3, 1) := by decide +kernel
theorem dX7_questions_64 : decode cX7_questions 64 = .ok (.invokevirtual 254, 3) := by decide +kernel
theorem dX7_questions_67 : decode cX7_questions 67 = .ok (.ifCond .eq 5, 3) := by decide +kernel
theorem dX7_questions_70 : decode cX7_questions 70 = .ok (.iload_n 3, 1) := by decide +kernel
theorem dX7_questions_71 : decode cX7_questions 71 = .ok (.istore_n 2, 1) := by decide +kernel
theorem dX7_questions_72 : decode cX7_questions 72 = .ok (.iinc 3 1, 3) := by decide +kernel
theorem dX7_questions_75 : decode cX7_questions 75 = .ok (.goto (-42), 3) := by decide +kernel
theorem dX7_questions_78 : decode cX7_questions 78 = .ok (.iload_n 1, 1) := by decide +kernel
theorem dX7_questions_79 : decode cX7_questions 79 = .ok (.ifCond .ne 10, 3) := by decide +kernel
theorem dX7_questions_82 : decode cX7_questions 82 = .ok (.iload_n 2, 1) := by decide +kernel
theorem dX7_questions_83 : decode cX7_questions 83 = .ok (.invokestatic 180, 3) := by decide +kernel
theorem dX7_questions_86 : decode cX7_questions 86 = .ok (.goto 4, 3) := by decide +kernel
theorem dX7_questions_89 : decode cX7_questions 89 = .ok (.iload_n 2, 1) := by decide +kernel
theorem dX7_questions_90 : decode cX7_questions 90 = .ok (.ireturn, 1) := by decide +kernel
theorem dX7_top_0 : decode cX7_top 0 = .ok (.aload_n 0, 1) := by decide +kernel
theorem dX7_top_1 : decode cX7_top 1 = .ok (.iconst 0, 1) := by decide +kernel
theorem dX7_top_2 : decode cX7_top 2 = .ok (.putfield 53, 3) := by decide +kernel
theorem dX7_top_5 : decode cX7_top 5 = .ok (.aload_n 0, 1) := by decide +kernel
theorem dX7_top_6 : decode cX7_top 6 = .ok (.invokevirtual 198, 3) := by decide +kernel
theorem dX7_top_9 : decode cX7_top 9 = .ok (.ifCond .ne 6, 3) := by decide +kernel
theorem dX7_top_12 : decode cX7_top 12 = .ok (.ldc 201, 2) := by decide +kernel
theorem dX7_top_14 : decode cX7_top 14 = .ok (.ireturn, 1) := by decide +kernel
theorem dX7_top_15 : decode cX7_top 15 = .ok (.iload_n 1, 1) := by decide +kernel
theorem dX7_top_16 : decode cX7_top 16 = .ok (.i2l, 1) := by decide +kernel
theorem dX7_top_17 : decode cX7_top 17 = .ok (.lconst 0, 1) := by decide +kernel
theorem dX7_top_18 : decode cX7_top 18 = .ok (.lconst 1, 1) := by decide +kernel
theorem dX7_top_19 : decode cX7_top 19 = .ok (.invokestatic 63, 3) := by decide +kernel
theorem dX7_top_22 : decode cX7_top 22 = .ok (.ifCond .ne 6, 3) := by decide +kernel
theorem dX7_top_25 : decode cX7_top 25 = .ok (.ldc 73, 2) := by decide +kernel
theorem dX7_top_27 : decode cX7_top 27 = .ok (.ireturn, 1) := by decide +kernel
theorem dX7_top_28 : decode cX7_top 28 = .ok (.iconst 0, 1) := by decide +kernel
theorem dX7_top_29 : decode cX7_top 29 = .ok (.istore_n 2, 1) := by decide +kernel
theorem dX7_top_30 : decode cX7_top 30 = .ok (.iconst 1, 1) := by decide +kernel
theorem dX7_top_31 : decode cX7_top 31 = .ok (.istore_n 3, 1) := by decide +kernel
theorem dX7_top_32 : decode cX7_top 32 = .ok (.iload_n 3, 1) := by decide +kernel
theorem dX7_top_33 : decode cX7_top 33 = .ok (.aload_n 0, 1) := by decide +kernel
theorem dX7_top_34 : decode cX7_top 34 = .ok (.getfield 19, 3) := by decide +kernel
theorem dX7_top_37 : decode cX7_top 37 = .ok (.iconst 0, 1) := by decide +kernel
theorem dX7_top_38 : decode cX7_top 38 = .ok (.iaload, 1) := by decide +kernel
theorem dX7_top_39 : decode cX7_top 39 = .ok (.if_icmp .ge 42, 3) := by decide +kernel
theorem dX7_top_42 : decode cX7_top 42 = .ok (.aload_n 0, 1) := by decide +kernel
theorem dX7_top_43 : decode cX7_top 43 = .ok (.getfield 19, 3) := by decide +kernel
theorem dX7_top_46 : decode cX7_top 46 = .ok (.iload_n 3, 1) := by decide +kernel
theorem dX7_top_47 : decode cX7_top 47 = .ok (.iconst 2, 1) := by decide +kernel
theorem dX7_top_48 : decode cX7_top 48 = .ok (.invokestatic 161, 3) := by decide +kernel
theorem dX7_top_51 : decode cX7_top 51 = .ok (.invokestatic 180, 3) := by decide +kernel
theorem dX7_top_54 : decode cX7_top 54 = .ok (.aload_n 0, 1) := by decide +kernel
theorem dX7_top_55 : decode cX7_top 55 = .ok (.getfield 19, 3) := by decide +kernel
theorem dX7_top_58 : decode cX7_top 58 = .ok (.iload_n 2, 1) := by decide +kernel
theorem dX7_top_59 : decode cX7_top 59 = .ok (.iconst 2, 1) := by decide +kernel
theorem dX7_top_60 : decode cX7_top 60 = .ok (.invokestatic 161, 3) := by decide +kernel
theorem dX7_top_63 : decode cX7_top 63 = .ok (.invokestatic 180, 3) := by decide +kernel
theorem dX7_top_66 : decode cX7_top 66 = .ok (.if_icmp .le 7, 3) := by decide +kernel
theorem dX7_top_69 : decode cX7_top 69 = .ok (.iload_n 3, 1) := by decide +kernel
theorem dX7_top_70 : decode cX7_top 70 = .ok (.goto 4, 3) := by decide +kernel
theorem dX7_top_73 : decode cX7_top 73 = .ok (.iload_n 2, 1) := by decide +kernel
theorem dX7_top_74 : decode cX7_top 74 = .ok (.istore_n 2, 1) := by decide +kernel
theorem dX7_top_75 : decode cX7_top 75 = .ok (.iinc 3 1, 3) := by decide +kernel
theorem dX7_top_78 : decode cX7_top 78 = .ok (.goto (-46), 3) := by decide +kernel
theorem dX7_top_81 : decode cX7_top 81 = .ok (.iload_n 1, 1) := by decide +kernel
theorem dX7_top_82 : decode cX7_top 82 = .ok (.ifCond .ne 7, 3) := by decide +kernel
theorem dX7_top_85 : decode cX7_top 85 = .ok (.iload_n 2, 1) := by decide +kernel
theorem dX7_top_86 : decode cX7_top 86 = .ok (.goto 15, 3) := by decide +kernel
theorem dX7_top_89 : decode cX7_top 89 = .ok (.aload_n 0, 1) := by decide +kernel
theorem dX7_top_90 : decode cX7_top 90 = .ok (.getfield 19, 3) := by decide +kernel
theorem dX7_top_93 : decode cX7_top 93 = .ok (.iload_n 2, 1) := by decide +kernel
theorem dX7_top_94 : decode cX7_top 94 = .ok (.iconst 2, 1) := by decide +kernel
theorem dX7_top_95 : decode cX7_top 95 = .ok (.invokestatic 161, 3) := by decide +kernel
theorem dX7_top_98 : decode cX7_top 98 = .ok (.invokestatic 180, 3) := by decide +kernel
theorem dX7_top_101 : decode cX7_top 101 = .ok (.ireturn, 1) := by decide +kernel
theorem dX7_fellows_0 : decode cX7_fellows 0 = .ok (.aload_n 0, 1) := by decide +kernel
theorem dX7_fellows_1 : decode cX7_fellows 1 = .ok (.iconst 0, 1) := by decide +kernel
theorem dX7_fellows_2 : decode cX7_fellows 2 = .ok (.putfield 53, 3) := by decide +kernel
theorem dX7_fellows_5 : decode cX7_fellows 5 = .ok (.aload_n 0, 1) := by decide +kernel
theorem dX7_fellows_6 : decode cX7_fellows 6 = .ok (.iload_n 1, 1) := by decide +kernel
theorem dX7_fellows_7 : decode cX7_fellows 7 = .ok (.invokevirtual 211, 3) := by decide +kernel
theorem dX7_fellows_10 : decode cX7_fellows 10 = .ok (.ifCond .ne 6, 3) := by decide +kernel
theorem dX7_fellows_13 : decode cX7_fellows 13 = .ok (.ldc 73, 2) := by decide +kernel
theorem dX7_fellows_15 : decode cX7_fellows 15 = .ok (.ireturn, 1) := by decide +kernel
theorem dX7_fellows_16 : decode cX7_fellows 16 = .ok (.iconst 0, 1) := by decide +kernel
theorem dX7_fellows_17 : decode cX7_fellows 17 = .ok (.istore_n 2, 1) := by decide +kernel
theorem dX7_fellows_18 : decode cX7_fellows 18 = .ok (.iconst 0, 1) := by decide +kernel
theorem dX7_fellows_19 : decode cX7_fellows 19 = .ok (.istore_n 3, 1) := by decide +kernel
theorem dX7_fellows_20 : decode cX7_fellows 20 = .ok (.iload_n 3, 1) := by decide +kernel
theorem dX7_fellows_21 : decode cX7_fellows 21 = .ok (.aload_n 0, 1) := by decide +kernel
theorem dX7_fellows_22 : decode cX7_fellows 22 = .ok (.getfield 19, 3) := by decide +kernel
theorem dX7_fellows_25 : decode cX7_fellows 25 = .ok (.iconst 0, 1) := by decide +kernel
theorem dX7_fellows_26 : decode cX7_fellows 26 = .ok (.iaload, 1) := by decide +kernel
theorem dX7_fellows_27 : decode cX7_fellows 27 = .ok (.if_icmp .ge 45, 3) := by decide +kernel
theorem dX7_fellows_30 : decode cX7_fellows 30 = .ok (.iload_n 2, 1) := by decide +kernel
theorem dX7_fellows_31 : decode cX7_fellows 31 = .ok (.iload_n 3, 1) := by decide +kernel
theorem dX7_fellows_32 : decode cX7_fellows 32 = .ok (.iload_n 1, 1) := by decide +kernel
theorem dX7_fellows_33 : decode cX7_fellows 33 = .ok (.if_icmp .eq 30, 3) := by decide +kernel
theorem dX7_fellows_36 : decode cX7_fellows 36 = .ok (.aload_n 0, 1) := by decide +kernel
theorem dX7_fellows_37 : decode cX7_fellows 37 = .ok (.getfield 19, 3) := by decide +kernel
theorem dX7_fellows_40 : decode cX7_fellows 40 = .ok (.iload_n 3, 1) := by decide +kernel
theorem dX7_fellows_41 : decode cX7_fellows 41 = .ok (.iconst 2, 1) := by decide +kernel
theorem dX7_fellows_42 : decode cX7_fellows 42 = .ok (.invokestatic 161, 3) := by decide +kernel
theorem dX7_fellows_45 : decode cX7_fellows 45 = .ok (.aload_n 0, 1) := by decide +kernel
theorem dX7_fellows_46 : decode cX7_fellows 46 = .ok (.getfield 19, 3) := by decide +kernel
theorem dX7_fellows_49 : decode cX7_fellows 49 = .ok (.iload_n 1, 1) := by decide +kernel
theorem dX7_fellows_50 : decode cX7_fellows 50 = .ok (.iconst 2, 1) := by decide +kernel
theorem dX7_fellows_51 : decode cX7_fellows 51 = .ok (.invokestatic 161, 3) := by decide +kernel
theorem dX7_fellows_54 : decode cX7_fellows 54 = .ok (.if_icmp .ne 9, 3) := by decide +kernel
theorem dX7_fellows_57 : decode cX7_fellows 57 = .ok (.iconst 1, 1) := by decide +kernel
theorem dX7_fellows_58 : decode cX7_fellows 58 = .ok (.iload_n 3, 1) := by decide +kernel
theorem dX7_fellows_59 : decode cX7_fellows 59 = .ok (.ishl, 1) := by decide +kernel
theorem dX7_fellows_60 : decode cX7_fellows 60 = .ok (.goto 4, 3) := by decide +kernel
theorem dX7_fellows_63 : decode cX7_fellows 63 = .ok (.iconst 0, 1) := by decide +kernel
theorem dX7_fellows_64 : decode cX7_fellows 64 = .ok (.ior, 1) := by decide +kernel
theorem dX7_fellows_65 : decode cX7_fellows 65 = .ok (.istore_n 2, 1) := by decide +kernel
theorem dX7_fellows_66 : decode cX7_fellows 66 = .ok (.iinc 3 1, 3) := by decide +kernel
theorem dX7_fellows_69 : decode cX7_fellows 69 = .ok (.goto (-49), 3) := by decide +kernel
theorem dX7_fellows_72 : decode cX7_fellows 72 = .ok (.iload_n 2, 1) := by decide +kernel
theorem dX7_fellows_73 : decode cX7_fellows 73 = .ok (.ireturn, 1) := by decide +kernel
theorem dX7_isSo_0 : decode cX7_isSo 0 = .ok (.iconst 1, 1) := by decide +kernel
theorem dX7_isSo_1 : decode cX7_isSo 1 = .ok (.istore 4, 2) := by decide +kernel
theorem dX7_isSo_3 : decode cX7_isSo 3 = .ok (.iconst 0, 1) := by decide +kernel
theorem dX7_isSo_4 : decode cX7_isSo 4 = .ok (.istore 5, 2) := by decide +kernel
theorem dX7_isSo_6 : decode cX7_isSo 6 = .ok (.iload 5, 2) := by decide +kernel
theorem dX7_isSo_8 : decode cX7_isSo 8 = .ok (.iload_n 3, 1) := by decide +kernel
theorem dX7_isSo_9 : decode cX7_isSo 9 = .ok (.if_icmp .ge 54, 3) := by decide +kernel
theorem dX7_isSo_12 : decode cX7_isSo 12 = .ok (.aload_n 0, 1) := by decide +kernel
theorem dX7_isSo_13 : decode cX7_isSo 13 = .ok (.aload_n 0, 1) := by decide +kernel
theorem dX7_isSo_14 : decode cX7_isSo 14 = .ok (.getfield 25, 3) := by decide +kernel
theorem dX7_isSo_17 : decode cX7_isSo 17 = .ok (.iconst 0, 1) := by decide +kernel
theorem dX7_isSo_18 : decode cX7_isSo 18 = .ok (.invokevirtual 194, 3) := by decide +kernel
theorem dX7_isSo_21 : decode cX7_isSo 21 = .ok (.iload 4, 2) := by decide +kernel
theorem dX7_isSo_23 : decode cX7_isSo 23 = .ok (.ifCond .eq 31, 3) := by decide +kernel
theorem dX7_isSo_26 : decode cX7_isSo 26 = .ok (.aload_n 0, 1) := by decide +kernel
theorem dX7_isSo_27 : decode cX7_isSo 27 = .ok (.getfield 25, 3) := by decide +kernel
theorem dX7_isSo_30 : decode cX7_isSo 30 = .ok (.iload_n 1, 1) := by decide +kernel
theorem dX7_isSo_31 : decode cX7_isSo 31 = .ok (.iconst 2, 1) := by decide +kernel
theorem dX7_isSo_32 : decode cX7_isSo 32 = .ok (.invokestatic 161, 3) := by decide +kernel
theorem dX7_isSo_35 : decode cX7_isSo 35 = .ok (.invokestatic 180, 3) := by decide +kernel
theorem dX7_isSo_38 : decode cX7_isSo 38 = .ok (.aload_n 0, 1) := by decide +kernel
theorem dX7_isSo_39 : decode cX7_isSo 39 = .ok (.getfield 16, 3) := by decide +kernel
theorem dX7_isSo_42 : decode cX7_isSo 42 = .ok (.iload_n 2, 1) := by decide +kernel
theorem dX7_isSo_43 : decode cX7_isSo 43 = .ok (.iload 5, 2) := by decide +kernel
theorem dX7_isSo_45 : decode cX7_isSo 45 = .ok (.iadd, 1) := by decide +kernel
theorem dX7_isSo_46 : decode cX7_isSo 46 = .ok (.iaload, 1) := by decide +kernel
theorem dX7_isSo_47 : decode cX7_isSo 47 = .ok (.if_icmp .ne 7, 3) := by decide +kernel
theorem dX7_isSo_50 : decode cX7_isSo 50 = .ok (.iconst 1, 1) := by decide +kernel
theorem dX7_isSo_51 : decode cX7_isSo 51 = .ok (.goto 4, 3) := by decide +kernel
theorem dX7_isSo_54 : decode cX7_isSo 54 = .ok (.iconst 0, 1) := by decide +kernel
theorem dX7_isSo_55 : decode cX7_isSo 55 = .ok (.istore 4, 2) := by decide +kernel
theorem dX7_isSo_57 : decode cX7_isSo 57 = .ok (.iinc 5 1, 3) := by decide +kernel
theorem dX7_isSo_60 : decode cX7_isSo 60 = .ok (.goto (-54), 3) := by decide +kernel
theorem dX7_isSo_63 : decode cX7_isSo 63 = .ok (.iload 4, 2) := by decide +kernel
theorem dX7_isSo_65 : decode cX7_isSo 65 = .ok (.ireturn, 1) := by decide +kernel
theorem dX7_rowFound_0 : decode cX7_rowFound 0 = .ok (.aload_n 0, 1) := by decide +kernel
theorem dX7_rowFound_1 : decode cX7_rowFound 1 = .ok (.getfield 7, 3) := by decide +kernel
theorem dX7_rowFound_4 : decode cX7_rowFound 4 = .ok (.iload_n 1, 1) := by decide +kernel
theorem dX7_rowFound_5 : decode cX7_rowFound 5 = .ok (.iaload, 1) := by decide +kernel
theorem dX7_rowFound_6 : decode cX7_rowFound 6 = .ok (.ifCond .ge 9, 3) := by decide +kernel
theorem dX7_rowFound_9 : decode cX7_rowFound 9 = .ok (.aload_n 0, 1) := by decide +kernel
theorem dX7_rowFound_10 : decode cX7_rowFound 10 = .ok (.iconst 1, 1) := by decide +kernel
theorem dX7_rowFound_11 : decode cX7_rowFound 11 = .ok (.invokevirtual 74, 3) := by decide +kernel
theorem dX7_rowFound_14 : decode cX7_rowFound 14 = .ok (.ireturn, 1) := by decide +kernel
theorem dX7_rowFound_15 : decode cX7_rowFound 15 = .ok (.iload_n 2, 1) := by decide +kernel
theorem dX7_rowFound_16 : decode cX7_rowFound 16 = .ok (.ifCond .lt 19, 3) := by decide +kernel
theorem dX7_rowFound_19 : decode cX7_rowFound 19 = .ok (.iload_n 2, 1) := by decide +kernel
theorem dX7_rowFound_20 : decode cX7_rowFound 20 = .ok (.i2l, 1) := by decide +kernel
theorem dX7_rowFound_21 : decode cX7_rowFound 21 = .ok (.iload_n 3, 1) := by decide +kernel
theorem dX7_rowFound_22 : decode cX7_rowFound 22 = .ok (.i2l, 1) := by decide +kernel
theorem dX7_rowFound_23 : decode cX7_rowFound 23 = .ok (.ladd, 1) := by decide +kernel
theorem dX7_rowFound_24 : decode cX7_rowFound 24 = .ok (.aload_n 0, 1) := by decide +kernel
theorem dX7_rowFound_25 : decode cX7_rowFound 25 = .ok (.getfield 13, 3) := by decide +kernel
theorem dX7_rowFound_28 : decode cX7_rowFound 28 = .ok (.iload_n 1, 1) := by decide +kernel
theorem dX7_rowFound_29 : decode cX7_rowFound 29 = .ok (.iaload, 1) := by decide +kernel
theorem dX7_rowFound_30 : decode cX7_rowFound 30 = .ok (.i2l, 1) := by decide +kernel
theorem dX7_rowFound_31 : decode cX7_rowFound 31 = .ok (.lcmp, 1) := by decide +kernel
theorem dX7_rowFound_32 : decode cX7_rowFound 32 = .ok (.ifCond .le 9, 3) := by decide +kernel
theorem dX7_rowFound_35 : decode cX7_rowFound 35 = .ok (.aload_n 0, 1) := by decide +kernel
theorem dX7_rowFound_36 : decode cX7_rowFound 36 = .ok (.iconst 2, 1) := by decide +kernel
theorem dX7_rowFound_37 : decode cX7_rowFound 37 = .ok (.invokevirtual 74, 3) := by decide +kernel
theorem dX7_rowFound_40 : decode cX7_rowFound 40 = .ok (.ireturn, 1) := by decide +kernel
theorem dX7_rowFound_41 : decode cX7_rowFound 41 = .ok (.aload_n 0, 1) := by decide +kernel
theorem dX7_rowFound_42 : decode cX7_rowFound 42 = .ok (.iconst 0, 1) := by decide +kernel
theorem dX7_rowFound_43 : decode cX7_rowFound 43 = .ok (.putfield 57, 3) := by decide +kernel
theorem dX7_rowFound_46 : decode cX7_rowFound 46 = .ok (.iconst 0, 1) := by decide +kernel
theorem dX7_rowFound_47 : decode cX7_rowFound 47 = .ok (.ireturn, 1) := by decide +kernel
theorem dX7_isMany_0 : decode cX7_isMany 0 = .ok (.iload_n 0, 1) := by decide +kernel
theorem dX7_isMany_1 : decode cX7_isMany 1 = .ok (.invokestatic 67, 3) := by decide +kernel
theorem dX7_isMany_4 : decode cX7_isMany 4 = .ok (.ifCond .eq 19, 3) := by decide +kernel
theorem dX7_isMany_7 : decode cX7_isMany 7 = .ok (.iload_n 1, 1) := by decide +kernel
theorem dX7_isMany_8 : decode cX7_isMany 8 = .ok (.i2l, 1) := by decide +kernel
theorem dX7_isMany_9 : decode cX7_isMany 9 = .ok (.lconst 1, 1) := by decide +kernel
theorem dX7_isMany_10 : decode cX7_isMany 10 = .ok (.ldc2_w 247, 3) := by decide +kernel
theorem dX7_isMany_13 : decode cX7_isMany 13 = .ok (.invokestatic 63, 3) := by decide +kernel
theorem dX7_isMany_16 : decode cX7_isMany 16 = .ok (.ifCond .eq 7, 3) := by decide +kernel
theorem dX7_isMany_19 : decode cX7_isMany 19 = .ok (.iconst 1, 1) := by decide +kernel
theorem dX7_isMany_20 : decode cX7_isMany 20 = .ok (.goto 4, 3) := by decide +kernel
theorem dX7_isMany_23 : decode cX7_isMany 23 = .ok (.iconst 0, 1) := by decide +kernel
theorem dX7_isMany_24 : decode cX7_isMany 24 = .ok (.ireturn, 1) := by decide +kernel
theorem dX7_who_0 : decode cX7_who 0 = .ok (.aload_n 0, 1) := by decide +kernel
theorem dX7_who_1 : decode cX7_who 1 = .ok (.iconst 0, 1) := by decide +kernel
theorem dX7_who_2 : decode cX7_who 2 = .ok (.putfield 53, 3) := by decide +kernel
theorem dX7_who_5 : decode cX7_who 5 = .ok (.aload_n 0, 1) := by decide +kernel
theorem dX7_who_6 : decode cX7_who 6 = .ok (.iload_n 1, 1) := by decide +kernel
theorem dX7_who_7 : decode cX7_who 7 = .ok (.invokevirtual 211, 3) := by decide +kernel
theorem dX7_who_10 : decode cX7_who 10 = .ok (.ifCond .eq 22, 3) := by decide +kernel
theorem dX7_who_13 : decode cX7_who 13 = .ok (.iload_n 2, 1) := by decide +kernel
theorem dX7_who_14 : decode cX7_who 14 = .ok (.i2l, 1) := by decide +kernel
theorem dX7_who_15 : decode cX7_who 15 = .ok (.lconst 0, 1) := by decide +kernel
theorem dX7_who_16 : decode cX7_who 16 = .ok (.lconst 1, 1) := by decide +kernel
theorem dX7_who_17 : decode cX7_who 17 = .ok (.invokestatic 63, 3) := by decide +kernel
theorem dX7_who_20 : decode cX7_who 20 = .ok (.ifCond .eq 12, 3) := by decide +kernel
theorem dX7_who_23 : decode cX7_who 23 = .ok (.iload_n 3, 1) := by decide +kernel
theorem dX7_who_24 : decode cX7_who 24 = .ok (.iload 5, 2) := by decide +kernel
theorem dX7_who_26 : decode cX7_who 26 = .ok (.invokestatic 257, 3) := by decide +kernel
theorem dX7_who_29 : decode cX7_who 29 = .ok (.ifCond .ne 6, 3) := by decide +kernel
theorem dX7_who_32 : decode cX7_who 32 = .ok (.ldc 73, 2) := by decide +kernel
theorem dX7_who_34 : decode cX7_who 34 = .ok (.ireturn, 1) := by decide +kernel
theorem dX7_who_35 : decode cX7_who 35 = .ok (.aload_n 0, 1) := by decide +kernel
theorem dX7_who_36 : decode cX7_who 36 = .ok (.iload_n 3, 1) := by decide +kernel
theorem dX7_who_37 : decode cX7_who 37 = .ok (.iload 4, 2) := by decide +kernel
theorem dX7_who_39 : decode cX7_who 39 = .ok (.iload 5, 2) := by decide +kernel
theorem dX7_who_41 : decode cX7_who 41 = .ok (.invokevirtual 260, 3) := by decide +kernel
theorem dX7_who_44 : decode cX7_who 44 = .ok (.istore 6, 2) := by decide +kernel
theorem dX7_who_46 : decode cX7_who 46 = .ok (.iload 6, 2) := by decide +kernel
theorem dX7_who_48 : decode cX7_who 48 = .ok (.ifCond .eq 6, 3) := by decide +kernel
theorem dX7_who_51 : decode cX7_who 51 = .ok (.iload 6, 2) := by decide +kernel
theorem dX7_who_53 : decode cX7_who 53 = .ok (.ireturn, 1) := by decide +kernel
theorem dX7_who_54 : decode cX7_who 54 = .ok (.iconst 0, 1) := by decide +kernel
theorem dX7_who_55 : decode cX7_who 55 = .ok (.istore 7, 2) := by decide +kernel
theorem dX7_who_57 : decode cX7_who 57 = .ok (.iload_n 2, 1) := by decide +kernel
theorem dX7_who_58 : decode cX7_who 58 = .ok (.ifCond .ne 7, 3) := by decide +kernel
theorem dX7_who_61 : decode cX7_who 61 = .ok (.iconst 1, 1) := by decide +kernel
theorem dX7_who_62 : decode cX7_who 62 = .ok (.goto 4, 3) := by decide +kernel
theorem dX7_who_65 : decode cX7_who 65 = .ok (.iconst 0, 1) := by decide +kernel
theorem dX7_who_66 : decode cX7_who 66 = .ok (.istore 8, 2) := by decide +kernel
theorem dX7_who_68 : decode cX7_who 68 = .ok (.iload 8, 2) := by decide +kernel
theorem dX7_who_70 : decode cX7_who 70 = .ok (.iload_n 2, 1) := by decide +kernel
theorem dX7_who_71 : decode cX7_who 71 = .ok (.ifCond .ne 7, 3) := by decide +kernel
theorem dX7_who_74 : decode cX7_who 74 = .ok (.iconst 5, 1) := by decide +kernel
theorem dX7_who_75 : decode cX7_who 75 = .ok (.goto 11, 3) := by decide +kernel
theorem dX7_who_78 : decode cX7_who 78 = .ok (.aload_n 0, 1) := by decide +kernel
theorem dX7_who_79 : decode cX7_who 79 = .ok (.getfield 19, 3) := by decide +kernel
theorem dX7_who_82 : decode cX7_who 82 = .ok (.iconst 0, 1) := by decide +kernel
theorem dX7_who_83 : decode cX7_who 83 = .ok (.iaload, 1) := by decide +kernel
theorem dX7_who_84 : decode cX7_who 84 = .ok (.iconst 1, 1) := by decide +kernel
theorem dX7_who_85 : decode cX7_who 85 = .ok (.isub, 1) := by decide +kernel
theorem dX7_who_86 : decode cX7_who 86 = .ok (.if_icmp .gt 78, 3) := by decide +kernel
theorem dX7_who_89 : decode cX7_who 89 = .ok (.aload_n 0, 1) := by decide +kernel
theorem dX7_who_90 : decode cX7_who 90 = .ok (.invokevirtual 233, 3) := by decide +kernel
theorem dX7_who_93 : decode cX7_who 93 = .ok (.iload_n 2, 1) := by decide +kernel
theorem dX7_who_94 : decode cX7_who 94 = .ok (.ifCond .ne 17, 3) := by decide +kernel
theorem dX7_who_97 : decode cX7_who 97 = .ok (.aload_n 0, 1) := by decide +kernel
theorem dX7_who_98 : decode cX7_who 98 = .ok (.getfield 25, 3) := by decide +kernel
theorem dX7_who_101 : decode cX7_who 101 = .ok (.iload_n 1, 1) := by decide +kernel
theorem dX7_who_102 : decode cX7_who 102 = .ok (.iconst 0, 1) := by decide +kernel
theorem dX7_who_103 : decode cX7_who 103 = .ok (.iload 8, 2) := by decide +kernel
theorem dX7_who_105 : decode cX7_who 105 = .ok (.invokestatic 187, 3) := by decide +kernel
theorem dX7_who_108 : decode cX7_who 108 = .ok (.goto 20, 3) := by decide +kernel
theorem dX7_who_111 : decode cX7_who 111 = .ok (.aload_n 0, 1) := by decide +kernel
theorem dX7_who_112 : decode cX7_who 112 = .ok (.getfield 25, 3) := by decide +kernel
theorem dX7_who_115 : decode cX7_who 115 = .ok (.iload_n 1, 1) := by decide +kernel
theorem dX7_who_116 : decode cX7_who 116 = .ok (.aload_n 0, 1) := by decide +kernel
theorem dX7_who_117 : decode cX7_who 117 = .ok (.getfield 25, 3) := by decide +kernel
theorem dX7_who_120 : decode cX7_who 120 = .ok (.iload 8, 2) := by decide +kernel
theorem dX7_who_122 : decode cX7_who 122 = .ok (.invokestatic 165, 3) := by decide +kernel
theorem dX7_who_125 : decode cX7_who 125 = .ok (.invokestatic 214, 3) := by decide +kernel
theorem dX7_who_128 : decode cX7_who 128 = .ok (.iload 7, 2) := by decide +kernel
theorem dX7_who_130 : decode cX7_who 130 = .ok (.aload_n 0, 1) := by decide +kernel
theorem dX7_who_131 : decode cX7_who 131 = .ok (.iload_n 1, 1) := by decide +kernel
theorem dX7_who_132 : decode cX7_who 132 = .ok (.bipush 40, 2) := by decide +kernel
theorem dX7_who_134 : decode cX7_who 134 = .ok (.iload_n 3, 1) := by decide +kernel
theorem dX7_who_135 : decode cX7_who 135 = .ok (.imul, 1) := by decide +kernel
theorem dX7_who_136 : decode cX7_who 136 = .ok (.iload 4, 2) := by decide +kernel
theorem dX7_who_138 : decode cX7_who 138 = .ok (.iadd, 1) := by decide +kernel
theorem dX7_who_139 : decode cX7_who 139 = .ok (.iload 5, 2) := by decide +kernel
theorem dX7_who_141 : decode cX7_who 141 = .ok (.invokevirtual 264, 3) := by decide +kernel
theorem dX7_who_144 : decode cX7_who 144 = .ok (.ifCond .eq 10, 3) := by decide +kernel
theorem dX7_who_147 : decode cX7_who 147 = .ok (.iconst 1, 1) := by decide +kernel
theorem dX7_who_148 : decode cX7_who 148 = .ok (.iload 8, 2) := by decide +kernel
theorem dX7_who_150 : decode cX7_who 150 = .ok (.ishl, 1) := by decide +kernel
theorem dX7_who_151 : decode cX7_who 151 = .ok (.goto 4, 3) := by decide +kernel
theorem dX7_who_154 : decode cX7_who 154 = .ok (.iconst 0, 1) := by decide +kernel
theorem dX7_who_155 : decode cX7_who 155 = .ok (.ior, 1) := by decide +kernel
theorem dX7_who_156 : decode cX7_who 156 = .ok (.istore 7, 2) := by decide +kernel
theorem dX7_who_158 : decode cX7_who 158 = .ok (.iinc 8 1, 3) := by decide +kernel
theorem dX7_who_161 : decode cX7_who 161 = .ok (.goto (-93), 3) := by decide +kernel
theorem dX7_who_164 : decode cX7_who 164 = .ok (.iload 7, 2) := by decide +kernel
theorem dX7_who_166 : decode cX7_who 166 = .ok (.ireturn, 1) := by decide +kernel
theorem dX7_what_0 : decode cX7_what 0 = .ok (.aload_n 0, 1) := by decide +kernel
theorem dX7_what_1 : decode cX7_what 1 = .ok (.iconst 0, 1) := by decide +kernel
theorem dX7_what_2 : decode cX7_what 2 = .ok (.putfield 53, 3) := by decide +kernel
theorem dX7_what_5 : decode cX7_what 5 = .ok (.iload_n 1, 1) := by decide +kernel
theorem dX7_what_6 : decode cX7_what 6 = .ok (.iconst (-1), 1) := by decide +kernel
theorem dX7_what_7 : decode cX7_what 7 = .ok (.if_icmp .eq 11, 3) := by decide +kernel
theorem dX7_what_10 : decode cX7_what 10 = .ok (.aload_n 0, 1) := by decide +kernel
theorem dX7_what_11 : decode cX7_what 11 = .ok (.iload_n 1, 1) := by decide +kernel
theorem dX7_what_12 : decode cX7_what 12 = .ok (.invokevirtual 218, 3) := by decide +kernel
theorem dX7_what_15 : decode cX7_what 15 = .ok (.ifCond .eq 20, 3) := by decide +kernel
theorem dX7_what_18 : decode cX7_what 18 = .ok (.aload_n 0, 1) := by decide +kernel
theorem dX7_what_19 : decode cX7_what 19 = .ok (.iload_n 2, 1) := by decide +kernel
theorem dX7_what_20 : decode cX7_what 20 = .ok (.invokevirtual 211, 3) := by decide +kernel
theorem dX7_what_23 : decode cX7_what 23 = .ok (.ifCond .eq 12, 3) := by decide +kernel
theorem dX7_what_26 : decode cX7_what 26 = .ok (.iload_n 3, 1) := by decide +kernel
theorem dX7_what_27 : decode cX7_what 27 = .ok (.iload 5, 2) := by decide +kernel
theorem dX7_what_29 : decode cX7_what 29 = .ok (.invokestatic 257, 3) := by decide +kernel
theorem dX7_what_32 : decode cX7_what 32 = .ok (.ifCond .ne 6, 3) := by decide +kernel
theorem dX7_what_35 : decode cX7_what 35 = .ok (.ldc 73, 2) := by decide +kernel
theorem dX7_what_37 : decode cX7_what 37 = .ok (.ireturn, 1) := by decide +kernel
theorem dX7_what_38 : decode cX7_what 38 = .ok (.aload_n 0, 1) := by decide +kernel
theorem dX7_what_39 : decode cX7_what 39 = .ok (.iload_n 3, 1) := by decide +kernel
theorem dX7_what_40 : decode cX7_what 40 = .ok (.iload 4, 2) := by decide +kernel
theorem dX7_what_42 : decode cX7_what 42 = .ok (.iload 5, 2) := by decide +kernel
theorem dX7_what_44 : decode cX7_what 44 = .ok (.invokevirtual 260, 3) := by decide +kernel
theorem dX7_what_47 : decode cX7_what 47 = .ok (.istore 6, 2) := by decide +kernel
theorem dX7_what_49 : decode cX7_what 49 = .ok (.iload 6, 2) := by decide +kernel
theorem dX7_what_51 : decode cX7_what 51 = .ok (.ifCond .eq 6, 3) := by decide +kernel
theorem dX7_what_54 : decode cX7_what 54 = .ok (.iload 6, 2) := by decide +kernel
theorem dX7_what_56 : decode cX7_what 56 = .ok (.ireturn, 1) := by decide +kernel
theorem dX7_what_57 : decode cX7_what 57 = .ok (.iconst 0, 1) := by decide +kernel
theorem dX7_what_58 : decode cX7_what 58 = .ok (.istore 7, 2) := by decide +kernel
theorem dX7_what_60 : decode cX7_what 60 = .ok (.iconst 0, 1) := by decide +kernel
theorem dX7_what_61 : decode cX7_what 61 = .ok (.istore 8, 2) := by decide +kernel
theorem dX7_what_63 : decode cX7_what 63 = .ok (.iload 8, 2) := by decide +kernel
theorem dX7_what_65 : decode cX7_what 65 = .ok (.iload_n 1, 1) := by decide +kernel
theorem dX7_what_66 : decode cX7_what 66 = .ok (.iconst (-1), 1) := by decide +kernel
theorem dX7_what_67 : decode cX7_what 67 = .ok (.if_icmp .ne 8, 3) := by decide +kernel
theorem dX7_what_70 : decode cX7_what 70 = .ok (.bipush 6, 2) := by decide +kernel
theorem dX7_what_72 : decode cX7_what 72 = .ok (.goto 11, 3) := by decide +kernel
theorem dX7_what_75 : decode cX7_what 75 = .ok (.aload_n 0, 1) := by decide +kernel
theorem dX7_what_76 : decode cX7_what 76 = .ok (.getfield 19, 3) := by decide +kernel
theorem dX7_what_79 : decode cX7_what 79 = .ok (.iconst 1, 1) := by decide +kernel
theorem dX7_what_80 : decode cX7_what 80 = .ok (.iaload, 1) := by decide +kernel
theorem dX7_what_81 : decode cX7_what 81 = .ok (.iconst 1, 1) := by decide +kernel
theorem dX7_what_82 : decode cX7_what 82 = .ok (.isub, 1) := by decide +kernel
theorem dX7_what_83 : decode cX7_what 83 = .ok (.if_icmp .gt 63, 3) := by decide +kernel
theorem dX7_what_86 : decode cX7_what 86 = .ok (.aload_n 0, 1) := by decide +kernel
theorem dX7_what_87 : decode cX7_what 87 = .ok (.invokevirtual 233, 3) := by decide +kernel
theorem dX7_what_90 : decode cX7_what 90 = .ok (.aload_n 0, 1) := by decide +kernel
theorem dX7_what_91 : decode cX7_what 91 = .ok (.getfield 25, 3) := by decide +kernel
theorem dX7_what_94 : decode cX7_what 94 = .ok (.iload_n 1, 1) := by decide +kernel
theorem dX7_what_95 : decode cX7_what 95 = .ok (.iconst (-1), 1) := by decide +kernel
theorem dX7_what_96 : decode cX7_what 96 = .ok (.if_icmp .ne 7, 3) := by decide +kernel
theorem dX7_what_99 : decode cX7_what 99 = .ok (.iconst 4, 1) := by decide +kernel
theorem dX7_what_100 : decode cX7_what 100 = .ok (.goto 7, 3) := by decide +kernel
theorem dX7_what_103 : decode cX7_what 103 = .ok (.bipush 11, 2) := by decide +kernel
theorem dX7_what_105 : decode cX7_what 105 = .ok (.iload_n 1, 1) := by decide +kernel
theorem dX7_what_106 : decode cX7_what 106 = .ok (.iadd, 1) := by decide +kernel
theorem dX7_what_107 : decode cX7_what 107 = .ok (.iload 8, 2) := by decide +kernel
theorem dX7_what_109 : decode cX7_what 109 = .ok (.iastore, 1) := by decide +kernel
theorem dX7_what_110 : decode cX7_what 110 = .ok (.iload 7, 2) := by decide +kernel
theorem dX7_what_112 : decode cX7_what 112 = .ok (.aload_n 0, 1) := by decide +kernel
theorem dX7_what_113 : decode cX7_what 113 = .ok (.iload_n 2, 1) := by decide +kernel
theorem dX7_what_114 : decode cX7_what 114 = .ok (.bipush 40, 2) := by decide +kernel
theorem dX7_what_116 : decode cX7_what 116 = .ok (.iload_n 3, 1) := by decide +kernel
theorem dX7_what_117 : decode cX7_what 117 = .ok (.imul, 1) := by decide +kernel
theorem dX7_what_118 : decode cX7_what 118 = .ok (.iload 4, 2) := by decide +kernel
theorem dX7_what_120 : decode cX7_what 120 = .ok (.iadd, 1) := by decide +kernel
theorem dX7_what_121 : decode cX7_what 121 = .ok (.iload 5, 2) := by decide +kernel
theorem dX7_what_123 : decode cX7_what 123 = .ok (.invokevirtual 264, 3) := by decide +kernel
theorem dX7_what_126 : decode cX7_what 126 = .ok (.ifCond .eq 10, 3) := by decide +kernel
theorem dX7_what_129 : decode cX7_what 129 = .ok (.iconst 1, 1) := by decide +kernel
theorem dX7_what_130 : decode cX7_what 130 = .ok (.iload 8, 2) := by decide +kernel
theorem dX7_what_132 : decode cX7_what 132 = .ok (.ishl, 1) := by decide +kernel
theorem dX7_what_133 : decode cX7_what 133 = .ok (.goto 4, 3) := by decide +kernel
theorem dX7_what_136 : decode cX7_what 136 = .ok (.iconst 0, 1) := by decide +kernel
theorem dX7_what_137 : decode cX7_what 137 = .ok (.ior, 1) := by decide +kernel
theorem dX7_what_138 : decode cX7_what 138 = .ok (.istore 7, 2) := by decide +kernel
theorem dX7_what_140 : decode cX7_what 140 = .ok (.iinc 8 1, 3) := by decide +kernel
theorem dX7_what_143 : decode cX7_what 143 = .ok (.goto (-80), 3) := by decide +kernel
theorem dX7_what_146 : decode cX7_what 146 = .ok (.iload 7, 2) := by decide +kernel
theorem dX7_what_148 : decode cX7_what 148 = .ok (.ireturn, 1) := by decide +kernel
theorem dX7_thought_0 : decode cX7_thought 0 = .ok (.aload_n 0, 1) := by decide +kernel
theorem dX7_thought_1 : decode cX7_thought 1 = .ok (.iconst 0, 1) := by decide +kernel
theorem dX7_thought_2 : decode cX7_thought 2 = .ok (.putfield 53, 3) := by decide +kernel
theorem dX7_thought_5 : decode cX7_thought 5 = .ok (.aload_n 0, 1) := by decide +kernel
theorem dX7_thought_6 : decode cX7_thought 6 = .ok (.iload_n 1, 1) := by decide +kernel
theorem dX7_thought_7 : decode cX7_thought 7 = .ok (.invokevirtual 211, 3) := by decide +kernel
theorem dX7_thought_10 : decode cX7_thought 10 = .ok (.ifCond .eq 47, 3) := by decide +kernel
theorem dX7_thought_13 : decode cX7_thought 13 = .ok (.aload_n 0, 1) := by decide +kernel
theorem dX7_thought_14 : decode cX7_thought 14 = .ok (.iload_n 2, 1) := by decide +kernel
theorem dX7_thought_15 : decode cX7_thought 15 = .ok (.invokevirtual 221, 3) := by decide +kernel
theorem dX7_thought_18 : decode cX7_thought 18 = .ok (.ifCond .eq 39, 3) := by decide +kernel
theorem dX7_thought_21 : decode cX7_thought 21 = .ok (.iload_n 3, 1) := by decide +kernel
theorem dX7_thought_22 : decode cX7_thought 22 = .ok (.i2l, 1) := by decide +kernel
theorem dX7_thought_23 : decode cX7_thought 23 = .ok (.lconst 0, 1) := by decide +kernel
theorem dX7_thought_24 : decode cX7_thought 24 = .ok (.ldc2_w 268, 3) := by decide +kernel
theorem dX7_thought_27 : decode cX7_thought 27 = .ok (.invokestatic 63, 3) := by decide +kernel
theorem dX7_thought_30 : decode cX7_thought 30 = .ok (.ifCond .eq 27, 3) := by decide +kernel
theorem dX7_thought_33 : decode cX7_thought 33 = .ok (.iload 4, 2) := by decide +kernel
theorem dX7_thought_35 : decode cX7_thought 35 = .ok (.i2l, 1) := by decide +kernel
theorem dX7_thought_36 : decode cX7_thought 36 = .ok (.lconst 0, 1) := by decide +kernel
theorem dX7_thought_37 : decode cX7_thought 37 = .ok (.ldc2_w 270, 3) := by decide +kernel
theorem dX7_thought_40 : decode cX7_thought 40 = .ok (.invokestatic 63, 3) := by decide +kernel
theorem dX7_thought_43 : decode cX7_thought 43 = .ok (.ifCond .eq 14, 3) := by decide +kernel
theorem dX7_thought_46 : decode cX7_thought 46 = .ok (.iload 5, 2) := by decide +kernel
theorem dX7_thought_48 : decode cX7_thought 48 = .ok (.i2l, 1) := by decide +kernel
theorem dX7_thought_49 : decode cX7_thought 49 = .ok (.lconst 0, 1) := by decide +kernel
theorem dX7_thought_50 : decode cX7_thought 50 = .ok (.lconst 1, 1) := by decide +kernel
theorem dX7_thought_51 : decode cX7_thought 51 = .ok (.invokestatic 63, 3) := by decide +kernel
theorem dX7_thought_54 : decode cX7_thought 54 = .ok (.ifCond .ne 7, 3) := by decide +kernel
theorem dX7_thought_57 : decode cX7_thought 57 = .ok (.ldc2_w 272, 3) := by decide +kernel
theorem dX7_thought_60 : decode cX7_thought 60 = .ok (.lreturn, 1) := by decide +kernel
theorem dX7_thought_61 : decode cX7_thought 61 = .ok (.lconst 0, 1) := by decide +kernel
theorem dX7_thought_62 : decode cX7_thought 62 = .ok (.lstore 6, 2) := by decide +kernel
theorem dX7_thought_64 : decode cX7_thought 64 = .ok (.lconst 0, 1) := by decide +kernel
theorem dX7_thought_65 : decode cX7_thought 65 = .ok (.lstore 8, 2) := by decide +kernel
theorem dX7_thought_67 : decode cX7_thought 67 = .ok (.iconst 0, 1) := by decide +kernel
theorem dX7_thought_68 : decode cX7_thought 68 = .ok (.istore 10, 2) := by decide +kernel
theorem dX7_thought_70 : decode cX7_thought 70 = .ok (.iload 10, 2) := by decide +kernel
theorem dX7_thought_72 : decode cX7_thought 72 = .ok (.iconst 1, 1) := by decide +kernel
theorem dX7_thought_73 : decode cX7_thought 73 = .ok (.iload_n 3, 1) := by decide +kernel
theorem dX7_thought_74 : decode cX7_thought 74 = .ok (.ishl, 1) := by decide +kernel
theorem dX7_thought_75 : decode cX7_thought 75 = .ok (.if_icmp .ge 116, 3) := by decide +kernel
theorem dX7_thought_78 : decode cX7_thought 78 = .ok (.lconst 1, 1) := by decide +kernel
theorem dX7_thought_79 : decode cX7_thought 79 = .ok (.lstore 11, 2) := by decide +kernel
theorem dX7_thought_81 : decode cX7_thought 81 = .ok (.aload_n 0, 1) := by decide +kernel
theorem dX7_thought_82 : decode cX7_thought 82 = .ok (.invokevirtual 233, 3) := by decide +kernel
theorem dX7_thought_85 : decode cX7_thought 85 = .ok (.iconst 0, 1) := by decide +kernel
theorem dX7_thought_86 : decode cX7_thought 86 = .ok (.istore 13, 2) := by decide +kernel
theorem dX7_thought_88 : decode cX7_thought 88 = .ok (.iload 13, 2) := by decide +kernel
theorem dX7_thought_90 : decode cX7_thought 90 = .ok (.iload_n 3, 1) := by decide +kernel
theorem dX7_thought_91 : decode cX7_thought 91 = .ok (.if_icmp .ge 60, 3) := by decide +kernel
theorem dX7_thought_94 : decode cX7_thought 94 = .ok (.iload 10, 2) := by decide +kernel
theorem dX7_thought_96 : decode cX7_thought 96 = .ok (.iload 13, 2) := by decide +kernel
theorem dX7_thought_98 : decode cX7_thought 98 = .ok (.ishr, 1) := by decide +kernel
theorem dX7_thought_99 : decode cX7_thought 99 = .ok (.iconst 1, 1) := by decide +kernel
theorem dX7_thought_100 : decode cX7_thought 100 = .ok (.iand, 1) := by decide +kernel
theorem dX7_thought_101 : decode cX7_thought 101 = .ok (.iconst 1, 1) := by decide +kernel
theorem dX7_thought_102 : decode cX7_thought 102 = .ok (.if_icmp .ne 7, 3) := by decide +kernel
theorem dX7_thought_105 : decode cX7_thought 105 = .ok (.iconst 1, 1) := by decide +kernel
theorem dX7_thought_106 : decode cX7_thought 106 = .ok (.goto 4, 3) := by decide +kernel
theorem dX7_thought_109 : decode cX7_thought 109 = .ok (.iconst 0, 1) := by decide +kernel
theorem dX7_thought_110 : decode cX7_thought 110 = .ok (.istore 14, 2) := by decide +kernel
theorem dX7_thought_112 : decode cX7_thought 112 = .ok (.lload 11, 2) := by decide +kernel
theorem dX7_thought_114 : decode cX7_thought 114 = .ok (.iload 14, 2) := by decide +kernel
theorem dX7_thought_116 : decode cX7_thought 116 = .ok (.ifCond .eq 9, 3) := by decide +kernel
theorem dX7_thought_119 : decode cX7_thought 119 = .ok (.iload 4, 2) := by decide +kernel
theorem dX7_thought_121 : decode cX7_thought 121 = .ok (.i2l, 1) := by decide +kernel
theorem dX7_thought_122 : decode cX7_thought 122 = .ok (.goto 10, 3) := by decide +kernel
theorem dX7_thought_125 : decode cX7_thought 125 = .ok (.ldc2_w 270, 3) := by decide +kernel
theorem dX7_thought_128 : decode cX7_thought 128 = .ok (.iload 4, 2) := by decide +kernel
theorem dX7_thought_130 : decode cX7_thought 130 = .ok (.i2l, 1) := by decide +kernel
theorem dX7_thought_131 : decode cX7_thought 131 = .ok (.lsub, 1) := by decide +kernel
theorem dX7_thought_132 : decode cX7_thought 132 = .ok (.lmul, 1) := by decide +kernel
theorem dX7_thought_133 : decode cX7_thought 133 = .ok (.lstore 11, 2) := by decide +kernel
theorem dX7_thought_135 : decode cX7_thought 135 = .ok (.aload_n 0, 1) := by decide +kernel
theorem dX7_thought_136 : decode cX7_thought 136 = .ok (.aload_n 0, 1) := by decide +kernel
theorem dX7_thought_137 : decode cX7_thought 137 = .ok (.getfield 25, 3) := by decide +kernel
theorem dX7_thought_140 : decode cX7_thought 140 = .ok (.iload 14, 2) := by decide +kernel
theorem dX7_thought_142 : decode cX7_thought 142 = .ok (.invokevirtual 194, 3) := by decide +kernel
theorem dX7_thought_145 : decode cX7_thought 145 = .ok (.iinc 13 1, 3) := by decide +kernel
theorem dX7_thought_148 : decode cX7_thought 148 = .ok (.goto (-60), 3) := by decide +kernel
theorem dX7_thought_151 : decode cX7_thought 151 = .ok (.lload 8, 2) := by decide +kernel
theorem dX7_thought_153 : decode cX7_thought 153 = .ok (.lload 11, 2) := by decide +kernel
theorem dX7_thought_155 : decode cX7_thought 155 = .ok (.ladd, 1) := by decide +kernel
theorem dX7_thought_156 : decode cX7_thought 156 = .ok (.lstore 8, 2) := by decide +kernel
theorem dX7_thought_158 : decode cX7_thought 158 = .ok (.lload 6, 2) := by decide +kernel
theorem dX7_thought_160 : decode cX7_thought 160 = .ok (.aload_n 0, 1) := by decide +kernel
theorem dX7_thought_161 : decode cX7_thought 161 = .ok (.getfield 25, 3) := by decide +kernel
theorem dX7_thought_164 : decode cX7_thought 164 = .ok (.iload_n 1, 1) := by decide +kernel
theorem dX7_thought_165 : decode cX7_thought 165 = .ok (.iconst 2, 1) := by decide +kernel
theorem dX7_thought_166 : decode cX7_thought 166 = .ok (.invokestatic 161, 3) := by decide +kernel
theorem dX7_thought_169 : decode cX7_thought 169 = .ok (.iload_n 2, 1) := by decide +kernel
theorem dX7_thought_170 : decode cX7_thought 170 = .ok (.invokestatic 172, 3) := by decide +kernel
theorem dX7_thought_173 : decode cX7_thought 173 = .ok (.ifCond .eq 8, 3) := by decide +kernel
theorem dX7_thought_176 : decode cX7_thought 176 = .ok (.lload 11, 2) := by decide +kernel
theorem dX7_thought_178 : decode cX7_thought 178 = .ok (.goto 4, 3) := by decide +kernel
theorem dX7_thought_181 : decode cX7_thought 181 = .ok (.lconst 0, 1) := by decide +kernel
theorem dX7_thought_182 : decode cX7_thought 182 = .ok (.ladd, 1) := by decide +kernel
theorem dX7_thought_183 : decode cX7_thought 183 = .ok (.lstore 6, 2) := by decide +kernel
theorem dX7_thought_185 : decode cX7_thought 185 = .ok (.iinc 10 1, 3) := by decide +kernel
theorem dX7_thought_188 : decode cX7_thought 188 = .ok (.goto (-118), 3) := by decide +kernel
theorem dX7_thought_191 : decode cX7_thought 191 = .ok (.lload 6, 2) := by decide +kernel
theorem dX7_thought_193 : decode cX7_thought 193 = .ok (.lstore 10, 2) := by decide +kernel
theorem dX7_thought_195 : decode cX7_thought 195 = .ok (.lload 8, 2) := by decide +kernel
theorem dX7_thought_197 : decode cX7_thought 197 = .ok (.lstore 12, 2) := by decide +kernel
theorem dX7_thought_199 : decode cX7_thought 199 = .ok (.lload 12, 2) := by decide +kernel
theorem dX7_thought_201 : decode cX7_thought 201 = .ok (.lconst 0, 1) := by decide +kernel
theorem dX7_thought_202 : decode cX7_thought 202 = .ok (.lcmp, 1) := by decide +kernel
theorem dX7_thought_203 : decode cX7_thought 203 = .ok (.ifCond .eq 21, 3) := by decide +kernel
theorem dX7_thought_206 : decode cX7_thought 206 = .ok (.lload 10, 2) := by decide +kernel
theorem dX7_thought_208 : decode cX7_thought 208 = .ok (.lload 12, 2) := by decide +kernel
theorem dX7_thought_210 : decode cX7_thought 210 = .ok (.lrem, 1) := by decide +kernel
theorem dX7_thought_211 : decode cX7_thought 211 = .ok (.lstore 14, 2) := by decide +kernel
theorem dX7_thought_213 : decode cX7_thought 213 = .ok (.lload 12, 2) := by decide +kernel
theorem dX7_thought_215 : decode cX7_thought 215 = .ok (.lstore 10, 2) := by decide +kernel
theorem dX7_thought_217 : decode cX7_thought 217 = .ok (.lload 14, 2) := by decide +kernel
theorem dX7_thought_219 : decode cX7_thought 219 = .ok (.lstore 12, 2) := by decide +kernel
theorem dX7_thought_221 : decode cX7_thought 221 = .ok (.goto (-22), 3) := by decide +kernel
theorem dX7_thought_224 : decode cX7_thought 224 = .ok (.iload 5, 2) := by decide +kernel
theorem dX7_thought_226 : decode cX7_thought 226 = .ok (.ifCond .ne 8, 3) := by decide +kernel
theorem dX7_thought_229 : decode cX7_thought 229 = .ok (.lload 6, 2) := by decide +kernel
theorem dX7_thought_231 : decode cX7_thought 231 = .ok (.goto 5, 3) := by decide +kernel
theorem dX7_thought_234 : decode cX7_thought 234 = .ok (.lload 8, 2) := by decide +kernel
theorem dX7_thought_236 : decode cX7_thought 236 = .ok (.lload 10, 2) := by decide +kernel
theorem dX7_thought_238 : decode cX7_thought 238 = .ok (.ldiv, 1) := by decide +kernel
theorem dX7_thought_239 : decode cX7_thought 239 = .ok (.lreturn, 1) := by decide +kernel
theorem dX7_drawn_0 : decode cX7_drawn 0 = .ok (.aload_n 0, 1) := by decide +kernel
theorem dX7_drawn_1 : decode cX7_drawn 1 = .ok (.iconst 0, 1) := by decide +kernel
theorem dX7_drawn_2 : decode cX7_drawn 2 = .ok (.putfield 53, 3) := by decide +kernel
theorem dX7_drawn_5 : decode cX7_drawn 5 = .ok (.aload_n 0, 1) := by decide +kernel
theorem dX7_drawn_6 : decode cX7_drawn 6 = .ok (.invokevirtual 198, 3) := by decide +kernel
theorem dX7_drawn_9 : decode cX7_drawn 9 = .ok (.ifCond .ne 6, 3) := by decide +kernel
theorem dX7_drawn_12 : decode cX7_drawn 12 = .ok (.ldc 201, 2) := by decide +kernel
theorem dX7_drawn_14 : decode cX7_drawn 14 = .ok (.ireturn, 1) := by decide +kernel
theorem dX7_drawn_15 : decode cX7_drawn 15 = .ok (.iload_n 1, 1) := by decide +kernel
theorem dX7_drawn_16 : decode cX7_drawn 16 = .ok (.i2l, 1) := by decide +kernel
theorem dX7_drawn_17 : decode cX7_drawn 17 = .ok (.lconst 0, 1) := by decide +kernel
theorem dX7_drawn_18 : decode cX7_drawn 18 = .ok (.ldc2_w 231, 3) := by decide +kernel
theorem dX7_drawn_21 : decode cX7_drawn 21 = .ok (.invokestatic 63, 3) := by decide +kernel
theorem dX7_drawn_24 : decode cX7_drawn 24 = .ok (.ifCond .eq 25, 3) := by decide +kernel
theorem dX7_drawn_27 : decode cX7_drawn 27 = .ok (.iload_n 2, 1) := by decide +kernel
theorem dX7_drawn_28 : decode cX7_drawn 28 = .ok (.i2l, 1) := by decide +kernel
theorem dX7_drawn_29 : decode cX7_drawn 29 = .ok (.lconst 1, 1) := by decide +kernel
theorem dX7_drawn_30 : decode cX7_drawn 30 = .ok (.ldc2_w 274, 3) := by decide +kernel
theorem dX7_drawn_33 : decode cX7_drawn 33 = .ok (.invokestatic 63, 3) := by decide +kernel
theorem dX7_drawn_36 : decode cX7_drawn 36 = .ok (.ifCond .eq 13, 3) := by decide +kernel
theorem dX7_drawn_39 : decode cX7_drawn 39 = .ok (.iload_n 3, 1) := by decide +kernel
theorem dX7_drawn_40 : decode cX7_drawn 40 = .ok (.i2l, 1) := by decide +kernel
theorem dX7_drawn_41 : decode cX7_drawn 41 = .ok (.lconst 0, 1) := by decide +kernel
theorem dX7_drawn_42 : decode cX7_drawn 42 = .ok (.lconst 1, 1) := by decide +kernel
theorem dX7_drawn_43 : decode cX7_drawn 43 = .ok (.invokestatic 63, 3) := by decide +kernel
theorem dX7_drawn_46 : decode cX7_drawn 46 = .ok (.ifCond .ne 6, 3) := by decide +kernel
theorem dX7_drawn_49 : decode cX7_drawn 49 = .ok (.ldc 73, 2) := by decide +kernel
theorem dX7_drawn_51 : decode cX7_drawn 51 = .ok (.ireturn, 1) := by decide +kernel
theorem dX7_drawn_52 : decode cX7_drawn 52 = .ok (.aload_n 0, 1) := by decide +kernel
theorem dX7_drawn_53 : decode cX7_drawn 53 = .ok (.invokevirtual 233, 3) := by decide +kernel
theorem dX7_drawn_56 : decode cX7_drawn 56 = .ok (.iload_n 2, 1) := by decide +kernel
theorem dX7_drawn_57 : decode cX7_drawn 57 = .ok (.i2l, 1) := by decide +kernel
theorem dX7_drawn_58 : decode cX7_drawn 58 = .ok (.lstore 4, 2) := by decide +kernel
theorem dX7_drawn_60 : decode cX7_drawn 60 = .ok (.iconst 0, 1) := by decide +kernel
theorem dX7_drawn_61 : decode cX7_drawn 61 = .ok (.istore 6, 2) := by decide +kernel
theorem dX7_drawn_63 : decode cX7_drawn 63 = .ok (.iload 6, 2) := by decide +kernel
theorem dX7_drawn_65 : decode cX7_drawn 65 = .ok (.iload_n 1, 1) := by decide +kernel
theorem dX7_drawn_66 : decode cX7_drawn 66 = .ok (.if_icmp .ge 126, 3) := by decide +kernel
theorem dX7_drawn_69 : decode cX7_drawn 69 = .ok (.lload 4, 2) := by decide +kernel
theorem dX7_drawn_71 : decode cX7_drawn 71 = .ok (.ldc2_w 276, 3) := by decide +kernel
theorem dX7_drawn_74 : decode cX7_drawn 74 = .ok (.lmul, 1) := by decide +kernel
theorem dX7_drawn_75 : decode cX7_drawn 75 = .ok (.ldc2_w 278, 3) := by decide +kernel
theorem dX7_drawn_78 : decode cX7_drawn 78 = .ok (.lrem, 1) := by decide +kernel
theorem dX7_drawn_79 : decode cX7_drawn 79 = .ok (.lstore 4, 2) := by decide +kernel
theorem dX7_drawn_81 : decode cX7_drawn 81 = .ok (.lload 4, 2) := by decide +kernel
theorem dX7_drawn_83 : decode cX7_drawn 83 = .ok (.aload_n 0, 1) := by decide +kernel
theorem dX7_drawn_84 : decode cX7_drawn 84 = .ok (.getfield 25, 3) := by decide +kernel
theorem dX7_drawn_87 : decode cX7_drawn 87 = .ok (.iconst 1, 1) := by decide +kernel
theorem dX7_drawn_88 : decode cX7_drawn 88 = .ok (.iaload, 1) := by decide +kernel
theorem dX7_drawn_89 : decode cX7_drawn 89 = .ok (.i2l, 1) := by decide +kernel
theorem dX7_drawn_90 : decode cX7_drawn 90 = .ok (.lrem, 1) := by decide +kernel
theorem dX7_drawn_91 : decode cX7_drawn 91 = .ok (.l2i, 1) := by decide +kernel
theorem dX7_drawn_92 : decode cX7_drawn 92 = .ok (.istore 7, 2) := by decide +kernel
theorem dX7_drawn_94 : decode cX7_drawn 94 = .ok (.lload 4, 2) := by decide +kernel
theorem dX7_drawn_96 : decode cX7_drawn 96 = .ok (.ldc2_w 280, 3) := by decide +kernel
theorem dX7_drawn_99 : decode cX7_drawn 99 = .ok (.lrem, 1) := by decide +kernel
theorem dX7_drawn_100 : decode cX7_drawn 100 = .ok (.lconst 0, 1) := by decide +kernel
theorem dX7_drawn_101 : decode cX7_drawn 101 = .ok (.lcmp, 1) := by decide +kernel
theorem dX7_drawn_102 : decode cX7_drawn 102 = .ok (.ifCond .ne 24, 3) := by decide +kernel
theorem dX7_drawn_105 : decode cX7_drawn 105 = .ok (.aload_n 0, 1) := by decide +kernel
theorem dX7_drawn_106 : decode cX7_drawn 106 = .ok (.getfield 25, 3) := by decide +kernel
theorem dX7_drawn_109 : decode cX7_drawn 109 = .ok (.bipush 11, 2) := by decide +kernel
theorem dX7_drawn_111 : decode cX7_drawn 111 = .ok (.lload 4, 2) := by decide +kernel
theorem dX7_drawn_113 : decode cX7_drawn 113 = .ok (.aload_n 0, 1) := by decide +kernel
theorem dX7_drawn_114 : decode cX7_drawn 114 = .ok (.getfield 25, 3) := by decide +kernel
theorem dX7_drawn_117 : decode cX7_drawn 117 = .ok (.iconst 2, 1) := by decide +kernel
theorem dX7_drawn_118 : decode cX7_drawn 118 = .ok (.iaload, 1) := by decide +kernel
theorem dX7_drawn_119 : decode cX7_drawn 119 = .ok (.i2l, 1) := by decide +kernel
theorem dX7_drawn_120 : decode cX7_drawn 120 = .ok (.lrem, 1) := by decide +kernel
theorem dX7_drawn_121 : decode cX7_drawn 121 = .ok (.l2i, 1) := by decide +kernel
theorem dX7_drawn_122 : decode cX7_drawn 122 = .ok (.iadd, 1) := by decide +kernel
theorem dX7_drawn_123 : decode cX7_drawn 123 = .ok (.iload 7, 2) := by decide +kernel
theorem dX7_drawn_125 : decode cX7_drawn 125 = .ok (.iastore, 1) := by decide +kernel
theorem dX7_drawn_126 : decode cX7_drawn 126 = .ok (.lload 4, 2) := by decide +kernel
theorem dX7_drawn_128 : decode cX7_drawn 128 = .ok (.ldc2_w 282, 3) := by decide +kernel
theorem dX7_drawn_131 : decode cX7_drawn 131 = .ok (.lrem, 1) := by decide +kernel
theorem dX7_drawn_132 : decode cX7_drawn 132 = .ok (.lconst 0, 1) := by decide +kernel
theorem dX7_drawn_133 : decode cX7_drawn 133 = .ok (.lcmp, 1) := by decide +kernel
theorem dX7_drawn_134 : decode cX7_drawn 134 = .ok (.ifCond .ne 43, 3) := by decide +kernel
theorem dX7_drawn_137 : decode cX7_drawn 137 = .ok (.lload 4, 2) := by decide +kernel
theorem dX7_drawn_139 : decode cX7_drawn 139 = .ok (.aload_n 0, 1) := by decide +kernel
theorem dX7_drawn_140 : decode cX7_drawn 140 = .ok (.getfield 25, 3) := by decide +kernel
theorem dX7_drawn_143 : decode cX7_drawn 143 = .ok (.iconst 0, 1) := by decide +kernel
theorem dX7_drawn_144 : decode cX7_drawn 144 = .ok (.iaload, 1) := by decide +kernel
theorem dX7_drawn_145 : decode cX7_drawn 145 = .ok (.i2l, 1) := by decide +kernel
theorem dX7_drawn_146 : decode cX7_drawn 146 = .ok (.lrem, 1) := by decide +kernel
theorem dX7_drawn_147 : decode cX7_drawn 147 = .ok (.l2i, 1) := by decide +kernel
theorem dX7_drawn_148 : decode cX7_drawn 148 = .ok (.istore 8, 2) := by decide +kernel
theorem dX7_drawn_150 : decode cX7_drawn 150 = .ok (.aload_n 0, 1) := by decide +kernel
theorem dX7_drawn_151 : decode cX7_drawn 151 = .ok (.getfield 25, 3) := by decide +kernel
theorem dX7_drawn_154 : decode cX7_drawn 154 = .ok (.iload 8, 2) := by decide +kernel
theorem dX7_drawn_156 : decode cX7_drawn 156 = .ok (.iconst 2, 1) := by decide +kernel
theorem dX7_drawn_157 : decode cX7_drawn 157 = .ok (.aload_n 0, 1) := by decide +kernel
theorem dX7_drawn_158 : decode cX7_drawn 158 = .ok (.getfield 25, 3) := by decide +kernel
theorem dX7_drawn_161 : decode cX7_drawn 161 = .ok (.iload 8, 2) := by decide +kernel
theorem dX7_drawn_163 : decode cX7_drawn 163 = .ok (.iconst 2, 1) := by decide +kernel
theorem dX7_drawn_164 : decode cX7_drawn 164 = .ok (.invokestatic 161, 3) := by decide +kernel
theorem dX7_drawn_167 : decode cX7_drawn 167 = .ok (.iconst 1, 1) := by decide +kernel
theorem dX7_drawn_168 : decode cX7_drawn 168 = .ok (.iload 7, 2) := by decide +kernel
theorem dX7_drawn_170 : decode cX7_drawn 170 = .ok (.ishl, 1) := by decide +kernel
theorem dX7_drawn_171 : decode cX7_drawn 171 = .ok (.iconst (-1), 1) := by decide +kernel
theorem dX7_drawn_172 : decode cX7_drawn 172 = .ok (.ixor, 1) := by decide +kernel
theorem dX7_drawn_173 : decode cX7_drawn 173 = .ok (.iand, 1) := by decide +kernel
theorem dX7_drawn_174 : decode cX7_drawn 174 = .ok (.invokestatic 187, 3) := by decide +kernel
theorem dX7_drawn_177 : decode cX7_drawn 177 = .ok (.aload_n 0, 1) := by decide +kernel
theorem dX7_drawn_178 : decode cX7_drawn 178 = .ok (.aload_n 0, 1) := by decide +kernel
theorem dX7_drawn_179 : decode cX7_drawn 179 = .ok (.getfield 25, 3) := by decide +kernel
theorem dX7_drawn_182 : decode cX7_drawn 182 = .ok (.iconst 0, 1) := by decide +kernel
theorem dX7_drawn_183 : decode cX7_drawn 183 = .ok (.invokevirtual 194, 3) := by decide +kernel
theorem dX7_drawn_186 : decode cX7_drawn 186 = .ok (.iinc 6 1, 3) := by decide +kernel
theorem dX7_drawn_189 : decode cX7_drawn 189 = .ok (.goto (-126), 3) := by decide +kernel
theorem dX7_drawn_192 : decode cX7_drawn 192 = .ok (.iload_n 3, 1) := by decide +kernel
theorem dX7_drawn_193 : decode cX7_drawn 193 = .ok (.ifCond .ne 13, 3) := by decide +kernel
theorem dX7_drawn_196 : decode cX7_drawn 196 = .ok (.aload_n 0, 1) := by decide +kernel
theorem dX7_drawn_197 : decode cX7_drawn 197 = .ok (.getfield 25, 3) := by decide +kernel
theorem dX7_drawn_200 : decode cX7_drawn 200 = .ok (.invokestatic 207, 3) := by decide +kernel
theorem dX7_drawn_203 : decode cX7_drawn 203 = .ok (.goto 11, 3) := by decide +kernel
theorem dX7_drawn_206 : decode cX7_drawn 206 = .ok (.aload_n 0, 1) := by decide +kernel
theorem dX7_drawn_207 : decode cX7_drawn 207 = .ok (.getfield 25, 3) := by decide +kernel
theorem dX7_drawn_210 : decode cX7_drawn 210 = .ok (.iconst 1, 1) := by decide +kernel
theorem dX7_drawn_211 : decode cX7_drawn 211 = .ok (.invokestatic 240, 3) := by decide +kernel
theorem dX7_drawn_214 : decode cX7_drawn 214 = .ok (.ireturn, 1) := by decide +kernel
theorem dX7_image_0 : decode cX7_image 0 = .ok (.aload_n 0, 1) := by decide +kernel
theorem dX7_image_1 : decode cX7_image 1 = .ok (.iconst 0, 1) := by decide +kernel
theorem dX7_image_2 : decode cX7_image 2 = .ok (.putfield 53, 3) := by decide +kernel
theorem dX7_image_5 : decode cX7_image 5 = .ok (.iload_n 1, 1) := by decide +kernel
theorem dX7_image_6 : decode cX7_image 6 = .ok (.i2l, 1) := by decide +kernel
theorem dX7_image_7 : decode cX7_image 7 = .ok (.lconst 0, 1) := by decide +kernel
theorem dX7_image_8 : decode cX7_image 8 = .ok (.lconst 1, 1) := by decide +kernel
theorem dX7_image_9 : decode cX7_image 9 = .ok (.invokestatic 63, 3) := by decide +kernel
theorem dX7_image_12 : decode cX7_image 12 = .ok (.ifCond .ne 6, 3) := by decide +kernel
theorem dX7_image_15 : decode cX7_image 15 = .ok (.ldc 73, 2) := by decide +kernel
theorem dX7_image_17 : decode cX7_image 17 = .ok (.ireturn, 1) := by decide +kernel
theorem dX7_image_18 : decode cX7_image 18 = .ok (.aload_n 0, 1) := by decide +kernel
theorem dX7_image_19 : decode cX7_image 19 = .ok (.invokevirtual 198, 3) := by decide +kernel
theorem dX7_image_22 : decode cX7_image 22 = .ok (.ifCond .ne 6, 3) := by decide +kernel
theorem dX7_image_25 : decode cX7_image 25 = .ok (.ldc 201, 2) := by decide +kernel
theorem dX7_image_27 : decode cX7_image 27 = .ok (.ireturn, 1) := by decide +kernel
theorem dX7_image_28 : decode cX7_image 28 = .ok (.iconst 0, 1) := by decide +kernel
theorem dX7_image_29 : decode cX7_image 29 = .ok (.istore_n 2, 1) := by decide +kernel
theorem dX7_image_30 : decode cX7_image 30 = .ok (.iload_n 2, 1) := by decide +kernel
theorem dX7_image_31 : decode cX7_image 31 = .ok (.bipush 73, 2) := by decide +kernel
theorem dX7_image_33 : decode cX7_image 33 = .ok (.if_icmp .ge 26, 3) := by decide +kernel
theorem dX7_image_36 : decode cX7_image 36 = .ok (.aload_n 0, 1) := by decide +kernel
theorem dX7_image_37 : decode cX7_image 37 = .ok (.getfield 47, 3) := by decide +kernel
theorem dX7_image_40 : decode cX7_image 40 = .ok (.bipush 73, 2) := by decide +kernel
theorem dX7_image_42 : decode cX7_image 42 = .ok (.iload_n 1, 1) := by decide +kernel
theorem dX7_image_43 : decode cX7_image 43 = .ok (.imul, 1) := by decide +kernel
theorem dX7_image_44 : decode cX7_image 44 = .ok (.iload_n 2, 1) := by decide +kernel
theorem dX7_image_45 : decode cX7_image 45 = .ok (.iadd, 1) := by decide +kernel
theorem dX7_image_46 : decode cX7_image 46 = .ok (.aload_n 0, 1) := by decide +kernel
theorem dX7_image_47 : decode cX7_image 47 = .ok (.getfield 19, 3) := by decide +kernel
theorem dX7_image_50 : decode cX7_image 50 = .ok (.iload_n 2, 1) := by decide +kernel
theorem dX7_image_51 : decode cX7_image 51 = .ok (.iaload, 1) := by decide +kernel
theorem dX7_image_52 : decode cX7_image 52 = .ok (.iastore, 1) := by decide +kernel
theorem dX7_image_53 : decode cX7_image 53 = .ok (.iinc 2 1, 3) := by decide +kernel
theorem dX7_image_56 : decode cX7_image 56 = .ok (.goto (-26), 3) := by decide +kernel
theorem dX7_image_59 : decode cX7_image 59 = .ok (.aload_n 0, 1) := by decide +kernel
theorem dX7_image_60 : decode cX7_image 60 = .ok (.getfield 44, 3) := by decide +kernel
theorem dX7_image_63 : decode cX7_image 63 = .ok (.iload_n 1, 1) := by decide +kernel
theorem dX7_image_64 : decode cX7_image 64 = .ok (.iconst 1, 1) := by decide +kernel
theorem dX7_image_65 : decode cX7_image 65 = .ok (.bastore, 1) := by decide +kernel
theorem dX7_image_66 : decode cX7_image 66 = .ok (.iconst 1, 1) := by decide +kernel
theorem dX7_image_67 : decode cX7_image 67 = .ok (.ireturn, 1) := by decide +kernel
theorem dX7_restore_0 : decode cX7_restore 0 = .ok (.aload_n 0, 1) := by decide +kernel
theorem dX7_restore_1 : decode cX7_restore 1 = .ok (.iconst 0, 1) := by decide +kernel
theorem dX7_restore_2 : decode cX7_restore 2 = .ok (.putfield 53, 3) := by decide +kernel
theorem dX7_restore_5 : decode cX7_restore 5 = .ok (.iload_n 1, 1) := by decide +kernel
theorem dX7_restore_6 : decode cX7_restore 6 = .ok (.i2l, 1) := by decide +kernel
theorem dX7_restore_7 : decode cX7_restore 7 = .ok (.lconst 0, 1) := by decide +kernel
theorem dX7_restore_8 : decode cX7_restore 8 = .ok (.lconst 1, 1) := by decide +kernel
theorem dX7_restore_9 : decode cX7_restore 9 = .ok (.invokestatic 63, 3) := by decide +kernel
theorem dX7_restore_12 : decode cX7_restore 12 = .ok (.ifCond .ne 6, 3) := by decide +kernel
theorem dX7_restore_15 : decode cX7_restore 15 = .ok (.ldc 73, 2) := by decide +kernel
theorem dX7_restore_17 : decode cX7_restore 17 = .ok (.ireturn, 1) := by decide +kernel
theorem dX7_restore_18 : decode cX7_restore 18 = .ok (.aload_n 0, 1) := by decide +kernel
theorem dX7_restore_19 : decode cX7_restore 19 = .ok (.getfield 44, 3) := by decide +kernel
theorem dX7_restore_22 : decode cX7_restore 22 = .ok (.iload_n 1, 1) := by decide +kernel
theorem dX7_restore_23 : decode cX7_restore 23 = .ok (.baload, 1) := by decide +kernel
theorem dX7_restore_24 : decode cX7_restore 24 = .ok (.ifCond .ne 6, 3) := by decide +kernel
theorem dX7_restore_27 : decode cX7_restore 27 = .ok (.ldc 201, 2) := by decide +kernel
theorem dX7_restore_29 : decode cX7_restore 29 = .ok (.ireturn, 1) := by decide +kernel
theorem dX7_restore_30 : decode cX7_restore 30 = .ok (.iconst 0, 1) := by decide +kernel
theorem dX7_restore_31 : decode cX7_restore 31 = .ok (.istore_n 2, 1) := by decide +kernel
theorem dX7_restore_32 : decode cX7_restore 32 = .ok (.iload_n 2, 1) := by decide +kernel
theorem dX7_restore_33 : decode cX7_restore 33 = .ok (.bipush 73, 2) := by decide +kernel
theorem dX7_restore_35 : decode cX7_restore 35 = .ok (.if_icmp .ge 26, 3) := by decide +kernel
theorem dX7_restore_38 : decode cX7_restore 38 = .ok (.aload_n 0, 1) := by decide +kernel
theorem dX7_restore_39 : decode cX7_restore 39 = .ok (.getfield 19, 3) := by decide +kernel
theorem dX7_restore_42 : decode cX7_restore 42 = .ok (.iload_n 2, 1) := by decide +kernel
theorem dX7_restore_43 : decode cX7_restore 43 = .ok (.aload_n 0, 1) := by decide +kernel
theorem dX7_restore_44 : decode cX7_restore 44 = .ok (.getfield 47, 3) := by decide +kernel
theorem dX7_restore_47 : decode cX7_restore 47 = .ok (.bipush 73, 2) := by decide +kernel
theorem dX7_restore_49 : decode cX7_restore 49 = .ok (.iload_n 1, 1) := by decide +kernel
theorem dX7_restore_50 : decode cX7_restore 50 = .ok (.imul, 1) := by decide +kernel
theorem dX7_restore_51 : decode cX7_restore 51 = .ok (.iload_n 2, 1) := by decide +kernel
theorem dX7_restore_52 : decode cX7_restore 52 = .ok (.iadd, 1) := by decide +kernel
theorem dX7_restore_53 : decode cX7_restore 53 = .ok (.iaload, 1) := by decide +kernel
theorem dX7_restore_54 : decode cX7_restore 54 = .ok (.iastore, 1) := by decide +kernel
theorem dX7_restore_55 : decode cX7_restore 55 = .ok (.iinc 2 1, 3) := by decide +kernel
theorem dX7_restore_58 : decode cX7_restore 58 = .ok (.goto (-26), 3) := by decide +kernel
theorem dX7_restore_61 : decode cX7_restore 61 = .ok (.aload_n 0, 1) := by decide +kernel
theorem dX7_restore_62 : decode cX7_restore 62 = .ok (.iconst 0, 1) := by decide +kernel
theorem dX7_restore_63 : decode cX7_restore 63 = .ok (.putfield 158, 3) := by decide +kernel
theorem dX7_restore_66 : decode cX7_restore 66 = .ok (.iconst 1, 1) := by decide +kernel
theorem dX7_restore_67 : decode cX7_restore 67 = .ok (.ireturn, 1) := by decide +kernel
theorem dX7_isOf_0 : decode cX7_isOf 0 = .ok (.iload_n 1, 1) := by decide +kernel
theorem dX7_isOf_1 : decode cX7_isOf 1 = .ok (.ifCond .eq 28, 3) := by decide +kernel
theorem dX7_isOf_4 : decode cX7_isOf 4 = .ok (.iload_n 0, 1) := by decide +kernel
theorem dX7_isOf_5 : decode cX7_isOf 5 = .ok (.iload_n 1, 1) := by decide +kernel
theorem dX7_isOf_6 : decode cX7_isOf 6 = .ok (.if_icmp .eq 23, 3) := by decide +kernel
theorem dX7_isOf_9 : decode cX7_isOf 9 = .ok (.iload_n 1, 1) := by decide +kernel
theorem dX7_isOf_10 : decode cX7_isOf 10 = .ok (.iconst 1, 1) := by decide +kernel
theorem dX7_isOf_11 : decode cX7_isOf 11 = .ok (.if_icmp .ne 8, 3) := by decide +kernel
theorem dX7_isOf_14 : decode cX7_isOf 14 = .ok (.iload_n 0, 1) := by decide +kernel
theorem dX7_isOf_15 : decode cX7_isOf 15 = .ok (.iconst 4, 1) := by decide +kernel
theorem dX7_isOf_16 : decode cX7_isOf 16 = .ok (.if_icmp .lt 13, 3) := by decide +kernel
theorem dX7_isOf_19 : decode cX7_isOf 19 = .ok (.iload_n 1, 1) := by decide +kernel
theorem dX7_isOf_20 : decode cX7_isOf 20 = .ok (.iconst 4, 1) := by decide +kernel
theorem dX7_isOf_21 : decode cX7_isOf 21 = .ok (.if_icmp .ne 12, 3) := by decide +kernel
theorem dX7_isOf_24 : decode cX7_isOf 24 = .ok (.iload_n 0, 1) := by decide +kernel
theorem dX7_isOf_25 : decode cX7_isOf 25 = .ok (.iconst 5, 1) := by decide +kernel
theorem dX7_isOf_26 : decode cX7_isOf 26 = .ok (.if_icmp .ne 7, 3) := by decide +kernel
theorem dX7_isOf_29 : decode cX7_isOf 29 = .ok (.iconst 1, 1) := by decide +kernel
theorem dX7_isOf_30 : decode cX7_isOf 30 = .ok (.goto 4, 3) := by decide +kernel
theorem dX7_isOf_33 : decode cX7_isOf 33 = .ok (.iconst 0, 1) := by decide +kernel
theorem dX7_isOf_34 : decode cX7_isOf 34 = .ok (.ireturn, 1) := by decide +kernel
theorem dX7_kind_0 : decode cX7_kind 0 = .ok (.aload_n 0, 1) := by decide +kernel
theorem dX7_kind_1 : decode cX7_kind 1 = .ok (.iconst 0, 1) := by decide +kernel
theorem dX7_kind_2 : decode cX7_kind 2 = .ok (.putfield 53, 3) := by decide +kernel
theorem dX7_kind_5 : decode cX7_kind 5 = .ok (.aload_n 0, 1) := by decide +kernel
theorem dX7_kind_6 : decode cX7_kind 6 = .ok (.iload_n 1, 1) := by decide +kernel
theorem dX7_kind_7 : decode cX7_kind 7 = .ok (.invokevirtual 211, 3) := by decide +kernel
theorem dX7_kind_10 : decode cX7_kind 10 = .ok (.ifCond .eq 15, 3) := by decide +kernel
theorem dX7_kind_13 : decode cX7_kind 13 = .ok (.aload_n 0, 1) := by decide +kernel
theorem dX7_kind_14 : decode cX7_kind 14 = .ok (.getfield 19, 3) := by decide +kernel
theorem dX7_kind_17 : decode cX7_kind 17 = .ok (.iload_n 1, 1) := by decide +kernel
theorem dX7_kind_18 : decode cX7_kind 18 = .ok (.iconst 0, 1) := by decide +kernel
theorem dX7_kind_19 : decode cX7_kind 19 = .ok (.invokestatic 161, 3) := by decide +kernel
theorem dX7_kind_22 : decode cX7_kind 22 = .ok (.goto 5, 3) := by decide +kernel
theorem dX7_kind_25 : decode cX7_kind 25 = .ok (.ldc 73, 2) := by decide +kernel
theorem dX7_kind_27 : decode cX7_kind 27 = .ok (.ireturn, 1) := by decide +kernel
theorem dX7_as_0 : decode cX7_as 0 = .ok (.aload_n 0, 1) := by decide +kernel
theorem dX7_as_1 : decode cX7_as 1 = .ok (.iconst 0, 1) := by decide +kernel
theorem dX7_as_2 : decode cX7_as 2 = .ok (.putfield 53, 3) := by decide +kernel
theorem dX7_as_5 : decode cX7_as 5 = .ok (.aload_n 0, 1) := by decide +kernel
theorem dX7_as_6 : decode cX7_as 6 = .ok (.iload_n 1, 1) := by decide +kernel
theorem dX7_as_7 : decode cX7_as 7 = .ok (.invokevirtual 211, 3) := by decide +kernel
theorem dX7_as_10 : decode cX7_as 10 = .ok (.ifCond .eq 15, 3) := by decide +kernel
theorem dX7_as_13 : decode cX7_as 13 = .ok (.iload_n 2, 1) := by decide +kernel
theorem dX7_as_14 : decode cX7_as 14 = .ok (.i2l, 1) := by decide +kernel
theorem dX7_as_15 : decode cX7_as 15 = .ok (.lconst 0, 1) := by decide +kernel
theorem dX7_as_16 : decode cX7_as 16 = .ok (.ldc2_w 284, 3) := by decide +kernel
theorem dX7_as_19 : decode cX7_as 19 = .ok (.invokestatic 63, 3) := by decide +kernel
theorem dX7_as_22 : decode cX7_as 22 = .ok (.ifCond .ne 6, 3) := by decide +kernel
theorem dX7_as_25 : decode cX7_as 25 = .ok (.ldc 73, 2) := by decide +kernel
theorem dX7_as_27 : decode cX7_as 27 = .ok (.ireturn, 1) := by decide +kernel
theorem dX7_as_28 : decode cX7_as 28 = .ok (.aload_n 0, 1) := by decide +kernel
theorem dX7_as_29 : decode cX7_as 29 = .ok (.iconst 0, 1) := by decide +kernel
theorem dX7_as_30 : decode cX7_as 30 = .ok (.putfield 57, 3) := by decide +kernel
theorem dX7_as_33 : decode cX7_as 33 = .ok (.aload_n 0, 1) := by decide +kernel
theorem dX7_as_34 : decode cX7_as 34 = .ok (.getfield 19, 3) := by decide +kernel
theorem dX7_as_37 : decode cX7_as 37 = .ok (.iload_n 1, 1) := by decide +kernel
theorem dX7_as_38 : decode cX7_as 38 = .ok (.iconst 0, 1) := by decide +kernel
theorem dX7_as_39 : decode cX7_as 39 = .ok (.invokestatic 161, 3) := by decide +kernel
theorem dX7_as_42 : decode cX7_as 42 = .ok (.iload_n 2, 1) := by decide +kernel
theorem dX7_as_43 : decode cX7_as 43 = .ok (.invokestatic 286, 3) := by decide +kernel
theorem dX7_as_46 : decode cX7_as 46 = .ok (.ifCond .eq 7, 3) := by decide +kernel
theorem dX7_as_49 : decode cX7_as 49 = .ok (.iload_n 1, 1) := by decide +kernel
theorem dX7_as_50 : decode cX7_as 50 = .ok (.goto 8, 3) := by decide +kernel
theorem dX7_as_53 : decode cX7_as 53 = .ok (.aload_n 0, 1) := by decide +kernel
theorem dX7_as_54 : decode cX7_as 54 = .ok (.iconst 3, 1) := by decide +kernel
theorem dX7_as_55 : decode cX7_as 55 = .ok (.invokevirtual 74, 3) := by decide +kernel
theorem dX7_as_58 : decode cX7_as 58 = .ok (.ireturn, 1) := by decide +kernel
theorem dX7_began_0 : decode cX7_began 0 = .ok (.aload_n 0, 1) := by decide +kernel
theorem dX7_began_1 : decode cX7_began 1 = .ok (.getfield 289, 3) := by decide +kernel
theorem dX7_began_4 : decode cX7_began 4 = .ok (.bipush 16, 2) := by decide +kernel
theorem dX7_began_6 : decode cX7_began 6 = .ok (.if_icmp .ge 23, 3) := by decide +kernel
theorem dX7_began_9 : decode cX7_began 9 = .ok (.aload_n 0, 1) := by decide +kernel
theorem dX7_began_10 : decode cX7_began 10 = .ok (.getfield 50, 3) := by decide +kernel
theorem dX7_began_13 : decode cX7_began 13 = .ok (.aload_n 0, 1) := by decide +kernel
theorem dX7_began_14 : decode cX7_began 14 = .ok (.getfield 289, 3) := by decide +kernel
theorem dX7_began_17 : decode cX7_began 17 = .ok (.iload_n 1, 1) := by decide +kernel
theorem dX7_began_18 : decode cX7_began 18 = .ok (.iastore, 1) := by decide +kernel
theorem dX7_began_19 : decode cX7_began 19 = .ok (.aload_n 0, 1) := by decide +kernel
theorem dX7_began_20 : decode cX7_began 20 = .ok (.dup, 1) := by decide +kernel
theorem dX7_began_21 : decode cX7_began 21 = .ok (.getfield 289, 3) := by decide +kernel
theorem dX7_began_24 : decode cX7_began 24 = .ok (.iconst 1, 1) := by decide +kernel
theorem dX7_began_25 : decode cX7_began 25 = .ok (.iadd, 1) := by decide +kernel
theorem dX7_began_26 : decode cX7_began 26 = .ok (.putfield 289, 3) := by decide +kernel
theorem dX7_began_29 : decode cX7_began 29 = .ok (.return_, 1) := by decide +kernel
theorem dX7_plainSize_0 : decode cX7_plainSize 0 = .ok (.aload_n 0, 1) := by decide +kernel
theorem dX7_plainSize_1 : decode cX7_plainSize 1 = .ok (.bipush 10, 2) := by decide +kernel
theorem dX7_plainSize_3 : decode cX7_plainSize 3 = .ok (.invokevirtual 292, 3) := by decide +kernel
theorem dX7_plainSize_6 : decode cX7_plainSize 6 = .ok (.aload_n 0, 1) := by decide +kernel
theorem dX7_plainSize_7 : decode cX7_plainSize 7 = .ok (.getfield 19, 3) := by decide +kernel
theorem dX7_plainSize_10 : decode cX7_plainSize 10 = .ok (.iload_n 1, 1) := by decide +kernel
theorem dX7_plainSize_11 : decode cX7_plainSize 11 = .ok (.iconst 2, 1) := by decide +kernel
theorem dX7_plainSize_12 : decode cX7_plainSize 12 = .ok (.invokestatic 161, 3) := by decide +kernel
theorem dX7_plainSize_15 : decode cX7_plainSize 15 = .ok (.invokestatic 180, 3) := by decide +kernel
theorem dX7_plainSize_18 : decode cX7_plainSize 18 = .ok (.ireturn, 1) := by decide +kernel
theorem dX7_snakeSize_0 : decode cX7_snakeSize 0 = .ok (.aload_n 0, 1) := by decide +kernel
theorem dX7_snakeSize_1 : decode cX7_snakeSize 1 = .ok (.getfield 19, 3) := by decide +kernel
theorem dX7_snakeSize_4 : decode cX7_snakeSize 4 = .ok (.iload_n 1, 1) := by decide +kernel
theorem dX7_snakeSize_5 : decode cX7_snakeSize 5 = .ok (.iconst 0, 1) := by decide +kernel
theorem dX7_snakeSize_6 : decode cX7_snakeSize 6 = .ok (.invokestatic 161, 3) := by decide +kernel
theorem dX7_snakeSize_9 : decode cX7_snakeSize 9 = .ok (.iconst 5, 1) := by decide +kernel
theorem dX7_snakeSize_10 : decode cX7_snakeSize 10 = .ok (.if_icmp .ne 7, 3) := by decide +kernel
theorem dX7_snakeSize_13 : decode cX7_snakeSize 13 = .ok (.iconst 1, 1) := by decide +kernel
theorem dX7_snakeSize_14 : decode cX7_snakeSize 14 = .ok (.goto 4, 3) := by decide +kernel
theorem dX7_snakeSize_17 : decode cX7_snakeSize 17 = .ok (.iconst 0, 1) := by decide +kernel
theorem dX7_snakeSize_18 : decode cX7_snakeSize 18 = .ok (.istore_n 2, 1) := by decide +kernel
theorem dX7_snakeSize_19 : decode cX7_snakeSize 19 = .ok (.iload_n 2, 1) := by decide +kernel
theorem dX7_snakeSize_20 : decode cX7_snakeSize 20 = .ok (.ifCond .eq 9, 3) := by decide +kernel
theorem dX7_snakeSize_23 : decode cX7_snakeSize 23 = .ok (.aload_n 0, 1) := by decide +kernel
theorem dX7_snakeSize_24 : decode cX7_snakeSize 24 = .ok (.bipush 14, 2) := by decide +kernel
theorem dX7_snakeSize_26 : decode cX7_snakeSize 26 = .ok (.invokevirtual 292, 3) := by decide +kernel
theorem dX7_snakeSize_29 : decode cX7_snakeSize 29 = .ok (.aload_n 0, 1) := by decide +kernel
theorem dX7_snakeSize_30 : decode cX7_snakeSize 30 = .ok (.bipush 13, 2) := by decide +kernel
theorem dX7_snakeSize_32 : decode cX7_snakeSize 32 = .ok (.invokevirtual 292, 3) := by decide +kernel
theorem dX7_snakeSize_35 : decode cX7_snakeSize 35 = .ok (.aload_n 0, 1) := by decide +kernel
theorem dX7_snakeSize_36 : decode cX7_snakeSize 36 = .ok (.iload_n 1, 1) := by decide +kernel
theorem dX7_snakeSize_37 : decode cX7_snakeSize 37 = .ok (.invokevirtual 295, 3) := by decide +kernel
theorem dX7_snakeSize_40 : decode cX7_snakeSize 40 = .ok (.bipush 100, 2) := by decide +kernel
theorem dX7_snakeSize_42 : decode cX7_snakeSize 42 = .ok (.isub, 1) := by decide +kernel
theorem dX7_snakeSize_43 : decode cX7_snakeSize 43 = .ok (.istore_n 3, 1) := by decide +kernel
theorem dX7_snakeSize_44 : decode cX7_snakeSize 44 = .ok (.iload_n 2, 1) := by decide +kernel
theorem dX7_snakeSize_45 : decode cX7_snakeSize 45 = .ok (.ifCond .eq 9, 3) := by decide +kernel
theorem dX7_snakeSize_48 : decode cX7_snakeSize 48 = .ok (.iconst 2, 1) := by decide +kernel
theorem dX7_snakeSize_49 : decode cX7_snakeSize 49 = .ok (.iload_n 3, 1) := by decide +kernel
theorem dX7_snakeSize_50 : decode cX7_snakeSize 50 = .ok (.imul, 1) := by decide +kernel
theorem dX7_snakeSize_51 : decode cX7_snakeSize 51 = .ok (.goto 4, 3) := by decide +kernel
theorem dX7_snakeSize_54 : decode cX7_snakeSize 54 = .ok (.iload_n 3, 1) := by decide +kernel
theorem dX7_snakeSize_55 : decode cX7_snakeSize 55 = .ok (.ireturn, 1) := by decide +kernel
theorem dX7_markOf_0 : decode cX7_markOf 0 = .ok (.aload_n 0, 1) := by decide +kernel
theorem dX7_markOf_1 : decode cX7_markOf 1 = .ok (.getfield 19, 3) := by decide +kernel
theorem dX7_markOf_4 : decode cX7_markOf 4 = .ok (.iload_n 1, 1) := by decide +kernel
theorem dX7_markOf_5 : decode cX7_markOf 5 = .ok (.iconst 0, 1) := by decide +kernel
theorem dX7_markOf_6 : decode cX7_markOf 6 = .ok (.invokestatic 161, 3) := by decide +kernel
theorem dX7_markOf_9 : decode cX7_markOf 9 = .ok (.istore_n 2, 1) := by decide +kernel
theorem dX7_markOf_10 : decode cX7_markOf 10 = .ok (.iload_n 2, 1) := by decide +kernel
theorem dX7_markOf_11 : decode cX7_markOf 11 = .ok (.iconst 4, 1) := by decide +kernel
theorem dX7_markOf_12 : decode cX7_markOf 12 = .ok (.if_icmp .lt 23, 3) := by decide +kernel
theorem dX7_markOf_15 : decode cX7_markOf 15 = .ok (.aload_n 0, 1) := by decide +kernel
theorem dX7_markOf_16 : decode cX7_markOf 16 = .ok (.bipush 23, 2) := by decide +kernel
theorem dX7_markOf_18 : decode cX7_markOf 18 = .ok (.invokevirtual 292, 3) := by decide +kernel
theorem dX7_markOf_21 : decode cX7_markOf 21 = .ok (.aload_n 0, 1) := by decide +kernel
theorem dX7_markOf_22 : decode cX7_markOf 22 = .ok (.bipush 20, 2) := by decide +kernel
theorem dX7_markOf_24 : decode cX7_markOf 24 = .ok (.invokevirtual 292, 3) := by decide +kernel
theorem dX7_markOf_27 : decode cX7_markOf 27 = .ok (.iload_n 1, 1) := by decide +kernel
theorem dX7_markOf_28 : decode cX7_markOf 28 = .ok (.aload_n 0, 1) := by decide +kernel
theorem dX7_markOf_29 : decode cX7_markOf 29 = .ok (.iload_n 1, 1) := by decide +kernel
theorem dX7_markOf_30 : decode cX7_markOf 30 = .ok (.invokevirtual 298, 3) := by decide +kernel
theorem dX7_markOf_33 : decode cX7_markOf 33 = .ok (.isub, 1) := by decide +kernel
theorem dX7_markOf_34 : decode cX7_markOf 34 = .ok (.ireturn, 1) := by decide +kernel
theorem dX7_markOf_35 : decode cX7_markOf 35 = .ok (.iload_n 2, 1) := by decide +kernel
theorem dX7_markOf_36 : decode cX7_markOf 36 = .ok (.iconst 1, 1) := by decide +kernel
theorem dX7_markOf_37 : decode cX7_markOf 37 = .ok (.if_icmp .eq 19, 3) := by decide +kernel
theorem dX7_markOf_40 : decode cX7_markOf 40 = .ok (.aload_n 0, 1) := by decide +kernel
theorem dX7_markOf_41 : decode cX7_markOf 41 = .ok (.iload_n 2, 1) := by decide +kernel
theorem dX7_markOf_42 : decode cX7_markOf 42 = .ok (.iconst 3, 1) := by decide +kernel
theorem dX7_markOf_43 : decode cX7_markOf 43 = .ok (.if_icmp .ne 8, 3) := by decide +kernel
theorem dX7_markOf_46 : decode cX7_markOf 46 = .ok (.bipush 22, 2) := by decide +kernel
theorem dX7_markOf_48 : decode cX7_markOf 48 = .ok (.goto 5, 3) := by decide +kernel
theorem dX7_markOf_51 : decode cX7_markOf 51 = .ok (.bipush 24, 2) := by decide +kernel
theorem dX7_markOf_53 : decode cX7_markOf 53 = .ok (.invokevirtual 292, 3) := by decide +kernel
theorem dX7_markOf_56 : decode cX7_markOf 56 = .ok (.aload_n 0, 1) := by decide +kernel
theorem dX7_markOf_57 : decode cX7_markOf 57 = .ok (.bipush 21, 2) := by decide +kernel
theorem dX7_markOf_59 : decode cX7_markOf 59 = .ok (.invokevirtual 292, 3) := by decide +kernel
theorem dX7_markOf_62 : decode cX7_markOf 62 = .ok (.aload_n 0, 1) := by decide +kernel
theorem dX7_markOf_63 : decode cX7_markOf 63 = .ok (.bipush 20, 2) := by decide +kernel
theorem dX7_markOf_65 : decode cX7_markOf 65 = .ok (.invokevirtual 292, 3) := by decide +kernel
theorem dX7_markOf_68 : decode cX7_markOf 68 = .ok (.iload_n 1, 1) := by decide +kernel
theorem dX7_markOf_69 : decode cX7_markOf 69 = .ok (.aload_n 0, 1) := by decide +kernel
theorem dX7_markOf_70 : decode cX7_markOf 70 = .ok (.getfield 19, 3) := by decide +kernel
theorem dX7_markOf_73 : decode cX7_markOf 73 = .ok (.iload_n 1, 1) := by decide +kernel
theorem dX7_markOf_74 : decode cX7_markOf 74 = .ok (.iconst 1, 1) := by decide +kernel
theorem dX7_markOf_75 : decode cX7_markOf 75 = .ok (.invokestatic 161, 3) := by decide +kernel
theorem dX7_markOf_78 : decode cX7_markOf 78 = .ok (.iadd, 1) := by decide +kernel
theorem dX7_markOf_79 : decode cX7_markOf 79 = .ok (.istore_n 3, 1) := by decide +kernel
theorem dX7_markOf_80 : decode cX7_markOf 80 = .ok (.iload_n 2, 1) := by decide +kernel
theorem dX7_markOf_81 : decode cX7_markOf 81 = .ok (.iconst 1, 1) := by decide +kernel
theorem dX7_markOf_82 : decode cX7_markOf 82 = .ok (.if_icmp .ne 7, 3) := by decide +kernel
theorem dX7_markOf_85 : decode cX7_markOf 85 = .ok (.iload_n 3, 1) := by decide +kernel
theorem dX7_markOf_86 : decode cX7_markOf 86 = .ok (.goto 19, 3) := by decide +kernel
theorem dX7_markOf_89 : decode cX7_markOf 89 = .ok (.iload_n 2, 1) := by decide +kernel
theorem dX7_markOf_90 : decode cX7_markOf 90 = .ok (.iconst 3, 1) := by decide +kernel
theorem dX7_markOf_91 : decode cX7_markOf 91 = .ok (.if_icmp .ne 11, 3) := by decide +kernel
theorem dX7_markOf_94 : decode cX7_markOf 94 = .ok (.iload_n 3, 1) := by decide +kernel
theorem dX7_markOf_95 : decode cX7_markOf 95 = .ok (.sipush 1000, 3) := by decide +kernel
theorem dX7_markOf_98 : decode cX7_markOf 98 = .ok (.isub, 1) := by decide +kernel
theorem dX7_markOf_99 : decode cX7_markOf 99 = .ok (.goto 6, 3) := by decide +kernel
theorem dX7_markOf_102 : decode cX7_markOf 102 = .ok (.iconst 2, 1) := by decide +kernel
theorem dX7_markOf_103 : decode cX7_markOf 103 = .ok (.iload_n 3, 1) := by decide +kernel
theorem dX7_markOf_104 : decode cX7_markOf 104 = .ok (.imul, 1) := by decide +kernel
theorem dX7_markOf_105 : decode cX7_markOf 105 = .ok (.ireturn, 1) := by decide +kernel
theorem dX7_sizeOf_0 : decode cX7_sizeOf 0 = .ok (.aload_n 0, 1) := by decide +kernel
theorem dX7_sizeOf_1 : decode cX7_sizeOf 1 = .ok (.getfield 19, 3) := by decide +kernel
theorem dX7_sizeOf_4 : decode cX7_sizeOf 4 = .ok (.iload_n 1, 1) := by decide +kernel
theorem dX7_sizeOf_5 : decode cX7_sizeOf 5 = .ok (.iconst 0, 1) := by decide +kernel
theorem dX7_sizeOf_6 : decode cX7_sizeOf 6 = .ok (.invokestatic 161, 3) := by decide +kernel
theorem dX7_sizeOf_9 : decode cX7_sizeOf 9 = .ok (.istore_n 2, 1) := by decide +kernel
theorem dX7_sizeOf_10 : decode cX7_sizeOf 10 = .ok (.iload_n 2, 1) := by decide +kernel
theorem dX7_sizeOf_11 : decode cX7_sizeOf 11 = .ok (.iconst 4, 1) := by decide +kernel
theorem dX7_sizeOf_12 : decode cX7_sizeOf 12 = .ok (.if_icmp .lt 9, 3) := by decide +kernel
theorem dX7_sizeOf_15 : decode cX7_sizeOf 15 = .ok (.aload_n 0, 1) := by decide +kernel
theorem dX7_sizeOf_16 : decode cX7_sizeOf 16 = .ok (.iload_n 1, 1) := by decide +kernel
theorem dX7_sizeOf_17 : decode cX7_sizeOf 17 = .ok (.invokevirtual 298, 3) := by decide +kernel
theorem dX7_sizeOf_20 : decode cX7_sizeOf 20 = .ok (.ireturn, 1) := by decide +kernel
theorem dX7_sizeOf_21 : decode cX7_sizeOf 21 = .ok (.iload_n 2, 1) := by decide +kernel
theorem dX7_sizeOf_22 : decode cX7_sizeOf 22 = .ok (.iconst 2, 1) := by decide +kernel
theorem dX7_sizeOf_23 : decode cX7_sizeOf 23 = .ok (.if_icmp .ne 9, 3) := by decide +kernel
theorem dX7_sizeOf_26 : decode cX7_sizeOf 26 = .ok (.aload_n 0, 1) := by decide +kernel
theorem dX7_sizeOf_27 : decode cX7_sizeOf 27 = .ok (.bipush 12, 2) := by decide +kernel
theorem dX7_sizeOf_29 : decode cX7_sizeOf 29 = .ok (.invokevirtual 292, 3) := by decide +kernel
theorem dX7_sizeOf_32 : decode cX7_sizeOf 32 = .ok (.aload_n 0, 1) := by decide +kernel
theorem dX7_sizeOf_33 : decode cX7_sizeOf 33 = .ok (.bipush 11, 2) := by decide +kernel
theorem dX7_sizeOf_35 : decode cX7_sizeOf 35 = .ok (.invokevirtual 292, 3) := by decide +kernel
theorem dX7_sizeOf_38 : decode cX7_sizeOf 38 = .ok (.aload_n 0, 1) := by decide +kernel
theorem dX7_sizeOf_39 : decode cX7_sizeOf 39 = .ok (.iload_n 1, 1) := by decide +kernel
theorem dX7_sizeOf_40 : decode cX7_sizeOf 40 = .ok (.invokevirtual 295, 3) := by decide +kernel
theorem dX7_sizeOf_43 : decode cX7_sizeOf 43 = .ok (.istore_n 3, 1) := by decide +kernel
theorem dX7_sizeOf_44 : decode cX7_sizeOf 44 = .ok (.iload_n 3, 1) := by decide +kernel
theorem dX7_sizeOf_45 : decode cX7_sizeOf 45 = .ok (.aload_n 0, 1) := by decide +kernel
theorem dX7_sizeOf_46 : decode cX7_sizeOf 46 = .ok (.iload_n 1, 1) := by decide +kernel
theorem dX7_sizeOf_47 : decode cX7_sizeOf 47 = .ok (.invokevirtual 301, 3) := by decide +kernel
theorem dX7_sizeOf_50 : decode cX7_sizeOf 50 = .ok (.iadd, 1) := by decide +kernel
theorem dX7_sizeOf_51 : decode cX7_sizeOf 51 = .ok (.istore_n 3, 1) := by decide +kernel
theorem dX7_sizeOf_52 : decode cX7_sizeOf 52 = .ok (.iload_n 2, 1) := by decide +kernel
theorem dX7_sizeOf_53 : decode cX7_sizeOf 53 = .ok (.iconst 2, 1) := by decide +kernel
theorem dX7_sizeOf_54 : decode cX7_sizeOf 54 = .ok (.if_icmp .ne 8, 3) := by decide +kernel
theorem dX7_sizeOf_57 : decode cX7_sizeOf 57 = .ok (.iload_n 3, 1) := by decide +kernel
theorem dX7_sizeOf_58 : decode cX7_sizeOf 58 = .ok (.ineg, 1) := by decide +kernel
theorem dX7_sizeOf_59 : decode cX7_sizeOf 59 = .ok (.goto 4, 3) := by decide +kernel
theorem dX7_sizeOf_62 : decode cX7_sizeOf 62 = .ok (.iload_n 3, 1) := by decide +kernel
theorem dX7_sizeOf_63 : decode cX7_sizeOf 63 = .ok (.ireturn, 1) := by decide +kernel
theorem dX7_ask_0 : decode cX7_ask 0 = .ok (.aload_n 0, 1) := by decide +kernel
theorem dX7_ask_1 : decode cX7_ask 1 = .ok (.iconst 0, 1) := by decide +kernel
theorem dX7_ask_2 : decode cX7_ask 2 = .ok (.putfield 53, 3) := by decide +kernel
theorem dX7_ask_5 : decode cX7_ask 5 = .ok (.aload_n 0, 1) := by decide +kernel
theorem dX7_ask_6 : decode cX7_ask 6 = .ok (.iload_n 1, 1) := by decide +kernel
theorem dX7_ask_7 : decode cX7_ask 7 = .ok (.invokevirtual 211, 3) := by decide +kernel
theorem dX7_ask_10 : decode cX7_ask 10 = .ok (.ifCond .eq 13, 3) := by decide +kernel
theorem dX7_ask_13 : decode cX7_ask 13 = .ok (.iload_n 2, 1) := by decide +kernel
theorem dX7_ask_14 : decode cX7_ask 14 = .ok (.i2l, 1) := by decide +kernel
theorem dX7_ask_15 : decode cX7_ask 15 = .ok (.lconst 0, 1) := by decide +kernel
theorem dX7_ask_16 : decode cX7_ask 16 = .ok (.lconst 1, 1) := by decide +kernel
theorem dX7_ask_17 : decode cX7_ask 17 = .ok (.invokestatic 63, 3) := by decide +kernel
theorem dX7_ask_20 : decode cX7_ask 20 = .ok (.ifCond .ne 6, 3) := by decide +kernel
theorem dX7_ask_23 : decode cX7_ask 23 = .ok (.ldc 73, 2) := by decide +kernel
theorem dX7_ask_25 : decode cX7_ask 25 = .ok (.ireturn, 1) := by decide +kernel
theorem dX7_ask_26 : decode cX7_ask 26 = .ok (.aload_n 0, 1) := by decide +kernel
theorem dX7_ask_27 : decode cX7_ask 27 = .ok (.iconst 0, 1) := by decide +kernel
theorem dX7_ask_28 : decode cX7_ask 28 = .ok (.putfield 289, 3) := by decide +kernel
theorem dX7_ask_31 : decode cX7_ask 31 = .ok (.iload_n 2, 1) := by decide +kernel
theorem dX7_ask_32 : decode cX7_ask 32 = .ok (.ifCond .ne 11, 3) := by decide +kernel
theorem dX7_ask_35 : decode cX7_ask 35 = .ok (.aload_n 0, 1) := by decide +kernel
theorem dX7_ask_36 : decode cX7_ask 36 = .ok (.iload_n 1, 1) := by decide +kernel
theorem dX7_ask_37 : decode cX7_ask 37 = .ok (.invokevirtual 304, 3) := by decide +kernel
theorem dX7_ask_40 : decode cX7_ask 40 = .ok (.goto 8, 3) := by decide +kernel
theorem dX7_ask_43 : decode cX7_ask 43 = .ok (.aload_n 0, 1) := by decide +kernel
theorem dX7_ask_44 : decode cX7_ask 44 = .ok (.iload_n 1, 1) := by decide +kernel
theorem dX7_ask_45 : decode cX7_ask 45 = .ok (.invokevirtual 301, 3) := by decide +kernel
theorem dX7_ask_48 : decode cX7_ask 48 = .ok (.ireturn, 1) := by decide +kernel
theorem dX7_trace_0 : decode cX7_trace 0 = .ok (.aload_n 0, 1) := by decide +kernel
theorem dX7_trace_1 : decode cX7_trace 1 = .ok (.iconst 0, 1) := by decide +kernel
theorem dX7_trace_2 : decode cX7_trace 2 = .ok (.putfield 53, 3) := by decide +kernel
theorem dX7_trace_5 : decode cX7_trace 5 = .ok (.iload_n 1, 1) := by decide +kernel
theorem dX7_trace_6 : decode cX7_trace 6 = .ok (.i2l, 1) := by decide +kernel
theorem dX7_trace_7 : decode cX7_trace 7 = .ok (.lconst 0, 1) := by decide +kernel
theorem dX7_trace_8 : decode cX7_trace 8 = .ok (.aload_n 0, 1) := by decide +kernel
theorem dX7_trace_9 : decode cX7_trace 9 = .ok (.getfield 289, 3) := by decide +kernel
theorem dX7_trace_12 : decode cX7_trace 12 = .ok (.iconst 1, 1) := by decide +kernel
theorem dX7_trace_13 : decode cX7_trace 13 = .ok (.isub, 1) := by decide +kernel
theorem dX7_trace_14 : decode cX7_trace 14 = .ok (.i2l, 1) := by decide +kernel
theorem dX7_trace_15 : decode cX7_trace 15 = .ok (.invokestatic 63, 3) := by decide +kernel
theorem dX7_trace_18 : decode cX7_trace 18 = .ok (.ifCond .eq 12, 3) := by decide +kernel
theorem dX7_trace_21 : decode cX7_trace 21 = .ok (.aload_n 0, 1) := by decide +kernel
theorem dX7_trace_22 : decode cX7_trace 22 = .ok (.getfield 50, 3) := by decide +kernel
theorem dX7_trace_25 : decode cX7_trace 25 = .ok (.iload_n 1, 1) := by decide +kernel
theorem dX7_trace_26 : decode cX7_trace 26 = .ok (.iaload, 1) := by decide +kernel
theorem dX7_trace_27 : decode cX7_trace 27 = .ok (.goto 5, 3) := by decide +kernel
theorem dX7_trace_30 : decode cX7_trace 30 = .ok (.ldc 96, 2) := by decide +kernel
theorem dX7_trace_32 : decode cX7_trace 32 = .ok (.ireturn, 1) := by decide +kernel
theorem dX7_count_0 : decode cX7_count 0 = .ok (.aload_n 0, 1) := by decide +kernel
theorem dX7_count_1 : decode cX7_count 1 = .ok (.iconst 0, 1) := by decide +kernel
theorem dX7_count_2 : decode cX7_count 2 = .ok (.putfield 53, 3) := by decide +kernel
theorem dX7_count_5 : decode cX7_count 5 = .ok (.iconst 0, 1) := by decide +kernel
theorem dX7_count_6 : decode cX7_count 6 = .ok (.istore_n 2, 1) := by decide +kernel
theorem dX7_count_7 : decode cX7_count 7 = .ok (.iload_n 1, 1) := by decide +kernel
theorem dX7_count_8 : decode cX7_count 8 = .ok (.tableswitch 127 0 7 #[48, 81, 88, 95, 102, 109, 117, 122], 48) := by decide +kernel
theorem dX7_count_56 : decode cX7_count 56 = .ok (.iconst 0, 1) := by decide +kernel
theorem dX7_count_57 : decode cX7_count 57 = .ok (.istore_n 3, 1) := by decide +kernel
theorem dX7_count_58 : decode cX7_count 58 = .ok (.iload_n 3, 1) := by decide +kernel
theorem dX7_count_59 : decode cX7_count 59 = .ok (.bipush 8, 2) := by decide +kernel
theorem dX7_count_61 : decode cX7_count 61 = .ok (.if_icmp .ge 26, 3) := by decide +kernel
theorem dX7_count_64 : decode cX7_count 64 = .ok (.iload_n 2, 1) := by decide +kernel
theorem dX7_count_65 : decode cX7_count 65 = .ok (.aload_n 0, 1) := by decide +kernel
theorem dX7_count_66 : decode cX7_count 66 = .ok (.getfield 7, 3) := by decide +kernel
theorem dX7_count_69 : decode cX7_count 69 = .ok (.iload_n 3, 1) := by decide +kernel
theorem dX7_count_70 : decode cX7_count 70 = .ok (.iaload, 1) := by decide +kernel
theorem dX7_count_71 : decode cX7_count 71 = .ok (.ifCond .lt 7, 3) := by decide +kernel
theorem dX7_count_74 : decode cX7_count 74 = .ok (.iconst 1, 1) := by decide +kernel
theorem dX7_count_75 : decode cX7_count 75 = .ok (.goto 4, 3) := by decide +kernel
theorem dX7_count_78 : decode cX7_count 78 = .ok (.iconst 0, 1) := by decide +kernel
theorem dX7_count_79 : decode cX7_count 79 = .ok (.iadd, 1) := by decide +kernel
theorem dX7_count_80 : decode cX7_count 80 = .ok (.istore_n 2, 1) := by decide +kernel
theorem dX7_count_81 : decode cX7_count 81 = .ok (.iinc 3 1, 3) := by decide +kernel
theorem dX7_count_84 : decode cX7_count 84 = .ok (.goto (-26), 3) := by decide +kernel
theorem dX7_count_87 : decode cX7_count 87 = .ok (.iload_n 2, 1) := by decide +kernel
theorem dX7_count_88 : decode cX7_count 88 = .ok (.ireturn, 1) := by decide +kernel
theorem dX7_count_89 : decode cX7_count 89 = .ok (.aload_n 0, 1) := by decide +kernel
theorem dX7_count_90 : decode cX7_count 90 = .ok (.getfield 19, 3) := by decide +kernel
theorem dX7_count_93 : decode cX7_count 93 = .ok (.iconst 0, 1) := by decide +kernel
theorem dX7_count_94 : decode cX7_count 94 = .ok (.iaload, 1) := by decide +kernel
theorem dX7_count_95 : decode cX7_count 95 = .ok (.ireturn, 1) := by decide +kernel
theorem dX7_count_96 : decode cX7_count 96 = .ok (.aload_n 0, 1) := by decide +kernel
theorem dX7_count_97 : decode cX7_count 97 = .ok (.getfield 19, 3) := by decide +kernel
theorem dX7_count_100 : decode cX7_count 100 = .ok (.iconst 1, 1) := by decide +kernel
theorem dX7_count_101 : decode cX7_count 101 = .ok (.iaload, 1) := by decide +kernel
theorem dX7_count_102 : decode cX7_count 102 = .ok (.ireturn, 1) := by decide +kernel
theorem dX7_count_103 : decode cX7_count 103 = .ok (.aload_n 0, 1) := by decide +kernel
theorem dX7_count_104 : decode cX7_count 104 = .ok (.getfield 19, 3) := by decide +kernel
theorem dX7_count_107 : decode cX7_count 107 = .ok (.iconst 2, 1) := by decide +kernel
theorem dX7_count_108 : decode cX7_count 108 = .ok (.iaload, 1) := by decide +kernel
theorem dX7_count_109 : decode cX7_count 109 = .ok (.ireturn, 1) := by decide +kernel
theorem dX7_count_110 : decode cX7_count 110 = .ok (.aload_n 0, 1) := by decide +kernel
theorem dX7_count_111 : decode cX7_count 111 = .ok (.getfield 19, 3) := by decide +kernel
theorem dX7_count_114 : decode cX7_count 114 = .ok (.iconst 3, 1) := by decide +kernel
theorem dX7_count_115 : decode cX7_count 115 = .ok (.iaload, 1) := by decide +kernel
theorem dX7_count_116 : decode cX7_count 116 = .ok (.ireturn, 1) := by decide +kernel
theorem dX7_count_117 : decode cX7_count 117 = .ok (.aload_n 0, 1) := by decide +kernel
theorem dX7_count_118 : decode cX7_count 118 = .ok (.getfield 19, 3) := by decide +kernel
theorem dX7_count_121 : decode cX7_count 121 = .ok (.invokestatic 207, 3) := by decide +kernel
theorem dX7_count_124 : decode cX7_count 124 = .ok (.ireturn, 1) := by decide +kernel
theorem dX7_count_125 : decode cX7_count 125 = .ok (.aload_n 0, 1) := by decide +kernel
theorem dX7_count_126 : decode cX7_count 126 = .ok (.getfield 158, 3) := by decide +kernel
theorem dX7_count_129 : decode cX7_count 129 = .ok (.ireturn, 1) := by decide +kernel
theorem dX7_count_130 : decode cX7_count 130 = .ok (.aload_n 0, 1) := by decide +kernel
theorem dX7_count_131 : decode cX7_count 131 = .ok (.getfield 80, 3) := by decide +kernel
theorem dX7_count_134 : decode cX7_count 134 = .ok (.ireturn, 1) := by decide +kernel
theorem dX7_count_135 : decode cX7_count 135 = .ok (.ldc 73, 2) := by decide +kernel
theorem dX7_count_137 : decode cX7_count 137 = .ok (.ireturn, 1) := by decide +kernel
theorem dX7_status_0 : decode cX7_status 0 = .ok (.aload_n 0, 1) := by decide +kernel
theorem dX7_status_1 : decode cX7_status 1 = .ok (.iconst 0, 1) := by decide +kernel
theorem dX7_status_2 : decode cX7_status 2 = .ok (.putfield 53, 3) := by decide +kernel
theorem dX7_status_5 : decode cX7_status 5 = .ok (.aload_n 0, 1) := by decide +kernel
theorem dX7_status_6 : decode cX7_status 6 = .ok (.getfield 57, 3) := by decide +kernel
theorem dX7_status_9 : decode cX7_status 9 = .ok (.ireturn, 1) := by decide +kernel

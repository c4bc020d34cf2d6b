theorem dX7_school_0 : decode cX7_school 0 = .ok (.aload_n 0, 1) := by decide +kernel
theorem dX7_school_1 : decode cX7_school 1 = .ok (.iconst 0, 1) := by decide +kernel
theorem dX7_school_2 : decode cX7_school 2 = .ok (.putfield 53, 3) := by decide +kernel
theorem dX7_school_5 : decode cX7_school 5 = .ok (.aload_n 0, 1) := by decide +kernel
theorem dX7_school_6 : decode cX7_school 6 = .ok (.invokevirtual 138, 3) := by decide +kernel
theorem dX7_school_9 : decode cX7_school 9 = .ok (.iconst 0, 1) := by decide +kernel
theorem dX7_school_10 : decode cX7_school 10 = .ok (.istore_n 1, 1) := by decide +kernel
theorem dX7_school_11 : decode cX7_school 11 = .ok (.iload_n 1, 1) := by decide +kernel
theorem dX7_school_12 : decode cX7_school 12 = .ok (.bipush 73, 2) := by decide +kernel
theorem dX7_school_14 : decode cX7_school 14 = .ok (.if_icmp .ge 16, 3) := by decide +kernel
theorem dX7_school_17 : decode cX7_school 17 = .ok (.aload_n 0, 1) := by decide +kernel
theorem dX7_school_18 : decode cX7_school 18 = .ok (.getfield 22, 3) := by decide +kernel
theorem dX7_school_21 : decode cX7_school 21 = .ok (.iload_n 1, 1) := by decide +kernel
theorem dX7_school_22 : decode cX7_school 22 = .ok (.iconst 0, 1) := by decide +kernel
theorem dX7_school_23 : decode cX7_school 23 = .ok (.iastore, 1) := by decide +kernel
theorem dX7_school_24 : decode cX7_school 24 = .ok (.iinc 1 1, 3) := by decide +kernel
theorem dX7_school_27 : decode cX7_school 27 = .ok (.goto (-16), 3) := by decide +kernel
theorem dX7_school_30 : decode cX7_school 30 = .ok (.aload_n 0, 1) := by decide +kernel
theorem dX7_school_31 : decode cX7_school 31 = .ok (.aload_n 0, 1) := by decide +kernel
theorem dX7_school_32 : decode cX7_school 32 = .ok (.bipush 114, 2) := by decide +kernel
theorem dX7_school_34 : decode cX7_school 34 = .ok (.invokevirtual 128, 3) := by decide +kernel
theorem dX7_school_37 : decode cX7_school 37 = .ok (.invokevirtual 118, 3) := by decide +kernel
theorem dX7_school_40 : decode cX7_school 40 = .ok (.aload_n 0, 1) := by decide +kernel
theorem dX7_school_41 : decode cX7_school 41 = .ok (.getfield 22, 3) := by decide +kernel
theorem dX7_school_44 : decode cX7_school 44 = .ok (.iconst 4, 1) := by decide +kernel
theorem dX7_school_45 : decode cX7_school 45 = .ok (.aload_n 0, 1) := by decide +kernel
theorem dX7_school_46 : decode cX7_school 46 = .ok (.iconst 0, 1) := by decide +kernel
theorem dX7_school_47 : decode cX7_school 47 = .ok (.bipush 6, 2) := by decide +kernel
theorem dX7_school_49 : decode cX7_school 49 = .ok (.invokevirtual 131, 3) := by decide +kernel
theorem dX7_school_52 : decode cX7_school 52 = .ok (.iastore, 1) := by decide +kernel
theorem dX7_school_53 : decode cX7_school 53 = .ok (.aload_n 0, 1) := by decide +kernel
theorem dX7_school_54 : decode cX7_school 54 = .ok (.bipush 59, 2) := by decide +kernel
theorem dX7_school_56 : decode cX7_school 56 = .ok (.invokevirtual 135, 3) := by decide +kernel
theorem dX7_school_59 : decode cX7_school 59 = .ok (.aload_n 0, 1) := by decide +kernel
theorem dX7_school_60 : decode cX7_school 60 = .ok (.invokevirtual 141, 3) := by decide +kernel
theorem dX7_school_63 : decode cX7_school 63 = .ok (.aload_n 0, 1) := by decide +kernel
theorem dX7_school_64 : decode cX7_school 64 = .ok (.bipush 106, 2) := by decide +kernel
theorem dX7_school_66 : decode cX7_school 66 = .ok (.invokevirtual 128, 3) := by decide +kernel
theorem dX7_school_69 : decode cX7_school 69 = .ok (.ifCond .eq 10, 3) := by decide +kernel
theorem dX7_school_72 : decode cX7_school 72 = .ok (.aload_n 0, 1) := by decide +kernel
theorem dX7_school_73 : decode cX7_school 73 = .ok (.invokevirtual 141, 3) := by decide +kernel
theorem dX7_school_76 : decode cX7_school 76 = .ok (.goto (-13), 3) := by decide +kernel
theorem dX7_school_79 : decode cX7_school 79 = .ok (.aload_n 0, 1) := by decide +kernel
theorem dX7_school_80 : decode cX7_school 80 = .ok (.invokevirtual 144, 3) := by decide +kernel
theorem dX7_school_83 : decode cX7_school 83 = .ok (.aload_n 0, 1) := by decide +kernel
theorem dX7_school_84 : decode cX7_school 84 = .ok (.bipush 100, 2) := by decide +kernel
theorem dX7_school_86 : decode cX7_school 86 = .ok (.invokevirtual 128, 3) := by decide +kernel
theorem dX7_school_89 : decode cX7_school 89 = .ok (.ifCond .eq 10, 3) := by decide +kernel
theorem dX7_school_92 : decode cX7_school 92 = .ok (.aload_n 0, 1) := by decide +kernel
theorem dX7_school_93 : decode cX7_school 93 = .ok (.invokevirtual 144, 3) := by decide +kernel
theorem dX7_school_96 : decode cX7_school 96 = .ok (.goto (-13), 3) := by decide +kernel
theorem dX7_school_99 : decode cX7_school 99 = .ok (.aload_n 0, 1) := by decide +kernel
theorem dX7_school_100 : decode cX7_school 100 = .ok (.invokevirtual 147, 3) := by decide +kernel
theorem dX7_school_103 : decode cX7_school 103 = .ok (.ifCond .ne 8, 3) := by decide +kernel
theorem dX7_school_106 : decode cX7_school 106 = .ok (.aload_n 0, 1) := by decide +kernel
theorem dX7_school_107 : decode cX7_school 107 = .ok (.iconst 1, 1) := by decide +kernel
theorem dX7_school_108 : decode cX7_school 108 = .ok (.invokevirtual 111, 3) := by decide +kernel
theorem dX7_school_111 : decode cX7_school 111 = .ok (.aload_n 0, 1) := by decide +kernel
theorem dX7_school_112 : decode cX7_school 112 = .ok (.invokevirtual 147, 3) := by decide +kernel
theorem dX7_school_115 : decode cX7_school 115 = .ok (.ifCond .eq 10, 3) := by decide +kernel
theorem dX7_school_118 : decode cX7_school 118 = .ok (.aload_n 0, 1) := by decide +kernel
theorem dX7_school_119 : decode cX7_school 119 = .ok (.invokevirtual 151, 3) := by decide +kernel
theorem dX7_school_122 : decode cX7_school 122 = .ok (.goto (-11), 3) := by decide +kernel
theorem dX7_school_125 : decode cX7_school 125 = .ok (.aload_n 0, 1) := by decide +kernel
theorem dX7_school_126 : decode cX7_school 126 = .ok (.invokevirtual 154, 3) := by decide +kernel
theorem dX7_school_129 : decode cX7_school 129 = .ok (.ifCond .eq 11, 3) := by decide +kernel
theorem dX7_school_132 : decode cX7_school 132 = .ok (.ldc 157, 2) := by decide +kernel
theorem dX7_school_134 : decode cX7_school 134 = .ok (.aload_n 0, 1) := by decide +kernel
theorem dX7_school_135 : decode cX7_school 135 = .ok (.getfield 90, 3) := by decide +kernel
theorem dX7_school_138 : decode cX7_school 138 = .ok (.isub, 1) := by decide +kernel
theorem dX7_school_139 : decode cX7_school 139 = .ok (.ireturn, 1) := by decide +kernel
theorem dX7_school_140 : decode cX7_school 140 = .ok (.aload_n 0, 1) := by decide +kernel
theorem dX7_school_141 : decode cX7_school 141 = .ok (.iconst 0, 1) := by decide +kernel
theorem dX7_school_142 : decode cX7_school 142 = .ok (.putfield 158, 3) := by decide +kernel
theorem dX7_school_145 : decode cX7_school 145 = .ok (.iconst 0, 1) := by decide +kernel
theorem dX7_school_146 : decode cX7_school 146 = .ok (.istore_n 1, 1) := by decide +kernel
theorem dX7_school_147 : decode cX7_school 147 = .ok (.iload_n 1, 1) := by decide +kernel
theorem dX7_school_148 : decode cX7_school 148 = .ok (.bipush 73, 2) := by decide +kernel
theorem dX7_school_150 : decode cX7_school 150 = .ok (.if_icmp .ge 21, 3) := by decide +kernel
theorem dX7_school_153 : decode cX7_school 153 = .ok (.aload_n 0, 1) := by decide +kernel
theorem dX7_school_154 : decode cX7_school 154 = .ok (.getfield 19, 3) := by decide +kernel
theorem dX7_school_157 : decode cX7_school 157 = .ok (.iload_n 1, 1) := by decide +kernel
theorem dX7_school_158 : decode cX7_school 158 = .ok (.aload_n 0, 1) := by decide +kernel
theorem dX7_school_159 : decode cX7_school 159 = .ok (.getfield 22, 3) := by decide +kernel
theorem dX7_school_162 : decode cX7_school 162 = .ok (.iload_n 1, 1) := by decide +kernel
theorem dX7_school_163 : decode cX7_school 163 = .ok (.iaload, 1) := by decide +kernel
theorem dX7_school_164 : decode cX7_school 164 = .ok (.iastore, 1) := by decide +kernel
theorem dX7_school_165 : decode cX7_school 165 = .ok (.iinc 1 1, 3) := by decide +kernel
theorem dX7_school_168 : decode cX7_school 168 = .ok (.goto (-21), 3) := by decide +kernel
theorem dX7_school_171 : decode cX7_school 171 = .ok (.aload_n 0, 1) := by decide +kernel
theorem dX7_school_172 : decode cX7_school 172 = .ok (.getfield 19, 3) := by decide +kernel
theorem dX7_school_175 : decode cX7_school 175 = .ok (.iconst 0, 1) := by decide +kernel
theorem dX7_school_176 : decode cX7_school 176 = .ok (.iaload, 1) := by decide +kernel
theorem dX7_school_177 : decode cX7_school 177 = .ok (.ireturn, 1) := by decide +kernel
theorem dX7_isThere_0 : decode cX7_isThere 0 = .ok (.aload_n 0, 1) := by decide +kernel
theorem dX7_isThere_1 : decode cX7_isThere 1 = .ok (.getfield 19, 3) := by decide +kernel
theorem dX7_isThere_4 : decode cX7_isThere 4 = .ok (.iconst 0, 1) := by decide +kernel
theorem dX7_isThere_5 : decode cX7_isThere 5 = .ok (.iaload, 1) := by decide +kernel
theorem dX7_isThere_6 : decode cX7_isThere 6 = .ok (.ifCond .le 7, 3) := by decide +kernel
theorem dX7_isThere_9 : decode cX7_isThere 9 = .ok (.iconst 1, 1) := by decide +kernel
theorem dX7_isThere_10 : decode cX7_isThere 10 = .ok (.goto 4, 3) := by decide +kernel
theorem dX7_isThere_13 : decode cX7_isThere 13 = .ok (.iconst 0, 1) := by decide +kernel
theorem dX7_isThere_14 : decode cX7_isThere 14 = .ok (.ireturn, 1) := by decide +kernel
theorem dX7_isPupil_0 : decode cX7_isPupil 0 = .ok (.iload_n 1, 1) := by decide +kernel
theorem dX7_isPupil_1 : decode cX7_isPupil 1 = .ok (.i2l, 1) := by decide +kernel
theorem dX7_isPupil_2 : decode cX7_isPupil 2 = .ok (.lconst 0, 1) := by decide +kernel
theorem dX7_isPupil_3 : decode cX7_isPupil 3 = .ok (.aload_n 0, 1) := by decide +kernel
theorem dX7_isPupil_4 : decode cX7_isPupil 4 = .ok (.getfield 19, 3) := by decide +kernel
theorem dX7_isPupil_7 : decode cX7_isPupil 7 = .ok (.iconst 0, 1) := by decide +kernel
theorem dX7_isPupil_8 : decode cX7_isPupil 8 = .ok (.iaload, 1) := by decide +kernel
theorem dX7_isPupil_9 : decode cX7_isPupil 9 = .ok (.iconst 1, 1) := by decide +kernel
theorem dX7_isPupil_10 : decode cX7_isPupil 10 = .ok (.isub, 1) := by decide +kernel
theorem dX7_isPupil_11 : decode cX7_isPupil 11 = .ok (.i2l, 1) := by decide +kernel
theorem dX7_isPupil_12 : decode cX7_isPupil 12 = .ok (.invokestatic 63, 3) := by decide +kernel
theorem dX7_isPupil_15 : decode cX7_isPupil 15 = .ok (.ireturn, 1) := by decide +kernel
theorem dX7_isSubject_0 : decode cX7_isSubject 0 = .ok (.iload_n 1, 1) := by decide +kernel
theorem dX7_isSubject_1 : decode cX7_isSubject 1 = .ok (.i2l, 1) := by decide +kernel
theorem dX7_isSubject_2 : decode cX7_isSubject 2 = .ok (.lconst 0, 1) := by decide +kernel
theorem dX7_isSubject_3 : decode cX7_isSubject 3 = .ok (.aload_n 0, 1) := by decide +kernel
theorem dX7_isSubject_4 : decode cX7_isSubject 4 = .ok (.getfield 19, 3) := by decide +kernel
theorem dX7_isSubject_7 : decode cX7_isSubject 7 = .ok (.iconst 1, 1) := by decide +kernel
theorem dX7_isSubject_8 : decode cX7_isSubject 8 = .ok (.iaload, 1) := by decide +kernel
theorem dX7_isSubject_9 : decode cX7_isSubject 9 = .ok (.iconst 1, 1) := by decide +kernel
theorem dX7_isSubject_10 : decode cX7_isSubject 10 = .ok (.isub, 1) := by decide +kernel
theorem dX7_isSubject_11 : decode cX7_isSubject 11 = .ok (.i2l, 1) := by decide +kernel
theorem dX7_isSubject_12 : decode cX7_isSubject 12 = .ok (.invokestatic 63, 3) := by decide +kernel
theorem dX7_isSubject_15 : decode cX7_isSubject 15 = .ok (.ireturn, 1) := by decide +kernel
theorem dX7_isLesson_0 : decode cX7_isLesson 0 = .ok (.iload_n 1, 1) := by decide +kernel
theorem dX7_isLesson_1 : decode cX7_isLesson 1 = .ok (.i2l, 1) := by decide +kernel
theorem dX7_isLesson_2 : decode cX7_isLesson 2 = .ok (.lconst 0, 1) := by decide +kernel
theorem dX7_isLesson_3 : decode cX7_isLesson 3 = .ok (.aload_n 0, 1) := by decide +kernel
theorem dX7_isLesson_4 : decode cX7_isLesson 4 = .ok (.getfield 19, 3) := by decide +kernel
theorem dX7_isLesson_7 : decode cX7_isLesson 7 = .ok (.iconst 2, 1) := by decide +kernel
theorem dX7_isLesson_8 : decode cX7_isLesson 8 = .ok (.iaload, 1) := by decide +kernel
theorem dX7_isLesson_9 : decode cX7_isLesson 9 = .ok (.iconst 1, 1) := by decide +kernel
theorem dX7_isLesson_10 : decode cX7_isLesson 10 = .ok (.isub, 1) := by decide +kernel
theorem dX7_isLesson_11 : decode cX7_isLesson 11 = .ok (.i2l, 1) := by decide +kernel
theorem dX7_isLesson_12 : decode cX7_isLesson 12 = .ok (.invokestatic 63, 3) := by decide +kernel
theorem dX7_isLesson_15 : decode cX7_isLesson 15 = .ok (.ireturn, 1) := by decide +kernel
theorem dX7_bits_0 : decode cX7_bits 0 = .ok (.iconst 0, 1) := by decide +kernel
theorem dX7_bits_1 : decode cX7_bits 1 = .ok (.istore_n 1, 1) := by decide +kernel
theorem dX7_bits_2 : decode cX7_bits 2 = .ok (.iconst 0, 1) := by decide +kernel
theorem dX7_bits_3 : decode cX7_bits 3 = .ok (.istore_n 2, 1) := by decide +kernel
theorem dX7_bits_4 : decode cX7_bits 4 = .ok (.iload_n 2, 1) := by decide +kernel
theorem dX7_bits_5 : decode cX7_bits 5 = .ok (.bipush 6, 2) := by decide +kernel
theorem dX7_bits_7 : decode cX7_bits 7 = .ok (.if_icmp .ge 17, 3) := by decide +kernel
theorem dX7_bits_10 : decode cX7_bits 10 = .ok (.iload_n 1, 1) := by decide +kernel
theorem dX7_bits_11 : decode cX7_bits 11 = .ok (.iload_n 0, 1) := by decide +kernel
theorem dX7_bits_12 : decode cX7_bits 12 = .ok (.iload_n 2, 1) := by decide +kernel
theorem dX7_bits_13 : decode cX7_bits 13 = .ok (.ishr, 1) := by decide +kernel
theorem dX7_bits_14 : decode cX7_bits 14 = .ok (.iconst 1, 1) := by decide +kernel
theorem dX7_bits_15 : decode cX7_bits 15 = .ok (.iand, 1) := by decide +kernel
theorem dX7_bits_16 : decode cX7_bits 16 = .ok (.iadd, 1) := by decide +kernel
theorem dX7_bits_17 : decode cX7_bits 17 = .ok (.istore_n 1, 1) := by decide +kernel
theorem dX7_bits_18 : decode cX7_bits 18 = .ok (.iinc 2 1, 3) := by decide +kernel
theorem dX7_bits_21 : decode cX7_bits 21 = .ok (.goto (-17), 3) := by decide +kernel
theorem dX7_bits_24 : decode cX7_bits 24 = .ok (.iload_n 1, 1) := by decide +kernel
theorem dX7_bits_25 : decode cX7_bits 25 = .ok (.ireturn, 1) := by decide +kernel
theorem dX7_has_0 : decode cX7_has 0 = .ok (.iload_n 0, 1) := by decide +kernel
theorem dX7_has_1 : decode cX7_has 1 = .ok (.iload_n 1, 1) := by decide +kernel
theorem dX7_has_2 : decode cX7_has 2 = .ok (.ishr, 1) := by decide +kernel
theorem dX7_has_3 : decode cX7_has 3 = .ok (.iconst 1, 1) := by decide +kernel
theorem dX7_has_4 : decode cX7_has 4 = .ok (.iand, 1) := by decide +kernel
theorem dX7_has_5 : decode cX7_has 5 = .ok (.iconst 1, 1) := by decide +kernel
theorem dX7_has_6 : decode cX7_has 6 = .ok (.if_icmp .ne 7, 3) := by decide +kernel
theorem dX7_has_9 : decode cX7_has 9 = .ok (.iconst 1, 1) := by decide +kernel
theorem dX7_has_10 : decode cX7_has 10 = .ok (.goto 4, 3) := by decide +kernel
theorem dX7_has_13 : decode cX7_has 13 = .ok (.iconst 0, 1) := by decide +kernel
theorem dX7_has_14 : decode cX7_has 14 = .ok (.ireturn, 1) := by decide +kernel
theorem dX7_of_0 : decode cX7_of 0 = .ok (.aload_n 0, 1) := by decide +kernel
theorem dX7_of_1 : decode cX7_of 1 = .ok (.bipush 19, 2) := by decide +kernel
theorem dX7_of_3 : decode cX7_of 3 = .ok (.bipush 9, 2) := by decide +kernel
theorem dX7_of_5 : decode cX7_of 5 = .ok (.iload_n 1, 1) := by decide +kernel
theorem dX7_of_6 : decode cX7_of 6 = .ok (.imul, 1) := by decide +kernel
theorem dX7_of_7 : decode cX7_of 7 = .ok (.iadd, 1) := by decide +kernel
theorem dX7_of_8 : decode cX7_of 8 = .ok (.iload_n 2, 1) := by decide +kernel
theorem dX7_of_9 : decode cX7_of 9 = .ok (.iadd, 1) := by decide +kernel
theorem dX7_of_10 : decode cX7_of 10 = .ok (.iaload, 1) := by decide +kernel
theorem dX7_of_11 : decode cX7_of 11 = .ok (.ireturn, 1) := by decide +kernel
theorem dX7_be_0 : decode cX7_be 0 = .ok (.aload_n 0, 1) := by decide +kernel
theorem dX7_be_1 : decode cX7_be 1 = .ok (.bipush 19, 2) := by decide +kernel
theorem dX7_be_3 : decode cX7_be 3 = .ok (.bipush 9, 2) := by decide +kernel
theorem dX7_be_5 : decode cX7_be 5 = .ok (.iload_n 1, 1) := by decide +kernel
theorem dX7_be_6 : decode cX7_be 6 = .ok (.imul, 1) := by decide +kernel
theorem dX7_be_7 : decode cX7_be 7 = .ok (.iadd, 1) := by decide +kernel
theorem dX7_be_8 : decode cX7_be 8 = .ok (.iload_n 2, 1) := by decide +kernel
theorem dX7_be_9 : decode cX7_be 9 = .ok (.iadd, 1) := by decide +kernel
theorem dX7_be_10 : decode cX7_be 10 = .ok (.iload_n 3, 1) := by decide +kernel
theorem dX7_be_11 : decode cX7_be 11 = .ok (.iastore, 1) := by decide +kernel
theorem dX7_be_12 : decode cX7_be 12 = .ok (.return_, 1) := by decide +kernel
theorem dX7_subjectOf_0 : decode cX7_subjectOf 0 = .ok (.aload_n 0, 1) := by decide +kernel
theorem dX7_subjectOf_1 : decode cX7_subjectOf 1 = .ok (.bipush 11, 2) := by decide +kernel
theorem dX7_subjectOf_3 : decode cX7_subjectOf 3 = .ok (.iload_n 1, 1) := by decide +kernel
theorem dX7_subjectOf_4 : decode cX7_subjectOf 4 = .ok (.aload_n 0, 1) := by decide +kernel
theorem dX7_subjectOf_5 : decode cX7_subjectOf 5 = .ok (.iconst 2, 1) := by decide +kernel
theorem dX7_subjectOf_6 : decode cX7_subjectOf 6 = .ok (.iaload, 1) := by decide +kernel
theorem dX7_subjectOf_7 : decode cX7_subjectOf 7 = .ok (.irem, 1) := by decide +kernel
theorem dX7_subjectOf_8 : decode cX7_subjectOf 8 = .ok (.iadd, 1) := by decide +kernel
theorem dX7_subjectOf_9 : decode cX7_subjectOf 9 = .ok (.iaload, 1) := by decide +kernel
theorem dX7_subjectOf_10 : decode cX7_subjectOf 10 = .ok (.ireturn, 1) := by decide +kernel
theorem dX7_canGrasp_0 : decode cX7_canGrasp 0 = .ok (.aload_n 0, 1) := by decide +kernel
theorem dX7_canGrasp_1 : decode cX7_canGrasp 1 = .ok (.iconst 5, 1) := by decide +kernel
theorem dX7_canGrasp_2 : decode cX7_canGrasp 2 = .ok (.iload_n 1, 1) := by decide +kernel
theorem dX7_canGrasp_3 : decode cX7_canGrasp 3 = .ok (.iadd, 1) := by decide +kernel
theorem dX7_canGrasp_4 : decode cX7_canGrasp 4 = .ok (.iaload, 1) := by decide +kernel
theorem dX7_canGrasp_5 : decode cX7_canGrasp 5 = .ok (.iload_n 2, 1) := by decide +kernel
theorem dX7_canGrasp_6 : decode cX7_canGrasp 6 = .ok (.iconst (-1), 1) := by decide +kernel
theorem dX7_canGrasp_7 : decode cX7_canGrasp 7 = .ok (.ixor, 1) := by decide +kernel
theorem dX7_canGrasp_8 : decode cX7_canGrasp 8 = .ok (.iand, 1) := by decide +kernel
theorem dX7_canGrasp_9 : decode cX7_canGrasp 9 = .ok (.ifCond .ne 7, 3) := by decide +kernel
theorem dX7_canGrasp_12 : decode cX7_canGrasp 12 = .ok (.iconst 1, 1) := by decide +kernel
theorem dX7_canGrasp_13 : decode cX7_canGrasp 13 = .ok (.goto 4, 3) := by decide +kernel
theorem dX7_canGrasp_16 : decode cX7_canGrasp 16 = .ok (.iconst 0, 1) := by decide +kernel
theorem dX7_canGrasp_17 : decode cX7_canGrasp 17 = .ok (.ireturn, 1) := by decide +kernel
theorem dX7_inSeat_0 : decode cX7_inSeat 0 = .ok (.iconst 0, 1) := by decide +kernel
theorem dX7_inSeat_1 : decode cX7_inSeat 1 = .ok (.istore_n 2, 1) := by decide +kernel
theorem dX7_inSeat_2 : decode cX7_inSeat 2 = .ok (.iload_n 2, 1) := by decide +kernel
theorem dX7_inSeat_3 : decode cX7_inSeat 3 = .ok (.aload_n 0, 1) := by decide +kernel
theorem dX7_inSeat_4 : decode cX7_inSeat 4 = .ok (.iconst 0, 1) := by decide +kernel
theorem dX7_inSeat_5 : decode cX7_inSeat 5 = .ok (.iaload, 1) := by decide +kernel
theorem dX7_inSeat_6 : decode cX7_inSeat 6 = .ok (.if_icmp .ge 21, 3) := by decide +kernel
theorem dX7_inSeat_9 : decode cX7_inSeat 9 = .ok (.aload_n 0, 1) := by decide +kernel
theorem dX7_inSeat_10 : decode cX7_inSeat 10 = .ok (.iload_n 2, 1) := by decide +kernel
theorem dX7_inSeat_11 : decode cX7_inSeat 11 = .ok (.iconst 1, 1) := by decide +kernel
theorem dX7_inSeat_12 : decode cX7_inSeat 12 = .ok (.invokestatic 161, 3) := by decide +kernel
theorem dX7_inSeat_15 : decode cX7_inSeat 15 = .ok (.iload_n 1, 1) := by decide +kernel
theorem dX7_inSeat_16 : decode cX7_inSeat 16 = .ok (.if_icmp .ne 5, 3) := by decide +kernel
theorem dX7_inSeat_19 : decode cX7_inSeat 19 = .ok (.iload_n 2, 1) := by decide +kernel
theorem dX7_inSeat_20 : decode cX7_inSeat 20 = .ok (.ireturn, 1) := by decide +kernel
theorem dX7_inSeat_21 : decode cX7_inSeat 21 = .ok (.iinc 2 1, 3) := by decide +kernel
theorem dX7_inSeat_24 : decode cX7_inSeat 24 = .ok (.goto (-22), 3) := by decide +kernel
theorem dX7_inSeat_27 : decode cX7_inSeat 27 = .ok (.ldc 96, 2) := by decide +kernel
theorem dX7_inSeat_29 : decode cX7_inSeat 29 = .ok (.ireturn, 1) := by decide +kernel
theorem dX7_hears_0 : decode cX7_hears 0 = .ok (.aload_n 0, 1) := by decide +kernel
theorem dX7_hears_1 : decode cX7_hears 1 = .ok (.iload_n 1, 1) := by decide +kernel
theorem dX7_hears_2 : decode cX7_hears 2 = .ok (.iconst 1, 1) := by decide +kernel
theorem dX7_hears_3 : decode cX7_hears 3 = .ok (.invokestatic 161, 3) := by decide +kernel
theorem dX7_hears_6 : decode cX7_hears 6 = .ok (.istore_n 2, 1) := by decide +kernel
theorem dX7_hears_7 : decode cX7_hears 7 = .ok (.iload_n 2, 1) := by decide +kernel
theorem dX7_hears_8 : decode cX7_hears 8 = .ok (.aload_n 0, 1) := by decide +kernel
theorem dX7_hears_9 : decode cX7_hears 9 = .ok (.iconst 4, 1) := by decide +kernel
theorem dX7_hears_10 : decode cX7_hears 10 = .ok (.iaload, 1) := by decide +kernel
theorem dX7_hears_11 : decode cX7_hears 11 = .ok (.if_icmp .le 13, 3) := by decide +kernel
theorem dX7_hears_14 : decode cX7_hears 14 = .ok (.aload_n 0, 1) := by decide +kernel
theorem dX7_hears_15 : decode cX7_hears 15 = .ok (.iload_n 1, 1) := by decide +kernel
theorem dX7_hears_16 : decode cX7_hears 16 = .ok (.iconst 0, 1) := by decide +kernel
theorem dX7_hears_17 : decode cX7_hears 17 = .ok (.invokestatic 161, 3) := by decide +kernel
theorem dX7_hears_20 : decode cX7_hears 20 = .ok (.iconst 4, 1) := by decide +kernel
theorem dX7_hears_21 : decode cX7_hears 21 = .ok (.if_icmp .lt 5, 3) := by decide +kernel
theorem dX7_hears_24 : decode cX7_hears 24 = .ok (.iconst 1, 1) := by decide +kernel
theorem dX7_hears_25 : decode cX7_hears 25 = .ok (.ireturn, 1) := by decide +kernel
theorem dX7_hears_26 : decode cX7_hears 26 = .ok (.aload_n 0, 1) := by decide +kernel
theorem dX7_hears_27 : decode cX7_hears 27 = .ok (.aload_n 0, 1) := by decide +kernel
theorem dX7_hears_28 : decode cX7_hears 28 = .ok (.iload_n 2, 1) := by decide +kernel
theorem dX7_hears_29 : decode cX7_hears 29 = .ok (.iconst 1, 1) := by decide +kernel
theorem dX7_hears_30 : decode cX7_hears 30 = .ok (.isub, 1) := by decide +kernel
theorem dX7_hears_31 : decode cX7_hears 31 = .ok (.invokestatic 165, 3) := by decide +kernel
theorem dX7_hears_34 : decode cX7_hears 34 = .ok (.iconst 2, 1) := by decide +kernel
theorem dX7_hears_35 : decode cX7_hears 35 = .ok (.invokestatic 161, 3) := by decide +kernel
theorem dX7_hears_38 : decode cX7_hears 38 = .ok (.aload_n 0, 1) := by decide +kernel
theorem dX7_hears_39 : decode cX7_hears 39 = .ok (.aload_n 0, 1) := by decide +kernel
theorem dX7_hears_40 : decode cX7_hears 40 = .ok (.iconst 3, 1) := by decide +kernel
theorem dX7_hears_41 : decode cX7_hears 41 = .ok (.iaload, 1) := by decide +kernel
theorem dX7_hears_42 : decode cX7_hears 42 = .ok (.invokestatic 169, 3) := by decide +kernel
theorem dX7_hears_45 : decode cX7_hears 45 = .ok (.invokestatic 172, 3) := by decide +kernel
theorem dX7_hears_48 : decode cX7_hears 48 = .ok (.ireturn, 1) := by decide +kernel
theorem dX7_learned_0 : decode cX7_learned 0 = .ok (.aload_n 0, 1) := by decide +kernel
theorem dX7_learned_1 : decode cX7_learned 1 = .ok (.iload_n 1, 1) := by decide +kernel
theorem dX7_learned_2 : decode cX7_learned 2 = .ok (.iconst 2, 1) := by decide +kernel
theorem dX7_learned_3 : decode cX7_learned 3 = .ok (.invokestatic 161, 3) := by decide +kernel
theorem dX7_learned_6 : decode cX7_learned 6 = .ok (.istore_n 3, 1) := by decide +kernel
theorem dX7_learned_7 : decode cX7_learned 7 = .ok (.aload_n 0, 1) := by decide +kernel
theorem dX7_learned_8 : decode cX7_learned 8 = .ok (.iload_n 1, 1) := by decide +kernel
theorem dX7_learned_9 : decode cX7_learned 9 = .ok (.iconst 3, 1) := by decide +kernel
theorem dX7_learned_10 : decode cX7_learned 10 = .ok (.iload_n 2, 1) := by decide +kernel
theorem dX7_learned_11 : decode cX7_learned 11 = .ok (.iadd, 1) := by decide +kernel
theorem dX7_learned_12 : decode cX7_learned 12 = .ok (.invokestatic 161, 3) := by decide +kernel
theorem dX7_learned_15 : decode cX7_learned 15 = .ok (.istore 4, 2) := by decide +kernel
theorem dX7_learned_17 : decode cX7_learned 17 = .ok (.aload_n 0, 1) := by decide +kernel
theorem dX7_learned_18 : decode cX7_learned 18 = .ok (.iload_n 1, 1) := by decide +kernel
theorem dX7_learned_19 : decode cX7_learned 19 = .ok (.iconst 0, 1) := by decide +kernel
theorem dX7_learned_20 : decode cX7_learned 20 = .ok (.invokestatic 161, 3) := by decide +kernel
theorem dX7_learned_23 : decode cX7_learned 23 = .ok (.istore 5, 2) := by decide +kernel
theorem dX7_learned_25 : decode cX7_learned 25 = .ok (.iload 5, 2) := by decide +kernel
theorem dX7_learned_27 : decode cX7_learned 27 = .ok (.iconst 4, 1) := by decide +kernel
theorem dX7_learned_28 : decode cX7_learned 28 = .ok (.if_icmp .ge 32, 3) := by decide +kernel
theorem dX7_learned_31 : decode cX7_learned 31 = .ok (.aload_n 0, 1) := by decide +kernel
theorem dX7_learned_32 : decode cX7_learned 32 = .ok (.iload_n 2, 1) := by decide +kernel
theorem dX7_learned_33 : decode cX7_learned 33 = .ok (.iload_n 3, 1) := by decide +kernel
theorem dX7_learned_34 : decode cX7_learned 34 = .ok (.invokestatic 176, 3) := by decide +kernel
theorem dX7_learned_37 : decode cX7_learned 37 = .ok (.ifCond .eq 19, 3) := by decide +kernel
theorem dX7_learned_40 : decode cX7_learned 40 = .ok (.iload 5, 2) := by decide +kernel
theorem dX7_learned_42 : decode cX7_learned 42 = .ok (.iconst 3, 1) := by decide +kernel
theorem dX7_learned_43 : decode cX7_learned 43 = .ok (.if_icmp .ne 9, 3) := by decide +kernel
theorem dX7_learned_46 : decode cX7_learned 46 = .ok (.iload 4, 2) := by decide +kernel
theorem dX7_learned_48 : decode cX7_learned 48 = .ok (.iconst 2, 1) := by decide +kernel
theorem dX7_learned_49 : decode cX7_learned 49 = .ok (.if_icmp .lt 7, 3) := by decide +kernel
theorem dX7_learned_52 : decode cX7_learned 52 = .ok (.iconst 1, 1) := by decide +kernel
theorem dX7_learned_53 : decode cX7_learned 53 = .ok (.goto 25, 3) := by decide +kernel
theorem dX7_learned_56 : decode cX7_learned 56 = .ok (.iconst 0, 1) := by decide +kernel
theorem dX7_learned_57 : decode cX7_learned 57 = .ok (.goto 21, 3) := by decide +kernel
theorem dX7_learned_60 : decode cX7_learned 60 = .ok (.iload 4, 2) := by decide +kernel
theorem dX7_learned_62 : decode cX7_learned 62 = .ok (.aload_n 0, 1) := by decide +kernel
theorem dX7_learned_63 : decode cX7_learned 63 = .ok (.iconst 5, 1) := by decide +kernel
theorem dX7_learned_64 : decode cX7_learned 64 = .ok (.iload_n 2, 1) := by decide +kernel
theorem dX7_learned_65 : decode cX7_learned 65 = .ok (.iadd, 1) := by decide +kernel
theorem dX7_learned_66 : decode cX7_learned 66 = .ok (.iaload, 1) := by decide +kernel
theorem dX7_learned_67 : decode cX7_learned 67 = .ok (.invokestatic 180, 3) := by decide +kernel
theorem dX7_learned_70 : decode cX7_learned 70 = .ok (.if_icmp .lt 7, 3) := by decide +kernel
theorem dX7_learned_73 : decode cX7_learned 73 = .ok (.iconst 1, 1) := by decide +kernel
theorem dX7_learned_74 : decode cX7_learned 74 = .ok (.goto 4, 3) := by decide +kernel
theorem dX7_learned_77 : decode cX7_learned 77 = .ok (.iconst 0, 1) := by decide +kernel
theorem dX7_learned_78 : decode cX7_learned 78 = .ok (.istore 6, 2) := by decide +kernel
theorem dX7_learned_80 : decode cX7_learned 80 = .ok (.iload_n 3, 1) := by decide +kernel
theorem dX7_learned_81 : decode cX7_learned 81 = .ok (.iload 6, 2) := by decide +kernel
theorem dX7_learned_83 : decode cX7_learned 83 = .ok (.ifCond .eq 9, 3) := by decide +kernel
theorem dX7_learned_86 : decode cX7_learned 86 = .ok (.iconst 1, 1) := by decide +kernel
theorem dX7_learned_87 : decode cX7_learned 87 = .ok (.iload_n 2, 1) := by decide +kernel
theorem dX7_learned_88 : decode cX7_learned 88 = .ok (.ishl, 1) := by decide +kernel
theorem dX7_learned_89 : decode cX7_learned 89 = .ok (.goto 4, 3) := by decide +kernel
theorem dX7_learned_92 : decode cX7_learned 92 = .ok (.iconst 0, 1) := by decide +kernel
theorem dX7_learned_93 : decode cX7_learned 93 = .ok (.ior, 1) := by decide +kernel
theorem dX7_learned_94 : decode cX7_learned 94 = .ok (.istore_n 3, 1) := by decide +kernel
theorem dX7_learned_95 : decode cX7_learned 95 = .ok (.iload_n 2, 1) := by decide +kernel
theorem dX7_learned_96 : decode cX7_learned 96 = .ok (.iconst 1, 1) := by decide +kernel
theorem dX7_learned_97 : decode cX7_learned 97 = .ok (.iadd, 1) := by decide +kernel
theorem dX7_learned_98 : decode cX7_learned 98 = .ok (.istore 7, 2) := by decide +kernel
theorem dX7_learned_100 : decode cX7_learned 100 = .ok (.iload 7, 2) := by decide +kernel
theorem dX7_learned_102 : decode cX7_learned 102 = .ok (.aload_n 0, 1) := by decide +kernel
theorem dX7_learned_103 : decode cX7_learned 103 = .ok (.iconst 1, 1) := by decide +kernel
theorem dX7_learned_104 : decode cX7_learned 104 = .ok (.iaload, 1) := by decide +kernel
theorem dX7_learned_105 : decode cX7_learned 105 = .ok (.if_icmp .ge 45, 3) := by decide +kernel
theorem dX7_learned_108 : decode cX7_learned 108 = .ok (.iload 5, 2) := by decide +kernel
theorem dX7_learned_110 : decode cX7_learned 110 = .ok (.iconst 2, 1) := by decide +kernel
theorem dX7_learned_111 : decode cX7_learned 111 = .ok (.if_icmp .ne 39, 3) := by decide +kernel
theorem dX7_learned_114 : decode cX7_learned 114 = .ok (.iload_n 3, 1) := by decide +kernel
theorem dX7_learned_115 : decode cX7_learned 115 = .ok (.aload_n 0, 1) := by decide +kernel
theorem dX7_learned_116 : decode cX7_learned 116 = .ok (.iconst 5, 1) := by decide +kernel
theorem dX7_learned_117 : decode cX7_learned 117 = .ok (.iload 7, 2) := by decide +kernel
theorem dX7_learned_119 : decode cX7_learned 119 = .ok (.iadd, 1) := by decide +kernel
theorem dX7_learned_120 : decode cX7_learned 120 = .ok (.iaload, 1) := by decide +kernel
theorem dX7_learned_121 : decode cX7_learned 121 = .ok (.ifCond .eq 20, 3) := by decide +kernel
theorem dX7_learned_124 : decode cX7_learned 124 = .ok (.aload_n 0, 1) := by decide +kernel
theorem dX7_learned_125 : decode cX7_learned 125 = .ok (.iload 7, 2) := by decide +kernel
theorem dX7_learned_127 : decode cX7_learned 127 = .ok (.iload_n 3, 1) := by decide +kernel
theorem dX7_learned_128 : decode cX7_learned 128 = .ok (.invokestatic 176, 3) := by decide +kernel
theorem dX7_learned_131 : decode cX7_learned 131 = .ok (.ifCond .eq 10, 3) := by decide +kernel
theorem dX7_learned_134 : decode cX7_learned 134 = .ok (.iconst 1, 1) := by decide +kernel
theorem dX7_learned_135 : decode cX7_learned 135 = .ok (.iload 7, 2) := by decide +kernel
theorem dX7_learned_137 : decode cX7_learned 137 = .ok (.ishl, 1) := by decide +kernel
theorem dX7_learned_138 : decode cX7_learned 138 = .ok (.goto 4, 3) := by decide +kernel
theorem dX7_learned_141 : decode cX7_learned 141 = .ok (.iconst 0, 1) := by decide +kernel
theorem dX7_learned_142 : decode cX7_learned 142 = .ok (.ior, 1) := by decide +kernel
theorem dX7_learned_143 : decode cX7_learned 143 = .ok (.istore_n 3, 1) := by decide +kernel
theorem dX7_learned_144 : decode cX7_learned 144 = .ok (.iinc 7 1, 3) := by decide +kernel
theorem dX7_learned_147 : decode cX7_learned 147 = .ok (.goto (-47), 3) := by decide +kernel
theorem dX7_learned_150 : decode cX7_learned 150 = .ok (.iload 5, 2) := by decide +kernel
theorem dX7_learned_152 : decode cX7_learned 152 = .ok (.iconst 5, 1) := by decide +kernel
theorem dX7_learned_153 : decode cX7_learned 153 = .ok (.if_icmp .ne 19, 3) := by decide +kernel
theorem dX7_learned_156 : decode cX7_learned 156 = .ok (.iload_n 3, 1) := by decide +kernel
theorem dX7_learned_157 : decode cX7_learned 157 = .ok (.invokestatic 180, 3) := by decide +kernel
theorem dX7_learned_160 : decode cX7_learned 160 = .ok (.iconst 4, 1) := by decide +kernel
theorem dX7_learned_161 : decode cX7_learned 161 = .ok (.if_icmp .le 11, 3) := by decide +kernel
theorem dX7_learned_164 : decode cX7_learned 164 = .ok (.iload_n 3, 1) := by decide +kernel
theorem dX7_learned_165 : decode cX7_learned 165 = .ok (.iload_n 3, 1) := by decide +kernel
theorem dX7_learned_166 : decode cX7_learned 166 = .ok (.iconst 1, 1) := by decide +kernel
theorem dX7_learned_167 : decode cX7_learned 167 = .ok (.isub, 1) := by decide +kernel
theorem dX7_learned_168 : decode cX7_learned 168 = .ok (.iand, 1) := by decide +kernel
theorem dX7_learned_169 : decode cX7_learned 169 = .ok (.goto 4, 3) := by decide +kernel
theorem dX7_learned_172 : decode cX7_learned 172 = .ok (.iload_n 3, 1) := by decide +kernel
theorem dX7_learned_173 : decode cX7_learned 173 = .ok (.ireturn, 1) := by decide +kernel
theorem dX7_dayBy_0 : decode cX7_dayBy 0 = .ok (.aload_n 1, 1) := by decide +kernel
theorem dX7_dayBy_1 : decode cX7_dayBy 1 = .ok (.aload_n 1, 1) := by decide +kernel
theorem dX7_dayBy_2 : decode cX7_dayBy 2 = .ok (.iconst 3, 1) := by decide +kernel
theorem dX7_dayBy_3 : decode cX7_dayBy 3 = .ok (.iaload, 1) := by decide +kernel
theorem dX7_dayBy_4 : decode cX7_dayBy 4 = .ok (.invokestatic 169, 3) := by decide +kernel
theorem dX7_dayBy_7 : decode cX7_dayBy 7 = .ok (.istore_n 3, 1) := by decide +kernel
theorem dX7_dayBy_8 : decode cX7_dayBy 8 = .ok (.iconst 0, 1) := by decide +kernel
theorem dX7_dayBy_9 : decode cX7_dayBy 9 = .ok (.istore 4, 2) := by decide +kernel
theorem dX7_dayBy_11 : decode cX7_dayBy 11 = .ok (.iload 4, 2) := by decide +kernel
theorem dX7_dayBy_13 : decode cX7_dayBy 13 = .ok (.aload_n 1, 1) := by decide +kernel
theorem dX7_dayBy_14 : decode cX7_dayBy 14 = .ok (.iconst 0, 1) := by decide +kernel
theorem dX7_dayBy_15 : decode cX7_dayBy 15 = .ok (.iaload, 1) := by decide +kernel
theorem dX7_dayBy_16 : decode cX7_dayBy 16 = .ok (.if_icmp .ge 34, 3) := by decide +kernel
theorem dX7_dayBy_19 : decode cX7_dayBy 19 = .ok (.aload_n 0, 1) := by decide +kernel
theorem dX7_dayBy_20 : decode cX7_dayBy 20 = .ok (.getfield 34, 3) := by decide +kernel
theorem dX7_dayBy_23 : decode cX7_dayBy 23 = .ok (.iload 4, 2) := by decide +kernel
theorem dX7_dayBy_25 : decode cX7_dayBy 25 = .ok (.iload_n 2, 1) := by decide +kernel
theorem dX7_dayBy_26 : decode cX7_dayBy 26 = .ok (.ifCond .ne 16, 3) := by decide +kernel
theorem dX7_dayBy_29 : decode cX7_dayBy 29 = .ok (.aload_n 1, 1) := by decide +kernel
theorem dX7_dayBy_30 : decode cX7_dayBy 30 = .ok (.iload 4, 2) := by decide +kernel
theorem dX7_dayBy_32 : decode cX7_dayBy 32 = .ok (.invokestatic 183, 3) := by decide +kernel
theorem dX7_dayBy_35 : decode cX7_dayBy 35 = .ok (.ifCond .eq 7, 3) := by decide +kernel
theorem dX7_dayBy_38 : decode cX7_dayBy 38 = .ok (.iconst 1, 1) := by decide +kernel
theorem dX7_dayBy_39 : decode cX7_dayBy 39 = .ok (.goto 4, 3) := by decide +kernel
theorem dX7_dayBy_42 : decode cX7_dayBy 42 = .ok (.iconst 0, 1) := by decide +kernel
theorem dX7_dayBy_43 : decode cX7_dayBy 43 = .ok (.bastore, 1) := by decide +kernel
theorem dX7_dayBy_44 : decode cX7_dayBy 44 = .ok (.iinc 4 1, 3) := by decide +kernel
theorem dX7_dayBy_47 : decode cX7_dayBy 47 = .ok (.goto (-36), 3) := by decide +kernel
theorem dX7_dayBy_50 : decode cX7_dayBy 50 = .ok (.iconst 0, 1) := by decide +kernel
theorem dX7_dayBy_51 : decode cX7_dayBy 51 = .ok (.istore 4, 2) := by decide +kernel
theorem dX7_dayBy_53 : decode cX7_dayBy 53 = .ok (.iload 4, 2) := by decide +kernel
theorem dX7_dayBy_55 : decode cX7_dayBy 55 = .ok (.aload_n 1, 1) := by decide +kernel
theorem dX7_dayBy_56 : decode cX7_dayBy 56 = .ok (.iconst 0, 1) := by decide +kernel
theorem dX7_dayBy_57 : decode cX7_dayBy 57 = .ok (.iaload, 1) := by decide +kernel
theorem dX7_dayBy_58 : decode cX7_dayBy 58 = .ok (.if_icmp .ge 69, 3) := by decide +kernel
theorem dX7_dayBy_61 : decode cX7_dayBy 61 = .ok (.aload_n 0, 1) := by decide +kernel
theorem dX7_dayBy_62 : decode cX7_dayBy 62 = .ok (.getfield 34, 3) := by decide +kernel
theorem dX7_dayBy_65 : decode cX7_dayBy 65 = .ok (.iload 4, 2) := by decide +kernel
theorem dX7_dayBy_67 : decode cX7_dayBy 67 = .ok (.baload, 1) := by decide +kernel
theorem dX7_dayBy_68 : decode cX7_dayBy 68 = .ok (.ifCond .eq 53, 3) := by decide +kernel
theorem dX7_dayBy_71 : decode cX7_dayBy 71 = .ok (.aload_n 1, 1) := by decide +kernel
theorem dX7_dayBy_72 : decode cX7_dayBy 72 = .ok (.iload 4, 2) := by decide +kernel
theorem dX7_dayBy_74 : decode cX7_dayBy 74 = .ok (.iconst 3, 1) := by decide +kernel
theorem dX7_dayBy_75 : decode cX7_dayBy 75 = .ok (.iload_n 3, 1) := by decide +kernel
theorem dX7_dayBy_76 : decode cX7_dayBy 76 = .ok (.iadd, 1) := by decide +kernel
theorem dX7_dayBy_77 : decode cX7_dayBy 77 = .ok (.invokestatic 161, 3) := by decide +kernel
theorem dX7_dayBy_80 : decode cX7_dayBy 80 = .ok (.istore 5, 2) := by decide +kernel
theorem dX7_dayBy_82 : decode cX7_dayBy 82 = .ok (.aload_n 1, 1) := by decide +kernel
theorem dX7_dayBy_83 : decode cX7_dayBy 83 = .ok (.iload 4, 2) := by decide +kernel
theorem dX7_dayBy_85 : decode cX7_dayBy 85 = .ok (.iconst 3, 1) := by decide +kernel
theorem dX7_dayBy_86 : decode cX7_dayBy 86 = .ok (.iload_n 3, 1) := by decide +kernel
theorem dX7_dayBy_87 : decode cX7_dayBy 87 = .ok (.iadd, 1) := by decide +kernel
theorem dX7_dayBy_88 : decode cX7_dayBy 88 = .ok (.iload 5, 2) := by decide +kernel
theorem dX7_dayBy_90 : decode cX7_dayBy 90 = .ok (.bipush 99, 2) := by decide +kernel
theorem dX7_dayBy_92 : decode cX7_dayBy 92 = .ok (.if_icmp .ge 10, 3) := by decide +kernel
theorem dX7_dayBy_95 : decode cX7_dayBy 95 = .ok (.iload 5, 2) := by decide +kernel
theorem dX7_dayBy_97 : decode cX7_dayBy 97 = .ok (.iconst 1, 1) := by decide +kernel
theorem dX7_dayBy_98 : decode cX7_dayBy 98 = .ok (.iadd, 1) := by decide +kernel
theorem dX7_dayBy_99 : decode cX7_dayBy 99 = .ok (.goto 5, 3) := by decide +kernel
theorem dX7_dayBy_102 : decode cX7_dayBy 102 = .ok (.bipush 99, 2) := by decide +kernel
theorem dX7_dayBy_104 : decode cX7_dayBy 104 = .ok (.invokestatic 187, 3) := by decide +kernel
theorem dX7_dayBy_107 : decode cX7_dayBy 107 = .ok (.aload_n 1, 1) := by decide +kernel
theorem dX7_dayBy_108 : decode cX7_dayBy 108 = .ok (.iload 4, 2) := by decide +kernel
theorem dX7_dayBy_110 : decode cX7_dayBy 110 = .ok (.iconst 2, 1) := by decide +kernel
theorem dX7_dayBy_111 : decode cX7_dayBy 111 = .ok (.aload_n 1, 1) := by decide +kernel
theorem dX7_dayBy_112 : decode cX7_dayBy 112 = .ok (.iload 4, 2) := by decide +kernel
theorem dX7_dayBy_114 : decode cX7_dayBy 114 = .ok (.iload_n 3, 1) := by decide +kernel
theorem dX7_dayBy_115 : decode cX7_dayBy 115 = .ok (.invokestatic 191, 3) := by decide +kernel
theorem dX7_dayBy_118 : decode cX7_dayBy 118 = .ok (.invokestatic 187, 3) := by decide +kernel
theorem dX7_dayBy_121 : decode cX7_dayBy 121 = .ok (.iinc 4 1, 3) := by decide +kernel
theorem dX7_dayBy_124 : decode cX7_dayBy 124 = .ok (.goto (-71), 3) := by decide +kernel
theorem dX7_dayBy_127 : decode cX7_dayBy 127 = .ok (.aload_n 1, 1) := by decide +kernel
theorem dX7_dayBy_128 : decode cX7_dayBy 128 = .ok (.iconst 3, 1) := by decide +kernel
theorem dX7_dayBy_129 : decode cX7_dayBy 129 = .ok (.dup2, 1) := by decide +kernel
theorem dX7_dayBy_130 : decode cX7_dayBy 130 = .ok (.iaload, 1) := by decide +kernel
theorem dX7_dayBy_131 : decode cX7_dayBy 131 = .ok (.iconst 1, 1) := by decide +kernel
theorem dX7_dayBy_132 : decode cX7_dayBy 132 = .ok (.iadd, 1) := by decide +kernel
theorem dX7_dayBy_133 : decode cX7_dayBy 133 = .ok (.iastore, 1) := by decide +kernel
theorem dX7_dayBy_134 : decode cX7_dayBy 134 = .ok (.return_, 1) := by decide +kernel
theorem dX7_daysOf_0 : decode cX7_daysOf 0 = .ok (.iconst 0, 1) := by decide +kernel
theorem dX7_daysOf_1 : decode cX7_daysOf 1 = .ok (.istore_n 3, 1) := by decide +kernel
theorem dX7_daysOf_2 : decode cX7_daysOf 2 = .ok (.iload_n 3, 1) := by decide +kernel
theorem dX7_daysOf_3 : decode cX7_daysOf 3 = .ok (.iload_n 2, 1) := by decide +kernel
theorem dX7_daysOf_4 : decode cX7_daysOf 4 = .ok (.if_icmp .ge 15, 3) := by decide +kernel
theorem dX7_daysOf_7 : decode cX7_daysOf 7 = .ok (.aload_n 0, 1) := by decide +kernel
theorem dX7_daysOf_8 : decode cX7_daysOf 8 = .ok (.aload_n 1, 1) := by decide +kernel
theorem dX7_daysOf_9 : decode cX7_daysOf 9 = .ok (.iconst 0, 1) := by decide +kernel
theorem dX7_daysOf_10 : decode cX7_daysOf 10 = .ok (.invokevirtual 194, 3) := by decide +kernel
theorem dX7_daysOf_13 : decode cX7_daysOf 13 = .ok (.iinc 3 1, 3) := by decide +kernel
theorem dX7_daysOf_16 : decode cX7_daysOf 16 = .ok (.goto (-14), 3) := by decide +kernel
theorem dX7_daysOf_19 : decode cX7_daysOf 19 = .ok (.return_, 1) := by decide +kernel
theorem dX7_known_0 : decode cX7_known 0 = .ok (.iconst 0, 1) := by decide +kernel
theorem dX7_known_1 : decode cX7_known 1 = .ok (.istore_n 1, 1) := by decide +kernel
theorem dX7_known_2 : decode cX7_known 2 = .ok (.iconst 0, 1) := by decide +kernel
theorem dX7_known_3 : decode cX7_known 3 = .ok (.istore_n 2, 1) := by decide +kernel
theorem dX7_known_4 : decode cX7_known 4 = .ok (.iload_n 2, 1) := by decide +kernel
theorem dX7_known_5 : decode cX7_known 5 = .ok (.aload_n 0, 1) := by decide +kernel
theorem dX7_known_6 : decode cX7_known 6 = .ok (.iconst 0, 1) := by decide +kernel
theorem dX7_known_7 : decode cX7_known 7 = .ok (.iaload, 1) := by decide +kernel
theorem dX7_known_8 : decode cX7_known 8 = .ok (.if_icmp .ge 21, 3) := by decide +kernel
theorem dX7_known_11 : decode cX7_known 11 = .ok (.iload_n 1, 1) := by decide +kernel
theorem dX7_known_12 : decode cX7_known 12 = .ok (.aload_n 0, 1) := by decide +kernel
theorem dX7_known_13 : decode cX7_known 13 = .ok (.iload_n 2, 1) := by decide +kernel
theorem dX7_known_14 : decode cX7_known 14 = .ok (.iconst 2, 1) := by decide +kernel
theorem dX7_known_15 : decode cX7_known 15 = .ok (.invokestatic 161, 3) := by decide +kernel
theorem dX7_known_18 : decode cX7_known 18 = .ok (.invokestatic 180, 3) := by decide +kernel
theorem dX7_known_21 : decode cX7_known 21 = .ok (.iadd, 1) := by decide +kernel
theorem dX7_known_22 : decode cX7_known 22 = .ok (.istore_n 1, 1) := by decide +kernel
theorem dX7_known_23 : decode cX7_known 23 = .ok (.iinc 2 1, 3) := by decide +kernel
theorem dX7_known_26 : decode cX7_known 26 = .ok (.goto (-22), 3) := by decide +kernel
theorem dX7_known_29 : decode cX7_known 29 = .ok (.iload_n 1, 1) := by decide +kernel
theorem dX7_known_30 : decode cX7_known 30 = .ok (.ireturn, 1) := by decide +kernel
theorem dX7_knownBy_0 : decode cX7_knownBy 0 = .ok (.iload_n 1, 1) := by decide +kernel
theorem dX7_knownBy_1 : decode cX7_knownBy 1 = .ok (.ifCond .eq 13, 3) := by decide +kernel
theorem dX7_knownBy_4 : decode cX7_knownBy 4 = .ok (.iconst 1, 1) := by decide +kernel
theorem dX7_knownBy_5 : decode cX7_knownBy 5 = .ok (.aload_n 0, 1) := by decide +kernel
theorem dX7_knownBy_6 : decode cX7_knownBy 6 = .ok (.iconst 1, 1) := by decide +kernel
theorem dX7_knownBy_7 : decode cX7_knownBy 7 = .ok (.iaload, 1) := by decide +kernel
theorem dX7_knownBy_8 : decode cX7_knownBy 8 = .ok (.ishl, 1) := by decide +kernel
theorem dX7_knownBy_9 : decode cX7_knownBy 9 = .ok (.iconst 1, 1) := by decide +kernel
theorem dX7_knownBy_10 : decode cX7_knownBy 10 = .ok (.isub, 1) := by decide +kernel
theorem dX7_knownBy_11 : decode cX7_knownBy 11 = .ok (.goto 4, 3) := by decide +kernel
theorem dX7_knownBy_14 : decode cX7_knownBy 14 = .ok (.iconst 0, 1) := by decide +kernel
theorem dX7_knownBy_15 : decode cX7_knownBy 15 = .ok (.istore_n 2, 1) := by decide +kernel
theorem dX7_knownBy_16 : decode cX7_knownBy 16 = .ok (.iconst 0, 1) := by decide +kernel
theorem dX7_knownBy_17 : decode cX7_knownBy 17 = .ok (.istore_n 3, 1) := by decide +kernel
theorem dX7_knownBy_18 : decode cX7_knownBy 18 = .ok (.iload_n 3, 1) := by decide +kernel
theorem dX7_knownBy_19 : decode cX7_knownBy 19 = .ok (.aload_n 0, 1) := by decide +kernel
theorem dX7_knownBy_20 : decode cX7_knownBy 20 = .ok (.iconst 0, 1) := by decide +kernel
theorem dX7_knownBy_21 : decode cX7_knownBy 21 = .ok (.iaload, 1) := by decide +kernel
theorem dX7_knownBy_22 : decode cX7_knownBy 22 = .ok (.if_icmp .ge 33, 3) := by decide +kernel
theorem dX7_knownBy_25 : decode cX7_knownBy 25 = .ok (.iload_n 1, 1) := by decide +kernel
theorem dX7_knownBy_26 : decode cX7_knownBy 26 = .ok (.ifCond .eq 14, 3) := by decide +kernel
theorem dX7_knownBy_29 : decode cX7_knownBy 29 = .ok (.iload_n 2, 1) := by decide +kernel
theorem dX7_knownBy_30 : decode cX7_knownBy 30 = .ok (.aload_n 0, 1) := by decide +kernel
theorem dX7_knownBy_31 : decode cX7_knownBy 31 = .ok (.iload_n 3, 1) := by decide +kernel
theorem dX7_knownBy_32 : decode cX7_knownBy 32 = .ok (.iconst 2, 1) := by decide +kernel
theorem dX7_knownBy_33 : decode cX7_knownBy 33 = .ok (.invokestatic 161, 3) := by decide +kernel
theorem dX7_knownBy_36 : decode cX7_knownBy 36 = .ok (.iand, 1) := by decide +kernel
theorem dX7_knownBy_37 : decode cX7_knownBy 37 = .ok (.goto 11, 3) := by decide +kernel
theorem dX7_knownBy_40 : decode cX7_knownBy 40 = .ok (.iload_n 2, 1) := by decide +kernel
theorem dX7_knownBy_41 : decode cX7_knownBy 41 = .ok (.aload_n 0, 1) := by decide +kernel
theorem dX7_knownBy_42 : decode cX7_knownBy 42 = .ok (.iload_n 3, 1) := by decide +kernel
theorem dX7_knownBy_43 : decode cX7_knownBy 43 = .ok (.iconst 2, 1) := by decide +kernel
theorem dX7_knownBy_44 : decode cX7_knownBy 44 = .ok (.invokestatic 161, 3) := by decide +kernel
theorem dX7_knownBy_47 : decode cX7_knownBy 47 = .ok (.ior, 1) := by decide +kernel
theorem dX7_knownBy_48 : decode cX7_knownBy 48 = .ok (.istore_n 2, 1) := by decide +kernel
theorem dX7_knownBy_49 : decode cX7_knownBy 49 = .ok (.iinc 3 1, 3) := by decide +kernel
theorem dX7_knownBy_52 : decode cX7_knownBy 52 = .ok (.goto (-34), 3) := by decide +kernel
theorem dX7_knownBy_55 : decode cX7_knownBy 55 = .ok (.iload_n 2, 1) := by decide +kernel
theorem dX7_knownBy_56 : decode cX7_knownBy 56 = .ok (.ireturn, 1) := by decide +kernel
theorem dX7_exchange_0 : decode cX7_exchange 0 = .ok (.aload_n 0, 1) := by decide +kernel
theorem dX7_exchange_1 : decode cX7_exchange 1 = .ok (.iload_n 1, 1) := by decide +kernel
theorem dX7_exchange_2 : decode cX7_exchange 2 = .ok (.iconst 1, 1) := by decide +kernel
theorem dX7_exchange_3 : decode cX7_exchange 3 = .ok (.invokestatic 161, 3) := by decide +kernel
theorem dX7_exchange_6 : decode cX7_exchange 6 = .ok (.istore_n 3, 1) := by decide +kernel
theorem dX7_exchange_7 : decode cX7_exchange 7 = .ok (.aload_n 0, 1) := by decide +kernel
theorem dX7_exchange_8 : decode cX7_exchange 8 = .ok (.iload_n 1, 1) := by decide +kernel
theorem dX7_exchange_9 : decode cX7_exchange 9 = .ok (.iconst 1, 1) := by decide +kernel
theorem dX7_exchange_10 : decode cX7_exchange 10 = .ok (.aload_n 0, 1) := by decide +kernel
theorem dX7_exchange_11 : decode cX7_exchange 11 = .ok (.iload_n 2, 1) := by decide +kernel
theorem dX7_exchange_12 : decode cX7_exchange 12 = .ok (.iconst 1, 1) := by decide +kernel
theorem dX7_exchange_13 : decode cX7_exchange 13 = .ok (.invokestatic 161, 3) := by decide +kernel
theorem dX7_exchange_16 : decode cX7_exchange 16 = .ok (.invokestatic 187, 3) := by decide +kernel
theorem dX7_exchange_19 : decode cX7_exchange 19 = .ok (.aload_n 0, 1) := by decide +kernel
theorem dX7_exchange_20 : decode cX7_exchange 20 = .ok (.iload_n 2, 1) := by decide +kernel
theorem dX7_exchange_21 : decode cX7_exchange 21 = .ok (.iconst 1, 1) := by decide +kernel
theorem dX7_exchange_22 : decode cX7_exchange 22 = .ok (.iload_n 3, 1) := by decide +kernel
theorem dX7_exchange_23 : decode cX7_exchange 23 = .ok (.invokestatic 187, 3) := by decide +kernel
theorem dX7_exchange_26 : decode cX7_exchange 26 = .ok (.return_, 1) := by decide +kernel
theorem dX7_layThen_0 : decode cX7_layThen 0 = .ok (.iconst 0, 1) := by decide +kernel
theorem dX7_layThen_1 : decode cX7_layThen 1 = .ok (.istore_n 1, 1) := by decide +kernel
theorem dX7_layThen_2 : decode cX7_layThen 2 = .ok (.iload_n 1, 1) := by decide +kernel
theorem dX7_layThen_3 : decode cX7_layThen 3 = .ok (.bipush 73, 2) := by decide +kernel
theorem dX7_layThen_5 : decode cX7_layThen 5 = .ok (.if_icmp .ge 21, 3) := by decide +kernel
theorem dX7_layThen_8 : decode cX7_layThen 8 = .ok (.aload_n 0, 1) := by decide +kernel
theorem dX7_layThen_9 : decode cX7_layThen 9 = .ok (.getfield 25, 3) := by decide +kernel
theorem dX7_layThen_12 : decode cX7_layThen 12 = .ok (.iload_n 1, 1) := by decide +kernel
theorem dX7_layThen_13 : decode cX7_layThen 13 = .ok (.aload_n 0, 1) := by decide +kernel
theorem dX7_layThen_14 : decode cX7_layThen 14 = .ok (.getfield 19, 3) := by decide +kernel
theorem dX7_layThen_17 : decode cX7_layThen 17 = .ok (.iload_n 1, 1) := by decide +kernel
theorem dX7_layThen_18 : decode cX7_layThen 18 = .ok (.iaload, 1) := by decide +kernel
theorem dX7_layThen_19 : decode cX7_layThen 19 = .ok (.iastore, 1) := by decide +kernel
theorem dX7_layThen_20 : decode cX7_layThen 20 = .ok (.iinc 1 1, 3) := by decide +kernel
theorem dX7_layThen_23 : decode cX7_layThen 23 = .ok (.goto (-21), 3) := by decide +kernel
theorem dX7_layThen_26 : decode cX7_layThen 26 = .ok (.return_, 1) := by decide +kernel
theorem dX7_keep_0 : decode cX7_keep 0 = .ok (.aload_n 0, 1) := by decide +kernel
theorem dX7_keep_1 : decode cX7_keep 1 = .ok (.getfield 158, 3) := by decide +kernel
theorem dX7_keep_4 : decode cX7_keep 4 = .ok (.bipush 24, 2) := by decide +kernel
theorem dX7_keep_6 : decode cX7_keep 6 = .ok (.if_icmp .ne 43, 3) := by decide +kernel
theorem dX7_keep_9 : decode cX7_keep 9 = .ok (.iconst 0, 1) := by decide +kernel
theorem dX7_keep_10 : decode cX7_keep 10 = .ok (.istore_n 1, 1) := by decide +kernel
theorem dX7_keep_11 : decode cX7_keep 11 = .ok (.iload_n 1, 1) := by decide +kernel
theorem dX7_keep_12 : decode cX7_keep 12 = .ok (.sipush 1679, 3) := by decide +kernel
theorem dX7_keep_15 : decode cX7_keep 15 = .ok (.if_icmp .ge 24, 3) := by decide +kernel
theorem dX7_keep_18 : decode cX7_keep 18 = .ok (.aload_n 0, 1) := by decide +kernel
theorem dX7_keep_19 : decode cX7_keep 19 = .ok (.getfield 28, 3) := by decide +kernel
theorem dX7_keep_22 : decode cX7_keep 22 = .ok (.iload_n 1, 1) := by decide +kernel
theorem dX7_keep_23 : decode cX7_keep 23 = .ok (.aload_n 0, 1) := by decide +kernel
theorem dX7_keep_24 : decode cX7_keep 24 = .ok (.getfield 28, 3) := by decide +kernel
theorem dX7_keep_27 : decode cX7_keep 27 = .ok (.iload_n 1, 1) := by decide +kernel
theorem dX7_keep_28 : decode cX7_keep 28 = .ok (.bipush 73, 2) := by decide +kernel
theorem dX7_keep_30 : decode cX7_keep 30 = .ok (.iadd, 1) := by decide +kernel
theorem dX7_keep_31 : decode cX7_keep 31 = .ok (.iaload, 1) := by decide +kernel
theorem dX7_keep_32 : decode cX7_keep 32 = .ok (.iastore, 1) := by decide +kernel
theorem dX7_keep_33 : decode cX7_keep 33 = .ok (.iinc 1 1, 3) := by decide +kernel
theorem dX7_keep_36 : decode cX7_keep 36 = .ok (.goto (-25), 3) := by decide +kernel
theorem dX7_keep_39 : decode cX7_keep 39 = .ok (.aload_n 0, 1) := by decide +kernel
theorem dX7_keep_40 : decode cX7_keep 40 = .ok (.dup, 1) := by decide +kernel
theorem dX7_keep_41 : decode cX7_keep 41 = .ok (.getfield 158, 3) := by decide +kernel
theorem dX7_keep_44 : decode cX7_keep 44 = .ok (.iconst 1, 1) := by decide +kernel
theorem dX7_keep_45 : decode cX7_keep 45 = .ok (.isub, 1) := by decide +kernel
theorem dX7_keep_46 : decode cX7_keep 46 = .ok (.putfield 158, 3) := by decide +kernel
theorem dX7_keep_49 : decode cX7_keep 49 = .ok (.iconst 0, 1) := by decide +kernel
theorem dX7_keep_50 : decode cX7_keep 50 = .ok (.istore_n 1, 1) := by decide +kernel
theorem dX7_keep_51 : decode cX7_keep 51 = .ok (.iload_n 1, 1) := by decide +kernel
theorem dX7_keep_52 : decode cX7_keep 52 = .ok (.bipush 73, 2) := by decide +kernel
theorem dX7_keep_54 : decode cX7_keep 54 = .ok (.if_icmp .ge 29, 3) := by decide +kernel
theorem dX7_keep_57 : decode cX7_keep 57 = .ok (.aload_n 0, 1) := by decide +kernel
theorem dX7_keep_58 : decode cX7_keep 58 = .ok (.getfield 28, 3) := by decide +kernel
theorem dX7_keep_61 : decode cX7_keep 61 = .ok (.bipush 73, 2) := by decide +kernel
theorem dX7_keep_63 : decode cX7_keep 63 = .ok (.aload_n 0, 1) := by decide +kernel
theorem dX7_keep_64 : decode cX7_keep 64 = .ok (.getfield 158, 3) := by decide +kernel
theorem dX7_keep_67 : decode cX7_keep 67 = .ok (.imul, 1) := by decide +kernel
theorem dX7_keep_68 : decode cX7_keep 68 = .ok (.iload_n 1, 1) := by decide +kernel
theorem dX7_keep_69 : decode cX7_keep 69 = .ok (.iadd, 1) := by decide +kernel
theorem dX7_keep_70 : decode cX7_keep 70 = .ok (.aload_n 0, 1) := by decide +kernel
theorem dX7_keep_71 : decode cX7_keep 71 = .ok (.getfield 19, 3) := by decide +kernel
theorem dX7_keep_74 : decode cX7_keep 74 = .ok (.iload_n 1, 1) := by decide +kernel
theorem dX7_keep_75 : decode cX7_keep 75 = .ok (.iaload, 1) := by decide +kernel
theorem dX7_keep_76 : decode cX7_keep 76 = .ok (.iastore, 1) := by decide +kernel
theorem dX7_keep_77 : decode cX7_keep 77 = .ok (.iinc 1 1, 3) := by decide +kernel
theorem dX7_keep_80 : decode cX7_keep 80 = .ok (.goto (-29), 3) := by decide +kernel
theorem dX7_keep_83 : decode cX7_keep 83 = .ok (.aload_n 0, 1) := by decide +kernel
theorem dX7_keep_84 : decode cX7_keep 84 = .ok (.dup, 1) := by decide +kernel
theorem dX7_keep_85 : decode cX7_keep 85 = .ok (.getfield 158, 3) := by decide +kernel
theorem dX7_keep_88 : decode cX7_keep 88 = .ok (.iconst 1, 1) := by decide +kernel
theorem dX7_keep_89 : decode cX7_keep 89 = .ok (.iadd, 1) := by decide +kernel
theorem dX7_keep_90 : decode cX7_keep 90 = .ok (.putfield 158, 3) := by decide +kernel
theorem dX7_keep_93 : decode cX7_keep 93 = .ok (.return_, 1) := by decide +kernel
theorem dX7_days_0 : decode cX7_days 0 = .ok (.aload_n 0, 1) := by decide +kernel
theorem dX7_days_1 : decode cX7_days 1 = .ok (.iconst 0, 1) := by decide +kernel
theorem dX7_days_2 : decode cX7_days 2 = .ok (.putfield 53, 3) := by decide +kernel
theorem dX7_days_5 : decode cX7_days 5 = .ok (.aload_n 0, 1) := by decide +kernel
theorem dX7_days_6 : decode cX7_days 6 = .ok (.invokevirtual 198, 3) := by decide +kernel
theorem dX7_days_9 : decode cX7_days 9 = .ok (.ifCond .ne 6, 3) := by decide +kernel
theorem dX7_days_12 : decode cX7_days 12 = .ok (.ldc 201, 2) := by decide +kernel
theorem dX7_days_14 : decode cX7_days 14 = .ok (.ireturn, 1) := by decide +kernel
theorem dX7_days_15 : decode cX7_days 15 = .ok (.iload_n 1, 1) := by decide +kernel
theorem dX7_days_16 : decode cX7_days 16 = .ok (.i2l, 1) := by decide +kernel
theorem dX7_days_17 : decode cX7_days 17 = .ok (.lconst 1, 1) := by decide +kernel
theorem dX7_days_18 : decode cX7_days 18 = .ok (.ldc2_w 202, 3) := by decide +kernel
theorem dX7_days_21 : decode cX7_days 21 = .ok (.invokestatic 63, 3) := by decide +kernel
theorem dX7_days_24 : decode cX7_days 24 = .ok (.ifCond .ne 6, 3) := by decide +kernel
theorem dX7_days_27 : decode cX7_days 27 = .ok (.ldc 73, 2) := by decide +kernel
theorem dX7_days_29 : decode cX7_days 29 = .ok (.ireturn, 1) := by decide +kernel
theorem dX7_days_30 : decode cX7_days 30 = .ok (.aload_n 0, 1) := by decide +kernel
theorem dX7_days_31 : decode cX7_days 31 = .ok (.getfield 19, 3) := by decide +kernel
theorem dX7_days_34 : decode cX7_days 34 = .ok (.iconst 3, 1) := by decide +kernel
theorem dX7_days_35 : decode cX7_days 35 = .ok (.iaload, 1) := by decide +kernel
theorem dX7_days_36 : decode cX7_days 36 = .ok (.iload_n 1, 1) := by decide +kernel
theorem dX7_days_37 : decode cX7_days 37 = .ok (.iadd, 1) := by decide +kernel
theorem dX7_days_38 : decode cX7_days 38 = .ok (.sipush 999, 3) := by decide +kernel
theorem dX7_days_41 : decode cX7_days 41 = .ok (.if_icmp .le 6, 3) := by decide +kernel
theorem dX7_days_44 : decode cX7_days 44 = .ok (.ldc 83, 2) := by decide +kernel
theorem dX7_days_46 : decode cX7_days 46 = .ok (.ireturn, 1) := by decide +kernel
theorem dX7_days_47 : decode cX7_days 47 = .ok (.iconst 0, 1) := by decide +kernel
theorem dX7_days_48 : decode cX7_days 48 = .ok (.istore_n 2, 1) := by decide +kernel
theorem dX7_days_49 : decode cX7_days 49 = .ok (.iload_n 2, 1) := by decide +kernel
theorem dX7_days_50 : decode cX7_days 50 = .ok (.iload_n 1, 1) := by decide +kernel
theorem dX7_days_51 : decode cX7_days 51 = .ok (.if_icmp .ge 22, 3) := by decide +kernel
theorem dX7_days_54 : decode cX7_days 54 = .ok (.aload_n 0, 1) := by decide +kernel
theorem dX7_days_55 : decode cX7_days 55 = .ok (.invokevirtual 204, 3) := by decide +kernel
theorem dX7_days_58 : decode cX7_days 58 = .ok (.aload_n 0, 1) := by decide +kernel
theorem dX7_days_59 : decode cX7_days 59 = .ok (.aload_n 0, 1) := by decide +kernel
theorem dX7_days_60 : decode cX7_days 60 = .ok (.getfield 19, 3) := by decide +kernel
theorem dX7_days_63 : decode cX7_days 63 = .ok (.iconst 0, 1) := by decide +kernel
theorem dX7_days_64 : decode cX7_days 64 = .ok (.invokevirtual 194, 3) := by decide +kernel
theorem dX7_days_67 : decode cX7_days 67 = .ok (.iinc 2 1, 3) := by decide +kernel
theorem dX7_days_70 : decode cX7_days 70 = .ok (.goto (-21), 3) := by decide +kernel
theorem dX7_days_73 : decode cX7_days 73 = .ok (.aload_n 0, 1) := by decide +kernel
theorem dX7_days_74 : decode cX7_days 74 = .ok (.getfield 19, 3) := by decide +kernel
theorem dX7_days_77 : decode cX7_days 77 = .ok (.invokestatic 207, 3) := by decide +kernel
theorem dX7_days_80 : decode cX7_days 80 = .ok (.ireturn, 1) := by decide +kernel
theorem dX7_change_0 : decode cX7_change 0 = .ok (.aload_n 0, 1) := by decide +kernel
theorem dX7_change_1 : decode cX7_change 1 = .ok (.iconst 0, 1) := by decide +kernel
theorem dX7_change_2 : decode cX7_change 2 = .ok (.putfield 53, 3) := by decide +kernel
theorem dX7_change_5 : decode cX7_change 5 = .ok (.aload_n 0, 1) := by decide +kernel
theorem dX7_change_6 : decode cX7_change 6 = .ok (.iload_n 1, 1) := by decide +kernel
theorem dX7_change_7 : decode cX7_change 7 = .ok (.invokevirtual 211, 3) := by decide +kernel
theorem dX7_change_10 : decode cX7_change 10 = .ok (.ifCond .eq 16, 3) := by decide +kernel
theorem dX7_change_13 : decode cX7_change 13 = .ok (.aload_n 0, 1) := by decide +kernel
theorem dX7_change_14 : decode cX7_change 14 = .ok (.iload_n 2, 1) := by decide +kernel
theorem dX7_change_15 : decode cX7_change 15 = .ok (.invokevirtual 211, 3) := by decide +kernel
theorem dX7_change_18 : decode cX7_change 18 = .ok (.ifCond .eq 8, 3) := by decide +kernel
theorem dX7_change_21 : decode cX7_change 21 = .ok (.iload_n 1, 1) := by decide +kernel
theorem dX7_change_22 : decode cX7_change 22 = .ok (.iload_n 2, 1) := by decide +kernel
theorem dX7_change_23 : decode cX7_change 23 = .ok (.if_icmp .ne 6, 3) := by decide +kernel
theorem dX7_change_26 : decode cX7_change 26 = .ok (.ldc 73, 2) := by decide +kernel
theorem dX7_change_28 : decode cX7_change 28 = .ok (.ireturn, 1) := by decide +kernel
theorem dX7_change_29 : decode cX7_change 29 = .ok (.aload_n 0, 1) := by decide +kernel
theorem dX7_change_30 : decode cX7_change 30 = .ok (.invokevirtual 204, 3) := by decide +kernel
theorem dX7_change_33 : decode cX7_change 33 = .ok (.aload_n 0, 1) := by decide +kernel
theorem dX7_change_34 : decode cX7_change 34 = .ok (.getfield 19, 3) := by decide +kernel
theorem dX7_change_37 : decode cX7_change 37 = .ok (.iload_n 1, 1) := by decide +kernel
theorem dX7_change_38 : decode cX7_change 38 = .ok (.iload_n 2, 1) := by decide +kernel
theorem dX7_change_39 : decode cX7_change 39 = .ok (.invokestatic 214, 3) := by decide +kernel
theorem dX7_change_42 : decode cX7_change 42 = .ok (.aload_n 0, 1) := by decide +kernel
theorem dX7_change_43 : decode cX7_change 43 = .ok (.getfield 19, 3) := by decide +kernel
theorem dX7_change_46 : decode cX7_change 46 = .ok (.iload_n 1, 1) := by decide +kernel
theorem dX7_change_47 : decode cX7_change 47 = .ok (.iconst 1, 1) := by decide +kernel
theorem dX7_change_48 : decode cX7_change 48 = .ok (.invokestatic 161, 3) := by decide +kernel
theorem dX7_change_51 : decode cX7_change 51 = .ok (.ireturn, 1) := by decide +kernel
theorem dX7_teach_0 : decode cX7_teach 0 = .ok (.aload_n 0, 1) := by decide +kernel
theorem dX7_teach_1 : decode cX7_teach 1 = .ok (.iconst 0, 1) := by decide +kernel
theorem dX7_teach_2 : decode cX7_teach 2 = .ok (.putfield 53, 3) := by decide +kernel
theorem dX7_teach_5 : decode cX7_teach 5 = .ok (.aload_n 0, 1) := by decide +kernel
theorem dX7_teach_6 : decode cX7_teach 6 = .ok (.iload_n 1, 1) := by decide +kernel
theorem dX7_teach_7 : decode cX7_teach 7 = .ok (.invokevirtual 218, 3) := by decide +kernel
theorem dX7_teach_10 : decode cX7_teach 10 = .ok (.ifCond .eq 11, 3) := by decide +kernel
theorem dX7_teach_13 : decode cX7_teach 13 = .ok (.aload_n 0, 1) := by decide +kernel
theorem dX7_teach_14 : decode cX7_teach 14 = .ok (.iload_n 2, 1) := by decide +kernel
theorem dX7_teach_15 : decode cX7_teach 15 = .ok (.invokevirtual 221, 3) := by decide +kernel
theorem dX7_teach_18 : decode cX7_teach 18 = .ok (.ifCond .ne 6, 3) := by decide +kernel
theorem dX7_teach_21 : decode cX7_teach 21 = .ok (.ldc 73, 2) := by decide +kernel
theorem dX7_teach_23 : decode cX7_teach 23 = .ok (.ireturn, 1) := by decide +kernel
theorem dX7_teach_24 : decode cX7_teach 24 = .ok (.aload_n 0, 1) := by decide +kernel
theorem dX7_teach_25 : decode cX7_teach 25 = .ok (.invokevirtual 204, 3) := by decide +kernel
theorem dX7_teach_28 : decode cX7_teach 28 = .ok (.aload_n 0, 1) := by decide +kernel
theorem dX7_teach_29 : decode cX7_teach 29 = .ok (.getfield 19, 3) := by decide +kernel
theorem dX7_teach_32 : decode cX7_teach 32 = .ok (.bipush 11, 2) := by decide +kernel
theorem dX7_teach_34 : decode cX7_teach 34 = .ok (.iload_n 1, 1) := by decide +kernel
theorem dX7_teach_35 : decode cX7_teach 35 = .ok (.iadd, 1) := by decide +kernel
theorem dX7_teach_36 : decode cX7_teach 36 = .ok (.iaload, 1) := by decide +kernel
theorem dX7_teach_37 : decode cX7_teach 37 = .ok (.istore_n 3, 1) := by decide +kernel
theorem dX7_teach_38 : decode cX7_teach 38 = .ok (.aload_n 0, 1) := by decide +kernel
theorem dX7_teach_39 : decode cX7_teach 39 = .ok (.getfield 19, 3) := by decide +kernel
theorem dX7_teach_42 : decode cX7_teach 42 = .ok (.bipush 11, 2) := by decide +kernel
theorem dX7_teach_44 : decode cX7_teach 44 = .ok (.iload_n 1, 1) := by decide +kernel
theorem dX7_teach_45 : decode cX7_teach 45 = .ok (.iadd, 1) := by decide +kernel
theorem dX7_teach_46 : decode cX7_teach 46 = .ok (.iload_n 2, 1) := by decide +kernel
theorem dX7_teach_47 : decode cX7_teach 47 = .ok (.iastore, 1) := by decide +kernel
theorem dX7_teach_48 : decode cX7_teach 48 = .ok (.iload_n 3, 1) := by decide +kernel
theorem dX7_teach_49 : decode cX7_teach 49 = .ok (.ireturn, 1) := by decide +kernel
theorem dX7_turned_0 : decode cX7_turned 0 = .ok (.aload_n 0, 1) := by decide +kernel
theorem dX7_turned_1 : decode cX7_turned 1 = .ok (.iload_n 1, 1) := by decide +kernel
theorem dX7_turned_2 : decode cX7_turned 2 = .ok (.invokevirtual 211, 3) := by decide +kernel
theorem dX7_turned_5 : decode cX7_turned 5 = .ok (.ifCond .eq 11, 3) := by decide +kernel
theorem dX7_turned_8 : decode cX7_turned 8 = .ok (.aload_n 0, 1) := by decide +kernel
theorem dX7_turned_9 : decode cX7_turned 9 = .ok (.iload_n 2, 1) := by decide +kernel
theorem dX7_turned_10 : decode cX7_turned 10 = .ok (.invokevirtual 221, 3) := by decide +kernel
theorem dX7_turned_13 : decode cX7_turned 13 = .ok (.ifCond .ne 6, 3) := by decide +kernel
theorem dX7_turned_16 : decode cX7_turned 16 = .ok (.ldc 73, 2) := by decide +kernel
theorem dX7_turned_18 : decode cX7_turned 18 = .ok (.ireturn, 1) := by decide +kernel
theorem dX7_turned_19 : decode cX7_turned 19 = .ok (.aload_n 0, 1) := by decide +kernel
theorem dX7_turned_20 : decode cX7_turned 20 = .ok (.getfield 19, 3) := by decide +kernel
theorem dX7_turned_23 : decode cX7_turned 23 = .ok (.iload_n 1, 1) := by decide +kernel
theorem dX7_turned_24 : decode cX7_turned 24 = .ok (.iconst 2, 1) := by decide +kernel
theorem dX7_turned_25 : decode cX7_turned 25 = .ok (.invokestatic 161, 3) := by decide +kernel
theorem dX7_turned_28 : decode cX7_turned 28 = .ok (.iload_n 2, 1) := by decide +kernel
theorem dX7_turned_29 : decode cX7_turned 29 = .ok (.invokestatic 172, 3) := by decide +kernel
theorem dX7_turned_32 : decode cX7_turned 32 = .ok (.iload_n 3, 1) := by decide +kernel
theorem dX7_turned_33 : decode cX7_turned 33 = .ok (.if_icmp .ne 6, 3) := by decide +kernel
theorem dX7_turned_36 : decode cX7_turned 36 = .ok (.ldc 201, 2) := by decide +kernel
theorem dX7_turned_38 : decode cX7_turned 38 = .ok (.ireturn, 1) := by decide +kernel
theorem dX7_turned_39 : decode cX7_turned 39 = .ok (.aload_n 0, 1) := by decide +kernel
theorem dX7_turned_40 : decode cX7_turned 40 = .ok (.invokevirtual 204, 3) := by decide +kernel
theorem dX7_turned_43 : decode cX7_turned 43 = .ok (.aload_n 0, 1) := by decide +kernel
theorem dX7_turned_44 : decode cX7_turned 44 = .ok (.getfield 19, 3) := by decide +kernel
theorem dX7_turned_47 : decode cX7_turned 47 = .ok (.iload_n 1, 1) := by decide +kernel
theorem dX7_turned_48 : decode cX7_turned 48 = .ok (.iconst 2, 1) := by decide +kernel
theorem dX7_turned_49 : decode cX7_turned 49 = .ok (.aload_n 0, 1) := by decide +kernel
theorem dX7_turned_50 : decode cX7_turned 50 = .ok (.getfield 19, 3) := by decide +kernel
theorem dX7_turned_53 : decode cX7_turned 53 = .ok (.iload_n 1, 1) := by decide +kernel
theorem dX7_turned_54 : decode cX7_turned 54 = .ok (.iconst 2, 1) := by decide +kernel
theorem dX7_turned_55 : decode cX7_turned 55 = .ok (.invokestatic 161, 3) := by decide +kernel
theorem dX7_turned_58 : decode cX7_turned 58 = .ok (.iconst 1, 1) := by decide +kernel
theorem dX7_turned_59 : decode cX7_turned 59 = .ok (.iload_n 2, 1) := by decide +kernel
theorem dX7_turned_60 : decode cX7_turned 60 = .ok (.ishl, 1) := by decide +kernel
theorem dX7_turned_61 : decode cX7_turned 61 = .ok (.ixor, 1) := by decide +kernel
theorem dX7_turned_62 : decode cX7_turned 62 = .ok (.invokestatic 187, 3) := by decide +kernel
theorem dX7_turned_65 : decode cX7_turned 65 = .ok (.aload_n 0, 1) := by decide +kernel
theorem dX7_turned_66 : decode cX7_turned 66 = .ok (.getfield 19, 3) := by decide +kernel
theorem dX7_turned_69 : decode cX7_turned 69 = .ok (.iload_n 1, 1) := by decide +kernel
theorem dX7_turned_70 : decode cX7_turned 70 = .ok (.iconst 2, 1) := by decide +kernel
theorem dX7_turned_71 : decode cX7_turned 71 = .ok (.invokestatic 161, 3) := by decide +kernel
theorem dX7_turned_74 : decode cX7_turned 74 = .ok (.ireturn, 1) := by decide +kernel
theorem dX7_forget_0 : decode cX7_forget 0 = .ok (.aload_n 0, 1) := by decide +kernel
theorem dX7_forget_1 : decode cX7_forget 1 = .ok (.iconst 0, 1) := by decide +kernel
theorem dX7_forget_2 : decode cX7_forget 2 = .ok (.putfield 53, 3) := by decide +kernel
theorem dX7_forget_5 : decode cX7_forget 5 = .ok (.aload_n 0, 1) := by decide +kernel
theorem dX7_forget_6 : decode cX7_forget 6 = .ok (.iload_n 1, 1) := by decide +kernel
theorem dX7_forget_7 : decode cX7_forget 7 = .ok (.iload_n 2, 1) := by decide +kernel
theorem dX7_forget_8 : decode cX7_forget 8 = .ok (.iconst 0, 1) := by decide +kernel
theorem dX7_forget_9 : decode cX7_forget 9 = .ok (.invokevirtual 224, 3) := by decide +kernel
theorem dX7_forget_12 : decode cX7_forget 12 = .ok (.ireturn, 1) := by decide +kernel
theorem dX7_tell_0 : decode cX7_tell 0 = .ok (.aload_n 0, 1) := by decide +kernel
theorem dX7_tell_1 : decode cX7_tell 1 = .ok (.iconst 0, 1) := by decide +kernel
theorem dX7_tell_2 : decode cX7_tell 2 = .ok (.putfield 53, 3) := by decide +kernel
theorem dX7_tell_5 : decode cX7_tell 5 = .ok (.aload_n 0, 1) := by decide +kernel
theorem dX7_tell_6 : decode cX7_tell 6 = .ok (.iload_n 1, 1) := by decide +kernel
theorem dX7_tell_7 : decode cX7_tell 7 = .ok (.iload_n 2, 1) := by decide +kernel
theorem dX7_tell_8 : decode cX7_tell 8 = .ok (.iconst 1, 1) := by decide +kernel
theorem dX7_tell_9 : decode cX7_tell 9 = .ok (.invokevirtual 224, 3) := by decide +kernel
theorem dX7_tell_12 : decode cX7_tell 12 = .ok (.ireturn, 1) := by decide +kernel
theorem dX7_undo_0 : decode cX7_undo 0 = .ok (.aload_n 0, 1) := by decide +kernel
theorem dX7_undo_1 : decode cX7_undo 1 = .ok (.iconst 0, 1) := by decide +kernel
theorem dX7_undo_2 : decode cX7_undo 2 = .ok (.putfield 53, 3) := by decide +kernel
theorem dX7_undo_5 : decode cX7_undo 5 = .ok (.aload_n 0, 1) := by decide +kernel
theorem dX7_undo_6 : decode cX7_undo 6 = .ok (.getfield 158, 3) := by decide +kernel
theorem dX7_undo_9 : decode cX7_undo 9 = .ok (.ifCond .ne 6, 3) := by decide +kernel
theorem dX7_undo_12 : decode cX7_undo 12 = .ok (.ldc 201, 2) := by decide +kernel
theorem dX7_undo_14 : decode cX7_undo 14 = .ok (.ireturn, 1) := by decide +kernel
theorem dX7_undo_15 : decode cX7_undo 15 = .ok (.aload_n 0, 1) := by decide +kernel
theorem dX7_undo_16 : decode cX7_undo 16 = .ok (.dup, 1) := by decide +kernel
theorem dX7_undo_17 : decode cX7_undo 17 = .ok (.getfield 158, 3) := by decide +kernel
theorem dX7_undo_20 : decode cX7_undo 20 = .ok (.iconst 1, 1) := by decide +kernel
theorem dX7_undo_21 : decode cX7_undo 21 = .ok (.isub, 1) := by decide +kernel
theorem dX7_undo_22 : decode cX7_undo 22 = .ok (.putfield 158, 3) := by decide +kernel
theorem dX7_undo_25 : decode cX7_undo 25 = .ok (.iconst 0, 1) := by decide +kernel
theorem dX7_undo_26 : decode cX7_undo 26 = .ok (.istore_n 1, 1) := by decide +kernel
theorem dX7_undo_27 : decode cX7_undo 27 = .ok (.iload_n 1, 1) := by decide +kernel
theorem dX7_undo_28 : decode cX7_undo 28 = .ok (.bipush 73, 2) := by decide +kernel
theorem dX7_undo_30 : decode cX7_undo 30 = .ok (.if_icmp .ge 29, 3) := by decide +kernel
theorem dX7_undo_33 : decode cX7_undo 33 = .ok (.aload_n 0, 1) := by decide +kernel
theorem dX7_undo_34 : decode cX7_undo 34 = .ok (.getfield 19, 3) := by decide +kernel
theorem dX7_undo_37 : decode cX7_undo 37 = .ok (.iload_n 1, 1) := by decide +kernel
theorem dX7_undo_38 : decode cX7_undo 38 = .ok (.aload_n 0, 1) := by decide +kernel
theorem dX7_undo_39 : decode cX7_undo 39 = .ok (.getfield 28, 3) := by decide +kernel
theorem dX7_undo_42 : decode cX7_undo 42 = .ok (.bipush 73, 2) := by decide +kernel
theorem dX7_undo_44 : decode cX7_undo 44 = .ok (.aload_n 0, 1) := by decide +kernel
theorem dX7_undo_45 : decode cX7_undo 45 = .ok (.getfield 158, 3) := by decide +kernel
theorem dX7_undo_48 : decode cX7_undo 48 = .ok (.imul, 1) := by decide +kernel
theorem dX7_undo_49 : decode cX7_undo 49 = .ok (.iload_n 1, 1) := by decide +kernel
theorem dX7_undo_50 : decode cX7_undo 50 = .ok (.iadd, 1) := by decide +kernel
theorem dX7_undo_51 : decode cX7_undo 51 = .ok (.iaload, 1) := by decide +kernel
theorem dX7_undo_52 : decode cX7_undo 52 = .ok (.iastore, 1) := by decide +kernel
theorem dX7_undo_53 : decode cX7_undo 53 = .ok (.iinc 1 1, 3) := by decide +kernel
theorem dX7_undo_56 : decode cX7_undo 56 = .ok (.goto (-29), 3) := by decide +kernel
theorem dX7_undo_59 : decode cX7_undo 59 = .ok (.aload_n 0, 1) := by decide +kernel
theorem dX7_undo_60 : decode cX7_undo 60 = .ok (.getfield 158, 3) := by decide +kernel
theorem dX7_undo_63 : decode cX7_undo 63 = .ok (.ireturn, 1) := by decide +kernel
theorem dX7_graspable_0 : decode cX7_graspable 0 = .ok (.iconst 0, 1) := by decide +kernel
theorem dX7_graspable_1 : decode cX7_graspable 1 = .ok (.istore_n 2, 1) := by decide +kernel
theorem dX7_graspable_2 : decode cX7_graspable 2 = .ok (.iconst 0, 1) := by decide +kernel
theorem dX7_graspable_3 : decode cX7_graspable 3 = .ok (.istore_n 3, 1) := by decide +kernel
theorem dX7_graspable_4 : decode cX7_graspable 4 = .ok (.iload_n 3, 1) := by decide +kernel
theorem dX7_graspable_5 : decode cX7_graspable 5 = .ok (.aload_n 0, 1) := by decide +kernel
theorem dX7_graspable_6 : decode cX7_graspable 6 = .ok (.getfield 19, 3) := by decide +kernel
theorem dX7_graspable_9 : decode cX7_graspable 9 = .ok (.iconst 1, 1) := by decide +kernel
theorem dX7_graspable_10 : decode cX7_graspable 10 = .ok (.iaload, 1) := by decide +kernel
theorem dX7_graspable_11 : decode cX7_graspable 11 = .ok (.if_icmp .ge 31, 3) := by decide +kernel
theorem dX7_graspable_14 : decode cX7_graspable 14 = .ok (.iload_n 2, 1) := by decide +kernel
theorem dX7_graspable_15 : decode cX7_graspable 15 = .ok (.aload_n 0, 1) := by decide +kernel
theorem dX7_graspable_16 : decode cX7_graspable 16 = .ok (.getfield 19, 3) := by decide +kernel
theorem dX7_graspable_19 : decode cX7_graspable 19 = .ok (.iload_n 3, 1) := by decide +kernel
theorem dX7_graspable_20 : decode cX7_graspable 20 = .ok (.iload_n 1, 1) := by decide +kernel
theorem dX7_graspable_21 : decode cX7_graspable 21 = .ok (.invokestatic 176, 3) := by decide +kernel
theorem dX7_graspable_24 : decode cX7_graspable 24 = .ok (.ifCond .eq 9, 3) := by decide +kernel
theorem dX7_graspable_27 : decode cX7_graspable 27 = .ok (.iconst 1, 1) := by decide +kernel
theorem dX7_graspable_28 : decode cX7_graspable 28 = .ok (.iload_n 3, 1) := by decide +kernel
theorem dX7_graspable_29 : decode cX7_graspable 29 = .ok (.ishl, 1) := by decide +kernel
theorem dX7_graspable_30 : decode cX7_graspable 30 = .ok (.goto 4, 3) := by decide +kernel
theorem dX7_graspable_33 : decode cX7_graspable 33 = .ok (.iconst 0, 1) := by decide +kernel
theorem dX7_graspable_34 : decode cX7_graspable 34 = .ok (.ior, 1) := by decide +kernel
theorem dX7_graspable_35 : decode cX7_graspable 35 = .ok (.istore_n 2, 1) := by decide +kernel
theorem dX7_graspable_36 : decode cX7_graspable 36 = .ok (.iinc 3 1, 3) := by decide +kernel
theorem dX7_graspable_39 : decode cX7_graspable 39 = .ok (.goto (-35), 3) := by decide +kernel
theorem dX7_graspable_42 : decode cX7_graspable 42 = .ok (.iload_n 2, 1) := by decide +kernel
theorem dX7_graspable_43 : decode cX7_graspable 43 = .ok (.ireturn, 1) := by decide +kernel
theorem dX7_pupil_0 : decode cX7_pupil 0 = .ok (.aload_n 0, 1) := by decide +kernel
theorem dX7_pupil_1 : decode cX7_pupil 1 = .ok (.iconst 0, 1) := by decide +kernel
theorem dX7_pupil_2 : decode cX7_pupil 2 = .ok (.putfield 53, 3) := by decide +kernel
theorem dX7_pupil_5 : decode cX7_pupil 5 = .ok (.aload_n 0, 1) := by decide +kernel
theorem dX7_pupil_6 : decode cX7_pupil 6 = .ok (.iload_n 1, 1) := by decide +kernel
theorem dX7_pupil_7 : decode cX7_pupil 7 = .ok (.invokevirtual 211, 3) := by decide +kernel
theorem dX7_pupil_10 : decode cX7_pupil 10 = .ok (.ifCond .ne 6, 3) := by decide +kernel
theorem dX7_pupil_13 : decode cX7_pupil 13 = .ok (.ldc 73, 2) := by decide +kernel
theorem dX7_pupil_15 : decode cX7_pupil 15 = .ok (.ireturn, 1) := by decide +kernel
theorem dX7_pupil_16 : decode cX7_pupil 16 = .ok (.iload_n 2, 1) := by decide +kernel
theorem dX7_pupil_17 : decode cX7_pupil 17 = .ok (.tableswitch 99 0 4 #[35, 45, 55, 68, 85], 35) := by decide +kernel
theorem dX7_pupil_52 : decode cX7_pupil 52 = .ok (.aload_n 0, 1) := by decide +kernel
theorem dX7_pupil_53 : decode cX7_pupil 53 = .ok (.getfield 19, 3) := by decide +kernel
theorem dX7_pupil_56 : decode cX7_pupil 56 = .ok (.iload_n 1, 1) := by decide +kernel
theorem dX7_pupil_57 : decode cX7_pupil 57 = .ok (.iconst 2, 1) := by decide +kernel
theorem dX7_pupil_58 : decode cX7_pupil 58 = .ok (.invokestatic 161, 3) := by decide +kernel
theorem dX7_pupil_61 : decode cX7_pupil 61 = .ok (.ireturn, 1) := by decide +kernel
theorem dX7_pupil_62 : decode cX7_pupil 62 = .ok (.aload_n 0, 1) := by decide +kernel
theorem dX7_pupil_63 : decode cX7_pupil 63 = .ok (.getfield 19, 3) := by decide +kernel
theorem dX7_pupil_66 : decode cX7_pupil 66 = .ok (.iload_n 1, 1) := by decide +kernel
theorem dX7_pupil_67 : decode cX7_pupil 67 = .ok (.iconst 1, 1) := by decide +kernel
theorem dX7_pupil_68 : decode cX7_pupil 68 = .ok (.invokestatic 161, 3) := by decide +kernel
theorem dX7_pupil_71 : decode cX7_pupil 71 = .ok (.ireturn, 1) := by decide +kernel
theorem dX7_pupil_72 : decode cX7_pupil 72 = .ok (.aload_n 0, 1) := by decide +kernel
theorem dX7_pupil_73 : decode cX7_pupil 73 = .ok (.getfield 19, 3) := by decide +kernel
theorem dX7_pupil_76 : decode cX7_pupil 76 = .ok (.iload_n 1, 1) := by decide +kernel
theorem dX7_pupil_77 : decode cX7_pupil 77 = .ok (.iconst 2, 1) := by decide +kernel
theorem dX7_pupil_78 : decode cX7_pupil 78 = .ok (.invokestatic 161, 3) := by decide +kernel
theorem dX7_pupil_81 : decode cX7_pupil 81 = .ok (.invokestatic 180, 3) := by decide +kernel
theorem dX7_pupil_84 : decode cX7_pupil 84 = .ok (.ireturn, 1) := by decide +kernel
theorem dX7_pupil_85 : decode cX7_pupil 85 = .ok (.aload_n 0, 1) := by decide +kernel
theorem dX7_pupil_86 : decode cX7_pupil 86 = .ok (.getfield 19, 3) := by decide +kernel
theorem dX7_pupil_89 : decode cX7_pupil 89 = .ok (.iload_n 1, 1) := by decide +kernel
theorem dX7_pupil_90 : decode cX7_pupil 90 = .ok (.invokestatic 183, 3) := by decide +kernel
theorem dX7_pupil_93 : decode cX7_pupil 93 = .ok (.ifCond .eq 7, 3) := by decide +kernel
theorem dX7_pupil_96 : decode cX7_pupil 96 = .ok (.iconst 1, 1) := by decide +kernel
theorem dX7_pupil_97 : decode cX7_pupil 97 = .ok (.goto 4, 3) := by decide +kernel
theorem dX7_pupil_100 : decode cX7_pupil 100 = .ok (.iconst 0, 1) := by decide +kernel
theorem dX7_pupil_101 : decode cX7_pupil 101 = .ok (.ireturn, 1) := by decide +kernel
theorem dX7_pupil_102 : decode cX7_pupil 102 = .ok (.aload_n 0, 1) := by decide +kernel
theorem dX7_pupil_103 : decode cX7_pupil 103 = .ok (.aload_n 0, 1) := by decide +kernel
theorem dX7_pupil_104 : decode cX7_pupil 104 = .ok (.getfield 19, 3) := by decide +kernel
theorem dX7_pupil_107 : decode cX7_pupil 107 = .ok (.iload_n 1, 1) := by decide +kernel
theorem dX7_pupil_108 : decode cX7_pupil 108 = .ok (.iconst 2, 1) := by decide +kernel
theorem dX7_pupil_109 : decode cX7_pupil 109 = .ok (.invokestatic 161, 3) := by decide +kernel
theorem dX7_pupil_112 : decode cX7_pupil 112 = .ok (.invokevirtual 228, 3) := by decide +kernel
theorem dX7_pupil_115 : decode cX7_pupil 115 = .ok (.ireturn, 1) := by decide +kernel
theorem dX7_pupil_116 : decode cX7_pupil 116 = .ok (.ldc 73, 2) := by decide +kernel
theorem dX7_pupil_118 : decode cX7_pupil 118 = .ok (.ireturn, 1) := by decide +kernel
theorem dX7_heard_0 : decode cX7_heard 0 = .ok (.aload_n 0, 1) := by decide +kernel
theorem dX7_heard_1 : decode cX7_heard 1 = .ok (.iconst 0, 1) := by decide +kernel
theorem dX7_heard_2 : decode cX7_heard 2 = .ok (.putfield 53, 3) := by decide +kernel
theorem dX7_heard_5 : decode cX7_heard 5 = .ok (.aload_n 0, 1) := by decide +kernel
theorem dX7_heard_6 : decode cX7_heard 6 = .ok (.iload_n 1, 1) := by decide +kernel
theorem dX7_heard_7 : decode cX7_heard 7 = .ok (.invokevirtual 211, 3) := by decide +kernel
theorem dX7_heard_10 : decode cX7_heard 10 = .ok (.ifCond .eq 25, 3) := by decide +kernel
theorem dX7_heard_13 : decode cX7_heard 13 = .ok (.aload_n 0, 1) := by decide +kernel
theorem dX7_heard_14 : decode cX7_heard 14 = .ok (.iload_n 2, 1) := by decide +kernel
theorem dX7_heard_15 : decode cX7_heard 15 = .ok (.invokevirtual 221, 3) := by decide +kernel
theorem dX7_heard_18 : decode cX7_heard 18 = .ok (.ifCond .eq 17, 3) := by decide +kernel
theorem dX7_heard_21 : decode cX7_heard 21 = .ok (.aload_n 0, 1) := by decide +kernel
theorem dX7_heard_22 : decode cX7_heard 22 = .ok (.getfield 19, 3) := by decide +kernel
theorem dX7_heard_25 : decode cX7_heard 25 = .ok (.iload_n 1, 1) := by decide +kernel
theorem dX7_heard_26 : decode cX7_heard 26 = .ok (.iconst 3, 1) := by decide +kernel
theorem dX7_heard_27 : decode cX7_heard 27 = .ok (.iload_n 2, 1) := by decide +kernel
theorem dX7_heard_28 : decode cX7_heard 28 = .ok (.iadd, 1) := by decide +kernel
theorem dX7_heard_29 : decode cX7_heard 29 = .ok (.invokestatic 161, 3) := by decide +kernel
theorem dX7_heard_32 : decode cX7_heard 32 = .ok (.goto 5, 3) := by decide +kernel
theorem dX7_heard_35 : decode cX7_heard 35 = .ok (.ldc 73, 2) := by decide +kernel
theorem dX7_heard_37 : decode cX7_heard 37 = .ok (.ireturn, 1) := by decide +kernel
theorem dX7_subject_0 : decode cX7_subject 0 = .ok (.aload_n 0, 1) := by decide +kernel
theorem dX7_subject_1 : decode cX7_subject 1 = .ok (.iconst 0, 1) := by decide +kernel
theorem dX7_subject_2 : decode cX7_subject 2 = .ok (.putfield 53, 3) := by decide +kernel
theorem dX7_subject_5 : decode cX7_subject 5 = .ok (.aload_n 0, 1) := by decide +kernel
theorem dX7_subject_6 : decode cX7_subject 6 = .ok (.iload_n 1, 1) := by decide +kernel
theorem dX7_subject_7 : decode cX7_subject 7 = .ok (.invokevirtual 221, 3) := by decide +kernel
theorem dX7_subject_10 : decode cX7_subject 10 = .ok (.ifCond .eq 14, 3) := by decide +kernel
theorem dX7_subject_13 : decode cX7_subject 13 = .ok (.aload_n 0, 1) := by decide +kernel
theorem dX7_subject_14 : decode cX7_subject 14 = .ok (.getfield 19, 3) := by decide +kernel
theorem dX7_subject_17 : decode cX7_subject 17 = .ok (.iconst 5, 1) := by decide +kernel
theorem dX7_subject_18 : decode cX7_subject 18 = .ok (.iload_n 1, 1) := by decide +kernel
theorem dX7_subject_19 : decode cX7_subject 19 = .ok (.iadd, 1) := by decide +kernel
theorem dX7_subject_20 : decode cX7_subject 20 = .ok (.iaload, 1) := by decide +kernel
theorem dX7_subject_21 : decode cX7_subject 21 = .ok (.goto 5, 3) := by decide +kernel
theorem dX7_subject_24 : decode cX7_subject 24 = .ok (.ldc 73, 2) := by decide +kernel
theorem dX7_subject_26 : decode cX7_subject 26 = .ok (.ireturn, 1) := by decide +kernel
theorem dX7_lesson_0 : decode cX7_lesson 0 = .ok (.aload_n 0, 1) := by decide +kernel
theorem dX7_lesson_1 : decode cX7_lesson 1 = .ok (.iconst 0, 1) := by decide +kernel
theorem dX7_lesson_2 : decode cX7_lesson 2 = .ok (.putfield 53, 3) := by decide +kernel
theorem dX7_lesson_5 : decode cX7_lesson 5 = .ok (.aload_n 0, 1) := by decide +kernel
theorem dX7_lesson_6 : decode cX7_lesson 6 = .ok (.invokevirtual 198, 3) := by decide +kernel
theorem dX7_lesson_9 : decode cX7_lesson 9 = .ok (.ifCond .ne 6, 3) := by decide +kernel
theorem dX7_lesson_12 : decode cX7_lesson 12 = .ok (.ldc 201, 2) := by decide +kernel
theorem dX7_lesson_14 : decode cX7_lesson 14 = .ok (.ireturn, 1) := by decide +kernel
theorem dX7_lesson_15 : decode cX7_lesson 15 = .ok (.iload_n 1, 1) := by decide +kernel
theorem dX7_lesson_16 : decode cX7_lesson 16 = .ok (.i2l, 1) := by decide +kernel
theorem dX7_lesson_17 : decode cX7_lesson 17 = .ok (.lconst 0, 1) := by decide +kernel
theorem dX7_lesson_18 : decode cX7_lesson 18 = .ok (.ldc2_w 231, 3) := by decide +kernel
theorem dX7_lesson_21 : decode cX7_lesson 21 = .ok (.invokestatic 63, 3) := by decide +kernel
theorem dX7_lesson_24 : decode cX7_lesson 24 = .ok (.ifCond .eq 21, 3) := by decide +kernel
theorem dX7_lesson_27 : decode cX7_lesson 27 = .ok (.aload_n 0, 1) := by decide +kernel
theorem dX7_lesson_28 : decode cX7_lesson 28 = .ok (.getfield 19, 3) := by decide +kernel
theorem dX7_lesson_31 : decode cX7_lesson 31 = .ok (.aload_n 0, 1) := by decide +kernel
theorem dX7_lesson_32 : decode cX7_lesson 32 = .ok (.getfield 19, 3) := by decide +kernel
theorem dX7_lesson_35 : decode cX7_lesson 35 = .ok (.iconst 3, 1) := by decide +kernel
theorem dX7_lesson_36 : decode cX7_lesson 36 = .ok (.iaload, 1) := by decide +kernel
theorem dX7_lesson_37 : decode cX7_lesson 37 = .ok (.iload_n 1, 1) := by decide +kernel
theorem dX7_lesson_38 : decode cX7_lesson 38 = .ok (.iadd, 1) := by decide +kernel
theorem dX7_lesson_39 : decode cX7_lesson 39 = .ok (.invokestatic 169, 3) := by decide +kernel
theorem dX7_lesson_42 : decode cX7_lesson 42 = .ok (.goto 5, 3) := by decide +kernel
theorem dX7_lesson_45 : decode cX7_lesson 45 = .ok (.ldc 73, 2) := by decide +kernel
theorem dX7_lesson_47 : decode cX7_lesson 47 = .ok (.ireturn, 1) := by decide +kernel
theorem dX7_ahead_0 : decode cX7_ahead 0 = .ok (.aload_n 0, 1) := by decide +kernel
theorem dX7_ahead_1 : decode cX7_ahead 1 = .ok (.iconst 0, 1) := by decide +kernel
theorem dX7_ahead_2 : decode cX7_ahead 2 = .ok (.putfield 53, 3) := by decide +kernel
theorem dX7_ahead_5 : decode cX7_ahead 5 = .ok (.aload_n 0, 1) := by decide +kernel
theorem dX7_ahead_6 : decode cX7_ahead 6 = .ok (.iload_n 1, 1) := by decide +kernel
theorem dX7_ahead_7 : decode cX7_ahead 7 = .ok (.invokevirtual 211, 3) := by decide +kernel
theorem dX7_ahead_10 : decode cX7_ahead 10 = .ok (.ifCond .eq 28, 3) := by decide +kernel
theorem dX7_ahead_13 : decode cX7_ahead 13 = .ok (.iload_n 2, 1) := by decide +kernel
theorem dX7_ahead_14 : decode cX7_ahead 14 = .ok (.i2l, 1) := by decide +kernel
theorem dX7_ahead_15 : decode cX7_ahead 15 = .ok (.lconst 0, 1) := by decide +kernel
theorem dX7_ahead_16 : decode cX7_ahead 16 = .ok (.ldc2_w 231, 3) := by decide +kernel
theorem dX7_ahead_19 : decode cX7_ahead 19 = .ok (.invokestatic 63, 3) := by decide +kernel
theorem dX7_ahead_22 : decode cX7_ahead 22 = .ok (.ifCond .eq 16, 3) := by decide +kernel
theorem dX7_ahead_25 : decode cX7_ahead 25 = .ok (.iload_n 3, 1) := by decide +kernel
theorem dX7_ahead_26 : decode cX7_ahead 26 = .ok (.iconst (-1), 1) := by decide +kernel
theorem dX7_ahead_27 : decode cX7_ahead 27 = .ok (.if_icmp .eq 14, 3) := by decide +kernel
theorem dX7_ahead_30 : decode cX7_ahead 30 = .ok (.aload_n 0, 1) := by decide +kernel
theorem dX7_ahead_31 : decode cX7_ahead 31 = .ok (.iload_n 3, 1) := by decide +kernel
theorem dX7_ahead_32 : decode cX7_ahead 32 = .ok (.invokevirtual 221, 3) := by decide +kernel
theorem dX7_ahead_35 : decode cX7_ahead 35 = .ok (.ifCond .ne 6, 3) := by decide +kernel
theorem dX7_ahead_38 : decode cX7_ahead 38 = .ok (.ldc 73, 2) := by decide +kernel
theorem dX7_ahead_40 : decode cX7_ahead 40 = .ok (.ireturn, 1) := by decide +kernel
theorem dX7_ahead_41 : decode cX7_ahead 41 = .ok (.aload_n 0, 1) := by decide +kernel
theorem dX7_ahead_42 : decode cX7_ahead 42 = .ok (.invokevirtual 233, 3) := by decide +kernel
theorem dX7_ahead_45 : decode cX7_ahead 45 = .ok (.aload_n 0, 1) := by decide +kernel
theorem dX7_ahead_46 : decode cX7_ahead 46 = .ok (.aload_n 0, 1) := by decide +kernel
theorem dX7_ahead_47 : decode cX7_ahead 47 = .ok (.getfield 25, 3) := by decide +kernel
theorem dX7_ahead_50 : decode cX7_ahead 50 = .ok (.iload_n 2, 1) := by decide +kernel
theorem dX7_ahead_51 : decode cX7_ahead 51 = .ok (.invokevirtual 236, 3) := by decide +kernel
theorem dX7_ahead_54 : decode cX7_ahead 54 = .ok (.aload_n 0, 1) := by decide +kernel
theorem dX7_ahead_55 : decode cX7_ahead 55 = .ok (.getfield 25, 3) := by decide +kernel
theorem dX7_ahead_58 : decode cX7_ahead 58 = .ok (.iload_n 1, 1) := by decide +kernel
theorem dX7_ahead_59 : decode cX7_ahead 59 = .ok (.iload_n 3, 1) := by decide +kernel
theorem dX7_ahead_60 : decode cX7_ahead 60 = .ok (.iconst (-1), 1) := by decide +kernel
theorem dX7_ahead_61 : decode cX7_ahead 61 = .ok (.if_icmp .ne 7, 3) := by decide +kernel
theorem dX7_ahead_64 : decode cX7_ahead 64 = .ok (.iconst 2, 1) := by decide +kernel
theorem dX7_ahead_65 : decode cX7_ahead 65 = .ok (.goto 6, 3) := by decide +kernel
theorem dX7_ahead_68 : decode cX7_ahead 68 = .ok (.iconst 3, 1) := by decide +kernel
theorem dX7_ahead_69 : decode cX7_ahead 69 = .ok (.iload_n 3, 1) := by decide +kernel
theorem dX7_ahead_70 : decode cX7_ahead 70 = .ok (.iadd, 1) := by decide +kernel
theorem dX7_ahead_71 : decode cX7_ahead 71 = .ok (.invokestatic 161, 3) := by decide +kernel
theorem dX7_ahead_74 : decode cX7_ahead 74 = .ok (.ireturn, 1) := by decide +kernel
theorem dX7_when_0 : decode cX7_when 0 = .ok (.aload_n 0, 1) := by decide +kernel
theorem dX7_when_1 : decode cX7_when 1 = .ok (.iconst 0, 1) := by decide +kernel
theorem dX7_when_2 : decode cX7_when 2 = .ok (.putfield 53, 3) := by decide +kernel
theorem dX7_when_5 : decode cX7_when 5 = .ok (.aload_n 0, 1) := by decide +kernel
theorem dX7_when_6 : decode cX7_when 6 = .ok (.iload_n 1, 1) := by decide +kernel
theorem dX7_when_7 : decode cX7_when 7 = .ok (.invokevirtual 211, 3) := by decide +kernel
theorem dX7_when_10 : decode cX7_when 10 = .ok (.ifCond .eq 11, 3) := by decide +kernel
theorem dX7_when_13 : decode cX7_when 13 = .ok (.aload_n 0, 1) := by decide +kernel
theorem dX7_when_14 : decode cX7_when 14 = .ok (.iload_n 2, 1) := by decide +kernel
theorem dX7_when_15 : decode cX7_when 15 = .ok (.invokevirtual 221, 3) := by decide +kernel
theorem dX7_when_18 : decode cX7_when 18 = .ok (.ifCond .ne 6, 3) := by decide +kernel
theorem dX7_when_21 : decode cX7_when 21 = .ok (.ldc 73, 2) := by decide +kernel
theorem dX7_when_23 : decode cX7_when 23 = .ok (.ireturn, 1) := by decide +kernel
theorem dX7_when_24 : decode cX7_when 24 = .ok (.aload_n 0, 1) := by decide +kernel
theorem dX7_when_25 : decode cX7_when 25 = .ok (.invokevirtual 233, 3) := by decide +kernel
theorem dX7_when_28 : decode cX7_when 28 = .ok (.iconst 0, 1) := by decide +kernel
theorem dX7_when_29 : decode cX7_when 29 = .ok (.istore_n 3, 1) := by decide +kernel
theorem dX7_when_30 : decode cX7_when 30 = .ok (.iload_n 3, 1) := by decide +kernel
theorem dX7_when_31 : decode cX7_when 31 = .ok (.bipush 60, 2) := by decide +kernel
theorem dX7_when_33 : decode cX7_when 33 = .ok (.if_icmp .gt 36, 3) := by decide +kernel
theorem dX7_when_36 : decode cX7_when 36 = .ok (.aload_n 0, 1) := by decide +kernel
theorem dX7_when_37 : decode cX7_when 37 = .ok (.getfield 25, 3) := by decide +kernel
theorem dX7_when_40 : decode cX7_when 40 = .ok (.iload_n 1, 1) := by decide +kernel
theorem dX7_when_41 : decode cX7_when 41 = .ok (.iconst 2, 1) := by decide +kernel
theorem dX7_when_42 : decode cX7_when 42 = .ok (.invokestatic 161, 3) := by decide +kernel
theorem dX7_when_45 : decode cX7_when 45 = .ok (.iload_n 2, 1) := by decide +kernel
theorem dX7_when_46 : decode cX7_when 46 = .ok (.invokestatic 172, 3) := by decide +kernel
theorem dX7_when_49 : decode cX7_when 49 = .ok (.ifCond .eq 5, 3) := by decide +kernel
theorem dX7_when_52 : decode cX7_when 52 = .ok (.iload_n 3, 1) := by decide +kernel
theorem dX7_when_53 : decode cX7_when 53 = .ok (.ireturn, 1) := by decide +kernel
theorem dX7_when_54 : decode cX7_when 54 = .ok (.aload_n 0, 1) := by decide +kernel
theorem dX7_when_55 : decode cX7_when 55 = .ok (.aload_n 0, 1) := by decide +kernel
theorem dX7_when_56 : decode cX7_when 56 = .ok (.getfield 25, 3) := by decide +kernel
theorem dX7_when_59 : decode cX7_when 59 = .ok (.iconst 0, 1) := by decide +kernel
theorem dX7_when_60 : decode cX7_when 60 = .ok (.invokevirtual 194, 3) := by decide +kernel
theorem dX7_when_63 : decode cX7_when 63 = .ok (.iinc 3 1, 3) := by decide +kernel
theorem dX7_when_66 : decode cX7_when 66 = .ok (.goto (-36), 3) := by decide +kernel
theorem dX7_when_69 : decode cX7_when 69 = .ok (.ldc 96, 2) := by decide +kernel
theorem dX7_when_71 : decode cX7_when 71 = .ok (.ireturn, 1) := by decide +kernel
theorem dX7_all_0 : decode cX7_all 0 = .ok (.aload_n 0, 1) := by decide +kernel
theorem dX7_all_1 : decode cX7_all 1 = .ok (.iconst 0, 1) := by decide +kernel
theorem dX7_all_2 : decode cX7_all 2 = .ok (.putfield 53, 3) := by decide +kernel
theorem dX7_all_5 : decode cX7_all 5 = .ok (.aload_n 0, 1) := by decide +kernel
theorem dX7_all_6 : decode cX7_all 6 = .ok (.invokevirtual 198, 3) := by decide +kernel
theorem dX7_all_9 : decode cX7_all 9 = .ok (.ifCond .ne 6, 3) := by decide +kernel
theorem dX7_all_12 : decode cX7_all 12 = .ok (.ldc 201, 2) := by decide +kernel
theorem dX7_all_14 : decode cX7_all 14 = .ok (.ireturn, 1) := by decide +kernel
theorem dX7_all_15 : decode cX7_all 15 = .ok (.iload_n 1, 1) := by decide +kernel
theorem dX7_all_16 : decode cX7_all 16 = .ok (.i2l, 1) := by decide +kernel
theorem dX7_all_17 : decode cX7_all 17 = .ok (.lconst 0, 1) := by decide +kernel
theorem dX7_all_18 : decode cX7_all 18 = .ok (.lconst 1, 1) := by decide +kernel
theorem dX7_all_19 : decode cX7_all 19 = .ok (.invokestatic 63, 3) := by decide +kernel
theorem dX7_all_22 : decode cX7_all 22 = .ok (.ifCond .eq 22, 3) := by decide +kernel
theorem dX7_all_25 : decode cX7_all 25 = .ok (.aload_n 0, 1) := by decide +kernel
theorem dX7_all_26 : decode cX7_all 26 = .ok (.getfield 19, 3) := by decide +kernel
theorem dX7_all_29 : decode cX7_all 29 = .ok (.iload_n 1, 1) := by decide +kernel
theorem dX7_all_30 : decode cX7_all 30 = .ok (.ifCond .ne 7, 3) := by decide +kernel
theorem dX7_all_33 : decode cX7_all 33 = .ok (.iconst 1, 1) := by decide +kernel
theorem dX7_all_34 : decode cX7_all 34 = .ok (.goto 4, 3) := by decide +kernel
theorem dX7_all_37 : decode cX7_all 37 = .ok (.iconst 0, 1) := by decide +kernel
theorem dX7_all_38 : decode cX7_all 38 = .ok (.invokestatic 240, 3) := by decide +kernel
theorem dX7_all_41 : decode cX7_all 41 = .ok (.goto 5, 3) := by decide +kernel
theorem dX7_all_44 : decode cX7_all 44 = .ok (.ldc 73, 2) := by decide +kernel
theorem dX7_all_46 : decode cX7_all 46 = .ok (.ireturn, 1) := by decide +kernel
theorem dX7_follows_0 : decode cX7_follows 0 = .ok (.aload_n 0, 1) := by decide +kernel
theorem dX7_follows_1 : decode cX7_follows 1 = .ok (.iconst 0, 1) := by decide +kernel
theorem dX7_follows_2 : decode cX7_follows 2 = .ok (.putfield 53, 3) := by decide +kernel
theorem dX7_follows_5 : decode cX7_follows 5 = .ok (.aload_n 0, 1) := by decide +kernel
theorem dX7_follows_6 : decode cX7_follows 6 = .ok (.iload_n 1, 1) := by decide +kernel
theorem dX7_follows_7 : decode cX7_follows 7 = .ok (.invokevirtual 211, 3) := by decide +kernel
theorem dX7_follows_10 : decode cX7_follows 10 = .ok (.ifCond .ne 6, 3) := by decide +kernel
theorem dX7_follows_13 : decode cX7_follows 13 = .ok (.ldc 73, 2) := by decide +kernel
theorem dX7_follows_15 : decode cX7_follows 15 = .ok (.ireturn, 1) := by decide +kernel
theorem dX7_follows_16 : decode cX7_follows 16 = .ok (.aload_n 0, 1) := by decide +kernel
theorem dX7_follows_17 : decode cX7_follows 17 = .ok (.getfield 19, 3) := by decide +kernel
theorem dX7_follows_20 : decode cX7_follows 20 = .ok (.iload_n 1, 1) := by decide +kernel
theorem dX7_follows_21 : decode cX7_follows 21 = .ok (.iconst 2, 1) := by decide +kernel
theorem dX7_follows_22 : decode cX7_follows 22 = .ok (.invokestatic 161, 3) := by decide +kernel
theorem dX7_follows_25 : decode cX7_follows 25 = .ok (.istore_n 2, 1) := by decide +kernel
theorem dX7_follows_26 : decode cX7_follows 26 = .ok (.iconst 0, 1) := by decide +kernel
theorem dX7_follows_27 : decode cX7_follows 27 = .ok (.istore_n 3, 1) := by decide +kernel
theorem dX7_follows_28 : decode cX7_follows 28 = .ok (.iload_n 3, 1) := by decide +kernel
theorem dX7_follows_29 : decode cX7_follows 29 = .ok (.aload_n 0, 1) := by decide +kernel
theorem dX7_follows_30 : decode cX7_follows 30 = .ok (.getfield 19, 3) := by decide +kernel
theorem dX7_follows_33 : decode cX7_follows 33 = .ok (.iconst 1, 1) := by decide +kernel
theorem dX7_follows_34 : decode cX7_follows 34 = .ok (.iaload, 1) := by decide +kernel
theorem dX7_follows_35 : decode cX7_follows 35 = .ok (.if_icmp .ge 31, 3) := by decide +kernel
theorem dX7_follows_38 : decode cX7_follows 38 = .ok (.iload_n 2, 1) := by decide +kernel
theorem dX7_follows_39 : decode cX7_follows 39 = .ok (.aload_n 0, 1) := by decide +kernel
theorem dX7_follows_40 : decode cX7_follows 40 = .ok (.getfield 19, 3) := by decide +kernel
theorem dX7_follows_43 : decode cX7_follows 43 = .ok (.iload_n 3, 1) := by decide +kernel
theorem dX7_follows_44 : decode cX7_follows 44 = .ok (.iload_n 2, 1) := by decide +kernel
theorem dX7_follows_45 : decode cX7_follows 45 = .ok (.invokestatic 176, 3) := by decide +kernel
theorem dX7_follows_48 : decode cX7_follows 48 = .ok (.ifCond .eq 9, 3) := by decide +kernel
theorem dX7_follows_51 : decode cX7_follows 51 = .ok (.iconst 1, 1) := by decide +kernel
theorem dX7_follows_52 : decode cX7_follows 52 = .ok (.iload_n 3, 1) := by decide +kernel
theorem dX7_follows_53 : decode cX7_follows 53 = .ok (.ishl, 1) := by decide +kernel
theorem dX7_follows_54 : decode cX7_follows 54 = .ok (.goto 4, 3) := by decide +kernel
theorem dX7_follows_57 : decode cX7_follows 57 = .ok (.iconst 0, 1) := by decide +kernel
theorem dX7_follows_58 : decode cX7_follows 58 = .ok (.ior, 1) := by decide +kernel
theorem dX7_follows_59 : decode cX7_follows 59 = .ok (.istore_n 2, 1) := by decide +kernel
theorem dX7_follows_60 : decode cX7_follows 60 = .ok (.iinc 3 1, 3) := by decide +kernel
theorem dX7_follows_63 : decode cX7_follows 63 = .ok (.goto (-35), 3) := by decide +kernel
theorem dX7_follows_66 : decode cX7_follows 66 = .ok (.iload_n 2, 1) := by decide +kernel
theorem dX7_follows_67 : decode cX7_follows 67 = .ok (.ireturn, 1) := by decide +kernel
theorem dX7_needed_0 : decode cX7_needed 0 = .ok (.iconst 1, 1) := by decide +kernel
theorem dX7_needed_1 : decode cX7_needed 1 = .ok (.iload_n 1, 1) := by decide +kernel
theorem dX7_needed_2 : decode cX7_needed 2 = .ok (.ishl, 1) := by decide +kernel
theorem dX7_needed_3 : decode cX7_needed 3 = .ok (.istore_n 3, 1) := by decide +kernel
theorem dX7_needed_4 : decode cX7_needed 4 = .ok (.iload_n 1, 1) := by decide +kernel
theorem dX7_needed_5 : decode cX7_needed 5 = .ok (.istore 4, 2) := by decide +kernel
theorem dX7_needed_7 : decode cX7_needed 7 = .ok (.iload 4, 2) := by decide +kernel
theorem dX7_needed_9 : decode cX7_needed 9 = .ok (.ifCond .lt 43, 3) := by decide +kernel
theorem dX7_needed_12 : decode cX7_needed 12 = .ok (.iload_n 3, 1) := by decide +kernel
theorem dX7_needed_13 : decode cX7_needed 13 = .ok (.iload_n 3, 1) := by decide +kernel
theorem dX7_needed_14 : decode cX7_needed 14 = .ok (.iload 4, 2) := by decide +kernel
theorem dX7_needed_16 : decode cX7_needed 16 = .ok (.invokestatic 172, 3) := by decide +kernel
theorem dX7_needed_19 : decode cX7_needed 19 = .ok (.ifCond .eq 24, 3) := by decide +kernel
theorem dX7_needed_22 : decode cX7_needed 22 = .ok (.iload_n 2, 1) := by decide +kernel
theorem dX7_needed_23 : decode cX7_needed 23 = .ok (.iload 4, 2) := by decide +kernel
theorem dX7_needed_25 : decode cX7_needed 25 = .ok (.invokestatic 172, 3) := by decide +kernel
theorem dX7_needed_28 : decode cX7_needed 28 = .ok (.ifCond .ne 15, 3) := by decide +kernel
theorem dX7_needed_31 : decode cX7_needed 31 = .ok (.aload_n 0, 1) := by decide +kernel
theorem dX7_needed_32 : decode cX7_needed 32 = .ok (.getfield 19, 3) := by decide +kernel
theorem dX7_needed_35 : decode cX7_needed 35 = .ok (.iconst 5, 1) := by decide +kernel
theorem dX7_needed_36 : decode cX7_needed 36 = .ok (.iload 4, 2) := by decide +kernel
theorem dX7_needed_38 : decode cX7_needed 38 = .ok (.iadd, 1) := by decide +kernel
theorem dX7_needed_39 : decode cX7_needed 39 = .ok (.iaload, 1) := by decide +kernel
theorem dX7_needed_40 : decode cX7_needed 40 = .ok (.goto 4, 3) := by decide +kernel
theorem dX7_needed_43 : decode cX7_needed 43 = .ok (.iconst 0, 1) := by decide +kernel
theorem dX7_needed_44 : decode cX7_needed 44 = .ok (.ior, 1) := by decide +kernel
theorem dX7_needed_45 : decode cX7_needed 45 = .ok (.istore_n 3, 1) := by decide +kernel
theorem dX7_needed_46 : decode cX7_needed 46 = .ok (.iinc 4 (-1), 3) := by decide +kernel
theorem dX7_needed_49 : decode cX7_needed 49 = .ok (.goto (-42), 3) := by decide +kernel
theorem dX7_needed_52 : decode cX7_needed 52 = .ok (.iload_n 3, 1) := by decide +kernel
theorem dX7_needed_53 : decode cX7_needed 53 = .ok (.ireturn, 1) := by decide +kernel
theorem dX7_lacks_0 : decode cX7_lacks 0 = .ok (.aload_n 0, 1) := by decide +kernel
theorem dX7_lacks_1 : decode cX7_lacks 1 = .ok (.iconst 0, 1) := by decide +kernel
theorem dX7_lacks_2 : decode cX7_lacks 2 = .ok (.putfield 53, 3) := by decide +kernel
theorem dX7_lacks_5 : decode cX7_lacks 5 = .ok (.aload_n 0, 1) := by decide +kernel
theorem dX7_lacks_6 : decode cX7_lacks 6 = .ok (.iload_n 1, 1) := by decide +kernel
theorem dX7_lacks_7 : decode cX7_lacks 7 = .ok (.invokevirtual 211, 3) := by decide +kernel
theorem dX7_lacks_10 : decode cX7_lacks 10 = .ok (.ifCond .eq 11, 3) := by decide +kernel
theorem dX7_lacks_13 : decode cX7_lacks 13 = .ok (.aload_n 0, 1) := by decide +kernel
theorem dX7_lacks_14 : decode cX7_lacks 14 = .ok (.iload_n 2, 1) := by decide +kernel
theorem dX7_lacks_15 : decode cX7_lacks 15 = .ok (.invokevirtual 221, 3) := by decide +kernel
theorem dX7_lacks_18 : decode cX7_lacks 18 = .ok (.ifCond .ne 6, 3) := by decide +kernel
theorem dX7_lacks_21 : decode cX7_lacks 21 = .ok (.ldc 73, 2) := by decide +kernel
theorem dX7_lacks_23 : decode cX7_lacks 23 = .ok (.ireturn, 1) := by decide +kernel
theorem dX7_lacks_24 : decode cX7_lacks 24 = .ok (.aload_n 0, 1) := by decide +kernel
theorem dX7_lacks_25 : decode cX7_lacks 25 = .ok (.iload_n 2, 1) := by decide +kernel
theorem dX7_lacks_26 : decode cX7_lacks 26 = .ok (.iconst 0, 1) := by decide +kernel
theorem dX7_lacks_27 : decode cX7_lacks 27 = .ok (.invokevirtual 244, 3) := by decide +kernel
theorem dX7_lacks_30 : decode cX7_lacks 30 = .ok (.aload_n 0, 1) := by decide +kernel
theorem dX7_lacks_31 : decode cX7_lacks 31 = .ok (.getfield 19, 3) := by decide +kernel
theorem dX7_lacks_34 : decode cX7_lacks 34 = .ok (.iload_n 1, 1) := by decide +kernel
theorem dX7_lacks_35 : decode cX7_lacks 35 = .ok (.iconst 2, 1) := by decide +kernel
theorem dX7_lacks_36 : decode cX7_lacks 36 = .ok (.invokestatic 161, 3) := by decide +kernel
theorem dX7_lacks_39 : decode cX7_lacks 39 = .ok (.iconst (-1), 1) := by decide +kernel
theorem dX7_lacks_40 : decode cX7_lacks 40 = .ok (.ixor, 1) := by decide +kernel
theorem dX7_lacks_41 : decode cX7_lacks 41 = .ok (.iand, 1) := by decide +kernel
theorem dX7_lacks_42 : decode cX7_lacks 42 = .ok (.ireturn, 1) := by decide +kernel
theorem dX7_shortest_0 : decode cX7_shortest 0 = .ok (.aload_n 0, 1) := by decide +kernel
theorem dX7_shortest_1 : decode cX7_shortest 1 = .ok (.iconst 0, 1) := by decide +kernel
theorem dX7_shortest_2 : decode cX7_shortest 2 = .ok (.putfield 53, 3) := by decide +kernel
theorem dX7_shortest_5 : decode cX7_shortest 5 = .ok (.aload_n 0, 1) := by decide +kernel
theorem dX7_shortest_6 : decode cX7_shortest 6 = .ok (.iload_n 1, 1) := by decide +kernel
theorem dX7_shortest_7 : decode cX7_shortest 7 = .ok (.invokevirtual 211, 3) := by decide +kernel
theorem dX7_shortest_10 : decode cX7_shortest 10 = .ok (.ifCond .eq 16, 3) := by decide +kernel
theorem dX7_shortest_13 : decode cX7_shortest 13 = .ok (.aload_n 0, 1) := by decide +kernel
theorem dX7_shortest_14 : decode cX7_shortest 14 = .ok (.iload_n 2, 1) := by decide +kernel
theorem dX7_shortest_15 : decode cX7_shortest 15 = .ok (.invokevirtual 221, 3) := by decide +kernel
theorem dX7_shortest_18 : decode cX7_shortest 18 = .ok (.ifCond .eq 8, 3) := by decide +kernel
theorem dX7_shortest_21 : decode cX7_shortest 21 = .ok (.iload_n 3, 1) := by decide +kernel
theorem dX7_shortest_22 : decode cX7_shortest 22 = .ok (.iconst (-1), 1) := by decide +kernel
theorem dX7_shortest_23 : decode cX7_shortest 23 = .ok (.if_icmp .ge 6, 3) := by decide +kernel
theorem dX7_shortest_26 : decode cX7_shortest 26 = .ok (.ldc 73, 2) := by decide +kernel
theorem dX7_shortest_28 : decode cX7_shortest 28 = .ok (.ireturn, 1) := by decide +kernel
theorem dX7_shortest_29 : decode cX7_shortest 29 = .ok (.aload_n 0, 1) := by decide +kernel
theorem dX7_shortest_30 : decode cX7_shortest 30 = .ok (.getfield 19, 3) := by decide +kernel
theorem dX7_shortest_33 : decode cX7_shortest 33 = .ok (.iload_n 1, 1) := by decide +kernel
theorem dX7_shortest_34 : decode cX7_shortest 34 = .ok (.iconst 2, 1) := by decide +kernel
theorem dX7_shortest_35 : decode cX7_shortest 35 = .ok (.invokestatic 161, 3) := by decide +kernel
theorem dX7_shortest_38 : decode cX7_shortest 38 = .ok (.istore 4, 2) := by decide +kernel
theorem dX7_shortest_40 : decode cX7_shortest 40 = .ok (.aload_n 0, 1) := by decide +kernel
theorem dX7_shortest_41 : decode cX7_shortest 41 = .ok (.iload_n 2, 1) := by decide +kernel
theorem dX7_shortest_42 : decode cX7_shortest 42 = .ok (.iload 4, 2) := by decide +kernel
theorem dX7_shortest_44 : decode cX7_shortest 44 = .ok (.invokevirtual 244, 3) := by decide +kernel
theorem dX7_shortest_47 : decode cX7_shortest 47 = .ok (.iload 4, 2) := by decide +kernel
theorem dX7_shortest_49 : decode cX7_shortest 49 = .ok (.iconst (-1), 1) := by decide +kernel
theorem dX7_shortest_50 : decode cX7_shortest 50 = .ok (.ixor, 1) := by decide +kernel
theorem dX7_shortest_51 : decode cX7_shortest 51 = .ok (.iand, 1) := by decide +kernel
theorem dX7_shortest_52 : decode cX7_shortest 52 = .ok (.istore 5, 2) := by decide +kernel
theorem dX7_shortest_54 : decode cX7_shortest 54 = .ok (.iload_n 3, 1) := by decide +kernel
theorem dX7_shortest_55 : decode cX7_shortest 55 = .ok (.iconst (-1), 1) := by decide +kernel
theorem dX7_shortest_56 : decode cX7_shortest 56 = .ok (.if_icmp .ne 9, 3) := by decide +kernel
theorem dX7_shortest_59 : decode cX7_shortest 59 = .ok (.iload 5, 2) := by decide +kernel
theorem dX7_shortest_61 : decode cX7_shortest 61 = .ok (.invokestatic 180, 3) := by decide +kernel
theorem dX7_shortest_64 : decode cX7_shortest 64 = .ok (.ireturn, 1) := by decide +kernel
theorem dX7_shortest_65 : decode cX7_shortest 65 = .ok (.iconst 0, 1) := by decide +kernel
theorem dX7_shortest_66 : decode cX7_shortest 66 = .ok (.istore 6, 2) := by decide +kernel
theorem dX7_shortest_68 : decode cX7_shortest 68 = .ok (.iconst 0, 1) := by decide +kernel
theorem dX7_shortest_69 : decode cX7_shortest 69 = .ok (.istore 7, 2) := by decide +kernel
theorem dX7_shortest_71 : decode cX7_shortest 71 = .ok (.iload 7, 2) := by decide +kernel
theorem dX7_shortest_73 : decode cX7_shortest 73 = .ok (.aload_n 0, 1) := by decide +kernel
theorem dX7_shortest_74 : decode cX7_shortest 74 = .ok (.getfield 19, 3) := by decide +kernel
theorem dX7_shortest_77 : decode cX7_shortest 77 = .ok (.iconst 1, 1) := by decide +kernel
theorem dX7_shortest_78 : decode cX7_shortest 78 = .ok (.iaload, 1) := by decide +kernel
theorem dX7_shortest_79 : decode cX7_shortest 79 = .ok (.if_icmp .ge 31, 3) := by decide +kernel
theorem dX7_shortest_82 : decode cX7_shortest 82 = .ok (.iload 5, 2) := by decide +kernel
theorem dX7_shortest_84 : decode cX7_shortest 84 = .ok (.iload 7, 2) := by decide +kernel
theorem dX7_shortest_86 : decode cX7_shortest 86 = .ok (.invokestatic 172, 3) := by decide +kernel
theorem dX7_shortest_89 : decode cX7_shortest 89 = .ok (.ifCond .eq 15, 3) := by decide +kernel
theorem dX7_shortest_92 : decode cX7_shortest 92 = .ok (.iload 6, 2) := by decide +kernel
theorem dX7_shortest_94 : decode cX7_shortest 94 = .ok (.iload_n 3, 1) := by decide +kernel
theorem dX7_shortest_95 : decode cX7_shortest 95 = .ok (.if_icmp .ne 6, 3) := by decide +kernel
theorem dX7_shortest_98 : decode cX7_shortest 98 = .ok (.iload 7, 2) := by decide +kernel
theorem dX7_shortest_100 : decode cX7_shortest 100 = .ok (.ireturn, 1) := by decide +kernel
theorem dX7_shortest_101 : decode cX7_shortest 101 = .ok (.iinc 6 1, 3) := by decide +kernel
theorem dX7_shortest_104 : decode cX7_shortest 104 = .ok (.iinc 7 1, 3) := by decide +kernel
theorem dX7_shortest_107 : decode cX7_shortest 107 = .ok (.goto (-36), 3) := by decide +kernel
theorem dX7_shortest_110 : decode cX7_shortest 110 = .ok (.ldc 96, 2) := by decide +kernel
theorem dX7_shortest_112 : decode cX7_shortest 112 = .ok (.ireturn, 1) := by decide +kernel
theorem dX7_nextOrder_0 : decode cX7_nextOrder 0 = .ok (.iload_n 1, 1) := by decide +kernel
theorem dX7_nextOrder_1 : decode cX7_nextOrder 1 = .ok (.iconst 2, 1) := by decide +kernel
theorem dX7_nextOrder_2 : decode cX7_nextOrder 2 = .ok (.isub, 1) := by decide +kernel
theorem dX7_nextOrder_3 : decode cX7_nextOrder 3 = .ok (.istore_n 2, 1) := by decide +kernel
theorem dX7_nextOrder_4 : decode cX7_nextOrder 4 = .ok (.iload_n 2, 1) := by decide +kernel
theorem dX7_nextOrder_5 : decode cX7_nextOrder 5 = .ok (.ifCond .lt 26, 3) := by decide +kernel
theorem dX7_nextOrder_8 : decode cX7_nextOrder 8 = .ok (.aload_n 0, 1) := by decide +kernel
theorem dX7_nextOrder_9 : decode cX7_nextOrder 9 = .ok (.getfield 38, 3) := by decide +kernel
theorem dX7_nextOrder_12 : decode cX7_nextOrder 12 = .ok (.iload_n 2, 1) := by decide +kernel
theorem dX7_nextOrder_13 : decode cX7_nextOrder 13 = .ok (.iaload, 1) := by decide +kernel
theorem dX7_nextOrder_14 : decode cX7_nextOrder 14 = .ok (.aload_n 0, 1) := by decide +kernel
theorem dX7_nextOrder_15 : decode cX7_nextOrder 15 = .ok (.getfield 38, 3) := by decide +kernel
theorem dX7_nextOrder_18 : decode cX7_nextOrder 18 = .ok (.iload_n 2, 1) := by decide +kernel
theorem dX7_nextOrder_19 : decode cX7_nextOrder 19 = .ok (.iconst 1, 1) := by decide +kernel
theorem dX7_nextOrder_20 : decode cX7_nextOrder 20 = .ok (.iadd, 1) := by decide +kernel
theorem dX7_nextOrder_21 : decode cX7_nextOrder 21 = .ok (.iaload, 1) := by decide +kernel
theorem dX7_nextOrder_22 : decode cX7_nextOrder 22 = .ok (.if_icmp .le 9, 3) := by decide +kernel
theorem dX7_nextOrder_25 : decode cX7_nextOrder 25 = .ok (.iinc 2 (-1), 3) := by decide +kernel
theorem dX7_nextOrder_28 : decode cX7_nextOrder 28 = .ok (.goto (-24), 3) := by decide +kernel
theorem dX7_nextOrder_31 : decode cX7_nextOrder 31 = .ok (.iload_n 2, 1) := by decide +kernel
theorem dX7_nextOrder_32 : decode cX7_nextOrder 32 = .ok (.ifCond .ge 5, 3) := by decide +kernel
theorem dX7_nextOrder_35 : decode cX7_nextOrder 35 = .ok (.iconst 0, 1) := by decide +kernel
theorem dX7_nextOrder_36 : decode cX7_nextOrder 36 = .ok (.ireturn, 1) := by decide +kernel
theorem dX7_nextOrder_37 : decode cX7_nextOrder 37 = .ok (.iload_n 1, 1) := by decide +kernel
theorem dX7_nextOrder_38 : decode cX7_nextOrder 38 = .ok (.iconst 1, 1) := by decide +kernel
theorem dX7_nextOrder_39 : decode cX7_nextOrder 39 = .ok (.isub, 1) := by decide +kernel
theorem dX7_nextOrder_40 : decode cX7_nextOrder 40 = .ok (.istore_n 3, 1) := by decide +kernel
theorem dX7_nextOrder_41 : decode cX7_nextOrder 41 = .ok (.aload_n 0, 1) := by decide +kernel
theorem dX7_nextOrder_42 : decode cX7_nextOrder 42 = .ok (.getfield 38, 3) := by decide +kernel
theorem dX7_nextOrder_45 : decode cX7_nextOrder 45 = .ok (.iload_n 3, 1) := by decide +kernel
theorem dX7_nextOrder_46 : decode cX7_nextOrder 46 = .ok (.iaload, 1) := by decide +kernel
theorem dX7_nextOrder_47 : decode cX7_nextOrder 47 = .ok (.aload_n 0, 1) := by decide +kernel
theorem dX7_nextOrder_48 : decode cX7_nextOrder 48 = .ok (.getfield 38, 3) := by decide +kernel
theorem dX7_nextOrder_51 : decode cX7_nextOrder 51 = .ok (.iload_n 2, 1) := by decide +kernel
theorem dX7_nextOrder_52 : decode cX7_nextOrder 52 = .ok (.iaload, 1) := by decide +kernel
theorem dX7_nextOrder_53 : decode cX7_nextOrder 53 = .ok (.if_icmp .ge 9, 3) := by decide +kernel
theorem dX7_nextOrder_56 : decode cX7_nextOrder 56 = .ok (.iinc 3 (-1), 3) := by decide +kernel
theorem dX7_nextOrder_59 : decode cX7_nextOrder 59 = .ok (.goto (-18), 3) := by decide +kernel
theorem dX7_nextOrder_62 : decode cX7_nextOrder 62 = .ok (.aload_n 0, 1) := by decide +kernel
theorem dX7_nextOrder_63 : decode cX7_nextOrder 63 = .ok (.getfield 38, 3) := by decide +kernel
theorem dX7_nextOrder_66 : decode cX7_nextOrder 66 = .ok (.iload_n 2, 1) := by decide +kernel
theorem dX7_nextOrder_67 : decode cX7_nextOrder 67 = .ok (.iaload, 1) := by decide +kernel
theorem dX7_nextOrder_68 : decode cX7_nextOrder 68 = .ok (.istore 4, 2) := by decide +kernel
theorem dX7_nextOrder_70 : decode cX7_nextOrder 70 = .ok (.aload_n 0, 1) := by decide +kernel
theorem dX7_nextOrder_71 : decode cX7_nextOrder 71 = .ok (.getfield 38, 3) := by decide +kernel
theorem dX7_nextOrder_74 : decode cX7_nextOrder 74 = .ok (.iload_n 2, 1) := by decide +kernel
theorem dX7_nextOrder_75 : decode cX7_nextOrder 75 = .ok (.aload_n 0, 1) := by decide +kernel
theorem dX7_nextOrder_76 : decode cX7_nextOrder 76 = .ok (.getfield 38, 3) := by decide +kernel
theorem dX7_nextOrder_79 : decode cX7_nextOrder 79 = .ok (.iload_n 3, 1) := by decide +kernel
theorem dX7_nextOrder_80 : decode cX7_nextOrder 80 = .ok (.iaload, 1) := by decide +kernel
theorem dX7_nextOrder_81 : decode cX7_nextOrder 81 = .ok (.iastore, 1) := by decide +kernel
theorem dX7_nextOrder_82 : decode cX7_nextOrder 82 = .ok (.aload_n 0, 1) := by decide +kernel
theorem dX7_nextOrder_83 : decode cX7_nextOrder 83 = .ok (.getfield 38, 3) := by decide +kernel
theorem dX7_nextOrder_86 : decode cX7_nextOrder 86 = .ok (.iload_n 3, 1) := by decide +kernel
theorem dX7_nextOrder_87 : decode cX7_nextOrder 87 = .ok (.iload 4, 2) := by decide +kernel
theorem dX7_nextOrder_89 : decode cX7_nextOrder 89 = .ok (.iastore, 1) := by decide +kernel
theorem dX7_nextOrder_90 : decode cX7_nextOrder 90 = .ok (.iload_n 2, 1) := by decide +kernel
theorem dX7_nextOrder_91 : decode cX7_nextOrder 91 = .ok (.iconst 1, 1) := by decide +kernel
theorem dX7_nextOrder_92 : decode cX7_nextOrder 92 = .ok (.iadd, 1) := by decide +kernel
theorem dX7_nextOrder_93 : decode cX7_nextOrder 93 = .ok (.istore 5, 2) := by decide +kernel
theorem dX7_nextOrder_95 : decode cX7_nextOrder 95 = .ok (.iload_n 1, 1) := by decide +kernel
theorem dX7_nextOrder_96 : decode cX7_nextOrder 96 = .ok (.iconst 1, 1) := by decide +kernel
theorem dX7_nextOrder_97 : decode cX7_nextOrder 97 = .ok (.isub, 1) := by decide +kernel
theorem dX7_nextOrder_98 : decode cX7_nextOrder 98 = .ok (.istore 6, 2) := by decide +kernel
theorem dX7_nextOrder_100 : decode cX7_nextOrder 100 = .ok (.iload 6, 2) := by decide +kernel
theorem dX7_nextOrder_102 : decode cX7_nextOrder 102 = .ok (.iload 5, 2) := by decide +kernel
theorem dX7_nextOrder_104 : decode cX7_nextOrder 104 = .ok (.if_icmp .le 44, 3) := by decide +kernel
theorem dX7_nextOrder_107 : decode cX7_nextOrder 107 = .ok (.aload_n 0, 1) := by decide +kernel
theorem dX7_nextOrder_108 : decode cX7_nextOrder 108 = .ok (.getfield 38, 3) := by decide +kernel
theorem dX7_nextOrder_111 : decode cX7_nextOrder 111 = .ok (.iload 5, 2) := by decide +kernel
theorem dX7_nextOrder_113 : decode cX7_nextOrder 113 = .ok (.iaload, 1) := by decide +kernel
theorem dX7_nextOrder_114 : decode cX7_nextOrder 114 = .ok (.istore 4, 2) := by decide +kernel
theorem dX7_nextOrder_116 : decode cX7_nextOrder 116 = .ok (.aload_n 0, 1) := by decide +kernel
theorem dX7_nextOrder_117 : decode cX7_nextOrder 117 = .ok (.getfield 38, 3) := by decide +kernel
theorem dX7_nextOrder_120 : decode cX7_nextOrder 120 = .ok (.iload 5, 2) := by decide +kernel
theorem dX7_nextOrder_122 : decode cX7_nextOrder 122 = .ok (.aload_n 0, 1) := by decide +kernel
theorem dX7_nextOrder_123 : decode cX7_nextOrder 123 = .ok (.getfield 38, 3) := by decide +kernel
theorem dX7_nextOrder_126 : decode cX7_nextOrder 126 = .ok (.iload 6, 2) := by decide +kernel
theorem dX7_nextOrder_128 : decode cX7_nextOrder 128 = .ok (.iaload, 1) := by decide +kernel
theorem dX7_nextOrder_129 : decode cX7_nextOrder 129 = .ok (.iastore, 1) := by decide +kernel
theorem dX7_nextOrder_130 : decode cX7_nextOrder 130 = .ok (.aload_n 0, 1) := by decide +kernel
theorem dX7_nextOrder_131 : decode cX7_nextOrder 131 = .ok (.getfield 38, 3) := by decide +kernel
theorem dX7_nextOrder_134 : decode cX7_nextOrder 134 = .ok (.iload 6, 2) := by decide +kernel
theorem dX7_nextOrder_136 : decode cX7_nextOrder 136 = .ok (.iload 4, 2) := by decide +kernel
theorem dX7_nextOrder_138 : decode cX7_nextOrder 138 = .ok (.iastore, 1) := by decide +kernel
theorem dX7_nextOrder_139 : decode cX7_nextOrder 139 = .ok (.iinc 5 1, 3) := by decide +kernel
theorem dX7_nextOrder_142 : decode cX7_nextOrder 142 = .ok (.iinc 6 (-1), 3) := by decide +kernel
theorem dX7_nextOrder_145 : decode cX7_nextOrder 145 = .ok (.goto (-45), 3) := by decide +kernel
theorem dX7_nextOrder_148 : decode cX7_nextOrder 148 = .ok (.iconst 1, 1) := by decide +kernel
theorem dX7_nextOrder_149 : decode cX7_nextOrder 149 = .ok (.ireturn, 1) := by decide +kernel
theorem dX7_seating_0 : decode cX7_seating 0 = .ok (.aload_n 0, 1) := by decide +kernel
theorem dX7_seating_1 : decode cX7_seating 1 = .ok (.iconst 0, 1) := by decide +kernel
theorem dX7_seating_2 : decode cX7_seating 2 = .ok (.putfield 53, 3) := by decide +kernel
theorem dX7_seating_5 : decode cX7_seating 5 = .ok (.aload_n 0, 1) := by decide +kernel
theorem dX7_seating_6 : decode cX7_seating 6 = .ok (.invokevirtual 198, 3) := by decide +kernel
theorem dX7_seating_9 : decode cX7_seating 9 = .ok (.ifCond .ne 6, 3) := by decide +kernel
theorem dX7_seating_12 : decode cX7_seating 12 = .ok (.ldc 201, 2) := by decide +kernel
theorem dX7_seating_14 : decode cX7_seating 14 = .ok (.ireturn, 1) := by decide +kernel
theorem dX7_seating_15 : decode cX7_seating 15 = .ok (.iload_n 1, 1) := by decide +kernel
theorem dX7_seating_16 : decode cX7_seating 16 = .ok (.i2l, 1) := by decide +kernel
theorem dX7_seating_17 : decode cX7_seating 17 = .ok (.lconst 1, 1) := by decide +kernel
theorem dX7_seating_18 : decode cX7_seating 18 = .ok (.ldc2_w 247, 3) := by decide +kernel
theorem dX7_seating_21 : decode cX7_seating 21 = .ok (.invokestatic 63, 3) := by decide +kernel
theorem dX7_seating_24 : decode cX7_seating 24 = .ok (.ifCond .eq 16, 3) := by decide +kernel
theorem dX7_seating_27 : decode cX7_seating 27 = .ok (.iload_n 2, 1) := by decide +kernel
theorem dX7_seating_28 : decode cX7_seating 28 = .ok (.iconst (-1), 1) := by decide +kernel
theorem dX7_seating_29 : decode cX7_seating 29 = .ok (.if_icmp .eq 14, 3) := by decide +kernel
theorem dX7_seating_32 : decode cX7_seating 32 = .ok (.aload_n 0, 1) := by decide +kernel
theorem dX7_seating_33 : decode cX7_seating 33 = .ok (.iload_n 2, 1) := by decide +kernel
theorem dX7_seating_34 : decode cX7_seating 34 = .ok (.invokevirtual 211, 3) := by decide +kernel
theorem dX7_seating_37 : decode cX7_seating 37 = .ok (.ifCond .ne 6, 3) := by decide +kernel
theorem dX7_seating_40 : decode cX7_seating 40 = .ok (.ldc 73, 2) := by decide +kernel
theorem dX7_seating_42 : decode cX7_seating 42 = .ok (.ireturn, 1) := by decide +kernel
theorem dX7_seating_43 : decode cX7_seating 43 = .ok (.iconst (-1), 1) := by decide +kernel
theorem dX7_seating_44 : decode cX7_seating 44 = .ok (.istore_n 3, 1) := by decide +kernel
theorem dX7_seating_45 : decode cX7_seating 45 = .ok (.iconst 0, 1) := by decide +kernel
theorem dX7_seating_46 : decode cX7_seating 46 = .ok (.istore 4, 2) := by decide +kernel
theorem dX7_seating_48 : decode cX7_seating 48 = .ok (.iload 4, 2) := by decide +kernel
theorem dX7_seating_50 : decode cX7_seating 50 = .ok (.bipush 6, 2) := by decide +kernel
theorem dX7_seating_52 : decode cX7_seating 52 = .ok (.if_icmp .ge 18, 3) := by decide +kernel
theorem dX7_seating_55 : decode cX7_seating 55 = .ok (.aload_n 0, 1) := by decide +kernel
theorem dX7_seating_56 : decode cX7_seating 56 = .ok (.getfield 38, 3) := by decide +kernel
theorem dX7_seating_59 : decode cX7_seating 59 = .ok (.iload 4, 2) := by decide +kernel
theorem dX7_seating_61 : decode cX7_seating 61 = .ok (.iload 4, 2) := by decide +kernel
theorem dX7_seating_63 : decode cX7_seating 63 = .ok (.iastore, 1) := by decide +kernel
theorem dX7_seating_64 : decode cX7_seating 64 = .ok (.iinc 4 1, 3) := by decide +kernel
theorem dX7_seating_67 : decode cX7_seating 67 = .ok (.goto (-19), 3) := by decide +kernel
theorem dX7_seating_70 : decode cX7_seating 70 = .ok (.iconst 1, 1) := by decide +kernel
theorem dX7_seating_71 : decode cX7_seating 71 = .ok (.istore 4, 2) := by decide +kernel
theorem dX7_seating_73 : decode cX7_seating 73 = .ok (.iload 4, 2) := by decide +kernel
theorem dX7_seating_75 : decode cX7_seating 75 = .ok (.ifCond .eq 116, 3) := by decide +kernel
theorem dX7_seating_78 : decode cX7_seating 78 = .ok (.aload_n 0, 1) := by decide +kernel
theorem dX7_seating_79 : decode cX7_seating 79 = .ok (.invokevirtual 233, 3) := by decide +kernel
theorem dX7_seating_82 : decode cX7_seating 82 = .ok (.iconst 0, 1) := by decide +kernel
theorem dX7_seating_83 : decode cX7_seating 83 = .ok (.istore 5, 2) := by decide +kernel
theorem dX7_seating_85 : decode cX7_seating 85 = .ok (.iload 5, 2) := by decide +kernel
theorem dX7_seating_87 : decode cX7_seating 87 = .ok (.aload_n 0, 1) := by decide +kernel
theorem dX7_seating_88 : decode cX7_seating 88 = .ok (.getfield 19, 3) := by decide +kernel
theorem dX7_seating_91 : decode cX7_seating 91 = .ok (.iconst 0, 1) := by decide +kernel
theorem dX7_seating_92 : decode cX7_seating 92 = .ok (.iaload, 1) := by decide +kernel
theorem dX7_seating_93 : decode cX7_seating 93 = .ok (.if_icmp .ge 26, 3) := by decide +kernel
theorem dX7_seating_96 : decode cX7_seating 96 = .ok (.aload_n 0, 1) := by decide +kernel
theorem dX7_seating_97 : decode cX7_seating 97 = .ok (.getfield 25, 3) := by decide +kernel
theorem dX7_seating_100 : decode cX7_seating 100 = .ok (.aload_n 0, 1) := by decide +kernel
theorem dX7_seating_101 : decode cX7_seating 101 = .ok (.getfield 38, 3) := by decide +kernel
theorem dX7_seating_104 : decode cX7_seating 104 = .ok (.iload 5, 2) := by decide +kernel
theorem dX7_seating_106 : decode cX7_seating 106 = .ok (.iaload, 1) := by decide +kernel
theorem dX7_seating_107 : decode cX7_seating 107 = .ok (.iconst 1, 1) := by decide +kernel
theorem dX7_seating_108 : decode cX7_seating 108 = .ok (.iload 5, 2) := by decide +kernel
theorem dX7_seating_110 : decode cX7_seating 110 = .ok (.invokestatic 187, 3) := by decide +kernel
theorem dX7_seating_113 : decode cX7_seating 113 = .ok (.iinc 5 1, 3) := by decide +kernel
theorem dX7_seating_116 : decode cX7_seating 116 = .ok (.goto (-31), 3) := by decide +kernel
theorem dX7_seating_119 : decode cX7_seating 119 = .ok (.aload_n 0, 1) := by decide +kernel
theorem dX7_seating_120 : decode cX7_seating 120 = .ok (.aload_n 0, 1) := by decide +kernel
theorem dX7_seating_121 : decode cX7_seating 121 = .ok (.getfield 25, 3) := by decide +kernel
theorem dX7_seating_124 : decode cX7_seating 124 = .ok (.iload_n 1, 1) := by decide +kernel
theorem dX7_seating_125 : decode cX7_seating 125 = .ok (.invokevirtual 236, 3) := by decide +kernel
theorem dX7_seating_128 : decode cX7_seating 128 = .ok (.aload_n 0, 1) := by decide +kernel
theorem dX7_seating_129 : decode cX7_seating 129 = .ok (.getfield 25, 3) := by decide +kernel
theorem dX7_seating_132 : decode cX7_seating 132 = .ok (.invokestatic 207, 3) := by decide +kernel
theorem dX7_seating_135 : decode cX7_seating 135 = .ok (.istore 5, 2) := by decide +kernel
theorem dX7_seating_137 : decode cX7_seating 137 = .ok (.iload 5, 2) := by decide +kernel
theorem dX7_seating_139 : decode cX7_seating 139 = .ok (.iload_n 3, 1) := by decide +kernel
theorem dX7_seating_140 : decode cX7_seating 140 = .ok (.if_icmp .le 36, 3) := by decide +kernel
theorem dX7_seating_143 : decode cX7_seating 143 = .ok (.iload 5, 2) := by decide +kernel
theorem dX7_seating_145 : decode cX7_seating 145 = .ok (.istore_n 3, 1) := by decide +kernel
theorem dX7_seating_146 : decode cX7_seating 146 = .ok (.iconst 0, 1) := by decide +kernel
theorem dX7_seating_147 : decode cX7_seating 147 = .ok (.istore 6, 2) := by decide +kernel
theorem dX7_seating_149 : decode cX7_seating 149 = .ok (.iload 6, 2) := by decide +kernel
theorem dX7_seating_151 : decode cX7_seating 151 = .ok (.bipush 6, 2) := by decide +kernel
theorem dX7_seating_153 : decode cX7_seating 153 = .ok (.if_icmp .ge 23, 3) := by decide +kernel
theorem dX7_seating_156 : decode cX7_seating 156 = .ok (.aload_n 0, 1) := by decide +kernel
theorem dX7_seating_157 : decode cX7_seating 157 = .ok (.getfield 41, 3) := by decide +kernel
theorem dX7_seating_160 : decode cX7_seating 160 = .ok (.iload 6, 2) := by decide +kernel
theorem dX7_seating_162 : decode cX7_seating 162 = .ok (.aload_n 0, 1) := by decide +kernel
theorem dX7_seating_163 : decode cX7_seating 163 = .ok (.getfield 38, 3) := by decide +kernel
theorem dX7_seating_166 : decode cX7_seating 166 = .ok (.iload 6, 2) := by decide +kernel
theorem dX7_seating_168 : decode cX7_seating 168 = .ok (.iaload, 1) := by decide +kernel
theorem dX7_seating_169 : decode cX7_seating 169 = .ok (.iastore, 1) := by decide +kernel
theorem dX7_seating_170 : decode cX7_seating 170 = .ok (.iinc 6 1, 3) := by decide +kernel
theorem dX7_seating_173 : decode cX7_seating 173 = .ok (.goto (-24), 3) := by decide +kernel
theorem dX7_seating_176 : decode cX7_seating 176 = .ok (.aload_n 0, 1) := by decide +kernel
theorem dX7_seating_177 : decode cX7_seating 177 = .ok (.aload_n 0, 1) := by decide +kernel
theorem dX7_seating_178 : decode cX7_seating 178 = .ok (.getfield 19, 3) := by decide +kernel
theorem dX7_seating_181 : decode cX7_seating 181 = .ok (.iconst 0, 1) := by decide +kernel
theorem dX7_seating_182 : decode cX7_seating 182 = .ok (.iaload, 1) := by decide +kernel
theorem dX7_seating_183 : decode cX7_seating 183 = .ok (.invokevirtual 249, 3) := by decide +kernel
theorem dX7_seating_186 : decode cX7_seating 186 = .ok (.istore 4, 2) := by decide +kernel
theorem dX7_seating_188 : decode cX7_seating 188 = .ok (.goto (-115), 3) := by decide +kernel
theorem dX7_seating_191 : decode cX7_seating 191 = .ok (.iload_n 2, 1) := by decide +kernel
theorem dX7_seating_192 : decode cX7_seating 192 = .ok (.iconst (-1), 1) := by decide +kernel
theorem dX7_seating_193 : decode cX7_seating 193 = .ok (.if_icmp .ne 7, 3) := by decide +kernel
theorem dX7_seating_196 : decode cX7_seating 196 = .ok (.iload_n 3, 1) := by decide +kernel
theorem dX7_seating_197 : decode cX7_seating 197 = .ok (.goto 9, 3) := by decide +kernel
theorem dX7_seating_200 : decode cX7_seating 200 = .ok (.aload_n 0, 1) := by decide +kernel
theorem dX7_seating_201 : decode cX7_seating 201 = .ok (.getfield 41, 3) := by decide +kernel
theorem dX7_seating_204 : decode cX7_seating 204 = .ok (.iload_n 2, 1) := by decide +kernel
theorem dX7_seating_205 : decode cX7_seating 205 = .ok (.iaload, 1) := by decide +kernel
theorem dX7_seating_206 : decode cX7_seating 206 = .ok (.ireturn, 1) := by decide +kernel

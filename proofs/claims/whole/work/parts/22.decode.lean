theorem dX6_seating_0 : decode cX6_seating 0 = .ok (.aload_n 0, 1) := by decide +kernel
theorem dX6_seating_1 : decode cX6_seating 1 = .ok (.invokevirtual 144, 3) := by decide +kernel
theorem dX6_seating_4 : decode cX6_seating 4 = .ok (.ifCond .eq 6, 3) := by decide +kernel
theorem dX6_seating_7 : decode cX6_seating 7 = .ok (.ldc 143, 2) := by decide +kernel
theorem dX6_seating_9 : decode cX6_seating 9 = .ok (.ireturn, 1) := by decide +kernel
theorem dX6_seating_10 : decode cX6_seating 10 = .ok (.iload_n 1, 1) := by decide +kernel
theorem dX6_seating_11 : decode cX6_seating 11 = .ok (.iconst 1, 1) := by decide +kernel
theorem dX6_seating_12 : decode cX6_seating 12 = .ok (.bipush 12, 2) := by decide +kernel
theorem dX6_seating_14 : decode cX6_seating 14 = .ok (.invokestatic 59, 3) := by decide +kernel
theorem dX6_seating_17 : decode cX6_seating 17 = .ok (.ifCond .ne 20, 3) := by decide +kernel
theorem dX6_seating_20 : decode cX6_seating 20 = .ok (.iload_n 2, 1) := by decide +kernel
theorem dX6_seating_21 : decode cX6_seating 21 = .ok (.iconst (-1), 1) := by decide +kernel
theorem dX6_seating_22 : decode cX6_seating 22 = .ok (.aload_n 0, 1) := by decide +kernel
theorem dX6_seating_23 : decode cX6_seating 23 = .ok (.getfield 18, 3) := by decide +kernel
theorem dX6_seating_26 : decode cX6_seating 26 = .ok (.getfield 133, 3) := by decide +kernel
theorem dX6_seating_29 : decode cX6_seating 29 = .ok (.iconst 1, 1) := by decide +kernel
theorem dX6_seating_30 : decode cX6_seating 30 = .ok (.isub, 1) := by decide +kernel
theorem dX6_seating_31 : decode cX6_seating 31 = .ok (.invokestatic 59, 3) := by decide +kernel
theorem dX6_seating_34 : decode cX6_seating 34 = .ok (.ifCond .eq 6, 3) := by decide +kernel
theorem dX6_seating_37 : decode cX6_seating 37 = .ok (.ldc 63, 2) := by decide +kernel
theorem dX6_seating_39 : decode cX6_seating 39 = .ok (.ireturn, 1) := by decide +kernel
theorem dX6_seating_40 : decode cX6_seating 40 = .ok (.aload_n 0, 1) := by decide +kernel
theorem dX6_seating_41 : decode cX6_seating 41 = .ok (.getfield 43, 3) := by decide +kernel
theorem dX6_seating_44 : decode cX6_seating 44 = .ok (.aload_n 0, 1) := by decide +kernel
theorem dX6_seating_45 : decode cX6_seating 45 = .ok (.getfield 18, 3) := by decide +kernel
theorem dX6_seating_48 : decode cX6_seating 48 = .ok (.iload_n 1, 1) := by decide +kernel
theorem dX6_seating_49 : decode cX6_seating 49 = .ok (.invokevirtual 233, 3) := by decide +kernel
theorem dX6_seating_52 : decode cX6_seating 52 = .ok (.iload_n 2, 1) := by decide +kernel
theorem dX6_seating_53 : decode cX6_seating 53 = .ok (.ifCond .ge 13, 3) := by decide +kernel
theorem dX6_seating_56 : decode cX6_seating 56 = .ok (.aload_n 0, 1) := by decide +kernel
theorem dX6_seating_57 : decode cX6_seating 57 = .ok (.getfield 43, 3) := by decide +kernel
theorem dX6_seating_60 : decode cX6_seating 60 = .ok (.getfield 237, 3) := by decide +kernel
theorem dX6_seating_63 : decode cX6_seating 63 = .ok (.goto 12, 3) := by decide +kernel
theorem dX6_seating_66 : decode cX6_seating 66 = .ok (.aload_n 0, 1) := by decide +kernel
theorem dX6_seating_67 : decode cX6_seating 67 = .ok (.getfield 43, 3) := by decide +kernel
theorem dX6_seating_70 : decode cX6_seating 70 = .ok (.getfield 240, 3) := by decide +kernel
theorem dX6_seating_73 : decode cX6_seating 73 = .ok (.iload_n 2, 1) := by decide +kernel
theorem dX6_seating_74 : decode cX6_seating 74 = .ok (.iaload, 1) := by decide +kernel
theorem dX6_seating_75 : decode cX6_seating 75 = .ok (.ireturn, 1) := by decide +kernel
theorem dX6_table_0 : decode cX6_table 0 = .ok (.aload_n 0, 1) := by decide +kernel
theorem dX6_table_1 : decode cX6_table 1 = .ok (.invokevirtual 144, 3) := by decide +kernel
theorem dX6_table_4 : decode cX6_table 4 = .ok (.ifCond .eq 6, 3) := by decide +kernel
theorem dX6_table_7 : decode cX6_table 7 = .ok (.ldc 143, 2) := by decide +kernel
theorem dX6_table_9 : decode cX6_table 9 = .ok (.ireturn, 1) := by decide +kernel
theorem dX6_table_10 : decode cX6_table 10 = .ok (.iload_n 1, 1) := by decide +kernel
theorem dX6_table_11 : decode cX6_table 11 = .ok (.iconst 1, 1) := by decide +kernel
theorem dX6_table_12 : decode cX6_table 12 = .ok (.bipush 30, 2) := by decide +kernel
theorem dX6_table_14 : decode cX6_table 14 = .ok (.invokestatic 59, 3) := by decide +kernel
theorem dX6_table_17 : decode cX6_table 17 = .ok (.ifCond .ne 12, 3) := by decide +kernel
theorem dX6_table_20 : decode cX6_table 20 = .ok (.iload_n 2, 1) := by decide +kernel
theorem dX6_table_21 : decode cX6_table 21 = .ok (.iconst 0, 1) := by decide +kernel
theorem dX6_table_22 : decode cX6_table 22 = .ok (.iconst 1, 1) := by decide +kernel
theorem dX6_table_23 : decode cX6_table 23 = .ok (.invokestatic 59, 3) := by decide +kernel
theorem dX6_table_26 : decode cX6_table 26 = .ok (.ifCond .eq 6, 3) := by decide +kernel
theorem dX6_table_29 : decode cX6_table 29 = .ok (.ldc 63, 2) := by decide +kernel
theorem dX6_table_31 : decode cX6_table 31 = .ok (.ireturn, 1) := by decide +kernel
theorem dX6_table_32 : decode cX6_table 32 = .ok (.aload_n 0, 1) := by decide +kernel
theorem dX6_table_33 : decode cX6_table 33 = .ok (.getfield 43, 3) := by decide +kernel
theorem dX6_table_36 : decode cX6_table 36 = .ok (.aload_n 0, 1) := by decide +kernel
theorem dX6_table_37 : decode cX6_table 37 = .ok (.getfield 18, 3) := by decide +kernel
theorem dX6_table_40 : decode cX6_table 40 = .ok (.iload_n 1, 1) := by decide +kernel
theorem dX6_table_41 : decode cX6_table 41 = .ok (.invokevirtual 243, 3) := by decide +kernel
theorem dX6_table_44 : decode cX6_table 44 = .ok (.istore_n 3, 1) := by decide +kernel
theorem dX6_table_45 : decode cX6_table 45 = .ok (.iload_n 3, 1) := by decide +kernel
theorem dX6_table_46 : decode cX6_table 46 = .ok (.ifCond .lt 7, 3) := by decide +kernel
theorem dX6_table_49 : decode cX6_table 49 = .ok (.iload_n 2, 1) := by decide +kernel
theorem dX6_table_50 : decode cX6_table 50 = .ok (.ifCond .ne 7, 3) := by decide +kernel
theorem dX6_table_53 : decode cX6_table 53 = .ok (.iload_n 3, 1) := by decide +kernel
theorem dX6_table_54 : decode cX6_table 54 = .ok (.goto 10, 3) := by decide +kernel
theorem dX6_table_57 : decode cX6_table 57 = .ok (.aload_n 0, 1) := by decide +kernel
theorem dX6_table_58 : decode cX6_table 58 = .ok (.getfield 43, 3) := by decide +kernel
theorem dX6_table_61 : decode cX6_table 61 = .ok (.getfield 237, 3) := by decide +kernel
theorem dX6_table_64 : decode cX6_table 64 = .ok (.ireturn, 1) := by decide +kernel
theorem dX6_questions_0 : decode cX6_questions 0 = .ok (.aload_n 0, 1) := by decide +kernel
theorem dX6_questions_1 : decode cX6_questions 1 = .ok (.invokevirtual 144, 3) := by decide +kernel
theorem dX6_questions_4 : decode cX6_questions 4 = .ok (.ifCond .eq 6, 3) := by decide +kernel
theorem dX6_questions_7 : decode cX6_questions 7 = .ok (.ldc 143, 2) := by decide +kernel
theorem dX6_questions_9 : decode cX6_questions 9 = .ok (.ireturn, 1) := by decide +kernel
theorem dX6_questions_10 : decode cX6_questions 10 = .ok (.iload_n 1, 1) := by decide +kernel
theorem dX6_questions_11 : decode cX6_questions 11 = .ok (.iconst 0, 1) := by decide +kernel
theorem dX6_questions_12 : decode cX6_questions 12 = .ok (.iconst 1, 1) := by decide +kernel
theorem dX6_questions_13 : decode cX6_questions 13 = .ok (.invokestatic 59, 3) := by decide +kernel
theorem dX6_questions_16 : decode cX6_questions 16 = .ok (.ifCond .eq 6, 3) := by decide +kernel
theorem dX6_questions_19 : decode cX6_questions 19 = .ok (.ldc 63, 2) := by decide +kernel
theorem dX6_questions_21 : decode cX6_questions 21 = .ok (.ireturn, 1) := by decide +kernel
theorem dX6_questions_22 : decode cX6_questions 22 = .ok (.aload_n 0, 1) := by decide +kernel
theorem dX6_questions_23 : decode cX6_questions 23 = .ok (.getfield 18, 3) := by decide +kernel
theorem dX6_questions_26 : decode cX6_questions 26 = .ok (.invokevirtual 247, 3) := by decide +kernel
theorem dX6_questions_29 : decode cX6_questions 29 = .ok (.istore_n 2, 1) := by decide +kernel
theorem dX6_questions_30 : decode cX6_questions 30 = .ok (.iload_n 1, 1) := by decide +kernel
theorem dX6_questions_31 : decode cX6_questions 31 = .ok (.ifCond .ne 10, 3) := by decide +kernel
theorem dX6_questions_34 : decode cX6_questions 34 = .ok (.iload_n 2, 1) := by decide +kernel
theorem dX6_questions_35 : decode cX6_questions 35 = .ok (.invokestatic 225, 3) := by decide +kernel
theorem dX6_questions_38 : decode cX6_questions 38 = .ok (.goto 4, 3) := by decide +kernel
theorem dX6_questions_41 : decode cX6_questions 41 = .ok (.iload_n 2, 1) := by decide +kernel
theorem dX6_questions_42 : decode cX6_questions 42 = .ok (.ireturn, 1) := by decide +kernel
theorem dX6_top_0 : decode cX6_top 0 = .ok (.aload_n 0, 1) := by decide +kernel
theorem dX6_top_1 : decode cX6_top 1 = .ok (.invokevirtual 144, 3) := by decide +kernel
theorem dX6_top_4 : decode cX6_top 4 = .ok (.ifCond .eq 6, 3) := by decide +kernel
theorem dX6_top_7 : decode cX6_top 7 = .ok (.ldc 143, 2) := by decide +kernel
theorem dX6_top_9 : decode cX6_top 9 = .ok (.ireturn, 1) := by decide +kernel
theorem dX6_top_10 : decode cX6_top 10 = .ok (.iload_n 1, 1) := by decide +kernel
theorem dX6_top_11 : decode cX6_top 11 = .ok (.iconst 0, 1) := by decide +kernel
theorem dX6_top_12 : decode cX6_top 12 = .ok (.iconst 1, 1) := by decide +kernel
theorem dX6_top_13 : decode cX6_top 13 = .ok (.invokestatic 59, 3) := by decide +kernel
theorem dX6_top_16 : decode cX6_top 16 = .ok (.ifCond .eq 6, 3) := by decide +kernel
theorem dX6_top_19 : decode cX6_top 19 = .ok (.ldc 63, 2) := by decide +kernel
theorem dX6_top_21 : decode cX6_top 21 = .ok (.ireturn, 1) := by decide +kernel
theorem dX6_top_22 : decode cX6_top 22 = .ok (.aload_n 0, 1) := by decide +kernel
theorem dX6_top_23 : decode cX6_top 23 = .ok (.getfield 18, 3) := by decide +kernel
theorem dX6_top_26 : decode cX6_top 26 = .ok (.invokevirtual 250, 3) := by decide +kernel
theorem dX6_top_29 : decode cX6_top 29 = .ok (.istore_n 2, 1) := by decide +kernel
theorem dX6_top_30 : decode cX6_top 30 = .ok (.iload_n 1, 1) := by decide +kernel
theorem dX6_top_31 : decode cX6_top 31 = .ok (.ifCond .ne 7, 3) := by decide +kernel
theorem dX6_top_34 : decode cX6_top 34 = .ok (.iload_n 2, 1) := by decide +kernel
theorem dX6_top_35 : decode cX6_top 35 = .ok (.goto 11, 3) := by decide +kernel
theorem dX6_top_38 : decode cX6_top 38 = .ok (.aload_n 0, 1) := by decide +kernel
theorem dX6_top_39 : decode cX6_top 39 = .ok (.getfield 18, 3) := by decide +kernel
theorem dX6_top_42 : decode cX6_top 42 = .ok (.iload_n 2, 1) := by decide +kernel
theorem dX6_top_43 : decode cX6_top 43 = .ok (.invokevirtual 184, 3) := by decide +kernel
theorem dX6_top_46 : decode cX6_top 46 = .ok (.ireturn, 1) := by decide +kernel
theorem dX6_fellows_0 : decode cX6_fellows 0 = .ok (.aload_n 0, 1) := by decide +kernel
theorem dX6_fellows_1 : decode cX6_fellows 1 = .ok (.iload_n 1, 1) := by decide +kernel
theorem dX6_fellows_2 : decode cX6_fellows 2 = .ok (.invokevirtual 160, 3) := by decide +kernel
theorem dX6_fellows_5 : decode cX6_fellows 5 = .ok (.ifCond .eq 8, 3) := by decide +kernel
theorem dX6_fellows_8 : decode cX6_fellows 8 = .ok (.ldc 63, 2) := by decide +kernel
theorem dX6_fellows_10 : decode cX6_fellows 10 = .ok (.goto 11, 3) := by decide +kernel
theorem dX6_fellows_13 : decode cX6_fellows 13 = .ok (.aload_n 0, 1) := by decide +kernel
theorem dX6_fellows_14 : decode cX6_fellows 14 = .ok (.getfield 18, 3) := by decide +kernel
theorem dX6_fellows_17 : decode cX6_fellows 17 = .ok (.iload_n 1, 1) := by decide +kernel
theorem dX6_fellows_18 : decode cX6_fellows 18 = .ok (.invokevirtual 253, 3) := by decide +kernel
theorem dX6_fellows_21 : decode cX6_fellows 21 = .ok (.ireturn, 1) := by decide +kernel
theorem dX6_who_0 : decode cX6_who 0 = .ok (.aload_n 0, 1) := by decide +kernel
theorem dX6_who_1 : decode cX6_who 1 = .ok (.iload_n 1, 1) := by decide +kernel
theorem dX6_who_2 : decode cX6_who 2 = .ok (.invokevirtual 160, 3) := by decide +kernel
theorem dX6_who_5 : decode cX6_who 5 = .ok (.ifCond .ne 30, 3) := by decide +kernel
theorem dX6_who_8 : decode cX6_who 8 = .ok (.iload_n 2, 1) := by decide +kernel
theorem dX6_who_9 : decode cX6_who 9 = .ok (.iconst 0, 1) := by decide +kernel
theorem dX6_who_10 : decode cX6_who 10 = .ok (.iconst 1, 1) := by decide +kernel
theorem dX6_who_11 : decode cX6_who 11 = .ok (.invokestatic 59, 3) := by decide +kernel
theorem dX6_who_14 : decode cX6_who 14 = .ok (.ifCond .ne 21, 3) := by decide +kernel
theorem dX6_who_17 : decode cX6_who 17 = .ok (.iload_n 3, 1) := by decide +kernel
theorem dX6_who_18 : decode cX6_who 18 = .ok (.invokestatic 55, 3) := by decide +kernel
theorem dX6_who_21 : decode cX6_who 21 = .ok (.ifCond .ne 14, 3) := by decide +kernel
theorem dX6_who_24 : decode cX6_who 24 = .ok (.iload 5, 2) := by decide +kernel
theorem dX6_who_26 : decode cX6_who 26 = .ok (.iconst 1, 1) := by decide +kernel
theorem dX6_who_27 : decode cX6_who 27 = .ok (.bipush 12, 2) := by decide +kernel
theorem dX6_who_29 : decode cX6_who 29 = .ok (.invokestatic 59, 3) := by decide +kernel
theorem dX6_who_32 : decode cX6_who 32 = .ok (.ifCond .eq 6, 3) := by decide +kernel
theorem dX6_who_35 : decode cX6_who 35 = .ok (.ldc 63, 2) := by decide +kernel
theorem dX6_who_37 : decode cX6_who 37 = .ok (.ireturn, 1) := by decide +kernel
theorem dX6_who_38 : decode cX6_who 38 = .ok (.aload_n 0, 1) := by decide +kernel
theorem dX6_who_39 : decode cX6_who 39 = .ok (.iload_n 3, 1) := by decide +kernel
theorem dX6_who_40 : decode cX6_who 40 = .ok (.iload 4, 2) := by decide +kernel
theorem dX6_who_42 : decode cX6_who 42 = .ok (.iload 5, 2) := by decide +kernel
theorem dX6_who_44 : decode cX6_who 44 = .ok (.invokevirtual 75, 3) := by decide +kernel
theorem dX6_who_47 : decode cX6_who 47 = .ok (.istore 6, 2) := by decide +kernel
theorem dX6_who_49 : decode cX6_who 49 = .ok (.iload 6, 2) := by decide +kernel
theorem dX6_who_51 : decode cX6_who 51 = .ok (.ifCond .eq 10, 3) := by decide +kernel
theorem dX6_who_54 : decode cX6_who 54 = .ok (.aload_n 0, 1) := by decide +kernel
theorem dX6_who_55 : decode cX6_who 55 = .ok (.iload 6, 2) := by decide +kernel
theorem dX6_who_57 : decode cX6_who 57 = .ok (.invokevirtual 64, 3) := by decide +kernel
theorem dX6_who_60 : decode cX6_who 60 = .ok (.ireturn, 1) := by decide +kernel
theorem dX6_who_61 : decode cX6_who 61 = .ok (.aload_n 0, 1) := by decide +kernel
theorem dX6_who_62 : decode cX6_who 62 = .ok (.getfield 43, 3) := by decide +kernel
theorem dX6_who_65 : decode cX6_who 65 = .ok (.aload_n 0, 1) := by decide +kernel
theorem dX6_who_66 : decode cX6_who 66 = .ok (.getfield 11, 3) := by decide +kernel
theorem dX6_who_69 : decode cX6_who 69 = .ok (.iload_n 3, 1) := by decide +kernel
theorem dX6_who_70 : decode cX6_who 70 = .ok (.aaload, 1) := by decide +kernel
theorem dX6_who_71 : decode cX6_who 71 = .ok (.iload 4, 2) := by decide +kernel
theorem dX6_who_73 : decode cX6_who 73 = .ok (.iload 5, 2) := by decide +kernel
theorem dX6_who_75 : decode cX6_who 75 = .ok (.invokevirtual 256, 3) := by decide +kernel
theorem dX6_who_78 : decode cX6_who 78 = .ok (.aload_n 0, 1) := by decide +kernel
theorem dX6_who_79 : decode cX6_who 79 = .ok (.iload_n 2, 1) := by decide +kernel
theorem dX6_who_80 : decode cX6_who 80 = .ok (.ifCond .ne 18, 3) := by decide +kernel
theorem dX6_who_83 : decode cX6_who 83 = .ok (.aload_n 0, 1) := by decide +kernel
theorem dX6_who_84 : decode cX6_who 84 = .ok (.getfield 43, 3) := by decide +kernel
theorem dX6_who_87 : decode cX6_who 87 = .ok (.aload_n 0, 1) := by decide +kernel
theorem dX6_who_88 : decode cX6_who 88 = .ok (.getfield 18, 3) := by decide +kernel
theorem dX6_who_91 : decode cX6_who 91 = .ok (.iload_n 1, 1) := by decide +kernel
theorem dX6_who_92 : decode cX6_who 92 = .ok (.invokevirtual 260, 3) := by decide +kernel
theorem dX6_who_95 : decode cX6_who 95 = .ok (.goto 15, 3) := by decide +kernel
theorem dX6_who_98 : decode cX6_who 98 = .ok (.aload_n 0, 1) := by decide +kernel
theorem dX6_who_99 : decode cX6_who 99 = .ok (.getfield 43, 3) := by decide +kernel
theorem dX6_who_102 : decode cX6_who 102 = .ok (.aload_n 0, 1) := by decide +kernel
theorem dX6_who_103 : decode cX6_who 103 = .ok (.getfield 18, 3) := by decide +kernel
theorem dX6_who_106 : decode cX6_who 106 = .ok (.iload_n 1, 1) := by decide +kernel
theorem dX6_who_107 : decode cX6_who 107 = .ok (.invokevirtual 263, 3) := by decide +kernel
theorem dX6_who_110 : decode cX6_who 110 = .ok (.invokevirtual 72, 3) := by decide +kernel
theorem dX6_who_113 : decode cX6_who 113 = .ok (.ireturn, 1) := by decide +kernel
theorem dX6_what_0 : decode cX6_what 0 = .ok (.iload_n 1, 1) := by decide +kernel
theorem dX6_what_1 : decode cX6_what 1 = .ok (.iconst (-1), 1) := by decide +kernel
theorem dX6_what_2 : decode cX6_what 2 = .ok (.aload_n 0, 1) := by decide +kernel
theorem dX6_what_3 : decode cX6_what 3 = .ok (.getfield 18, 3) := by decide +kernel
theorem dX6_what_6 : decode cX6_what 6 = .ok (.getfield 266, 3) := by decide +kernel
theorem dX6_what_9 : decode cX6_what 9 = .ok (.iconst 1, 1) := by decide +kernel
theorem dX6_what_10 : decode cX6_what 10 = .ok (.isub, 1) := by decide +kernel
theorem dX6_what_11 : decode cX6_what 11 = .ok (.invokestatic 59, 3) := by decide +kernel
theorem dX6_what_14 : decode cX6_what 14 = .ok (.ifCond .ne 29, 3) := by decide +kernel
theorem dX6_what_17 : decode cX6_what 17 = .ok (.aload_n 0, 1) := by decide +kernel
theorem dX6_what_18 : decode cX6_what 18 = .ok (.iload_n 2, 1) := by decide +kernel
theorem dX6_what_19 : decode cX6_what 19 = .ok (.invokevirtual 160, 3) := by decide +kernel
theorem dX6_what_22 : decode cX6_what 22 = .ok (.ifCond .ne 21, 3) := by decide +kernel
theorem dX6_what_25 : decode cX6_what 25 = .ok (.iload_n 3, 1) := by decide +kernel
theorem dX6_what_26 : decode cX6_what 26 = .ok (.invokestatic 55, 3) := by decide +kernel
theorem dX6_what_29 : decode cX6_what 29 = .ok (.ifCond .ne 14, 3) := by decide +kernel
theorem dX6_what_32 : decode cX6_what 32 = .ok (.iload 5, 2) := by decide +kernel
theorem dX6_what_34 : decode cX6_what 34 = .ok (.iconst 1, 1) := by decide +kernel
theorem dX6_what_35 : decode cX6_what 35 = .ok (.bipush 12, 2) := by decide +kernel
theorem dX6_what_37 : decode cX6_what 37 = .ok (.invokestatic 59, 3) := by decide +kernel
theorem dX6_what_40 : decode cX6_what 40 = .ok (.ifCond .eq 6, 3) := by decide +kernel
theorem dX6_what_43 : decode cX6_what 43 = .ok (.ldc 63, 2) := by decide +kernel
theorem dX6_what_45 : decode cX6_what 45 = .ok (.ireturn, 1) := by decide +kernel
theorem dX6_what_46 : decode cX6_what 46 = .ok (.aload_n 0, 1) := by decide +kernel
theorem dX6_what_47 : decode cX6_what 47 = .ok (.iload_n 3, 1) := by decide +kernel
theorem dX6_what_48 : decode cX6_what 48 = .ok (.iload 4, 2) := by decide +kernel
theorem dX6_what_50 : decode cX6_what 50 = .ok (.iload 5, 2) := by decide +kernel
theorem dX6_what_52 : decode cX6_what 52 = .ok (.invokevirtual 75, 3) := by decide +kernel
theorem dX6_what_55 : decode cX6_what 55 = .ok (.istore 6, 2) := by decide +kernel
theorem dX6_what_57 : decode cX6_what 57 = .ok (.iload 6, 2) := by decide +kernel
theorem dX6_what_59 : decode cX6_what 59 = .ok (.ifCond .eq 10, 3) := by decide +kernel
theorem dX6_what_62 : decode cX6_what 62 = .ok (.aload_n 0, 1) := by decide +kernel
theorem dX6_what_63 : decode cX6_what 63 = .ok (.iload 6, 2) := by decide +kernel
theorem dX6_what_65 : decode cX6_what 65 = .ok (.invokevirtual 64, 3) := by decide +kernel
theorem dX6_what_68 : decode cX6_what 68 = .ok (.ireturn, 1) := by decide +kernel
theorem dX6_what_69 : decode cX6_what 69 = .ok (.aload_n 0, 1) := by decide +kernel
theorem dX6_what_70 : decode cX6_what 70 = .ok (.getfield 43, 3) := by decide +kernel
theorem dX6_what_73 : decode cX6_what 73 = .ok (.aload_n 0, 1) := by decide +kernel
theorem dX6_what_74 : decode cX6_what 74 = .ok (.getfield 11, 3) := by decide +kernel
theorem dX6_what_77 : decode cX6_what 77 = .ok (.iload_n 3, 1) := by decide +kernel
theorem dX6_what_78 : decode cX6_what 78 = .ok (.aaload, 1) := by decide +kernel
theorem dX6_what_79 : decode cX6_what 79 = .ok (.iload 4, 2) := by decide +kernel
theorem dX6_what_81 : decode cX6_what 81 = .ok (.iload 5, 2) := by decide +kernel
theorem dX6_what_83 : decode cX6_what 83 = .ok (.invokevirtual 256, 3) := by decide +kernel
theorem dX6_what_86 : decode cX6_what 86 = .ok (.aload_n 0, 1) := by decide +kernel
theorem dX6_what_87 : decode cX6_what 87 = .ok (.iload_n 1, 1) := by decide +kernel
theorem dX6_what_88 : decode cX6_what 88 = .ok (.ifCond .ge 18, 3) := by decide +kernel
theorem dX6_what_91 : decode cX6_what 91 = .ok (.aload_n 0, 1) := by decide +kernel
theorem dX6_what_92 : decode cX6_what 92 = .ok (.getfield 43, 3) := by decide +kernel
theorem dX6_what_95 : decode cX6_what 95 = .ok (.aload_n 0, 1) := by decide +kernel
theorem dX6_what_96 : decode cX6_what 96 = .ok (.getfield 18, 3) := by decide +kernel
theorem dX6_what_99 : decode cX6_what 99 = .ok (.iload_n 2, 1) := by decide +kernel
theorem dX6_what_100 : decode cX6_what 100 = .ok (.invokevirtual 269, 3) := by decide +kernel
theorem dX6_what_103 : decode cX6_what 103 = .ok (.goto 16, 3) := by decide +kernel
theorem dX6_what_106 : decode cX6_what 106 = .ok (.aload_n 0, 1) := by decide +kernel
theorem dX6_what_107 : decode cX6_what 107 = .ok (.getfield 43, 3) := by decide +kernel
theorem dX6_what_110 : decode cX6_what 110 = .ok (.aload_n 0, 1) := by decide +kernel
theorem dX6_what_111 : decode cX6_what 111 = .ok (.getfield 18, 3) := by decide +kernel
theorem dX6_what_114 : decode cX6_what 114 = .ok (.iload_n 2, 1) := by decide +kernel
theorem dX6_what_115 : decode cX6_what 115 = .ok (.iload_n 1, 1) := by decide +kernel
theorem dX6_what_116 : decode cX6_what 116 = .ok (.invokevirtual 272, 3) := by decide +kernel
theorem dX6_what_119 : decode cX6_what 119 = .ok (.invokevirtual 72, 3) := by decide +kernel
theorem dX6_what_122 : decode cX6_what 122 = .ok (.ireturn, 1) := by decide +kernel
theorem dX6_commonDivisor_0 : decode cX6_commonDivisor 0 = .ok (.iconst 0, 1) := by decide +kernel
theorem dX6_commonDivisor_1 : decode cX6_commonDivisor 1 = .ok (.istore 4, 2) := by decide +kernel
theorem dX6_commonDivisor_3 : decode cX6_commonDivisor 3 = .ok (.iload 4, 2) := by decide +kernel
theorem dX6_commonDivisor_5 : decode cX6_commonDivisor 5 = .ok (.bipush 60, 2) := by decide +kernel
theorem dX6_commonDivisor_7 : decode cX6_commonDivisor 7 = .ok (.if_icmp .ge 25, 3) := by decide +kernel
theorem dX6_commonDivisor_10 : decode cX6_commonDivisor 10 = .ok (.lload_n 2, 1) := by decide +kernel
theorem dX6_commonDivisor_11 : decode cX6_commonDivisor 11 = .ok (.lconst 0, 1) := by decide +kernel
theorem dX6_commonDivisor_12 : decode cX6_commonDivisor 12 = .ok (.lcmp, 1) := by decide +kernel
theorem dX6_commonDivisor_13 : decode cX6_commonDivisor 13 = .ok (.ifCond .eq 19, 3) := by decide +kernel
theorem dX6_commonDivisor_16 : decode cX6_commonDivisor 16 = .ok (.lload_n 0, 1) := by decide +kernel
theorem dX6_commonDivisor_17 : decode cX6_commonDivisor 17 = .ok (.lload_n 2, 1) := by decide +kernel
theorem dX6_commonDivisor_18 : decode cX6_commonDivisor 18 = .ok (.lrem, 1) := by decide +kernel
theorem dX6_commonDivisor_19 : decode cX6_commonDivisor 19 = .ok (.lstore 5, 2) := by decide +kernel
theorem dX6_commonDivisor_21 : decode cX6_commonDivisor 21 = .ok (.lload_n 2, 1) := by decide +kernel
theorem dX6_commonDivisor_22 : decode cX6_commonDivisor 22 = .ok (.lstore_n 0, 1) := by decide +kernel
theorem dX6_commonDivisor_23 : decode cX6_commonDivisor 23 = .ok (.lload 5, 2) := by decide +kernel
theorem dX6_commonDivisor_25 : decode cX6_commonDivisor 25 = .ok (.lstore_n 2, 1) := by decide +kernel
theorem dX6_commonDivisor_26 : decode cX6_commonDivisor 26 = .ok (.iinc 4 1, 3) := by decide +kernel
theorem dX6_commonDivisor_29 : decode cX6_commonDivisor 29 = .ok (.goto (-26), 3) := by decide +kernel
theorem dX6_commonDivisor_32 : decode cX6_commonDivisor 32 = .ok (.lload_n 0, 1) := by decide +kernel
theorem dX6_commonDivisor_33 : decode cX6_commonDivisor 33 = .ok (.lreturn, 1) := by decide +kernel
theorem dX6_thought_0 : decode cX6_thought 0 = .ok (.aload_n 0, 1) := by decide +kernel
theorem dX6_thought_1 : decode cX6_thought 1 = .ok (.iload_n 1, 1) := by decide +kernel
theorem dX6_thought_2 : decode cX6_thought 2 = .ok (.invokevirtual 160, 3) := by decide +kernel
theorem dX6_thought_5 : decode cX6_thought 5 = .ok (.ifCond .ne 42, 3) := by decide +kernel
theorem dX6_thought_8 : decode cX6_thought 8 = .ok (.aload_n 0, 1) := by decide +kernel
theorem dX6_thought_9 : decode cX6_thought 9 = .ok (.iload_n 2, 1) := by decide +kernel
theorem dX6_thought_10 : decode cX6_thought 10 = .ok (.invokevirtual 172, 3) := by decide +kernel
theorem dX6_thought_13 : decode cX6_thought 13 = .ok (.ifCond .ne 34, 3) := by decide +kernel
theorem dX6_thought_16 : decode cX6_thought 16 = .ok (.iload_n 3, 1) := by decide +kernel
theorem dX6_thought_17 : decode cX6_thought 17 = .ok (.iconst 0, 1) := by decide +kernel
theorem dX6_thought_18 : decode cX6_thought 18 = .ok (.bipush 8, 2) := by decide +kernel
theorem dX6_thought_20 : decode cX6_thought 20 = .ok (.invokestatic 59, 3) := by decide +kernel
theorem dX6_thought_23 : decode cX6_thought 23 = .ok (.ifCond .ne 24, 3) := by decide +kernel
theorem dX6_thought_26 : decode cX6_thought 26 = .ok (.iload 4, 2) := by decide +kernel
theorem dX6_thought_28 : decode cX6_thought 28 = .ok (.iconst 0, 1) := by decide +kernel
theorem dX6_thought_29 : decode cX6_thought 29 = .ok (.bipush 10, 2) := by decide +kernel
theorem dX6_thought_31 : decode cX6_thought 31 = .ok (.invokestatic 59, 3) := by decide +kernel
theorem dX6_thought_34 : decode cX6_thought 34 = .ok (.ifCond .ne 13, 3) := by decide +kernel
theorem dX6_thought_37 : decode cX6_thought 37 = .ok (.iload 5, 2) := by decide +kernel
theorem dX6_thought_39 : decode cX6_thought 39 = .ok (.iconst 0, 1) := by decide +kernel
theorem dX6_thought_40 : decode cX6_thought 40 = .ok (.iconst 1, 1) := by decide +kernel
theorem dX6_thought_41 : decode cX6_thought 41 = .ok (.invokestatic 59, 3) := by decide +kernel
theorem dX6_thought_44 : decode cX6_thought 44 = .ok (.ifCond .eq 7, 3) := by decide +kernel
theorem dX6_thought_47 : decode cX6_thought 47 = .ok (.ldc2_w 275, 3) := by decide +kernel
theorem dX6_thought_50 : decode cX6_thought 50 = .ok (.lreturn, 1) := by decide +kernel
theorem dX6_thought_51 : decode cX6_thought 51 = .ok (.aload_n 0, 1) := by decide +kernel
theorem dX6_thought_52 : decode cX6_thought 52 = .ok (.getfield 43, 3) := by decide +kernel
theorem dX6_thought_55 : decode cX6_thought 55 = .ok (.aload_n 0, 1) := by decide +kernel
theorem dX6_thought_56 : decode cX6_thought 56 = .ok (.getfield 18, 3) := by decide +kernel
theorem dX6_thought_59 : decode cX6_thought 59 = .ok (.iload_n 1, 1) := by decide +kernel
theorem dX6_thought_60 : decode cX6_thought 60 = .ok (.iload_n 2, 1) := by decide +kernel
theorem dX6_thought_61 : decode cX6_thought 61 = .ok (.iload_n 3, 1) := by decide +kernel
theorem dX6_thought_62 : decode cX6_thought 62 = .ok (.iload 4, 2) := by decide +kernel
theorem dX6_thought_64 : decode cX6_thought 64 = .ok (.invokevirtual 277, 3) := by decide +kernel
theorem dX6_thought_67 : decode cX6_thought 67 = .ok (.lstore 6, 2) := by decide +kernel
theorem dX6_thought_69 : decode cX6_thought 69 = .ok (.ldc2_w 281, 3) := by decide +kernel
theorem dX6_thought_72 : decode cX6_thought 72 = .ok (.iload_n 3, 1) := by decide +kernel
theorem dX6_thought_73 : decode cX6_thought 73 = .ok (.invokestatic 283, 3) := by decide +kernel
theorem dX6_thought_76 : decode cX6_thought 76 = .ok (.lstore 8, 2) := by decide +kernel
theorem dX6_thought_78 : decode cX6_thought 78 = .ok (.lload 6, 2) := by decide +kernel
theorem dX6_thought_80 : decode cX6_thought 80 = .ok (.lload 8, 2) := by decide +kernel
theorem dX6_thought_82 : decode cX6_thought 82 = .ok (.invokestatic 287, 3) := by decide +kernel
theorem dX6_thought_85 : decode cX6_thought 85 = .ok (.lstore 10, 2) := by decide +kernel
theorem dX6_thought_87 : decode cX6_thought 87 = .ok (.lload 10, 2) := by decide +kernel
theorem dX6_thought_89 : decode cX6_thought 89 = .ok (.lconst 1, 1) := by decide +kernel
theorem dX6_thought_90 : decode cX6_thought 90 = .ok (.lcmp, 1) := by decide +kernel
theorem dX6_thought_91 : decode cX6_thought 91 = .ok (.ifCond .ge 9, 3) := by decide +kernel
theorem dX6_thought_94 : decode cX6_thought 94 = .ok (.ldc2_w 275, 3) := by decide +kernel
theorem dX6_thought_97 : decode cX6_thought 97 = .ok (.goto 18, 3) := by decide +kernel
theorem dX6_thought_100 : decode cX6_thought 100 = .ok (.iload 5, 2) := by decide +kernel
theorem dX6_thought_102 : decode cX6_thought 102 = .ok (.ifCond .ne 8, 3) := by decide +kernel
theorem dX6_thought_105 : decode cX6_thought 105 = .ok (.lload 6, 2) := by decide +kernel
theorem dX6_thought_107 : decode cX6_thought 107 = .ok (.goto 5, 3) := by decide +kernel
theorem dX6_thought_110 : decode cX6_thought 110 = .ok (.lload 8, 2) := by decide +kernel
theorem dX6_thought_112 : decode cX6_thought 112 = .ok (.lload 10, 2) := by decide +kernel
theorem dX6_thought_114 : decode cX6_thought 114 = .ok (.ldiv, 1) := by decide +kernel
theorem dX6_thought_115 : decode cX6_thought 115 = .ok (.lreturn, 1) := by decide +kernel
theorem dX6_drawn_0 : decode cX6_drawn 0 = .ok (.aload_n 0, 1) := by decide +kernel
theorem dX6_drawn_1 : decode cX6_drawn 1 = .ok (.invokevirtual 144, 3) := by decide +kernel
theorem dX6_drawn_4 : decode cX6_drawn 4 = .ok (.ifCond .eq 6, 3) := by decide +kernel
theorem dX6_drawn_7 : decode cX6_drawn 7 = .ok (.ldc 143, 2) := by decide +kernel
theorem dX6_drawn_9 : decode cX6_drawn 9 = .ok (.ireturn, 1) := by decide +kernel
theorem dX6_drawn_10 : decode cX6_drawn 10 = .ok (.iload_n 1, 1) := by decide +kernel
theorem dX6_drawn_11 : decode cX6_drawn 11 = .ok (.iconst 0, 1) := by decide +kernel
theorem dX6_drawn_12 : decode cX6_drawn 12 = .ok (.bipush 60, 2) := by decide +kernel
theorem dX6_drawn_14 : decode cX6_drawn 14 = .ok (.invokestatic 59, 3) := by decide +kernel
theorem dX6_drawn_17 : decode cX6_drawn 17 = .ok (.ifCond .ne 23, 3) := by decide +kernel
theorem dX6_drawn_20 : decode cX6_drawn 20 = .ok (.iload_n 2, 1) := by decide +kernel
theorem dX6_drawn_21 : decode cX6_drawn 21 = .ok (.iconst 1, 1) := by decide +kernel
theorem dX6_drawn_22 : decode cX6_drawn 22 = .ok (.ldc_w 291, 3) := by decide +kernel
theorem dX6_drawn_25 : decode cX6_drawn 25 = .ok (.invokestatic 59, 3) := by decide +kernel
theorem dX6_drawn_28 : decode cX6_drawn 28 = .ok (.ifCond .ne 12, 3) := by decide +kernel
theorem dX6_drawn_31 : decode cX6_drawn 31 = .ok (.iload_n 3, 1) := by decide +kernel
theorem dX6_drawn_32 : decode cX6_drawn 32 = .ok (.iconst 0, 1) := by decide +kernel
theorem dX6_drawn_33 : decode cX6_drawn 33 = .ok (.iconst 1, 1) := by decide +kernel
theorem dX6_drawn_34 : decode cX6_drawn 34 = .ok (.invokestatic 59, 3) := by decide +kernel
theorem dX6_drawn_37 : decode cX6_drawn 37 = .ok (.ifCond .eq 6, 3) := by decide +kernel
theorem dX6_drawn_40 : decode cX6_drawn 40 = .ok (.ldc 63, 2) := by decide +kernel
theorem dX6_drawn_42 : decode cX6_drawn 42 = .ok (.ireturn, 1) := by decide +kernel
theorem dX6_drawn_43 : decode cX6_drawn 43 = .ok (.aload_n 0, 1) := by decide +kernel
theorem dX6_drawn_44 : decode cX6_drawn 44 = .ok (.getfield 43, 3) := by decide +kernel
theorem dX6_drawn_47 : decode cX6_drawn 47 = .ok (.aload_n 0, 1) := by decide +kernel
theorem dX6_drawn_48 : decode cX6_drawn 48 = .ok (.getfield 18, 3) := by decide +kernel
theorem dX6_drawn_51 : decode cX6_drawn 51 = .ok (.iload_n 1, 1) := by decide +kernel
theorem dX6_drawn_52 : decode cX6_drawn 52 = .ok (.iload_n 2, 1) := by decide +kernel
theorem dX6_drawn_53 : decode cX6_drawn 53 = .ok (.invokevirtual 292, 3) := by decide +kernel
theorem dX6_drawn_56 : decode cX6_drawn 56 = .ok (.astore 4, 2) := by decide +kernel
theorem dX6_drawn_58 : decode cX6_drawn 58 = .ok (.iload_n 3, 1) := by decide +kernel
theorem dX6_drawn_59 : decode cX6_drawn 59 = .ok (.ifCond .ne 11, 3) := by decide +kernel
theorem dX6_drawn_62 : decode cX6_drawn 62 = .ok (.aload 4, 2) := by decide +kernel
theorem dX6_drawn_64 : decode cX6_drawn 64 = .ok (.invokevirtual 156, 3) := by decide +kernel
theorem dX6_drawn_67 : decode cX6_drawn 67 = .ok (.goto 8, 3) := by decide +kernel
theorem dX6_drawn_70 : decode cX6_drawn 70 = .ok (.aload 4, 2) := by decide +kernel
theorem dX6_drawn_72 : decode cX6_drawn 72 = .ok (.invokevirtual 213, 3) := by decide +kernel
theorem dX6_drawn_75 : decode cX6_drawn 75 = .ok (.ireturn, 1) := by decide +kernel
theorem dX6_image_0 : decode cX6_image 0 = .ok (.iload_n 1, 1) := by decide +kernel
theorem dX6_image_1 : decode cX6_image 1 = .ok (.iconst 0, 1) := by decide +kernel
theorem dX6_image_2 : decode cX6_image 2 = .ok (.iconst 1, 1) := by decide +kernel
theorem dX6_image_3 : decode cX6_image 3 = .ok (.invokestatic 59, 3) := by decide +kernel
theorem dX6_image_6 : decode cX6_image 6 = .ok (.ifCond .eq 6, 3) := by decide +kernel
theorem dX6_image_9 : decode cX6_image 9 = .ok (.ldc 63, 2) := by decide +kernel
theorem dX6_image_11 : decode cX6_image 11 = .ok (.ireturn, 1) := by decide +kernel
theorem dX6_image_12 : decode cX6_image 12 = .ok (.aload_n 0, 1) := by decide +kernel
theorem dX6_image_13 : decode cX6_image 13 = .ok (.invokevirtual 144, 3) := by decide +kernel
theorem dX6_image_16 : decode cX6_image 16 = .ok (.ifCond .eq 6, 3) := by decide +kernel
theorem dX6_image_19 : decode cX6_image 19 = .ok (.ldc 143, 2) := by decide +kernel
theorem dX6_image_21 : decode cX6_image 21 = .ok (.ireturn, 1) := by decide +kernel
theorem dX6_image_22 : decode cX6_image 22 = .ok (.aload_n 0, 1) := by decide +kernel
theorem dX6_image_23 : decode cX6_image 23 = .ok (.getfield 22, 3) := by decide +kernel
theorem dX6_image_26 : decode cX6_image 26 = .ok (.iload_n 1, 1) := by decide +kernel
theorem dX6_image_27 : decode cX6_image 27 = .ok (.aaload, 1) := by decide +kernel
theorem dX6_image_28 : decode cX6_image 28 = .ok (.aload_n 0, 1) := by decide +kernel
theorem dX6_image_29 : decode cX6_image 29 = .ok (.getfield 18, 3) := by decide +kernel
theorem dX6_image_32 : decode cX6_image 32 = .ok (.invokevirtual 126, 3) := by decide +kernel
theorem dX6_image_35 : decode cX6_image 35 = .ok (.iconst 1, 1) := by decide +kernel
theorem dX6_image_36 : decode cX6_image 36 = .ok (.ireturn, 1) := by decide +kernel
theorem dX6_restore_0 : decode cX6_restore 0 = .ok (.iload_n 1, 1) := by decide +kernel
theorem dX6_restore_1 : decode cX6_restore 1 = .ok (.iconst 0, 1) := by decide +kernel
theorem dX6_restore_2 : decode cX6_restore 2 = .ok (.iconst 1, 1) := by decide +kernel
theorem dX6_restore_3 : decode cX6_restore 3 = .ok (.invokestatic 59, 3) := by decide +kernel
theorem dX6_restore_6 : decode cX6_restore 6 = .ok (.ifCond .eq 6, 3) := by decide +kernel
theorem dX6_restore_9 : decode cX6_restore 9 = .ok (.ldc 63, 2) := by decide +kernel
theorem dX6_restore_11 : decode cX6_restore 11 = .ok (.ireturn, 1) := by decide +kernel
theorem dX6_restore_12 : decode cX6_restore 12 = .ok (.aload_n 0, 1) := by decide +kernel
theorem dX6_restore_13 : decode cX6_restore 13 = .ok (.getfield 22, 3) := by decide +kernel
theorem dX6_restore_16 : decode cX6_restore 16 = .ok (.iload_n 1, 1) := by decide +kernel
theorem dX6_restore_17 : decode cX6_restore 17 = .ok (.aaload, 1) := by decide +kernel
theorem dX6_restore_18 : decode cX6_restore 18 = .ok (.getfield 133, 3) := by decide +kernel
theorem dX6_restore_21 : decode cX6_restore 21 = .ok (.ifCond .ne 6, 3) := by decide +kernel
theorem dX6_restore_24 : decode cX6_restore 24 = .ok (.ldc 143, 2) := by decide +kernel
theorem dX6_restore_26 : decode cX6_restore 26 = .ok (.ireturn, 1) := by decide +kernel
theorem dX6_restore_27 : decode cX6_restore 27 = .ok (.aload_n 0, 1) := by decide +kernel
theorem dX6_restore_28 : decode cX6_restore 28 = .ok (.getfield 18, 3) := by decide +kernel
theorem dX6_restore_31 : decode cX6_restore 31 = .ok (.aload_n 0, 1) := by decide +kernel
theorem dX6_restore_32 : decode cX6_restore 32 = .ok (.getfield 22, 3) := by decide +kernel
theorem dX6_restore_35 : decode cX6_restore 35 = .ok (.iload_n 1, 1) := by decide +kernel
theorem dX6_restore_36 : decode cX6_restore 36 = .ok (.aaload, 1) := by decide +kernel
theorem dX6_restore_37 : decode cX6_restore 37 = .ok (.invokevirtual 126, 3) := by decide +kernel
theorem dX6_restore_40 : decode cX6_restore 40 = .ok (.aload_n 0, 1) := by decide +kernel
theorem dX6_restore_41 : decode cX6_restore 41 = .ok (.getfield 29, 3) := by decide +kernel
theorem dX6_restore_44 : decode cX6_restore 44 = .ok (.iconst 0, 1) := by decide +kernel
theorem dX6_restore_45 : decode cX6_restore 45 = .ok (.putfield 130, 3) := by decide +kernel
theorem dX6_restore_48 : decode cX6_restore 48 = .ok (.iconst 1, 1) := by decide +kernel
theorem dX6_restore_49 : decode cX6_restore 49 = .ok (.ireturn, 1) := by decide +kernel
theorem dX6_kind_0 : decode cX6_kind 0 = .ok (.aload_n 0, 1) := by decide +kernel
theorem dX6_kind_1 : decode cX6_kind 1 = .ok (.iload_n 1, 1) := by decide +kernel
theorem dX6_kind_2 : decode cX6_kind 2 = .ok (.invokevirtual 160, 3) := by decide +kernel
theorem dX6_kind_5 : decode cX6_kind 5 = .ok (.ifCond .eq 8, 3) := by decide +kernel
theorem dX6_kind_8 : decode cX6_kind 8 = .ok (.ldc 63, 2) := by decide +kernel
theorem dX6_kind_10 : decode cX6_kind 10 = .ok (.goto 12, 3) := by decide +kernel
theorem dX6_kind_13 : decode cX6_kind 13 = .ok (.aload_n 0, 1) := by decide +kernel
theorem dX6_kind_14 : decode cX6_kind 14 = .ok (.getfield 18, 3) := by decide +kernel
theorem dX6_kind_17 : decode cX6_kind 17 = .ok (.getfield 296, 3) := by decide +kernel
theorem dX6_kind_20 : decode cX6_kind 20 = .ok (.iload_n 1, 1) := by decide +kernel
theorem dX6_kind_21 : decode cX6_kind 21 = .ok (.iaload, 1) := by decide +kernel
theorem dX6_kind_22 : decode cX6_kind 22 = .ok (.ireturn, 1) := by decide +kernel
theorem dX6_as_0 : decode cX6_as 0 = .ok (.aload_n 0, 1) := by decide +kernel
theorem dX6_as_1 : decode cX6_as 1 = .ok (.iload_n 1, 1) := by decide +kernel
theorem dX6_as_2 : decode cX6_as 2 = .ok (.invokevirtual 160, 3) := by decide +kernel
theorem dX6_as_5 : decode cX6_as 5 = .ok (.ifCond .ne 12, 3) := by decide +kernel
theorem dX6_as_8 : decode cX6_as 8 = .ok (.iload_n 2, 1) := by decide +kernel
theorem dX6_as_9 : decode cX6_as 9 = .ok (.iconst 0, 1) := by decide +kernel
theorem dX6_as_10 : decode cX6_as 10 = .ok (.iconst 5, 1) := by decide +kernel
theorem dX6_as_11 : decode cX6_as 11 = .ok (.invokestatic 59, 3) := by decide +kernel
theorem dX6_as_14 : decode cX6_as 14 = .ok (.ifCond .eq 6, 3) := by decide +kernel
theorem dX6_as_17 : decode cX6_as 17 = .ok (.ldc 63, 2) := by decide +kernel
theorem dX6_as_19 : decode cX6_as 19 = .ok (.ireturn, 1) := by decide +kernel
theorem dX6_as_20 : decode cX6_as 20 = .ok (.aload_n 0, 1) := by decide +kernel
theorem dX6_as_21 : decode cX6_as 21 = .ok (.getfield 18, 3) := by decide +kernel
theorem dX6_as_24 : decode cX6_as 24 = .ok (.getfield 296, 3) := by decide +kernel
theorem dX6_as_27 : decode cX6_as 27 = .ok (.iload_n 1, 1) := by decide +kernel
theorem dX6_as_28 : decode cX6_as 28 = .ok (.iaload, 1) := by decide +kernel
theorem dX6_as_29 : decode cX6_as 29 = .ok (.iload_n 2, 1) := by decide +kernel
theorem dX6_as_30 : decode cX6_as 30 = .ok (.invokestatic 299, 3) := by decide +kernel
theorem dX6_as_33 : decode cX6_as 33 = .ok (.ifCond .eq 11, 3) := by decide +kernel
theorem dX6_as_36 : decode cX6_as 36 = .ok (.aload_n 0, 1) := by decide +kernel
theorem dX6_as_37 : decode cX6_as 37 = .ok (.iload_n 1, 1) := by decide +kernel
theorem dX6_as_38 : decode cX6_as 38 = .ok (.invokevirtual 72, 3) := by decide +kernel
theorem dX6_as_41 : decode cX6_as 41 = .ok (.goto 8, 3) := by decide +kernel
theorem dX6_as_44 : decode cX6_as 44 = .ok (.aload_n 0, 1) := by decide +kernel
theorem dX6_as_45 : decode cX6_as 45 = .ok (.iconst 3, 1) := by decide +kernel
theorem dX6_as_46 : decode cX6_as 46 = .ok (.invokevirtual 64, 3) := by decide +kernel
theorem dX6_as_49 : decode cX6_as 49 = .ok (.ireturn, 1) := by decide +kernel
theorem dX6_ask_0 : decode cX6_ask 0 = .ok (.aload_n 0, 1) := by decide +kernel
theorem dX6_ask_1 : decode cX6_ask 1 = .ok (.iload_n 1, 1) := by decide +kernel
theorem dX6_ask_2 : decode cX6_ask 2 = .ok (.invokevirtual 160, 3) := by decide +kernel
theorem dX6_ask_5 : decode cX6_ask 5 = .ok (.ifCond .ne 12, 3) := by decide +kernel
theorem dX6_ask_8 : decode cX6_ask 8 = .ok (.iload_n 2, 1) := by decide +kernel
theorem dX6_ask_9 : decode cX6_ask 9 = .ok (.iconst 0, 1) := by decide +kernel
theorem dX6_ask_10 : decode cX6_ask 10 = .ok (.iconst 1, 1) := by decide +kernel
theorem dX6_ask_11 : decode cX6_ask 11 = .ok (.invokestatic 59, 3) := by decide +kernel
theorem dX6_ask_14 : decode cX6_ask 14 = .ok (.ifCond .eq 6, 3) := by decide +kernel
theorem dX6_ask_17 : decode cX6_ask 17 = .ok (.ldc 63, 2) := by decide +kernel
theorem dX6_ask_19 : decode cX6_ask 19 = .ok (.ireturn, 1) := by decide +kernel
theorem dX6_ask_20 : decode cX6_ask 20 = .ok (.aload_n 0, 1) := by decide +kernel
theorem dX6_ask_21 : decode cX6_ask 21 = .ok (.getfield 50, 3) := by decide +kernel
theorem dX6_ask_24 : decode cX6_ask 24 = .ok (.aload_n 0, 1) := by decide +kernel
theorem dX6_ask_25 : decode cX6_ask 25 = .ok (.getfield 18, 3) := by decide +kernel
theorem dX6_ask_28 : decode cX6_ask 28 = .ok (.iload_n 1, 1) := by decide +kernel
theorem dX6_ask_29 : decode cX6_ask 29 = .ok (.iload_n 2, 1) := by decide +kernel
theorem dX6_ask_30 : decode cX6_ask 30 = .ok (.invokevirtual 302, 3) := by decide +kernel
theorem dX6_ask_33 : decode cX6_ask 33 = .ok (.ireturn, 1) := by decide +kernel
theorem dX6_trace_0 : decode cX6_trace 0 = .ok (.iload_n 1, 1) := by decide +kernel
theorem dX6_trace_1 : decode cX6_trace 1 = .ok (.iconst 0, 1) := by decide +kernel
theorem dX6_trace_2 : decode cX6_trace 2 = .ok (.aload_n 0, 1) := by decide +kernel
theorem dX6_trace_3 : decode cX6_trace 3 = .ok (.getfield 50, 3) := by decide +kernel
theorem dX6_trace_6 : decode cX6_trace 6 = .ok (.getfield 305, 3) := by decide +kernel
theorem dX6_trace_9 : decode cX6_trace 9 = .ok (.iconst 1, 1) := by decide +kernel
theorem dX6_trace_10 : decode cX6_trace 10 = .ok (.isub, 1) := by decide +kernel
theorem dX6_trace_11 : decode cX6_trace 11 = .ok (.invokestatic 59, 3) := by decide +kernel
theorem dX6_trace_14 : decode cX6_trace 14 = .ok (.ifCond .eq 9, 3) := by decide +kernel
theorem dX6_trace_17 : decode cX6_trace 17 = .ok (.ldc_w 308, 3) := by decide +kernel
theorem dX6_trace_20 : decode cX6_trace 20 = .ok (.goto 12, 3) := by decide +kernel
theorem dX6_trace_23 : decode cX6_trace 23 = .ok (.aload_n 0, 1) := by decide +kernel
theorem dX6_trace_24 : decode cX6_trace 24 = .ok (.getfield 50, 3) := by decide +kernel
theorem dX6_trace_27 : decode cX6_trace 27 = .ok (.getfield 309, 3) := by decide +kernel
theorem dX6_trace_30 : decode cX6_trace 30 = .ok (.iload_n 1, 1) := by decide +kernel
theorem dX6_trace_31 : decode cX6_trace 31 = .ok (.iaload, 1) := by decide +kernel
theorem dX6_trace_32 : decode cX6_trace 32 = .ok (.ireturn, 1) := by decide +kernel
theorem dX6_rowsThere_0 : decode cX6_rowsThere 0 = .ok (.iconst 0, 1) := by decide +kernel
theorem dX6_rowsThere_1 : decode cX6_rowsThere 1 = .ok (.istore_n 1, 1) := by decide +kernel
theorem dX6_rowsThere_2 : decode cX6_rowsThere 2 = .ok (.iconst 0, 1) := by decide +kernel
theorem dX6_rowsThere_3 : decode cX6_rowsThere 3 = .ok (.istore_n 2, 1) := by decide +kernel
theorem dX6_rowsThere_4 : decode cX6_rowsThere 4 = .ok (.iload_n 2, 1) := by decide +kernel
theorem dX6_rowsThere_5 : decode cX6_rowsThere 5 = .ok (.bipush 8, 2) := by decide +kernel
theorem dX6_rowsThere_7 : decode cX6_rowsThere 7 = .ok (.if_icmp .ge 24, 3) := by decide +kernel
theorem dX6_rowsThere_10 : decode cX6_rowsThere 10 = .ok (.aload_n 0, 1) := by decide +kernel
theorem dX6_rowsThere_11 : decode cX6_rowsThere 11 = .ok (.getfield 11, 3) := by decide +kernel
theorem dX6_rowsThere_14 : decode cX6_rowsThere 14 = .ok (.iload_n 2, 1) := by decide +kernel
theorem dX6_rowsThere_15 : decode cX6_rowsThere 15 = .ok (.aaload, 1) := by decide +kernel
theorem dX6_rowsThere_16 : decode cX6_rowsThere 16 = .ok (.getfield 83, 3) := by decide +kernel
theorem dX6_rowsThere_19 : decode cX6_rowsThere 19 = .ok (.ifCond .eq 6, 3) := by decide +kernel
theorem dX6_rowsThere_22 : decode cX6_rowsThere 22 = .ok (.iinc 1 1, 3) := by decide +kernel
theorem dX6_rowsThere_25 : decode cX6_rowsThere 25 = .ok (.iinc 2 1, 3) := by decide +kernel
theorem dX6_rowsThere_28 : decode cX6_rowsThere 28 = .ok (.goto (-24), 3) := by decide +kernel
theorem dX6_rowsThere_31 : decode cX6_rowsThere 31 = .ok (.iload_n 1, 1) := by decide +kernel
theorem dX6_rowsThere_32 : decode cX6_rowsThere 32 = .ok (.ireturn, 1) := by decide +kernel
theorem dX6_count_0 : decode cX6_count 0 = .ok (.iload_n 1, 1) := by decide +kernel
theorem dX6_count_1 : decode cX6_count 1 = .ok (.tableswitch 108 0 7 #[47, 52, 60, 68, 76, 84, 92, 100], 47) := by decide +kernel
theorem dX6_count_48 : decode cX6_count 48 = .ok (.aload_n 0, 1) := by decide +kernel
theorem dX6_count_49 : decode cX6_count 49 = .ok (.invokevirtual 312, 3) := by decide +kernel
theorem dX6_count_52 : decode cX6_count 52 = .ok (.ireturn, 1) := by decide +kernel
theorem dX6_count_53 : decode cX6_count 53 = .ok (.aload_n 0, 1) := by decide +kernel
theorem dX6_count_54 : decode cX6_count 54 = .ok (.getfield 18, 3) := by decide +kernel
theorem dX6_count_57 : decode cX6_count 57 = .ok (.getfield 133, 3) := by decide +kernel
theorem dX6_count_60 : decode cX6_count 60 = .ok (.ireturn, 1) := by decide +kernel
theorem dX6_count_61 : decode cX6_count 61 = .ok (.aload_n 0, 1) := by decide +kernel
theorem dX6_count_62 : decode cX6_count 62 = .ok (.getfield 18, 3) := by decide +kernel
theorem dX6_count_65 : decode cX6_count 65 = .ok (.getfield 202, 3) := by decide +kernel
theorem dX6_count_68 : decode cX6_count 68 = .ok (.ireturn, 1) := by decide +kernel
theorem dX6_count_69 : decode cX6_count 69 = .ok (.aload_n 0, 1) := by decide +kernel
theorem dX6_count_70 : decode cX6_count 70 = .ok (.getfield 18, 3) := by decide +kernel
theorem dX6_count_73 : decode cX6_count 73 = .ok (.getfield 266, 3) := by decide +kernel
theorem dX6_count_76 : decode cX6_count 76 = .ok (.ireturn, 1) := by decide +kernel
theorem dX6_count_77 : decode cX6_count 77 = .ok (.aload_n 0, 1) := by decide +kernel
theorem dX6_count_78 : decode cX6_count 78 = .ok (.getfield 18, 3) := by decide +kernel
theorem dX6_count_81 : decode cX6_count 81 = .ok (.getfield 147, 3) := by decide +kernel
theorem dX6_count_84 : decode cX6_count 84 = .ok (.ireturn, 1) := by decide +kernel
theorem dX6_count_85 : decode cX6_count 85 = .ok (.aload_n 0, 1) := by decide +kernel
theorem dX6_count_86 : decode cX6_count 86 = .ok (.getfield 18, 3) := by decide +kernel
theorem dX6_count_89 : decode cX6_count 89 = .ok (.invokevirtual 156, 3) := by decide +kernel
theorem dX6_count_92 : decode cX6_count 92 = .ok (.ireturn, 1) := by decide +kernel
theorem dX6_count_93 : decode cX6_count 93 = .ok (.aload_n 0, 1) := by decide +kernel
theorem dX6_count_94 : decode cX6_count 94 = .ok (.getfield 29, 3) := by decide +kernel
theorem dX6_count_97 : decode cX6_count 97 = .ok (.getfield 130, 3) := by decide +kernel
theorem dX6_count_100 : decode cX6_count 100 = .ok (.ireturn, 1) := by decide +kernel
theorem dX6_count_101 : decode cX6_count 101 = .ok (.aload_n 0, 1) := by decide +kernel
theorem dX6_count_102 : decode cX6_count 102 = .ok (.getfield 36, 3) := by decide +kernel
theorem dX6_count_105 : decode cX6_count 105 = .ok (.getfield 111, 3) := by decide +kernel
theorem dX6_count_108 : decode cX6_count 108 = .ok (.ireturn, 1) := by decide +kernel
theorem dX6_count_109 : decode cX6_count 109 = .ok (.ldc 63, 2) := by decide +kernel
theorem dX6_count_111 : decode cX6_count 111 = .ok (.ireturn, 1) := by decide +kernel
theorem dX6_status_0 : decode cX6_status 0 = .ok (.aload_n 0, 1) := by decide +kernel
theorem dX6_status_1 : decode cX6_status 1 = .ok (.getfield 315, 3) := by decide +kernel
theorem dX6_status_4 : decode cX6_status 4 = .ok (.ireturn, 1) := by decide +kernel
theorem dX7_init_0 : decode cX7_init 0 = .ok (.aload_n 0, 1) := by decide +kernel
theorem dX7_init_1 : decode cX7_init 1 = .ok (.invokespecial 1, 3) := by decide +kernel
theorem dX7_init_4 : decode cX7_init 4 = .ok (.aload_n 0, 1) := by decide +kernel
theorem dX7_init_5 : decode cX7_init 5 = .ok (.bipush 8, 2) := by decide +kernel
theorem dX7_init_7 : decode cX7_init 7 = .ok (.newarray .int, 2) := by decide +kernel
theorem dX7_init_9 : decode cX7_init 9 = .ok (.dup, 1) := by decide +kernel
theorem dX7_init_10 : decode cX7_init 10 = .ok (.iconst 0, 1) := by decide +kernel
theorem dX7_init_11 : decode cX7_init 11 = .ok (.iconst (-1), 1) := by decide +kernel
theorem dX7_init_12 : decode cX7_init 12 = .ok (.iastore, 1) := by decide +kernel
theorem dX7_init_13 : decode cX7_init 13 = .ok (.dup, 1) := by decide +kernel
theorem dX7_init_14 : decode cX7_init 14 = .ok (.iconst 1, 1) := by decide +kernel
theorem dX7_init_15 : decode cX7_init 15 = .ok (.iconst (-1), 1) := by decide +kernel
theorem dX7_init_16 : decode cX7_init 16 = .ok (.iastore, 1) := by decide +kernel
theorem dX7_init_17 : decode cX7_init 17 = .ok (.dup, 1) := by decide +kernel
theorem dX7_init_18 : decode cX7_init 18 = .ok (.iconst 2, 1) := by decide +kernel
theorem dX7_init_19 : decode cX7_init 19 = .ok (.iconst (-1), 1) := by decide +kernel
theorem dX7_init_20 : decode cX7_init 20 = .ok (.iastore, 1) := by decide +kernel
theorem dX7_init_21 : decode cX7_init 21 = .ok (.dup, 1) := by decide +kernel
theorem dX7_init_22 : decode cX7_init 22 = .ok (.iconst 3, 1) := by decide +kernel
theorem dX7_init_23 : decode cX7_init 23 = .ok (.iconst (-1), 1) := by decide +kernel
theorem dX7_init_24 : decode cX7_init 24 = .ok (.iastore, 1) := by decide +kernel
theorem dX7_init_25 : decode cX7_init 25 = .ok (.dup, 1) := by decide +kernel
theorem dX7_init_26 : decode cX7_init 26 = .ok (.iconst 4, 1) := by decide +kernel
theorem dX7_init_27 : decode cX7_init 27 = .ok (.iconst (-1), 1) := by decide +kernel
theorem dX7_init_28 : decode cX7_init 28 = .ok (.iastore, 1) := by decide +kernel
theorem dX7_init_29 : decode cX7_init 29 = .ok (.dup, 1) := by decide +kernel
theorem dX7_init_30 : decode cX7_init 30 = .ok (.iconst 5, 1) := by decide +kernel
theorem dX7_init_31 : decode cX7_init 31 = .ok (.iconst (-1), 1) := by decide +kernel
theorem dX7_init_32 : decode cX7_init 32 = .ok (.iastore, 1) := by decide +kernel
theorem dX7_init_33 : decode cX7_init 33 = .ok (.dup, 1) := by decide +kernel
theorem dX7_init_34 : decode cX7_init 34 = .ok (.bipush 6, 2) := by decide +kernel
theorem dX7_init_36 : decode cX7_init 36 = .ok (.iconst (-1), 1) := by decide +kernel
theorem dX7_init_37 : decode cX7_init 37 = .ok (.iastore, 1) := by decide +kernel
theorem dX7_init_38 : decode cX7_init 38 = .ok (.dup, 1) := by decide +kernel
theorem dX7_init_39 : decode cX7_init 39 = .ok (.bipush 7, 2) := by decide +kernel
theorem dX7_init_41 : decode cX7_init 41 = .ok (.iconst (-1), 1) := by decide +kernel
theorem dX7_init_42 : decode cX7_init 42 = .ok (.iastore, 1) := by decide +kernel
theorem dX7_init_43 : decode cX7_init 43 = .ok (.putfield 7, 3) := by decide +kernel
theorem dX7_init_46 : decode cX7_init 46 = .ok (.aload_n 0, 1) := by decide +kernel
theorem dX7_init_47 : decode cX7_init 47 = .ok (.bipush 8, 2) := by decide +kernel
theorem dX7_init_49 : decode cX7_init 49 = .ok (.newarray .int, 2) := by decide +kernel
theorem dX7_init_51 : decode cX7_init 51 = .ok (.putfield 13, 3) := by decide +kernel
theorem dX7_init_54 : decode cX7_init 54 = .ok (.aload_n 0, 1) := by decide +kernel
theorem dX7_init_55 : decode cX7_init 55 = .ok (.sipush 320, 3) := by decide +kernel
theorem dX7_init_58 : decode cX7_init 58 = .ok (.newarray .int, 2) := by decide +kernel
theorem dX7_init_60 : decode cX7_init 60 = .ok (.putfield 16, 3) := by decide +kernel
theorem dX7_init_63 : decode cX7_init 63 = .ok (.aload_n 0, 1) := by decide +kernel
theorem dX7_init_64 : decode cX7_init 64 = .ok (.bipush 73, 2) := by decide +kernel
theorem dX7_init_66 : decode cX7_init 66 = .ok (.newarray .int, 2) := by decide +kernel
theorem dX7_init_68 : decode cX7_init 68 = .ok (.putfield 19, 3) := by decide +kernel
theorem dX7_init_71 : decode cX7_init 71 = .ok (.aload_n 0, 1) := by decide +kernel
theorem dX7_init_72 : decode cX7_init 72 = .ok (.bipush 73, 2) := by decide +kernel
theorem dX7_init_74 : decode cX7_init 74 = .ok (.newarray .int, 2) := by decide +kernel
theorem dX7_init_76 : decode cX7_init 76 = .ok (.putfield 22, 3) := by decide +kernel
theorem dX7_init_79 : decode cX7_init 79 = .ok (.aload_n 0, 1) := by decide +kernel
theorem dX7_init_80 : decode cX7_init 80 = .ok (.bipush 73, 2) := by decide +kernel
theorem dX7_init_82 : decode cX7_init 82 = .ok (.newarray .int, 2) := by decide +kernel
theorem dX7_init_84 : decode cX7_init 84 = .ok (.putfield 25, 3) := by decide +kernel
theorem dX7_init_87 : decode cX7_init 87 = .ok (.aload_n 0, 1) := by decide +kernel
theorem dX7_init_88 : decode cX7_init 88 = .ok (.sipush 1752, 3) := by decide +kernel
theorem dX7_init_91 : decode cX7_init 91 = .ok (.newarray .int, 2) := by decide +kernel
theorem dX7_init_93 : decode cX7_init 93 = .ok (.putfield 28, 3) := by decide +kernel
theorem dX7_init_96 : decode cX7_init 96 = .ok (.aload_n 0, 1) := by decide +kernel
theorem dX7_init_97 : decode cX7_init 97 = .ok (.bipush 120, 2) := by decide +kernel
theorem dX7_init_99 : decode cX7_init 99 = .ok (.newarray .int, 2) := by decide +kernel
theorem dX7_init_101 : decode cX7_init 101 = .ok (.putfield 31, 3) := by decide +kernel
theorem dX7_init_104 : decode cX7_init 104 = .ok (.aload_n 0, 1) := by decide +kernel
theorem dX7_init_105 : decode cX7_init 105 = .ok (.bipush 6, 2) := by decide +kernel
theorem dX7_init_107 : decode cX7_init 107 = .ok (.newarray .boolean, 2) := by decide +kernel
theorem dX7_init_109 : decode cX7_init 109 = .ok (.putfield 34, 3) := by decide +kernel
theorem dX7_init_112 : decode cX7_init 112 = .ok (.aload_n 0, 1) := by decide +kernel
theorem dX7_init_113 : decode cX7_init 113 = .ok (.bipush 6, 2) := by decide +kernel
theorem dX7_init_115 : decode cX7_init 115 = .ok (.newarray .int, 2) := by decide +kernel
theorem dX7_init_117 : decode cX7_init 117 = .ok (.putfield 38, 3) := by decide +kernel
theorem dX7_init_120 : decode cX7_init 120 = .ok (.aload_n 0, 1) := by decide +kernel
theorem dX7_init_121 : decode cX7_init 121 = .ok (.bipush 6, 2) := by decide +kernel
theorem dX7_init_123 : decode cX7_init 123 = .ok (.newarray .int, 2) := by decide +kernel
theorem dX7_init_125 : decode cX7_init 125 = .ok (.putfield 41, 3) := by decide +kernel
theorem dX7_init_128 : decode cX7_init 128 = .ok (.aload_n 0, 1) := by decide +kernel
theorem dX7_init_129 : decode cX7_init 129 = .ok (.iconst 2, 1) := by decide +kernel
theorem dX7_init_130 : decode cX7_init 130 = .ok (.newarray .boolean, 2) := by decide +kernel
theorem dX7_init_132 : decode cX7_init 132 = .ok (.putfield 44, 3) := by decide +kernel
theorem dX7_init_135 : decode cX7_init 135 = .ok (.aload_n 0, 1) := by decide +kernel
theorem dX7_init_136 : decode cX7_init 136 = .ok (.sipush 146, 3) := by decide +kernel
theorem dX7_init_139 : decode cX7_init 139 = .ok (.newarray .int, 2) := by decide +kernel
theorem dX7_init_141 : decode cX7_init 141 = .ok (.putfield 47, 3) := by decide +kernel
theorem dX7_init_144 : decode cX7_init 144 = .ok (.aload_n 0, 1) := by decide +kernel
theorem dX7_init_145 : decode cX7_init 145 = .ok (.bipush 16, 2) := by decide +kernel
theorem dX7_init_147 : decode cX7_init 147 = .ok (.newarray .int, 2) := by decide +kernel
theorem dX7_init_149 : decode cX7_init 149 = .ok (.putfield 50, 3) := by decide +kernel
theorem dX7_init_152 : decode cX7_init 152 = .ok (.return_, 1) := by decide +kernel
theorem dX7_in_0 : decode cX7_in 0 = .ok (.lload_n 0, 1) := by decide +kernel
theorem dX7_in_1 : decode cX7_in 1 = .ok (.lload_n 2, 1) := by decide +kernel
theorem dX7_in_2 : decode cX7_in 2 = .ok (.lcmp, 1) := by decide +kernel
theorem dX7_in_3 : decode cX7_in 3 = .ok (.ifCond .lt 14, 3) := by decide +kernel
theorem dX7_in_6 : decode cX7_in 6 = .ok (.lload_n 0, 1) := by decide +kernel
theorem dX7_in_7 : decode cX7_in 7 = .ok (.lload 4, 2) := by decide +kernel
theorem dX7_in_9 : decode cX7_in 9 = .ok (.lcmp, 1) := by decide +kernel
theorem dX7_in_10 : decode cX7_in 10 = .ok (.ifCond .gt 7, 3) := by decide +kernel
theorem dX7_in_13 : decode cX7_in 13 = .ok (.iconst 1, 1) := by decide +kernel
theorem dX7_in_14 : decode cX7_in 14 = .ok (.goto 4, 3) := by decide +kernel
theorem dX7_in_17 : decode cX7_in 17 = .ok (.iconst 0, 1) := by decide +kernel
theorem dX7_in_18 : decode cX7_in 18 = .ok (.ireturn, 1) := by decide +kernel
theorem dX7_finding_0 : decode cX7_finding 0 = .ok (.aload_n 0, 1) := by decide +kernel
theorem dX7_finding_1 : decode cX7_finding 1 = .ok (.iload_n 1, 1) := by decide +kernel
theorem dX7_finding_2 : decode cX7_finding 2 = .ok (.putfield 57, 3) := by decide +kernel
theorem dX7_finding_5 : decode cX7_finding 5 = .ok (.ldc 60, 2) := by decide +kernel
theorem dX7_finding_7 : decode cX7_finding 7 = .ok (.iload_n 1, 1) := by decide +kernel
theorem dX7_finding_8 : decode cX7_finding 8 = .ok (.isub, 1) := by decide +kernel
theorem dX7_finding_9 : decode cX7_finding 9 = .ok (.ireturn, 1) := by decide +kernel
theorem dX7_isRow_0 : decode cX7_isRow 0 = .ok (.iload_n 0, 1) := by decide +kernel
theorem dX7_isRow_1 : decode cX7_isRow 1 = .ok (.i2l, 1) := by decide +kernel
theorem dX7_isRow_2 : decode cX7_isRow 2 = .ok (.lconst 0, 1) := by decide +kernel
theorem dX7_isRow_3 : decode cX7_isRow 3 = .ok (.ldc2_w 61, 3) := by decide +kernel
theorem dX7_isRow_6 : decode cX7_isRow 6 = .ok (.invokestatic 63, 3) := by decide +kernel
theorem dX7_isRow_9 : decode cX7_isRow 9 = .ok (.ireturn, 1) := by decide +kernel
theorem dX7_row_0 : decode cX7_row 0 = .ok (.aload_n 0, 1) := by decide +kernel
theorem dX7_row_1 : decode cX7_row 1 = .ok (.iconst 0, 1) := by decide +kernel
theorem dX7_row_2 : decode cX7_row 2 = .ok (.putfield 53, 3) := by decide +kernel
theorem dX7_row_5 : decode cX7_row 5 = .ok (.iload_n 1, 1) := by decide +kernel
theorem dX7_row_6 : decode cX7_row 6 = .ok (.invokestatic 67, 3) := by decide +kernel
theorem dX7_row_9 : decode cX7_row 9 = .ok (.ifCond .eq 21, 3) := by decide +kernel
theorem dX7_row_12 : decode cX7_row 12 = .ok (.iload_n 2, 1) := by decide +kernel
theorem dX7_row_13 : decode cX7_row 13 = .ok (.i2l, 1) := by decide +kernel
theorem dX7_row_14 : decode cX7_row 14 = .ok (.lconst 0, 1) := by decide +kernel
theorem dX7_row_15 : decode cX7_row 15 = .ok (.ldc2_w 71, 3) := by decide +kernel
theorem dX7_row_18 : decode cX7_row 18 = .ok (.invokestatic 63, 3) := by decide +kernel
theorem dX7_row_21 : decode cX7_row 21 = .ok (.ifCond .eq 9, 3) := by decide +kernel
theorem dX7_row_24 : decode cX7_row 24 = .ok (.iload_n 3, 1) := by decide +kernel
theorem dX7_row_25 : decode cX7_row 25 = .ok (.bipush 40, 2) := by decide +kernel
theorem dX7_row_27 : decode cX7_row 27 = .ok (.if_icmp .le 6, 3) := by decide +kernel
theorem dX7_row_30 : decode cX7_row 30 = .ok (.ldc 73, 2) := by decide +kernel
theorem dX7_row_32 : decode cX7_row 32 = .ok (.ireturn, 1) := by decide +kernel
theorem dX7_row_33 : decode cX7_row 33 = .ok (.aload_n 0, 1) := by decide +kernel
theorem dX7_row_34 : decode cX7_row 34 = .ok (.iconst 0, 1) := by decide +kernel
theorem dX7_row_35 : decode cX7_row 35 = .ok (.putfield 57, 3) := by decide +kernel
theorem dX7_row_38 : decode cX7_row 38 = .ok (.iload_n 3, 1) := by decide +kernel
theorem dX7_row_39 : decode cX7_row 39 = .ok (.ifCond .ge 9, 3) := by decide +kernel
theorem dX7_row_42 : decode cX7_row 42 = .ok (.aload_n 0, 1) := by decide +kernel
theorem dX7_row_43 : decode cX7_row 43 = .ok (.iconst 4, 1) := by decide +kernel
theorem dX7_row_44 : decode cX7_row 44 = .ok (.invokevirtual 74, 3) := by decide +kernel
theorem dX7_row_47 : decode cX7_row 47 = .ok (.ireturn, 1) := by decide +kernel
theorem dX7_row_48 : decode cX7_row 48 = .ok (.aload_n 0, 1) := by decide +kernel
theorem dX7_row_49 : decode cX7_row 49 = .ok (.getfield 7, 3) := by decide +kernel
theorem dX7_row_52 : decode cX7_row 52 = .ok (.iload_n 1, 1) := by decide +kernel
theorem dX7_row_53 : decode cX7_row 53 = .ok (.iload_n 2, 1) := by decide +kernel
theorem dX7_row_54 : decode cX7_row 54 = .ok (.iastore, 1) := by decide +kernel
theorem dX7_row_55 : decode cX7_row 55 = .ok (.aload_n 0, 1) := by decide +kernel
theorem dX7_row_56 : decode cX7_row 56 = .ok (.getfield 13, 3) := by decide +kernel
theorem dX7_row_59 : decode cX7_row 59 = .ok (.iload_n 1, 1) := by decide +kernel
theorem dX7_row_60 : decode cX7_row 60 = .ok (.iload_n 3, 1) := by decide +kernel
theorem dX7_row_61 : decode cX7_row 61 = .ok (.iastore, 1) := by decide +kernel
theorem dX7_row_62 : decode cX7_row 62 = .ok (.iconst 0, 1) := by decide +kernel
theorem dX7_row_63 : decode cX7_row 63 = .ok (.istore 4, 2) := by decide +kernel
theorem dX7_row_65 : decode cX7_row 65 = .ok (.iload 4, 2) := by decide +kernel
theorem dX7_row_67 : decode cX7_row 67 = .ok (.bipush 40, 2) := by decide +kernel
theorem dX7_row_69 : decode cX7_row 69 = .ok (.if_icmp .ge 22, 3) := by decide +kernel
theorem dX7_row_72 : decode cX7_row 72 = .ok (.aload_n 0, 1) := by decide +kernel
theorem dX7_row_73 : decode cX7_row 73 = .ok (.getfield 16, 3) := by decide +kernel
theorem dX7_row_76 : decode cX7_row 76 = .ok (.bipush 40, 2) := by decide +kernel
theorem dX7_row_78 : decode cX7_row 78 = .ok (.iload_n 1, 1) := by decide +kernel
theorem dX7_row_79 : decode cX7_row 79 = .ok (.imul, 1) := by decide +kernel
theorem dX7_row_80 : decode cX7_row 80 = .ok (.iload 4, 2) := by decide +kernel
theorem dX7_row_82 : decode cX7_row 82 = .ok (.iadd, 1) := by decide +kernel
theorem dX7_row_83 : decode cX7_row 83 = .ok (.iconst 0, 1) := by decide +kernel
theorem dX7_row_84 : decode cX7_row 84 = .ok (.iastore, 1) := by decide +kernel
theorem dX7_row_85 : decode cX7_row 85 = .ok (.iinc 4 1, 3) := by decide +kernel
theorem dX7_row_88 : decode cX7_row 88 = .ok (.goto (-23), 3) := by decide +kernel
theorem dX7_row_91 : decode cX7_row 91 = .ok (.iload_n 3, 1) := by decide +kernel
theorem dX7_row_92 : decode cX7_row 92 = .ok (.ireturn, 1) := by decide +kernel
theorem dX7_set_0 : decode cX7_set 0 = .ok (.aload_n 0, 1) := by decide +kernel
theorem dX7_set_1 : decode cX7_set 1 = .ok (.iconst 0, 1) := by decide +kernel
theorem dX7_set_2 : decode cX7_set 2 = .ok (.putfield 53, 3) := by decide +kernel
theorem dX7_set_5 : decode cX7_set 5 = .ok (.iload_n 1, 1) := by decide +kernel
theorem dX7_set_6 : decode cX7_set 6 = .ok (.invokestatic 67, 3) := by decide +kernel
theorem dX7_set_9 : decode cX7_set 9 = .ok (.ifCond .ne 6, 3) := by decide +kernel
theorem dX7_set_12 : decode cX7_set 12 = .ok (.ldc 73, 2) := by decide +kernel
theorem dX7_set_14 : decode cX7_set 14 = .ok (.ireturn, 1) := by decide +kernel
theorem dX7_set_15 : decode cX7_set 15 = .ok (.aload_n 0, 1) := by decide +kernel
theorem dX7_set_16 : decode cX7_set 16 = .ok (.iconst 0, 1) := by decide +kernel
theorem dX7_set_17 : decode cX7_set 17 = .ok (.putfield 57, 3) := by decide +kernel
theorem dX7_set_20 : decode cX7_set 20 = .ok (.aload_n 0, 1) := by decide +kernel
theorem dX7_set_21 : decode cX7_set 21 = .ok (.getfield 7, 3) := by decide +kernel
theorem dX7_set_24 : decode cX7_set 24 = .ok (.iload_n 1, 1) := by decide +kernel
theorem dX7_set_25 : decode cX7_set 25 = .ok (.iaload, 1) := by decide +kernel
theorem dX7_set_26 : decode cX7_set 26 = .ok (.ifCond .ge 9, 3) := by decide +kernel
theorem dX7_set_29 : decode cX7_set 29 = .ok (.aload_n 0, 1) := by decide +kernel
theorem dX7_set_30 : decode cX7_set 30 = .ok (.iconst 1, 1) := by decide +kernel
theorem dX7_set_31 : decode cX7_set 31 = .ok (.invokevirtual 74, 3) := by decide +kernel
theorem dX7_set_34 : decode cX7_set 34 = .ok (.ireturn, 1) := by decide +kernel
theorem dX7_set_35 : decode cX7_set 35 = .ok (.iload_n 2, 1) := by decide +kernel
theorem dX7_set_36 : decode cX7_set 36 = .ok (.i2l, 1) := by decide +kernel
theorem dX7_set_37 : decode cX7_set 37 = .ok (.lconst 0, 1) := by decide +kernel
theorem dX7_set_38 : decode cX7_set 38 = .ok (.aload_n 0, 1) := by decide +kernel
theorem dX7_set_39 : decode cX7_set 39 = .ok (.getfield 13, 3) := by decide +kernel
theorem dX7_set_42 : decode cX7_set 42 = .ok (.iload_n 1, 1) := by decide +kernel
theorem dX7_set_43 : decode cX7_set 43 = .ok (.iaload, 1) := by decide +kernel
theorem dX7_set_44 : decode cX7_set 44 = .ok (.iconst 1, 1) := by decide +kernel
theorem dX7_set_45 : decode cX7_set 45 = .ok (.isub, 1) := by decide +kernel
theorem dX7_set_46 : decode cX7_set 46 = .ok (.i2l, 1) := by decide +kernel
theorem dX7_set_47 : decode cX7_set 47 = .ok (.invokestatic 63, 3) := by decide +kernel
theorem dX7_set_50 : decode cX7_set 50 = .ok (.ifCond .ne 9, 3) := by decide +kernel
theorem dX7_set_53 : decode cX7_set 53 = .ok (.aload_n 0, 1) := by decide +kernel
theorem dX7_set_54 : decode cX7_set 54 = .ok (.iconst 2, 1) := by decide +kernel
theorem dX7_set_55 : decode cX7_set 55 = .ok (.invokevirtual 74, 3) := by decide +kernel
theorem dX7_set_58 : decode cX7_set 58 = .ok (.ireturn, 1) := by decide +kernel
theorem dX7_set_59 : decode cX7_set 59 = .ok (.aload_n 0, 1) := by decide +kernel
theorem dX7_set_60 : decode cX7_set 60 = .ok (.getfield 16, 3) := by decide +kernel
theorem dX7_set_63 : decode cX7_set 63 = .ok (.bipush 40, 2) := by decide +kernel
theorem dX7_set_65 : decode cX7_set 65 = .ok (.iload_n 1, 1) := by decide +kernel
theorem dX7_set_66 : decode cX7_set 66 = .ok (.imul, 1) := by decide +kernel
theorem dX7_set_67 : decode cX7_set 67 = .ok (.iload_n 2, 1) := by decide +kernel
theorem dX7_set_68 : decode cX7_set 68 = .ok (.iadd, 1) := by decide +kernel
theorem dX7_set_69 : decode cX7_set 69 = .ok (.aload_n 0, 1) := by decide +kernel
theorem dX7_set_70 : decode cX7_set 70 = .ok (.getfield 7, 3) := by decide +kernel
theorem dX7_set_73 : decode cX7_set 73 = .ok (.iload_n 1, 1) := by decide +kernel
theorem dX7_set_74 : decode cX7_set 74 = .ok (.iaload, 1) := by decide +kernel
theorem dX7_set_75 : decode cX7_set 75 = .ok (.ifCond .ne 8, 3) := by decide +kernel
theorem dX7_set_78 : decode cX7_set 78 = .ok (.iload_n 3, 1) := by decide +kernel
theorem dX7_set_79 : decode cX7_set 79 = .ok (.i2b, 1) := by decide +kernel
theorem dX7_set_80 : decode cX7_set 80 = .ok (.goto 19, 3) := by decide +kernel
theorem dX7_set_83 : decode cX7_set 83 = .ok (.aload_n 0, 1) := by decide +kernel
theorem dX7_set_84 : decode cX7_set 84 = .ok (.getfield 7, 3) := by decide +kernel
theorem dX7_set_87 : decode cX7_set 87 = .ok (.iload_n 1, 1) := by decide +kernel
theorem dX7_set_88 : decode cX7_set 88 = .ok (.iaload, 1) := by decide +kernel
theorem dX7_set_89 : decode cX7_set 89 = .ok (.iconst 1, 1) := by decide +kernel
theorem dX7_set_90 : decode cX7_set 90 = .ok (.if_icmp .ne 8, 3) := by decide +kernel
theorem dX7_set_93 : decode cX7_set 93 = .ok (.iload_n 3, 1) := by decide +kernel
theorem dX7_set_94 : decode cX7_set 94 = .ok (.i2s, 1) := by decide +kernel
theorem dX7_set_95 : decode cX7_set 95 = .ok (.goto 4, 3) := by decide +kernel
theorem dX7_set_98 : decode cX7_set 98 = .ok (.iload_n 3, 1) := by decide +kernel
theorem dX7_set_99 : decode cX7_set 99 = .ok (.iastore, 1) := by decide +kernel
theorem dX7_set_100 : decode cX7_set 100 = .ok (.aload_n 0, 1) := by decide +kernel
theorem dX7_set_101 : decode cX7_set 101 = .ok (.getfield 16, 3) := by decide +kernel
theorem dX7_set_104 : decode cX7_set 104 = .ok (.bipush 40, 2) := by decide +kernel
theorem dX7_set_106 : decode cX7_set 106 = .ok (.iload_n 1, 1) := by decide +kernel
theorem dX7_set_107 : decode cX7_set 107 = .ok (.imul, 1) := by decide +kernel
theorem dX7_set_108 : decode cX7_set 108 = .ok (.iload_n 2, 1) := by decide +kernel
theorem dX7_set_109 : decode cX7_set 109 = .ok (.iadd, 1) := by decide +kernel
theorem dX7_set_110 : decode cX7_set 110 = .ok (.iaload, 1) := by decide +kernel
theorem dX7_set_111 : decode cX7_set 111 = .ok (.ireturn, 1) := by decide +kernel
theorem dX7_copy_0 : decode cX7_copy 0 = .ok (.aload_n 0, 1) := by decide +kernel
theorem dX7_copy_1 : decode cX7_copy 1 = .ok (.iconst 0, 1) := by decide +kernel
theorem dX7_copy_2 : decode cX7_copy 2 = .ok (.putfield 53, 3) := by decide +kernel
theorem dX7_copy_5 : decode cX7_copy 5 = .ok (.iload_n 1, 1) := by decide +kernel
theorem dX7_copy_6 : decode cX7_copy 6 = .ok (.invokestatic 67, 3) := by decide +kernel
theorem dX7_copy_9 : decode cX7_copy 9 = .ok (.ifCond .eq 10, 3) := by decide +kernel
theorem dX7_copy_12 : decode cX7_copy 12 = .ok (.iload_n 3, 1) := by decide +kernel
theorem dX7_copy_13 : decode cX7_copy 13 = .ok (.invokestatic 67, 3) := by decide +kernel
theorem dX7_copy_16 : decode cX7_copy 16 = .ok (.ifCond .ne 6, 3) := by decide +kernel
theorem dX7_copy_19 : decode cX7_copy 19 = .ok (.ldc 73, 2) := by decide +kernel
theorem dX7_copy_21 : decode cX7_copy 21 = .ok (.ireturn, 1) := by decide +kernel
theorem dX7_copy_22 : decode cX7_copy 22 = .ok (.aload_n 0, 1) := by decide +kernel
theorem dX7_copy_23 : decode cX7_copy 23 = .ok (.iconst 0, 1) := by decide +kernel
theorem dX7_copy_24 : decode cX7_copy 24 = .ok (.putfield 57, 3) := by decide +kernel
theorem dX7_copy_27 : decode cX7_copy 27 = .ok (.aload_n 0, 1) := by decide +kernel
theorem dX7_copy_28 : decode cX7_copy 28 = .ok (.getfield 7, 3) := by decide +kernel
theorem dX7_copy_31 : decode cX7_copy 31 = .ok (.iload_n 1, 1) := by decide +kernel
theorem dX7_copy_32 : decode cX7_copy 32 = .ok (.iaload, 1) := by decide +kernel
theorem dX7_copy_33 : decode cX7_copy 33 = .ok (.ifCond .lt 12, 3) := by decide +kernel
theorem dX7_copy_36 : decode cX7_copy 36 = .ok (.aload_n 0, 1) := by decide +kernel
theorem dX7_copy_37 : decode cX7_copy 37 = .ok (.getfield 7, 3) := by decide +kernel
theorem dX7_copy_40 : decode cX7_copy 40 = .ok (.iload_n 3, 1) := by decide +kernel
theorem dX7_copy_41 : decode cX7_copy 41 = .ok (.iaload, 1) := by decide +kernel
theorem dX7_copy_42 : decode cX7_copy 42 = .ok (.ifCond .ge 9, 3) := by decide +kernel
theorem dX7_copy_45 : decode cX7_copy 45 = .ok (.aload_n 0, 1) := by decide +kernel
theorem dX7_copy_46 : decode cX7_copy 46 = .ok (.iconst 1, 1) := by decide +kernel
theorem dX7_copy_47 : decode cX7_copy 47 = .ok (.invokevirtual 74, 3) := by decide +kernel
theorem dX7_copy_50 : decode cX7_copy 50 = .ok (.ireturn, 1) := by decide +kernel
theorem dX7_copy_51 : decode cX7_copy 51 = .ok (.aload_n 0, 1) := by decide +kernel
theorem dX7_copy_52 : decode cX7_copy 52 = .ok (.getfield 7, 3) := by decide +kernel
theorem dX7_copy_55 : decode cX7_copy 55 = .ok (.iload_n 1, 1) := by decide +kernel
theorem dX7_copy_56 : decode cX7_copy 56 = .ok (.iaload, 1) := by decide +kernel
theorem dX7_copy_57 : decode cX7_copy 57 = .ok (.aload_n 0, 1) := by decide +kernel
theorem dX7_copy_58 : decode cX7_copy 58 = .ok (.getfield 7, 3) := by decide +kernel
theorem dX7_copy_61 : decode cX7_copy 61 = .ok (.iload_n 3, 1) := by decide +kernel
theorem dX7_copy_62 : decode cX7_copy 62 = .ok (.iaload, 1) := by decide +kernel
theorem dX7_copy_63 : decode cX7_copy 63 = .ok (.if_icmp .eq 9, 3) := by decide +kernel
theorem dX7_copy_66 : decode cX7_copy 66 = .ok (.aload_n 0, 1) := by decide +kernel
theorem dX7_copy_67 : decode cX7_copy 67 = .ok (.iconst 5, 1) := by decide +kernel
theorem dX7_copy_68 : decode cX7_copy 68 = .ok (.invokevirtual 74, 3) := by decide +kernel
theorem dX7_copy_71 : decode cX7_copy 71 = .ok (.ireturn, 1) := by decide +kernel
theorem dX7_copy_72 : decode cX7_copy 72 = .ok (.iload_n 2, 1) := by decide +kernel
theorem dX7_copy_73 : decode cX7_copy 73 = .ok (.ifCond .lt 48, 3) := by decide +kernel
theorem dX7_copy_76 : decode cX7_copy 76 = .ok (.iload 4, 2) := by decide +kernel
theorem dX7_copy_78 : decode cX7_copy 78 = .ok (.ifCond .lt 43, 3) := by decide +kernel
theorem dX7_copy_81 : decode cX7_copy 81 = .ok (.iload 5, 2) := by decide +kernel
theorem dX7_copy_83 : decode cX7_copy 83 = .ok (.ifCond .lt 38, 3) := by decide +kernel
theorem dX7_copy_86 : decode cX7_copy 86 = .ok (.iload_n 2, 1) := by decide +kernel
theorem dX7_copy_87 : decode cX7_copy 87 = .ok (.i2l, 1) := by decide +kernel
theorem dX7_copy_88 : decode cX7_copy 88 = .ok (.iload 5, 2) := by decide +kernel
theorem dX7_copy_90 : decode cX7_copy 90 = .ok (.i2l, 1) := by decide +kernel
theorem dX7_copy_91 : decode cX7_copy 91 = .ok (.ladd, 1) := by decide +kernel
theorem dX7_copy_92 : decode cX7_copy 92 = .ok (.aload_n 0, 1) := by decide +kernel
theorem dX7_copy_93 : decode cX7_copy 93 = .ok (.getfield 13, 3) := by decide +kernel
theorem dX7_copy_96 : decode cX7_copy 96 = .ok (.iload_n 1, 1) := by decide +kernel
theorem dX7_copy_97 : decode cX7_copy 97 = .ok (.iaload, 1) := by decide +kernel
theorem dX7_copy_98 : decode cX7_copy 98 = .ok (.i2l, 1) := by decide +kernel
theorem dX7_copy_99 : decode cX7_copy 99 = .ok (.lcmp, 1) := by decide +kernel
theorem dX7_copy_100 : decode cX7_copy 100 = .ok (.ifCond .gt 21, 3) := by decide +kernel
theorem dX7_copy_103 : decode cX7_copy 103 = .ok (.iload 4, 2) := by decide +kernel
theorem dX7_copy_105 : decode cX7_copy 105 = .ok (.i2l, 1) := by decide +kernel
theorem dX7_copy_106 : decode cX7_copy 106 = .ok (.iload 5, 2) := by decide +kernel
theorem dX7_copy_108 : decode cX7_copy 108 = .ok (.i2l, 1) := by decide +kernel
theorem dX7_copy_109 : decode cX7_copy 109 = .ok (.ladd, 1) := by decide +kernel
theorem dX7_copy_110 : decode cX7_copy 110 = .ok (.aload_n 0, 1) := by decide +kernel
theorem dX7_copy_111 : decode cX7_copy 111 = .ok (.getfield 13, 3) := by decide +kernel
theorem dX7_copy_114 : decode cX7_copy 114 = .ok (.iload_n 3, 1) := by decide +kernel
theorem dX7_copy_115 : decode cX7_copy 115 = .ok (.iaload, 1) := by decide +kernel
theorem dX7_copy_116 : decode cX7_copy 116 = .ok (.i2l, 1) := by decide +kernel
theorem dX7_copy_117 : decode cX7_copy 117 = .ok (.lcmp, 1) := by decide +kernel
theorem dX7_copy_118 : decode cX7_copy 118 = .ok (.ifCond .le 9, 3) := by decide +kernel
theorem dX7_copy_121 : decode cX7_copy 121 = .ok (.aload_n 0, 1) := by decide +kernel
theorem dX7_copy_122 : decode cX7_copy 122 = .ok (.iconst 2, 1) := by decide +kernel
theorem dX7_copy_123 : decode cX7_copy 123 = .ok (.invokevirtual 74, 3) := by decide +kernel
theorem dX7_copy_126 : decode cX7_copy 126 = .ok (.ireturn, 1) := by decide +kernel
theorem dX7_copy_127 : decode cX7_copy 127 = .ok (.iload_n 2, 1) := by decide +kernel
theorem dX7_copy_128 : decode cX7_copy 128 = .ok (.iload 4, 2) := by decide +kernel
theorem dX7_copy_130 : decode cX7_copy 130 = .ok (.if_icmp .lt 7, 3) := by decide +kernel
theorem dX7_copy_133 : decode cX7_copy 133 = .ok (.iconst 1, 1) := by decide +kernel
theorem dX7_copy_134 : decode cX7_copy 134 = .ok (.goto 4, 3) := by decide +kernel
theorem dX7_copy_137 : decode cX7_copy 137 = .ok (.iconst 0, 1) := by decide +kernel
theorem dX7_copy_138 : decode cX7_copy 138 = .ok (.istore 6, 2) := by decide +kernel
theorem dX7_copy_140 : decode cX7_copy 140 = .ok (.iconst 0, 1) := by decide +kernel
theorem dX7_copy_141 : decode cX7_copy 141 = .ok (.istore 7, 2) := by decide +kernel
theorem dX7_copy_143 : decode cX7_copy 143 = .ok (.iload 7, 2) := by decide +kernel
theorem dX7_copy_145 : decode cX7_copy 145 = .ok (.iload 5, 2) := by decide +kernel
theorem dX7_copy_147 : decode cX7_copy 147 = .ok (.if_icmp .ge 57, 3) := by decide +kernel
theorem dX7_copy_150 : decode cX7_copy 150 = .ok (.iload 6, 2) := by decide +kernel
theorem dX7_copy_152 : decode cX7_copy 152 = .ok (.ifCond .eq 8, 3) := by decide +kernel
theorem dX7_copy_155 : decode cX7_copy 155 = .ok (.iload 7, 2) := by decide +kernel
theorem dX7_copy_157 : decode cX7_copy 157 = .ok (.goto 10, 3) := by decide +kernel
theorem dX7_copy_160 : decode cX7_copy 160 = .ok (.iload 5, 2) := by decide +kernel
theorem dX7_copy_162 : decode cX7_copy 162 = .ok (.iconst 1, 1) := by decide +kernel
theorem dX7_copy_163 : decode cX7_copy 163 = .ok (.isub, 1) := by decide +kernel
theorem dX7_copy_164 : decode cX7_copy 164 = .ok (.iload 7, 2) := by decide +kernel
theorem dX7_copy_166 : decode cX7_copy 166 = .ok (.isub, 1) := by decide +kernel
theorem dX7_copy_167 : decode cX7_copy 167 = .ok (.istore 8, 2) := by decide +kernel
theorem dX7_copy_169 : decode cX7_copy 169 = .ok (.aload_n 0, 1) := by decide +kernel
theorem dX7_copy_170 : decode cX7_copy 170 = .ok (.getfield 16, 3) := by decide +kernel
theorem dX7_copy_173 : decode cX7_copy 173 = .ok (.bipush 40, 2) := by decide +kernel
theorem dX7_copy_175 : decode cX7_copy 175 = .ok (.iload_n 3, 1) := by decide +kernel
theorem dX7_copy_176 : decode cX7_copy 176 = .ok (.imul, 1) := by decide +kernel
theorem dX7_copy_177 : decode cX7_copy 177 = .ok (.iload 4, 2) := by decide +kernel
theorem dX7_copy_179 : decode cX7_copy 179 = .ok (.iadd, 1) := by decide +kernel
theorem dX7_copy_180 : decode cX7_copy 180 = .ok (.iload 8, 2) := by decide +kernel
theorem dX7_copy_182 : decode cX7_copy 182 = .ok (.iadd, 1) := by decide +kernel
theorem dX7_copy_183 : decode cX7_copy 183 = .ok (.aload_n 0, 1) := by decide +kernel
theorem dX7_copy_184 : decode cX7_copy 184 = .ok (.getfield 16, 3) := by decide +kernel
theorem dX7_copy_187 : decode cX7_copy 187 = .ok (.bipush 40, 2) := by decide +kernel
theorem dX7_copy_189 : decode cX7_copy 189 = .ok (.iload_n 1, 1) := by decide +kernel
theorem dX7_copy_190 : decode cX7_copy 190 = .ok (.imul, 1) := by decide +kernel
theorem dX7_copy_191 : decode cX7_copy 191 = .ok (.iload_n 2, 1) := by decide +kernel
theorem dX7_copy_192 : decode cX7_copy 192 = .ok (.iadd, 1) := by decide +kernel
theorem dX7_copy_193 : decode cX7_copy 193 = .ok (.iload 8, 2) := by decide +kernel
theorem dX7_copy_195 : decode cX7_copy 195 = .ok (.iadd, 1) := by decide +kernel
theorem dX7_copy_196 : decode cX7_copy 196 = .ok (.iaload, 1) := by decide +kernel
theorem dX7_copy_197 : decode cX7_copy 197 = .ok (.iastore, 1) := by decide +kernel
theorem dX7_copy_198 : decode cX7_copy 198 = .ok (.iinc 7 1, 3) := by decide +kernel
theorem dX7_copy_201 : decode cX7_copy 201 = .ok (.goto (-58), 3) := by decide +kernel
theorem dX7_copy_204 : decode cX7_copy 204 = .ok (.iload 5, 2) := by decide +kernel
theorem dX7_copy_206 : decode cX7_copy 206 = .ok (.ireturn, 1) := by decide +kernel
theorem dX7_drop_0 : decode cX7_drop 0 = .ok (.aload_n 0, 1) := by decide +kernel
theorem dX7_drop_1 : decode cX7_drop 1 = .ok (.iconst 0, 1) := by decide +kernel
theorem dX7_drop_2 : decode cX7_drop 2 = .ok (.putfield 53, 3) := by decide +kernel
theorem dX7_drop_5 : decode cX7_drop 5 = .ok (.iload_n 1, 1) := by decide +kernel
theorem dX7_drop_6 : decode cX7_drop 6 = .ok (.invokestatic 67, 3) := by decide +kernel
theorem dX7_drop_9 : decode cX7_drop 9 = .ok (.ifCond .ne 6, 3) := by decide +kernel
theorem dX7_drop_12 : decode cX7_drop 12 = .ok (.ldc 73, 2) := by decide +kernel
theorem dX7_drop_14 : decode cX7_drop 14 = .ok (.ireturn, 1) := by decide +kernel
theorem dX7_drop_15 : decode cX7_drop 15 = .ok (.aload_n 0, 1) := by decide +kernel
theorem dX7_drop_16 : decode cX7_drop 16 = .ok (.iconst 0, 1) := by decide +kernel
theorem dX7_drop_17 : decode cX7_drop 17 = .ok (.putfield 57, 3) := by decide +kernel
theorem dX7_drop_20 : decode cX7_drop 20 = .ok (.aload_n 0, 1) := by decide +kernel
theorem dX7_drop_21 : decode cX7_drop 21 = .ok (.getfield 7, 3) := by decide +kernel
theorem dX7_drop_24 : decode cX7_drop 24 = .ok (.iload_n 1, 1) := by decide +kernel
theorem dX7_drop_25 : decode cX7_drop 25 = .ok (.iaload, 1) := by decide +kernel
theorem dX7_drop_26 : decode cX7_drop 26 = .ok (.ifCond .ge 9, 3) := by decide +kernel
theorem dX7_drop_29 : decode cX7_drop 29 = .ok (.aload_n 0, 1) := by decide +kernel
theorem dX7_drop_30 : decode cX7_drop 30 = .ok (.iconst 1, 1) := by decide +kernel
theorem dX7_drop_31 : decode cX7_drop 31 = .ok (.invokevirtual 74, 3) := by decide +kernel
theorem dX7_drop_34 : decode cX7_drop 34 = .ok (.ireturn, 1) := by decide +kernel
theorem dX7_drop_35 : decode cX7_drop 35 = .ok (.aload_n 0, 1) := by decide +kernel
theorem dX7_drop_36 : decode cX7_drop 36 = .ok (.getfield 7, 3) := by decide +kernel
theorem dX7_drop_39 : decode cX7_drop 39 = .ok (.iload_n 1, 1) := by decide +kernel
theorem dX7_drop_40 : decode cX7_drop 40 = .ok (.iconst (-1), 1) := by decide +kernel
theorem dX7_drop_41 : decode cX7_drop 41 = .ok (.iastore, 1) := by decide +kernel
theorem dX7_drop_42 : decode cX7_drop 42 = .ok (.aload_n 0, 1) := by decide +kernel
theorem dX7_drop_43 : decode cX7_drop 43 = .ok (.getfield 13, 3) := by decide +kernel
theorem dX7_drop_46 : decode cX7_drop 46 = .ok (.iload_n 1, 1) := by decide +kernel
theorem dX7_drop_47 : decode cX7_drop 47 = .ok (.iaload, 1) := by decide +kernel
theorem dX7_drop_48 : decode cX7_drop 48 = .ok (.ireturn, 1) := by decide +kernel
theorem dX7_feed_0 : decode cX7_feed 0 = .ok (.aload_n 0, 1) := by decide +kernel
theorem dX7_feed_1 : decode cX7_feed 1 = .ok (.iconst 0, 1) := by decide +kernel
theorem dX7_feed_2 : decode cX7_feed 2 = .ok (.putfield 53, 3) := by decide +kernel
theorem dX7_feed_5 : decode cX7_feed 5 = .ok (.iload_n 1, 1) := by decide +kernel
theorem dX7_feed_6 : decode cX7_feed 6 = .ok (.i2l, 1) := by decide +kernel
theorem dX7_feed_7 : decode cX7_feed 7 = .ok (.lconst 0, 1) := by decide +kernel
theorem dX7_feed_8 : decode cX7_feed 8 = .ok (.ldc2_w 78, 3) := by decide +kernel
theorem dX7_feed_11 : decode cX7_feed 11 = .ok (.invokestatic 63, 3) := by decide +kernel
theorem dX7_feed_14 : decode cX7_feed 14 = .ok (.ifCond .ne 6, 3) := by decide +kernel
theorem dX7_feed_17 : decode cX7_feed 17 = .ok (.ldc 73, 2) := by decide +kernel
theorem dX7_feed_19 : decode cX7_feed 19 = .ok (.ireturn, 1) := by decide +kernel
theorem dX7_feed_20 : decode cX7_feed 20 = .ok (.aload_n 0, 1) := by decide +kernel
theorem dX7_feed_21 : decode cX7_feed 21 = .ok (.getfield 80, 3) := by decide +kernel
theorem dX7_feed_24 : decode cX7_feed 24 = .ok (.bipush 120, 2) := by decide +kernel
theorem dX7_feed_26 : decode cX7_feed 26 = .ok (.if_icmp .ne 6, 3) := by decide +kernel
theorem dX7_feed_29 : decode cX7_feed 29 = .ok (.ldc 83, 2) := by decide +kernel
theorem dX7_feed_31 : decode cX7_feed 31 = .ok (.ireturn, 1) := by decide +kernel
theorem dX7_feed_32 : decode cX7_feed 32 = .ok (.aload_n 0, 1) := by decide +kernel
theorem dX7_feed_33 : decode cX7_feed 33 = .ok (.getfield 31, 3) := by decide +kernel
theorem dX7_feed_36 : decode cX7_feed 36 = .ok (.aload_n 0, 1) := by decide +kernel
theorem dX7_feed_37 : decode cX7_feed 37 = .ok (.getfield 80, 3) := by decide +kernel
theorem dX7_feed_40 : decode cX7_feed 40 = .ok (.iload_n 1, 1) := by decide +kernel
theorem dX7_feed_41 : decode cX7_feed 41 = .ok (.iastore, 1) := by decide +kernel
theorem dX7_feed_42 : decode cX7_feed 42 = .ok (.aload_n 0, 1) := by decide +kernel
theorem dX7_feed_43 : decode cX7_feed 43 = .ok (.dup, 1) := by decide +kernel
theorem dX7_feed_44 : decode cX7_feed 44 = .ok (.getfield 80, 3) := by decide +kernel
theorem dX7_feed_47 : decode cX7_feed 47 = .ok (.iconst 1, 1) := by decide +kernel
theorem dX7_feed_48 : decode cX7_feed 48 = .ok (.iadd, 1) := by decide +kernel
theorem dX7_feed_49 : decode cX7_feed 49 = .ok (.putfield 80, 3) := by decide +kernel
theorem dX7_feed_52 : decode cX7_feed 52 = .ok (.aload_n 0, 1) := by decide +kernel
theorem dX7_feed_53 : decode cX7_feed 53 = .ok (.getfield 80, 3) := by decide +kernel
theorem dX7_feed_56 : decode cX7_feed 56 = .ok (.ireturn, 1) := by decide +kernel
theorem dX7_bad_0 : decode cX7_bad 0 = .ok (.aload_n 0, 1) := by decide +kernel
theorem dX7_bad_1 : decode cX7_bad 1 = .ok (.getfield 84, 3) := by decide +kernel
theorem dX7_bad_4 : decode cX7_bad 4 = .ok (.ifCond .ne 16, 3) := by decide +kernel
theorem dX7_bad_7 : decode cX7_bad 7 = .ok (.aload_n 0, 1) := by decide +kernel
theorem dX7_bad_8 : decode cX7_bad 8 = .ok (.iload_n 1, 1) := by decide +kernel
theorem dX7_bad_9 : decode cX7_bad 9 = .ok (.putfield 84, 3) := by decide +kernel
theorem dX7_bad_12 : decode cX7_bad 12 = .ok (.aload_n 0, 1) := by decide +kernel
theorem dX7_bad_13 : decode cX7_bad 13 = .ok (.aload_n 0, 1) := by decide +kernel
theorem dX7_bad_14 : decode cX7_bad 14 = .ok (.getfield 87, 3) := by decide +kernel
theorem dX7_bad_17 : decode cX7_bad 17 = .ok (.putfield 90, 3) := by decide +kernel
theorem dX7_bad_20 : decode cX7_bad 20 = .ok (.return_, 1) := by decide +kernel
theorem dX7_nextToken_0 : decode cX7_nextToken 0 = .ok (.aload_n 0, 1) := by decide +kernel
theorem dX7_nextToken_1 : decode cX7_nextToken 1 = .ok (.aload_n 0, 1) := by decide +kernel
theorem dX7_nextToken_2 : decode cX7_nextToken 2 = .ok (.getfield 93, 3) := by decide +kernel
theorem dX7_nextToken_5 : decode cX7_nextToken 5 = .ok (.putfield 87, 3) := by decide +kernel
theorem dX7_nextToken_8 : decode cX7_nextToken 8 = .ok (.aload_n 0, 1) := by decide +kernel
theorem dX7_nextToken_9 : decode cX7_nextToken 9 = .ok (.aload_n 0, 1) := by decide +kernel
theorem dX7_nextToken_10 : decode cX7_nextToken 10 = .ok (.getfield 93, 3) := by decide +kernel
theorem dX7_nextToken_13 : decode cX7_nextToken 13 = .ok (.aload_n 0, 1) := by decide +kernel
theorem dX7_nextToken_14 : decode cX7_nextToken 14 = .ok (.getfield 80, 3) := by decide +kernel
theorem dX7_nextToken_17 : decode cX7_nextToken 17 = .ok (.if_icmp .ge 15, 3) := by decide +kernel
theorem dX7_nextToken_20 : decode cX7_nextToken 20 = .ok (.aload_n 0, 1) := by decide +kernel
theorem dX7_nextToken_21 : decode cX7_nextToken 21 = .ok (.getfield 31, 3) := by decide +kernel
theorem dX7_nextToken_24 : decode cX7_nextToken 24 = .ok (.aload_n 0, 1) := by decide +kernel
theorem dX7_nextToken_25 : decode cX7_nextToken 25 = .ok (.getfield 93, 3) := by decide +kernel
theorem dX7_nextToken_28 : decode cX7_nextToken 28 = .ok (.iaload, 1) := by decide +kernel
theorem dX7_nextToken_29 : decode cX7_nextToken 29 = .ok (.goto 5, 3) := by decide +kernel
theorem dX7_nextToken_32 : decode cX7_nextToken 32 = .ok (.ldc 96, 2) := by decide +kernel
theorem dX7_nextToken_34 : decode cX7_nextToken 34 = .ok (.putfield 97, 3) := by decide +kernel
theorem dX7_nextToken_37 : decode cX7_nextToken 37 = .ok (.aload_n 0, 1) := by decide +kernel
theorem dX7_nextToken_38 : decode cX7_nextToken 38 = .ok (.aload_n 0, 1) := by decide +kernel
theorem dX7_nextToken_39 : decode cX7_nextToken 39 = .ok (.getfield 93, 3) := by decide +kernel
theorem dX7_nextToken_42 : decode cX7_nextToken 42 = .ok (.aload_n 0, 1) := by decide +kernel
theorem dX7_nextToken_43 : decode cX7_nextToken 43 = .ok (.getfield 80, 3) := by decide +kernel
theorem dX7_nextToken_46 : decode cX7_nextToken 46 = .ok (.if_icmp .ne 7, 3) := by decide +kernel
theorem dX7_nextToken_49 : decode cX7_nextToken 49 = .ok (.iconst 1, 1) := by decide +kernel
theorem dX7_nextToken_50 : decode cX7_nextToken 50 = .ok (.goto 68, 3) := by decide +kernel
theorem dX7_nextToken_53 : decode cX7_nextToken 53 = .ok (.aload_n 0, 1) := by decide +kernel
theorem dX7_nextToken_54 : decode cX7_nextToken 54 = .ok (.getfield 97, 3) := by decide +kernel
theorem dX7_nextToken_57 : decode cX7_nextToken 57 = .ok (.i2l, 1) := by decide +kernel
theorem dX7_nextToken_58 : decode cX7_nextToken 58 = .ok (.ldc2_w 100, 3) := by decide +kernel
theorem dX7_nextToken_61 : decode cX7_nextToken 61 = .ok (.ldc2_w 102, 3) := by decide +kernel
theorem dX7_nextToken_64 : decode cX7_nextToken 64 = .ok (.invokestatic 63, 3) := by decide +kernel
theorem dX7_nextToken_67 : decode cX7_nextToken 67 = .ok (.ifCond .eq 7, 3) := by decide +kernel
theorem dX7_nextToken_70 : decode cX7_nextToken 70 = .ok (.iconst 2, 1) := by decide +kernel
theorem dX7_nextToken_71 : decode cX7_nextToken 71 = .ok (.goto 47, 3) := by decide +kernel
theorem dX7_nextToken_74 : decode cX7_nextToken 74 = .ok (.aload_n 0, 1) := by decide +kernel
theorem dX7_nextToken_75 : decode cX7_nextToken 75 = .ok (.getfield 97, 3) := by decide +kernel
theorem dX7_nextToken_78 : decode cX7_nextToken 78 = .ok (.i2l, 1) := by decide +kernel
theorem dX7_nextToken_79 : decode cX7_nextToken 79 = .ok (.ldc2_w 104, 3) := by decide +kernel
theorem dX7_nextToken_82 : decode cX7_nextToken 82 = .ok (.ldc2_w 106, 3) := by decide +kernel
theorem dX7_nextToken_85 : decode cX7_nextToken 85 = .ok (.invokestatic 63, 3) := by decide +kernel
theorem dX7_nextToken_88 : decode cX7_nextToken 88 = .ok (.ifCond .eq 7, 3) := by decide +kernel
theorem dX7_nextToken_91 : decode cX7_nextToken 91 = .ok (.iconst 3, 1) := by decide +kernel
theorem dX7_nextToken_92 : decode cX7_nextToken 92 = .ok (.goto 26, 3) := by decide +kernel
theorem dX7_nextToken_95 : decode cX7_nextToken 95 = .ok (.aload_n 0, 1) := by decide +kernel
theorem dX7_nextToken_96 : decode cX7_nextToken 96 = .ok (.getfield 97, 3) := by decide +kernel
theorem dX7_nextToken_99 : decode cX7_nextToken 99 = .ok (.bipush 44, 2) := by decide +kernel
theorem dX7_nextToken_101 : decode cX7_nextToken 101 = .ok (.if_icmp .eq 12, 3) := by decide +kernel
theorem dX7_nextToken_104 : decode cX7_nextToken 104 = .ok (.aload_n 0, 1) := by decide +kernel
theorem dX7_nextToken_105 : decode cX7_nextToken 105 = .ok (.getfield 97, 3) := by decide +kernel
theorem dX7_nextToken_108 : decode cX7_nextToken 108 = .ok (.bipush 59, 2) := by decide +kernel
theorem dX7_nextToken_110 : decode cX7_nextToken 110 = .ok (.if_icmp .ne 7, 3) := by decide +kernel
theorem dX7_nextToken_113 : decode cX7_nextToken 113 = .ok (.iconst 4, 1) := by decide +kernel
theorem dX7_nextToken_114 : decode cX7_nextToken 114 = .ok (.goto 4, 3) := by decide +kernel
theorem dX7_nextToken_117 : decode cX7_nextToken 117 = .ok (.iconst 0, 1) := by decide +kernel
theorem dX7_nextToken_118 : decode cX7_nextToken 118 = .ok (.putfield 108, 3) := by decide +kernel
theorem dX7_nextToken_121 : decode cX7_nextToken 121 = .ok (.aload_n 0, 1) := by decide +kernel
theorem dX7_nextToken_122 : decode cX7_nextToken 122 = .ok (.dup, 1) := by decide +kernel
theorem dX7_nextToken_123 : decode cX7_nextToken 123 = .ok (.getfield 93, 3) := by decide +kernel
theorem dX7_nextToken_126 : decode cX7_nextToken 126 = .ok (.aload_n 0, 1) := by decide +kernel
theorem dX7_nextToken_127 : decode cX7_nextToken 127 = .ok (.getfield 93, 3) := by decide +kernel
theorem dX7_nextToken_130 : decode cX7_nextToken 130 = .ok (.aload_n 0, 1) := by decide +kernel
theorem dX7_nextToken_131 : decode cX7_nextToken 131 = .ok (.getfield 80, 3) := by decide +kernel
theorem dX7_nextToken_134 : decode cX7_nextToken 134 = .ok (.if_icmp .ge 7, 3) := by decide +kernel
theorem dX7_nextToken_137 : decode cX7_nextToken 137 = .ok (.iconst 1, 1) := by decide +kernel
theorem dX7_nextToken_138 : decode cX7_nextToken 138 = .ok (.goto 4, 3) := by decide +kernel
theorem dX7_nextToken_141 : decode cX7_nextToken 141 = .ok (.iconst 0, 1) := by decide +kernel
theorem dX7_nextToken_142 : decode cX7_nextToken 142 = .ok (.iadd, 1) := by decide +kernel
theorem dX7_nextToken_143 : decode cX7_nextToken 143 = .ok (.putfield 93, 3) := by decide +kernel
theorem dX7_nextToken_146 : decode cX7_nextToken 146 = .ok (.aload_n 0, 1) := by decide +kernel
theorem dX7_nextToken_147 : decode cX7_nextToken 147 = .ok (.getfield 108, 3) := by decide +kernel
theorem dX7_nextToken_150 : decode cX7_nextToken 150 = .ok (.iconst 3, 1) := by decide +kernel
theorem dX7_nextToken_151 : decode cX7_nextToken 151 = .ok (.if_icmp .ne 126, 3) := by decide +kernel
theorem dX7_nextToken_154 : decode cX7_nextToken 154 = .ok (.aload_n 0, 1) := by decide +kernel
theorem dX7_nextToken_155 : decode cX7_nextToken 155 = .ok (.dup, 1) := by decide +kernel
theorem dX7_nextToken_156 : decode cX7_nextToken 156 = .ok (.getfield 97, 3) := by decide +kernel
theorem dX7_nextToken_159 : decode cX7_nextToken 159 = .ok (.bipush 48, 2) := by decide +kernel
theorem dX7_nextToken_161 : decode cX7_nextToken 161 = .ok (.isub, 1) := by decide +kernel
theorem dX7_nextToken_162 : decode cX7_nextToken 162 = .ok (.putfield 97, 3) := by decide +kernel
theorem dX7_nextToken_165 : decode cX7_nextToken 165 = .ok (.aload_n 0, 1) := by decide +kernel
theorem dX7_nextToken_166 : decode cX7_nextToken 166 = .ok (.getfield 93, 3) := by decide +kernel
theorem dX7_nextToken_169 : decode cX7_nextToken 169 = .ok (.aload_n 0, 1) := by decide +kernel
theorem dX7_nextToken_170 : decode cX7_nextToken 170 = .ok (.getfield 80, 3) := by decide +kernel
theorem dX7_nextToken_173 : decode cX7_nextToken 173 = .ok (.if_icmp .ge 82, 3) := by decide +kernel
theorem dX7_nextToken_176 : decode cX7_nextToken 176 = .ok (.aload_n 0, 1) := by decide +kernel
theorem dX7_nextToken_177 : decode cX7_nextToken 177 = .ok (.getfield 31, 3) := by decide +kernel
theorem dX7_nextToken_180 : decode cX7_nextToken 180 = .ok (.aload_n 0, 1) := by decide +kernel
theorem dX7_nextToken_181 : decode cX7_nextToken 181 = .ok (.getfield 93, 3) := by decide +kernel
theorem dX7_nextToken_184 : decode cX7_nextToken 184 = .ok (.iaload, 1) := by decide +kernel
theorem dX7_nextToken_185 : decode cX7_nextToken 185 = .ok (.i2l, 1) := by decide +kernel
theorem dX7_nextToken_186 : decode cX7_nextToken 186 = .ok (.ldc2_w 104, 3) := by decide +kernel
theorem dX7_nextToken_189 : decode cX7_nextToken 189 = .ok (.ldc2_w 106, 3) := by decide +kernel
theorem dX7_nextToken_192 : decode cX7_nextToken 192 = .ok (.invokestatic 63, 3) := by decide +kernel
theorem dX7_nextToken_195 : decode cX7_nextToken 195 = .ok (.ifCond .eq 60, 3) := by decide +kernel
theorem dX7_nextToken_198 : decode cX7_nextToken 198 = .ok (.aload_n 0, 1) := by decide +kernel
theorem dX7_nextToken_199 : decode cX7_nextToken 199 = .ok (.aload_n 0, 1) := by decide +kernel
theorem dX7_nextToken_200 : decode cX7_nextToken 200 = .ok (.getfield 93, 3) := by decide +kernel
theorem dX7_nextToken_203 : decode cX7_nextToken 203 = .ok (.aload_n 0, 1) := by decide +kernel
theorem dX7_nextToken_204 : decode cX7_nextToken 204 = .ok (.getfield 87, 3) := by decide +kernel
theorem dX7_nextToken_207 : decode cX7_nextToken 207 = .ok (.isub, 1) := by decide +kernel
theorem dX7_nextToken_208 : decode cX7_nextToken 208 = .ok (.iconst 2, 1) := by decide +kernel
theorem dX7_nextToken_209 : decode cX7_nextToken 209 = .ok (.if_icmp .ge 26, 3) := by decide +kernel
theorem dX7_nextToken_212 : decode cX7_nextToken 212 = .ok (.bipush 10, 2) := by decide +kernel
theorem dX7_nextToken_214 : decode cX7_nextToken 214 = .ok (.aload_n 0, 1) := by decide +kernel
theorem dX7_nextToken_215 : decode cX7_nextToken 215 = .ok (.getfield 97, 3) := by decide +kernel
theorem dX7_nextToken_218 : decode cX7_nextToken 218 = .ok (.imul, 1) := by decide +kernel
theorem dX7_nextToken_219 : decode cX7_nextToken 219 = .ok (.aload_n 0, 1) := by decide +kernel
theorem dX7_nextToken_220 : decode cX7_nextToken 220 = .ok (.getfield 31, 3) := by decide +kernel
theorem dX7_nextToken_223 : decode cX7_nextToken 223 = .ok (.aload_n 0, 1) := by decide +kernel
theorem dX7_nextToken_224 : decode cX7_nextToken 224 = .ok (.getfield 93, 3) := by decide +kernel
theorem dX7_nextToken_227 : decode cX7_nextToken 227 = .ok (.iaload, 1) := by decide +kernel
theorem dX7_nextToken_228 : decode cX7_nextToken 228 = .ok (.iadd, 1) := by decide +kernel
theorem dX7_nextToken_229 : decode cX7_nextToken 229 = .ok (.bipush 48, 2) := by decide +kernel
theorem dX7_nextToken_231 : decode cX7_nextToken 231 = .ok (.isub, 1) := by decide +kernel
theorem dX7_nextToken_232 : decode cX7_nextToken 232 = .ok (.goto 7, 3) := by decide +kernel
theorem dX7_nextToken_235 : decode cX7_nextToken 235 = .ok (.aload_n 0, 1) := by decide +kernel
theorem dX7_nextToken_236 : decode cX7_nextToken 236 = .ok (.getfield 97, 3) := by decide +kernel
theorem dX7_nextToken_239 : decode cX7_nextToken 239 = .ok (.putfield 97, 3) := by decide +kernel
theorem dX7_nextToken_242 : decode cX7_nextToken 242 = .ok (.aload_n 0, 1) := by decide +kernel
theorem dX7_nextToken_243 : decode cX7_nextToken 243 = .ok (.dup, 1) := by decide +kernel
theorem dX7_nextToken_244 : decode cX7_nextToken 244 = .ok (.getfield 93, 3) := by decide +kernel
theorem dX7_nextToken_247 : decode cX7_nextToken 247 = .ok (.iconst 1, 1) := by decide +kernel
theorem dX7_nextToken_248 : decode cX7_nextToken 248 = .ok (.iadd, 1) := by decide +kernel
theorem dX7_nextToken_249 : decode cX7_nextToken 249 = .ok (.putfield 93, 3) := by decide +kernel
theorem dX7_nextToken_252 : decode cX7_nextToken 252 = .ok (.goto (-87), 3) := by decide +kernel
theorem dX7_nextToken_255 : decode cX7_nextToken 255 = .ok (.aload_n 0, 1) := by decide +kernel
theorem dX7_nextToken_256 : decode cX7_nextToken 256 = .ok (.aload_n 0, 1) := by decide +kernel
theorem dX7_nextToken_257 : decode cX7_nextToken 257 = .ok (.getfield 93, 3) := by decide +kernel
theorem dX7_nextToken_260 : decode cX7_nextToken 260 = .ok (.aload_n 0, 1) := by decide +kernel
theorem dX7_nextToken_261 : decode cX7_nextToken 261 = .ok (.getfield 87, 3) := by decide +kernel
theorem dX7_nextToken_264 : decode cX7_nextToken 264 = .ok (.isub, 1) := by decide +kernel
theorem dX7_nextToken_265 : decode cX7_nextToken 265 = .ok (.iconst 2, 1) := by decide +kernel
theorem dX7_nextToken_266 : decode cX7_nextToken 266 = .ok (.if_icmp .le 7, 3) := by decide +kernel
theorem dX7_nextToken_269 : decode cX7_nextToken 269 = .ok (.iconst 0, 1) := by decide +kernel
theorem dX7_nextToken_270 : decode cX7_nextToken 270 = .ok (.goto 4, 3) := by decide +kernel
theorem dX7_nextToken_273 : decode cX7_nextToken 273 = .ok (.iconst 3, 1) := by decide +kernel
theorem dX7_nextToken_274 : decode cX7_nextToken 274 = .ok (.putfield 108, 3) := by decide +kernel
theorem dX7_nextToken_277 : decode cX7_nextToken 277 = .ok (.return_, 1) := by decide +kernel
theorem dX7_must_0 : decode cX7_must 0 = .ok (.iload_n 1, 1) := by decide +kernel
theorem dX7_must_1 : decode cX7_must 1 = .ok (.ifCond .ne 8, 3) := by decide +kernel
theorem dX7_must_4 : decode cX7_must 4 = .ok (.aload_n 0, 1) := by decide +kernel
theorem dX7_must_5 : decode cX7_must 5 = .ok (.iconst 1, 1) := by decide +kernel
theorem dX7_must_6 : decode cX7_must 6 = .ok (.invokevirtual 111, 3) := by decide +kernel
theorem dX7_must_9 : decode cX7_must 9 = .ok (.aload_n 0, 1) := by decide +kernel
theorem dX7_must_10 : decode cX7_must 10 = .ok (.getfield 84, 3) := by decide +kernel
theorem dX7_must_13 : decode cX7_must 13 = .ok (.ifCond .ne 7, 3) := by decide +kernel
theorem dX7_must_16 : decode cX7_must 16 = .ok (.aload_n 0, 1) := by decide +kernel
theorem dX7_must_17 : decode cX7_must 17 = .ok (.invokevirtual 115, 3) := by decide +kernel
theorem dX7_must_20 : decode cX7_must 20 = .ok (.return_, 1) := by decide +kernel
theorem dX7_isLetter_0 : decode cX7_isLetter 0 = .ok (.aload_n 0, 1) := by decide +kernel
theorem dX7_isLetter_1 : decode cX7_isLetter 1 = .ok (.getfield 84, 3) := by decide +kernel
theorem dX7_isLetter_4 : decode cX7_isLetter 4 = .ok (.ifCond .ne 23, 3) := by decide +kernel
theorem dX7_isLetter_7 : decode cX7_isLetter 7 = .ok (.aload_n 0, 1) := by decide +kernel
theorem dX7_isLetter_8 : decode cX7_isLetter 8 = .ok (.getfield 108, 3) := by decide +kernel
theorem dX7_isLetter_11 : decode cX7_isLetter 11 = .ok (.iconst 2, 1) := by decide +kernel
theorem dX7_isLetter_12 : decode cX7_isLetter 12 = .ok (.if_icmp .ne 15, 3) := by decide +kernel
theorem dX7_isLetter_15 : decode cX7_isLetter 15 = .ok (.aload_n 0, 1) := by decide +kernel
theorem dX7_isLetter_16 : decode cX7_isLetter 16 = .ok (.getfield 97, 3) := by decide +kernel
theorem dX7_isLetter_19 : decode cX7_isLetter 19 = .ok (.iload_n 1, 1) := by decide +kernel
theorem dX7_isLetter_20 : decode cX7_isLetter 20 = .ok (.if_icmp .ne 7, 3) := by decide +kernel
theorem dX7_isLetter_23 : decode cX7_isLetter 23 = .ok (.iconst 1, 1) := by decide +kernel
theorem dX7_isLetter_24 : decode cX7_isLetter 24 = .ok (.goto 4, 3) := by decide +kernel
theorem dX7_isLetter_27 : decode cX7_isLetter 27 = .ok (.iconst 0, 1) := by decide +kernel
theorem dX7_isLetter_28 : decode cX7_isLetter 28 = .ok (.ireturn, 1) := by decide +kernel
theorem dX7_number_0 : decode cX7_number 0 = .ok (.aload_n 0, 1) := by decide +kernel
theorem dX7_number_1 : decode cX7_number 1 = .ok (.getfield 84, 3) := by decide +kernel
theorem dX7_number_4 : decode cX7_number 4 = .ok (.ifCond .ne 16, 3) := by decide +kernel
theorem dX7_number_7 : decode cX7_number 7 = .ok (.aload_n 0, 1) := by decide +kernel
theorem dX7_number_8 : decode cX7_number 8 = .ok (.getfield 108, 3) := by decide +kernel
theorem dX7_number_11 : decode cX7_number 11 = .ok (.iconst 3, 1) := by decide +kernel
theorem dX7_number_12 : decode cX7_number 12 = .ok (.if_icmp .eq 8, 3) := by decide +kernel
theorem dX7_number_15 : decode cX7_number 15 = .ok (.aload_n 0, 1) := by decide +kernel
theorem dX7_number_16 : decode cX7_number 16 = .ok (.iconst 1, 1) := by decide +kernel
theorem dX7_number_17 : decode cX7_number 17 = .ok (.invokevirtual 111, 3) := by decide +kernel
theorem dX7_number_20 : decode cX7_number 20 = .ok (.aload_n 0, 1) := by decide +kernel
theorem dX7_number_21 : decode cX7_number 21 = .ok (.getfield 84, 3) := by decide +kernel
theorem dX7_number_24 : decode cX7_number 24 = .ok (.ifCond .ne 23, 3) := by decide +kernel
theorem dX7_number_27 : decode cX7_number 27 = .ok (.aload_n 0, 1) := by decide +kernel
theorem dX7_number_28 : decode cX7_number 28 = .ok (.getfield 97, 3) := by decide +kernel
theorem dX7_number_31 : decode cX7_number 31 = .ok (.i2l, 1) := by decide +kernel
theorem dX7_number_32 : decode cX7_number 32 = .ok (.iload_n 1, 1) := by decide +kernel
theorem dX7_number_33 : decode cX7_number 33 = .ok (.i2l, 1) := by decide +kernel
theorem dX7_number_34 : decode cX7_number 34 = .ok (.iload_n 2, 1) := by decide +kernel
theorem dX7_number_35 : decode cX7_number 35 = .ok (.i2l, 1) := by decide +kernel
theorem dX7_number_36 : decode cX7_number 36 = .ok (.invokestatic 63, 3) := by decide +kernel
theorem dX7_number_39 : decode cX7_number 39 = .ok (.ifCond .ne 8, 3) := by decide +kernel
theorem dX7_number_42 : decode cX7_number 42 = .ok (.aload_n 0, 1) := by decide +kernel
theorem dX7_number_43 : decode cX7_number 43 = .ok (.iconst 2, 1) := by decide +kernel
theorem dX7_number_44 : decode cX7_number 44 = .ok (.invokevirtual 111, 3) := by decide +kernel
theorem dX7_number_47 : decode cX7_number 47 = .ok (.aload_n 0, 1) := by decide +kernel
theorem dX7_number_48 : decode cX7_number 48 = .ok (.getfield 84, 3) := by decide +kernel
theorem dX7_number_51 : decode cX7_number 51 = .ok (.ifCond .ne 10, 3) := by decide +kernel
theorem dX7_number_54 : decode cX7_number 54 = .ok (.aload_n 0, 1) := by decide +kernel
theorem dX7_number_55 : decode cX7_number 55 = .ok (.getfield 97, 3) := by decide +kernel
theorem dX7_number_58 : decode cX7_number 58 = .ok (.goto 4, 3) := by decide +kernel
theorem dX7_number_61 : decode cX7_number 61 = .ok (.iload_n 1, 1) := by decide +kernel
theorem dX7_number_62 : decode cX7_number 62 = .ok (.istore_n 3, 1) := by decide +kernel
theorem dX7_number_63 : decode cX7_number 63 = .ok (.aload_n 0, 1) := by decide +kernel
theorem dX7_number_64 : decode cX7_number 64 = .ok (.iconst 1, 1) := by decide +kernel
theorem dX7_number_65 : decode cX7_number 65 = .ok (.invokevirtual 118, 3) := by decide +kernel
theorem dX7_number_68 : decode cX7_number 68 = .ok (.iload_n 3, 1) := by decide +kernel
theorem dX7_number_69 : decode cX7_number 69 = .ok (.ireturn, 1) := by decide +kernel
theorem dX7_mustSign_0 : decode cX7_mustSign 0 = .ok (.aload_n 0, 1) := by decide +kernel
theorem dX7_mustSign_1 : decode cX7_mustSign 1 = .ok (.aload_n 0, 1) := by decide +kernel
theorem dX7_mustSign_2 : decode cX7_mustSign 2 = .ok (.getfield 108, 3) := by decide +kernel
theorem dX7_mustSign_5 : decode cX7_mustSign 5 = .ok (.iconst 4, 1) := by decide +kernel
theorem dX7_mustSign_6 : decode cX7_mustSign 6 = .ok (.if_icmp .ne 15, 3) := by decide +kernel
theorem dX7_mustSign_9 : decode cX7_mustSign 9 = .ok (.aload_n 0, 1) := by decide +kernel
theorem dX7_mustSign_10 : decode cX7_mustSign 10 = .ok (.getfield 97, 3) := by decide +kernel
theorem dX7_mustSign_13 : decode cX7_mustSign 13 = .ok (.iload_n 1, 1) := by decide +kernel
theorem dX7_mustSign_14 : decode cX7_mustSign 14 = .ok (.if_icmp .ne 7, 3) := by decide +kernel
theorem dX7_mustSign_17 : decode cX7_mustSign 17 = .ok (.iconst 1, 1) := by decide +kernel
theorem dX7_mustSign_18 : decode cX7_mustSign 18 = .ok (.goto 4, 3) := by decide +kernel
theorem dX7_mustSign_21 : decode cX7_mustSign 21 = .ok (.iconst 0, 1) := by decide +kernel
theorem dX7_mustSign_22 : decode cX7_mustSign 22 = .ok (.invokevirtual 118, 3) := by decide +kernel
theorem dX7_mustSign_25 : decode cX7_mustSign 25 = .ok (.return_, 1) := by decide +kernel
theorem dX7_begin_0 : decode cX7_begin 0 = .ok (.aload_n 0, 1) := by decide +kernel
theorem dX7_begin_1 : decode cX7_begin 1 = .ok (.iconst 0, 1) := by decide +kernel
theorem dX7_begin_2 : decode cX7_begin 2 = .ok (.putfield 93, 3) := by decide +kernel
theorem dX7_begin_5 : decode cX7_begin 5 = .ok (.aload_n 0, 1) := by decide +kernel
theorem dX7_begin_6 : decode cX7_begin 6 = .ok (.iconst 0, 1) := by decide +kernel
theorem dX7_begin_7 : decode cX7_begin 7 = .ok (.putfield 84, 3) := by decide +kernel
theorem dX7_begin_10 : decode cX7_begin 10 = .ok (.aload_n 0, 1) := by decide +kernel
theorem dX7_begin_11 : decode cX7_begin 11 = .ok (.invokevirtual 115, 3) := by decide +kernel
theorem dX7_begin_14 : decode cX7_begin 14 = .ok (.return_, 1) := by decide +kernel
theorem dX7_failed_0 : decode cX7_failed 0 = .ok (.aload_n 0, 1) := by decide +kernel
theorem dX7_failed_1 : decode cX7_failed 1 = .ok (.getfield 84, 3) := by decide +kernel
theorem dX7_failed_4 : decode cX7_failed 4 = .ok (.ifCond .ne 16, 3) := by decide +kernel
theorem dX7_failed_7 : decode cX7_failed 7 = .ok (.aload_n 0, 1) := by decide +kernel
theorem dX7_failed_8 : decode cX7_failed 8 = .ok (.getfield 108, 3) := by decide +kernel
theorem dX7_failed_11 : decode cX7_failed 11 = .ok (.iconst 1, 1) := by decide +kernel
theorem dX7_failed_12 : decode cX7_failed 12 = .ok (.if_icmp .eq 8, 3) := by decide +kernel
theorem dX7_failed_15 : decode cX7_failed 15 = .ok (.aload_n 0, 1) := by decide +kernel
theorem dX7_failed_16 : decode cX7_failed 16 = .ok (.iconst 1, 1) := by decide +kernel
theorem dX7_failed_17 : decode cX7_failed 17 = .ok (.invokevirtual 111, 3) := by decide +kernel
theorem dX7_failed_20 : decode cX7_failed 20 = .ok (.aload_n 0, 1) := by decide +kernel
theorem dX7_failed_21 : decode cX7_failed 21 = .ok (.iconst 0, 1) := by decide +kernel
theorem dX7_failed_22 : decode cX7_failed 22 = .ok (.putfield 80, 3) := by decide +kernel
theorem dX7_failed_25 : decode cX7_failed 25 = .ok (.aload_n 0, 1) := by decide +kernel
theorem dX7_failed_26 : decode cX7_failed 26 = .ok (.aload_n 0, 1) := by decide +kernel
theorem dX7_failed_27 : decode cX7_failed 27 = .ok (.getfield 84, 3) := by decide +kernel
theorem dX7_failed_30 : decode cX7_failed 30 = .ok (.ifCond .le 10, 3) := by decide +kernel
theorem dX7_failed_33 : decode cX7_failed 33 = .ok (.aload_n 0, 1) := by decide +kernel
theorem dX7_failed_34 : decode cX7_failed 34 = .ok (.getfield 84, 3) := by decide +kernel
theorem dX7_failed_37 : decode cX7_failed 37 = .ok (.goto 7, 3) := by decide +kernel
theorem dX7_failed_40 : decode cX7_failed 40 = .ok (.aload_n 0, 1) := by decide +kernel
theorem dX7_failed_41 : decode cX7_failed 41 = .ok (.getfield 122, 3) := by decide +kernel
theorem dX7_failed_44 : decode cX7_failed 44 = .ok (.putfield 122, 3) := by decide +kernel
theorem dX7_failed_47 : decode cX7_failed 47 = .ok (.aload_n 0, 1) := by decide +kernel
theorem dX7_failed_48 : decode cX7_failed 48 = .ok (.getfield 84, 3) := by decide +kernel
theorem dX7_failed_51 : decode cX7_failed 51 = .ok (.ifCond .le 7, 3) := by decide +kernel
theorem dX7_failed_54 : decode cX7_failed 54 = .ok (.iconst 1, 1) := by decide +kernel
theorem dX7_failed_55 : decode cX7_failed 55 = .ok (.goto 4, 3) := by decide +kernel
theorem dX7_failed_58 : decode cX7_failed 58 = .ok (.iconst 0, 1) := by decide +kernel
theorem dX7_failed_59 : decode cX7_failed 59 = .ok (.ireturn, 1) := by decide +kernel
theorem dX7_fault_0 : decode cX7_fault 0 = .ok (.aload_n 0, 1) := by decide +kernel
theorem dX7_fault_1 : decode cX7_fault 1 = .ok (.iconst 0, 1) := by decide +kernel
theorem dX7_fault_2 : decode cX7_fault 2 = .ok (.putfield 53, 3) := by decide +kernel
theorem dX7_fault_5 : decode cX7_fault 5 = .ok (.aload_n 0, 1) := by decide +kernel
theorem dX7_fault_6 : decode cX7_fault 6 = .ok (.getfield 122, 3) := by decide +kernel
theorem dX7_fault_9 : decode cX7_fault 9 = .ok (.ireturn, 1) := by decide +kernel
theorem dX7_kindBy_0 : decode cX7_kindBy 0 = .ok (.iload_n 0, 1) := by decide +kernel
theorem dX7_kindBy_1 : decode cX7_kindBy 1 = .ok (.bipush 99, 2) := by decide +kernel
theorem dX7_kindBy_3 : decode cX7_kindBy 3 = .ok (.if_icmp .ne 7, 3) := by decide +kernel
theorem dX7_kindBy_6 : decode cX7_kindBy 6 = .ok (.iconst 1, 1) := by decide +kernel
theorem dX7_kindBy_7 : decode cX7_kindBy 7 = .ok (.goto 45, 3) := by decide +kernel
theorem dX7_kindBy_10 : decode cX7_kindBy 10 = .ok (.iload_n 0, 1) := by decide +kernel
theorem dX7_kindBy_11 : decode cX7_kindBy 11 = .ok (.bipush 113, 2) := by decide +kernel
theorem dX7_kindBy_13 : decode cX7_kindBy 13 = .ok (.if_icmp .ne 7, 3) := by decide +kernel
theorem dX7_kindBy_16 : decode cX7_kindBy 16 = .ok (.iconst 2, 1) := by decide +kernel
theorem dX7_kindBy_17 : decode cX7_kindBy 17 = .ok (.goto 35, 3) := by decide +kernel
theorem dX7_kindBy_20 : decode cX7_kindBy 20 = .ok (.iload_n 0, 1) := by decide +kernel
theorem dX7_kindBy_21 : decode cX7_kindBy 21 = .ok (.bipush 119, 2) := by decide +kernel
theorem dX7_kindBy_23 : decode cX7_kindBy 23 = .ok (.if_icmp .ne 7, 3) := by decide +kernel
theorem dX7_kindBy_26 : decode cX7_kindBy 26 = .ok (.iconst 3, 1) := by decide +kernel
theorem dX7_kindBy_27 : decode cX7_kindBy 27 = .ok (.goto 25, 3) := by decide +kernel
theorem dX7_kindBy_30 : decode cX7_kindBy 30 = .ok (.iload_n 0, 1) := by decide +kernel
theorem dX7_kindBy_31 : decode cX7_kindBy 31 = .ok (.bipush 115, 2) := by decide +kernel
theorem dX7_kindBy_33 : decode cX7_kindBy 33 = .ok (.if_icmp .ne 7, 3) := by decide +kernel
theorem dX7_kindBy_36 : decode cX7_kindBy 36 = .ok (.iconst 4, 1) := by decide +kernel
theorem dX7_kindBy_37 : decode cX7_kindBy 37 = .ok (.goto 15, 3) := by decide +kernel
theorem dX7_kindBy_40 : decode cX7_kindBy 40 = .ok (.iload_n 0, 1) := by decide +kernel
theorem dX7_kindBy_41 : decode cX7_kindBy 41 = .ok (.bipush 111, 2) := by decide +kernel
theorem dX7_kindBy_43 : decode cX7_kindBy 43 = .ok (.if_icmp .ne 7, 3) := by decide +kernel
theorem dX7_kindBy_46 : decode cX7_kindBy 46 = .ok (.iconst 5, 1) := by decide +kernel
theorem dX7_kindBy_47 : decode cX7_kindBy 47 = .ok (.goto 5, 3) := by decide +kernel
theorem dX7_kindBy_50 : decode cX7_kindBy 50 = .ok (.ldc 96, 2) := by decide +kernel
theorem dX7_kindBy_52 : decode cX7_kindBy 52 = .ok (.ireturn, 1) := by decide +kernel
theorem dX7_isSort_0 : decode cX7_isSort 0 = .ok (.aload_n 0, 1) := by decide +kernel
theorem dX7_isSort_1 : decode cX7_isSort 1 = .ok (.getfield 84, 3) := by decide +kernel
theorem dX7_isSort_4 : decode cX7_isSort 4 = .ok (.ifCond .ne 27, 3) := by decide +kernel
theorem dX7_isSort_7 : decode cX7_isSort 7 = .ok (.aload_n 0, 1) := by decide +kernel
theorem dX7_isSort_8 : decode cX7_isSort 8 = .ok (.getfield 108, 3) := by decide +kernel
theorem dX7_isSort_11 : decode cX7_isSort 11 = .ok (.iconst 2, 1) := by decide +kernel
theorem dX7_isSort_12 : decode cX7_isSort 12 = .ok (.if_icmp .ne 19, 3) := by decide +kernel
theorem dX7_isSort_15 : decode cX7_isSort 15 = .ok (.aload_n 0, 1) := by decide +kernel
theorem dX7_isSort_16 : decode cX7_isSort 16 = .ok (.getfield 97, 3) := by decide +kernel
theorem dX7_isSort_19 : decode cX7_isSort 19 = .ok (.invokestatic 125, 3) := by decide +kernel
theorem dX7_isSort_22 : decode cX7_isSort 22 = .ok (.ldc 96, 2) := by decide +kernel
theorem dX7_isSort_24 : decode cX7_isSort 24 = .ok (.if_icmp .eq 7, 3) := by decide +kernel
theorem dX7_isSort_27 : decode cX7_isSort 27 = .ok (.iconst 1, 1) := by decide +kernel
theorem dX7_isSort_28 : decode cX7_isSort 28 = .ok (.goto 4, 3) := by decide +kernel
theorem dX7_isSort_31 : decode cX7_isSort 31 = .ok (.iconst 0, 1) := by decide +kernel
theorem dX7_isSort_32 : decode cX7_isSort 32 = .ok (.ireturn, 1) := by decide +kernel
theorem dX7_readSubject_0 : decode cX7_readSubject 0 = .ok (.aload_n 0, 1) := by decide +kernel
theorem dX7_readSubject_1 : decode cX7_readSubject 1 = .ok (.bipush 106, 2) := by decide +kernel
theorem dX7_readSubject_3 : decode cX7_readSubject 3 = .ok (.invokevirtual 128, 3) := by decide +kernel
theorem dX7_readSubject_6 : decode cX7_readSubject 6 = .ok (.ifCond .eq 19, 3) := by decide +kernel
theorem dX7_readSubject_9 : decode cX7_readSubject 9 = .ok (.aload_n 0, 1) := by decide +kernel
theorem dX7_readSubject_10 : decode cX7_readSubject 10 = .ok (.getfield 22, 3) := by decide +kernel
theorem dX7_readSubject_13 : decode cX7_readSubject 13 = .ok (.iconst 1, 1) := by decide +kernel
theorem dX7_readSubject_14 : decode cX7_readSubject 14 = .ok (.iaload, 1) := by decide +kernel
theorem dX7_readSubject_15 : decode cX7_readSubject 15 = .ok (.bipush 6, 2) := by decide +kernel
theorem dX7_readSubject_17 : decode cX7_readSubject 17 = .ok (.if_icmp .ne 8, 3) := by decide +kernel
theorem dX7_readSubject_20 : decode cX7_readSubject 20 = .ok (.aload_n 0, 1) := by decide +kernel
theorem dX7_readSubject_21 : decode cX7_readSubject 21 = .ok (.iconst 3, 1) := by decide +kernel
theorem dX7_readSubject_22 : decode cX7_readSubject 22 = .ok (.invokevirtual 111, 3) := by decide +kernel
theorem dX7_readSubject_25 : decode cX7_readSubject 25 = .ok (.aload_n 0, 1) := by decide +kernel
theorem dX7_readSubject_26 : decode cX7_readSubject 26 = .ok (.aload_n 0, 1) := by decide +kernel
theorem dX7_readSubject_27 : decode cX7_readSubject 27 = .ok (.bipush 106, 2) := by decide +kernel
theorem dX7_readSubject_29 : decode cX7_readSubject 29 = .ok (.invokevirtual 128, 3) := by decide +kernel
theorem dX7_readSubject_32 : decode cX7_readSubject 32 = .ok (.invokevirtual 118, 3) := by decide +kernel
theorem dX7_readSubject_35 : decode cX7_readSubject 35 = .ok (.aload_n 0, 1) := by decide +kernel
theorem dX7_readSubject_36 : decode cX7_readSubject 36 = .ok (.iconst 0, 1) := by decide +kernel
theorem dX7_readSubject_37 : decode cX7_readSubject 37 = .ok (.iconst 1, 1) := by decide +kernel
theorem dX7_readSubject_38 : decode cX7_readSubject 38 = .ok (.aload_n 0, 1) := by decide +kernel
theorem dX7_readSubject_39 : decode cX7_readSubject 39 = .ok (.getfield 22, 3) := by decide +kernel
theorem dX7_readSubject_42 : decode cX7_readSubject 42 = .ok (.iconst 1, 1) := by decide +kernel
theorem dX7_readSubject_43 : decode cX7_readSubject 43 = .ok (.iaload, 1) := by decide +kernel
theorem dX7_readSubject_44 : decode cX7_readSubject 44 = .ok (.ishl, 1) := by decide +kernel
theorem dX7_readSubject_45 : decode cX7_readSubject 45 = .ok (.iconst 1, 1) := by decide +kernel
theorem dX7_readSubject_46 : decode cX7_readSubject 46 = .ok (.isub, 1) := by decide +kernel
theorem dX7_readSubject_47 : decode cX7_readSubject 47 = .ok (.invokevirtual 131, 3) := by decide +kernel
theorem dX7_readSubject_50 : decode cX7_readSubject 50 = .ok (.istore_n 1, 1) := by decide +kernel
theorem dX7_readSubject_51 : decode cX7_readSubject 51 = .ok (.aload_n 0, 1) := by decide +kernel
theorem dX7_readSubject_52 : decode cX7_readSubject 52 = .ok (.bipush 59, 2) := by decide +kernel
theorem dX7_readSubject_54 : decode cX7_readSubject 54 = .ok (.invokevirtual 135, 3) := by decide +kernel
theorem dX7_readSubject_57 : decode cX7_readSubject 57 = .ok (.aload_n 0, 1) := by decide +kernel
theorem dX7_readSubject_58 : decode cX7_readSubject 58 = .ok (.getfield 84, 3) := by decide +kernel
theorem dX7_readSubject_61 : decode cX7_readSubject 61 = .ok (.ifCond .ne 27, 3) := by decide +kernel
theorem dX7_readSubject_64 : decode cX7_readSubject 64 = .ok (.aload_n 0, 1) := by decide +kernel
theorem dX7_readSubject_65 : decode cX7_readSubject 65 = .ok (.getfield 22, 3) := by decide +kernel
theorem dX7_readSubject_68 : decode cX7_readSubject 68 = .ok (.iconst 5, 1) := by decide +kernel
theorem dX7_readSubject_69 : decode cX7_readSubject 69 = .ok (.aload_n 0, 1) := by decide +kernel
theorem dX7_readSubject_70 : decode cX7_readSubject 70 = .ok (.getfield 22, 3) := by decide +kernel
theorem dX7_readSubject_73 : decode cX7_readSubject 73 = .ok (.iconst 1, 1) := by decide +kernel
theorem dX7_readSubject_74 : decode cX7_readSubject 74 = .ok (.iaload, 1) := by decide +kernel
theorem dX7_readSubject_75 : decode cX7_readSubject 75 = .ok (.iadd, 1) := by decide +kernel
theorem dX7_readSubject_76 : decode cX7_readSubject 76 = .ok (.iload_n 1, 1) := by decide +kernel
theorem dX7_readSubject_77 : decode cX7_readSubject 77 = .ok (.iastore, 1) := by decide +kernel
theorem dX7_readSubject_78 : decode cX7_readSubject 78 = .ok (.aload_n 0, 1) := by decide +kernel
theorem dX7_readSubject_79 : decode cX7_readSubject 79 = .ok (.getfield 22, 3) := by decide +kernel
theorem dX7_readSubject_82 : decode cX7_readSubject 82 = .ok (.iconst 1, 1) := by decide +kernel
theorem dX7_readSubject_83 : decode cX7_readSubject 83 = .ok (.dup2, 1) := by decide +kernel
theorem dX7_readSubject_84 : decode cX7_readSubject 84 = .ok (.iaload, 1) := by decide +kernel
theorem dX7_readSubject_85 : decode cX7_readSubject 85 = .ok (.iconst 1, 1) := by decide +kernel
theorem dX7_readSubject_86 : decode cX7_readSubject 86 = .ok (.iadd, 1) := by decide +kernel
theorem dX7_readSubject_87 : decode cX7_readSubject 87 = .ok (.iastore, 1) := by decide +kernel
theorem dX7_readSubject_88 : decode cX7_readSubject 88 = .ok (.return_, 1) := by decide +kernel
theorem dX7_readLesson_0 : decode cX7_readLesson 0 = .ok (.aload_n 0, 1) := by decide +kernel
theorem dX7_readLesson_1 : decode cX7_readLesson 1 = .ok (.bipush 100, 2) := by decide +kernel
theorem dX7_readLesson_3 : decode cX7_readLesson 3 = .ok (.invokevirtual 128, 3) := by decide +kernel
theorem dX7_readLesson_6 : decode cX7_readLesson 6 = .ok (.ifCond .eq 19, 3) := by decide +kernel
theorem dX7_readLesson_9 : decode cX7_readLesson 9 = .ok (.aload_n 0, 1) := by decide +kernel
theorem dX7_readLesson_10 : decode cX7_readLesson 10 = .ok (.getfield 22, 3) := by decide +kernel
theorem dX7_readLesson_13 : decode cX7_readLesson 13 = .ok (.iconst 2, 1) := by decide +kernel
theorem dX7_readLesson_14 : decode cX7_readLesson 14 = .ok (.iaload, 1) := by decide +kernel
theorem dX7_readLesson_15 : decode cX7_readLesson 15 = .ok (.bipush 8, 2) := by decide +kernel
theorem dX7_readLesson_17 : decode cX7_readLesson 17 = .ok (.if_icmp .ne 8, 3) := by decide +kernel
theorem dX7_readLesson_20 : decode cX7_readLesson 20 = .ok (.aload_n 0, 1) := by decide +kernel
theorem dX7_readLesson_21 : decode cX7_readLesson 21 = .ok (.iconst 3, 1) := by decide +kernel
theorem dX7_readLesson_22 : decode cX7_readLesson 22 = .ok (.invokevirtual 111, 3) := by decide +kernel
theorem dX7_readLesson_25 : decode cX7_readLesson 25 = .ok (.aload_n 0, 1) := by decide +kernel
theorem dX7_readLesson_26 : decode cX7_readLesson 26 = .ok (.aload_n 0, 1) := by decide +kernel
theorem dX7_readLesson_27 : decode cX7_readLesson 27 = .ok (.bipush 100, 2) := by decide +kernel
theorem dX7_readLesson_29 : decode cX7_readLesson 29 = .ok (.invokevirtual 128, 3) := by decide +kernel
theorem dX7_readLesson_32 : decode cX7_readLesson 32 = .ok (.invokevirtual 118, 3) := by decide +kernel
theorem dX7_readLesson_35 : decode cX7_readLesson 35 = .ok (.aload_n 0, 1) := by decide +kernel
theorem dX7_readLesson_36 : decode cX7_readLesson 36 = .ok (.iconst 0, 1) := by decide +kernel
theorem dX7_readLesson_37 : decode cX7_readLesson 37 = .ok (.aload_n 0, 1) := by decide +kernel
theorem dX7_readLesson_38 : decode cX7_readLesson 38 = .ok (.getfield 22, 3) := by decide +kernel
theorem dX7_readLesson_41 : decode cX7_readLesson 41 = .ok (.iconst 1, 1) := by decide +kernel
theorem dX7_readLesson_42 : decode cX7_readLesson 42 = .ok (.iaload, 1) := by decide +kernel
theorem dX7_readLesson_43 : decode cX7_readLesson 43 = .ok (.iconst 1, 1) := by decide +kernel
theorem dX7_readLesson_44 : decode cX7_readLesson 44 = .ok (.isub, 1) := by decide +kernel
theorem dX7_readLesson_45 : decode cX7_readLesson 45 = .ok (.invokevirtual 131, 3) := by decide +kernel
theorem dX7_readLesson_48 : decode cX7_readLesson 48 = .ok (.istore_n 1, 1) := by decide +kernel
theorem dX7_readLesson_49 : decode cX7_readLesson 49 = .ok (.aload_n 0, 1) := by decide +kernel
theorem dX7_readLesson_50 : decode cX7_readLesson 50 = .ok (.bipush 59, 2) := by decide +kernel
theorem dX7_readLesson_52 : decode cX7_readLesson 52 = .ok (.invokevirtual 135, 3) := by decide +kernel
theorem dX7_readLesson_55 : decode cX7_readLesson 55 = .ok (.aload_n 0, 1) := by decide +kernel
theorem dX7_readLesson_56 : decode cX7_readLesson 56 = .ok (.getfield 84, 3) := by decide +kernel
theorem dX7_readLesson_59 : decode cX7_readLesson 59 = .ok (.ifCond .ne 28, 3) := by decide +kernel
theorem dX7_readLesson_62 : decode cX7_readLesson 62 = .ok (.aload_n 0, 1) := by decide +kernel
theorem dX7_readLesson_63 : decode cX7_readLesson 63 = .ok (.getfield 22, 3) := by decide +kernel
theorem dX7_readLesson_66 : decode cX7_readLesson 66 = .ok (.bipush 11, 2) := by decide +kernel
theorem dX7_readLesson_68 : decode cX7_readLesson 68 = .ok (.aload_n 0, 1) := by decide +kernel
theorem dX7_readLesson_69 : decode cX7_readLesson 69 = .ok (.getfield 22, 3) := by decide +kernel
theorem dX7_readLesson_72 : decode cX7_readLesson 72 = .ok (.iconst 2, 1) := by decide +kernel
theorem dX7_readLesson_73 : decode cX7_readLesson 73 = .ok (.iaload, 1) := by decide +kernel
theorem dX7_readLesson_74 : decode cX7_readLesson 74 = .ok (.iadd, 1) := by decide +kernel
theorem dX7_readLesson_75 : decode cX7_readLesson 75 = .ok (.iload_n 1, 1) := by decide +kernel
theorem dX7_readLesson_76 : decode cX7_readLesson 76 = .ok (.iastore, 1) := by decide +kernel
theorem dX7_readLesson_77 : decode cX7_readLesson 77 = .ok (.aload_n 0, 1) := by decide +kernel
theorem dX7_readLesson_78 : decode cX7_readLesson 78 = .ok (.getfield 22, 3) := by decide +kernel
theorem dX7_readLesson_81 : decode cX7_readLesson 81 = .ok (.iconst 2, 1) := by decide +kernel
theorem dX7_readLesson_82 : decode cX7_readLesson 82 = .ok (.dup2, 1) := by decide +kernel
theorem dX7_readLesson_83 : decode cX7_readLesson 83 = .ok (.iaload, 1) := by decide +kernel
theorem dX7_readLesson_84 : decode cX7_readLesson 84 = .ok (.iconst 1, 1) := by decide +kernel
theorem dX7_readLesson_85 : decode cX7_readLesson 85 = .ok (.iadd, 1) := by decide +kernel
theorem dX7_readLesson_86 : decode cX7_readLesson 86 = .ok (.iastore, 1) := by decide +kernel
theorem dX7_readLesson_87 : decode cX7_readLesson 87 = .ok (.return_, 1) := by decide +kernel
theorem dX7_readPupil_0 : decode cX7_readPupil 0 = .ok (.aload_n 0, 1) := by decide +kernel
theorem dX7_readPupil_1 : decode cX7_readPupil 1 = .ok (.getfield 97, 3) := by decide +kernel
theorem dX7_readPupil_4 : decode cX7_readPupil 4 = .ok (.invokestatic 125, 3) := by decide +kernel
theorem dX7_readPupil_7 : decode cX7_readPupil 7 = .ok (.istore_n 1, 1) := by decide +kernel
theorem dX7_readPupil_8 : decode cX7_readPupil 8 = .ok (.aload_n 0, 1) := by decide +kernel
theorem dX7_readPupil_9 : decode cX7_readPupil 9 = .ok (.getfield 22, 3) := by decide +kernel
theorem dX7_readPupil_12 : decode cX7_readPupil 12 = .ok (.iconst 0, 1) := by decide +kernel
theorem dX7_readPupil_13 : decode cX7_readPupil 13 = .ok (.iaload, 1) := by decide +kernel
theorem dX7_readPupil_14 : decode cX7_readPupil 14 = .ok (.bipush 6, 2) := by decide +kernel
theorem dX7_readPupil_16 : decode cX7_readPupil 16 = .ok (.if_icmp .ne 8, 3) := by decide +kernel
theorem dX7_readPupil_19 : decode cX7_readPupil 19 = .ok (.aload_n 0, 1) := by decide +kernel
theorem dX7_readPupil_20 : decode cX7_readPupil 20 = .ok (.iconst 3, 1) := by decide +kernel
theorem dX7_readPupil_21 : decode cX7_readPupil 21 = .ok (.invokevirtual 111, 3) := by decide +kernel
theorem dX7_readPupil_24 : decode cX7_readPupil 24 = .ok (.aload_n 0, 1) := by decide +kernel
theorem dX7_readPupil_25 : decode cX7_readPupil 25 = .ok (.iconst 1, 1) := by decide +kernel
theorem dX7_readPupil_26 : decode cX7_readPupil 26 = .ok (.invokevirtual 118, 3) := by decide +kernel
theorem dX7_readPupil_29 : decode cX7_readPupil 29 = .ok (.aload_n 0, 1) := by decide +kernel
theorem dX7_readPupil_30 : decode cX7_readPupil 30 = .ok (.iconst 0, 1) := by decide +kernel
theorem dX7_readPupil_31 : decode cX7_readPupil 31 = .ok (.iconst 1, 1) := by decide +kernel
theorem dX7_readPupil_32 : decode cX7_readPupil 32 = .ok (.aload_n 0, 1) := by decide +kernel
theorem dX7_readPupil_33 : decode cX7_readPupil 33 = .ok (.getfield 22, 3) := by decide +kernel
theorem dX7_readPupil_36 : decode cX7_readPupil 36 = .ok (.iconst 1, 1) := by decide +kernel
theorem dX7_readPupil_37 : decode cX7_readPupil 37 = .ok (.iaload, 1) := by decide +kernel
theorem dX7_readPupil_38 : decode cX7_readPupil 38 = .ok (.ishl, 1) := by decide +kernel
theorem dX7_readPupil_39 : decode cX7_readPupil 39 = .ok (.iconst 1, 1) := by decide +kernel
theorem dX7_readPupil_40 : decode cX7_readPupil 40 = .ok (.isub, 1) := by decide +kernel
theorem dX7_readPupil_41 : decode cX7_readPupil 41 = .ok (.invokevirtual 131, 3) := by decide +kernel
theorem dX7_readPupil_44 : decode cX7_readPupil 44 = .ok (.istore_n 2, 1) := by decide +kernel
theorem dX7_readPupil_45 : decode cX7_readPupil 45 = .ok (.aload_n 0, 1) := by decide +kernel
theorem dX7_readPupil_46 : decode cX7_readPupil 46 = .ok (.bipush 59, 2) := by decide +kernel
theorem dX7_readPupil_48 : decode cX7_readPupil 48 = .ok (.invokevirtual 135, 3) := by decide +kernel
theorem dX7_readPupil_51 : decode cX7_readPupil 51 = .ok (.aload_n 0, 1) := by decide +kernel
theorem dX7_readPupil_52 : decode cX7_readPupil 52 = .ok (.getfield 84, 3) := by decide +kernel
theorem dX7_readPupil_55 : decode cX7_readPupil 55 = .ok (.ifCond .ne 56, 3) := by decide +kernel
theorem dX7_readPupil_58 : decode cX7_readPupil 58 = .ok (.bipush 19, 2) := by decide +kernel
theorem dX7_readPupil_60 : decode cX7_readPupil 60 = .ok (.bipush 9, 2) := by decide +kernel
theorem dX7_readPupil_62 : decode cX7_readPupil 62 = .ok (.aload_n 0, 1) := by decide +kernel
theorem dX7_readPupil_63 : decode cX7_readPupil 63 = .ok (.getfield 22, 3) := by decide +kernel
theorem dX7_readPupil_66 : decode cX7_readPupil 66 = .ok (.iconst 0, 1) := by decide +kernel
theorem dX7_readPupil_67 : decode cX7_readPupil 67 = .ok (.iaload, 1) := by decide +kernel
theorem dX7_readPupil_68 : decode cX7_readPupil 68 = .ok (.imul, 1) := by decide +kernel
theorem dX7_readPupil_69 : decode cX7_readPupil 69 = .ok (.iadd, 1) := by decide +kernel
theorem dX7_readPupil_70 : decode cX7_readPupil 70 = .ok (.istore_n 3, 1) := by decide +kernel
theorem dX7_readPupil_71 : decode cX7_readPupil 71 = .ok (.aload_n 0, 1) := by decide +kernel
theorem dX7_readPupil_72 : decode cX7_readPupil 72 = .ok (.getfield 22, 3) := by decide +kernel
theorem dX7_readPupil_75 : decode cX7_readPupil 75 = .ok (.iload_n 3, 1) := by decide +kernel
theorem dX7_readPupil_76 : decode cX7_readPupil 76 = .ok (.iload_n 1, 1) := by decide +kernel
theorem dX7_readPupil_77 : decode cX7_readPupil 77 = .ok (.iastore, 1) := by decide +kernel
theorem dX7_readPupil_78 : decode cX7_readPupil 78 = .ok (.aload_n 0, 1) := by decide +kernel
theorem dX7_readPupil_79 : decode cX7_readPupil 79 = .ok (.getfield 22, 3) := by decide +kernel
theorem dX7_readPupil_82 : decode cX7_readPupil 82 = .ok (.iload_n 3, 1) := by decide +kernel
theorem dX7_readPupil_83 : decode cX7_readPupil 83 = .ok (.iconst 1, 1) := by decide +kernel
theorem dX7_readPupil_84 : decode cX7_readPupil 84 = .ok (.iadd, 1) := by decide +kernel
theorem dX7_readPupil_85 : decode cX7_readPupil 85 = .ok (.aload_n 0, 1) := by decide +kernel
theorem dX7_readPupil_86 : decode cX7_readPupil 86 = .ok (.getfield 22, 3) := by decide +kernel
theorem dX7_readPupil_89 : decode cX7_readPupil 89 = .ok (.iconst 0, 1) := by decide +kernel
theorem dX7_readPupil_90 : decode cX7_readPupil 90 = .ok (.iaload, 1) := by decide +kernel
theorem dX7_readPupil_91 : decode cX7_readPupil 91 = .ok (.iastore, 1) := by decide +kernel
theorem dX7_readPupil_92 : decode cX7_readPupil 92 = .ok (.aload_n 0, 1) := by decide +kernel
theorem dX7_readPupil_93 : decode cX7_readPupil 93 = .ok (.getfield 22, 3) := by decide +kernel
theorem dX7_readPupil_96 : decode cX7_readPupil 96 = .ok (.iload_n 3, 1) := by decide +kernel
theorem dX7_readPupil_97 : decode cX7_readPupil 97 = .ok (.iconst 2, 1) := by decide +kernel
theorem dX7_readPupil_98 : decode cX7_readPupil 98 = .ok (.iadd, 1) := by decide +kernel
theorem dX7_readPupil_99 : decode cX7_readPupil 99 = .ok (.iload_n 2, 1) := by decide +kernel
theorem dX7_readPupil_100 : decode cX7_readPupil 100 = .ok (.iastore, 1) := by decide +kernel
theorem dX7_readPupil_101 : decode cX7_readPupil 101 = .ok (.aload_n 0, 1) := by decide +kernel
theorem dX7_readPupil_102 : decode cX7_readPupil 102 = .ok (.getfield 22, 3) := by decide +kernel
theorem dX7_readPupil_105 : decode cX7_readPupil 105 = .ok (.iconst 0, 1) := by decide +kernel
theorem dX7_readPupil_106 : decode cX7_readPupil 106 = .ok (.dup2, 1) := by decide +kernel
theorem dX7_readPupil_107 : decode cX7_readPupil 107 = .ok (.iaload, 1) := by decide +kernel
theorem dX7_readPupil_108 : decode cX7_readPupil 108 = .ok (.iconst 1, 1) := by decide +kernel
theorem dX7_readPupil_109 : decode cX7_readPupil 109 = .ok (.iadd, 1) := by decide +kernel
theorem dX7_readPupil_110 : decode cX7_readPupil 110 = .ok (.iastore, 1) := by decide +kernel
theorem dX7_readPupil_111 : decode cX7_readPupil 111 = .ok (.return_, 1) := by decide +kernel

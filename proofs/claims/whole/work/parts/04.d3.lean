theorem dX9_has_4 : decode cX9_has 4 = .ok (.iload_n 1, 1) := by decide +kernel
theorem dX9_has_5 : decode cX9_has 5 = .ok (.iload_n 2, 1) := by decide +kernel
theorem dX9_has_6 : decode cX9_has 6 = .ok (.invokevirtual 63, 3) := by decide +kernel
theorem dX9_has_9 : decode cX9_has 9 = .ok (.ireturn, 1) := by decide +kernel
theorem dX9_findPassed_0 : decode cX9_findPassed 0 = .ok (.iconst 0, 1) := by decide +kernel
theorem dX9_findPassed_1 : decode cX9_findPassed 1 = .ok (.istore_n 1, 1) := by decide +kernel
theorem dX9_findPassed_2 : decode cX9_findPassed 2 = .ok (.iload_n 1, 1) := by decide +kernel
theorem dX9_findPassed_3 : decode cX9_findPassed 3 = .ok (.aload_n 0, 1) := by decide +kernel
theorem dX9_findPassed_4 : decode cX9_findPassed 4 = .ok (.getfield 29, 3) := by decide +kernel
theorem dX9_findPassed_7 : decode cX9_findPassed 7 = .ok (.invokevirtual 40, 3) := by decide +kernel
theorem dX9_findPassed_10 : decode cX9_findPassed 10 = .ok (.if_icmp .ge 54, 3) := by decide +kernel
theorem dX9_findPassed_13 : decode cX9_findPassed 13 = .ok (.aload_n 0, 1) := by decide +kernel
theorem dX9_findPassed_14 : decode cX9_findPassed 14 = .ok (.getfield 29, 3) := by decide +kernel
theorem dX9_findPassed_17 : decode cX9_findPassed 17 = .ok (.iload_n 1, 1) := by decide +kernel
theorem dX9_findPassed_18 : decode cX9_findPassed 18 = .ok (.invokevirtual 56, 3) := by decide +kernel
theorem dX9_findPassed_21 : decode cX9_findPassed 21 = .ok (.bipush 9, 2) := by decide +kernel
theorem dX9_findPassed_23 : decode cX9_findPassed 23 = .ok (.if_icmp .ne 7, 3) := by decide +kernel
theorem dX9_findPassed_26 : decode cX9_findPassed 26 = .ok (.iconst 1, 1) := by decide +kernel
theorem dX9_findPassed_27 : decode cX9_findPassed 27 = .ok (.goto 4, 3) := by decide +kernel
theorem dX9_findPassed_30 : decode cX9_findPassed 30 = .ok (.iconst 0, 1) := by decide +kernel
theorem dX9_findPassed_31 : decode cX9_findPassed 31 = .ok (.istore_n 2, 1) := by decide +kernel
theorem dX9_findPassed_32 : decode cX9_findPassed 32 = .ok (.aload_n 0, 1) := by decide +kernel
theorem dX9_findPassed_33 : decode cX9_findPassed 33 = .ok (.getfield 12, 3) := by decide +kernel
theorem dX9_findPassed_36 : decode cX9_findPassed 36 = .ok (.iload_n 1, 1) := by decide +kernel
theorem dX9_findPassed_37 : decode cX9_findPassed 37 = .ok (.iload_n 2, 1) := by decide +kernel
theorem dX9_findPassed_38 : decode cX9_findPassed 38 = .ok (.ifCond .ne 7, 3) := by decide +kernel
theorem dX9_findPassed_41 : decode cX9_findPassed 41 = .ok (.iconst 1, 1) := by decide +kernel
theorem dX9_findPassed_42 : decode cX9_findPassed 42 = .ok (.goto 4, 3) := by decide +kernel
theorem dX9_findPassed_45 : decode cX9_findPassed 45 = .ok (.iconst 0, 1) := by decide +kernel
theorem dX9_findPassed_46 : decode cX9_findPassed 46 = .ok (.invokevirtual 46, 3) := by decide +kernel
theorem dX9_findPassed_49 : decode cX9_findPassed 49 = .ok (.aload_n 0, 1) := by decide +kernel
theorem dX9_findPassed_50 : decode cX9_findPassed 50 = .ok (.getfield 12, 3) := by decide +kernel
theorem dX9_findPassed_53 : decode cX9_findPassed 53 = .ok (.iload_n 1, 1) := by decide +kernel
theorem dX9_findPassed_54 : decode cX9_findPassed 54 = .ok (.iload_n 1, 1) := by decide +kernel
theorem dX9_findPassed_55 : decode cX9_findPassed 55 = .ok (.invokevirtual 67, 3) := by decide +kernel
theorem dX9_findPassed_58 : decode cX9_findPassed 58 = .ok (.iinc 1 1, 3) := by decide +kernel
theorem dX9_findPassed_61 : decode cX9_findPassed 61 = .ok (.goto (-59), 3) := by decide +kernel
theorem dX9_findPassed_64 : decode cX9_findPassed 64 = .ok (.iconst 1, 1) := by decide +kernel
theorem dX9_findPassed_65 : decode cX9_findPassed 65 = .ok (.istore_n 1, 1) := by decide +kernel
theorem dX9_findPassed_66 : decode cX9_findPassed 66 = .ok (.iconst 0, 1) := by decide +kernel
theorem dX9_findPassed_67 : decode cX9_findPassed 67 = .ok (.istore_n 2, 1) := by decide +kernel
theorem dX9_findPassed_68 : decode cX9_findPassed 68 = .ok (.iload_n 2, 1) := by decide +kernel
theorem dX9_findPassed_69 : decode cX9_findPassed 69 = .ok (.ldc 71, 2) := by decide +kernel
theorem dX9_findPassed_71 : decode cX9_findPassed 71 = .ok (.if_icmp .ge 18, 3) := by decide +kernel
theorem dX9_findPassed_74 : decode cX9_findPassed 74 = .ok (.iload_n 1, 1) := by decide +kernel
theorem dX9_findPassed_75 : decode cX9_findPassed 75 = .ok (.ifCond .eq 14, 3) := by decide +kernel
theorem dX9_findPassed_78 : decode cX9_findPassed 78 = .ok (.aload_n 0, 1) := by decide +kernel
theorem dX9_findPassed_79 : decode cX9_findPassed 79 = .ok (.invokevirtual 72, 3) := by decide +kernel
theorem dX9_findPassed_82 : decode cX9_findPassed 82 = .ok (.istore_n 1, 1) := by decide +kernel
theorem dX9_findPassed_83 : decode cX9_findPassed 83 = .ok (.iinc 2 1, 3) := by decide +kernel
theorem dX9_findPassed_86 : decode cX9_findPassed 86 = .ok (.goto (-18), 3) := by decide +kernel
theorem dX9_findPassed_89 : decode cX9_findPassed 89 = .ok (.return_, 1) := by decide +kernel
theorem dX9_narrowAll_0 : decode cX9_narrowAll 0 = .ok (.iconst 0, 1) := by decide +kernel
theorem dX9_narrowAll_1 : decode cX9_narrowAll 1 = .ok (.istore_n 1, 1) := by decide +kernel
theorem dX9_narrowAll_2 : decode cX9_narrowAll 2 = .ok (.aload_n 0, 1) := by decide +kernel
theorem dX9_narrowAll_3 : decode cX9_narrowAll 3 = .ok (.getfield 29, 3) := by decide +kernel
theorem dX9_narrowAll_6 : decode cX9_narrowAll 6 = .ok (.invokevirtual 40, 3) := by decide +kernel
theorem dX9_narrowAll_9 : decode cX9_narrowAll 9 = .ok (.iconst 1, 1) := by decide +kernel
theorem dX9_narrowAll_10 : decode cX9_narrowAll 10 = .ok (.isub, 1) := by decide +kernel
theorem dX9_narrowAll_11 : decode cX9_narrowAll 11 = .ok (.istore_n 2, 1) := by decide +kernel
theorem dX9_narrowAll_12 : decode cX9_narrowAll 12 = .ok (.iload_n 2, 1) := by decide +kernel
theorem dX9_narrowAll_13 : decode cX9_narrowAll 13 = .ok (.ifCond .lt 61, 3) := by decide +kernel
theorem dX9_narrowAll_16 : decode cX9_narrowAll 16 = .ok (.aload_n 0, 1) := by decide +kernel
theorem dX9_narrowAll_17 : decode cX9_narrowAll 17 = .ok (.getfield 33, 3) := by decide +kernel
theorem dX9_narrowAll_20 : decode cX9_narrowAll 20 = .ok (.iload_n 2, 1) := by decide +kernel
theorem dX9_narrowAll_21 : decode cX9_narrowAll 21 = .ok (.invokevirtual 50, 3) := by decide +kernel
theorem dX9_narrowAll_24 : decode cX9_narrowAll 24 = .ok (.iconst (-1), 1) := by decide +kernel
theorem dX9_narrowAll_25 : decode cX9_narrowAll 25 = .ok (.if_icmp .eq 43, 3) := by decide +kernel
theorem dX9_narrowAll_28 : decode cX9_narrowAll 28 = .ok (.iload_n 1, 1) := by decide +kernel
theorem dX9_narrowAll_29 : decode cX9_narrowAll 29 = .ok (.aload_n 0, 1) := by decide +kernel
theorem dX9_narrowAll_30 : decode cX9_narrowAll 30 = .ok (.getfield 12, 3) := by decide +kernel
theorem dX9_narrowAll_33 : decode cX9_narrowAll 33 = .ok (.iload_n 2, 1) := by decide +kernel
theorem dX9_narrowAll_34 : decode cX9_narrowAll 34 = .ok (.aload_n 0, 1) := by decide +kernel
theorem dX9_narrowAll_35 : decode cX9_narrowAll 35 = .ok (.getfield 29, 3) := by decide +kernel
theorem dX9_narrowAll_38 : decode cX9_narrowAll 38 = .ok (.iload_n 2, 1) := by decide +kernel
theorem dX9_narrowAll_39 : decode cX9_narrowAll 39 = .ok (.iconst 0, 1) := by decide +kernel
theorem dX9_narrowAll_40 : decode cX9_narrowAll 40 = .ok (.invokevirtual 76, 3) := by decide +kernel
theorem dX9_narrowAll_43 : decode cX9_narrowAll 43 = .ok (.invokevirtual 80, 3) := by decide +kernel
theorem dX9_narrowAll_46 : decode cX9_narrowAll 46 = .ok (.ior, 1) := by decide +kernel
theorem dX9_narrowAll_47 : decode cX9_narrowAll 47 = .ok (.istore_n 1, 1) := by decide +kernel
theorem dX9_narrowAll_48 : decode cX9_narrowAll 48 = .ok (.iload_n 1, 1) := by decide +kernel
theorem dX9_narrowAll_49 : decode cX9_narrowAll 49 = .ok (.aload_n 0, 1) := by decide +kernel
theorem dX9_narrowAll_50 : decode cX9_narrowAll 50 = .ok (.getfield 12, 3) := by decide +kernel
theorem dX9_narrowAll_53 : decode cX9_narrowAll 53 = .ok (.iload_n 2, 1) := by decide +kernel
theorem dX9_narrowAll_54 : decode cX9_narrowAll 54 = .ok (.aload_n 0, 1) := by decide +kernel
theorem dX9_narrowAll_55 : decode cX9_narrowAll 55 = .ok (.getfield 29, 3) := by decide +kernel
theorem dX9_narrowAll_58 : decode cX9_narrowAll 58 = .ok (.iload_n 2, 1) := by decide +kernel
theorem dX9_narrowAll_59 : decode cX9_narrowAll 59 = .ok (.iconst 1, 1) := by decide +kernel
theorem dX9_narrowAll_60 : decode cX9_narrowAll 60 = .ok (.invokevirtual 76, 3) := by decide +kernel
theorem dX9_narrowAll_63 : decode cX9_narrowAll 63 = .ok (.invokevirtual 80, 3) := by decide +kernel
theorem dX9_narrowAll_66 : decode cX9_narrowAll 66 = .ok (.ior, 1) := by decide +kernel
theorem dX9_narrowAll_67 : decode cX9_narrowAll 67 = .ok (.istore_n 1, 1) := by decide +kernel
theorem dX9_narrowAll_68 : decode cX9_narrowAll 68 = .ok (.iinc 2 (-1), 3) := by decide +kernel
theorem dX9_narrowAll_71 : decode cX9_narrowAll 71 = .ok (.goto (-59), 3) := by decide +kernel
theorem dX9_narrowAll_74 : decode cX9_narrowAll 74 = .ok (.iload_n 1, 1) := by decide +kernel
theorem dX9_narrowAll_75 : decode cX9_narrowAll 75 = .ok (.ireturn, 1) := by decide +kernel
theorem dX9_collect_0 : decode cX9_collect 0 = .ok (.aload_n 0, 1) := by decide +kernel
theorem dX9_collect_1 : decode cX9_collect 1 = .ok (.iconst 0, 1) := by decide +kernel
theorem dX9_collect_2 : decode cX9_collect 2 = .ok (.putfield 25, 3) := by decide +kernel
theorem dX9_collect_5 : decode cX9_collect 5 = .ok (.aload_n 0, 1) := by decide +kernel
theorem dX9_collect_6 : decode cX9_collect 6 = .ok (.iload_n 1, 1) := by decide +kernel
theorem dX9_collect_7 : decode cX9_collect 7 = .ok (.iload_n 1, 1) := by decide +kernel
theorem dX9_collect_8 : decode cX9_collect 8 = .ok (.invokevirtual 83, 3) := by decide +kernel
theorem dX9_collect_11 : decode cX9_collect 11 = .ok (.iconst 0, 1) := by decide +kernel
theorem dX9_collect_12 : decode cX9_collect 12 = .ok (.istore_n 2, 1) := by decide +kernel
theorem dX9_collect_13 : decode cX9_collect 13 = .ok (.iload_n 2, 1) := by decide +kernel
theorem dX9_collect_14 : decode cX9_collect 14 = .ok (.bipush 100, 2) := by decide +kernel
theorem dX9_collect_16 : decode cX9_collect 16 = .ok (.if_icmp .ge 28, 3) := by decide +kernel
theorem dX9_collect_19 : decode cX9_collect 19 = .ok (.iload_n 2, 1) := by decide +kernel
theorem dX9_collect_20 : decode cX9_collect 20 = .ok (.aload_n 0, 1) := by decide +kernel
theorem dX9_collect_21 : decode cX9_collect 21 = .ok (.getfield 25, 3) := by decide +kernel
theorem dX9_collect_24 : decode cX9_collect 24 = .ok (.if_icmp .ge 20, 3) := by decide +kernel
theorem dX9_collect_27 : decode cX9_collect 27 = .ok (.aload_n 0, 1) := by decide +kernel
theorem dX9_collect_28 : decode cX9_collect 28 = .ok (.iload_n 1, 1) := by decide +kernel
theorem dX9_collect_29 : decode cX9_collect 29 = .ok (.aload_n 0, 1) := by decide +kernel
theorem dX9_collect_30 : decode cX9_collect 30 = .ok (.getfield 21, 3) := by decide +kernel
theorem dX9_collect_33 : decode cX9_collect 33 = .ok (.iload_n 2, 1) := by decide +kernel
theorem dX9_collect_34 : decode cX9_collect 34 = .ok (.iaload, 1) := by decide +kernel
theorem dX9_collect_35 : decode cX9_collect 35 = .ok (.invokevirtual 83, 3) := by decide +kernel
theorem dX9_collect_38 : decode cX9_collect 38 = .ok (.iinc 2 1, 3) := by decide +kernel
theorem dX9_collect_41 : decode cX9_collect 41 = .ok (.goto (-28), 3) := by decide +kernel
theorem dX9_collect_44 : decode cX9_collect 44 = .ok (.return_, 1) := by decide +kernel
theorem dX9_visitNext_0 : decode cX9_visitNext 0 = .ok (.aload_n 0, 1) := by decide +kernel
theorem dX9_visitNext_1 : decode cX9_visitNext 1 = .ok (.iload_n 1, 1) := by decide +kernel
theorem dX9_visitNext_2 : decode cX9_visitNext 2 = .ok (.aload_n 0, 1) := by decide +kernel
theorem dX9_visitNext_3 : decode cX9_visitNext 3 = .ok (.getfield 29, 3) := by decide +kernel
theorem dX9_visitNext_6 : decode cX9_visitNext 6 = .ok (.iload_n 2, 1) := by decide +kernel
theorem dX9_visitNext_7 : decode cX9_visitNext 7 = .ok (.iconst 0, 1) := by decide +kernel
theorem dX9_visitNext_8 : decode cX9_visitNext 8 = .ok (.invokevirtual 76, 3) := by decide +kernel
theorem dX9_visitNext_11 : decode cX9_visitNext 11 = .ok (.invokevirtual 86, 3) := by decide +kernel
theorem dX9_visitNext_14 : decode cX9_visitNext 14 = .ok (.aload_n 0, 1) := by decide +kernel
theorem dX9_visitNext_15 : decode cX9_visitNext 15 = .ok (.iload_n 1, 1) := by decide +kernel
theorem dX9_visitNext_16 : decode cX9_visitNext 16 = .ok (.aload_n 0, 1) := by decide +kernel
theorem dX9_visitNext_17 : decode cX9_visitNext 17 = .ok (.getfield 29, 3) := by decide +kernel
theorem dX9_visitNext_20 : decode cX9_visitNext 20 = .ok (.iload_n 2, 1) := by decide +kernel
theorem dX9_visitNext_21 : decode cX9_visitNext 21 = .ok (.iconst 1, 1) := by decide +kernel
theorem dX9_visitNext_22 : decode cX9_visitNext 22 = .ok (.invokevirtual 76, 3) := by decide +kernel
theorem dX9_visitNext_25 : decode cX9_visitNext 25 = .ok (.invokevirtual 86, 3) := by decide +kernel
theorem dX9_visitNext_28 : decode cX9_visitNext 28 = .ok (.return_, 1) := by decide +kernel
theorem dX9_visit_0 : decode cX9_visit 0 = .ok (.aload_n 0, 1) := by decide +kernel
theorem dX9_visit_1 : decode cX9_visit 1 = .ok (.getfield 29, 3) := by decide +kernel
theorem dX9_visit_4 : decode cX9_visit 4 = .ok (.iload_n 2, 1) := by decide +kernel
theorem dX9_visit_5 : decode cX9_visit 5 = .ok (.invokevirtual 89, 3) := by decide +kernel
theorem dX9_visit_8 : decode cX9_visit 8 = .ok (.ifCond .eq 32, 3) := by decide +kernel
theorem dX9_visit_11 : decode cX9_visit 11 = .ok (.aload_n 0, 1) := by decide +kernel
theorem dX9_visit_12 : decode cX9_visit 12 = .ok (.getfield 18, 3) := by decide +kernel
theorem dX9_visit_15 : decode cX9_visit 15 = .ok (.iload_n 1, 1) := by decide +kernel
theorem dX9_visit_16 : decode cX9_visit 16 = .ok (.iload_n 2, 1) := by decide +kernel
theorem dX9_visit_17 : decode cX9_visit 17 = .ok (.invokevirtual 63, 3) := by decide +kernel
theorem dX9_visit_20 : decode cX9_visit 20 = .ok (.ifCond .ne 20, 3) := by decide +kernel
theorem dX9_visit_23 : decode cX9_visit 23 = .ok (.iload_n 2, 1) := by decide +kernel
theorem dX9_visit_24 : decode cX9_visit 24 = .ok (.iload_n 1, 1) := by decide +kernel
theorem dX9_visit_25 : decode cX9_visit 25 = .ok (.if_icmp .eq 16, 3) := by decide +kernel
theorem dX9_visit_28 : decode cX9_visit 28 = .ok (.aload_n 0, 1) := by decide +kernel
theorem dX9_visit_29 : decode cX9_visit 29 = .ok (.getfield 12, 3) := by decide +kernel
theorem dX9_visit_32 : decode cX9_visit 32 = .ok (.iload_n 1, 1) := by decide +kernel
theorem dX9_visit_33 : decode cX9_visit 33 = .ok (.iload_n 2, 1) := by decide +kernel
theorem dX9_visit_34 : decode cX9_visit 34 = .ok (.invokevirtual 63, 3) := by decide +kernel
theorem dX9_visit_37 : decode cX9_visit 37 = .ok (.ifCond .eq 4, 3) := by decide +kernel
theorem dX9_visit_40 : decode cX9_visit 40 = .ok (.return_, 1) := by decide +kernel
theorem dX9_visit_41 : decode cX9_visit 41 = .ok (.aload_n 0, 1) := by decide +kernel
theorem dX9_visit_42 : decode cX9_visit 42 = .ok (.getfield 18, 3) := by decide +kernel
theorem dX9_visit_45 : decode cX9_visit 45 = .ok (.iload_n 1, 1) := by decide +kernel
theorem dX9_visit_46 : decode cX9_visit 46 = .ok (.iload_n 2, 1) := by decide +kernel
theorem dX9_visit_47 : decode cX9_visit 47 = .ok (.invokevirtual 67, 3) := by decide +kernel
theorem dX9_visit_50 : decode cX9_visit 50 = .ok (.aload_n 0, 1) := by decide +kernel
theorem dX9_visit_51 : decode cX9_visit 51 = .ok (.getfield 25, 3) := by decide +kernel
theorem dX9_visit_54 : decode cX9_visit 54 = .ok (.bipush 100, 2) := by decide +kernel
theorem dX9_visit_56 : decode cX9_visit 56 = .ok (.if_icmp .ge 23, 3) := by decide +kernel
theorem dX9_visit_59 : decode cX9_visit 59 = .ok (.aload_n 0, 1) := by decide +kernel
theorem dX9_visit_60 : decode cX9_visit 60 = .ok (.getfield 21, 3) := by decide +kernel
theorem dX9_visit_63 : decode cX9_visit 63 = .ok (.aload_n 0, 1) := by decide +kernel
theorem dX9_visit_64 : decode cX9_visit 64 = .ok (.getfield 25, 3) := by decide +kernel
theorem dX9_visit_67 : decode cX9_visit 67 = .ok (.iload_n 2, 1) := by decide +kernel
theorem dX9_visit_68 : decode cX9_visit 68 = .ok (.iastore, 1) := by decide +kernel
theorem dX9_visit_69 : decode cX9_visit 69 = .ok (.aload_n 0, 1) := by decide +kernel
theorem dX9_visit_70 : decode cX9_visit 70 = .ok (.dup, 1) := by decide +kernel
theorem dX9_visit_71 : decode cX9_visit 71 = .ok (.getfield 25, 3) := by decide +kernel
theorem dX9_visit_74 : decode cX9_visit 74 = .ok (.iconst 1, 1) := by decide +kernel
theorem dX9_visit_75 : decode cX9_visit 75 = .ok (.iadd, 1) := by decide +kernel
theorem dX9_visit_76 : decode cX9_visit 76 = .ok (.putfield 25, 3) := by decide +kernel
theorem dX9_visit_79 : decode cX9_visit 79 = .ok (.return_, 1) := by decide +kernel
theorem dX10_init_0 : decode cX10_init 0 = .ok (.aload_n 0, 1) := by decide +kernel
theorem dX10_init_1 : decode cX10_init 1 = .ok (.invokespecial 3, 3) := by decide +kernel
theorem dX10_init_4 : decode cX10_init 4 = .ok (.aload_n 0, 1) := by decide +kernel
theorem dX10_init_5 : decode cX10_init 5 = .ok (.bipush 100, 2) := by decide +kernel
theorem dX10_init_7 : decode cX10_init 7 = .ok (.newarray .int, 2) := by decide +kernel
theorem dX10_init_9 : decode cX10_init 9 = .ok (.putfield 9, 3) := by decide +kernel
theorem dX10_init_12 : decode cX10_init 12 = .ok (.aload_n 0, 1) := by decide +kernel
theorem dX10_init_13 : decode cX10_init 13 = .ok (.bipush 100, 2) := by decide +kernel
theorem dX10_init_15 : decode cX10_init 15 = .ok (.newarray .int, 2) := by decide +kernel
theorem dX10_init_17 : decode cX10_init 17 = .ok (.putfield 15, 3) := by decide +kernel
theorem dX10_init_20 : decode cX10_init 20 = .ok (.aload_n 0, 1) := by decide +kernel
theorem dX10_init_21 : decode cX10_init 21 = .ok (.bipush 100, 2) := by decide +kernel
theorem dX10_init_23 : decode cX10_init 23 = .ok (.newarray .boolean, 2) := by decide +kernel
theorem dX10_init_25 : decode cX10_init 25 = .ok (.putfield 18, 3) := by decide +kernel
theorem dX10_init_28 : decode cX10_init 28 = .ok (.aload_n 0, 1) := by decide +kernel
theorem dX10_init_29 : decode cX10_init 29 = .ok (.iconst 0, 1) := by decide +kernel
theorem dX10_init_30 : decode cX10_init 30 = .ok (.putfield 22, 3) := by decide +kernel
theorem dX10_init_33 : decode cX10_init 33 = .ok (.aload_n 0, 1) := by decide +kernel
theorem dX10_init_34 : decode cX10_init 34 = .ok (.aload_n 1, 1) := by decide +kernel
theorem dX10_init_35 : decode cX10_init 35 = .ok (.putfield 26, 3) := by decide +kernel
theorem dX10_init_38 : decode cX10_init 38 = .ok (.return_, 1) := by decide +kernel
theorem dX10_fits_0 : decode cX10_fits 0 = .ok (.aload_n 0, 1) := by decide +kernel
theorem dX10_fits_1 : decode cX10_fits 1 = .ok (.getfield 26, 3) := by decide +kernel
theorem dX10_fits_4 : decode cX10_fits 4 = .ok (.invokevirtual 30, 3) := by decide +kernel
theorem dX10_fits_7 : decode cX10_fits 7 = .ok (.ifCond .le 28, 3) := by decide +kernel
theorem dX10_fits_10 : decode cX10_fits 10 = .ok (.aload_n 0, 1) := by decide +kernel
theorem dX10_fits_11 : decode cX10_fits 11 = .ok (.invokevirtual 36, 3) := by decide +kernel
theorem dX10_fits_14 : decode cX10_fits 14 = .ok (.ifCond .eq 21, 3) := by decide +kernel
theorem dX10_fits_17 : decode cX10_fits 17 = .ok (.aload_n 0, 1) := by decide +kernel
theorem dX10_fits_18 : decode cX10_fits 18 = .ok (.invokevirtual 40, 3) := by decide +kernel
theorem dX10_fits_21 : decode cX10_fits 21 = .ok (.ifCond .eq 14, 3) := by decide +kernel
theorem dX10_fits_24 : decode cX10_fits 24 = .ok (.aload_n 0, 1) := by decide +kernel
theorem dX10_fits_25 : decode cX10_fits 25 = .ok (.invokevirtual 43, 3) := by decide +kernel
theorem dX10_fits_28 : decode cX10_fits 28 = .ok (.ifCond .eq 7, 3) := by decide +kernel
theorem dX10_fits_31 : decode cX10_fits 31 = .ok (.iconst 1, 1) := by decide +kernel
theorem dX10_fits_32 : decode cX10_fits 32 = .ok (.goto 4, 3) := by decide +kernel
theorem dX10_fits_35 : decode cX10_fits 35 = .ok (.iconst 0, 1) := by decide +kernel
theorem dX10_fits_36 : decode cX10_fits 36 = .ok (.ireturn, 1) := by decide +kernel
theorem dX10_reachedCount_0 : decode cX10_reachedCount 0 = .ok (.aload_n 0, 1) := by decide +kernel
theorem dX10_reachedCount_1 : decode cX10_reachedCount 1 = .ok (.getfield 22, 3) := by decide +kernel
theorem dX10_reachedCount_4 : decode cX10_reachedCount 4 = .ok (.ireturn, 1) := by decide +kernel
theorem dX10_heightAt_0 : decode cX10_heightAt 0 = .ok (.aload_n 0, 1) := by decide +kernel
theorem dX10_heightAt_1 : decode cX10_heightAt 1 = .ok (.getfield 26, 3) := by decide +kernel
theorem dX10_heightAt_4 : decode cX10_heightAt 4 = .ok (.iload_n 1, 1) := by decide +kernel
theorem dX10_heightAt_5 : decode cX10_heightAt 5 = .ok (.invokevirtual 46, 3) := by decide +kernel
theorem dX10_heightAt_8 : decode cX10_heightAt 8 = .ok (.ifCond .eq 12, 3) := by decide +kernel
theorem dX10_heightAt_11 : decode cX10_heightAt 11 = .ok (.aload_n 0, 1) := by decide +kernel
theorem dX10_heightAt_12 : decode cX10_heightAt 12 = .ok (.getfield 9, 3) := by decide +kernel
theorem dX10_heightAt_15 : decode cX10_heightAt 15 = .ok (.iload_n 1, 1) := by decide +kernel
theorem dX10_heightAt_16 : decode cX10_heightAt 16 = .ok (.iaload, 1) := by decide +kernel
theorem dX10_heightAt_17 : decode cX10_heightAt 17 = .ok (.goto 4, 3) := by decide +kernel
theorem dX10_heightAt_20 : decode cX10_heightAt 20 = .ok (.iconst (-1), 1) := by decide +kernel
theorem dX10_heightAt_21 : decode cX10_heightAt 21 = .ok (.ireturn, 1) := by decide +kernel
theorem dX10_partsFit_0 : decode cX10_partsFit 0 = .ok (.iconst 0, 1) := by decide +kernel
theorem dX10_partsFit_1 : decode cX10_partsFit 1 = .ok (.istore_n 1, 1) := by decide +kernel
theorem dX10_partsFit_2 : decode cX10_partsFit 2 = .ok (.iload_n 1, 1) := by decide +kernel
theorem dX10_partsFit_3 : decode cX10_partsFit 3 = .ok (.aload_n 0, 1) := by decide +kernel
theorem dX10_partsFit_4 : decode cX10_partsFit 4 = .ok (.getfield 26, 3) := by decide +kernel
theorem dX10_partsFit_7 : decode cX10_partsFit 7 = .ok (.invokevirtual 30, 3) := by decide +kernel
theorem dX10_partsFit_10 : decode cX10_partsFit 10 = .ok (.if_icmp .ge 83, 3) := by decide +kernel
theorem dX10_partsFit_13 : decode cX10_partsFit 13 = .ok (.aload_n 0, 1) := by decide +kernel
theorem dX10_partsFit_14 : decode cX10_partsFit 14 = .ok (.getfield 26, 3) := by decide +kernel
theorem dX10_partsFit_17 : decode cX10_partsFit 17 = .ok (.iload_n 1, 1) := by decide +kernel
theorem dX10_partsFit_18 : decode cX10_partsFit 18 = .ok (.invokevirtual 50, 3) := by decide +kernel
theorem dX10_partsFit_21 : decode cX10_partsFit 21 = .ok (.istore_n 2, 1) := by decide +kernel
theorem dX10_partsFit_22 : decode cX10_partsFit 22 = .ok (.aload_n 0, 1) := by decide +kernel
theorem dX10_partsFit_23 : decode cX10_partsFit 23 = .ok (.getfield 26, 3) := by decide +kernel
theorem dX10_partsFit_26 : decode cX10_partsFit 26 = .ok (.iload_n 1, 1) := by decide +kernel
theorem dX10_partsFit_27 : decode cX10_partsFit 27 = .ok (.invokevirtual 54, 3) := by decide +kernel
theorem dX10_partsFit_30 : decode cX10_partsFit 30 = .ok (.istore_n 3, 1) := by decide +kernel
theorem dX10_partsFit_31 : decode cX10_partsFit 31 = .ok (.iload_n 2, 1) := by decide +kernel
theorem dX10_partsFit_32 : decode cX10_partsFit 32 = .ok (.ifCond .lt 9, 3) := by decide +kernel
theorem dX10_partsFit_35 : decode cX10_partsFit 35 = .ok (.iload_n 2, 1) := by decide +kernel
theorem dX10_partsFit_36 : decode cX10_partsFit 36 = .ok (.bipush 9, 2) := by decide +kernel
theorem dX10_partsFit_38 : decode cX10_partsFit 38 = .ok (.if_icmp .le 5, 3) := by decide +kernel
theorem dX10_partsFit_41 : decode cX10_partsFit 41 = .ok (.iconst 0, 1) := by decide +kernel
theorem dX10_partsFit_42 : decode cX10_partsFit 42 = .ok (.ireturn, 1) := by decide +kernel
theorem dX10_partsFit_43 : decode cX10_partsFit 43 = .ok (.iload_n 2, 1) := by decide +kernel
theorem dX10_partsFit_44 : decode cX10_partsFit 44 = .ok (.iconst 1, 1) := by decide +kernel
theorem dX10_partsFit_45 : decode cX10_partsFit 45 = .ok (.if_icmp .eq 8, 3) := by decide +kernel
theorem dX10_partsFit_48 : decode cX10_partsFit 48 = .ok (.iload_n 2, 1) := by decide +kernel
theorem dX10_partsFit_49 : decode cX10_partsFit 49 = .ok (.iconst 2, 1) := by decide +kernel
theorem dX10_partsFit_50 : decode cX10_partsFit 50 = .ok (.if_icmp .ne 12, 3) := by decide +kernel
theorem dX10_partsFit_53 : decode cX10_partsFit 53 = .ok (.iload_n 3, 1) := by decide +kernel
theorem dX10_partsFit_54 : decode cX10_partsFit 54 = .ok (.invokestatic 57, 3) := by decide +kernel
theorem dX10_partsFit_57 : decode cX10_partsFit 57 = .ok (.ifCond .ne 5, 3) := by decide +kernel
theorem dX10_partsFit_60 : decode cX10_partsFit 60 = .ok (.iconst 0, 1) := by decide +kernel
theorem dX10_partsFit_61 : decode cX10_partsFit 61 = .ok (.ireturn, 1) := by decide +kernel
theorem dX10_partsFit_62 : decode cX10_partsFit 62 = .ok (.iload_n 2, 1) := by decide +kernel
theorem dX10_partsFit_63 : decode cX10_partsFit 63 = .ok (.bipush 7, 2) := by decide +kernel
theorem dX10_partsFit_65 : decode cX10_partsFit 65 = .ok (.if_icmp .eq 9, 3) := by decide +kernel
theorem dX10_partsFit_68 : decode cX10_partsFit 68 = .ok (.iload_n 2, 1) := by decide +kernel
theorem dX10_partsFit_69 : decode cX10_partsFit 69 = .ok (.bipush 8, 2) := by decide +kernel
theorem dX10_partsFit_71 : decode cX10_partsFit 71 = .ok (.if_icmp .ne 16, 3) := by decide +kernel
theorem dX10_partsFit_74 : decode cX10_partsFit 74 = .ok (.aload_n 0, 1) := by decide +kernel
theorem dX10_partsFit_75 : decode cX10_partsFit 75 = .ok (.getfield 26, 3) := by decide +kernel
theorem dX10_partsFit_78 : decode cX10_partsFit 78 = .ok (.iload_n 3, 1) := by decide +kernel
theorem dX10_partsFit_79 : decode cX10_partsFit 79 = .ok (.invokevirtual 46, 3) := by decide +kernel
theorem dX10_partsFit_82 : decode cX10_partsFit 82 = .ok (.ifCond .ne 5, 3) := by decide +kernel
theorem dX10_partsFit_85 : decode cX10_partsFit 85 = .ok (.iconst 0, 1) := by decide +kernel
theorem dX10_partsFit_86 : decode cX10_partsFit 86 = .ok (.ireturn, 1) := by decide +kernel
theorem dX10_partsFit_87 : decode cX10_partsFit 87 = .ok (.iinc 1 1, 3) := by decide +kernel
theorem dX10_partsFit_90 : decode cX10_partsFit 90 = .ok (.goto (-88), 3) := by decide +kernel
theorem dX10_partsFit_93 : decode cX10_partsFit 93 = .ok (.iconst 1, 1) := by decide +kernel
theorem dX10_partsFit_94 : decode cX10_partsFit 94 = .ok (.ireturn, 1) := by decide +kernel
theorem dX10_waysFit_0 : decode cX10_waysFit 0 = .ok (.iconst 0, 1) := by decide +kernel
theorem dX10_waysFit_1 : decode cX10_waysFit 1 = .ok (.istore_n 1, 1) := by decide +kernel
theorem dX10_waysFit_2 : decode cX10_waysFit 2 = .ok (.iload_n 1, 1) := by decide +kernel
theorem dX10_waysFit_3 : decode cX10_waysFit 3 = .ok (.bipush 100, 2) := by decide +kernel
theorem dX10_waysFit_5 : decode cX10_waysFit 5 = .ok (.if_icmp .ge 16, 3) := by decide +kernel
theorem dX10_waysFit_8 : decode cX10_waysFit 8 = .ok (.aload_n 0, 1) := by decide +kernel
theorem dX10_waysFit_9 : decode cX10_waysFit 9 = .ok (.getfield 9, 3) := by decide +kernel
theorem dX10_waysFit_12 : decode cX10_waysFit 12 = .ok (.iload_n 1, 1) := by decide +kernel
theorem dX10_waysFit_13 : decode cX10_waysFit 13 = .ok (.iconst (-1), 1) := by decide +kernel
theorem dX10_waysFit_14 : decode cX10_waysFit 14 = .ok (.iastore, 1) := by decide +kernel
theorem dX10_waysFit_15 : decode cX10_waysFit 15 = .ok (.iinc 1 1, 3) := by decide +kernel
theorem dX10_waysFit_18 : decode cX10_waysFit 18 = .ok (.goto (-16), 3) := by decide +kernel
theorem dX10_waysFit_21 : decode cX10_waysFit 21 = .ok (.aload_n 0, 1) := by decide +kernel
theorem dX10_waysFit_22 : decode cX10_waysFit 22 = .ok (.getfield 9, 3) := by decide +kernel
theorem dX10_waysFit_25 : decode cX10_waysFit 25 = .ok (.iconst 0, 1) := by decide +kernel
theorem dX10_waysFit_26 : decode cX10_waysFit 26 = .ok (.iconst 0, 1) := by decide +kernel
theorem dX10_waysFit_27 : decode cX10_waysFit 27 = .ok (.iastore, 1) := by decide +kernel
theorem dX10_waysFit_28 : decode cX10_waysFit 28 = .ok (.aload_n 0, 1) := by decide +kernel
theorem dX10_waysFit_29 : decode cX10_waysFit 29 = .ok (.getfield 15, 3) := by decide +kernel
theorem dX10_waysFit_32 : decode cX10_waysFit 32 = .ok (.iconst 0, 1) := by decide +kernel
theorem dX10_waysFit_33 : decode cX10_waysFit 33 = .ok (.iconst 0, 1) := by decide +kernel
theorem dX10_waysFit_34 : decode cX10_waysFit 34 = .ok (.iastore, 1) := by decide +kernel
theorem dX10_waysFit_35 : decode cX10_waysFit 35 = .ok (.aload_n 0, 1) := by decide +kernel
theorem dX10_waysFit_36 : decode cX10_waysFit 36 = .ok (.iconst 1, 1) := by decide +kernel
theorem dX10_waysFit_37 : decode cX10_waysFit 37 = .ok (.putfield 22, 3) := by decide +kernel
theorem dX10_waysFit_40 : decode cX10_waysFit 40 = .ok (.iconst 0, 1) := by decide +kernel
theorem dX10_waysFit_41 : decode cX10_waysFit 41 = .ok (.istore_n 1, 1) := by decide +kernel
theorem dX10_waysFit_42 : decode cX10_waysFit 42 = .ok (.iload_n 1, 1) := by decide +kernel
theorem dX10_waysFit_43 : decode cX10_waysFit 43 = .ok (.bipush 100, 2) := by decide +kernel
theorem dX10_waysFit_45 : decode cX10_waysFit 45 = .ok (.if_icmp .ge 32, 3) := by decide +kernel
theorem dX10_waysFit_48 : decode cX10_waysFit 48 = .ok (.iload_n 1, 1) := by decide +kernel
theorem dX10_waysFit_49 : decode cX10_waysFit 49 = .ok (.aload_n 0, 1) := by decide +kernel
theorem dX10_waysFit_50 : decode cX10_waysFit 50 = .ok (.getfield 22, 3) := by decide +kernel
theorem dX10_waysFit_53 : decode cX10_waysFit 53 = .ok (.if_icmp .ge 24, 3) := by decide +kernel
theorem dX10_waysFit_56 : decode cX10_waysFit 56 = .ok (.aload_n 0, 1) := by decide +kernel
theorem dX10_waysFit_57 : decode cX10_waysFit 57 = .ok (.aload_n 0, 1) := by decide +kernel
theorem dX10_waysFit_58 : decode cX10_waysFit 58 = .ok (.getfield 15, 3) := by decide +kernel
theorem dX10_waysFit_61 : decode cX10_waysFit 61 = .ok (.iload_n 1, 1) := by decide +kernel
theorem dX10_waysFit_62 : decode cX10_waysFit 62 = .ok (.iaload, 1) := by decide +kernel
theorem dX10_waysFit_63 : decode cX10_waysFit 63 = .ok (.invokevirtual 60, 3) := by decide +kernel
theorem dX10_waysFit_66 : decode cX10_waysFit 66 = .ok (.ifCond .ne 5, 3) := by decide +kernel
theorem dX10_waysFit_69 : decode cX10_waysFit 69 = .ok (.iconst 0, 1) := by decide +kernel
theorem dX10_waysFit_70 : decode cX10_waysFit 70 = .ok (.ireturn, 1) := by decide +kernel
theorem dX10_waysFit_71 : decode cX10_waysFit 71 = .ok (.iinc 1 1, 3) := by decide +kernel
theorem dX10_waysFit_74 : decode cX10_waysFit 74 = .ok (.goto (-32), 3) := by decide +kernel
theorem dX10_waysFit_77 : decode cX10_waysFit 77 = .ok (.iconst 1, 1) := by decide +kernel
theorem dX10_waysFit_78 : decode cX10_waysFit 78 = .ok (.ireturn, 1) := by decide +kernel
theorem dX10_goesOnWell_0 : decode cX10_goesOnWell 0 = .ok (.aload_n 0, 1) := by decide +kernel
theorem dX10_goesOnWell_1 : decode cX10_goesOnWell 1 = .ok (.getfield 26, 3) := by decide +kernel
theorem dX10_goesOnWell_4 : decode cX10_goesOnWell 4 = .ok (.iload_n 1, 1) := by decide +kernel
theorem dX10_goesOnWell_5 : decode cX10_goesOnWell 5 = .ok (.invokevirtual 50, 3) := by decide +kernel
theorem dX10_goesOnWell_8 : decode cX10_goesOnWell 8 = .ok (.istore_n 2, 1) := by decide +kernel
theorem dX10_goesOnWell_9 : decode cX10_goesOnWell 9 = .ok (.iload_n 2, 1) := by decide +kernel
theorem dX10_goesOnWell_10 : decode cX10_goesOnWell 10 = .ok (.bipush 9, 2) := by decide +kernel
theorem dX10_goesOnWell_12 : decode cX10_goesOnWell 12 = .ok (.if_icmp .ne 18, 3) := by decide +kernel
theorem dX10_goesOnWell_15 : decode cX10_goesOnWell 15 = .ok (.aload_n 0, 1) := by decide +kernel
theorem dX10_goesOnWell_16 : decode cX10_goesOnWell 16 = .ok (.getfield 9, 3) := by decide +kernel
theorem dX10_goesOnWell_19 : decode cX10_goesOnWell 19 = .ok (.iload_n 1, 1) := by decide +kernel
theorem dX10_goesOnWell_20 : decode cX10_goesOnWell 20 = .ok (.iaload, 1) := by decide +kernel
theorem dX10_goesOnWell_21 : decode cX10_goesOnWell 21 = .ok (.ifCond .ne 7, 3) := by decide +kernel
theorem dX10_goesOnWell_24 : decode cX10_goesOnWell 24 = .ok (.iconst 1, 1) := by decide +kernel
theorem dX10_goesOnWell_25 : decode cX10_goesOnWell 25 = .ok (.goto 4, 3) := by decide +kernel
theorem dX10_goesOnWell_28 : decode cX10_goesOnWell 28 = .ok (.iconst 0, 1) := by decide +kernel
theorem dX10_goesOnWell_29 : decode cX10_goesOnWell 29 = .ok (.ireturn, 1) := by decide +kernel
theorem dX10_goesOnWell_30 : decode cX10_goesOnWell 30 = .ok (.aload_n 0, 1) := by decide +kernel
theorem dX10_goesOnWell_31 : decode cX10_goesOnWell 31 = .ok (.getfield 9, 3) := by decide +kernel
theorem dX10_goesOnWell_34 : decode cX10_goesOnWell 34 = .ok (.iload_n 1, 1) := by decide +kernel
theorem dX10_goesOnWell_35 : decode cX10_goesOnWell 35 = .ok (.iaload, 1) := by decide +kernel
theorem dX10_goesOnWell_36 : decode cX10_goesOnWell 36 = .ok (.iload_n 2, 1) := by decide +kernel
theorem dX10_goesOnWell_37 : decode cX10_goesOnWell 37 = .ok (.invokestatic 63, 3) := by decide +kernel
theorem dX10_goesOnWell_40 : decode cX10_goesOnWell 40 = .ok (.isub, 1) := by decide +kernel
theorem dX10_goesOnWell_41 : decode cX10_goesOnWell 41 = .ok (.iload_n 2, 1) := by decide +kernel
theorem dX10_goesOnWell_42 : decode cX10_goesOnWell 42 = .ok (.invokestatic 66, 3) := by decide +kernel
theorem dX10_goesOnWell_45 : decode cX10_goesOnWell 45 = .ok (.iadd, 1) := by decide +kernel
theorem dX10_goesOnWell_46 : decode cX10_goesOnWell 46 = .ok (.istore_n 3, 1) := by decide +kernel
theorem dX10_goesOnWell_47 : decode cX10_goesOnWell 47 = .ok (.aload_n 0, 1) := by decide +kernel
theorem dX10_goesOnWell_48 : decode cX10_goesOnWell 48 = .ok (.getfield 9, 3) := by decide +kernel
theorem dX10_goesOnWell_51 : decode cX10_goesOnWell 51 = .ok (.iload_n 1, 1) := by decide +kernel
theorem dX10_goesOnWell_52 : decode cX10_goesOnWell 52 = .ok (.iaload, 1) := by decide +kernel
theorem dX10_goesOnWell_53 : decode cX10_goesOnWell 53 = .ok (.iload_n 2, 1) := by decide +kernel
theorem dX10_goesOnWell_54 : decode cX10_goesOnWell 54 = .ok (.invokestatic 63, 3) := by decide +kernel
theorem dX10_goesOnWell_57 : decode cX10_goesOnWell 57 = .ok (.if_icmp .lt 22, 3) := by decide +kernel
theorem dX10_goesOnWell_60 : decode cX10_goesOnWell 60 = .ok (.iload_n 3, 1) := by decide +kernel
theorem dX10_goesOnWell_61 : decode cX10_goesOnWell 61 = .ok (.bipush 8, 2) := by decide +kernel
theorem dX10_goesOnWell_63 : decode cX10_goesOnWell 63 = .ok (.if_icmp .gt 16, 3) := by decide +kernel
theorem dX10_goesOnWell_66 : decode cX10_goesOnWell 66 = .ok (.aload_n 0, 1) := by decide +kernel
theorem dX10_goesOnWell_67 : decode cX10_goesOnWell 67 = .ok (.getfield 26, 3) := by decide +kernel
theorem dX10_goesOnWell_70 : decode cX10_goesOnWell 70 = .ok (.iload_n 1, 1) := by decide +kernel
theorem dX10_goesOnWell_71 : decode cX10_goesOnWell 71 = .ok (.iconst 0, 1) := by decide +kernel
theorem dX10_goesOnWell_72 : decode cX10_goesOnWell 72 = .ok (.invokevirtual 69, 3) := by decide +kernel
theorem dX10_goesOnWell_75 : decode cX10_goesOnWell 75 = .ok (.iconst (-1), 1) := by decide +kernel
theorem dX10_goesOnWell_76 : decode cX10_goesOnWell 76 = .ok (.if_icmp .ne 5, 3) := by decide +kernel
theorem dX10_goesOnWell_79 : decode cX10_goesOnWell 79 = .ok (.iconst 0, 1) := by decide +kernel
theorem dX10_goesOnWell_80 : decode cX10_goesOnWell 80 = .ok (.ireturn, 1) := by decide +kernel
theorem dX10_goesOnWell_81 : decode cX10_goesOnWell 81 = .ok (.aload_n 0, 1) := by decide +kernel
theorem dX10_goesOnWell_82 : decode cX10_goesOnWell 82 = .ok (.aload_n 0, 1) := by decide +kernel
theorem dX10_goesOnWell_83 : decode cX10_goesOnWell 83 = .ok (.getfield 26, 3) := by decide +kernel
theorem dX10_goesOnWell_86 : decode cX10_goesOnWell 86 = .ok (.iload_n 1, 1) := by decide +kernel
theorem dX10_goesOnWell_87 : decode cX10_goesOnWell 87 = .ok (.iconst 0, 1) := by decide +kernel
theorem dX10_goesOnWell_88 : decode cX10_goesOnWell 88 = .ok (.invokevirtual 69, 3) := by decide +kernel
theorem dX10_goesOnWell_91 : decode cX10_goesOnWell 91 = .ok (.iload_n 3, 1) := by decide +kernel
theorem dX10_goesOnWell_92 : decode cX10_goesOnWell 92 = .ok (.invokevirtual 73, 3) := by decide +kernel
theorem dX10_goesOnWell_95 : decode cX10_goesOnWell 95 = .ok (.ifCond .eq 30, 3) := by decide +kernel
theorem dX10_goesOnWell_98 : decode cX10_goesOnWell 98 = .ok (.iload_n 2, 1) := by decide +kernel
theorem dX10_goesOnWell_99 : decode cX10_goesOnWell 99 = .ok (.bipush 7, 2) := by decide +kernel
theorem dX10_goesOnWell_101 : decode cX10_goesOnWell 101 = .ok (.if_icmp .ne 20, 3) := by decide +kernel
theorem dX10_goesOnWell_104 : decode cX10_goesOnWell 104 = .ok (.aload_n 0, 1) := by decide +kernel
theorem dX10_goesOnWell_105 : decode cX10_goesOnWell 105 = .ok (.aload_n 0, 1) := by decide +kernel
theorem dX10_goesOnWell_106 : decode cX10_goesOnWell 106 = .ok (.getfield 26, 3) := by decide +kernel
theorem dX10_goesOnWell_109 : decode cX10_goesOnWell 109 = .ok (.iload_n 1, 1) := by decide +kernel
theorem dX10_goesOnWell_110 : decode cX10_goesOnWell 110 = .ok (.iconst 1, 1) := by decide +kernel
theorem dX10_goesOnWell_111 : decode cX10_goesOnWell 111 = .ok (.invokevirtual 69, 3) := by decide +kernel
theorem dX10_goesOnWell_114 : decode cX10_goesOnWell 114 = .ok (.iload_n 3, 1) := by decide +kernel
theorem dX10_goesOnWell_115 : decode cX10_goesOnWell 115 = .ok (.invokevirtual 73, 3) := by decide +kernel
theorem dX10_goesOnWell_118 : decode cX10_goesOnWell 118 = .ok (.ifCond .eq 7, 3) := by decide +kernel
theorem dX10_goesOnWell_121 : decode cX10_goesOnWell 121 = .ok (.iconst 1, 1) := by decide +kernel
theorem dX10_goesOnWell_122 : decode cX10_goesOnWell 122 = .ok (.goto 4, 3) := by decide +kernel
theorem dX10_goesOnWell_125 : decode cX10_goesOnWell 125 = .ok (.iconst 0, 1) := by decide +kernel
theorem dX10_goesOnWell_126 : decode cX10_goesOnWell 126 = .ok (.ireturn, 1) := by decide +kernel
theorem dX10_comesTo_0 : decode cX10_comesTo 0 = .ok (.aload_n 0, 1) := by decide +kernel
theorem dX10_comesTo_1 : decode cX10_comesTo 1 = .ok (.getfield 26, 3) := by decide +kernel
theorem dX10_comesTo_4 : decode cX10_comesTo 4 = .ok (.iload_n 1, 1) := by decide +kernel
theorem dX10_comesTo_5 : decode cX10_comesTo 5 = .ok (.invokevirtual 46, 3) := by decide +kernel
theorem dX10_comesTo_8 : decode cX10_comesTo 8 = .ok (.ifCond .ne 5, 3) := by decide +kernel
theorem dX10_comesTo_11 : decode cX10_comesTo 11 = .ok (.iconst 0, 1) := by decide +kernel
theorem dX10_comesTo_12 : decode cX10_comesTo 12 = .ok (.ireturn, 1) := by decide +kernel
theorem dX10_comesTo_13 : decode cX10_comesTo 13 = .ok (.aload_n 0, 1) := by decide +kernel
theorem dX10_comesTo_14 : decode cX10_comesTo 14 = .ok (.getfield 9, 3) := by decide +kernel
theorem dX10_comesTo_17 : decode cX10_comesTo 17 = .ok (.iload_n 1, 1) := by decide +kernel
theorem dX10_comesTo_18 : decode cX10_comesTo 18 = .ok (.iaload, 1) := by decide +kernel
theorem dX10_comesTo_19 : decode cX10_comesTo 19 = .ok (.iconst (-1), 1) := by decide +kernel
theorem dX10_comesTo_20 : decode cX10_comesTo 20 = .ok (.if_icmp .ne 39, 3) := by decide +kernel
theorem dX10_comesTo_23 : decode cX10_comesTo 23 = .ok (.aload_n 0, 1) := by decide +kernel
theorem dX10_comesTo_24 : decode cX10_comesTo 24 = .ok (.getfield 22, 3) := by decide +kernel
theorem dX10_comesTo_27 : decode cX10_comesTo 27 = .ok (.bipush 100, 2) := by decide +kernel
theorem dX10_comesTo_29 : decode cX10_comesTo 29 = .ok (.if_icmp .ge 30, 3) := by decide +kernel
theorem dX10_comesTo_32 : decode cX10_comesTo 32 = .ok (.aload_n 0, 1) := by decide +kernel
theorem dX10_comesTo_33 : decode cX10_comesTo 33 = .ok (.getfield 9, 3) := by decide +kernel
theorem dX10_comesTo_36 : decode cX10_comesTo 36 = .ok (.iload_n 1, 1) := by decide +kernel
theorem dX10_comesTo_37 : decode cX10_comesTo 37 = .ok (.iload_n 2, 1) := by decide +kernel
theorem dX10_comesTo_38 : decode cX10_comesTo 38 = .ok (.iastore, 1) := by decide +kernel
theorem dX10_comesTo_39 : decode cX10_comesTo 39 = .ok (.aload_n 0, 1) := by decide +kernel
theorem dX10_comesTo_40 : decode cX10_comesTo 40 = .ok (.getfield 15, 3) := by decide +kernel
theorem dX10_comesTo_43 : decode cX10_comesTo 43 = .ok (.aload_n 0, 1) := by decide +kernel
theorem dX10_comesTo_44 : decode cX10_comesTo 44 = .ok (.getfield 22, 3) := by decide +kernel
theorem dX10_comesTo_47 : decode cX10_comesTo 47 = .ok (.iload_n 1, 1) := by decide +kernel
theorem dX10_comesTo_48 : decode cX10_comesTo 48 = .ok (.iastore, 1) := by decide +kernel
theorem dX10_comesTo_49 : decode cX10_comesTo 49 = .ok (.aload_n 0, 1) := by decide +kernel
theorem dX10_comesTo_50 : decode cX10_comesTo 50 = .ok (.dup, 1) := by decide +kernel
theorem dX10_comesTo_51 : decode cX10_comesTo 51 = .ok (.getfield 22, 3) := by decide +kernel
theorem dX10_comesTo_54 : decode cX10_comesTo 54 = .ok (.iconst 1, 1) := by decide +kernel
theorem dX10_comesTo_55 : decode cX10_comesTo 55 = .ok (.iadd, 1) := by decide +kernel
theorem dX10_comesTo_56 : decode cX10_comesTo 56 = .ok (.putfield 22, 3) := by decide +kernel
theorem dX10_comesTo_59 : decode cX10_comesTo 59 = .ok (.aload_n 0, 1) := by decide +kernel
theorem dX10_comesTo_60 : decode cX10_comesTo 60 = .ok (.getfield 9, 3) := by decide +kernel
theorem dX10_comesTo_63 : decode cX10_comesTo 63 = .ok (.iload_n 1, 1) := by decide +kernel
theorem dX10_comesTo_64 : decode cX10_comesTo 64 = .ok (.iaload, 1) := by decide +kernel
theorem dX10_comesTo_65 : decode cX10_comesTo 65 = .ok (.iload_n 2, 1) := by decide +kernel
theorem dX10_comesTo_66 : decode cX10_comesTo 66 = .ok (.if_icmp .ne 7, 3) := by decide +kernel
theorem dX10_comesTo_69 : decode cX10_comesTo 69 = .ok (.iconst 1, 1) := by decide +kernel
theorem dX10_comesTo_70 : decode cX10_comesTo 70 = .ok (.goto 4, 3) := by decide +kernel
theorem dX10_comesTo_73 : decode cX10_comesTo 73 = .ok (.iconst 0, 1) := by decide +kernel
theorem dX10_comesTo_74 : decode cX10_comesTo 74 = .ok (.ireturn, 1) := by decide +kernel
theorem dX10_taken_0 : decode cX10_taken 0 = .ok (.iload_n 0, 1) := by decide +kernel
theorem dX10_taken_1 : decode cX10_taken 1 = .ok (.invokestatic 77, 3) := by decide +kernel
theorem dX10_taken_4 : decode cX10_taken 4 = .ok (.ifCond .eq 5, 3) := by decide +kernel
theorem dX10_taken_7 : decode cX10_taken 7 = .ok (.iconst 2, 1) := by decide +kernel
theorem dX10_taken_8 : decode cX10_taken 8 = .ok (.ireturn, 1) := by decide +kernel
theorem dX10_taken_9 : decode cX10_taken 9 = .ok (.iload_n 0, 1) := by decide +kernel
theorem dX10_taken_10 : decode cX10_taken 10 = .ok (.iconst 2, 1) := by decide +kernel
theorem dX10_taken_11 : decode cX10_taken 11 = .ok (.if_icmp .eq 9, 3) := by decide +kernel
theorem dX10_taken_14 : decode cX10_taken 14 = .ok (.iload_n 0, 1) := by decide +kernel
theorem dX10_taken_15 : decode cX10_taken 15 = .ok (.bipush 7, 2) := by decide +kernel
theorem dX10_taken_17 : decode cX10_taken 17 = .ok (.if_icmp .ne 7, 3) := by decide +kernel
theorem dX10_taken_20 : decode cX10_taken 20 = .ok (.iconst 1, 1) := by decide +kernel
theorem dX10_taken_21 : decode cX10_taken 21 = .ok (.goto 4, 3) := by decide +kernel
theorem dX10_taken_24 : decode cX10_taken 24 = .ok (.iconst 0, 1) := by decide +kernel
theorem dX10_taken_25 : decode cX10_taken 25 = .ok (.ireturn, 1) := by decide +kernel
theorem dX10_given_0 : decode cX10_given 0 = .ok (.iload_n 0, 1) := by decide +kernel
theorem dX10_given_1 : decode cX10_given 1 = .ok (.ifCond .eq 15, 3) := by decide +kernel
theorem dX10_given_4 : decode cX10_given 4 = .ok (.iload_n 0, 1) := by decide +kernel
theorem dX10_given_5 : decode cX10_given 5 = .ok (.iconst 1, 1) := by decide +kernel
theorem dX10_given_6 : decode cX10_given 6 = .ok (.if_icmp .eq 10, 3) := by decide +kernel
theorem dX10_given_9 : decode cX10_given 9 = .ok (.iload_n 0, 1) := by decide +kernel
theorem dX10_given_10 : decode cX10_given 10 = .ok (.invokestatic 77, 3) := by decide +kernel
theorem dX10_given_13 : decode cX10_given 13 = .ok (.ifCond .eq 7, 3) := by decide +kernel
theorem dX10_given_16 : decode cX10_given 16 = .ok (.iconst 1, 1) := by decide +kernel
theorem dX10_given_17 : decode cX10_given 17 = .ok (.goto 4, 3) := by decide +kernel
theorem dX10_given_20 : decode cX10_given 20 = .ok (.iconst 0, 1) := by decide +kernel
theorem dX10_given_21 : decode cX10_given 21 = .ok (.ireturn, 1) := by decide +kernel
theorem dX10_allCanEnd_0 : decode cX10_allCanEnd 0 = .ok (.iconst 0, 1) := by decide +kernel
theorem dX10_allCanEnd_1 : decode cX10_allCanEnd 1 = .ok (.istore_n 1, 1) := by decide +kernel
theorem dX10_allCanEnd_2 : decode cX10_allCanEnd 2 = .ok (.iload_n 1, 1) := by decide +kernel
theorem dX10_allCanEnd_3 : decode cX10_allCanEnd 3 = .ok (.bipush 100, 2) := by decide +kernel
theorem dX10_allCanEnd_5 : decode cX10_allCanEnd 5 = .ok (.if_icmp .ge 16, 3) := by decide +kernel
theorem dX10_allCanEnd_8 : decode cX10_allCanEnd 8 = .ok (.aload_n 0, 1) := by decide +kernel
theorem dX10_allCanEnd_9 : decode cX10_allCanEnd 9 = .ok (.getfield 18, 3) := by decide +kernel
theorem dX10_allCanEnd_12 : decode cX10_allCanEnd 12 = .ok (.iload_n 1, 1) := by decide +kernel
theorem dX10_allCanEnd_13 : decode cX10_allCanEnd 13 = .ok (.iconst 0, 1) := by decide +kernel
theorem dX10_allCanEnd_14 : decode cX10_allCanEnd 14 = .ok (.bastore, 1) := by decide +kernel
theorem dX10_allCanEnd_15 : decode cX10_allCanEnd 15 = .ok (.iinc 1 1, 3) := by decide +kernel
theorem dX10_allCanEnd_18 : decode cX10_allCanEnd 18 = .ok (.goto (-16), 3) := by decide +kernel
theorem dX10_allCanEnd_21 : decode cX10_allCanEnd 21 = .ok (.iconst 0, 1) := by decide +kernel
theorem dX10_allCanEnd_22 : decode cX10_allCanEnd 22 = .ok (.istore_n 1, 1) := by decide +kernel
theorem dX10_allCanEnd_23 : decode cX10_allCanEnd 23 = .ok (.iconst 1, 1) := by decide +kernel
theorem dX10_allCanEnd_24 : decode cX10_allCanEnd 24 = .ok (.istore_n 2, 1) := by decide +kernel
theorem dX10_allCanEnd_25 : decode cX10_allCanEnd 25 = .ok (.iconst 0, 1) := by decide +kernel
theorem dX10_allCanEnd_26 : decode cX10_allCanEnd 26 = .ok (.istore_n 3, 1) := by decide +kernel
theorem dX10_allCanEnd_27 : decode cX10_allCanEnd 27 = .ok (.iload_n 3, 1) := by decide +kernel
theorem dX10_allCanEnd_28 : decode cX10_allCanEnd 28 = .ok (.bipush 100, 2) := by decide +kernel
theorem dX10_allCanEnd_30 : decode cX10_allCanEnd 30 = .ok (.if_icmp .ge 22, 3) := by decide +kernel
theorem dX10_allCanEnd_33 : decode cX10_allCanEnd 33 = .ok (.iload_n 2, 1) := by decide +kernel
theorem dX10_allCanEnd_34 : decode cX10_allCanEnd 34 = .ok (.ifCond .le 18, 3) := by decide +kernel
theorem dX10_allCanEnd_37 : decode cX10_allCanEnd 37 = .ok (.aload_n 0, 1) := by decide +kernel
theorem dX10_allCanEnd_38 : decode cX10_allCanEnd 38 = .ok (.invokevirtual 80, 3) := by decide +kernel
theorem dX10_allCanEnd_41 : decode cX10_allCanEnd 41 = .ok (.istore_n 2, 1) := by decide +kernel
theorem dX10_allCanEnd_42 : decode cX10_allCanEnd 42 = .ok (.iload_n 1, 1) := by decide +kernel
theorem dX10_allCanEnd_43 : decode cX10_allCanEnd 43 = .ok (.iload_n 2, 1) := by decide +kernel
theorem dX10_allCanEnd_44 : decode cX10_allCanEnd 44 = .ok (.iadd, 1) := by decide +kernel
theorem dX10_allCanEnd_45 : decode cX10_allCanEnd 45 = .ok (.istore_n 1, 1) := by decide +kernel
theorem dX10_allCanEnd_46 : decode cX10_allCanEnd 46 = .ok (.iinc 3 1, 3) := by decide +kernel
theorem dX10_allCanEnd_49 : decode cX10_allCanEnd 49 = .ok (.goto (-22), 3) := by decide +kernel
theorem dX10_allCanEnd_52 : decode cX10_allCanEnd 52 = .ok (.iload_n 1, 1) := by decide +kernel
theorem dX10_allCanEnd_53 : decode cX10_allCanEnd 53 = .ok (.aload_n 0, 1) := by decide +kernel
theorem dX10_allCanEnd_54 : decode cX10_allCanEnd 54 = .ok (.getfield 22, 3) := by decide +kernel
theorem dX10_allCanEnd_57 : decode cX10_allCanEnd 57 = .ok (.if_icmp .ne 7, 3) := by decide +kernel
theorem dX10_allCanEnd_60 : decode cX10_allCanEnd 60 = .ok (.iconst 1, 1) := by decide +kernel
theorem dX10_allCanEnd_61 : decode cX10_allCanEnd 61 = .ok (.goto 4, 3) := by decide +kernel
theorem dX10_allCanEnd_64 : decode cX10_allCanEnd 64 = .ok (.iconst 0, 1) := by decide +kernel
theorem dX10_allCanEnd_65 : decode cX10_allCanEnd 65 = .ok (.ireturn, 1) := by decide +kernel
theorem dX10_findEnding_0 : decode cX10_findEnding 0 = .ok (.iconst 0, 1) := by decide +kernel
theorem dX10_findEnding_1 : decode cX10_findEnding 1 = .ok (.istore_n 1, 1) := by decide +kernel
theorem dX10_findEnding_2 : decode cX10_findEnding 2 = .ok (.aload_n 0, 1) := by decide +kernel
theorem dX10_findEnding_3 : decode cX10_findEnding 3 = .ok (.getfield 26, 3) := by decide +kernel
theorem dX10_findEnding_6 : decode cX10_findEnding 6 = .ok (.invokevirtual 30, 3) := by decide +kernel
theorem dX10_findEnding_9 : decode cX10_findEnding 9 = .ok (.iconst 1, 1) := by decide +kernel
theorem dX10_findEnding_10 : decode cX10_findEnding 10 = .ok (.isub, 1) := by decide +kernel
theorem dX10_findEnding_11 : decode cX10_findEnding 11 = .ok (.istore_n 2, 1) := by decide +kernel
theorem dX10_findEnding_12 : decode cX10_findEnding 12 = .ok (.iload_n 2, 1) := by decide +kernel
theorem dX10_findEnding_13 : decode cX10_findEnding 13 = .ok (.ifCond .lt 46, 3) := by decide +kernel
theorem dX10_findEnding_16 : decode cX10_findEnding 16 = .ok (.aload_n 0, 1) := by decide +kernel
theorem dX10_findEnding_17 : decode cX10_findEnding 17 = .ok (.getfield 9, 3) := by decide +kernel
theorem dX10_findEnding_20 : decode cX10_findEnding 20 = .ok (.iload_n 2, 1) := by decide +kernel
theorem dX10_findEnding_21 : decode cX10_findEnding 21 = .ok (.iaload, 1) := by decide +kernel
theorem dX10_findEnding_22 : decode cX10_findEnding 22 = .ok (.iconst (-1), 1) := by decide +kernel
theorem dX10_findEnding_23 : decode cX10_findEnding 23 = .ok (.if_icmp .eq 30, 3) := by decide +kernel
theorem dX10_findEnding_26 : decode cX10_findEnding 26 = .ok (.aload_n 0, 1) := by decide +kernel
theorem dX10_findEnding_27 : decode cX10_findEnding 27 = .ok (.getfield 18, 3) := by decide +kernel
theorem dX10_findEnding_30 : decode cX10_findEnding 30 = .ok (.iload_n 2, 1) := by decide +kernel
theorem dX10_findEnding_31 : decode cX10_findEnding 31 = .ok (.baload, 1) := by decide +kernel
theorem dX10_findEnding_32 : decode cX10_findEnding 32 = .ok (.ifCond .ne 21, 3) := by decide +kernel
theorem dX10_findEnding_35 : decode cX10_findEnding 35 = .ok (.aload_n 0, 1) := by decide +kernel
theorem dX10_findEnding_36 : decode cX10_findEnding 36 = .ok (.iload_n 2, 1) := by decide +kernel
theorem dX10_findEnding_37 : decode cX10_findEnding 37 = .ok (.invokevirtual 83, 3) := by decide +kernel
theorem dX10_findEnding_40 : decode cX10_findEnding 40 = .ok (.ifCond .eq 13, 3) := by decide +kernel
theorem dX10_findEnding_43 : decode cX10_findEnding 43 = .ok (.aload_n 0, 1) := by decide +kernel
theorem dX10_findEnding_44 : decode cX10_findEnding 44 = .ok (.getfield 18, 3) := by decide +kernel
theorem dX10_findEnding_47 : decode cX10_findEnding 47 = .ok (.iload_n 2, 1) := by decide +kernel
theorem dX10_findEnding_48 : decode cX10_findEnding 48 = .ok (.iconst 1, 1) := by decide +kernel
theorem dX10_findEnding_49 : decode cX10_findEnding 49 = .ok (.bastore, 1) := by decide +kernel
theorem dX10_findEnding_50 : decode cX10_findEnding 50 = .ok (.iinc 1 1, 3) := by decide +kernel
theorem dX10_findEnding_53 : decode cX10_findEnding 53 = .ok (.iinc 2 (-1), 3) := by decide +kernel
theorem dX10_findEnding_56 : decode cX10_findEnding 56 = .ok (.goto (-44), 3) := by decide +kernel
theorem dX10_findEnding_59 : decode cX10_findEnding 59 = .ok (.iload_n 1, 1) := by decide +kernel
theorem dX10_findEnding_60 : decode cX10_findEnding 60 = .ok (.ireturn, 1) := by decide +kernel
theorem dX10_canEnd_0 : decode cX10_canEnd 0 = .ok (.aload_n 0, 1) := by decide +kernel
theorem dX10_canEnd_1 : decode cX10_canEnd 1 = .ok (.getfield 26, 3) := by decide +kernel
theorem dX10_canEnd_4 : decode cX10_canEnd 4 = .ok (.iload_n 1, 1) := by decide +kernel
theorem dX10_canEnd_5 : decode cX10_canEnd 5 = .ok (.invokevirtual 50, 3) := by decide +kernel
theorem dX10_canEnd_8 : decode cX10_canEnd 8 = .ok (.bipush 9, 2) := by decide +kernel
theorem dX10_canEnd_10 : decode cX10_canEnd 10 = .ok (.if_icmp .eq 35, 3) := by decide +kernel
theorem dX10_canEnd_13 : decode cX10_canEnd 13 = .ok (.aload_n 0, 1) := by decide +kernel
theorem dX10_canEnd_14 : decode cX10_canEnd 14 = .ok (.aload_n 0, 1) := by decide +kernel
theorem dX10_canEnd_15 : decode cX10_canEnd 15 = .ok (.getfield 26, 3) := by decide +kernel
theorem dX10_canEnd_18 : decode cX10_canEnd 18 = .ok (.iload_n 1, 1) := by decide +kernel
theorem dX10_canEnd_19 : decode cX10_canEnd 19 = .ok (.iconst 0, 1) := by decide +kernel
theorem dX10_canEnd_20 : decode cX10_canEnd 20 = .ok (.invokevirtual 69, 3) := by decide +kernel
theorem dX10_canEnd_23 : decode cX10_canEnd 23 = .ok (.invokevirtual 86, 3) := by decide +kernel
theorem dX10_canEnd_26 : decode cX10_canEnd 26 = .ok (.ifCond .ne 19, 3) := by decide +kernel
theorem dX10_canEnd_29 : decode cX10_canEnd 29 = .ok (.aload_n 0, 1) := by decide +kernel
theorem dX10_canEnd_30 : decode cX10_canEnd 30 = .ok (.aload_n 0, 1) := by decide +kernel
theorem dX10_canEnd_31 : decode cX10_canEnd 31 = .ok (.getfield 26, 3) := by decide +kernel
theorem dX10_canEnd_34 : decode cX10_canEnd 34 = .ok (.iload_n 1, 1) := by decide +kernel
theorem dX10_canEnd_35 : decode cX10_canEnd 35 = .ok (.iconst 1, 1) := by decide +kernel
theorem dX10_canEnd_36 : decode cX10_canEnd 36 = .ok (.invokevirtual 69, 3) := by decide +kernel
theorem dX10_canEnd_39 : decode cX10_canEnd 39 = .ok (.invokevirtual 86, 3) := by decide +kernel
theorem dX10_canEnd_42 : decode cX10_canEnd 42 = .ok (.ifCond .eq 7, 3) := by decide +kernel
theorem dX10_canEnd_45 : decode cX10_canEnd 45 = .ok (.iconst 1, 1) := by decide +kernel
theorem dX10_canEnd_46 : decode cX10_canEnd 46 = .ok (.goto 4, 3) := by decide +kernel
theorem dX10_canEnd_49 : decode cX10_canEnd 49 = .ok (.iconst 0, 1) := by decide +kernel
theorem dX10_canEnd_50 : decode cX10_canEnd 50 = .ok (.ireturn, 1) := by decide +kernel
theorem dX10_isEnding_0 : decode cX10_isEnding 0 = .ok (.aload_n 0, 1) := by decide +kernel
theorem dX10_isEnding_1 : decode cX10_isEnding 1 = .ok (.getfield 26, 3) := by decide +kernel
theorem dX10_isEnding_4 : decode cX10_isEnding 4 = .ok (.iload_n 1, 1) := by decide +kernel
theorem dX10_isEnding_5 : decode cX10_isEnding 5 = .ok (.invokevirtual 46, 3) := by decide +kernel
theorem dX10_isEnding_8 : decode cX10_isEnding 8 = .ok (.ifCond .eq 16, 3) := by decide +kernel
theorem dX10_isEnding_11 : decode cX10_isEnding 11 = .ok (.aload_n 0, 1) := by decide +kernel
theorem dX10_isEnding_12 : decode cX10_isEnding 12 = .ok (.getfield 18, 3) := by decide +kernel
theorem dX10_isEnding_15 : decode cX10_isEnding 15 = .ok (.iload_n 1, 1) := by decide +kernel
theorem dX10_isEnding_16 : decode cX10_isEnding 16 = .ok (.baload, 1) := by decide +kernel
theorem dX10_isEnding_17 : decode cX10_isEnding 17 = .ok (.ifCond .eq 7, 3) := by decide +kernel
theorem dX10_isEnding_20 : decode cX10_isEnding 20 = .ok (.iconst 1, 1) := by decide +kernel
theorem dX10_isEnding_21 : decode cX10_isEnding 21 = .ok (.goto 4, 3) := by decide +kernel
theorem dX10_isEnding_24 : decode cX10_isEnding 24 = .ok (.iconst 0, 1) := by decide +kernel
theorem dX10_isEnding_25 : decode cX10_isEnding 25 = .ok (.ireturn, 1) := by decide +kernel
theorem dX11_init_0 : decode cX11_init 0 = .ok (.aload_n 0, 1) := by decide +kernel
theorem dX11_init_1 : decode cX11_init 1 = .ok (.invokespecial 1, 3) := by decide +kernel
theorem dX11_init_4 : decode cX11_init 4 = .ok (.aload_n 0, 1) := by decide +kernel
theorem dX11_init_5 : decode cX11_init 5 = .ok (.new 7, 3) := by decide +kernel
theorem dX11_init_8 : decode cX11_init 8 = .ok (.dup, 1) := by decide +kernel
theorem dX11_init_9 : decode cX11_init 9 = .ok (.invokespecial 9, 3) := by decide +kernel
theorem dX11_init_12 : decode cX11_init 12 = .ok (.putfield 10, 3) := by decide +kernel
theorem dX11_init_15 : decode cX11_init 15 = .ok (.aload_n 0, 1) := by decide +kernel
theorem dX11_init_16 : decode cX11_init 16 = .ok (.bipush 8, 2) := by decide +kernel
theorem dX11_init_18 : decode cX11_init 18 = .ok (.newarray .int, 2) := by decide +kernel
theorem dX11_init_20 : decode cX11_init 20 = .ok (.putfield 16, 3) := by decide +kernel
theorem dX11_init_23 : decode cX11_init 23 = .ok (.aload_n 0, 1) := by decide +kernel
theorem dX11_init_24 : decode cX11_init 24 = .ok (.bipush 8, 2) := by decide +kernel
theorem dX11_init_26 : decode cX11_init 26 = .ok (.newarray .int, 2) := by decide +kernel
theorem dX11_init_28 : decode cX11_init 28 = .ok (.putfield 20, 3) := by decide +kernel
theorem dX11_init_31 : decode cX11_init 31 = .ok (.aload_n 0, 1) := by decide +kernel
theorem dX11_init_32 : decode cX11_init 32 = .ok (.bipush 8, 2) := by decide +kernel
theorem dX11_init_34 : decode cX11_init 34 = .ok (.newarray .int, 2) := by decide +kernel
theorem dX11_init_36 : decode cX11_init 36 = .ok (.putfield 23, 3) := by decide +kernel
theorem dX11_init_39 : decode cX11_init 39 = .ok (.aload_n 0, 1) := by decide +kernel
theorem dX11_init_40 : decode cX11_init 40 = .ok (.new 26, 3) := by decide +kernel
theorem dX11_init_43 : decode cX11_init 43 = .ok (.dup, 1) := by decide +kernel
theorem dX11_init_44 : decode cX11_init 44 = .ok (.invokespecial 28, 3) := by decide +kernel
theorem dX11_init_47 : decode cX11_init 47 = .ok (.putfield 29, 3) := by decide +kernel
theorem dX11_init_50 : decode cX11_init 50 = .ok (.aload_n 0, 1) := by decide +kernel
theorem dX11_init_51 : decode cX11_init 51 = .ok (.new 33, 3) := by decide +kernel
theorem dX11_init_54 : decode cX11_init 54 = .ok (.dup, 1) := by decide +kernel
theorem dX11_init_55 : decode cX11_init 55 = .ok (.aload_n 0, 1) := by decide +kernel
theorem dX11_init_56 : decode cX11_init 56 = .ok (.getfield 10, 3) := by decide +kernel
theorem dX11_init_59 : decode cX11_init 59 = .ok (.invokespecial 35, 3) := by decide +kernel
theorem dX11_init_62 : decode cX11_init 62 = .ok (.putfield 38, 3) := by decide +kernel
theorem dX11_init_65 : decode cX11_init 65 = .ok (.aload_n 0, 1) := by decide +kernel
theorem dX11_init_66 : decode cX11_init 66 = .ok (.new 42, 3) := by decide +kernel
theorem dX11_init_69 : decode cX11_init 69 = .ok (.dup, 1) := by decide +kernel
theorem dX11_init_70 : decode cX11_init 70 = .ok (.invokespecial 44, 3) := by decide +kernel
theorem dX11_init_73 : decode cX11_init 73 = .ok (.putfield 45, 3) := by decide +kernel
theorem dX11_init_76 : decode cX11_init 76 = .ok (.aload_n 0, 1) := by decide +kernel
theorem dX11_init_77 : decode cX11_init 77 = .ok (.new 49, 3) := by decide +kernel
theorem dX11_init_80 : decode cX11_init 80 = .ok (.dup, 1) := by decide +kernel
theorem dX11_init_81 : decode cX11_init 81 = .ok (.invokespecial 51, 3) := by decide +kernel
theorem dX11_init_84 : decode cX11_init 84 = .ok (.putfield 52, 3) := by decide +kernel
theorem dX11_init_87 : decode cX11_init 87 = .ok (.aload_n 0, 1) := by decide +kernel
theorem dX11_init_88 : decode cX11_init 88 = .ok (.new 56, 3) := by decide +kernel
theorem dX11_init_91 : decode cX11_init 91 = .ok (.dup, 1) := by decide +kernel
theorem dX11_init_92 : decode cX11_init 92 = .ok (.aload_n 0, 1) := by decide +kernel
theorem dX11_init_93 : decode cX11_init 93 = .ok (.getfield 52, 3) := by decide +kernel
theorem dX11_init_96 : decode cX11_init 96 = .ok (.invokespecial 58, 3) := by decide +kernel
theorem dX11_init_99 : decode cX11_init 99 = .ok (.putfield 61, 3) := by decide +kernel
theorem dX11_init_102 : decode cX11_init 102 = .ok (.aload_n 0, 1) := by decide +kernel
theorem dX11_init_103 : decode cX11_init 103 = .ok (.new 65, 3) := by decide +kernel
theorem dX11_init_106 : decode cX11_init 106 = .ok (.dup, 1) := by decide +kernel
theorem dX11_init_107 : decode cX11_init 107 = .ok (.aload_n 0, 1) := by decide +kernel
theorem dX11_init_108 : decode cX11_init 108 = .ok (.getfield 52, 3) := by decide +kernel
theorem dX11_init_111 : decode cX11_init 111 = .ok (.aload_n 0, 1) := by decide +kernel
theorem dX11_init_112 : decode cX11_init 112 = .ok (.getfield 61, 3) := by decide +kernel
theorem dX11_init_115 : decode cX11_init 115 = .ok (.invokespecial 67, 3) := by decide +kernel
theorem dX11_init_118 : decode cX11_init 118 = .ok (.putfield 70, 3) := by decide +kernel
theorem dX11_init_121 : decode cX11_init 121 = .ok (.aload_n 0, 1) := by decide +kernel
theorem dX11_init_122 : decode cX11_init 122 = .ok (.new 74, 3) := by decide +kernel
theorem dX11_init_125 : decode cX11_init 125 = .ok (.dup, 1) := by decide +kernel
theorem dX11_init_126 : decode cX11_init 126 = .ok (.aload_n 0, 1) := by decide +kernel
theorem dX11_init_127 : decode cX11_init 127 = .ok (.getfield 52, 3) := by decide +kernel
theorem dX11_init_130 : decode cX11_init 130 = .ok (.aload_n 0, 1) := by decide +kernel
theorem dX11_init_131 : decode cX11_init 131 = .ok (.getfield 61, 3) := by decide +kernel
theorem dX11_init_134 : decode cX11_init 134 = .ok (.aload_n 0, 1) := by decide +kernel
theorem dX11_init_135 : decode cX11_init 135 = .ok (.getfield 70, 3) := by decide +kernel
theorem dX11_init_138 : decode cX11_init 138 = .ok (.aload_n 0, 1) := by decide +kernel
theorem dX11_init_139 : decode cX11_init 139 = .ok (.getfield 10, 3) := by decide +kernel
theorem dX11_init_142 : decode cX11_init 142 = .ok (.invokespecial 76, 3) := by decide +kernel
theorem dX11_init_145 : decode cX11_init 145 = .ok (.putfield 79, 3) := by decide +kernel
theorem dX11_init_148 : decode cX11_init 148 = .ok (.aload_n 0, 1) := by decide +kernel
theorem dX11_init_149 : decode cX11_init 149 = .ok (.new 83, 3) := by decide +kernel
theorem dX11_init_152 : decode cX11_init 152 = .ok (.dup, 1) := by decide +kernel
theorem dX11_init_153 : decode cX11_init 153 = .ok (.aload_n 0, 1) := by decide +kernel
theorem dX11_init_154 : decode cX11_init 154 = .ok (.getfield 52, 3) := by decide +kernel
theorem dX11_init_157 : decode cX11_init 157 = .ok (.invokespecial 85, 3) := by decide +kernel
theorem dX11_init_160 : decode cX11_init 160 = .ok (.putfield 86, 3) := by decide +kernel
theorem dX11_init_163 : decode cX11_init 163 = .ok (.aload_n 0, 1) := by decide +kernel
theorem dX11_init_164 : decode cX11_init 164 = .ok (.aconst_null, 1) := by decide +kernel
theorem dX11_init_165 : decode cX11_init 165 = .ok (.putfield 90, 3) := by decide +kernel
theorem dX11_init_168 : decode cX11_init 168 = .ok (.aload_n 0, 1) := by decide +kernel
theorem dX11_init_169 : decode cX11_init 169 = .ok (.iconst 0, 1) := by decide +kernel
theorem dX11_init_170 : decode cX11_init 170 = .ok (.putfield 94, 3) := by decide +kernel
theorem dX11_init_173 : decode cX11_init 173 = .ok (.aload_n 0, 1) := by decide +kernel
theorem dX11_init_174 : decode cX11_init 174 = .ok (.iconst (-1), 1) := by decide +kernel
theorem dX11_init_175 : decode cX11_init 175 = .ok (.putfield 98, 3) := by decide +kernel
theorem dX11_init_178 : decode cX11_init 178 = .ok (.aload_n 0, 1) := by decide +kernel
theorem dX11_init_179 : decode cX11_init 179 = .ok (.iconst 0, 1) := by decide +kernel
theorem dX11_init_180 : decode cX11_init 180 = .ok (.putfield 102, 3) := by decide +kernel
theorem dX11_init_183 : decode cX11_init 183 = .ok (.aload_n 0, 1) := by decide +kernel
theorem dX11_init_184 : decode cX11_init 184 = .ok (.iconst 0, 1) := by decide +kernel
theorem dX11_init_185 : decode cX11_init 185 = .ok (.putfield 105, 3) := by decide +kernel
theorem dX11_init_188 : decode cX11_init 188 = .ok (.return_, 1) := by decide +kernel
theorem dX11_levels_0 : decode cX11_levels 0 = .ok (.iload_n 1, 1) := by decide +kernel
theorem dX11_levels_1 : decode cX11_levels 1 = .ok (.iconst 1, 1) := by decide +kernel
theorem dX11_levels_2 : decode cX11_levels 2 = .ok (.if_icmp .lt 9, 3) := by decide +kernel
theorem dX11_levels_5 : decode cX11_levels 5 = .ok (.iload_n 1, 1) := by decide +kernel
theorem dX11_levels_6 : decode cX11_levels 6 = .ok (.bipush 6, 2) := by decide +kernel
theorem dX11_levels_8 : decode cX11_levels 8 = .ok (.if_icmp .le 13, 3) := by decide +kernel
theorem dX11_levels_11 : decode cX11_levels 11 = .ok (.new 108, 3) := by decide +kernel
theorem dX11_levels_14 : decode cX11_levels 14 = .ok (.dup, 1) := by decide +kernel
theorem dX11_levels_15 : decode cX11_levels 15 = .ok (.ldc 110, 2) := by decide +kernel
theorem dX11_levels_17 : decode cX11_levels 17 = .ok (.invokespecial 112, 3) := by decide +kernel
theorem dX11_levels_20 : decode cX11_levels 20 = .ok (.athrow, 1) := by decide +kernel
theorem dX11_levels_21 : decode cX11_levels 21 = .ok (.iload_n 1, 1) := by decide +kernel
theorem dX11_levels_22 : decode cX11_levels 22 = .ok (.lload_n 2, 1) := by decide +kernel
theorem dX11_levels_23 : decode cX11_levels 23 = .ok (.invokestatic 115, 3) := by decide +kernel
theorem dX11_levels_26 : decode cX11_levels 26 = .ok (.ifCond .ne 13, 3) := by decide +kernel
theorem dX11_levels_29 : decode cX11_levels 29 = .ok (.new 108, 3) := by decide +kernel
theorem dX11_levels_32 : decode cX11_levels 32 = .ok (.dup, 1) := by decide +kernel
theorem dX11_levels_33 : decode cX11_levels 33 = .ok (.ldc 119, 2) := by decide +kernel
theorem dX11_levels_35 : decode cX11_levels 35 = .ok (.invokespecial 112, 3) := by decide +kernel
theorem dX11_levels_38 : decode cX11_levels 38 = .ok (.athrow, 1) := by decide +kernel
theorem dX11_levels_39 : decode cX11_levels 39 = .ok (.iload_n 1, 1) := by decide +kernel
theorem dX11_levels_40 : decode cX11_levels 40 = .ok (.lload_n 2, 1) := by decide +kernel
theorem dX11_levels_41 : decode cX11_levels 41 = .ok (.invokestatic 121, 3) := by decide +kernel
theorem dX11_levels_44 : decode cX11_levels 44 = .ok (.ifCond .ne 13, 3) := by decide +kernel
theorem dX11_levels_47 : decode cX11_levels 47 = .ok (.new 124, 3) := by decide +kernel
theorem dX11_levels_50 : decode cX11_levels 50 = .ok (.dup, 1) := by decide +kernel
theorem dX11_levels_51 : decode cX11_levels 51 = .ok (.ldc 126, 2) := by decide +kernel
theorem dX11_levels_53 : decode cX11_levels 53 = .ok (.invokespecial 128, 3) := by decide +kernel
theorem dX11_levels_56 : decode cX11_levels 56 = .ok (.athrow, 1) := by decide +kernel
theorem dX11_levels_57 : decode cX11_levels 57 = .ok (.aload_n 0, 1) := by decide +kernel
theorem dX11_levels_58 : decode cX11_levels 58 = .ok (.getfield 10, 3) := by decide +kernel
theorem dX11_levels_61 : decode cX11_levels 61 = .ok (.iload_n 1, 1) := by decide +kernel
theorem dX11_levels_62 : decode cX11_levels 62 = .ok (.lload_n 2, 1) := by decide +kernel
theorem dX11_levels_63 : decode cX11_levels 63 = .ok (.invokevirtual 129, 3) := by decide +kernel
theorem dX11_levels_66 : decode cX11_levels 66 = .ok (.iconst 0, 1) := by decide +kernel
theorem dX11_levels_67 : decode cX11_levels 67 = .ok (.istore 4, 2) := by decide +kernel
theorem dX11_levels_69 : decode cX11_levels 69 = .ok (.iload 4, 2) := by decide +kernel
theorem dX11_levels_71 : decode cX11_levels 71 = .ok (.bipush 8, 2) := by decide +kernel
theorem dX11_levels_73 : decode cX11_levels 73 = .ok (.if_icmp .ge 37, 3) := by decide +kernel
theorem dX11_levels_76 : decode cX11_levels 76 = .ok (.aload_n 0, 1) := by decide +kernel
theorem dX11_levels_77 : decode cX11_levels 77 = .ok (.getfield 16, 3) := by decide +kernel
theorem dX11_levels_80 : decode cX11_levels 80 = .ok (.iload 4, 2) := by decide +kernel
theorem dX11_levels_82 : decode cX11_levels 82 = .ok (.aload_n 0, 1) := by decide +kernel
theorem dX11_levels_83 : decode cX11_levels 83 = .ok (.getfield 10, 3) := by decide +kernel
theorem dX11_levels_86 : decode cX11_levels 86 = .ok (.invokevirtual 133, 3) := by decide +kernel
theorem dX11_levels_89 : decode cX11_levels 89 = .ok (.iastore, 1) := by decide +kernel
theorem dX11_levels_90 : decode cX11_levels 90 = .ok (.aload_n 0, 1) := by decide +kernel
theorem dX11_levels_91 : decode cX11_levels 91 = .ok (.getfield 20, 3) := by decide +kernel
theorem dX11_levels_94 : decode cX11_levels 94 = .ok (.iload 4, 2) := by decide +kernel
theorem dX11_levels_96 : decode cX11_levels 96 = .ok (.aload_n 0, 1) := by decide +kernel
theorem dX11_levels_97 : decode cX11_levels 97 = .ok (.getfield 10, 3) := by decide +kernel
theorem dX11_levels_100 : decode cX11_levels 100 = .ok (.invokevirtual 137, 3) := by decide +kernel
theorem dX11_levels_103 : decode cX11_levels 103 = .ok (.iastore, 1) := by decide +kernel
theorem dX11_levels_104 : decode cX11_levels 104 = .ok (.iinc 4 1, 3) := by decide +kernel
theorem dX11_levels_107 : decode cX11_levels 107 = .ok (.goto (-38), 3) := by decide +kernel
theorem dX11_levels_110 : decode cX11_levels 110 = .ok (.iconst 1, 1) := by decide +kernel
theorem dX11_levels_111 : decode cX11_levels 111 = .ok (.ireturn, 1) := by decide +kernel
theorem dX11_join_0 : decode cX11_join 0 = .ok (.aload_n 0, 1) := by decide +kernel
theorem dX11_join_1 : decode cX11_join 1 = .ok (.getfield 10, 3) := by decide +kernel
theorem dX11_join_4 : decode cX11_join 4 = .ok (.iload_n 1, 1) := by decide +kernel
theorem dX11_join_5 : decode cX11_join 5 = .ok (.iload_n 2, 1) := by decide +kernel
theorem dX11_join_6 : decode cX11_join 6 = .ok (.invokevirtual 140, 3) := by decide +kernel
theorem dX11_join_9 : decode cX11_join 9 = .ok (.ireturn, 1) := by decide +kernel
theorem dX11_label_0 : decode cX11_label 0 = .ok (.iload_n 2, 1) := by decide +kernel
theorem dX11_label_1 : decode cX11_label 1 = .ok (.invokestatic 144, 3) := by decide +kernel
theorem dX11_label_4 : decode cX11_label 4 = .ok (.ifCond .eq 14, 3) := by decide +kernel
theorem dX11_label_7 : decode cX11_label 7 = .ok (.aload_n 0, 1) := by decide +kernel
theorem dX11_label_8 : decode cX11_label 8 = .ok (.getfield 10, 3) := by decide +kernel
theorem dX11_label_11 : decode cX11_label 11 = .ok (.iload_n 3, 1) := by decide +kernel
theorem dX11_label_12 : decode cX11_label 12 = .ok (.invokevirtual 148, 3) := by decide +kernel
theorem dX11_label_15 : decode cX11_label 15 = .ok (.ifCond .ne 5, 3) := by decide +kernel
theorem dX11_label_18 : decode cX11_label 18 = .ok (.iconst 0, 1) := by decide +kernel
theorem dX11_label_19 : decode cX11_label 19 = .ok (.ireturn, 1) := by decide +kernel
theorem dX11_label_20 : decode cX11_label 20 = .ok (.iload_n 1, 1) := by decide +kernel
theorem dX11_label_21 : decode cX11_label 21 = .ok (.ifCond .ne 12, 3) := by decide +kernel
theorem dX11_label_24 : decode cX11_label 24 = .ok (.aload_n 0, 1) := by decide +kernel
theorem dX11_label_25 : decode cX11_label 25 = .ok (.getfield 16, 3) := by decide +kernel
theorem dX11_label_28 : decode cX11_label 28 = .ok (.iload_n 2, 1) := by decide +kernel
theorem dX11_label_29 : decode cX11_label 29 = .ok (.iload_n 3, 1) := by decide +kernel
theorem dX11_label_30 : decode cX11_label 30 = .ok (.iastore, 1) := by decide +kernel
theorem dX11_label_31 : decode cX11_label 31 = .ok (.iconst 1, 1) := by decide +kernel
theorem dX11_label_32 : decode cX11_label 32 = .ok (.ireturn, 1) := by decide +kernel
theorem dX11_label_33 : decode cX11_label 33 = .ok (.iload_n 1, 1) := by decide +kernel
theorem dX11_label_34 : decode cX11_label 34 = .ok (.iconst 1, 1) := by decide +kernel
theorem dX11_label_35 : decode cX11_label 35 = .ok (.if_icmp .ne 12, 3) := by decide +kernel
theorem dX11_label_38 : decode cX11_label 38 = .ok (.aload_n 0, 1) := by decide +kernel
theorem dX11_label_39 : decode cX11_label 39 = .ok (.getfield 20, 3) := by decide +kernel
theorem dX11_label_42 : decode cX11_label 42 = .ok (.iload_n 2, 1) := by decide +kernel
theorem dX11_label_43 : decode cX11_label 43 = .ok (.iload_n 3, 1) := by decide +kernel
theorem dX11_label_44 : decode cX11_label 44 = .ok (.iastore, 1) := by decide +kernel
theorem dX11_label_45 : decode cX11_label 45 = .ok (.iconst 1, 1) := by decide +kernel
theorem dX11_label_46 : decode cX11_label 46 = .ok (.ireturn, 1) := by decide +kernel
theorem dX11_label_47 : decode cX11_label 47 = .ok (.iconst 0, 1) := by decide +kernel
theorem dX11_label_48 : decode cX11_label 48 = .ok (.ireturn, 1) := by decide +kernel
theorem dX11_write_0 : decode cX11_write 0 = .ok (.aload_n 0, 1) := by decide +kernel
theorem dX11_write_1 : decode cX11_write 1 = .ok (.getfield 29, 3) := by decide +kernel
theorem dX11_write_4 : decode cX11_write 4 = .ok (.lload_n 1, 1) := by decide +kernel
theorem dX11_write_5 : decode cX11_write 5 = .ok (.invokevirtual 151, 3) := by decide +kernel
theorem dX11_write_8 : decode cX11_write 8 = .ok (.ireturn, 1) := by decide +kernel
theorem dX11_compile_0 : decode cX11_compile 0 = .ok (.aload_n 0, 1) := by decide +kernel
theorem dX11_compile_1 : decode cX11_compile 1 = .ok (.getfield 29, 3) := by decide +kernel
theorem dX11_compile_4 : decode cX11_compile 4 = .ok (.invokevirtual 155, 3) := by decide +kernel
theorem dX11_compile_7 : decode cX11_compile 7 = .ok (.astore_n 1, 1) := by decide +kernel
theorem dX11_compile_8 : decode cX11_compile 8 = .ok (.aload_n 0, 1) := by decide +kernel
theorem dX11_compile_9 : decode cX11_compile 9 = .ok (.aload_n 0, 1) := by decide +kernel
theorem dX11_compile_10 : decode cX11_compile 10 = .ok (.getfield 29, 3) := by decide +kernel
theorem dX11_compile_13 : decode cX11_compile 13 = .ok (.invokevirtual 159, 3) := by decide +kernel
theorem dX11_compile_16 : decode cX11_compile 16 = .ok (.putfield 98, 3) := by decide +kernel
theorem dX11_compile_19 : decode cX11_compile 19 = .ok (.aload_n 0, 1) := by decide +kernel
theorem dX11_compile_20 : decode cX11_compile 20 = .ok (.getfield 98, 3) := by decide +kernel
theorem dX11_compile_23 : decode cX11_compile 23 = .ok (.iconst (-1), 1) := by decide +kernel
theorem dX11_compile_24 : decode cX11_compile 24 = .ok (.if_icmp .eq 13, 3) := by decide +kernel
theorem dX11_compile_27 : decode cX11_compile 27 = .ok (.new 108, 3) := by decide +kernel
theorem dX11_compile_30 : decode cX11_compile 30 = .ok (.dup, 1) := by decide +kernel
theorem dX11_compile_31 : decode cX11_compile 31 = .ok (.ldc 162, 2) := by decide +kernel
theorem dX11_compile_33 : decode cX11_compile 33 = .ok (.invokespecial 112, 3) := by decide +kernel
theorem dX11_compile_36 : decode cX11_compile 36 = .ok (.athrow, 1) := by decide +kernel
theorem dX11_compile_37 : decode cX11_compile 37 = .ok (.aload_n 0, 1) := by decide +kernel
theorem dX11_compile_38 : decode cX11_compile 38 = .ok (.aload_n 1, 1) := by decide +kernel
theorem dX11_compile_39 : decode cX11_compile 39 = .ok (.putfield 90, 3) := by decide +kernel
theorem dX11_compile_42 : decode cX11_compile 42 = .ok (.aload_n 0, 1) := by decide +kernel
theorem dX11_compile_43 : decode cX11_compile 43 = .ok (.iconst 1, 1) := by decide +kernel
theorem dX11_compile_44 : decode cX11_compile 44 = .ok (.putfield 94, 3) := by decide +kernel
theorem dX11_compile_47 : decode cX11_compile 47 = .ok (.aload_n 0, 1) := by decide +kernel
theorem dX11_compile_48 : decode cX11_compile 48 = .ok (.getfield 38, 3) := by decide +kernel
theorem dX11_compile_51 : decode cX11_compile 51 = .ok (.aload_n 1, 1) := by decide +kernel
theorem dX11_compile_52 : decode cX11_compile 52 = .ok (.aload_n 0, 1) := by decide +kernel
theorem dX11_compile_53 : decode cX11_compile 53 = .ok (.getfield 16, 3) := by decide +kernel
theorem dX11_compile_56 : decode cX11_compile 56 = .ok (.invokevirtual 164, 3) := by decide +kernel
theorem dX11_compile_59 : decode cX11_compile 59 = .ok (.aload_n 0, 1) := by decide +kernel
theorem dX11_compile_60 : decode cX11_compile 60 = .ok (.getfield 38, 3) := by decide +kernel
theorem dX11_compile_63 : decode cX11_compile 63 = .ok (.aload_n 0, 1) := by decide +kernel
theorem dX11_compile_64 : decode cX11_compile 64 = .ok (.getfield 20, 3) := by decide +kernel
theorem dX11_compile_67 : decode cX11_compile 67 = .ok (.invokevirtual 168, 3) := by decide +kernel
theorem dX11_compile_70 : decode cX11_compile 70 = .ok (.ifCond .ne 13, 3) := by decide +kernel
theorem dX11_compile_73 : decode cX11_compile 73 = .ok (.new 124, 3) := by decide +kernel
theorem dX11_compile_76 : decode cX11_compile 76 = .ok (.dup, 1) := by decide +kernel
theorem dX11_compile_77 : decode cX11_compile 77 = .ok (.ldc 172, 2) := by decide +kernel
theorem dX11_compile_79 : decode cX11_compile 79 = .ok (.invokespecial 128, 3) := by decide +kernel
theorem dX11_compile_82 : decode cX11_compile 82 = .ok (.athrow, 1) := by decide +kernel
theorem dX11_compile_83 : decode cX11_compile 83 = .ok (.aload_n 0, 1) := by decide +kernel
theorem dX11_compile_84 : decode cX11_compile 84 = .ok (.getfield 52, 3) := by decide +kernel
theorem dX11_compile_87 : decode cX11_compile 87 = .ok (.aload_n 1, 1) := by decide +kernel
theorem dX11_compile_88 : decode cX11_compile 88 = .ok (.invokevirtual 174, 3) := by decide +kernel
theorem dX11_compile_91 : decode cX11_compile 91 = .ok (.aload_n 0, 1) := by decide +kernel
theorem dX11_compile_92 : decode cX11_compile 92 = .ok (.iconst 1, 1) := by decide +kernel
theorem dX11_compile_93 : decode cX11_compile 93 = .ok (.putfield 102, 3) := by decide +kernel
theorem dX11_compile_96 : decode cX11_compile 96 = .ok (.aload_n 0, 1) := by decide +kernel
theorem dX11_compile_97 : decode cX11_compile 97 = .ok (.iconst 0, 1) := by decide +kernel
theorem dX11_compile_98 : decode cX11_compile 98 = .ok (.putfield 105, 3) := by decide +kernel
theorem dX11_compile_101 : decode cX11_compile 101 = .ok (.aload_n 0, 1) := by decide +kernel
theorem dX11_compile_102 : decode cX11_compile 102 = .ok (.getfield 52, 3) := by decide +kernel
theorem dX11_compile_105 : decode cX11_compile 105 = .ok (.invokevirtual 177, 3) := by decide +kernel
theorem dX11_compile_108 : decode cX11_compile 108 = .ok (.ireturn, 1) := by decide +kernel
theorem dX11_position_0 : decode cX11_position 0 = .ok (.aload_n 0, 1) := by decide +kernel
theorem dX11_position_1 : decode cX11_position 1 = .ok (.getfield 98, 3) := by decide +kernel
theorem dX11_position_4 : decode cX11_position 4 = .ok (.ireturn, 1) := by decide +kernel
theorem dX11_exit_0 : decode cX11_exit 0 = .ok (.aload_n 0, 1) := by decide +kernel
theorem dX11_exit_1 : decode cX11_exit 1 = .ok (.getfield 94, 3) := by decide +kernel
theorem dX11_exit_4 : decode cX11_exit 4 = .ok (.ifCond .eq 14, 3) := by decide +kernel
theorem dX11_exit_7 : decode cX11_exit 7 = .ok (.aload_n 0, 1) := by decide +kernel
theorem dX11_exit_8 : decode cX11_exit 8 = .ok (.getfield 38, 3) := by decide +kernel
theorem dX11_exit_11 : decode cX11_exit 11 = .ok (.iload_n 1, 1) := by decide +kernel
theorem dX11_exit_12 : decode cX11_exit 12 = .ok (.invokevirtual 180, 3) := by decide +kernel
theorem dX11_exit_15 : decode cX11_exit 15 = .ok (.goto 4, 3) := by decide +kernel
theorem dX11_exit_18 : decode cX11_exit 18 = .ok (.iconst (-1), 1) := by decide +kernel
theorem dX11_exit_19 : decode cX11_exit 19 = .ok (.ireturn, 1) := by decide +kernel
theorem dX11_code_0 : decode cX11_code 0 = .ok (.iload_n 1, 1) := by decide +kernel
theorem dX11_code_1 : decode cX11_code 1 = .ok (.iconst (-1), 1) := by decide +kernel
theorem dX11_code_2 : decode cX11_code 2 = .ok (.if_icmp .ne 11, 3) := by decide +kernel
theorem dX11_code_5 : decode cX11_code 5 = .ok (.aload_n 0, 1) := by decide +kernel
theorem dX11_code_6 : decode cX11_code 6 = .ok (.getfield 52, 3) := by decide +kernel
theorem dX11_code_9 : decode cX11_code 9 = .ok (.invokevirtual 177, 3) := by decide +kernel
theorem dX11_code_12 : decode cX11_code 12 = .ok (.ireturn, 1) := by decide +kernel
theorem dX11_code_13 : decode cX11_code 13 = .ok (.aload_n 0, 1) := by decide +kernel
theorem dX11_code_14 : decode cX11_code 14 = .ok (.getfield 52, 3) := by decide +kernel
theorem dX11_code_17 : decode cX11_code 17 = .ok (.iload_n 1, 1) := by decide +kernel
theorem dX11_code_18 : decode cX11_code 18 = .ok (.invokevirtual 184, 3) := by decide +kernel
theorem dX11_code_21 : decode cX11_code 21 = .ok (.ifCond .ne 5, 3) := by decide +kernel
theorem dX11_code_24 : decode cX11_code 24 = .ok (.iconst (-1), 1) := by decide +kernel
theorem dX11_code_25 : decode cX11_code 25 = .ok (.ireturn, 1) := by decide +kernel
theorem dX11_code_26 : decode cX11_code 26 = .ok (.iload_n 2, 1) := by decide +kernel
theorem dX11_code_27 : decode cX11_code 27 = .ok (.ifCond .ne 12, 3) := by decide +kernel
theorem dX11_code_30 : decode cX11_code 30 = .ok (.aload_n 0, 1) := by decide +kernel
theorem dX11_code_31 : decode cX11_code 31 = .ok (.getfield 52, 3) := by decide +kernel
theorem dX11_code_34 : decode cX11_code 34 = .ok (.iload_n 1, 1) := by decide +kernel
theorem dX11_code_35 : decode cX11_code 35 = .ok (.invokevirtual 185, 3) := by decide +kernel
theorem dX11_code_38 : decode cX11_code 38 = .ok (.ireturn, 1) := by decide +kernel
theorem dX11_code_39 : decode cX11_code 39 = .ok (.iload_n 2, 1) := by decide +kernel
theorem dX11_code_40 : decode cX11_code 40 = .ok (.iconst 1, 1) := by decide +kernel
theorem dX11_code_41 : decode cX11_code 41 = .ok (.if_icmp .ne 14, 3) := by decide +kernel
theorem dX11_code_44 : decode cX11_code 44 = .ok (.aload_n 0, 1) := by decide +kernel
theorem dX11_code_45 : decode cX11_code 45 = .ok (.getfield 52, 3) := by decide +kernel
theorem dX11_code_48 : decode cX11_code 48 = .ok (.iload_n 1, 1) := by decide +kernel
theorem dX11_code_49 : decode cX11_code 49 = .ok (.invokevirtual 188, 3) := by decide +kernel
theorem dX11_code_52 : decode cX11_code 52 = .ok (.goto 4, 3) := by decide +kernel
theorem dX11_code_55 : decode cX11_code 55 = .ok (.iconst (-1), 1) := by decide +kernel
theorem dX11_code_56 : decode cX11_code 56 = .ok (.ireturn, 1) := by decide +kernel
theorem dX11_empty_0 : decode cX11_empty 0 = .ok (.aload_n 0, 1) := by decide +kernel
theorem dX11_empty_1 : decode cX11_empty 1 = .ok (.getfield 52, 3) := by decide +kernel
theorem dX11_empty_4 : decode cX11_empty 4 = .ok (.invokevirtual 191, 3) := by decide +kernel
theorem dX11_empty_7 : decode cX11_empty 7 = .ok (.aload_n 0, 1) := by decide +kernel
theorem dX11_empty_8 : decode cX11_empty 8 = .ok (.invokevirtual 194, 3) := by decide +kernel
theorem dX11_empty_11 : decode cX11_empty 11 = .ok (.return_, 1) := by decide +kernel
theorem dX11_put_0 : decode cX11_put 0 = .ok (.aload_n 0, 1) := by decide +kernel
theorem dX11_put_1 : decode cX11_put 1 = .ok (.getfield 52, 3) := by decide +kernel
theorem dX11_put_4 : decode cX11_put 4 = .ok (.iload_n 1, 1) := by decide +kernel
theorem dX11_put_5 : decode cX11_put 5 = .ok (.iload_n 2, 1) := by decide +kernel
theorem dX11_put_6 : decode cX11_put 6 = .ok (.invokevirtual 197, 3) := by decide +kernel
theorem dX11_put_9 : decode cX11_put 9 = .ok (.ifCond .ne 5, 3) := by decide +kernel
theorem dX11_put_12 : decode cX11_put 12 = .ok (.iconst 0, 1) := by decide +kernel
theorem dX11_put_13 : decode cX11_put 13 = .ok (.ireturn, 1) := by decide +kernel
theorem dX11_put_14 : decode cX11_put 14 = .ok (.aload_n 0, 1) := by decide +kernel
theorem dX11_put_15 : decode cX11_put 15 = .ok (.invokevirtual 194, 3) := by decide +kernel
theorem dX11_put_18 : decode cX11_put 18 = .ok (.iconst 1, 1) := by decide +kernel
theorem dX11_put_19 : decode cX11_put 19 = .ok (.ireturn, 1) := by decide +kernel
theorem dX11_verify_0 : decode cX11_verify 0 = .ok (.aload_n 0, 1) := by decide +kernel
theorem dX11_verify_1 : decode cX11_verify 1 = .ok (.invokevirtual 194, 3) := by decide +kernel
theorem dX11_verify_4 : decode cX11_verify 4 = .ok (.aload_n 0, 1) := by decide +kernel
theorem dX11_verify_5 : decode cX11_verify 5 = .ok (.getfield 61, 3) := by decide +kernel
theorem dX11_verify_8 : decode cX11_verify 8 = .ok (.invokevirtual 201, 3) := by decide +kernel
theorem dX11_verify_11 : decode cX11_verify 11 = .ok (.ifCond .ne 13, 3) := by decide +kernel
theorem dX11_verify_14 : decode cX11_verify 14 = .ok (.new 108, 3) := by decide +kernel
theorem dX11_verify_17 : decode cX11_verify 17 = .ok (.dup, 1) := by decide +kernel
theorem dX11_verify_18 : decode cX11_verify 18 = .ok (.ldc 205, 2) := by decide +kernel
theorem dX11_verify_20 : decode cX11_verify 20 = .ok (.invokespecial 112, 3) := by decide +kernel
theorem dX11_verify_23 : decode cX11_verify 23 = .ok (.athrow, 1) := by decide +kernel
theorem dX11_verify_24 : decode cX11_verify 24 = .ok (.aload_n 0, 1) := by decide +kernel
theorem dX11_verify_25 : decode cX11_verify 25 = .ok (.iconst 1, 1) := by decide +kernel
theorem dX11_verify_26 : decode cX11_verify 26 = .ok (.putfield 105, 3) := by decide +kernel
theorem dX11_verify_29 : decode cX11_verify 29 = .ok (.aload_n 0, 1) := by decide +kernel
theorem dX11_verify_30 : decode cX11_verify 30 = .ok (.getfield 70, 3) := by decide +kernel
theorem dX11_verify_33 : decode cX11_verify 33 = .ok (.invokevirtual 207, 3) := by decide +kernel
theorem dX11_verify_36 : decode cX11_verify 36 = .ok (.aload_n 0, 1) := by decide +kernel
theorem dX11_verify_37 : decode cX11_verify 37 = .ok (.getfield 79, 3) := by decide +kernel
theorem dX11_verify_40 : decode cX11_verify 40 = .ok (.aload_n 0, 1) := by decide +kernel
theorem dX11_verify_41 : decode cX11_verify 41 = .ok (.getfield 16, 3) := by decide +kernel
theorem dX11_verify_44 : decode cX11_verify 44 = .ok (.invokevirtual 209, 3) := by decide +kernel
theorem dX11_verify_47 : decode cX11_verify 47 = .ok (.aload_n 0, 1) := by decide +kernel
theorem dX11_verify_48 : decode cX11_verify 48 = .ok (.getfield 79, 3) := by decide +kernel
theorem dX11_verify_51 : decode cX11_verify 51 = .ok (.aload_n 0, 1) := by decide +kernel
theorem dX11_verify_52 : decode cX11_verify 52 = .ok (.getfield 20, 3) := by decide +kernel
theorem dX11_verify_55 : decode cX11_verify 55 = .ok (.invokevirtual 212, 3) := by decide +kernel
theorem dX11_verify_58 : decode cX11_verify 58 = .ok (.ifCond .ne 13, 3) := by decide +kernel
theorem dX11_verify_61 : decode cX11_verify 61 = .ok (.new 124, 3) := by decide +kernel
theorem dX11_verify_64 : decode cX11_verify 64 = .ok (.dup, 1) := by decide +kernel
theorem dX11_verify_65 : decode cX11_verify 65 = .ok (.ldc 213, 2) := by decide +kernel
theorem dX11_verify_67 : decode cX11_verify 67 = .ok (.invokespecial 128, 3) := by decide +kernel
theorem dX11_verify_70 : decode cX11_verify 70 = .ok (.athrow, 1) := by decide +kernel
theorem dX11_verify_71 : decode cX11_verify 71 = .ok (.aload_n 0, 1) := by decide +kernel
theorem dX11_verify_72 : decode cX11_verify 72 = .ok (.iconst 1, 1) := by decide +kernel
theorem dX11_verify_73 : decode cX11_verify 73 = .ok (.putfield 102, 3) := by decide +kernel
theorem dX11_verify_76 : decode cX11_verify 76 = .ok (.aload_n 0, 1) := by decide +kernel
theorem dX11_verify_77 : decode cX11_verify 77 = .ok (.getfield 61, 3) := by decide +kernel
theorem dX11_verify_80 : decode cX11_verify 80 = .ok (.invokevirtual 215, 3) := by decide +kernel
theorem dX11_verify_83 : decode cX11_verify 83 = .ok (.ireturn, 1) := by decide +kernel
theorem dX11_found_0 : decode cX11_found 0 = .ok (.aload_n 0, 1) := by decide +kernel
theorem dX11_found_1 : decode cX11_found 1 = .ok (.getfield 105, 3) := by decide +kernel
theorem dX11_found_4 : decode cX11_found 4 = .ok (.ifCond .eq 15, 3) := by decide +kernel
theorem dX11_found_7 : decode cX11_found 7 = .ok (.aload_n 0, 1) := by decide +kernel
theorem dX11_found_8 : decode cX11_found 8 = .ok (.getfield 79, 3) := by decide +kernel
theorem dX11_found_11 : decode cX11_found 11 = .ok (.iload_n 1, 1) := by decide +kernel
theorem dX11_found_12 : decode cX11_found 12 = .ok (.iload_n 2, 1) := by decide +kernel
theorem dX11_found_13 : decode cX11_found 13 = .ok (.invokevirtual 218, 3) := by decide +kernel
theorem dX11_found_16 : decode cX11_found 16 = .ok (.goto 4, 3) := by decide +kernel
theorem dX11_found_19 : decode cX11_found 19 = .ok (.iconst (-1), 1) := by decide +kernel
theorem dX11_found_20 : decode cX11_found 20 = .ok (.ireturn, 1) := by decide +kernel
theorem dX11_set_0 : decode cX11_set 0 = .ok (.iload_n 1, 1) := by decide +kernel
theorem dX11_set_1 : decode cX11_set 1 = .ok (.invokestatic 144, 3) := by decide +kernel
theorem dX11_set_4 : decode cX11_set 4 = .ok (.ifCond .ne 5, 3) := by decide +kernel
theorem dX11_set_7 : decode cX11_set 7 = .ok (.iconst 0, 1) := by decide +kernel
theorem dX11_set_8 : decode cX11_set 8 = .ok (.ireturn, 1) := by decide +kernel
theorem dX11_set_9 : decode cX11_set 9 = .ok (.aload_n 0, 1) := by decide +kernel
theorem dX11_set_10 : decode cX11_set 10 = .ok (.getfield 23, 3) := by decide +kernel
theorem dX11_set_13 : decode cX11_set 13 = .ok (.iload_n 1, 1) := by decide +kernel
theorem dX11_set_14 : decode cX11_set 14 = .ok (.iload_n 2, 1) := by decide +kernel
theorem dX11_set_15 : decode cX11_set 15 = .ok (.iastore, 1) := by decide +kernel
theorem dX11_set_16 : decode cX11_set 16 = .ok (.iconst 1, 1) := by decide +kernel
theorem dX11_set_17 : decode cX11_set 17 = .ok (.ireturn, 1) := by decide +kernel
theorem dX11_get_0 : decode cX11_get 0 = .ok (.iload_n 1, 1) := by decide +kernel
theorem dX11_get_1 : decode cX11_get 1 = .ok (.invokestatic 144, 3) := by decide +kernel
theorem dX11_get_4 : decode cX11_get 4 = .ok (.ifCond .eq 12, 3) := by decide +kernel
theorem dX11_get_7 : decode cX11_get 7 = .ok (.aload_n 0, 1) := by decide +kernel
theorem dX11_get_8 : decode cX11_get 8 = .ok (.getfield 23, 3) := by decide +kernel
theorem dX11_get_11 : decode cX11_get 11 = .ok (.iload_n 1, 1) := by decide +kernel
theorem dX11_get_12 : decode cX11_get 12 = .ok (.iaload, 1) := by decide +kernel
theorem dX11_get_13 : decode cX11_get 13 = .ok (.goto 4, 3) := by decide +kernel
theorem dX11_get_16 : decode cX11_get 16 = .ok (.iconst 0, 1) := by decide +kernel
theorem dX11_get_17 : decode cX11_get 17 = .ok (.ireturn, 1) := by decide +kernel
theorem dX11_run_0 : decode cX11_run 0 = .ok (.iload_n 1, 1) := by decide +kernel
theorem dX11_run_1 : decode cX11_run 1 = .ok (.ifCond .lt 10, 3) := by decide +kernel
theorem dX11_run_4 : decode cX11_run 4 = .ok (.iload_n 1, 1) := by decide +kernel
theorem dX11_run_5 : decode cX11_run 5 = .ok (.sipush 2000, 3) := by decide +kernel
theorem dX11_run_8 : decode cX11_run 8 = .ok (.if_icmp .le 13, 3) := by decide +kernel
theorem dX11_run_11 : decode cX11_run 11 = .ok (.new 108, 3) := by decide +kernel
theorem dX11_run_14 : decode cX11_run 14 = .ok (.dup, 1) := by decide +kernel
theorem dX11_run_15 : decode cX11_run 15 = .ok (.ldc 221, 2) := by decide +kernel
theorem dX11_run_17 : decode cX11_run 17 = .ok (.invokespecial 112, 3) := by decide +kernel
theorem dX11_run_20 : decode cX11_run 20 = .ok (.athrow, 1) := by decide +kernel
theorem dX11_run_21 : decode cX11_run 21 = .ok (.aload_n 0, 1) := by decide +kernel
theorem dX11_run_22 : decode cX11_run 22 = .ok (.getfield 102, 3) := by decide +kernel
theorem dX11_run_25 : decode cX11_run 25 = .ok (.ifCond .ne 13, 3) := by decide +kernel
theorem dX11_run_28 : decode cX11_run 28 = .ok (.new 124, 3) := by decide +kernel
theorem dX11_run_31 : decode cX11_run 31 = .ok (.dup, 1) := by decide +kernel
theorem dX11_run_32 : decode cX11_run 32 = .ok (.ldc 223, 2) := by decide +kernel
theorem dX11_run_34 : decode cX11_run 34 = .ok (.invokespecial 128, 3) := by decide +kernel
theorem dX11_run_37 : decode cX11_run 37 = .ok (.athrow, 1) := by decide +kernel
theorem dX11_run_38 : decode cX11_run 38 = .ok (.aload_n 0, 1) := by decide +kernel
theorem dX11_run_39 : decode cX11_run 39 = .ok (.getfield 86, 3) := by decide +kernel
theorem dX11_run_42 : decode cX11_run 42 = .ok (.aload_n 0, 1) := by decide +kernel
theorem dX11_run_43 : decode cX11_run 43 = .ok (.getfield 23, 3) := by decide +kernel
theorem dX11_run_46 : decode cX11_run 46 = .ok (.iload_n 1, 1) := by decide +kernel
theorem dX11_run_47 : decode cX11_run 47 = .ok (.invokevirtual 225, 3) := by decide +kernel
theorem dX11_run_50 : decode cX11_run 50 = .ok (.ireturn, 1) := by decide +kernel
theorem dX11_follow_0 : decode cX11_follow 0 = .ok (.aload_n 0, 1) := by decide +kernel
theorem dX11_follow_1 : decode cX11_follow 1 = .ok (.getfield 94, 3) := by decide +kernel
theorem dX11_follow_4 : decode cX11_follow 4 = .ok (.ifCond .eq 14, 3) := by decide +kernel
theorem dX11_follow_7 : decode cX11_follow 7 = .ok (.iload_n 1, 1) := by decide +kernel
theorem dX11_follow_8 : decode cX11_follow 8 = .ok (.ifCond .lt 10, 3) := by decide +kernel
theorem dX11_follow_11 : decode cX11_follow 11 = .ok (.iload_n 1, 1) := by decide +kernel
theorem dX11_follow_12 : decode cX11_follow 12 = .ok (.sipush 500, 3) := by decide +kernel
theorem dX11_follow_15 : decode cX11_follow 15 = .ok (.if_icmp .le 5, 3) := by decide +kernel
theorem dX11_follow_18 : decode cX11_follow 18 = .ok (.iconst (-1), 1) := by decide +kernel
theorem dX11_follow_19 : decode cX11_follow 19 = .ok (.ireturn, 1) := by decide +kernel
theorem dX11_follow_20 : decode cX11_follow 20 = .ok (.aload_n 0, 1) := by decide +kernel
theorem dX11_follow_21 : decode cX11_follow 21 = .ok (.getfield 45, 3) := by decide +kernel
theorem dX11_follow_24 : decode cX11_follow 24 = .ok (.aload_n 0, 1) := by decide +kernel
theorem dX11_follow_25 : decode cX11_follow 25 = .ok (.getfield 90, 3) := by decide +kernel
theorem dX11_follow_28 : decode cX11_follow 28 = .ok (.aload_n 0, 1) := by decide +kernel
theorem dX11_follow_29 : decode cX11_follow 29 = .ok (.getfield 23, 3) := by decide +kernel
theorem dX11_follow_32 : decode cX11_follow 32 = .ok (.iload_n 1, 1) := by decide +kernel
theorem dX11_follow_33 : decode cX11_follow 33 = .ok (.invokevirtual 229, 3) := by decide +kernel
theorem dX11_follow_36 : decode cX11_follow 36 = .ok (.ireturn, 1) := by decide +kernel
theorem dX11_forgetChecks_0 : decode cX11_forgetChecks 0 = .ok (.aload_n 0, 1) := by decide +kernel
theorem dX11_forgetChecks_1 : decode cX11_forgetChecks 1 = .ok (.iconst 0, 1) := by decide +kernel
theorem dX11_forgetChecks_2 : decode cX11_forgetChecks 2 = .ok (.putfield 102, 3) := by decide +kernel
theorem dX11_forgetChecks_5 : decode cX11_forgetChecks 5 = .ok (.aload_n 0, 1) := by decide +kernel
theorem dX11_forgetChecks_6 : decode cX11_forgetChecks 6 = .ok (.iconst 0, 1) := by decide +kernel
theorem dX11_forgetChecks_7 : decode cX11_forgetChecks 7 = .ok (.putfield 105, 3) := by decide +kernel
theorem dX11_forgetChecks_10 : decode cX11_forgetChecks 10 = .ok (.return_, 1) := by decide +kernel
theorem dX11_isVariable_0 : decode cX11_isVariable 0 = .ok (.iload_n 0, 1) := by decide +kernel
theorem dX11_isVariable_1 : decode cX11_isVariable 1 = .ok (.ifCond .lt 13, 3) := by decide +kernel
theorem dX11_isVariable_4 : decode cX11_isVariable 4 = .ok (.iload_n 0, 1) := by decide +kernel
theorem dX11_isVariable_5 : decode cX11_isVariable 5 = .ok (.bipush 8, 2) := by decide +kernel
theorem dX11_isVariable_7 : decode cX11_isVariable 7 = .ok (.if_icmp .ge 7, 3) := by decide +kernel
theorem dX11_isVariable_10 : decode cX11_isVariable 10 = .ok (.iconst 1, 1) := by decide +kernel
theorem dX11_isVariable_11 : decode cX11_isVariable 11 = .ok (.goto 4, 3) := by decide +kernel
theorem dX11_isVariable_14 : decode cX11_isVariable 14 = .ok (.iconst 0, 1) := by decide +kernel
theorem dX11_isVariable_15 : decode cX11_isVariable 15 = .ok (.ireturn, 1) := by decide +kernel
theorem dX11_isOperation_0 : decode cX11_isOperation 0 = .ok (.iload_n 0, 1) := by decide +kernel
theorem dX11_isOperation_1 : decode cX11_isOperation 1 = .ok (.iconst 3, 1) := by decide +kernel
theorem dX11_isOperation_2 : decode cX11_isOperation 2 = .ok (.if_icmp .lt 13, 3) := by decide +kernel
theorem dX11_isOperation_5 : decode cX11_isOperation 5 = .ok (.iload_n 0, 1) := by decide +kernel
theorem dX11_isOperation_6 : decode cX11_isOperation 6 = .ok (.bipush 6, 2) := by decide +kernel
theorem dX11_isOperation_8 : decode cX11_isOperation 8 = .ok (.if_icmp .gt 7, 3) := by decide +kernel
theorem dX11_isOperation_11 : decode cX11_isOperation 11 = .ok (.iconst 1, 1) := by decide +kernel
theorem dX11_isOperation_12 : decode cX11_isOperation 12 = .ok (.goto 4, 3) := by decide +kernel
theorem dX11_isOperation_15 : decode cX11_isOperation 15 = .ok (.iconst 0, 1) := by decide +kernel
theorem dX11_isOperation_16 : decode cX11_isOperation 16 = .ok (.ireturn, 1) := by decide +kernel
theorem dX11_operate_0 : decode cX11_operate 0 = .ok (.iload_n 0, 1) := by decide +kernel
theorem dX11_operate_1 : decode cX11_operate 1 = .ok (.tableswitch 39 3 5 #[27, 31, 35], 27) := by decide +kernel
theorem dX11_operate_28 : decode cX11_operate 28 = .ok (.iload_n 1, 1) := by decide +kernel
theorem dX11_operate_29 : decode cX11_operate 29 = .ok (.iload_n 2, 1) := by decide +kernel
theorem dX11_operate_30 : decode cX11_operate 30 = .ok (.iadd, 1) := by decide +kernel
theorem dX11_operate_31 : decode cX11_operate 31 = .ok (.ireturn, 1) := by decide +kernel
theorem dX11_operate_32 : decode cX11_operate 32 = .ok (.iload_n 1, 1) := by decide +kernel
theorem dX11_operate_33 : decode cX11_operate 33 = .ok (.iload_n 2, 1) := by decide +kernel
theorem dX11_operate_34 : decode cX11_operate 34 = .ok (.isub, 1) := by decide +kernel
theorem dX11_operate_35 : decode cX11_operate 35 = .ok (.ireturn, 1) := by decide +kernel
theorem dX11_operate_36 : decode cX11_operate 36 = .ok (.iload_n 1, 1) := by decide +kernel
theorem dX11_operate_37 : decode cX11_operate 37 = .ok (.iload_n 2, 1) := by decide +kernel
theorem dX11_operate_38 : decode cX11_operate 38 = .ok (.imul, 1) := by decide +kernel
theorem dX11_operate_39 : decode cX11_operate 39 = .ok (.ireturn, 1) := by decide +kernel
theorem dX11_operate_40 : decode cX11_operate 40 = .ok (.iload_n 1, 1) := by decide +kernel
theorem dX11_operate_41 : decode cX11_operate 41 = .ok (.iload_n 2, 1) := by decide +kernel
theorem dX11_operate_42 : decode cX11_operate 42 = .ok (.if_icmp .ge 7, 3) := by decide +kernel
theorem dX11_operate_45 : decode cX11_operate 45 = .ok (.iconst 1, 1) := by decide +kernel
theorem dX11_operate_46 : decode cX11_operate 46 = .ok (.goto 4, 3) := by decide +kernel
theorem dX11_operate_49 : decode cX11_operate 49 = .ok (.iconst 0, 1) := by decide +kernel
theorem dX11_operate_50 : decode cX11_operate 50 = .ok (.ireturn, 1) := by decide +kernel
theorem dX12_init_0 : decode cX12_init 0 = .ok (.aload_n 0, 1) := by decide +kernel
theorem dX12_init_1 : decode cX12_init 1 = .ok (.invokespecial 1, 3) := by decide +kernel
theorem dX12_init_4 : decode cX12_init 4 = .ok (.aload_n 0, 1) := by decide +kernel
theorem dX12_init_5 : decode cX12_init 5 = .ok (.iconst 1, 1) := by decide +kernel
theorem dX12_init_6 : decode cX12_init 6 = .ok (.putfield 7, 3) := by decide +kernel
theorem dX12_init_9 : decode cX12_init 9 = .ok (.aload_n 0, 1) := by decide +kernel
theorem dX12_init_10 : decode cX12_init 10 = .ok (.bipush 36, 2) := by decide +kernel
theorem dX12_init_12 : decode cX12_init 12 = .ok (.newarray .boolean, 2) := by decide +kernel
theorem dX12_init_14 : decode cX12_init 14 = .ok (.putfield 13, 3) := by decide +kernel
theorem dX12_init_17 : decode cX12_init 17 = .ok (.aload_n 0, 1) := by decide +kernel
theorem dX12_init_18 : decode cX12_init 18 = .ok (.bipush 36, 2) := by decide +kernel
theorem dX12_init_20 : decode cX12_init 20 = .ok (.newarray .int, 2) := by decide +kernel
theorem dX12_init_22 : decode cX12_init 22 = .ok (.putfield 17, 3) := by decide +kernel
theorem dX12_init_25 : decode cX12_init 25 = .ok (.aload_n 0, 1) := by decide +kernel
theorem dX12_init_26 : decode cX12_init 26 = .ok (.bipush 8, 2) := by decide +kernel
theorem dX12_init_28 : decode cX12_init 28 = .ok (.newarray .int, 2) := by decide +kernel
theorem dX12_init_30 : decode cX12_init 30 = .ok (.putfield 21, 3) := by decide +kernel
theorem dX12_init_33 : decode cX12_init 33 = .ok (.aload_n 0, 1) := by decide +kernel
theorem dX12_init_34 : decode cX12_init 34 = .ok (.bipush 8, 2) := by decide +kernel
theorem dX12_init_36 : decode cX12_init 36 = .ok (.newarray .int, 2) := by decide +kernel
theorem dX12_init_38 : decode cX12_init 38 = .ok (.putfield 24, 3) := by decide +kernel
theorem dX12_init_41 : decode cX12_init 41 = .ok (.aload_n 0, 1) := by decide +kernel
theorem dX12_init_42 : decode cX12_init 42 = .ok (.bipush 8, 2) := by decide +kernel
theorem dX12_init_44 : decode cX12_init 44 = .ok (.newarray .int, 2) := by decide +kernel
theorem dX12_init_46 : decode cX12_init 46 = .ok (.putfield 27, 3) := by decide +kernel
theorem dX12_init_49 : decode cX12_init 49 = .ok (.aload_n 0, 1) := by decide +kernel
theorem dX12_init_50 : decode cX12_init 50 = .ok (.bipush 8, 2) := by decide +kernel
theorem dX12_init_52 : decode cX12_init 52 = .ok (.newarray .int, 2) := by decide +kernel
theorem dX12_init_54 : decode cX12_init 54 = .ok (.putfield 30, 3) := by decide +kernel
theorem dX12_init_57 : decode cX12_init 57 = .ok (.aload_n 0, 1) := by decide +kernel
theorem dX12_init_58 : decode cX12_init 58 = .ok (.bipush 36, 2) := by decide +kernel
theorem dX12_init_60 : decode cX12_init 60 = .ok (.newarray .boolean, 2) := by decide +kernel
theorem dX12_init_62 : decode cX12_init 62 = .ok (.putfield 33, 3) := by decide +kernel
theorem dX12_init_65 : decode cX12_init 65 = .ok (.aload_n 0, 1) := by decide +kernel
theorem dX12_init_66 : decode cX12_init 66 = .ok (.bipush 72, 2) := by decide +kernel
theorem dX12_init_68 : decode cX12_init 68 = .ok (.newarray .char, 2) := by decide +kernel
theorem dX12_init_70 : decode cX12_init 70 = .ok (.putfield 36, 3) := by decide +kernel
theorem dX12_init_73 : decode cX12_init 73 = .ok (.aload_n 0, 1) := by decide +kernel
theorem dX12_init_74 : decode cX12_init 74 = .ok (.iconst (-1), 1) := by decide +kernel
theorem dX12_init_75 : decode cX12_init 75 = .ok (.putfield 40, 3) := by decide +kernel
theorem dX12_init_78 : decode cX12_init 78 = .ok (.aload_n 0, 1) := by decide +kernel
theorem dX12_init_79 : decode cX12_init 79 = .ok (.sipush 160, 3) := by decide +kernel
theorem dX12_init_82 : decode cX12_init 82 = .ok (.newarray .int, 2) := by decide +kernel
theorem dX12_init_84 : decode cX12_init 84 = .ok (.putfield 43, 3) := by decide +kernel
theorem dX12_init_87 : decode cX12_init 87 = .ok (.aload_n 0, 1) := by decide +kernel
theorem dX12_init_88 : decode cX12_init 88 = .ok (.sipush 160, 3) := by decide +kernel
theorem dX12_init_91 : decode cX12_init 91 = .ok (.newarray .int, 2) := by decide +kernel
theorem dX12_init_93 : decode cX12_init 93 = .ok (.putfield 46, 3) := by decide +kernel
theorem dX12_init_96 : decode cX12_init 96 = .ok (.aload_n 0, 1) := by decide +kernel
theorem dX12_init_97 : decode cX12_init 97 = .ok (.sipush 160, 3) := by decide +kernel
theorem dX12_init_100 : decode cX12_init 100 = .ok (.newarray .int, 2) := by decide +kernel
theorem dX12_init_102 : decode cX12_init 102 = .ok (.putfield 49, 3) := by decide +kernel
theorem dX12_init_105 : decode cX12_init 105 = .ok (.aload_n 0, 1) := by decide +kernel
theorem dX12_init_106 : decode cX12_init 106 = .ok (.sipush 160, 3) := by decide +kernel
theorem dX12_init_109 : decode cX12_init 109 = .ok (.newarray .int, 2) := by decide +kernel
theorem dX12_init_111 : decode cX12_init 111 = .ok (.putfield 52, 3) := by decide +kernel
theorem dX12_init_114 : decode cX12_init 114 = .ok (.aload_n 0, 1) := by decide +kernel
theorem dX12_init_115 : decode cX12_init 115 = .ok (.sipush 160, 3) := by decide +kernel
theorem dX12_init_118 : decode cX12_init 118 = .ok (.newarray .int, 2) := by decide +kernel
theorem dX12_init_120 : decode cX12_init 120 = .ok (.putfield 55, 3) := by decide +kernel
theorem dX12_init_123 : decode cX12_init 123 = .ok (.aload_n 0, 1) := by decide +kernel
theorem dX12_init_124 : decode cX12_init 124 = .ok (.sipush 160, 3) := by decide +kernel
theorem dX12_init_127 : decode cX12_init 127 = .ok (.newarray .int, 2) := by decide +kernel
theorem dX12_init_129 : decode cX12_init 129 = .ok (.putfield 58, 3) := by decide +kernel
theorem dX12_init_132 : decode cX12_init 132 = .ok (.aload_n 0, 1) := by decide +kernel
theorem dX12_init_133 : decode cX12_init 133 = .ok (.sipush 160, 3) := by decide +kernel
theorem dX12_init_136 : decode cX12_init 136 = .ok (.newarray .int, 2) := by decide +kernel
theorem dX12_init_138 : decode cX12_init 138 = .ok (.putfield 61, 3) := by decide +kernel
theorem dX12_init_141 : decode cX12_init 141 = .ok (.aload_n 0, 1) := by decide +kernel
theorem dX12_init_142 : decode cX12_init 142 = .ok (.sipush 160, 3) := by decide +kernel
theorem dX12_init_145 : decode cX12_init 145 = .ok (.newarray .int, 2) := by decide +kernel
theorem dX12_init_147 : decode cX12_init 147 = .ok (.putfield 64, 3) := by decide +kernel
theorem dX12_init_150 : decode cX12_init 150 = .ok (.aload_n 0, 1) := by decide +kernel
theorem dX12_init_151 : decode cX12_init 151 = .ok (.sipush 160, 3) := by decide +kernel
theorem dX12_init_154 : decode cX12_init 154 = .ok (.newarray .int, 2) := by decide +kernel
theorem dX12_init_156 : decode cX12_init 156 = .ok (.putfield 67, 3) := by decide +kernel
theorem dX12_init_159 : decode cX12_init 159 = .ok (.aload_n 0, 1) := by decide +kernel
theorem dX12_init_160 : decode cX12_init 160 = .ok (.sipush 160, 3) := by decide +kernel
theorem dX12_init_163 : decode cX12_init 163 = .ok (.newarray .int, 2) := by decide +kernel
theorem dX12_init_165 : decode cX12_init 165 = .ok (.putfield 70, 3) := by decide +kernel
theorem dX12_init_168 : decode cX12_init 168 = .ok (.aload_n 0, 1) := by decide +kernel
theorem dX12_init_169 : decode cX12_init 169 = .ok (.sipush 1280, 3) := by decide +kernel
theorem dX12_init_172 : decode cX12_init 172 = .ok (.newarray .int, 2) := by decide +kernel
theorem dX12_init_174 : decode cX12_init 174 = .ok (.putfield 73, 3) := by decide +kernel
theorem dX12_init_177 : decode cX12_init 177 = .ok (.aload_n 0, 1) := by decide +kernel
theorem dX12_init_178 : decode cX12_init 178 = .ok (.sipush 1280, 3) := by decide +kernel
theorem dX12_init_181 : decode cX12_init 181 = .ok (.newarray .int, 2) := by decide +kernel
theorem dX12_init_183 : decode cX12_init 183 = .ok (.putfield 76, 3) := by decide +kernel
theorem dX12_init_186 : decode cX12_init 186 = .ok (.aload_n 0, 1) := by decide +kernel
theorem dX12_init_187 : decode cX12_init 187 = .ok (.sipush 160, 3) := by decide +kernel
theorem dX12_init_190 : decode cX12_init 190 = .ok (.newarray .int, 2) := by decide +kernel
theorem dX12_init_192 : decode cX12_init 192 = .ok (.putfield 79, 3) := by decide +kernel
theorem dX12_init_195 : decode cX12_init 195 = .ok (.aload_n 0, 1) := by decide +kernel
theorem dX12_init_196 : decode cX12_init 196 = .ok (.bipush 8, 2) := by decide +kernel
theorem dX12_init_198 : decode cX12_init 198 = .ok (.newarray .int, 2) := by decide +kernel
theorem dX12_init_200 : decode cX12_init 200 = .ok (.putfield 82, 3) := by decide +kernel
theorem dX12_init_203 : decode cX12_init 203 = .ok (.aload_n 0, 1) := by decide +kernel
theorem dX12_init_204 : decode cX12_init 204 = .ok (.bipush 100, 2) := by decide +kernel
theorem dX12_init_206 : decode cX12_init 206 = .ok (.newarray .int, 2) := by decide +kernel
theorem dX12_init_208 : decode cX12_init 208 = .ok (.putfield 85, 3) := by decide +kernel
theorem dX12_init_211 : decode cX12_init 211 = .ok (.aload_n 0, 1) := by decide +kernel
theorem dX12_init_212 : decode cX12_init 212 = .ok (.bipush 100, 2) := by decide +kernel
theorem dX12_init_214 : decode cX12_init 214 = .ok (.newarray .int, 2) := by decide +kernel
theorem dX12_init_216 : decode cX12_init 216 = .ok (.putfield 88, 3) := by decide +kernel
theorem dX12_init_219 : decode cX12_init 219 = .ok (.aload_n 0, 1) := by decide +kernel
theorem dX12_init_220 : decode cX12_init 220 = .ok (.bipush 8, 2) := by decide +kernel
theorem dX12_init_222 : decode cX12_init 222 = .ok (.newarray .int, 2) := by decide +kernel
theorem dX12_init_224 : decode cX12_init 224 = .ok (.putfield 91, 3) := by decide +kernel
theorem dX12_init_227 : decode cX12_init 227 = .ok (.aload_n 0, 1) := by decide +kernel
theorem dX12_init_228 : decode cX12_init 228 = .ok (.bipush 100, 2) := by decide +kernel
theorem dX12_init_230 : decode cX12_init 230 = .ok (.newarray .int, 2) := by decide +kernel
theorem dX12_init_232 : decode cX12_init 232 = .ok (.putfield 94, 3) := by decide +kernel
theorem dX12_init_235 : decode cX12_init 235 = .ok (.aload_n 0, 1) := by decide +kernel
theorem dX12_init_236 : decode cX12_init 236 = .ok (.bipush 100, 2) := by decide +kernel
theorem dX12_init_238 : decode cX12_init 238 = .ok (.newarray .int, 2) := by decide +kernel
theorem dX12_init_240 : decode cX12_init 240 = .ok (.putfield 97, 3) := by decide +kernel
theorem dX12_init_243 : decode cX12_init 243 = .ok (.aload_n 0, 1) := by decide +kernel
theorem dX12_init_244 : decode cX12_init 244 = .ok (.bipush 100, 2) := by decide +kernel
theorem dX12_init_246 : decode cX12_init 246 = .ok (.newarray .int, 2) := by decide +kernel
theorem dX12_init_248 : decode cX12_init 248 = .ok (.putfield 100, 3) := by decide +kernel
theorem dX12_init_251 : decode cX12_init 251 = .ok (.aload_n 0, 1) := by decide +kernel
theorem dX12_init_252 : decode cX12_init 252 = .ok (.bipush 100, 2) := by decide +kernel
theorem dX12_init_254 : decode cX12_init 254 = .ok (.newarray .boolean, 2) := by decide +kernel
theorem dX12_init_256 : decode cX12_init 256 = .ok (.putfield 103, 3) := by decide +kernel
theorem dX12_init_259 : decode cX12_init 259 = .ok (.aload_n 0, 1) := by decide +kernel
theorem dX12_init_260 : decode cX12_init 260 = .ok (.sipush 220, 3) := by decide +kernel
theorem dX12_init_263 : decode cX12_init 263 = .ok (.newarray .int, 2) := by decide +kernel
theorem dX12_init_265 : decode cX12_init 265 = .ok (.putfield 106, 3) := by decide +kernel
theorem dX12_init_268 : decode cX12_init 268 = .ok (.aload_n 0, 1) := by decide +kernel
theorem dX12_init_269 : decode cX12_init 269 = .ok (.sipush 10000, 3) := by decide +kernel
theorem dX12_init_272 : decode cX12_init 272 = .ok (.newarray .boolean, 2) := by decide +kernel
theorem dX12_init_274 : decode cX12_init 274 = .ok (.putfield 109, 3) := by decide +kernel
theorem dX12_init_277 : decode cX12_init 277 = .ok (.aload_n 0, 1) := by decide +kernel
theorem dX12_init_278 : decode cX12_init 278 = .ok (.bipush 100, 2) := by decide +kernel
theorem dX12_init_280 : decode cX12_init 280 = .ok (.newarray .boolean, 2) := by decide +kernel
theorem dX12_init_282 : decode cX12_init 282 = .ok (.putfield 112, 3) := by decide +kernel
theorem dX12_init_285 : decode cX12_init 285 = .ok (.aload_n 0, 1) := by decide +kernel
theorem dX12_init_286 : decode cX12_init 286 = .ok (.sipush 1600, 3) := by decide +kernel
theorem dX12_init_289 : decode cX12_init 289 = .ok (.newarray .int, 2) := by decide +kernel
theorem dX12_init_291 : decode cX12_init 291 = .ok (.putfield 115, 3) := by decide +kernel
theorem dX12_init_294 : decode cX12_init 294 = .ok (.aload_n 0, 1) := by decide +kernel
theorem dX12_init_295 : decode cX12_init 295 = .ok (.bipush 100, 2) := by decide +kernel
theorem dX12_init_297 : decode cX12_init 297 = .ok (.newarray .int, 2) := by decide +kernel
theorem dX12_init_299 : decode cX12_init 299 = .ok (.putfield 118, 3) := by decide +kernel
theorem dX12_init_302 : decode cX12_init 302 = .ok (.aload_n 0, 1) := by decide +kernel
theorem dX12_init_303 : decode cX12_init 303 = .ok (.bipush 12, 2) := by decide +kernel
theorem dX12_init_305 : decode cX12_init 305 = .ok (.newarray .int, 2) := by decide +kernel
theorem dX12_init_307 : decode cX12_init 307 = .ok (.putfield 121, 3) := by decide +kernel
theorem dX12_init_310 : decode cX12_init 310 = .ok (.aload_n 0, 1) := by decide +kernel
theorem dX12_init_311 : decode cX12_init 311 = .ok (.getfield 13, 3) := by decide +kernel
theorem dX12_init_314 : decode cX12_init 314 = .ok (.iconst 0, 1) := by decide +kernel
theorem dX12_init_315 : decode cX12_init 315 = .ok (.iconst 1, 1) := by decide +kernel
theorem dX12_init_316 : decode cX12_init 316 = .ok (.bastore, 1) := by decide +kernel
theorem dX12_init_317 : decode cX12_init 317 = .ok (.return_, 1) := by decide +kernel
theorem dX12_thrown_0 : decode cX12_thrown 0 = .ok (.aload_n 0, 1) := by decide +kernel
theorem dX12_thrown_1 : decode cX12_thrown 1 = .ok (.getfield 124, 3) := by decide +kernel
theorem dX12_thrown_4 : decode cX12_thrown 4 = .ok (.ireturn, 1) := by decide +kernel
theorem dX12_isLevel_0 : decode cX12_isLevel 0 = .ok (.iload_n 1, 1) := by decide +kernel
theorem dX12_isLevel_1 : decode cX12_isLevel 1 = .ok (.ifCond .lt 15, 3) := by decide +kernel
theorem dX12_isLevel_4 : decode cX12_isLevel 4 = .ok (.iload_n 1, 1) := by decide +kernel
theorem dX12_isLevel_5 : decode cX12_isLevel 5 = .ok (.aload_n 0, 1) := by decide +kernel
theorem dX12_isLevel_6 : decode cX12_isLevel 6 = .ok (.getfield 7, 3) := by decide +kernel
theorem dX12_isLevel_9 : decode cX12_isLevel 9 = .ok (.if_icmp .ge 7, 3) := by decide +kernel
theorem dX12_isLevel_12 : decode cX12_isLevel 12 = .ok (.iconst 1, 1) := by decide +kernel
theorem dX12_isLevel_13 : decode cX12_isLevel 13 = .ok (.goto 4, 3) := by decide +kernel
theorem dX12_isLevel_16 : decode cX12_isLevel 16 = .ok (.iconst 0, 1) := by decide +kernel
theorem dX12_isLevel_17 : decode cX12_isLevel 17 = .ok (.ireturn, 1) := by decide +kernel
theorem dX12_bound_0 : decode cX12_bound 0 = .ok (.iconst 0, 1) := by decide +kernel
theorem dX12_bound_1 : decode cX12_bound 1 = .ok (.istore 5, 2) := by decide +kernel
theorem dX12_bound_3 : decode cX12_bound 3 = .ok (.iload 5, 2) := by decide +kernel
theorem dX12_bound_5 : decode cX12_bound 5 = .ok (.iload_n 1, 1) := by decide +kernel
theorem dX12_bound_6 : decode cX12_bound 6 = .ok (.if_icmp .ge 112, 3) := by decide +kernel
theorem dX12_bound_9 : decode cX12_bound 9 = .ok (.aload_n 0, 1) := by decide +kernel
theorem dX12_bound_10 : decode cX12_bound 10 = .ok (.iload_n 2, 1) := by decide +kernel
theorem dX12_bound_11 : decode cX12_bound 11 = .ok (.iload 5, 2) := by decide +kernel
theorem dX12_bound_13 : decode cX12_bound 13 = .ok (.iload 4, 2) := by decide +kernel
theorem dX12_bound_15 : decode cX12_bound 15 = .ok (.invokevirtual 127, 3) := by decide +kernel
theorem dX12_bound_18 : decode cX12_bound 18 = .ok (.ifCond .eq 19, 3) := by decide +kernel
theorem dX12_bound_21 : decode cX12_bound 21 = .ok (.aload_n 0, 1) := by decide +kernel
theorem dX12_bound_22 : decode cX12_bound 22 = .ok (.iload_n 3, 1) := by decide +kernel
theorem dX12_bound_23 : decode cX12_bound 23 = .ok (.iload 5, 2) := by decide +kernel
theorem dX12_bound_25 : decode cX12_bound 25 = .ok (.iload 4, 2) := by decide +kernel
theorem dX12_bound_27 : decode cX12_bound 27 = .ok (.invokevirtual 127, 3) := by decide +kernel
theorem dX12_bound_30 : decode cX12_bound 30 = .ok (.ifCond .eq 7, 3) := by decide +kernel
theorem dX12_bound_33 : decode cX12_bound 33 = .ok (.iconst 1, 1) := by decide +kernel
theorem dX12_bound_34 : decode cX12_bound 34 = .ok (.goto 4, 3) := by decide +kernel
theorem dX12_bound_37 : decode cX12_bound 37 = .ok (.iconst 0, 1) := by decide +kernel
theorem dX12_bound_38 : decode cX12_bound 38 = .ok (.istore 6, 2) := by decide +kernel
theorem dX12_bound_40 : decode cX12_bound 40 = .ok (.iconst 0, 1) := by decide +kernel
theorem dX12_bound_41 : decode cX12_bound 41 = .ok (.istore 7, 2) := by decide +kernel
theorem dX12_bound_43 : decode cX12_bound 43 = .ok (.iload 7, 2) := by decide +kernel
theorem dX12_bound_45 : decode cX12_bound 45 = .ok (.iload_n 1, 1) := by decide +kernel
theorem dX12_bound_46 : decode cX12_bound 46 = .ok (.if_icmp .ge 58, 3) := by decide +kernel
theorem dX12_bound_49 : decode cX12_bound 49 = .ok (.iload 6, 2) := by decide +kernel
theorem dX12_bound_51 : decode cX12_bound 51 = .ok (.ifCond .eq 44, 3) := by decide +kernel
theorem dX12_bound_54 : decode cX12_bound 54 = .ok (.aload_n 0, 1) := by decide +kernel
theorem dX12_bound_55 : decode cX12_bound 55 = .ok (.iload_n 2, 1) := by decide +kernel
theorem dX12_bound_56 : decode cX12_bound 56 = .ok (.iload 7, 2) := by decide +kernel
theorem dX12_bound_58 : decode cX12_bound 58 = .ok (.iload 4, 2) := by decide +kernel
theorem dX12_bound_60 : decode cX12_bound 60 = .ok (.invokevirtual 127, 3) := by decide +kernel
theorem dX12_bound_63 : decode cX12_bound 63 = .ok (.ifCond .eq 28, 3) := by decide +kernel
theorem dX12_bound_66 : decode cX12_bound 66 = .ok (.aload_n 0, 1) := by decide +kernel
theorem dX12_bound_67 : decode cX12_bound 67 = .ok (.iload_n 3, 1) := by decide +kernel
theorem dX12_bound_68 : decode cX12_bound 68 = .ok (.iload 7, 2) := by decide +kernel
theorem dX12_bound_70 : decode cX12_bound 70 = .ok (.iload 4, 2) := by decide +kernel
theorem dX12_bound_72 : decode cX12_bound 72 = .ok (.invokevirtual 127, 3) := by decide +kernel
theorem dX12_bound_75 : decode cX12_bound 75 = .ok (.ifCond .eq 16, 3) := by decide +kernel
theorem dX12_bound_78 : decode cX12_bound 78 = .ok (.aload_n 0, 1) := by decide +kernel
theorem dX12_bound_79 : decode cX12_bound 79 = .ok (.iload 5, 2) := by decide +kernel
theorem dX12_bound_81 : decode cX12_bound 81 = .ok (.iload 7, 2) := by decide +kernel
theorem dX12_bound_83 : decode cX12_bound 83 = .ok (.iload 4, 2) := by decide +kernel
theorem dX12_bound_85 : decode cX12_bound 85 = .ok (.invokevirtual 127, 3) := by decide +kernel
theorem dX12_bound_88 : decode cX12_bound 88 = .ok (.ifCond .eq 7, 3) := by decide +kernel
theorem dX12_bound_91 : decode cX12_bound 91 = .ok (.iconst 1, 1) := by decide +kernel
theorem dX12_bound_92 : decode cX12_bound 92 = .ok (.goto 4, 3) := by decide +kernel
theorem dX12_bound_95 : decode cX12_bound 95 = .ok (.iconst 0, 1) := by decide +kernel
theorem dX12_bound_96 : decode cX12_bound 96 = .ok (.istore 6, 2) := by decide +kernel
theorem dX12_bound_98 : decode cX12_bound 98 = .ok (.iinc 7 1, 3) := by decide +kernel
theorem dX12_bound_101 : decode cX12_bound 101 = .ok (.goto (-58), 3) := by decide +kernel
theorem dX12_bound_104 : decode cX12_bound 104 = .ok (.iload 6, 2) := by decide +kernel
theorem dX12_bound_106 : decode cX12_bound 106 = .ok (.ifCond .eq 6, 3) := by decide +kernel
theorem dX12_bound_109 : decode cX12_bound 109 = .ok (.iload 5, 2) := by decide +kernel
theorem dX12_bound_111 : decode cX12_bound 111 = .ok (.ireturn, 1) := by decide +kernel
theorem dX12_bound_112 : decode cX12_bound 112 = .ok (.iinc 5 1, 3) := by decide +kernel
theorem dX12_bound_115 : decode cX12_bound 115 = .ok (.goto (-112), 3) := by decide +kernel
theorem dX12_bound_118 : decode cX12_bound 118 = .ok (.iconst (-1), 1) := by decide +kernel
theorem dX12_bound_119 : decode cX12_bound 119 = .ok (.ireturn, 1) := by decide +kernel
theorem dX12_fits_0 : decode cX12_fits 0 = .ok (.iload_n 3, 1) := by decide +kernel
theorem dX12_fits_1 : decode cX12_fits 1 = .ok (.ifCond .eq 17, 3) := by decide +kernel
theorem dX12_fits_4 : decode cX12_fits 4 = .ok (.aload_n 0, 1) := by decide +kernel
theorem dX12_fits_5 : decode cX12_fits 5 = .ok (.getfield 33, 3) := by decide +kernel
theorem dX12_fits_8 : decode cX12_fits 8 = .ok (.bipush 6, 2) := by decide +kernel
theorem dX12_fits_10 : decode cX12_fits 10 = .ok (.iload_n 2, 1) := by decide +kernel
theorem dX12_fits_11 : decode cX12_fits 11 = .ok (.imul, 1) := by decide +kernel
theorem dX12_fits_12 : decode cX12_fits 12 = .ok (.iload_n 1, 1) := by decide +kernel

theorem dX0_init_0 : decode cX0_init 0 = .ok (.aload_n 0, 1) := by decide +kernel
theorem dX0_init_1 : decode cX0_init 1 = .ok (.invokespecial 3, 3) := by decide +kernel
theorem dX0_init_4 : decode cX0_init 4 = .ok (.aload_n 0, 1) := by decide +kernel
theorem dX0_init_5 : decode cX0_init 5 = .ok (.bipush 100, 2) := by decide +kernel
theorem dX0_init_7 : decode cX0_init 7 = .ok (.newarray .int, 2) := by decide +kernel
theorem dX0_init_9 : decode cX0_init 9 = .ok (.putfield 9, 3) := by decide +kernel
theorem dX0_init_12 : decode cX0_init 12 = .ok (.aload_n 0, 1) := by decide +kernel
theorem dX0_init_13 : decode cX0_init 13 = .ok (.bipush 100, 2) := by decide +kernel
theorem dX0_init_15 : decode cX0_init 15 = .ok (.newarray .int, 2) := by decide +kernel
theorem dX0_init_17 : decode cX0_init 17 = .ok (.putfield 15, 3) := by decide +kernel
theorem dX0_init_20 : decode cX0_init 20 = .ok (.aload_n 0, 1) := by decide +kernel
theorem dX0_init_21 : decode cX0_init 21 = .ok (.iconst 0, 1) := by decide +kernel
theorem dX0_init_22 : decode cX0_init 22 = .ok (.putfield 18, 3) := by decide +kernel
theorem dX0_init_25 : decode cX0_init 25 = .ok (.return_, 1) := by decide +kernel
theorem dX0_clear_0 : decode cX0_clear 0 = .ok (.aload_n 0, 1) := by decide +kernel
theorem dX0_clear_1 : decode cX0_clear 1 = .ok (.iconst 0, 1) := by decide +kernel
theorem dX0_clear_2 : decode cX0_clear 2 = .ok (.putfield 18, 3) := by decide +kernel
theorem dX0_clear_5 : decode cX0_clear 5 = .ok (.return_, 1) := by decide +kernel
theorem dX0_add_0 : decode cX0_add 0 = .ok (.aload_n 0, 1) := by decide +kernel
theorem dX0_add_1 : decode cX0_add 1 = .ok (.getfield 18, 3) := by decide +kernel
theorem dX0_add_4 : decode cX0_add 4 = .ok (.bipush 100, 2) := by decide +kernel
theorem dX0_add_6 : decode cX0_add 6 = .ok (.if_icmp .lt 5, 3) := by decide +kernel
theorem dX0_add_9 : decode cX0_add 9 = .ok (.iconst 0, 1) := by decide +kernel
theorem dX0_add_10 : decode cX0_add 10 = .ok (.ireturn, 1) := by decide +kernel
theorem dX0_add_11 : decode cX0_add 11 = .ok (.aload_n 0, 1) := by decide +kernel
theorem dX0_add_12 : decode cX0_add 12 = .ok (.getfield 9, 3) := by decide +kernel
theorem dX0_add_15 : decode cX0_add 15 = .ok (.aload_n 0, 1) := by decide +kernel
theorem dX0_add_16 : decode cX0_add 16 = .ok (.getfield 18, 3) := by decide +kernel
theorem dX0_add_19 : decode cX0_add 19 = .ok (.iload_n 1, 1) := by decide +kernel
theorem dX0_add_20 : decode cX0_add 20 = .ok (.iastore, 1) := by decide +kernel
theorem dX0_add_21 : decode cX0_add 21 = .ok (.aload_n 0, 1) := by decide +kernel
theorem dX0_add_22 : decode cX0_add 22 = .ok (.getfield 15, 3) := by decide +kernel
theorem dX0_add_25 : decode cX0_add 25 = .ok (.aload_n 0, 1) := by decide +kernel
theorem dX0_add_26 : decode cX0_add 26 = .ok (.getfield 18, 3) := by decide +kernel
theorem dX0_add_29 : decode cX0_add 29 = .ok (.iload_n 2, 1) := by decide +kernel
theorem dX0_add_30 : decode cX0_add 30 = .ok (.iastore, 1) := by decide +kernel
theorem dX0_add_31 : decode cX0_add 31 = .ok (.aload_n 0, 1) := by decide +kernel
theorem dX0_add_32 : decode cX0_add 32 = .ok (.dup, 1) := by decide +kernel
theorem dX0_add_33 : decode cX0_add 33 = .ok (.getfield 18, 3) := by decide +kernel
theorem dX0_add_36 : decode cX0_add 36 = .ok (.iconst 1, 1) := by decide +kernel
theorem dX0_add_37 : decode cX0_add 37 = .ok (.iadd, 1) := by decide +kernel
theorem dX0_add_38 : decode cX0_add 38 = .ok (.putfield 18, 3) := by decide +kernel
theorem dX0_add_41 : decode cX0_add 41 = .ok (.iconst 1, 1) := by decide +kernel
theorem dX0_add_42 : decode cX0_add 42 = .ok (.ireturn, 1) := by decide +kernel
theorem dX0_size_0 : decode cX0_size 0 = .ok (.aload_n 0, 1) := by decide +kernel
theorem dX0_size_1 : decode cX0_size 1 = .ok (.getfield 18, 3) := by decide +kernel
theorem dX0_size_4 : decode cX0_size 4 = .ok (.ireturn, 1) := by decide +kernel
theorem dX0_has_0 : decode cX0_has 0 = .ok (.iload_n 1, 1) := by decide +kernel
theorem dX0_has_1 : decode cX0_has 1 = .ok (.ifCond .lt 15, 3) := by decide +kernel
theorem dX0_has_4 : decode cX0_has 4 = .ok (.iload_n 1, 1) := by decide +kernel
theorem dX0_has_5 : decode cX0_has 5 = .ok (.aload_n 0, 1) := by decide +kernel
theorem dX0_has_6 : decode cX0_has 6 = .ok (.getfield 18, 3) := by decide +kernel
theorem dX0_has_9 : decode cX0_has 9 = .ok (.if_icmp .ge 7, 3) := by decide +kernel
theorem dX0_has_12 : decode cX0_has 12 = .ok (.iconst 1, 1) := by decide +kernel
theorem dX0_has_13 : decode cX0_has 13 = .ok (.goto 4, 3) := by decide +kernel
theorem dX0_has_16 : decode cX0_has 16 = .ok (.iconst 0, 1) := by decide +kernel
theorem dX0_has_17 : decode cX0_has 17 = .ok (.ireturn, 1) := by decide +kernel
theorem dX0_kindAt_0 : decode cX0_kindAt 0 = .ok (.aload_n 0, 1) := by decide +kernel
theorem dX0_kindAt_1 : decode cX0_kindAt 1 = .ok (.iload_n 1, 1) := by decide +kernel
theorem dX0_kindAt_2 : decode cX0_kindAt 2 = .ok (.invokevirtual 22, 3) := by decide +kernel
theorem dX0_kindAt_5 : decode cX0_kindAt 5 = .ok (.ifCond .eq 12, 3) := by decide +kernel
theorem dX0_kindAt_8 : decode cX0_kindAt 8 = .ok (.aload_n 0, 1) := by decide +kernel
theorem dX0_kindAt_9 : decode cX0_kindAt 9 = .ok (.getfield 9, 3) := by decide +kernel
theorem dX0_kindAt_12 : decode cX0_kindAt 12 = .ok (.iload_n 1, 1) := by decide +kernel
theorem dX0_kindAt_13 : decode cX0_kindAt 13 = .ok (.iaload, 1) := by decide +kernel
theorem dX0_kindAt_14 : decode cX0_kindAt 14 = .ok (.goto 4, 3) := by decide +kernel
theorem dX0_kindAt_17 : decode cX0_kindAt 17 = .ok (.iconst (-1), 1) := by decide +kernel
theorem dX0_kindAt_18 : decode cX0_kindAt 18 = .ok (.ireturn, 1) := by decide +kernel
theorem dX0_argumentAt_0 : decode cX0_argumentAt 0 = .ok (.aload_n 0, 1) := by decide +kernel
theorem dX0_argumentAt_1 : decode cX0_argumentAt 1 = .ok (.iload_n 1, 1) := by decide +kernel
theorem dX0_argumentAt_2 : decode cX0_argumentAt 2 = .ok (.invokevirtual 22, 3) := by decide +kernel
theorem dX0_argumentAt_5 : decode cX0_argumentAt 5 = .ok (.ifCond .eq 12, 3) := by decide +kernel
theorem dX0_argumentAt_8 : decode cX0_argumentAt 8 = .ok (.aload_n 0, 1) := by decide +kernel
theorem dX0_argumentAt_9 : decode cX0_argumentAt 9 = .ok (.getfield 15, 3) := by decide +kernel
theorem dX0_argumentAt_12 : decode cX0_argumentAt 12 = .ok (.iload_n 1, 1) := by decide +kernel
theorem dX0_argumentAt_13 : decode cX0_argumentAt 13 = .ok (.iaload, 1) := by decide +kernel
theorem dX0_argumentAt_14 : decode cX0_argumentAt 14 = .ok (.goto 4, 3) := by decide +kernel
theorem dX0_argumentAt_17 : decode cX0_argumentAt 17 = .ok (.iconst (-1), 1) := by decide +kernel
theorem dX0_argumentAt_18 : decode cX0_argumentAt 18 = .ok (.ireturn, 1) := by decide +kernel
theorem dX0_nextOf_0 : decode cX0_nextOf 0 = .ok (.aload_n 0, 1) := by decide +kernel
theorem dX0_nextOf_1 : decode cX0_nextOf 1 = .ok (.iload_n 1, 1) := by decide +kernel
theorem dX0_nextOf_2 : decode cX0_nextOf 2 = .ok (.invokevirtual 22, 3) := by decide +kernel
theorem dX0_nextOf_5 : decode cX0_nextOf 5 = .ok (.ifCond .ne 5, 3) := by decide +kernel
theorem dX0_nextOf_8 : decode cX0_nextOf 8 = .ok (.iconst (-1), 1) := by decide +kernel
theorem dX0_nextOf_9 : decode cX0_nextOf 9 = .ok (.ireturn, 1) := by decide +kernel
theorem dX0_nextOf_10 : decode cX0_nextOf 10 = .ok (.aload_n 0, 1) := by decide +kernel
theorem dX0_nextOf_11 : decode cX0_nextOf 11 = .ok (.getfield 9, 3) := by decide +kernel
theorem dX0_nextOf_14 : decode cX0_nextOf 14 = .ok (.iload_n 1, 1) := by decide +kernel
theorem dX0_nextOf_15 : decode cX0_nextOf 15 = .ok (.iaload, 1) := by decide +kernel
theorem dX0_nextOf_16 : decode cX0_nextOf 16 = .ok (.istore_n 3, 1) := by decide +kernel
theorem dX0_nextOf_17 : decode cX0_nextOf 17 = .ok (.iconst (-1), 1) := by decide +kernel
theorem dX0_nextOf_18 : decode cX0_nextOf 18 = .ok (.istore 4, 2) := by decide +kernel
theorem dX0_nextOf_20 : decode cX0_nextOf 20 = .ok (.iload_n 2, 1) := by decide +kernel
theorem dX0_nextOf_21 : decode cX0_nextOf 21 = .ok (.ifCond .ne 23, 3) := by decide +kernel
theorem dX0_nextOf_24 : decode cX0_nextOf 24 = .ok (.iload_n 3, 1) := by decide +kernel
theorem dX0_nextOf_25 : decode cX0_nextOf 25 = .ok (.bipush 8, 2) := by decide +kernel
theorem dX0_nextOf_27 : decode cX0_nextOf 27 = .ok (.if_icmp .eq 17, 3) := by decide +kernel
theorem dX0_nextOf_30 : decode cX0_nextOf 30 = .ok (.iload_n 3, 1) := by decide +kernel
theorem dX0_nextOf_31 : decode cX0_nextOf 31 = .ok (.bipush 9, 2) := by decide +kernel
theorem dX0_nextOf_33 : decode cX0_nextOf 33 = .ok (.if_icmp .eq 11, 3) := by decide +kernel
theorem dX0_nextOf_36 : decode cX0_nextOf 36 = .ok (.iload_n 1, 1) := by decide +kernel
theorem dX0_nextOf_37 : decode cX0_nextOf 37 = .ok (.iconst 1, 1) := by decide +kernel
theorem dX0_nextOf_38 : decode cX0_nextOf 38 = .ok (.iadd, 1) := by decide +kernel
theorem dX0_nextOf_39 : decode cX0_nextOf 39 = .ok (.istore 4, 2) := by decide +kernel
theorem dX0_nextOf_41 : decode cX0_nextOf 41 = .ok (.goto 32, 3) := by decide +kernel
theorem dX0_nextOf_44 : decode cX0_nextOf 44 = .ok (.iload_n 2, 1) := by decide +kernel
theorem dX0_nextOf_45 : decode cX0_nextOf 45 = .ok (.ifCond .ne 9, 3) := by decide +kernel
theorem dX0_nextOf_48 : decode cX0_nextOf 48 = .ok (.iload_n 3, 1) := by decide +kernel
theorem dX0_nextOf_49 : decode cX0_nextOf 49 = .ok (.bipush 8, 2) := by decide +kernel
theorem dX0_nextOf_51 : decode cX0_nextOf 51 = .ok (.if_icmp .eq 14, 3) := by decide +kernel
theorem dX0_nextOf_54 : decode cX0_nextOf 54 = .ok (.iload_n 2, 1) := by decide +kernel
theorem dX0_nextOf_55 : decode cX0_nextOf 55 = .ok (.iconst 1, 1) := by decide +kernel
theorem dX0_nextOf_56 : decode cX0_nextOf 56 = .ok (.if_icmp .ne 17, 3) := by decide +kernel
theorem dX0_nextOf_59 : decode cX0_nextOf 59 = .ok (.iload_n 3, 1) := by decide +kernel
theorem dX0_nextOf_60 : decode cX0_nextOf 60 = .ok (.bipush 7, 2) := by decide +kernel
theorem dX0_nextOf_62 : decode cX0_nextOf 62 = .ok (.if_icmp .ne 11, 3) := by decide +kernel
theorem dX0_nextOf_65 : decode cX0_nextOf 65 = .ok (.aload_n 0, 1) := by decide +kernel
theorem dX0_nextOf_66 : decode cX0_nextOf 66 = .ok (.getfield 15, 3) := by decide +kernel
theorem dX0_nextOf_69 : decode cX0_nextOf 69 = .ok (.iload_n 1, 1) := by decide +kernel
theorem dX0_nextOf_70 : decode cX0_nextOf 70 = .ok (.iaload, 1) := by decide +kernel
theorem dX0_nextOf_71 : decode cX0_nextOf 71 = .ok (.istore 4, 2) := by decide +kernel
theorem dX0_nextOf_73 : decode cX0_nextOf 73 = .ok (.aload_n 0, 1) := by decide +kernel
theorem dX0_nextOf_74 : decode cX0_nextOf 74 = .ok (.iload 4, 2) := by decide +kernel
theorem dX0_nextOf_76 : decode cX0_nextOf 76 = .ok (.invokevirtual 22, 3) := by decide +kernel
theorem dX0_nextOf_79 : decode cX0_nextOf 79 = .ok (.ifCond .eq 8, 3) := by decide +kernel
theorem dX0_nextOf_82 : decode cX0_nextOf 82 = .ok (.iload 4, 2) := by decide +kernel
theorem dX0_nextOf_84 : decode cX0_nextOf 84 = .ok (.goto 4, 3) := by decide +kernel
theorem dX0_nextOf_87 : decode cX0_nextOf 87 = .ok (.iconst (-1), 1) := by decide +kernel
theorem dX0_nextOf_88 : decode cX0_nextOf 88 = .ok (.ireturn, 1) := by decide +kernel
theorem dX0_become_0 : decode cX0_become 0 = .ok (.aload_n 0, 1) := by decide +kernel
theorem dX0_become_1 : decode cX0_become 1 = .ok (.invokevirtual 26, 3) := by decide +kernel
theorem dX0_become_4 : decode cX0_become 4 = .ok (.aload_n 0, 1) := by decide +kernel
theorem dX0_become_5 : decode cX0_become 5 = .ok (.aload_n 1, 1) := by decide +kernel
theorem dX0_become_6 : decode cX0_become 6 = .ok (.iconst 0, 1) := by decide +kernel
theorem dX0_become_7 : decode cX0_become 7 = .ok (.invokevirtual 29, 3) := by decide +kernel
theorem dX0_become_10 : decode cX0_become 10 = .ok (.aload_n 0, 1) := by decide +kernel
theorem dX0_become_11 : decode cX0_become 11 = .ok (.bipush 9, 2) := by decide +kernel
theorem dX0_become_13 : decode cX0_become 13 = .ok (.iconst 0, 1) := by decide +kernel
theorem dX0_become_14 : decode cX0_become 14 = .ok (.invokevirtual 33, 3) := by decide +kernel
theorem dX0_become_17 : decode cX0_become 17 = .ok (.pop, 1) := by decide +kernel
theorem dX0_become_18 : decode cX0_become 18 = .ok (.return_, 1) := by decide +kernel
theorem dX0_addRow_0 : decode cX0_addRow 0 = .ok (.iload_n 2, 1) := by decide +kernel
theorem dX0_addRow_1 : decode cX0_addRow 1 = .ok (.bipush 6, 2) := by decide +kernel
theorem dX0_addRow_3 : decode cX0_addRow 3 = .ok (.if_icmp .le 4, 3) := by decide +kernel
theorem dX0_addRow_6 : decode cX0_addRow 6 = .ok (.return_, 1) := by decide +kernel
theorem dX0_addRow_7 : decode cX0_addRow 7 = .ok (.aload_n 1, 1) := by decide +kernel
theorem dX0_addRow_8 : decode cX0_addRow 8 = .ok (.astore_n 3, 1) := by decide +kernel
theorem dX0_addRow_9 : decode cX0_addRow 9 = .ok (.aload_n 3, 1) := by decide +kernel
theorem dX0_addRow_10 : decode cX0_addRow 10 = .ok (.ifnull 72, 3) := by decide +kernel
theorem dX0_addRow_13 : decode cX0_addRow 13 = .ok (.aload_n 0, 1) := by decide +kernel
theorem dX0_addRow_14 : decode cX0_addRow 14 = .ok (.getfield 18, 3) := by decide +kernel
theorem dX0_addRow_17 : decode cX0_addRow 17 = .ok (.istore 4, 2) := by decide +kernel
theorem dX0_addRow_19 : decode cX0_addRow 19 = .ok (.aload_n 0, 1) := by decide +kernel
theorem dX0_addRow_20 : decode cX0_addRow 20 = .ok (.aload_n 3, 1) := by decide +kernel
theorem dX0_addRow_21 : decode cX0_addRow 21 = .ok (.getfield 37, 3) := by decide +kernel
theorem dX0_addRow_24 : decode cX0_addRow 24 = .ok (.iconst 0, 1) := by decide +kernel
theorem dX0_addRow_25 : decode cX0_addRow 25 = .ok (.invokevirtual 43, 3) := by decide +kernel
theorem dX0_addRow_28 : decode cX0_addRow 28 = .ok (.aload_n 3, 1) := by decide +kernel
theorem dX0_addRow_29 : decode cX0_addRow 29 = .ok (.getfield 46, 3) := by decide +kernel
theorem dX0_addRow_32 : decode cX0_addRow 32 = .ok (.iconst 4, 1) := by decide +kernel
theorem dX0_addRow_33 : decode cX0_addRow 33 = .ok (.if_icmp .ne 12, 3) := by decide +kernel
theorem dX0_addRow_36 : decode cX0_addRow 36 = .ok (.aload_n 0, 1) := by decide +kernel
theorem dX0_addRow_37 : decode cX0_addRow 37 = .ok (.aload_n 3, 1) := by decide +kernel
theorem dX0_addRow_38 : decode cX0_addRow 38 = .ok (.iload_n 2, 1) := by decide +kernel
theorem dX0_addRow_39 : decode cX0_addRow 39 = .ok (.invokevirtual 49, 3) := by decide +kernel
theorem dX0_addRow_42 : decode cX0_addRow 42 = .ok (.goto 32, 3) := by decide +kernel
theorem dX0_addRow_45 : decode cX0_addRow 45 = .ok (.aload_n 3, 1) := by decide +kernel
theorem dX0_addRow_46 : decode cX0_addRow 46 = .ok (.getfield 46, 3) := by decide +kernel
theorem dX0_addRow_49 : decode cX0_addRow 49 = .ok (.iconst 5, 1) := by decide +kernel
theorem dX0_addRow_50 : decode cX0_addRow 50 = .ok (.if_icmp .ne 14, 3) := by decide +kernel
theorem dX0_addRow_53 : decode cX0_addRow 53 = .ok (.aload_n 0, 1) := by decide +kernel
theorem dX0_addRow_54 : decode cX0_addRow 54 = .ok (.aload_n 3, 1) := by decide +kernel
theorem dX0_addRow_55 : decode cX0_addRow 55 = .ok (.iload 4, 2) := by decide +kernel
theorem dX0_addRow_57 : decode cX0_addRow 57 = .ok (.iload_n 2, 1) := by decide +kernel
theorem dX0_addRow_58 : decode cX0_addRow 58 = .ok (.invokevirtual 52, 3) := by decide +kernel
theorem dX0_addRow_61 : decode cX0_addRow 61 = .ok (.goto 13, 3) := by decide +kernel
theorem dX0_addRow_64 : decode cX0_addRow 64 = .ok (.aload_n 0, 1) := by decide +kernel
theorem dX0_addRow_65 : decode cX0_addRow 65 = .ok (.iconst 2, 1) := by decide +kernel
theorem dX0_addRow_66 : decode cX0_addRow 66 = .ok (.aload_n 3, 1) := by decide +kernel
theorem dX0_addRow_67 : decode cX0_addRow 67 = .ok (.getfield 56, 3) := by decide +kernel
theorem dX0_addRow_70 : decode cX0_addRow 70 = .ok (.invokevirtual 33, 3) := by decide +kernel
theorem dX0_addRow_73 : decode cX0_addRow 73 = .ok (.pop, 1) := by decide +kernel
theorem dX0_addRow_74 : decode cX0_addRow 74 = .ok (.aload_n 3, 1) := by decide +kernel
theorem dX0_addRow_75 : decode cX0_addRow 75 = .ok (.getfield 59, 3) := by decide +kernel
theorem dX0_addRow_78 : decode cX0_addRow 78 = .ok (.astore_n 3, 1) := by decide +kernel
theorem dX0_addRow_79 : decode cX0_addRow 79 = .ok (.goto (-70), 3) := by decide +kernel
theorem dX0_addRow_82 : decode cX0_addRow 82 = .ok (.return_, 1) := by decide +kernel
theorem dX0_addChoice_0 : decode cX0_addChoice 0 = .ok (.aload_n 0, 1) := by decide +kernel
theorem dX0_addChoice_1 : decode cX0_addChoice 1 = .ok (.getfield 18, 3) := by decide +kernel
theorem dX0_addChoice_4 : decode cX0_addChoice 4 = .ok (.istore_n 3, 1) := by decide +kernel
theorem dX0_addChoice_5 : decode cX0_addChoice 5 = .ok (.aload_n 0, 1) := by decide +kernel
theorem dX0_addChoice_6 : decode cX0_addChoice 6 = .ok (.bipush 7, 2) := by decide +kernel
theorem dX0_addChoice_8 : decode cX0_addChoice 8 = .ok (.iconst 0, 1) := by decide +kernel
theorem dX0_addChoice_9 : decode cX0_addChoice 9 = .ok (.invokevirtual 33, 3) := by decide +kernel
theorem dX0_addChoice_12 : decode cX0_addChoice 12 = .ok (.pop, 1) := by decide +kernel
theorem dX0_addChoice_13 : decode cX0_addChoice 13 = .ok (.aload_n 0, 1) := by decide +kernel
theorem dX0_addChoice_14 : decode cX0_addChoice 14 = .ok (.aload_n 1, 1) := by decide +kernel
theorem dX0_addChoice_15 : decode cX0_addChoice 15 = .ok (.getfield 62, 3) := by decide +kernel
theorem dX0_addChoice_18 : decode cX0_addChoice 18 = .ok (.iload_n 2, 1) := by decide +kernel
theorem dX0_addChoice_19 : decode cX0_addChoice 19 = .ok (.iconst 1, 1) := by decide +kernel
theorem dX0_addChoice_20 : decode cX0_addChoice 20 = .ok (.iadd, 1) := by decide +kernel
theorem dX0_addChoice_21 : decode cX0_addChoice 21 = .ok (.invokevirtual 29, 3) := by decide +kernel
theorem dX0_addChoice_24 : decode cX0_addChoice 24 = .ok (.aload_n 0, 1) := by decide +kernel
theorem dX0_addChoice_25 : decode cX0_addChoice 25 = .ok (.getfield 18, 3) := by decide +kernel
theorem dX0_addChoice_28 : decode cX0_addChoice 28 = .ok (.istore 4, 2) := by decide +kernel
theorem dX0_addChoice_30 : decode cX0_addChoice 30 = .ok (.aload_n 0, 1) := by decide +kernel
theorem dX0_addChoice_31 : decode cX0_addChoice 31 = .ok (.bipush 8, 2) := by decide +kernel
theorem dX0_addChoice_33 : decode cX0_addChoice 33 = .ok (.iconst 0, 1) := by decide +kernel
theorem dX0_addChoice_34 : decode cX0_addChoice 34 = .ok (.invokevirtual 33, 3) := by decide +kernel
theorem dX0_addChoice_37 : decode cX0_addChoice 37 = .ok (.pop, 1) := by decide +kernel
theorem dX0_addChoice_38 : decode cX0_addChoice 38 = .ok (.aload_n 0, 1) := by decide +kernel
theorem dX0_addChoice_39 : decode cX0_addChoice 39 = .ok (.iload_n 3, 1) := by decide +kernel
theorem dX0_addChoice_40 : decode cX0_addChoice 40 = .ok (.invokevirtual 65, 3) := by decide +kernel
theorem dX0_addChoice_43 : decode cX0_addChoice 43 = .ok (.aload_n 0, 1) := by decide +kernel
theorem dX0_addChoice_44 : decode cX0_addChoice 44 = .ok (.aload_n 1, 1) := by decide +kernel
theorem dX0_addChoice_45 : decode cX0_addChoice 45 = .ok (.getfield 69, 3) := by decide +kernel
theorem dX0_addChoice_48 : decode cX0_addChoice 48 = .ok (.iload_n 2, 1) := by decide +kernel
theorem dX0_addChoice_49 : decode cX0_addChoice 49 = .ok (.iconst 1, 1) := by decide +kernel
theorem dX0_addChoice_50 : decode cX0_addChoice 50 = .ok (.iadd, 1) := by decide +kernel
theorem dX0_addChoice_51 : decode cX0_addChoice 51 = .ok (.invokevirtual 29, 3) := by decide +kernel
theorem dX0_addChoice_54 : decode cX0_addChoice 54 = .ok (.aload_n 0, 1) := by decide +kernel
theorem dX0_addChoice_55 : decode cX0_addChoice 55 = .ok (.iload 4, 2) := by decide +kernel
theorem dX0_addChoice_57 : decode cX0_addChoice 57 = .ok (.invokevirtual 65, 3) := by decide +kernel
theorem dX0_addChoice_60 : decode cX0_addChoice 60 = .ok (.return_, 1) := by decide +kernel
theorem dX0_addLoop_0 : decode cX0_addLoop 0 = .ok (.aload_n 0, 1) := by decide +kernel
theorem dX0_addLoop_1 : decode cX0_addLoop 1 = .ok (.getfield 18, 3) := by decide +kernel
theorem dX0_addLoop_4 : decode cX0_addLoop 4 = .ok (.istore 4, 2) := by decide +kernel
theorem dX0_addLoop_6 : decode cX0_addLoop 6 = .ok (.aload_n 0, 1) := by decide +kernel
theorem dX0_addLoop_7 : decode cX0_addLoop 7 = .ok (.bipush 7, 2) := by decide +kernel
theorem dX0_addLoop_9 : decode cX0_addLoop 9 = .ok (.iconst 0, 1) := by decide +kernel
theorem dX0_addLoop_10 : decode cX0_addLoop 10 = .ok (.invokevirtual 33, 3) := by decide +kernel
theorem dX0_addLoop_13 : decode cX0_addLoop 13 = .ok (.pop, 1) := by decide +kernel
theorem dX0_addLoop_14 : decode cX0_addLoop 14 = .ok (.aload_n 0, 1) := by decide +kernel
theorem dX0_addLoop_15 : decode cX0_addLoop 15 = .ok (.aload_n 1, 1) := by decide +kernel
theorem dX0_addLoop_16 : decode cX0_addLoop 16 = .ok (.getfield 62, 3) := by decide +kernel
theorem dX0_addLoop_19 : decode cX0_addLoop 19 = .ok (.iload_n 3, 1) := by decide +kernel
theorem dX0_addLoop_20 : decode cX0_addLoop 20 = .ok (.iconst 1, 1) := by decide +kernel
theorem dX0_addLoop_21 : decode cX0_addLoop 21 = .ok (.iadd, 1) := by decide +kernel
theorem dX0_addLoop_22 : decode cX0_addLoop 22 = .ok (.invokevirtual 29, 3) := by decide +kernel
theorem dX0_addLoop_25 : decode cX0_addLoop 25 = .ok (.aload_n 0, 1) := by decide +kernel
theorem dX0_addLoop_26 : decode cX0_addLoop 26 = .ok (.bipush 8, 2) := by decide +kernel
theorem dX0_addLoop_28 : decode cX0_addLoop 28 = .ok (.iload_n 2, 1) := by decide +kernel
theorem dX0_addLoop_29 : decode cX0_addLoop 29 = .ok (.invokevirtual 33, 3) := by decide +kernel
theorem dX0_addLoop_32 : decode cX0_addLoop 32 = .ok (.pop, 1) := by decide +kernel
theorem dX0_addLoop_33 : decode cX0_addLoop 33 = .ok (.aload_n 0, 1) := by decide +kernel
theorem dX0_addLoop_34 : decode cX0_addLoop 34 = .ok (.iload 4, 2) := by decide +kernel
theorem dX0_addLoop_36 : decode cX0_addLoop 36 = .ok (.invokevirtual 65, 3) := by decide +kernel
theorem dX0_addLoop_39 : decode cX0_addLoop 39 = .ok (.return_, 1) := by decide +kernel
theorem dX0_aimHere_0 : decode cX0_aimHere 0 = .ok (.aload_n 0, 1) := by decide +kernel
theorem dX0_aimHere_1 : decode cX0_aimHere 1 = .ok (.iload_n 1, 1) := by decide +kernel
theorem dX0_aimHere_2 : decode cX0_aimHere 2 = .ok (.invokevirtual 22, 3) := by decide +kernel
theorem dX0_aimHere_5 : decode cX0_aimHere 5 = .ok (.ifCond .eq 13, 3) := by decide +kernel
theorem dX0_aimHere_8 : decode cX0_aimHere 8 = .ok (.aload_n 0, 1) := by decide +kernel
theorem dX0_aimHere_9 : decode cX0_aimHere 9 = .ok (.getfield 15, 3) := by decide +kernel
theorem dX0_aimHere_12 : decode cX0_aimHere 12 = .ok (.iload_n 1, 1) := by decide +kernel
theorem dX0_aimHere_13 : decode cX0_aimHere 13 = .ok (.aload_n 0, 1) := by decide +kernel
theorem dX0_aimHere_14 : decode cX0_aimHere 14 = .ok (.getfield 18, 3) := by decide +kernel
theorem dX0_aimHere_17 : decode cX0_aimHere 17 = .ok (.iastore, 1) := by decide +kernel
theorem dX0_aimHere_18 : decode cX0_aimHere 18 = .ok (.return_, 1) := by decide +kernel
theorem dX0_addExpression_0 : decode cX0_addExpression 0 = .ok (.aload_n 1, 1) := by decide +kernel
theorem dX0_addExpression_1 : decode cX0_addExpression 1 = .ok (.ifnull 9, 3) := by decide +kernel
theorem dX0_addExpression_4 : decode cX0_addExpression 4 = .ok (.iload_n 2, 1) := by decide +kernel
theorem dX0_addExpression_5 : decode cX0_addExpression 5 = .ok (.bipush 6, 2) := by decide +kernel
theorem dX0_addExpression_7 : decode cX0_addExpression 7 = .ok (.if_icmp .le 4, 3) := by decide +kernel
theorem dX0_addExpression_10 : decode cX0_addExpression 10 = .ok (.return_, 1) := by decide +kernel
theorem dX0_addExpression_11 : decode cX0_addExpression 11 = .ok (.aload_n 1, 1) := by decide +kernel
theorem dX0_addExpression_12 : decode cX0_addExpression 12 = .ok (.getfield 46, 3) := by decide +kernel
theorem dX0_addExpression_15 : decode cX0_addExpression 15 = .ok (.ifCond .ne 16, 3) := by decide +kernel
theorem dX0_addExpression_18 : decode cX0_addExpression 18 = .ok (.aload_n 0, 1) := by decide +kernel
theorem dX0_addExpression_19 : decode cX0_addExpression 19 = .ok (.iconst 0, 1) := by decide +kernel
theorem dX0_addExpression_20 : decode cX0_addExpression 20 = .ok (.aload_n 1, 1) := by decide +kernel
theorem dX0_addExpression_21 : decode cX0_addExpression 21 = .ok (.getfield 56, 3) := by decide +kernel
theorem dX0_addExpression_24 : decode cX0_addExpression 24 = .ok (.invokevirtual 33, 3) := by decide +kernel
theorem dX0_addExpression_27 : decode cX0_addExpression 27 = .ok (.pop, 1) := by decide +kernel
theorem dX0_addExpression_28 : decode cX0_addExpression 28 = .ok (.goto 56, 3) := by decide +kernel
theorem dX0_addExpression_31 : decode cX0_addExpression 31 = .ok (.aload_n 1, 1) := by decide +kernel
theorem dX0_addExpression_32 : decode cX0_addExpression 32 = .ok (.getfield 46, 3) := by decide +kernel
theorem dX0_addExpression_35 : decode cX0_addExpression 35 = .ok (.iconst 1, 1) := by decide +kernel
theorem dX0_addExpression_36 : decode cX0_addExpression 36 = .ok (.if_icmp .ne 16, 3) := by decide +kernel
theorem dX0_addExpression_39 : decode cX0_addExpression 39 = .ok (.aload_n 0, 1) := by decide +kernel
theorem dX0_addExpression_40 : decode cX0_addExpression 40 = .ok (.iconst 1, 1) := by decide +kernel
theorem dX0_addExpression_41 : decode cX0_addExpression 41 = .ok (.aload_n 1, 1) := by decide +kernel
theorem dX0_addExpression_42 : decode cX0_addExpression 42 = .ok (.getfield 56, 3) := by decide +kernel
theorem dX0_addExpression_45 : decode cX0_addExpression 45 = .ok (.invokevirtual 33, 3) := by decide +kernel
theorem dX0_addExpression_48 : decode cX0_addExpression 48 = .ok (.pop, 1) := by decide +kernel
theorem dX0_addExpression_49 : decode cX0_addExpression 49 = .ok (.goto 35, 3) := by decide +kernel
theorem dX0_addExpression_52 : decode cX0_addExpression 52 = .ok (.aload_n 0, 1) := by decide +kernel
theorem dX0_addExpression_53 : decode cX0_addExpression 53 = .ok (.aload_n 1, 1) := by decide +kernel
theorem dX0_addExpression_54 : decode cX0_addExpression 54 = .ok (.getfield 62, 3) := by decide +kernel
theorem dX0_addExpression_57 : decode cX0_addExpression 57 = .ok (.iload_n 2, 1) := by decide +kernel
theorem dX0_addExpression_58 : decode cX0_addExpression 58 = .ok (.iconst 1, 1) := by decide +kernel
theorem dX0_addExpression_59 : decode cX0_addExpression 59 = .ok (.iadd, 1) := by decide +kernel
theorem dX0_addExpression_60 : decode cX0_addExpression 60 = .ok (.invokevirtual 43, 3) := by decide +kernel
theorem dX0_addExpression_63 : decode cX0_addExpression 63 = .ok (.aload_n 0, 1) := by decide +kernel
theorem dX0_addExpression_64 : decode cX0_addExpression 64 = .ok (.aload_n 1, 1) := by decide +kernel
theorem dX0_addExpression_65 : decode cX0_addExpression 65 = .ok (.getfield 69, 3) := by decide +kernel
theorem dX0_addExpression_68 : decode cX0_addExpression 68 = .ok (.iload_n 2, 1) := by decide +kernel
theorem dX0_addExpression_69 : decode cX0_addExpression 69 = .ok (.iconst 1, 1) := by decide +kernel
theorem dX0_addExpression_70 : decode cX0_addExpression 70 = .ok (.iadd, 1) := by decide +kernel
theorem dX0_addExpression_71 : decode cX0_addExpression 71 = .ok (.invokevirtual 43, 3) := by decide +kernel
theorem dX0_addExpression_74 : decode cX0_addExpression 74 = .ok (.aload_n 0, 1) := by decide +kernel
theorem dX0_addExpression_75 : decode cX0_addExpression 75 = .ok (.aload_n 1, 1) := by decide +kernel
theorem dX0_addExpression_76 : decode cX0_addExpression 76 = .ok (.getfield 56, 3) := by decide +kernel
theorem dX0_addExpression_79 : decode cX0_addExpression 79 = .ok (.iconst 0, 1) := by decide +kernel
theorem dX0_addExpression_80 : decode cX0_addExpression 80 = .ok (.invokevirtual 33, 3) := by decide +kernel
theorem dX0_addExpression_83 : decode cX0_addExpression 83 = .ok (.pop, 1) := by decide +kernel
theorem dX0_addExpression_84 : decode cX0_addExpression 84 = .ok (.return_, 1) := by decide +kernel
theorem dX1_init_0 : decode cX1_init 0 = .ok (.aload_n 0, 1) := by decide +kernel
theorem dX1_init_1 : decode cX1_init 1 = .ok (.invokespecial 5, 3) := by decide +kernel
theorem dX1_init_4 : decode cX1_init 4 = .ok (.aload_n 0, 1) := by decide +kernel
theorem dX1_init_5 : decode cX1_init 5 = .ok (.bipush 100, 2) := by decide +kernel
theorem dX1_init_7 : decode cX1_init 7 = .ok (.bipush 17, 2) := by decide +kernel
theorem dX1_init_9 : decode cX1_init 9 = .ok (.multianewarray 11 2, 4) := by decide +kernel
theorem dX1_init_13 : decode cX1_init 13 = .ok (.putfield 13, 3) := by decide +kernel
theorem dX1_init_16 : decode cX1_init 16 = .ok (.aload_n 0, 1) := by decide +kernel
theorem dX1_init_17 : decode cX1_init 17 = .ok (.bipush 100, 2) := by decide +kernel
theorem dX1_init_19 : decode cX1_init 19 = .ok (.newarray .boolean, 2) := by decide +kernel
theorem dX1_init_21 : decode cX1_init 21 = .ok (.putfield 16, 3) := by decide +kernel
theorem dX1_init_24 : decode cX1_init 24 = .ok (.aload_n 0, 1) := by decide +kernel
theorem dX1_init_25 : decode cX1_init 25 = .ok (.bipush 17, 2) := by decide +kernel
theorem dX1_init_27 : decode cX1_init 27 = .ok (.newarray .int, 2) := by decide +kernel
theorem dX1_init_29 : decode cX1_init 29 = .ok (.putfield 20, 3) := by decide +kernel
theorem dX1_init_32 : decode cX1_init 32 = .ok (.aload_n 0, 1) := by decide +kernel
theorem dX1_init_33 : decode cX1_init 33 = .ok (.aload_n 1, 1) := by decide +kernel
theorem dX1_init_34 : decode cX1_init 34 = .ok (.putfield 24, 3) := by decide +kernel
theorem dX1_init_37 : decode cX1_init 37 = .ok (.aload_n 0, 1) := by decide +kernel
theorem dX1_init_38 : decode cX1_init 38 = .ok (.aload_n 2, 1) := by decide +kernel
theorem dX1_init_39 : decode cX1_init 39 = .ok (.putfield 28, 3) := by decide +kernel
theorem dX1_init_42 : decode cX1_init 42 = .ok (.aload_n 0, 1) := by decide +kernel
theorem dX1_init_43 : decode cX1_init 43 = .ok (.aload_n 3, 1) := by decide +kernel
theorem dX1_init_44 : decode cX1_init 44 = .ok (.putfield 32, 3) := by decide +kernel
theorem dX1_init_47 : decode cX1_init 47 = .ok (.aload_n 0, 1) := by decide +kernel
theorem dX1_init_48 : decode cX1_init 48 = .ok (.aload 4, 2) := by decide +kernel
theorem dX1_init_50 : decode cX1_init 50 = .ok (.putfield 36, 3) := by decide +kernel
theorem dX1_init_53 : decode cX1_init 53 = .ok (.return_, 1) := by decide +kernel
theorem dX1_workOut_0 : decode cX1_workOut 0 = .ok (.iconst 0, 1) := by decide +kernel
theorem dX1_workOut_1 : decode cX1_workOut 1 = .ok (.istore_n 2, 1) := by decide +kernel
theorem dX1_workOut_2 : decode cX1_workOut 2 = .ok (.iload_n 2, 1) := by decide +kernel
theorem dX1_workOut_3 : decode cX1_workOut 3 = .ok (.aload_n 0, 1) := by decide +kernel
theorem dX1_workOut_4 : decode cX1_workOut 4 = .ok (.getfield 24, 3) := by decide +kernel
theorem dX1_workOut_7 : decode cX1_workOut 7 = .ok (.invokevirtual 40, 3) := by decide +kernel
theorem dX1_workOut_10 : decode cX1_workOut 10 = .ok (.if_icmp .ge 61, 3) := by decide +kernel
theorem dX1_workOut_13 : decode cX1_workOut 13 = .ok (.iconst 0, 1) := by decide +kernel
theorem dX1_workOut_14 : decode cX1_workOut 14 = .ok (.istore_n 3, 1) := by decide +kernel
theorem dX1_workOut_15 : decode cX1_workOut 15 = .ok (.iload_n 3, 1) := by decide +kernel
theorem dX1_workOut_16 : decode cX1_workOut 16 = .ok (.bipush 17, 2) := by decide +kernel
theorem dX1_workOut_18 : decode cX1_workOut 18 = .ok (.if_icmp .ge 24, 3) := by decide +kernel
theorem dX1_workOut_21 : decode cX1_workOut 21 = .ok (.aload_n 0, 1) := by decide +kernel
theorem dX1_workOut_22 : decode cX1_workOut 22 = .ok (.getfield 13, 3) := by decide +kernel
theorem dX1_workOut_25 : decode cX1_workOut 25 = .ok (.iload_n 2, 1) := by decide +kernel
theorem dX1_workOut_26 : decode cX1_workOut 26 = .ok (.aaload, 1) := by decide +kernel
theorem dX1_workOut_27 : decode cX1_workOut 27 = .ok (.iload_n 3, 1) := by decide +kernel
theorem dX1_workOut_28 : decode cX1_workOut 28 = .ok (.aload_n 0, 1) := by decide +kernel
theorem dX1_workOut_29 : decode cX1_workOut 29 = .ok (.getfield 36, 3) := by decide +kernel
theorem dX1_workOut_32 : decode cX1_workOut 32 = .ok (.invokevirtual 46, 3) := by decide +kernel
theorem dX1_workOut_35 : decode cX1_workOut 35 = .ok (.iastore, 1) := by decide +kernel
theorem dX1_workOut_36 : decode cX1_workOut 36 = .ok (.iinc 3 1, 3) := by decide +kernel
theorem dX1_workOut_39 : decode cX1_workOut 39 = .ok (.goto (-24), 3) := by decide +kernel
theorem dX1_workOut_42 : decode cX1_workOut 42 = .ok (.aload_n 0, 1) := by decide +kernel
theorem dX1_workOut_43 : decode cX1_workOut 43 = .ok (.getfield 16, 3) := by decide +kernel
theorem dX1_workOut_46 : decode cX1_workOut 46 = .ok (.iload_n 2, 1) := by decide +kernel
theorem dX1_workOut_47 : decode cX1_workOut 47 = .ok (.aload_n 0, 1) := by decide +kernel
theorem dX1_workOut_48 : decode cX1_workOut 48 = .ok (.getfield 28, 3) := by decide +kernel
theorem dX1_workOut_51 : decode cX1_workOut 51 = .ok (.iload_n 2, 1) := by decide +kernel
theorem dX1_workOut_52 : decode cX1_workOut 52 = .ok (.invokevirtual 51, 3) := by decide +kernel
theorem dX1_workOut_55 : decode cX1_workOut 55 = .ok (.iconst (-1), 1) := by decide +kernel
theorem dX1_workOut_56 : decode cX1_workOut 56 = .ok (.if_icmp .eq 7, 3) := by decide +kernel
theorem dX1_workOut_59 : decode cX1_workOut 59 = .ok (.iconst 1, 1) := by decide +kernel
theorem dX1_workOut_60 : decode cX1_workOut 60 = .ok (.goto 4, 3) := by decide +kernel
theorem dX1_workOut_63 : decode cX1_workOut 63 = .ok (.iconst 0, 1) := by decide +kernel
theorem dX1_workOut_64 : decode cX1_workOut 64 = .ok (.bastore, 1) := by decide +kernel
theorem dX1_workOut_65 : decode cX1_workOut 65 = .ok (.iinc 2 1, 3) := by decide +kernel
theorem dX1_workOut_68 : decode cX1_workOut 68 = .ok (.goto (-66), 3) := by decide +kernel
theorem dX1_workOut_71 : decode cX1_workOut 71 = .ok (.iconst 0, 1) := by decide +kernel
theorem dX1_workOut_72 : decode cX1_workOut 72 = .ok (.istore_n 2, 1) := by decide +kernel
theorem dX1_workOut_73 : decode cX1_workOut 73 = .ok (.iload_n 2, 1) := by decide +kernel
theorem dX1_workOut_74 : decode cX1_workOut 74 = .ok (.bipush 8, 2) := by decide +kernel
theorem dX1_workOut_76 : decode cX1_workOut 76 = .ok (.if_icmp .ge 18, 3) := by decide +kernel
theorem dX1_workOut_79 : decode cX1_workOut 79 = .ok (.aload_n 0, 1) := by decide +kernel
theorem dX1_workOut_80 : decode cX1_workOut 80 = .ok (.iconst 0, 1) := by decide +kernel
theorem dX1_workOut_81 : decode cX1_workOut 81 = .ok (.iload_n 2, 1) := by decide +kernel
theorem dX1_workOut_82 : decode cX1_workOut 82 = .ok (.aload_n 1, 1) := by decide +kernel
theorem dX1_workOut_83 : decode cX1_workOut 83 = .ok (.iload_n 2, 1) := by decide +kernel
theorem dX1_workOut_84 : decode cX1_workOut 84 = .ok (.iaload, 1) := by decide +kernel
theorem dX1_workOut_85 : decode cX1_workOut 85 = .ok (.invokevirtual 57, 3) := by decide +kernel
theorem dX1_workOut_88 : decode cX1_workOut 88 = .ok (.iinc 2 1, 3) := by decide +kernel
theorem dX1_workOut_91 : decode cX1_workOut 91 = .ok (.goto (-18), 3) := by decide +kernel
theorem dX1_workOut_94 : decode cX1_workOut 94 = .ok (.iconst 1, 1) := by decide +kernel
theorem dX1_workOut_95 : decode cX1_workOut 95 = .ok (.istore_n 2, 1) := by decide +kernel
theorem dX1_workOut_96 : decode cX1_workOut 96 = .ok (.iconst 0, 1) := by decide +kernel
theorem dX1_workOut_97 : decode cX1_workOut 97 = .ok (.istore_n 3, 1) := by decide +kernel
theorem dX1_workOut_98 : decode cX1_workOut 98 = .ok (.iload_n 3, 1) := by decide +kernel
theorem dX1_workOut_99 : decode cX1_workOut 99 = .ok (.ldc 61, 2) := by decide +kernel
theorem dX1_workOut_101 : decode cX1_workOut 101 = .ok (.if_icmp .ge 54, 3) := by decide +kernel
theorem dX1_workOut_104 : decode cX1_workOut 104 = .ok (.iload_n 2, 1) := by decide +kernel
theorem dX1_workOut_105 : decode cX1_workOut 105 = .ok (.ifCond .eq 50, 3) := by decide +kernel
theorem dX1_workOut_108 : decode cX1_workOut 108 = .ok (.iconst 0, 1) := by decide +kernel
theorem dX1_workOut_109 : decode cX1_workOut 109 = .ok (.istore_n 2, 1) := by decide +kernel
theorem dX1_workOut_110 : decode cX1_workOut 110 = .ok (.iconst 0, 1) := by decide +kernel
theorem dX1_workOut_111 : decode cX1_workOut 111 = .ok (.istore 4, 2) := by decide +kernel
theorem dX1_workOut_113 : decode cX1_workOut 113 = .ok (.iload 4, 2) := by decide +kernel
theorem dX1_workOut_115 : decode cX1_workOut 115 = .ok (.aload_n 0, 1) := by decide +kernel
theorem dX1_workOut_116 : decode cX1_workOut 116 = .ok (.getfield 24, 3) := by decide +kernel
theorem dX1_workOut_119 : decode cX1_workOut 119 = .ok (.invokevirtual 40, 3) := by decide +kernel
theorem dX1_workOut_122 : decode cX1_workOut 122 = .ok (.if_icmp .ge 27, 3) := by decide +kernel
theorem dX1_workOut_125 : decode cX1_workOut 125 = .ok (.aload_n 0, 1) := by decide +kernel
theorem dX1_workOut_126 : decode cX1_workOut 126 = .ok (.getfield 16, 3) := by decide +kernel
theorem dX1_workOut_129 : decode cX1_workOut 129 = .ok (.iload 4, 2) := by decide +kernel
theorem dX1_workOut_131 : decode cX1_workOut 131 = .ok (.baload, 1) := by decide +kernel
theorem dX1_workOut_132 : decode cX1_workOut 132 = .ok (.ifCond .eq 11, 3) := by decide +kernel
theorem dX1_workOut_135 : decode cX1_workOut 135 = .ok (.aload_n 0, 1) := by decide +kernel
theorem dX1_workOut_136 : decode cX1_workOut 136 = .ok (.iload 4, 2) := by decide +kernel
theorem dX1_workOut_138 : decode cX1_workOut 138 = .ok (.invokevirtual 62, 3) := by decide +kernel
theorem dX1_workOut_141 : decode cX1_workOut 141 = .ok (.iconst 1, 1) := by decide +kernel
theorem dX1_workOut_142 : decode cX1_workOut 142 = .ok (.istore_n 2, 1) := by decide +kernel
theorem dX1_workOut_143 : decode cX1_workOut 143 = .ok (.iinc 4 1, 3) := by decide +kernel
theorem dX1_workOut_146 : decode cX1_workOut 146 = .ok (.goto (-33), 3) := by decide +kernel
theorem dX1_workOut_149 : decode cX1_workOut 149 = .ok (.iinc 3 1, 3) := by decide +kernel
theorem dX1_workOut_152 : decode cX1_workOut 152 = .ok (.goto (-54), 3) := by decide +kernel
theorem dX1_workOut_155 : decode cX1_workOut 155 = .ok (.return_, 1) := by decide +kernel
theorem dX1_keepTo_0 : decode cX1_keepTo 0 = .ok (.iconst 0, 1) := by decide +kernel
theorem dX1_keepTo_1 : decode cX1_keepTo 1 = .ok (.istore_n 2, 1) := by decide +kernel
theorem dX1_keepTo_2 : decode cX1_keepTo 2 = .ok (.iload_n 2, 1) := by decide +kernel
theorem dX1_keepTo_3 : decode cX1_keepTo 3 = .ok (.aload_n 0, 1) := by decide +kernel
theorem dX1_keepTo_4 : decode cX1_keepTo 4 = .ok (.getfield 24, 3) := by decide +kernel
theorem dX1_keepTo_7 : decode cX1_keepTo 7 = .ok (.invokevirtual 40, 3) := by decide +kernel
theorem dX1_keepTo_10 : decode cX1_keepTo 10 = .ok (.if_icmp .ge 85, 3) := by decide +kernel
theorem dX1_keepTo_13 : decode cX1_keepTo 13 = .ok (.aload_n 0, 1) := by decide +kernel
theorem dX1_keepTo_14 : decode cX1_keepTo 14 = .ok (.getfield 28, 3) := by decide +kernel
theorem dX1_keepTo_17 : decode cX1_keepTo 17 = .ok (.iload_n 2, 1) := by decide +kernel
theorem dX1_keepTo_18 : decode cX1_keepTo 18 = .ok (.invokevirtual 51, 3) := by decide +kernel
theorem dX1_keepTo_21 : decode cX1_keepTo 21 = .ok (.iconst (-1), 1) := by decide +kernel
theorem dX1_keepTo_22 : decode cX1_keepTo 22 = .ok (.if_icmp .eq 20, 3) := by decide +kernel
theorem dX1_keepTo_25 : decode cX1_keepTo 25 = .ok (.aload_n 0, 1) := by decide +kernel
theorem dX1_keepTo_26 : decode cX1_keepTo 26 = .ok (.getfield 24, 3) := by decide +kernel
theorem dX1_keepTo_29 : decode cX1_keepTo 29 = .ok (.iload_n 2, 1) := by decide +kernel
theorem dX1_keepTo_30 : decode cX1_keepTo 30 = .ok (.invokevirtual 66, 3) := by decide +kernel
theorem dX1_keepTo_33 : decode cX1_keepTo 33 = .ok (.bipush 9, 2) := by decide +kernel
theorem dX1_keepTo_35 : decode cX1_keepTo 35 = .ok (.if_icmp .ne 7, 3) := by decide +kernel
theorem dX1_keepTo_38 : decode cX1_keepTo 38 = .ok (.iconst 1, 1) := by decide +kernel
theorem dX1_keepTo_39 : decode cX1_keepTo 39 = .ok (.goto 4, 3) := by decide +kernel
theorem dX1_keepTo_42 : decode cX1_keepTo 42 = .ok (.iconst 0, 1) := by decide +kernel
theorem dX1_keepTo_43 : decode cX1_keepTo 43 = .ok (.istore_n 3, 1) := by decide +kernel
theorem dX1_keepTo_44 : decode cX1_keepTo 44 = .ok (.iconst 0, 1) := by decide +kernel
theorem dX1_keepTo_45 : decode cX1_keepTo 45 = .ok (.istore 4, 2) := by decide +kernel
theorem dX1_keepTo_47 : decode cX1_keepTo 47 = .ok (.iload 4, 2) := by decide +kernel
theorem dX1_keepTo_49 : decode cX1_keepTo 49 = .ok (.bipush 8, 2) := by decide +kernel
theorem dX1_keepTo_51 : decode cX1_keepTo 51 = .ok (.if_icmp .ge 38, 3) := by decide +kernel
theorem dX1_keepTo_54 : decode cX1_keepTo 54 = .ok (.iload_n 3, 1) := by decide +kernel
theorem dX1_keepTo_55 : decode cX1_keepTo 55 = .ok (.ifCond .eq 34, 3) := by decide +kernel
theorem dX1_keepTo_58 : decode cX1_keepTo 58 = .ok (.aload_n 0, 1) := by decide +kernel
theorem dX1_keepTo_59 : decode cX1_keepTo 59 = .ok (.getfield 36, 3) := by decide +kernel
theorem dX1_keepTo_62 : decode cX1_keepTo 62 = .ok (.aload_n 0, 1) := by decide +kernel
theorem dX1_keepTo_63 : decode cX1_keepTo 63 = .ok (.getfield 13, 3) := by decide +kernel
theorem dX1_keepTo_66 : decode cX1_keepTo 66 = .ok (.iload_n 2, 1) := by decide +kernel
theorem dX1_keepTo_67 : decode cX1_keepTo 67 = .ok (.aaload, 1) := by decide +kernel
theorem dX1_keepTo_68 : decode cX1_keepTo 68 = .ok (.iload 4, 2) := by decide +kernel
theorem dX1_keepTo_70 : decode cX1_keepTo 70 = .ok (.iaload, 1) := by decide +kernel
theorem dX1_keepTo_71 : decode cX1_keepTo 71 = .ok (.aload_n 1, 1) := by decide +kernel
theorem dX1_keepTo_72 : decode cX1_keepTo 72 = .ok (.iload 4, 2) := by decide +kernel
theorem dX1_keepTo_74 : decode cX1_keepTo 74 = .ok (.iaload, 1) := by decide +kernel
theorem dX1_keepTo_75 : decode cX1_keepTo 75 = .ok (.invokevirtual 69, 3) := by decide +kernel
theorem dX1_keepTo_78 : decode cX1_keepTo 78 = .ok (.ifCond .ne 5, 3) := by decide +kernel
theorem dX1_keepTo_81 : decode cX1_keepTo 81 = .ok (.iconst 0, 1) := by decide +kernel
theorem dX1_keepTo_82 : decode cX1_keepTo 82 = .ok (.ireturn, 1) := by decide +kernel
theorem dX1_keepTo_83 : decode cX1_keepTo 83 = .ok (.iinc 4 1, 3) := by decide +kernel
theorem dX1_keepTo_86 : decode cX1_keepTo 86 = .ok (.goto (-39), 3) := by decide +kernel
theorem dX1_keepTo_89 : decode cX1_keepTo 89 = .ok (.iinc 2 1, 3) := by decide +kernel
theorem dX1_keepTo_92 : decode cX1_keepTo 92 = .ok (.goto (-90), 3) := by decide +kernel
theorem dX1_keepTo_95 : decode cX1_keepTo 95 = .ok (.iconst 1, 1) := by decide +kernel
theorem dX1_keepTo_96 : decode cX1_keepTo 96 = .ok (.ireturn, 1) := by decide +kernel
theorem dX1_labelAt_0 : decode cX1_labelAt 0 = .ok (.aload_n 0, 1) := by decide +kernel
theorem dX1_labelAt_1 : decode cX1_labelAt 1 = .ok (.getfield 28, 3) := by decide +kernel
theorem dX1_labelAt_4 : decode cX1_labelAt 4 = .ok (.iload_n 1, 1) := by decide +kernel
theorem dX1_labelAt_5 : decode cX1_labelAt 5 = .ok (.invokevirtual 51, 3) := by decide +kernel
theorem dX1_labelAt_8 : decode cX1_labelAt 8 = .ok (.istore_n 3, 1) := by decide +kernel
theorem dX1_labelAt_9 : decode cX1_labelAt 9 = .ok (.iload_n 3, 1) := by decide +kernel
theorem dX1_labelAt_10 : decode cX1_labelAt 10 = .ok (.iconst (-1), 1) := by decide +kernel
theorem dX1_labelAt_11 : decode cX1_labelAt 11 = .ok (.if_icmp .eq 21, 3) := by decide +kernel
theorem dX1_labelAt_14 : decode cX1_labelAt 14 = .ok (.iload_n 2, 1) := by decide +kernel
theorem dX1_labelAt_15 : decode cX1_labelAt 15 = .ok (.ifCond .lt 17, 3) := by decide +kernel
theorem dX1_labelAt_18 : decode cX1_labelAt 18 = .ok (.iload_n 2, 1) := by decide +kernel
theorem dX1_labelAt_19 : decode cX1_labelAt 19 = .ok (.bipush 9, 2) := by decide +kernel
theorem dX1_labelAt_21 : decode cX1_labelAt 21 = .ok (.iload_n 3, 1) := by decide +kernel
theorem dX1_labelAt_22 : decode cX1_labelAt 22 = .ok (.iadd, 1) := by decide +kernel
theorem dX1_labelAt_23 : decode cX1_labelAt 23 = .ok (.if_icmp .ge 9, 3) := by decide +kernel
theorem dX1_labelAt_26 : decode cX1_labelAt 26 = .ok (.iload_n 2, 1) := by decide +kernel
theorem dX1_labelAt_27 : decode cX1_labelAt 27 = .ok (.bipush 17, 2) := by decide +kernel
theorem dX1_labelAt_29 : decode cX1_labelAt 29 = .ok (.if_icmp .lt 5, 3) := by decide +kernel
theorem dX1_labelAt_32 : decode cX1_labelAt 32 = .ok (.iconst (-1), 1) := by decide +kernel
theorem dX1_labelAt_33 : decode cX1_labelAt 33 = .ok (.ireturn, 1) := by decide +kernel
theorem dX1_labelAt_34 : decode cX1_labelAt 34 = .ok (.aload_n 0, 1) := by decide +kernel
theorem dX1_labelAt_35 : decode cX1_labelAt 35 = .ok (.getfield 13, 3) := by decide +kernel
theorem dX1_labelAt_38 : decode cX1_labelAt 38 = .ok (.iload_n 1, 1) := by decide +kernel
theorem dX1_labelAt_39 : decode cX1_labelAt 39 = .ok (.aaload, 1) := by decide +kernel
theorem dX1_labelAt_40 : decode cX1_labelAt 40 = .ok (.iload_n 2, 1) := by decide +kernel
theorem dX1_labelAt_41 : decode cX1_labelAt 41 = .ok (.iaload, 1) := by decide +kernel
theorem dX1_labelAt_42 : decode cX1_labelAt 42 = .ok (.ireturn, 1) := by decide +kernel
theorem dX1_pass_0 : decode cX1_pass 0 = .ok (.aload_n 0, 1) := by decide +kernel
theorem dX1_pass_1 : decode cX1_pass 1 = .ok (.getfield 16, 3) := by decide +kernel
theorem dX1_pass_4 : decode cX1_pass 4 = .ok (.iload_n 1, 1) := by decide +kernel
theorem dX1_pass_5 : decode cX1_pass 5 = .ok (.iconst 0, 1) := by decide +kernel
theorem dX1_pass_6 : decode cX1_pass 6 = .ok (.bastore, 1) := by decide +kernel
theorem dX1_pass_7 : decode cX1_pass 7 = .ok (.aload_n 0, 1) := by decide +kernel
theorem dX1_pass_8 : decode cX1_pass 8 = .ok (.getfield 13, 3) := by decide +kernel
theorem dX1_pass_11 : decode cX1_pass 11 = .ok (.iload_n 1, 1) := by decide +kernel
theorem dX1_pass_12 : decode cX1_pass 12 = .ok (.aaload, 1) := by decide +kernel
theorem dX1_pass_13 : decode cX1_pass 13 = .ok (.iconst 0, 1) := by decide +kernel
theorem dX1_pass_14 : decode cX1_pass 14 = .ok (.aload_n 0, 1) := by decide +kernel
theorem dX1_pass_15 : decode cX1_pass 15 = .ok (.getfield 20, 3) := by decide +kernel
theorem dX1_pass_18 : decode cX1_pass 18 = .ok (.iconst 0, 1) := by decide +kernel
theorem dX1_pass_19 : decode cX1_pass 19 = .ok (.bipush 17, 2) := by decide +kernel
theorem dX1_pass_21 : decode cX1_pass 21 = .ok (.invokestatic 73, 3) := by decide +kernel
theorem dX1_pass_24 : decode cX1_pass 24 = .ok (.aload_n 0, 1) := by decide +kernel
theorem dX1_pass_25 : decode cX1_pass 25 = .ok (.aload_n 0, 1) := by decide +kernel
theorem dX1_pass_26 : decode cX1_pass 26 = .ok (.getfield 24, 3) := by decide +kernel
theorem dX1_pass_29 : decode cX1_pass 29 = .ok (.iload_n 1, 1) := by decide +kernel
theorem dX1_pass_30 : decode cX1_pass 30 = .ok (.invokevirtual 66, 3) := by decide +kernel
theorem dX1_pass_33 : decode cX1_pass 33 = .ok (.aload_n 0, 1) := by decide +kernel
theorem dX1_pass_34 : decode cX1_pass 34 = .ok (.getfield 24, 3) := by decide +kernel
theorem dX1_pass_37 : decode cX1_pass 37 = .ok (.iload_n 1, 1) := by decide +kernel
theorem dX1_pass_38 : decode cX1_pass 38 = .ok (.invokevirtual 79, 3) := by decide +kernel
theorem dX1_pass_41 : decode cX1_pass 41 = .ok (.aload_n 0, 1) := by decide +kernel
theorem dX1_pass_42 : decode cX1_pass 42 = .ok (.getfield 28, 3) := by decide +kernel
theorem dX1_pass_45 : decode cX1_pass 45 = .ok (.iload_n 1, 1) := by decide +kernel
theorem dX1_pass_46 : decode cX1_pass 46 = .ok (.invokevirtual 51, 3) := by decide +kernel
theorem dX1_pass_49 : decode cX1_pass 49 = .ok (.invokevirtual 82, 3) := by decide +kernel
theorem dX1_pass_52 : decode cX1_pass 52 = .ok (.aload_n 0, 1) := by decide +kernel
theorem dX1_pass_53 : decode cX1_pass 53 = .ok (.getfield 24, 3) := by decide +kernel
theorem dX1_pass_56 : decode cX1_pass 56 = .ok (.iload_n 1, 1) := by decide +kernel
theorem dX1_pass_57 : decode cX1_pass 57 = .ok (.invokevirtual 66, 3) := by decide +kernel
theorem dX1_pass_60 : decode cX1_pass 60 = .ok (.bipush 7, 2) := by decide +kernel
theorem dX1_pass_62 : decode cX1_pass 62 = .ok (.if_icmp .ne 8, 3) := by decide +kernel
theorem dX1_pass_65 : decode cX1_pass 65 = .ok (.aload_n 0, 1) := by decide +kernel
theorem dX1_pass_66 : decode cX1_pass 66 = .ok (.iload_n 1, 1) := by decide +kernel
theorem dX1_pass_67 : decode cX1_pass 67 = .ok (.invokevirtual 85, 3) := by decide +kernel
theorem dX1_pass_70 : decode cX1_pass 70 = .ok (.aload_n 0, 1) := by decide +kernel
theorem dX1_pass_71 : decode cX1_pass 71 = .ok (.aload_n 0, 1) := by decide +kernel
theorem dX1_pass_72 : decode cX1_pass 72 = .ok (.getfield 24, 3) := by decide +kernel
theorem dX1_pass_75 : decode cX1_pass 75 = .ok (.iload_n 1, 1) := by decide +kernel
theorem dX1_pass_76 : decode cX1_pass 76 = .ok (.iconst 0, 1) := by decide +kernel
theorem dX1_pass_77 : decode cX1_pass 77 = .ok (.invokevirtual 88, 3) := by decide +kernel
theorem dX1_pass_80 : decode cX1_pass 80 = .ok (.invokevirtual 92, 3) := by decide +kernel
theorem dX1_pass_83 : decode cX1_pass 83 = .ok (.aload_n 0, 1) := by decide +kernel
theorem dX1_pass_84 : decode cX1_pass 84 = .ok (.aload_n 0, 1) := by decide +kernel
theorem dX1_pass_85 : decode cX1_pass 85 = .ok (.getfield 24, 3) := by decide +kernel
theorem dX1_pass_88 : decode cX1_pass 88 = .ok (.iload_n 1, 1) := by decide +kernel
theorem dX1_pass_89 : decode cX1_pass 89 = .ok (.iconst 1, 1) := by decide +kernel
theorem dX1_pass_90 : decode cX1_pass 90 = .ok (.invokevirtual 88, 3) := by decide +kernel
theorem dX1_pass_93 : decode cX1_pass 93 = .ok (.invokevirtual 92, 3) := by decide +kernel
theorem dX1_pass_96 : decode cX1_pass 96 = .ok (.return_, 1) := by decide +kernel
theorem dX1_change_0 : decode cX1_change 0 = .ok (.bipush 9, 2) := by decide +kernel
theorem dX1_change_2 : decode cX1_change 2 = .ok (.iload_n 3, 1) := by decide +kernel
theorem dX1_change_3 : decode cX1_change 3 = .ok (.iadd, 1) := by decide +kernel
theorem dX1_change_4 : decode cX1_change 4 = .ok (.istore 4, 2) := by decide +kernel
theorem dX1_change_6 : decode cX1_change 6 = .ok (.aload_n 0, 1) := by decide +kernel
theorem dX1_change_7 : decode cX1_change 7 = .ok (.getfield 20, 3) := by decide +kernel
theorem dX1_change_10 : decode cX1_change 10 = .ok (.bipush 8, 2) := by decide +kernel
theorem dX1_change_12 : decode cX1_change 12 = .ok (.iaload, 1) := by decide +kernel
theorem dX1_change_13 : decode cX1_change 13 = .ok (.istore 5, 2) := by decide +kernel
theorem dX1_change_15 : decode cX1_change 15 = .ok (.iload_n 1, 1) := by decide +kernel
theorem dX1_change_16 : decode cX1_change 16 = .ok (.ifCond .ne 22, 3) := by decide +kernel
theorem dX1_change_19 : decode cX1_change 19 = .ok (.iload 4, 2) := by decide +kernel
theorem dX1_change_21 : decode cX1_change 21 = .ok (.bipush 17, 2) := by decide +kernel
theorem dX1_change_23 : decode cX1_change 23 = .ok (.if_icmp .ge 15, 3) := by decide +kernel
theorem dX1_change_26 : decode cX1_change 26 = .ok (.aload_n 0, 1) := by decide +kernel
theorem dX1_change_27 : decode cX1_change 27 = .ok (.getfield 20, 3) := by decide +kernel
theorem dX1_change_30 : decode cX1_change 30 = .ok (.iload 4, 2) := by decide +kernel
theorem dX1_change_32 : decode cX1_change 32 = .ok (.iload 5, 2) := by decide +kernel
theorem dX1_change_34 : decode cX1_change 34 = .ok (.iastore, 1) := by decide +kernel
theorem dX1_change_35 : decode cX1_change 35 = .ok (.goto 150, 3) := by decide +kernel
theorem dX1_change_38 : decode cX1_change 38 = .ok (.iload_n 1, 1) := by decide +kernel
theorem dX1_change_39 : decode cX1_change 39 = .ok (.iconst 1, 1) := by decide +kernel
theorem dX1_change_40 : decode cX1_change 40 = .ok (.if_icmp .ne 42, 3) := by decide +kernel
theorem dX1_change_43 : decode cX1_change 43 = .ok (.iload 4, 2) := by decide +kernel
theorem dX1_change_45 : decode cX1_change 45 = .ok (.bipush 17, 2) := by decide +kernel
theorem dX1_change_47 : decode cX1_change 47 = .ok (.if_icmp .ge 35, 3) := by decide +kernel
theorem dX1_change_50 : decode cX1_change 50 = .ok (.iload_n 2, 1) := by decide +kernel
theorem dX1_change_51 : decode cX1_change 51 = .ok (.invokestatic 95, 3) := by decide +kernel
theorem dX1_change_54 : decode cX1_change 54 = .ok (.ifCond .eq 28, 3) := by decide +kernel
theorem dX1_change_57 : decode cX1_change 57 = .ok (.aload_n 0, 1) := by decide +kernel
theorem dX1_change_58 : decode cX1_change 58 = .ok (.getfield 20, 3) := by decide +kernel
theorem dX1_change_61 : decode cX1_change 61 = .ok (.iload 4, 2) := by decide +kernel
theorem dX1_change_63 : decode cX1_change 63 = .ok (.aload_n 0, 1) := by decide +kernel
theorem dX1_change_64 : decode cX1_change 64 = .ok (.getfield 36, 3) := by decide +kernel
theorem dX1_change_67 : decode cX1_change 67 = .ok (.iload 5, 2) := by decide +kernel
theorem dX1_change_69 : decode cX1_change 69 = .ok (.aload_n 0, 1) := by decide +kernel
theorem dX1_change_70 : decode cX1_change 70 = .ok (.getfield 20, 3) := by decide +kernel
theorem dX1_change_73 : decode cX1_change 73 = .ok (.iload_n 2, 1) := by decide +kernel
theorem dX1_change_74 : decode cX1_change 74 = .ok (.iaload, 1) := by decide +kernel
theorem dX1_change_75 : decode cX1_change 75 = .ok (.invokevirtual 99, 3) := by decide +kernel
theorem dX1_change_78 : decode cX1_change 78 = .ok (.iastore, 1) := by decide +kernel
theorem dX1_change_79 : decode cX1_change 79 = .ok (.goto 106, 3) := by decide +kernel
theorem dX1_change_82 : decode cX1_change 82 = .ok (.iload_n 1, 1) := by decide +kernel
theorem dX1_change_83 : decode cX1_change 83 = .ok (.iconst 2, 1) := by decide +kernel
theorem dX1_change_84 : decode cX1_change 84 = .ok (.if_icmp .ne 42, 3) := by decide +kernel
theorem dX1_change_87 : decode cX1_change 87 = .ok (.iload_n 3, 1) := by decide +kernel
theorem dX1_change_88 : decode cX1_change 88 = .ok (.iconst 1, 1) := by decide +kernel
theorem dX1_change_89 : decode cX1_change 89 = .ok (.if_icmp .lt 37, 3) := by decide +kernel
theorem dX1_change_92 : decode cX1_change 92 = .ok (.iload_n 2, 1) := by decide +kernel
theorem dX1_change_93 : decode cX1_change 93 = .ok (.invokestatic 95, 3) := by decide +kernel
theorem dX1_change_96 : decode cX1_change 96 = .ok (.ifCond .eq 30, 3) := by decide +kernel
theorem dX1_change_99 : decode cX1_change 99 = .ok (.aload_n 0, 1) := by decide +kernel
theorem dX1_change_100 : decode cX1_change 100 = .ok (.getfield 20, 3) := by decide +kernel
theorem dX1_change_103 : decode cX1_change 103 = .ok (.iload_n 2, 1) := by decide +kernel
theorem dX1_change_104 : decode cX1_change 104 = .ok (.aload_n 0, 1) := by decide +kernel
theorem dX1_change_105 : decode cX1_change 105 = .ok (.getfield 36, 3) := by decide +kernel
theorem dX1_change_108 : decode cX1_change 108 = .ok (.iload 5, 2) := by decide +kernel
theorem dX1_change_110 : decode cX1_change 110 = .ok (.aload_n 0, 1) := by decide +kernel
theorem dX1_change_111 : decode cX1_change 111 = .ok (.getfield 20, 3) := by decide +kernel
theorem dX1_change_114 : decode cX1_change 114 = .ok (.iload 4, 2) := by decide +kernel
theorem dX1_change_116 : decode cX1_change 116 = .ok (.iconst 1, 1) := by decide +kernel
theorem dX1_change_117 : decode cX1_change 117 = .ok (.isub, 1) := by decide +kernel
theorem dX1_change_118 : decode cX1_change 118 = .ok (.iaload, 1) := by decide +kernel
theorem dX1_change_119 : decode cX1_change 119 = .ok (.invokevirtual 99, 3) := by decide +kernel
theorem dX1_change_122 : decode cX1_change 122 = .ok (.iastore, 1) := by decide +kernel
theorem dX1_change_123 : decode cX1_change 123 = .ok (.goto 62, 3) := by decide +kernel
theorem dX1_change_126 : decode cX1_change 126 = .ok (.iload_n 1, 1) := by decide +kernel
theorem dX1_change_127 : decode cX1_change 127 = .ok (.invokestatic 102, 3) := by decide +kernel
theorem dX1_change_130 : decode cX1_change 130 = .ok (.ifCond .eq 55, 3) := by decide +kernel
theorem dX1_change_133 : decode cX1_change 133 = .ok (.iload_n 3, 1) := by decide +kernel
theorem dX1_change_134 : decode cX1_change 134 = .ok (.iconst 2, 1) := by decide +kernel
theorem dX1_change_135 : decode cX1_change 135 = .ok (.if_icmp .lt 50, 3) := by decide +kernel
theorem dX1_change_138 : decode cX1_change 138 = .ok (.aload_n 0, 1) := by decide +kernel
theorem dX1_change_139 : decode cX1_change 139 = .ok (.getfield 36, 3) := by decide +kernel
theorem dX1_change_142 : decode cX1_change 142 = .ok (.aload_n 0, 1) := by decide +kernel
theorem dX1_change_143 : decode cX1_change 143 = .ok (.getfield 20, 3) := by decide +kernel
theorem dX1_change_146 : decode cX1_change 146 = .ok (.iload 4, 2) := by decide +kernel
theorem dX1_change_148 : decode cX1_change 148 = .ok (.iconst 2, 1) := by decide +kernel
theorem dX1_change_149 : decode cX1_change 149 = .ok (.isub, 1) := by decide +kernel
theorem dX1_change_150 : decode cX1_change 150 = .ok (.iaload, 1) := by decide +kernel
theorem dX1_change_151 : decode cX1_change 151 = .ok (.aload_n 0, 1) := by decide +kernel
theorem dX1_change_152 : decode cX1_change 152 = .ok (.getfield 20, 3) := by decide +kernel
theorem dX1_change_155 : decode cX1_change 155 = .ok (.iload 4, 2) := by decide +kernel
theorem dX1_change_157 : decode cX1_change 157 = .ok (.iconst 1, 1) := by decide +kernel
theorem dX1_change_158 : decode cX1_change 158 = .ok (.isub, 1) := by decide +kernel
theorem dX1_change_159 : decode cX1_change 159 = .ok (.iaload, 1) := by decide +kernel
theorem dX1_change_160 : decode cX1_change 160 = .ok (.invokevirtual 99, 3) := by decide +kernel
theorem dX1_change_163 : decode cX1_change 163 = .ok (.istore 6, 2) := by decide +kernel
theorem dX1_change_165 : decode cX1_change 165 = .ok (.aload_n 0, 1) := by decide +kernel
theorem dX1_change_166 : decode cX1_change 166 = .ok (.getfield 20, 3) := by decide +kernel
theorem dX1_change_169 : decode cX1_change 169 = .ok (.iload 4, 2) := by decide +kernel
theorem dX1_change_171 : decode cX1_change 171 = .ok (.iconst 2, 1) := by decide +kernel
theorem dX1_change_172 : decode cX1_change 172 = .ok (.isub, 1) := by decide +kernel
theorem dX1_change_173 : decode cX1_change 173 = .ok (.aload_n 0, 1) := by decide +kernel
theorem dX1_change_174 : decode cX1_change 174 = .ok (.getfield 36, 3) := by decide +kernel
theorem dX1_change_177 : decode cX1_change 177 = .ok (.iload 5, 2) := by decide +kernel
theorem dX1_change_179 : decode cX1_change 179 = .ok (.iload 6, 2) := by decide +kernel
theorem dX1_change_181 : decode cX1_change 181 = .ok (.invokevirtual 99, 3) := by decide +kernel
theorem dX1_change_184 : decode cX1_change 184 = .ok (.iastore, 1) := by decide +kernel
theorem dX1_change_185 : decode cX1_change 185 = .ok (.return_, 1) := by decide +kernel
theorem dX1_raiseRegion_0 : decode cX1_raiseRegion 0 = .ok (.bipush 9, 2) := by decide +kernel
theorem dX1_raiseRegion_2 : decode cX1_raiseRegion 2 = .ok (.aload_n 0, 1) := by decide +kernel
theorem dX1_raiseRegion_3 : decode cX1_raiseRegion 3 = .ok (.getfield 28, 3) := by decide +kernel
theorem dX1_raiseRegion_6 : decode cX1_raiseRegion 6 = .ok (.iload_n 1, 1) := by decide +kernel
theorem dX1_raiseRegion_7 : decode cX1_raiseRegion 7 = .ok (.invokevirtual 51, 3) := by decide +kernel
theorem dX1_raiseRegion_10 : decode cX1_raiseRegion 10 = .ok (.iadd, 1) := by decide +kernel
theorem dX1_raiseRegion_11 : decode cX1_raiseRegion 11 = .ok (.iconst 1, 1) := by decide +kernel
theorem dX1_raiseRegion_12 : decode cX1_raiseRegion 12 = .ok (.isub, 1) := by decide +kernel
theorem dX1_raiseRegion_13 : decode cX1_raiseRegion 13 = .ok (.istore_n 2, 1) := by decide +kernel
theorem dX1_raiseRegion_14 : decode cX1_raiseRegion 14 = .ok (.iload_n 2, 1) := by decide +kernel
theorem dX1_raiseRegion_15 : decode cX1_raiseRegion 15 = .ok (.bipush 9, 2) := by decide +kernel
theorem dX1_raiseRegion_17 : decode cX1_raiseRegion 17 = .ok (.if_icmp .lt 9, 3) := by decide +kernel
theorem dX1_raiseRegion_20 : decode cX1_raiseRegion 20 = .ok (.iload_n 2, 1) := by decide +kernel
theorem dX1_raiseRegion_21 : decode cX1_raiseRegion 21 = .ok (.bipush 17, 2) := by decide +kernel
theorem dX1_raiseRegion_23 : decode cX1_raiseRegion 23 = .ok (.if_icmp .lt 4, 3) := by decide +kernel
theorem dX1_raiseRegion_26 : decode cX1_raiseRegion 26 = .ok (.return_, 1) := by decide +kernel
theorem dX1_raiseRegion_27 : decode cX1_raiseRegion 27 = .ok (.aload_n 0, 1) := by decide +kernel
theorem dX1_raiseRegion_28 : decode cX1_raiseRegion 28 = .ok (.getfield 13, 3) := by decide +kernel
theorem dX1_raiseRegion_31 : decode cX1_raiseRegion 31 = .ok (.iload_n 1, 1) := by decide +kernel
theorem dX1_raiseRegion_32 : decode cX1_raiseRegion 32 = .ok (.aaload, 1) := by decide +kernel
theorem dX1_raiseRegion_33 : decode cX1_raiseRegion 33 = .ok (.iload_n 2, 1) := by decide +kernel
theorem dX1_raiseRegion_34 : decode cX1_raiseRegion 34 = .ok (.iaload, 1) := by decide +kernel
theorem dX1_raiseRegion_35 : decode cX1_raiseRegion 35 = .ok (.istore_n 3, 1) := by decide +kernel
theorem dX1_raiseRegion_36 : decode cX1_raiseRegion 36 = .ok (.iconst 0, 1) := by decide +kernel
theorem dX1_raiseRegion_37 : decode cX1_raiseRegion 37 = .ok (.istore 4, 2) := by decide +kernel
theorem dX1_raiseRegion_39 : decode cX1_raiseRegion 39 = .ok (.iload 4, 2) := by decide +kernel
theorem dX1_raiseRegion_41 : decode cX1_raiseRegion 41 = .ok (.aload_n 0, 1) := by decide +kernel
theorem dX1_raiseRegion_42 : decode cX1_raiseRegion 42 = .ok (.getfield 24, 3) := by decide +kernel
theorem dX1_raiseRegion_45 : decode cX1_raiseRegion 45 = .ok (.invokevirtual 40, 3) := by decide +kernel
theorem dX1_raiseRegion_48 : decode cX1_raiseRegion 48 = .ok (.if_icmp .ge 31, 3) := by decide +kernel
theorem dX1_raiseRegion_51 : decode cX1_raiseRegion 51 = .ok (.aload_n 0, 1) := by decide +kernel
theorem dX1_raiseRegion_52 : decode cX1_raiseRegion 52 = .ok (.getfield 32, 3) := by decide +kernel
theorem dX1_raiseRegion_55 : decode cX1_raiseRegion 55 = .ok (.iload_n 1, 1) := by decide +kernel
theorem dX1_raiseRegion_56 : decode cX1_raiseRegion 56 = .ok (.iload 4, 2) := by decide +kernel
theorem dX1_raiseRegion_58 : decode cX1_raiseRegion 58 = .ok (.invokevirtual 105, 3) := by decide +kernel
theorem dX1_raiseRegion_61 : decode cX1_raiseRegion 61 = .ok (.ifCond .eq 12, 3) := by decide +kernel
theorem dX1_raiseRegion_64 : decode cX1_raiseRegion 64 = .ok (.aload_n 0, 1) := by decide +kernel
theorem dX1_raiseRegion_65 : decode cX1_raiseRegion 65 = .ok (.iload 4, 2) := by decide +kernel
theorem dX1_raiseRegion_67 : decode cX1_raiseRegion 67 = .ok (.bipush 8, 2) := by decide +kernel
theorem dX1_raiseRegion_69 : decode cX1_raiseRegion 69 = .ok (.iload_n 3, 1) := by decide +kernel
theorem dX1_raiseRegion_70 : decode cX1_raiseRegion 70 = .ok (.invokevirtual 57, 3) := by decide +kernel
theorem dX1_raiseRegion_73 : decode cX1_raiseRegion 73 = .ok (.iinc 4 1, 3) := by decide +kernel
theorem dX1_raiseRegion_76 : decode cX1_raiseRegion 76 = .ok (.goto (-37), 3) := by decide +kernel
theorem dX1_raiseRegion_79 : decode cX1_raiseRegion 79 = .ok (.return_, 1) := by decide +kernel
theorem dX1_comeTo_0 : decode cX1_comeTo 0 = .ok (.aload_n 0, 1) := by decide +kernel
theorem dX1_comeTo_1 : decode cX1_comeTo 1 = .ok (.getfield 24, 3) := by decide +kernel
theorem dX1_comeTo_4 : decode cX1_comeTo 4 = .ok (.iload_n 1, 1) := by decide +kernel
theorem dX1_comeTo_5 : decode cX1_comeTo 5 = .ok (.invokevirtual 110, 3) := by decide +kernel
theorem dX1_comeTo_8 : decode cX1_comeTo 8 = .ok (.ifCond .ne 4, 3) := by decide +kernel
theorem dX1_comeTo_11 : decode cX1_comeTo 11 = .ok (.return_, 1) := by decide +kernel
theorem dX1_comeTo_12 : decode cX1_comeTo 12 = .ok (.bipush 9, 2) := by decide +kernel
theorem dX1_comeTo_14 : decode cX1_comeTo 14 = .ok (.aload_n 0, 1) := by decide +kernel
theorem dX1_comeTo_15 : decode cX1_comeTo 15 = .ok (.getfield 28, 3) := by decide +kernel
theorem dX1_comeTo_18 : decode cX1_comeTo 18 = .ok (.iload_n 1, 1) := by decide +kernel
theorem dX1_comeTo_19 : decode cX1_comeTo 19 = .ok (.invokevirtual 51, 3) := by decide +kernel
theorem dX1_comeTo_22 : decode cX1_comeTo 22 = .ok (.iadd, 1) := by decide +kernel
theorem dX1_comeTo_23 : decode cX1_comeTo 23 = .ok (.istore_n 2, 1) := by decide +kernel
theorem dX1_comeTo_24 : decode cX1_comeTo 24 = .ok (.iconst 0, 1) := by decide +kernel
theorem dX1_comeTo_25 : decode cX1_comeTo 25 = .ok (.istore_n 3, 1) := by decide +kernel
theorem dX1_comeTo_26 : decode cX1_comeTo 26 = .ok (.iload_n 3, 1) := by decide +kernel
theorem dX1_comeTo_27 : decode cX1_comeTo 27 = .ok (.iload_n 2, 1) := by decide +kernel
theorem dX1_comeTo_28 : decode cX1_comeTo 28 = .ok (.if_icmp .ge 33, 3) := by decide +kernel
theorem dX1_comeTo_31 : decode cX1_comeTo 31 = .ok (.iload_n 3, 1) := by decide +kernel
theorem dX1_comeTo_32 : decode cX1_comeTo 32 = .ok (.bipush 17, 2) := by decide +kernel
theorem dX1_comeTo_34 : decode cX1_comeTo 34 = .ok (.if_icmp .ge 27, 3) := by decide +kernel
theorem dX1_comeTo_37 : decode cX1_comeTo 37 = .ok (.iload_n 3, 1) := by decide +kernel
theorem dX1_comeTo_38 : decode cX1_comeTo 38 = .ok (.bipush 8, 2) := by decide +kernel
theorem dX1_comeTo_40 : decode cX1_comeTo 40 = .ok (.if_icmp .eq 15, 3) := by decide +kernel
theorem dX1_comeTo_43 : decode cX1_comeTo 43 = .ok (.aload_n 0, 1) := by decide +kernel
theorem dX1_comeTo_44 : decode cX1_comeTo 44 = .ok (.iload_n 1, 1) := by decide +kernel
theorem dX1_comeTo_45 : decode cX1_comeTo 45 = .ok (.iload_n 3, 1) := by decide +kernel
theorem dX1_comeTo_46 : decode cX1_comeTo 46 = .ok (.aload_n 0, 1) := by decide +kernel
theorem dX1_comeTo_47 : decode cX1_comeTo 47 = .ok (.getfield 20, 3) := by decide +kernel
theorem dX1_comeTo_50 : decode cX1_comeTo 50 = .ok (.iload_n 3, 1) := by decide +kernel
theorem dX1_comeTo_51 : decode cX1_comeTo 51 = .ok (.iaload, 1) := by decide +kernel
theorem dX1_comeTo_52 : decode cX1_comeTo 52 = .ok (.invokevirtual 57, 3) := by decide +kernel
theorem dX1_comeTo_55 : decode cX1_comeTo 55 = .ok (.iinc 3 1, 3) := by decide +kernel
theorem dX1_comeTo_58 : decode cX1_comeTo 58 = .ok (.goto (-32), 3) := by decide +kernel
theorem dX1_comeTo_61 : decode cX1_comeTo 61 = .ok (.return_, 1) := by decide +kernel
theorem dX1_raise_0 : decode cX1_raise 0 = .ok (.aload_n 0, 1) := by decide +kernel
theorem dX1_raise_1 : decode cX1_raise 1 = .ok (.getfield 36, 3) := by decide +kernel
theorem dX1_raise_4 : decode cX1_raise 4 = .ok (.aload_n 0, 1) := by decide +kernel
theorem dX1_raise_5 : decode cX1_raise 5 = .ok (.getfield 13, 3) := by decide +kernel
theorem dX1_raise_8 : decode cX1_raise 8 = .ok (.iload_n 1, 1) := by decide +kernel
theorem dX1_raise_9 : decode cX1_raise 9 = .ok (.aaload, 1) := by decide +kernel
theorem dX1_raise_10 : decode cX1_raise 10 = .ok (.iload_n 2, 1) := by decide +kernel
theorem dX1_raise_11 : decode cX1_raise 11 = .ok (.iaload, 1) := by decide +kernel
theorem dX1_raise_12 : decode cX1_raise 12 = .ok (.iload_n 3, 1) := by decide +kernel
theorem dX1_raise_13 : decode cX1_raise 13 = .ok (.invokevirtual 99, 3) := by decide +kernel
theorem dX1_raise_16 : decode cX1_raise 16 = .ok (.istore 4, 2) := by decide +kernel
theorem dX1_raise_18 : decode cX1_raise 18 = .ok (.iload 4, 2) := by decide +kernel
theorem dX1_raise_20 : decode cX1_raise 20 = .ok (.aload_n 0, 1) := by decide +kernel
theorem dX1_raise_21 : decode cX1_raise 21 = .ok (.getfield 13, 3) := by decide +kernel
theorem dX1_raise_24 : decode cX1_raise 24 = .ok (.iload_n 1, 1) := by decide +kernel
theorem dX1_raise_25 : decode cX1_raise 25 = .ok (.aaload, 1) := by decide +kernel
theorem dX1_raise_26 : decode cX1_raise 26 = .ok (.iload_n 2, 1) := by decide +kernel
theorem dX1_raise_27 : decode cX1_raise 27 = .ok (.iaload, 1) := by decide +kernel
theorem dX1_raise_28 : decode cX1_raise 28 = .ok (.if_icmp .eq 20, 3) := by decide +kernel
theorem dX1_raise_31 : decode cX1_raise 31 = .ok (.aload_n 0, 1) := by decide +kernel
theorem dX1_raise_32 : decode cX1_raise 32 = .ok (.getfield 13, 3) := by decide +kernel
theorem dX1_raise_35 : decode cX1_raise 35 = .ok (.iload_n 1, 1) := by decide +kernel
theorem dX1_raise_36 : decode cX1_raise 36 = .ok (.aaload, 1) := by decide +kernel
theorem dX1_raise_37 : decode cX1_raise 37 = .ok (.iload_n 2, 1) := by decide +kernel
theorem dX1_raise_38 : decode cX1_raise 38 = .ok (.iload 4, 2) := by decide +kernel
theorem dX1_raise_40 : decode cX1_raise 40 = .ok (.iastore, 1) := by decide +kernel
theorem dX1_raise_41 : decode cX1_raise 41 = .ok (.aload_n 0, 1) := by decide +kernel
theorem dX1_raise_42 : decode cX1_raise 42 = .ok (.getfield 16, 3) := by decide +kernel
theorem dX1_raise_45 : decode cX1_raise 45 = .ok (.iload_n 1, 1) := by decide +kernel
theorem dX1_raise_46 : decode cX1_raise 46 = .ok (.iconst 1, 1) := by decide +kernel
theorem dX1_raise_47 : decode cX1_raise 47 = .ok (.bastore, 1) := by decide +kernel
theorem dX1_raise_48 : decode cX1_raise 48 = .ok (.return_, 1) := by decide +kernel
theorem dX2_init_0 : decode cX2_init 0 = .ok (.aload_n 0, 1) := by decide +kernel
theorem dX2_init_1 : decode cX2_init 1 = .ok (.invokespecial 3, 3) := by decide +kernel
theorem dX2_init_4 : decode cX2_init 4 = .ok (.aload_n 0, 1) := by decide +kernel
theorem dX2_init_5 : decode cX2_init 5 = .ok (.bipush 8, 2) := by decide +kernel
theorem dX2_init_7 : decode cX2_init 7 = .ok (.newarray .int, 2) := by decide +kernel
theorem dX2_init_9 : decode cX2_init 9 = .ok (.putfield 9, 3) := by decide +kernel
theorem dX2_init_12 : decode cX2_init 12 = .ok (.aload_n 0, 1) := by decide +kernel
theorem dX2_init_13 : decode cX2_init 13 = .ok (.iconst 0, 1) := by decide +kernel
theorem dX2_init_14 : decode cX2_init 14 = .ok (.putfield 15, 3) := by decide +kernel
theorem dX2_init_17 : decode cX2_init 17 = .ok (.aload_n 0, 1) := by decide +kernel
theorem dX2_init_18 : decode cX2_init 18 = .ok (.iconst 0, 1) := by decide +kernel
theorem dX2_init_19 : decode cX2_init 19 = .ok (.putfield 19, 3) := by decide +kernel
theorem dX2_init_22 : decode cX2_init 22 = .ok (.return_, 1) := by decide +kernel
theorem dX2_execute_0 : decode cX2_execute 0 = .ok (.aload_n 2, 1) := by decide +kernel
theorem dX2_execute_1 : decode cX2_execute 1 = .ok (.iconst 0, 1) := by decide +kernel
theorem dX2_execute_2 : decode cX2_execute 2 = .ok (.aload_n 0, 1) := by decide +kernel
theorem dX2_execute_3 : decode cX2_execute 3 = .ok (.getfield 9, 3) := by decide +kernel
theorem dX2_execute_6 : decode cX2_execute 6 = .ok (.iconst 0, 1) := by decide +kernel
theorem dX2_execute_7 : decode cX2_execute 7 = .ok (.bipush 8, 2) := by decide +kernel
theorem dX2_execute_9 : decode cX2_execute 9 = .ok (.invokestatic 22, 3) := by decide +kernel
theorem dX2_execute_12 : decode cX2_execute 12 = .ok (.aload_n 0, 1) := by decide +kernel
theorem dX2_execute_13 : decode cX2_execute 13 = .ok (.iconst 0, 1) := by decide +kernel
theorem dX2_execute_14 : decode cX2_execute 14 = .ok (.putfield 15, 3) := by decide +kernel
theorem dX2_execute_17 : decode cX2_execute 17 = .ok (.aload_n 0, 1) := by decide +kernel
theorem dX2_execute_18 : decode cX2_execute 18 = .ok (.iload_n 3, 1) := by decide +kernel
theorem dX2_execute_19 : decode cX2_execute 19 = .ok (.putfield 19, 3) := by decide +kernel
theorem dX2_execute_22 : decode cX2_execute 22 = .ok (.aload_n 0, 1) := by decide +kernel
theorem dX2_execute_23 : decode cX2_execute 23 = .ok (.aload_n 1, 1) := by decide +kernel
theorem dX2_execute_24 : decode cX2_execute 24 = .ok (.iconst 0, 1) := by decide +kernel
theorem dX2_execute_25 : decode cX2_execute 25 = .ok (.invokevirtual 28, 3) := by decide +kernel
theorem dX2_execute_28 : decode cX2_execute 28 = .ok (.ifCond .ne 5, 3) := by decide +kernel
theorem dX2_execute_31 : decode cX2_execute 31 = .ok (.iconst (-1), 1) := by decide +kernel
theorem dX2_execute_32 : decode cX2_execute 32 = .ok (.ireturn, 1) := by decide +kernel
theorem dX2_execute_33 : decode cX2_execute 33 = .ok (.aload_n 0, 1) := by decide +kernel
theorem dX2_execute_34 : decode cX2_execute 34 = .ok (.getfield 9, 3) := by decide +kernel
theorem dX2_execute_37 : decode cX2_execute 37 = .ok (.iconst 0, 1) := by decide +kernel
theorem dX2_execute_38 : decode cX2_execute 38 = .ok (.aload_n 2, 1) := by decide +kernel
theorem dX2_execute_39 : decode cX2_execute 39 = .ok (.iconst 0, 1) := by decide +kernel
theorem dX2_execute_40 : decode cX2_execute 40 = .ok (.bipush 8, 2) := by decide +kernel
theorem dX2_execute_42 : decode cX2_execute 42 = .ok (.invokestatic 22, 3) := by decide +kernel
theorem dX2_execute_45 : decode cX2_execute 45 = .ok (.aload_n 0, 1) := by decide +kernel
theorem dX2_execute_46 : decode cX2_execute 46 = .ok (.getfield 15, 3) := by decide +kernel
theorem dX2_execute_49 : decode cX2_execute 49 = .ok (.ireturn, 1) := by decide +kernel
theorem dX2_makeRow_0 : decode cX2_makeRow 0 = .ok (.iload_n 2, 1) := by decide +kernel
theorem dX2_makeRow_1 : decode cX2_makeRow 1 = .ok (.bipush 6, 2) := by decide +kernel
theorem dX2_makeRow_3 : decode cX2_makeRow 3 = .ok (.if_icmp .le 5, 3) := by decide +kernel
theorem dX2_makeRow_6 : decode cX2_makeRow 6 = .ok (.iconst 0, 1) := by decide +kernel
theorem dX2_makeRow_7 : decode cX2_makeRow 7 = .ok (.ireturn, 1) := by decide +kernel
theorem dX2_makeRow_8 : decode cX2_makeRow 8 = .ok (.aload_n 1, 1) := by decide +kernel
theorem dX2_makeRow_9 : decode cX2_makeRow 9 = .ok (.astore_n 3, 1) := by decide +kernel
theorem dX2_makeRow_10 : decode cX2_makeRow 10 = .ok (.aload_n 3, 1) := by decide +kernel
theorem dX2_makeRow_11 : decode cX2_makeRow 11 = .ok (.ifnull 22, 3) := by decide +kernel
theorem dX2_makeRow_14 : decode cX2_makeRow 14 = .ok (.aload_n 0, 1) := by decide +kernel
theorem dX2_makeRow_15 : decode cX2_makeRow 15 = .ok (.aload_n 3, 1) := by decide +kernel
theorem dX2_makeRow_16 : decode cX2_makeRow 16 = .ok (.iload_n 2, 1) := by decide +kernel
theorem dX2_makeRow_17 : decode cX2_makeRow 17 = .ok (.invokevirtual 32, 3) := by decide +kernel
theorem dX2_makeRow_20 : decode cX2_makeRow 20 = .ok (.ifCond .ne 5, 3) := by decide +kernel
theorem dX2_makeRow_23 : decode cX2_makeRow 23 = .ok (.iconst 0, 1) := by decide +kernel
theorem dX2_makeRow_24 : decode cX2_makeRow 24 = .ok (.ireturn, 1) := by decide +kernel
theorem dX2_makeRow_25 : decode cX2_makeRow 25 = .ok (.aload_n 3, 1) := by decide +kernel
theorem dX2_makeRow_26 : decode cX2_makeRow 26 = .ok (.getfield 35, 3) := by decide +kernel
theorem dX2_makeRow_29 : decode cX2_makeRow 29 = .ok (.astore_n 3, 1) := by decide +kernel
theorem dX2_makeRow_30 : decode cX2_makeRow 30 = .ok (.goto (-20), 3) := by decide +kernel
theorem dX2_makeRow_33 : decode cX2_makeRow 33 = .ok (.iconst 1, 1) := by decide +kernel
theorem dX2_makeRow_34 : decode cX2_makeRow 34 = .ok (.ireturn, 1) := by decide +kernel
theorem dX2_makeStatement_0 : decode cX2_makeStatement 0 = .ok (.aload_n 1, 1) := by decide +kernel
theorem dX2_makeStatement_1 : decode cX2_makeStatement 1 = .ok (.getfield 41, 3) := by decide +kernel
theorem dX2_makeStatement_4 : decode cX2_makeStatement 4 = .ok (.iconst 4, 1) := by decide +kernel
theorem dX2_makeStatement_5 : decode cX2_makeStatement 5 = .ok (.if_icmp .ne 10, 3) := by decide +kernel
theorem dX2_makeStatement_8 : decode cX2_makeStatement 8 = .ok (.aload_n 0, 1) := by decide +kernel
theorem dX2_makeStatement_9 : decode cX2_makeStatement 9 = .ok (.aload_n 1, 1) := by decide +kernel
theorem dX2_makeStatement_10 : decode cX2_makeStatement 10 = .ok (.iload_n 2, 1) := by decide +kernel
theorem dX2_makeStatement_11 : decode cX2_makeStatement 11 = .ok (.invokevirtual 44, 3) := by decide +kernel
theorem dX2_makeStatement_14 : decode cX2_makeStatement 14 = .ok (.ireturn, 1) := by decide +kernel
theorem dX2_makeStatement_15 : decode cX2_makeStatement 15 = .ok (.aload_n 1, 1) := by decide +kernel
theorem dX2_makeStatement_16 : decode cX2_makeStatement 16 = .ok (.getfield 41, 3) := by decide +kernel
theorem dX2_makeStatement_19 : decode cX2_makeStatement 19 = .ok (.iconst 5, 1) := by decide +kernel
theorem dX2_makeStatement_20 : decode cX2_makeStatement 20 = .ok (.if_icmp .ne 10, 3) := by decide +kernel
theorem dX2_makeStatement_23 : decode cX2_makeStatement 23 = .ok (.aload_n 0, 1) := by decide +kernel
theorem dX2_makeStatement_24 : decode cX2_makeStatement 24 = .ok (.aload_n 1, 1) := by decide +kernel
theorem dX2_makeStatement_25 : decode cX2_makeStatement 25 = .ok (.iload_n 2, 1) := by decide +kernel
theorem dX2_makeStatement_26 : decode cX2_makeStatement 26 = .ok (.invokevirtual 47, 3) := by decide +kernel
theorem dX2_makeStatement_29 : decode cX2_makeStatement 29 = .ok (.ireturn, 1) := by decide +kernel
theorem dX2_makeStatement_30 : decode cX2_makeStatement 30 = .ok (.aload_n 1, 1) := by decide +kernel
theorem dX2_makeStatement_31 : decode cX2_makeStatement 31 = .ok (.getfield 50, 3) := by decide +kernel
theorem dX2_makeStatement_34 : decode cX2_makeStatement 34 = .ok (.invokestatic 53, 3) := by decide +kernel
theorem dX2_makeStatement_37 : decode cX2_makeStatement 37 = .ok (.ifCond .eq 21, 3) := by decide +kernel
theorem dX2_makeStatement_40 : decode cX2_makeStatement 40 = .ok (.aload_n 0, 1) := by decide +kernel
theorem dX2_makeStatement_41 : decode cX2_makeStatement 41 = .ok (.getfield 9, 3) := by decide +kernel
theorem dX2_makeStatement_44 : decode cX2_makeStatement 44 = .ok (.aload_n 1, 1) := by decide +kernel
theorem dX2_makeStatement_45 : decode cX2_makeStatement 45 = .ok (.getfield 50, 3) := by decide +kernel
theorem dX2_makeStatement_48 : decode cX2_makeStatement 48 = .ok (.aload_n 0, 1) := by decide +kernel
theorem dX2_makeStatement_49 : decode cX2_makeStatement 49 = .ok (.aload_n 1, 1) := by decide +kernel
theorem dX2_makeStatement_50 : decode cX2_makeStatement 50 = .ok (.getfield 57, 3) := by decide +kernel
theorem dX2_makeStatement_53 : decode cX2_makeStatement 53 = .ok (.iconst 0, 1) := by decide +kernel
theorem dX2_makeStatement_54 : decode cX2_makeStatement 54 = .ok (.invokevirtual 60, 3) := by decide +kernel
theorem dX2_makeStatement_57 : decode cX2_makeStatement 57 = .ok (.iastore, 1) := by decide +kernel
theorem dX2_makeStatement_58 : decode cX2_makeStatement 58 = .ok (.iconst 1, 1) := by decide +kernel
theorem dX2_makeStatement_59 : decode cX2_makeStatement 59 = .ok (.ireturn, 1) := by decide +kernel
theorem dX2_makeChoice_0 : decode cX2_makeChoice 0 = .ok (.aload_n 0, 1) := by decide +kernel
theorem dX2_makeChoice_1 : decode cX2_makeChoice 1 = .ok (.getfield 15, 3) := by decide +kernel
theorem dX2_makeChoice_4 : decode cX2_makeChoice 4 = .ok (.aload_n 0, 1) := by decide +kernel
theorem dX2_makeChoice_5 : decode cX2_makeChoice 5 = .ok (.getfield 19, 3) := by decide +kernel
theorem dX2_makeChoice_8 : decode cX2_makeChoice 8 = .ok (.if_icmp .lt 5, 3) := by decide +kernel
theorem dX2_makeChoice_11 : decode cX2_makeChoice 11 = .ok (.iconst 0, 1) := by decide +kernel
theorem dX2_makeChoice_12 : decode cX2_makeChoice 12 = .ok (.ireturn, 1) := by decide +kernel
theorem dX2_makeChoice_13 : decode cX2_makeChoice 13 = .ok (.aload_n 0, 1) := by decide +kernel
theorem dX2_makeChoice_14 : decode cX2_makeChoice 14 = .ok (.dup, 1) := by decide +kernel
theorem dX2_makeChoice_15 : decode cX2_makeChoice 15 = .ok (.getfield 15, 3) := by decide +kernel
theorem dX2_makeChoice_18 : decode cX2_makeChoice 18 = .ok (.iconst 1, 1) := by decide +kernel
theorem dX2_makeChoice_19 : decode cX2_makeChoice 19 = .ok (.iadd, 1) := by decide +kernel
theorem dX2_makeChoice_20 : decode cX2_makeChoice 20 = .ok (.putfield 15, 3) := by decide +kernel
theorem dX2_makeChoice_23 : decode cX2_makeChoice 23 = .ok (.aload_n 0, 1) := by decide +kernel
theorem dX2_makeChoice_24 : decode cX2_makeChoice 24 = .ok (.aload_n 0, 1) := by decide +kernel
theorem dX2_makeChoice_25 : decode cX2_makeChoice 25 = .ok (.aload_n 1, 1) := by decide +kernel
theorem dX2_makeChoice_26 : decode cX2_makeChoice 26 = .ok (.getfield 57, 3) := by decide +kernel
theorem dX2_makeChoice_29 : decode cX2_makeChoice 29 = .ok (.iconst 0, 1) := by decide +kernel
theorem dX2_makeChoice_30 : decode cX2_makeChoice 30 = .ok (.invokevirtual 60, 3) := by decide +kernel
theorem dX2_makeChoice_33 : decode cX2_makeChoice 33 = .ok (.ifCond .eq 10, 3) := by decide +kernel
theorem dX2_makeChoice_36 : decode cX2_makeChoice 36 = .ok (.aload_n 1, 1) := by decide +kernel
theorem dX2_makeChoice_37 : decode cX2_makeChoice 37 = .ok (.getfield 64, 3) := by decide +kernel
theorem dX2_makeChoice_40 : decode cX2_makeChoice 40 = .ok (.goto 7, 3) := by decide +kernel
theorem dX2_makeChoice_43 : decode cX2_makeChoice 43 = .ok (.aload_n 1, 1) := by decide +kernel
theorem dX2_makeChoice_44 : decode cX2_makeChoice 44 = .ok (.getfield 67, 3) := by decide +kernel
theorem dX2_makeChoice_47 : decode cX2_makeChoice 47 = .ok (.iload_n 2, 1) := by decide +kernel
theorem dX2_makeChoice_48 : decode cX2_makeChoice 48 = .ok (.iconst 1, 1) := by decide +kernel
theorem dX2_makeChoice_49 : decode cX2_makeChoice 49 = .ok (.iadd, 1) := by decide +kernel
theorem dX2_makeChoice_50 : decode cX2_makeChoice 50 = .ok (.invokevirtual 28, 3) := by decide +kernel
theorem dX2_makeChoice_53 : decode cX2_makeChoice 53 = .ok (.ireturn, 1) := by decide +kernel
theorem dX2_makeLoop_0 : decode cX2_makeLoop 0 = .ok (.aload_n 0, 1) := by decide +kernel
theorem dX2_makeLoop_1 : decode cX2_makeLoop 1 = .ok (.getfield 15, 3) := by decide +kernel
theorem dX2_makeLoop_4 : decode cX2_makeLoop 4 = .ok (.aload_n 0, 1) := by decide +kernel
theorem dX2_makeLoop_5 : decode cX2_makeLoop 5 = .ok (.getfield 19, 3) := by decide +kernel
theorem dX2_makeLoop_8 : decode cX2_makeLoop 8 = .ok (.if_icmp .ge 43, 3) := by decide +kernel
theorem dX2_makeLoop_11 : decode cX2_makeLoop 11 = .ok (.aload_n 0, 1) := by decide +kernel
theorem dX2_makeLoop_12 : decode cX2_makeLoop 12 = .ok (.dup, 1) := by decide +kernel
theorem dX2_makeLoop_13 : decode cX2_makeLoop 13 = .ok (.getfield 15, 3) := by decide +kernel
theorem dX2_makeLoop_16 : decode cX2_makeLoop 16 = .ok (.iconst 1, 1) := by decide +kernel
theorem dX2_makeLoop_17 : decode cX2_makeLoop 17 = .ok (.iadd, 1) := by decide +kernel
theorem dX2_makeLoop_18 : decode cX2_makeLoop 18 = .ok (.putfield 15, 3) := by decide +kernel
theorem dX2_makeLoop_21 : decode cX2_makeLoop 21 = .ok (.aload_n 0, 1) := by decide +kernel
theorem dX2_makeLoop_22 : decode cX2_makeLoop 22 = .ok (.aload_n 1, 1) := by decide +kernel
theorem dX2_makeLoop_23 : decode cX2_makeLoop 23 = .ok (.getfield 57, 3) := by decide +kernel
theorem dX2_makeLoop_26 : decode cX2_makeLoop 26 = .ok (.iconst 0, 1) := by decide +kernel
theorem dX2_makeLoop_27 : decode cX2_makeLoop 27 = .ok (.invokevirtual 60, 3) := by decide +kernel
theorem dX2_makeLoop_30 : decode cX2_makeLoop 30 = .ok (.ifCond .ne 5, 3) := by decide +kernel
theorem dX2_makeLoop_33 : decode cX2_makeLoop 33 = .ok (.iconst 1, 1) := by decide +kernel
theorem dX2_makeLoop_34 : decode cX2_makeLoop 34 = .ok (.ireturn, 1) := by decide +kernel
theorem dX2_makeLoop_35 : decode cX2_makeLoop 35 = .ok (.aload_n 0, 1) := by decide +kernel
theorem dX2_makeLoop_36 : decode cX2_makeLoop 36 = .ok (.aload_n 1, 1) := by decide +kernel
theorem dX2_makeLoop_37 : decode cX2_makeLoop 37 = .ok (.getfield 64, 3) := by decide +kernel
theorem dX2_makeLoop_40 : decode cX2_makeLoop 40 = .ok (.iload_n 2, 1) := by decide +kernel
theorem dX2_makeLoop_41 : decode cX2_makeLoop 41 = .ok (.iconst 1, 1) := by decide +kernel
theorem dX2_makeLoop_42 : decode cX2_makeLoop 42 = .ok (.iadd, 1) := by decide +kernel
theorem dX2_makeLoop_43 : decode cX2_makeLoop 43 = .ok (.invokevirtual 28, 3) := by decide +kernel
theorem dX2_makeLoop_46 : decode cX2_makeLoop 46 = .ok (.ifCond .ne (-46), 3) := by decide +kernel
theorem dX2_makeLoop_49 : decode cX2_makeLoop 49 = .ok (.iconst 0, 1) := by decide +kernel
theorem dX2_makeLoop_50 : decode cX2_makeLoop 50 = .ok (.ireturn, 1) := by decide +kernel
theorem dX2_makeLoop_51 : decode cX2_makeLoop 51 = .ok (.iconst 0, 1) := by decide +kernel
theorem dX2_makeLoop_52 : decode cX2_makeLoop 52 = .ok (.ireturn, 1) := by decide +kernel
theorem dX2_valueOf_0 : decode cX2_valueOf 0 = .ok (.aload_n 1, 1) := by decide +kernel
theorem dX2_valueOf_1 : decode cX2_valueOf 1 = .ok (.ifnull 9, 3) := by decide +kernel
theorem dX2_valueOf_4 : decode cX2_valueOf 4 = .ok (.iload_n 2, 1) := by decide +kernel
theorem dX2_valueOf_5 : decode cX2_valueOf 5 = .ok (.bipush 6, 2) := by decide +kernel
theorem dX2_valueOf_7 : decode cX2_valueOf 7 = .ok (.if_icmp .le 5, 3) := by decide +kernel
theorem dX2_valueOf_10 : decode cX2_valueOf 10 = .ok (.iconst 0, 1) := by decide +kernel
theorem dX2_valueOf_11 : decode cX2_valueOf 11 = .ok (.ireturn, 1) := by decide +kernel
theorem dX2_valueOf_12 : decode cX2_valueOf 12 = .ok (.aload_n 1, 1) := by decide +kernel
theorem dX2_valueOf_13 : decode cX2_valueOf 13 = .ok (.getfield 41, 3) := by decide +kernel
theorem dX2_valueOf_16 : decode cX2_valueOf 16 = .ok (.iconst 1, 1) := by decide +kernel
theorem dX2_valueOf_17 : decode cX2_valueOf 17 = .ok (.if_icmp .ne 27, 3) := by decide +kernel
theorem dX2_valueOf_20 : decode cX2_valueOf 20 = .ok (.aload_n 1, 1) := by decide +kernel
theorem dX2_valueOf_21 : decode cX2_valueOf 21 = .ok (.getfield 50, 3) := by decide +kernel
theorem dX2_valueOf_24 : decode cX2_valueOf 24 = .ok (.invokestatic 53, 3) := by decide +kernel
theorem dX2_valueOf_27 : decode cX2_valueOf 27 = .ok (.ifCond .eq 15, 3) := by decide +kernel
theorem dX2_valueOf_30 : decode cX2_valueOf 30 = .ok (.aload_n 0, 1) := by decide +kernel
theorem dX2_valueOf_31 : decode cX2_valueOf 31 = .ok (.getfield 9, 3) := by decide +kernel
theorem dX2_valueOf_34 : decode cX2_valueOf 34 = .ok (.aload_n 1, 1) := by decide +kernel
theorem dX2_valueOf_35 : decode cX2_valueOf 35 = .ok (.getfield 50, 3) := by decide +kernel
theorem dX2_valueOf_38 : decode cX2_valueOf 38 = .ok (.iaload, 1) := by decide +kernel
theorem dX2_valueOf_39 : decode cX2_valueOf 39 = .ok (.goto 4, 3) := by decide +kernel
theorem dX2_valueOf_42 : decode cX2_valueOf 42 = .ok (.iconst 0, 1) := by decide +kernel
theorem dX2_valueOf_43 : decode cX2_valueOf 43 = .ok (.ireturn, 1) := by decide +kernel
theorem dX2_valueOf_44 : decode cX2_valueOf 44 = .ok (.aload_n 1, 1) := by decide +kernel
theorem dX2_valueOf_45 : decode cX2_valueOf 45 = .ok (.getfield 41, 3) := by decide +kernel
theorem dX2_valueOf_48 : decode cX2_valueOf 48 = .ok (.iconst 2, 1) := by decide +kernel
theorem dX2_valueOf_49 : decode cX2_valueOf 49 = .ok (.if_icmp .ne 33, 3) := by decide +kernel
theorem dX2_valueOf_52 : decode cX2_valueOf 52 = .ok (.aload_n 1, 1) := by decide +kernel
theorem dX2_valueOf_53 : decode cX2_valueOf 53 = .ok (.getfield 50, 3) := by decide +kernel
theorem dX2_valueOf_56 : decode cX2_valueOf 56 = .ok (.aload_n 0, 1) := by decide +kernel
theorem dX2_valueOf_57 : decode cX2_valueOf 57 = .ok (.aload_n 1, 1) := by decide +kernel
theorem dX2_valueOf_58 : decode cX2_valueOf 58 = .ok (.getfield 64, 3) := by decide +kernel
theorem dX2_valueOf_61 : decode cX2_valueOf 61 = .ok (.iload_n 2, 1) := by decide +kernel
theorem dX2_valueOf_62 : decode cX2_valueOf 62 = .ok (.iconst 1, 1) := by decide +kernel
theorem dX2_valueOf_63 : decode cX2_valueOf 63 = .ok (.iadd, 1) := by decide +kernel
theorem dX2_valueOf_64 : decode cX2_valueOf 64 = .ok (.invokevirtual 60, 3) := by decide +kernel
theorem dX2_valueOf_67 : decode cX2_valueOf 67 = .ok (.aload_n 0, 1) := by decide +kernel
theorem dX2_valueOf_68 : decode cX2_valueOf 68 = .ok (.aload_n 1, 1) := by decide +kernel
theorem dX2_valueOf_69 : decode cX2_valueOf 69 = .ok (.getfield 67, 3) := by decide +kernel
theorem dX2_valueOf_72 : decode cX2_valueOf 72 = .ok (.iload_n 2, 1) := by decide +kernel
theorem dX2_valueOf_73 : decode cX2_valueOf 73 = .ok (.iconst 1, 1) := by decide +kernel
theorem dX2_valueOf_74 : decode cX2_valueOf 74 = .ok (.iadd, 1) := by decide +kernel
theorem dX2_valueOf_75 : decode cX2_valueOf 75 = .ok (.invokevirtual 60, 3) := by decide +kernel
theorem dX2_valueOf_78 : decode cX2_valueOf 78 = .ok (.invokestatic 70, 3) := by decide +kernel
theorem dX2_valueOf_81 : decode cX2_valueOf 81 = .ok (.ireturn, 1) := by decide +kernel
theorem dX2_valueOf_82 : decode cX2_valueOf 82 = .ok (.aload_n 1, 1) := by decide +kernel
theorem dX2_valueOf_83 : decode cX2_valueOf 83 = .ok (.getfield 50, 3) := by decide +kernel
theorem dX2_valueOf_86 : decode cX2_valueOf 86 = .ok (.ireturn, 1) := by decide +kernel
theorem dX3_init_0 : decode cX3_init 0 = .ok (.aload_n 0, 1) := by decide +kernel
theorem dX3_init_1 : decode cX3_init 1 = .ok (.invokespecial 3, 3) := by decide +kernel
theorem dX3_init_4 : decode cX3_init 4 = .ok (.aload_n 0, 1) := by decide +kernel
theorem dX3_init_5 : decode cX3_init 5 = .ok (.bipush 36, 2) := by decide +kernel
theorem dX3_init_7 : decode cX3_init 7 = .ok (.newarray .int, 2) := by decide +kernel
theorem dX3_init_9 : decode cX3_init 9 = .ok (.putfield 9, 3) := by decide +kernel
theorem dX3_init_12 : decode cX3_init 12 = .ok (.aload_n 0, 1) := by decide +kernel
theorem dX3_init_13 : decode cX3_init 13 = .ok (.iconst 1, 1) := by decide +kernel
theorem dX3_init_14 : decode cX3_init 14 = .ok (.putfield 15, 3) := by decide +kernel
theorem dX3_init_17 : decode cX3_init 17 = .ok (.aload_n 0, 1) := by decide +kernel
theorem dX3_init_18 : decode cX3_init 18 = .ok (.lconst 1, 1) := by decide +kernel
theorem dX3_init_19 : decode cX3_init 19 = .ok (.putfield 19, 3) := by decide +kernel
theorem dX3_init_22 : decode cX3_init 22 = .ok (.aload_n 0, 1) := by decide +kernel
theorem dX3_init_23 : decode cX3_init 23 = .ok (.iconst 0, 1) := by decide +kernel
theorem dX3_init_24 : decode cX3_init 24 = .ok (.putfield 23, 3) := by decide +kernel
theorem dX3_init_27 : decode cX3_init 27 = .ok (.aload_n 0, 1) := by decide +kernel
theorem dX3_init_28 : decode cX3_init 28 = .ok (.iconst 0, 1) := by decide +kernel
theorem dX3_init_29 : decode cX3_init 29 = .ok (.putfield 26, 3) := by decide +kernel
theorem dX3_init_32 : decode cX3_init 32 = .ok (.return_, 1) := by decide +kernel
theorem dX3_holds_0 : decode cX3_holds 0 = .ok (.lload_n 0, 1) := by decide +kernel
theorem dX3_holds_1 : decode cX3_holds 1 = .ok (.bipush 6, 2) := by decide +kernel
theorem dX3_holds_3 : decode cX3_holds 3 = .ok (.iload_n 2, 1) := by decide +kernel
theorem dX3_holds_4 : decode cX3_holds 4 = .ok (.imul, 1) := by decide +kernel
theorem dX3_holds_5 : decode cX3_holds 5 = .ok (.iload_n 3, 1) := by decide +kernel
theorem dX3_holds_6 : decode cX3_holds 6 = .ok (.iadd, 1) := by decide +kernel
theorem dX3_holds_7 : decode cX3_holds 7 = .ok (.lushr, 1) := by decide +kernel
theorem dX3_holds_8 : decode cX3_holds 8 = .ok (.lconst 1, 1) := by decide +kernel
theorem dX3_holds_9 : decode cX3_holds 9 = .ok (.land, 1) := by decide +kernel
theorem dX3_holds_10 : decode cX3_holds 10 = .ok (.lconst 1, 1) := by decide +kernel
theorem dX3_holds_11 : decode cX3_holds 11 = .ok (.lcmp, 1) := by decide +kernel
theorem dX3_holds_12 : decode cX3_holds 12 = .ok (.ifCond .ne 7, 3) := by decide +kernel
theorem dX3_holds_15 : decode cX3_holds 15 = .ok (.iconst 1, 1) := by decide +kernel
theorem dX3_holds_16 : decode cX3_holds 16 = .ok (.goto 4, 3) := by decide +kernel
theorem dX3_holds_19 : decode cX3_holds 19 = .ok (.iconst 0, 1) := by decide +kernel
theorem dX3_holds_20 : decode cX3_holds 20 = .ok (.ireturn, 1) := by decide +kernel
theorem dX3_isOrder_0 : decode cX3_isOrder 0 = .ok (.iconst 0, 1) := by decide +kernel
theorem dX3_isOrder_1 : decode cX3_isOrder 1 = .ok (.istore_n 3, 1) := by decide +kernel
theorem dX3_isOrder_2 : decode cX3_isOrder 2 = .ok (.iload_n 3, 1) := by decide +kernel
theorem dX3_isOrder_3 : decode cX3_isOrder 3 = .ok (.iload_n 0, 1) := by decide +kernel
theorem dX3_isOrder_4 : decode cX3_isOrder 4 = .ok (.if_icmp .ge 74, 3) := by decide +kernel
theorem dX3_isOrder_7 : decode cX3_isOrder 7 = .ok (.lload_n 1, 1) := by decide +kernel
theorem dX3_isOrder_8 : decode cX3_isOrder 8 = .ok (.iload_n 3, 1) := by decide +kernel
theorem dX3_isOrder_9 : decode cX3_isOrder 9 = .ok (.iload_n 3, 1) := by decide +kernel
theorem dX3_isOrder_10 : decode cX3_isOrder 10 = .ok (.invokestatic 29, 3) := by decide +kernel
theorem dX3_isOrder_13 : decode cX3_isOrder 13 = .ok (.ifCond .ne 5, 3) := by decide +kernel
theorem dX3_isOrder_16 : decode cX3_isOrder 16 = .ok (.iconst 0, 1) := by decide +kernel
theorem dX3_isOrder_17 : decode cX3_isOrder 17 = .ok (.ireturn, 1) := by decide +kernel
theorem dX3_isOrder_18 : decode cX3_isOrder 18 = .ok (.iconst 0, 1) := by decide +kernel
theorem dX3_isOrder_19 : decode cX3_isOrder 19 = .ok (.istore 4, 2) := by decide +kernel
theorem dX3_isOrder_21 : decode cX3_isOrder 21 = .ok (.iload 4, 2) := by decide +kernel
theorem dX3_isOrder_23 : decode cX3_isOrder 23 = .ok (.iload_n 0, 1) := by decide +kernel
theorem dX3_isOrder_24 : decode cX3_isOrder 24 = .ok (.if_icmp .ge 48, 3) := by decide +kernel
theorem dX3_isOrder_27 : decode cX3_isOrder 27 = .ok (.iload_n 3, 1) := by decide +kernel
theorem dX3_isOrder_28 : decode cX3_isOrder 28 = .ok (.iload 4, 2) := by decide +kernel
theorem dX3_isOrder_30 : decode cX3_isOrder 30 = .ok (.if_icmp .eq 36, 3) := by decide +kernel
theorem dX3_isOrder_33 : decode cX3_isOrder 33 = .ok (.lload_n 1, 1) := by decide +kernel
theorem dX3_isOrder_34 : decode cX3_isOrder 34 = .ok (.iload_n 3, 1) := by decide +kernel
theorem dX3_isOrder_35 : decode cX3_isOrder 35 = .ok (.iload 4, 2) := by decide +kernel
theorem dX3_isOrder_37 : decode cX3_isOrder 37 = .ok (.invokestatic 29, 3) := by decide +kernel
theorem dX3_isOrder_40 : decode cX3_isOrder 40 = .ok (.ifCond .eq 26, 3) := by decide +kernel
theorem dX3_isOrder_43 : decode cX3_isOrder 43 = .ok (.lload_n 1, 1) := by decide +kernel
theorem dX3_isOrder_44 : decode cX3_isOrder 44 = .ok (.iload 4, 2) := by decide +kernel
theorem dX3_isOrder_46 : decode cX3_isOrder 46 = .ok (.iload_n 3, 1) := by decide +kernel
theorem dX3_isOrder_47 : decode cX3_isOrder 47 = .ok (.invokestatic 29, 3) := by decide +kernel
theorem dX3_isOrder_50 : decode cX3_isOrder 50 = .ok (.ifCond .ne 14, 3) := by decide +kernel
theorem dX3_isOrder_53 : decode cX3_isOrder 53 = .ok (.iload_n 0, 1) := by decide +kernel
theorem dX3_isOrder_54 : decode cX3_isOrder 54 = .ok (.lload_n 1, 1) := by decide +kernel
theorem dX3_isOrder_55 : decode cX3_isOrder 55 = .ok (.iload_n 3, 1) := by decide +kernel
theorem dX3_isOrder_56 : decode cX3_isOrder 56 = .ok (.iload 4, 2) := by decide +kernel
theorem dX3_isOrder_58 : decode cX3_isOrder 58 = .ok (.invokestatic 33, 3) := by decide +kernel
theorem dX3_isOrder_61 : decode cX3_isOrder 61 = .ok (.ifCond .ne 5, 3) := by decide +kernel
theorem dX3_isOrder_64 : decode cX3_isOrder 64 = .ok (.iconst 0, 1) := by decide +kernel
theorem dX3_isOrder_65 : decode cX3_isOrder 65 = .ok (.ireturn, 1) := by decide +kernel
theorem dX3_isOrder_66 : decode cX3_isOrder 66 = .ok (.iinc 4 1, 3) := by decide +kernel
theorem dX3_isOrder_69 : decode cX3_isOrder 69 = .ok (.goto (-48), 3) := by decide +kernel
theorem dX3_isOrder_72 : decode cX3_isOrder 72 = .ok (.iinc 3 1, 3) := by decide +kernel
theorem dX3_isOrder_75 : decode cX3_isOrder 75 = .ok (.goto (-73), 3) := by decide +kernel
theorem dX3_isOrder_78 : decode cX3_isOrder 78 = .ok (.iconst 1, 1) := by decide +kernel
theorem dX3_isOrder_79 : decode cX3_isOrder 79 = .ok (.ireturn, 1) := by decide +kernel
theorem dX3_passesOn_0 : decode cX3_passesOn 0 = .ok (.iconst 0, 1) := by decide +kernel
theorem dX3_passesOn_1 : decode cX3_passesOn 1 = .ok (.istore 5, 2) := by decide +kernel
theorem dX3_passesOn_3 : decode cX3_passesOn 3 = .ok (.iload 5, 2) := by decide +kernel
theorem dX3_passesOn_5 : decode cX3_passesOn 5 = .ok (.iload_n 0, 1) := by decide +kernel
theorem dX3_passesOn_6 : decode cX3_passesOn 6 = .ok (.if_icmp .ge 32, 3) := by decide +kernel
theorem dX3_passesOn_9 : decode cX3_passesOn 9 = .ok (.lload_n 1, 1) := by decide +kernel
theorem dX3_passesOn_10 : decode cX3_passesOn 10 = .ok (.iload 4, 2) := by decide +kernel
theorem dX3_passesOn_12 : decode cX3_passesOn 12 = .ok (.iload 5, 2) := by decide +kernel
theorem dX3_passesOn_14 : decode cX3_passesOn 14 = .ok (.invokestatic 29, 3) := by decide +kernel
theorem dX3_passesOn_17 : decode cX3_passesOn 17 = .ok (.ifCond .eq 15, 3) := by decide +kernel
theorem dX3_passesOn_20 : decode cX3_passesOn 20 = .ok (.lload_n 1, 1) := by decide +kernel
theorem dX3_passesOn_21 : decode cX3_passesOn 21 = .ok (.iload_n 3, 1) := by decide +kernel
theorem dX3_passesOn_22 : decode cX3_passesOn 22 = .ok (.iload 5, 2) := by decide +kernel
theorem dX3_passesOn_24 : decode cX3_passesOn 24 = .ok (.invokestatic 29, 3) := by decide +kernel
theorem dX3_passesOn_27 : decode cX3_passesOn 27 = .ok (.ifCond .ne 5, 3) := by decide +kernel
theorem dX3_passesOn_30 : decode cX3_passesOn 30 = .ok (.iconst 0, 1) := by decide +kernel
theorem dX3_passesOn_31 : decode cX3_passesOn 31 = .ok (.ireturn, 1) := by decide +kernel
theorem dX3_passesOn_32 : decode cX3_passesOn 32 = .ok (.iinc 5 1, 3) := by decide +kernel
theorem dX3_passesOn_35 : decode cX3_passesOn 35 = .ok (.goto (-32), 3) := by decide +kernel
theorem dX3_passesOn_38 : decode cX3_passesOn 38 = .ok (.iconst 1, 1) := by decide +kernel
theorem dX3_passesOn_39 : decode cX3_passesOn 39 = .ok (.ireturn, 1) := by decide +kernel
theorem dX3_hasAllBounds_0 : decode cX3_hasAllBounds 0 = .ok (.iload_n 0, 1) := by decide +kernel
theorem dX3_hasAllBounds_1 : decode cX3_hasAllBounds 1 = .ok (.lload_n 1, 1) := by decide +kernel
theorem dX3_hasAllBounds_2 : decode cX3_hasAllBounds 2 = .ok (.invokestatic 37, 3) := by decide +kernel
theorem dX3_hasAllBounds_5 : decode cX3_hasAllBounds 5 = .ok (.lstore_n 3, 1) := by decide +kernel
theorem dX3_hasAllBounds_6 : decode cX3_hasAllBounds 6 = .ok (.iconst 0, 1) := by decide +kernel
theorem dX3_hasAllBounds_7 : decode cX3_hasAllBounds 7 = .ok (.istore 5, 2) := by decide +kernel
theorem dX3_hasAllBounds_9 : decode cX3_hasAllBounds 9 = .ok (.iload 5, 2) := by decide +kernel
theorem dX3_hasAllBounds_11 : decode cX3_hasAllBounds 11 = .ok (.iload_n 0, 1) := by decide +kernel
theorem dX3_hasAllBounds_12 : decode cX3_hasAllBounds 12 = .ok (.if_icmp .ge 52, 3) := by decide +kernel
theorem dX3_hasAllBounds_15 : decode cX3_hasAllBounds 15 = .ok (.iconst 0, 1) := by decide +kernel
theorem dX3_hasAllBounds_16 : decode cX3_hasAllBounds 16 = .ok (.istore 6, 2) := by decide +kernel
theorem dX3_hasAllBounds_18 : decode cX3_hasAllBounds 18 = .ok (.iload 6, 2) := by decide +kernel
theorem dX3_hasAllBounds_20 : decode cX3_hasAllBounds 20 = .ok (.iload_n 0, 1) := by decide +kernel
theorem dX3_hasAllBounds_21 : decode cX3_hasAllBounds 21 = .ok (.if_icmp .ge 37, 3) := by decide +kernel
theorem dX3_hasAllBounds_24 : decode cX3_hasAllBounds 24 = .ok (.iload_n 0, 1) := by decide +kernel
theorem dX3_hasAllBounds_25 : decode cX3_hasAllBounds 25 = .ok (.lload_n 1, 1) := by decide +kernel
theorem dX3_hasAllBounds_26 : decode cX3_hasAllBounds 26 = .ok (.iload 5, 2) := by decide +kernel
theorem dX3_hasAllBounds_28 : decode cX3_hasAllBounds 28 = .ok (.iload 6, 2) := by decide +kernel
theorem dX3_hasAllBounds_30 : decode cX3_hasAllBounds 30 = .ok (.invokestatic 41, 3) := by decide +kernel
theorem dX3_hasAllBounds_33 : decode cX3_hasAllBounds 33 = .ok (.iconst (-1), 1) := by decide +kernel
theorem dX3_hasAllBounds_34 : decode cX3_hasAllBounds 34 = .ok (.if_icmp .eq 16, 3) := by decide +kernel
theorem dX3_hasAllBounds_37 : decode cX3_hasAllBounds 37 = .ok (.iload_n 0, 1) := by decide +kernel
theorem dX3_hasAllBounds_38 : decode cX3_hasAllBounds 38 = .ok (.lload_n 3, 1) := by decide +kernel
theorem dX3_hasAllBounds_39 : decode cX3_hasAllBounds 39 = .ok (.iload 5, 2) := by decide +kernel
theorem dX3_hasAllBounds_41 : decode cX3_hasAllBounds 41 = .ok (.iload 6, 2) := by decide +kernel
theorem dX3_hasAllBounds_43 : decode cX3_hasAllBounds 43 = .ok (.invokestatic 41, 3) := by decide +kernel
theorem dX3_hasAllBounds_46 : decode cX3_hasAllBounds 46 = .ok (.iconst (-1), 1) := by decide +kernel
theorem dX3_hasAllBounds_47 : decode cX3_hasAllBounds 47 = .ok (.if_icmp .ne 5, 3) := by decide +kernel
theorem dX3_hasAllBounds_50 : decode cX3_hasAllBounds 50 = .ok (.iconst 0, 1) := by decide +kernel
theorem dX3_hasAllBounds_51 : decode cX3_hasAllBounds 51 = .ok (.ireturn, 1) := by decide +kernel
theorem dX3_hasAllBounds_52 : decode cX3_hasAllBounds 52 = .ok (.iinc 6 1, 3) := by decide +kernel
theorem dX3_hasAllBounds_55 : decode cX3_hasAllBounds 55 = .ok (.goto (-37), 3) := by decide +kernel
theorem dX3_hasAllBounds_58 : decode cX3_hasAllBounds 58 = .ok (.iinc 5 1, 3) := by decide +kernel
theorem dX3_hasAllBounds_61 : decode cX3_hasAllBounds 61 = .ok (.goto (-52), 3) := by decide +kernel
theorem dX3_hasAllBounds_64 : decode cX3_hasAllBounds 64 = .ok (.iconst 1, 1) := by decide +kernel
theorem dX3_hasAllBounds_65 : decode cX3_hasAllBounds 65 = .ok (.ireturn, 1) := by decide +kernel
theorem dX3_turned_0 : decode cX3_turned 0 = .ok (.lconst 0, 1) := by decide +kernel
theorem dX3_turned_1 : decode cX3_turned 1 = .ok (.lstore_n 3, 1) := by decide +kernel
theorem dX3_turned_2 : decode cX3_turned 2 = .ok (.iconst 0, 1) := by decide +kernel
theorem dX3_turned_3 : decode cX3_turned 3 = .ok (.istore 5, 2) := by decide +kernel
theorem dX3_turned_5 : decode cX3_turned 5 = .ok (.iload 5, 2) := by decide +kernel
theorem dX3_turned_7 : decode cX3_turned 7 = .ok (.iload_n 0, 1) := by decide +kernel
theorem dX3_turned_8 : decode cX3_turned 8 = .ok (.if_icmp .ge 48, 3) := by decide +kernel
theorem dX3_turned_11 : decode cX3_turned 11 = .ok (.iconst 0, 1) := by decide +kernel
theorem dX3_turned_12 : decode cX3_turned 12 = .ok (.istore 6, 2) := by decide +kernel
theorem dX3_turned_14 : decode cX3_turned 14 = .ok (.iload 6, 2) := by decide +kernel
theorem dX3_turned_16 : decode cX3_turned 16 = .ok (.iload_n 0, 1) := by decide +kernel
theorem dX3_turned_17 : decode cX3_turned 17 = .ok (.if_icmp .ge 33, 3) := by decide +kernel
theorem dX3_turned_20 : decode cX3_turned 20 = .ok (.lload_n 1, 1) := by decide +kernel
theorem dX3_turned_21 : decode cX3_turned 21 = .ok (.iload 5, 2) := by decide +kernel
theorem dX3_turned_23 : decode cX3_turned 23 = .ok (.iload 6, 2) := by decide +kernel
theorem dX3_turned_25 : decode cX3_turned 25 = .ok (.invokestatic 29, 3) := by decide +kernel
theorem dX3_turned_28 : decode cX3_turned 28 = .ok (.ifCond .eq 16, 3) := by decide +kernel
theorem dX3_turned_31 : decode cX3_turned 31 = .ok (.lload_n 3, 1) := by decide +kernel
theorem dX3_turned_32 : decode cX3_turned 32 = .ok (.lconst 1, 1) := by decide +kernel
theorem dX3_turned_33 : decode cX3_turned 33 = .ok (.bipush 6, 2) := by decide +kernel
theorem dX3_turned_35 : decode cX3_turned 35 = .ok (.iload 6, 2) := by decide +kernel
theorem dX3_turned_37 : decode cX3_turned 37 = .ok (.imul, 1) := by decide +kernel
theorem dX3_turned_38 : decode cX3_turned 38 = .ok (.iload 5, 2) := by decide +kernel
theorem dX3_turned_40 : decode cX3_turned 40 = .ok (.iadd, 1) := by decide +kernel
theorem dX3_turned_41 : decode cX3_turned 41 = .ok (.lshl, 1) := by decide +kernel
theorem dX3_turned_42 : decode cX3_turned 42 = .ok (.lor, 1) := by decide +kernel
theorem dX3_turned_43 : decode cX3_turned 43 = .ok (.lstore_n 3, 1) := by decide +kernel
theorem dX3_turned_44 : decode cX3_turned 44 = .ok (.iinc 6 1, 3) := by decide +kernel
theorem dX3_turned_47 : decode cX3_turned 47 = .ok (.goto (-33), 3) := by decide +kernel
theorem dX3_turned_50 : decode cX3_turned 50 = .ok (.iinc 5 1, 3) := by decide +kernel
theorem dX3_turned_53 : decode cX3_turned 53 = .ok (.goto (-48), 3) := by decide +kernel
theorem dX3_turned_56 : decode cX3_turned 56 = .ok (.lload_n 3, 1) := by decide +kernel
theorem dX3_turned_57 : decode cX3_turned 57 = .ok (.lreturn, 1) := by decide +kernel
theorem dX3_leastAbove_0 : decode cX3_leastAbove 0 = .ok (.iconst 0, 1) := by decide +kernel
theorem dX3_leastAbove_1 : decode cX3_leastAbove 1 = .ok (.istore 5, 2) := by decide +kernel
theorem dX3_leastAbove_3 : decode cX3_leastAbove 3 = .ok (.iload 5, 2) := by decide +kernel
theorem dX3_leastAbove_5 : decode cX3_leastAbove 5 = .ok (.iload_n 0, 1) := by decide +kernel
theorem dX3_leastAbove_6 : decode cX3_leastAbove 6 = .ok (.if_icmp .ge 37, 3) := by decide +kernel
theorem dX3_leastAbove_9 : decode cX3_leastAbove 9 = .ok (.lload_n 1, 1) := by decide +kernel
theorem dX3_leastAbove_10 : decode cX3_leastAbove 10 = .ok (.iload_n 3, 1) := by decide +kernel
theorem dX3_leastAbove_11 : decode cX3_leastAbove 11 = .ok (.iload 4, 2) := by decide +kernel
theorem dX3_leastAbove_13 : decode cX3_leastAbove 13 = .ok (.iload 5, 2) := by decide +kernel
theorem dX3_leastAbove_15 : decode cX3_leastAbove 15 = .ok (.invokestatic 45, 3) := by decide +kernel
theorem dX3_leastAbove_18 : decode cX3_leastAbove 18 = .ok (.ifCond .eq 19, 3) := by decide +kernel
theorem dX3_leastAbove_21 : decode cX3_leastAbove 21 = .ok (.iload_n 0, 1) := by decide +kernel
theorem dX3_leastAbove_22 : decode cX3_leastAbove 22 = .ok (.lload_n 1, 1) := by decide +kernel
theorem dX3_leastAbove_23 : decode cX3_leastAbove 23 = .ok (.iload_n 3, 1) := by decide +kernel
theorem dX3_leastAbove_24 : decode cX3_leastAbove 24 = .ok (.iload 4, 2) := by decide +kernel
theorem dX3_leastAbove_26 : decode cX3_leastAbove 26 = .ok (.iload 5, 2) := by decide +kernel
theorem dX3_leastAbove_28 : decode cX3_leastAbove 28 = .ok (.invokestatic 49, 3) := by decide +kernel
theorem dX3_leastAbove_31 : decode cX3_leastAbove 31 = .ok (.ifCond .eq 6, 3) := by decide +kernel
theorem dX3_leastAbove_34 : decode cX3_leastAbove 34 = .ok (.iload 5, 2) := by decide +kernel
theorem dX3_leastAbove_36 : decode cX3_leastAbove 36 = .ok (.ireturn, 1) := by decide +kernel
theorem dX3_leastAbove_37 : decode cX3_leastAbove 37 = .ok (.iinc 5 1, 3) := by decide +kernel
theorem dX3_leastAbove_40 : decode cX3_leastAbove 40 = .ok (.goto (-37), 3) := by decide +kernel
theorem dX3_leastAbove_43 : decode cX3_leastAbove 43 = .ok (.iconst (-1), 1) := by decide +kernel
theorem dX3_leastAbove_44 : decode cX3_leastAbove 44 = .ok (.ireturn, 1) := by decide +kernel
theorem dX3_isAboveBoth_0 : decode cX3_isAboveBoth 0 = .ok (.lload_n 0, 1) := by decide +kernel
theorem dX3_isAboveBoth_1 : decode cX3_isAboveBoth 1 = .ok (.iload_n 2, 1) := by decide +kernel
theorem dX3_isAboveBoth_2 : decode cX3_isAboveBoth 2 = .ok (.iload 4, 2) := by decide +kernel
theorem dX3_isAboveBoth_4 : decode cX3_isAboveBoth 4 = .ok (.invokestatic 29, 3) := by decide +kernel
theorem dX3_isAboveBoth_7 : decode cX3_isAboveBoth 7 = .ok (.ifCond .eq 17, 3) := by decide +kernel
theorem dX3_isAboveBoth_10 : decode cX3_isAboveBoth 10 = .ok (.lload_n 0, 1) := by decide +kernel
theorem dX3_isAboveBoth_11 : decode cX3_isAboveBoth 11 = .ok (.iload_n 3, 1) := by decide +kernel
theorem dX3_isAboveBoth_12 : decode cX3_isAboveBoth 12 = .ok (.iload 4, 2) := by decide +kernel
theorem dX3_isAboveBoth_14 : decode cX3_isAboveBoth 14 = .ok (.invokestatic 29, 3) := by decide +kernel
theorem dX3_isAboveBoth_17 : decode cX3_isAboveBoth 17 = .ok (.ifCond .eq 7, 3) := by decide +kernel
theorem dX3_isAboveBoth_20 : decode cX3_isAboveBoth 20 = .ok (.iconst 1, 1) := by decide +kernel
theorem dX3_isAboveBoth_21 : decode cX3_isAboveBoth 21 = .ok (.goto 4, 3) := by decide +kernel
theorem dX3_isAboveBoth_24 : decode cX3_isAboveBoth 24 = .ok (.iconst 0, 1) := by decide +kernel
theorem dX3_isAboveBoth_25 : decode cX3_isAboveBoth 25 = .ok (.ireturn, 1) := by decide +kernel
theorem dX3_isLeast_0 : decode cX3_isLeast 0 = .ok (.iconst 0, 1) := by decide +kernel
theorem dX3_isLeast_1 : decode cX3_isLeast 1 = .ok (.istore 6, 2) := by decide +kernel
theorem dX3_isLeast_3 : decode cX3_isLeast 3 = .ok (.iload 6, 2) := by decide +kernel
theorem dX3_isLeast_5 : decode cX3_isLeast 5 = .ok (.iload_n 0, 1) := by decide +kernel
theorem dX3_isLeast_6 : decode cX3_isLeast 6 = .ok (.if_icmp .ge 34, 3) := by decide +kernel
theorem dX3_isLeast_9 : decode cX3_isLeast 9 = .ok (.lload_n 1, 1) := by decide +kernel
theorem dX3_isLeast_10 : decode cX3_isLeast 10 = .ok (.iload_n 3, 1) := by decide +kernel
theorem dX3_isLeast_11 : decode cX3_isLeast 11 = .ok (.iload 4, 2) := by decide +kernel
theorem dX3_isLeast_13 : decode cX3_isLeast 13 = .ok (.iload 6, 2) := by decide +kernel
theorem dX3_isLeast_15 : decode cX3_isLeast 15 = .ok (.invokestatic 45, 3) := by decide +kernel
theorem dX3_isLeast_18 : decode cX3_isLeast 18 = .ok (.ifCond .eq 16, 3) := by decide +kernel
theorem dX3_isLeast_21 : decode cX3_isLeast 21 = .ok (.lload_n 1, 1) := by decide +kernel
theorem dX3_isLeast_22 : decode cX3_isLeast 22 = .ok (.iload 5, 2) := by decide +kernel
theorem dX3_isLeast_24 : decode cX3_isLeast 24 = .ok (.iload 6, 2) := by decide +kernel
theorem dX3_isLeast_26 : decode cX3_isLeast 26 = .ok (.invokestatic 29, 3) := by decide +kernel
theorem dX3_isLeast_29 : decode cX3_isLeast 29 = .ok (.ifCond .ne 5, 3) := by decide +kernel
theorem dX3_isLeast_32 : decode cX3_isLeast 32 = .ok (.iconst 0, 1) := by decide +kernel
theorem dX3_isLeast_33 : decode cX3_isLeast 33 = .ok (.ireturn, 1) := by decide +kernel
theorem dX3_isLeast_34 : decode cX3_isLeast 34 = .ok (.iinc 6 1, 3) := by decide +kernel
theorem dX3_isLeast_37 : decode cX3_isLeast 37 = .ok (.goto (-34), 3) := by decide +kernel
theorem dX3_isLeast_40 : decode cX3_isLeast 40 = .ok (.iconst 1, 1) := by decide +kernel
theorem dX3_isLeast_41 : decode cX3_isLeast 41 = .ok (.ireturn, 1) := by decide +kernel
theorem dX3_become_0 : decode cX3_become 0 = .ok (.aload_n 0, 1) := by decide +kernel
theorem dX3_become_1 : decode cX3_become 1 = .ok (.iload_n 1, 1) := by decide +kernel
theorem dX3_become_2 : decode cX3_become 2 = .ok (.putfield 15, 3) := by decide +kernel
theorem dX3_become_5 : decode cX3_become 5 = .ok (.aload_n 0, 1) := by decide +kernel
theorem dX3_become_6 : decode cX3_become 6 = .ok (.lload_n 2, 1) := by decide +kernel
theorem dX3_become_7 : decode cX3_become 7 = .ok (.putfield 19, 3) := by decide +kernel
theorem dX3_become_10 : decode cX3_become 10 = .ok (.aload_n 0, 1) := by decide +kernel
theorem dX3_become_11 : decode cX3_become 11 = .ok (.iconst 0, 1) := by decide +kernel
theorem dX3_become_12 : decode cX3_become 12 = .ok (.putfield 23, 3) := by decide +kernel
theorem dX3_become_15 : decode cX3_become 15 = .ok (.aload_n 0, 1) := by decide +kernel
theorem dX3_become_16 : decode cX3_become 16 = .ok (.iconst 0, 1) := by decide +kernel
theorem dX3_become_17 : decode cX3_become 17 = .ok (.putfield 26, 3) := by decide +kernel
theorem dX3_become_20 : decode cX3_become 20 = .ok (.iconst 0, 1) := by decide +kernel
theorem dX3_become_21 : decode cX3_become 21 = .ok (.istore 4, 2) := by decide +kernel
theorem dX3_become_23 : decode cX3_become 23 = .ok (.iload 4, 2) := by decide +kernel
theorem dX3_become_25 : decode cX3_become 25 = .ok (.iload_n 1, 1) := by decide +kernel
theorem dX3_become_26 : decode cX3_become 26 = .ok (.if_icmp .ge 98, 3) := by decide +kernel
theorem dX3_become_29 : decode cX3_become 29 = .ok (.iconst 0, 1) := by decide +kernel
theorem dX3_become_30 : decode cX3_become 30 = .ok (.istore 5, 2) := by decide +kernel
theorem dX3_become_32 : decode cX3_become 32 = .ok (.iload 5, 2) := by decide +kernel
theorem dX3_become_34 : decode cX3_become 34 = .ok (.iload_n 1, 1) := by decide +kernel
theorem dX3_become_35 : decode cX3_become 35 = .ok (.if_icmp .ge 31, 3) := by decide +kernel
theorem dX3_become_38 : decode cX3_become 38 = .ok (.aload_n 0, 1) := by decide +kernel
theorem dX3_become_39 : decode cX3_become 39 = .ok (.getfield 9, 3) := by decide +kernel
theorem dX3_become_42 : decode cX3_become 42 = .ok (.bipush 6, 2) := by decide +kernel
theorem dX3_become_44 : decode cX3_become 44 = .ok (.iload 4, 2) := by decide +kernel
theorem dX3_become_46 : decode cX3_become 46 = .ok (.imul, 1) := by decide +kernel
theorem dX3_become_47 : decode cX3_become 47 = .ok (.iload 5, 2) := by decide +kernel
theorem dX3_become_49 : decode cX3_become 49 = .ok (.iadd, 1) := by decide +kernel
theorem dX3_become_50 : decode cX3_become 50 = .ok (.iload_n 1, 1) := by decide +kernel
theorem dX3_become_51 : decode cX3_become 51 = .ok (.lload_n 2, 1) := by decide +kernel
theorem dX3_become_52 : decode cX3_become 52 = .ok (.iload 4, 2) := by decide +kernel
theorem dX3_become_54 : decode cX3_become 54 = .ok (.iload 5, 2) := by decide +kernel
theorem dX3_become_56 : decode cX3_become 56 = .ok (.invokestatic 41, 3) := by decide +kernel
theorem dX3_become_59 : decode cX3_become 59 = .ok (.iastore, 1) := by decide +kernel
theorem dX3_become_60 : decode cX3_become 60 = .ok (.iinc 5 1, 3) := by decide +kernel
theorem dX3_become_63 : decode cX3_become 63 = .ok (.goto (-31), 3) := by decide +kernel
theorem dX3_become_66 : decode cX3_become 66 = .ok (.aload_n 0, 1) := by decide +kernel
theorem dX3_become_67 : decode cX3_become 67 = .ok (.lload_n 2, 1) := by decide +kernel
theorem dX3_become_68 : decode cX3_become 68 = .ok (.iload 4, 2) := by decide +kernel
theorem dX3_become_70 : decode cX3_become 70 = .ok (.aload_n 0, 1) := by decide +kernel
theorem dX3_become_71 : decode cX3_become 71 = .ok (.getfield 23, 3) := by decide +kernel
theorem dX3_become_74 : decode cX3_become 74 = .ok (.invokestatic 29, 3) := by decide +kernel
theorem dX3_become_77 : decode cX3_become 77 = .ok (.ifCond .eq 8, 3) := by decide +kernel
theorem dX3_become_80 : decode cX3_become 80 = .ok (.iload 4, 2) := by decide +kernel
theorem dX3_become_82 : decode cX3_become 82 = .ok (.goto 7, 3) := by decide +kernel
theorem dX3_become_85 : decode cX3_become 85 = .ok (.aload_n 0, 1) := by decide +kernel
theorem dX3_become_86 : decode cX3_become 86 = .ok (.getfield 23, 3) := by decide +kernel
theorem dX3_become_89 : decode cX3_become 89 = .ok (.putfield 23, 3) := by decide +kernel
theorem dX3_become_92 : decode cX3_become 92 = .ok (.aload_n 0, 1) := by decide +kernel
theorem dX3_become_93 : decode cX3_become 93 = .ok (.lload_n 2, 1) := by decide +kernel
theorem dX3_become_94 : decode cX3_become 94 = .ok (.aload_n 0, 1) := by decide +kernel
theorem dX3_become_95 : decode cX3_become 95 = .ok (.getfield 26, 3) := by decide +kernel
theorem dX3_become_98 : decode cX3_become 98 = .ok (.iload 4, 2) := by decide +kernel
theorem dX3_become_100 : decode cX3_become 100 = .ok (.invokestatic 29, 3) := by decide +kernel
theorem dX3_become_103 : decode cX3_become 103 = .ok (.ifCond .eq 8, 3) := by decide +kernel
theorem dX3_become_106 : decode cX3_become 106 = .ok (.iload 4, 2) := by decide +kernel
theorem dX3_become_108 : decode cX3_become 108 = .ok (.goto 7, 3) := by decide +kernel
theorem dX3_become_111 : decode cX3_become 111 = .ok (.aload_n 0, 1) := by decide +kernel
theorem dX3_become_112 : decode cX3_become 112 = .ok (.getfield 26, 3) := by decide +kernel
theorem dX3_become_115 : decode cX3_become 115 = .ok (.putfield 26, 3) := by decide +kernel
theorem dX3_become_118 : decode cX3_become 118 = .ok (.iinc 4 1, 3) := by decide +kernel
theorem dX3_become_121 : decode cX3_become 121 = .ok (.goto (-98), 3) := by decide +kernel
theorem dX3_become_124 : decode cX3_become 124 = .ok (.return_, 1) := by decide +kernel
theorem dX3_has_0 : decode cX3_has 0 = .ok (.iload_n 1, 1) := by decide +kernel
theorem dX3_has_1 : decode cX3_has 1 = .ok (.ifCond .lt 15, 3) := by decide +kernel
theorem dX3_has_4 : decode cX3_has 4 = .ok (.iload_n 1, 1) := by decide +kernel
theorem dX3_has_5 : decode cX3_has 5 = .ok (.aload_n 0, 1) := by decide +kernel
theorem dX3_has_6 : decode cX3_has 6 = .ok (.getfield 15, 3) := by decide +kernel
theorem dX3_has_9 : decode cX3_has 9 = .ok (.if_icmp .ge 7, 3) := by decide +kernel
theorem dX3_has_12 : decode cX3_has 12 = .ok (.iconst 1, 1) := by decide +kernel
theorem dX3_has_13 : decode cX3_has 13 = .ok (.goto 4, 3) := by decide +kernel
theorem dX3_has_16 : decode cX3_has 16 = .ok (.iconst 0, 1) := by decide +kernel
theorem dX3_has_17 : decode cX3_has 17 = .ok (.ireturn, 1) := by decide +kernel
theorem dX3_bottom_0 : decode cX3_bottom 0 = .ok (.aload_n 0, 1) := by decide +kernel
theorem dX3_bottom_1 : decode cX3_bottom 1 = .ok (.getfield 23, 3) := by decide +kernel
theorem dX3_bottom_4 : decode cX3_bottom 4 = .ok (.ireturn, 1) := by decide +kernel
theorem dX3_top_0 : decode cX3_top 0 = .ok (.aload_n 0, 1) := by decide +kernel
theorem dX3_top_1 : decode cX3_top 1 = .ok (.getfield 26, 3) := by decide +kernel
theorem dX3_top_4 : decode cX3_top 4 = .ok (.ireturn, 1) := by decide +kernel
theorem dX3_allows_0 : decode cX3_allows 0 = .ok (.aload_n 0, 1) := by decide +kernel
theorem dX3_allows_1 : decode cX3_allows 1 = .ok (.iload_n 1, 1) := by decide +kernel
theorem dX3_allows_2 : decode cX3_allows 2 = .ok (.invokevirtual 53, 3) := by decide +kernel
theorem dX3_allows_5 : decode cX3_allows 5 = .ok (.ifCond .eq 27, 3) := by decide +kernel
theorem dX3_allows_8 : decode cX3_allows 8 = .ok (.aload_n 0, 1) := by decide +kernel
theorem dX3_allows_9 : decode cX3_allows 9 = .ok (.iload_n 2, 1) := by decide +kernel
theorem dX3_allows_10 : decode cX3_allows 10 = .ok (.invokevirtual 53, 3) := by decide +kernel
theorem dX3_allows_13 : decode cX3_allows 13 = .ok (.ifCond .eq 19, 3) := by decide +kernel
theorem dX3_allows_16 : decode cX3_allows 16 = .ok (.aload_n 0, 1) := by decide +kernel
theorem dX3_allows_17 : decode cX3_allows 17 = .ok (.getfield 19, 3) := by decide +kernel
theorem dX3_allows_20 : decode cX3_allows 20 = .ok (.iload_n 1, 1) := by decide +kernel
theorem dX3_allows_21 : decode cX3_allows 21 = .ok (.iload_n 2, 1) := by decide +kernel
theorem dX3_allows_22 : decode cX3_allows 22 = .ok (.invokestatic 29, 3) := by decide +kernel
theorem dX3_allows_25 : decode cX3_allows 25 = .ok (.ifCond .eq 7, 3) := by decide +kernel
theorem dX3_allows_28 : decode cX3_allows 28 = .ok (.iconst 1, 1) := by decide +kernel
theorem dX3_allows_29 : decode cX3_allows 29 = .ok (.goto 4, 3) := by decide +kernel
theorem dX3_allows_32 : decode cX3_allows 32 = .ok (.iconst 0, 1) := by decide +kernel
theorem dX3_allows_33 : decode cX3_allows 33 = .ok (.ireturn, 1) := by decide +kernel
theorem dX3_joined_0 : decode cX3_joined 0 = .ok (.aload_n 0, 1) := by decide +kernel
theorem dX3_joined_1 : decode cX3_joined 1 = .ok (.iload_n 1, 1) := by decide +kernel
theorem dX3_joined_2 : decode cX3_joined 2 = .ok (.invokevirtual 53, 3) := by decide +kernel

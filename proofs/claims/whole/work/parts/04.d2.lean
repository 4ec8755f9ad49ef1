theorem dX3_joined_5 : decode cX3_joined 5 = .ok (.ifCond .eq 25, 3) := by decide +kernel
theorem dX3_joined_8 : decode cX3_joined 8 = .ok (.aload_n 0, 1) := by decide +kernel
theorem dX3_joined_9 : decode cX3_joined 9 = .ok (.iload_n 2, 1) := by decide +kernel
theorem dX3_joined_10 : decode cX3_joined 10 = .ok (.invokevirtual 53, 3) := by decide +kernel
theorem dX3_joined_13 : decode cX3_joined 13 = .ok (.ifCond .eq 17, 3) := by decide +kernel
theorem dX3_joined_16 : decode cX3_joined 16 = .ok (.aload_n 0, 1) := by decide +kernel
theorem dX3_joined_17 : decode cX3_joined 17 = .ok (.getfield 9, 3) := by decide +kernel
theorem dX3_joined_20 : decode cX3_joined 20 = .ok (.bipush 6, 2) := by decide +kernel
theorem dX3_joined_22 : decode cX3_joined 22 = .ok (.iload_n 1, 1) := by decide +kernel
theorem dX3_joined_23 : decode cX3_joined 23 = .ok (.imul, 1) := by decide +kernel
theorem dX3_joined_24 : decode cX3_joined 24 = .ok (.iload_n 2, 1) := by decide +kernel
theorem dX3_joined_25 : decode cX3_joined 25 = .ok (.iadd, 1) := by decide +kernel
theorem dX3_joined_26 : decode cX3_joined 26 = .ok (.iaload, 1) := by decide +kernel
theorem dX3_joined_27 : decode cX3_joined 27 = .ok (.goto 4, 3) := by decide +kernel
theorem dX3_joined_30 : decode cX3_joined 30 = .ok (.iconst (-1), 1) := by decide +kernel
theorem dX3_joined_31 : decode cX3_joined 31 = .ok (.ireturn, 1) := by decide +kernel
theorem dX4_init_0 : decode cX4_init 0 = .ok (.aload_n 0, 1) := by decide +kernel
theorem dX4_init_1 : decode cX4_init 1 = .ok (.invokespecial 3, 3) := by decide +kernel
theorem dX4_init_4 : decode cX4_init 4 = .ok (.aload_n 0, 1) := by decide +kernel
theorem dX4_init_5 : decode cX4_init 5 = .ok (.bipush 8, 2) := by decide +kernel
theorem dX4_init_7 : decode cX4_init 7 = .ok (.newarray .int, 2) := by decide +kernel
theorem dX4_init_9 : decode cX4_init 9 = .ok (.putfield 9, 3) := by decide +kernel
theorem dX4_init_12 : decode cX4_init 12 = .ok (.aload_n 0, 1) := by decide +kernel
theorem dX4_init_13 : decode cX4_init 13 = .ok (.bipush 8, 2) := by decide +kernel
theorem dX4_init_15 : decode cX4_init 15 = .ok (.newarray .int, 2) := by decide +kernel
theorem dX4_init_17 : decode cX4_init 17 = .ok (.putfield 15, 3) := by decide +kernel
theorem dX4_init_20 : decode cX4_init 20 = .ok (.aload_n 0, 1) := by decide +kernel
theorem dX4_init_21 : decode cX4_init 21 = .ok (.iconst 0, 1) := by decide +kernel
theorem dX4_init_22 : decode cX4_init 22 = .ok (.putfield 18, 3) := by decide +kernel
theorem dX4_init_25 : decode cX4_init 25 = .ok (.aload_n 0, 1) := by decide +kernel
theorem dX4_init_26 : decode cX4_init 26 = .ok (.aload_n 1, 1) := by decide +kernel
theorem dX4_init_27 : decode cX4_init 27 = .ok (.putfield 22, 3) := by decide +kernel
theorem dX4_init_30 : decode cX4_init 30 = .ok (.return_, 1) := by decide +kernel
theorem dX4_execute_0 : decode cX4_execute 0 = .ok (.aload_n 1, 1) := by decide +kernel
theorem dX4_execute_1 : decode cX4_execute 1 = .ok (.iconst 0, 1) := by decide +kernel
theorem dX4_execute_2 : decode cX4_execute 2 = .ok (.aload_n 0, 1) := by decide +kernel
theorem dX4_execute_3 : decode cX4_execute 3 = .ok (.getfield 9, 3) := by decide +kernel
theorem dX4_execute_6 : decode cX4_execute 6 = .ok (.iconst 0, 1) := by decide +kernel
theorem dX4_execute_7 : decode cX4_execute 7 = .ok (.bipush 8, 2) := by decide +kernel
theorem dX4_execute_9 : decode cX4_execute 9 = .ok (.invokestatic 26, 3) := by decide +kernel
theorem dX4_execute_12 : decode cX4_execute 12 = .ok (.aload_n 0, 1) := by decide +kernel
theorem dX4_execute_13 : decode cX4_execute 13 = .ok (.iconst 0, 1) := by decide +kernel
theorem dX4_execute_14 : decode cX4_execute 14 = .ok (.putfield 18, 3) := by decide +kernel
theorem dX4_execute_17 : decode cX4_execute 17 = .ok (.iconst 0, 1) := by decide +kernel
theorem dX4_execute_18 : decode cX4_execute 18 = .ok (.istore_n 3, 1) := by decide +kernel
theorem dX4_execute_19 : decode cX4_execute 19 = .ok (.iconst 1, 1) := by decide +kernel
theorem dX4_execute_20 : decode cX4_execute 20 = .ok (.istore 4, 2) := by decide +kernel
theorem dX4_execute_22 : decode cX4_execute 22 = .ok (.iload 4, 2) := by decide +kernel
theorem dX4_execute_24 : decode cX4_execute 24 = .ok (.iload_n 2, 1) := by decide +kernel
theorem dX4_execute_25 : decode cX4_execute 25 = .ok (.if_icmp .gt 43, 3) := by decide +kernel
theorem dX4_execute_28 : decode cX4_execute 28 = .ok (.aload_n 0, 1) := by decide +kernel
theorem dX4_execute_29 : decode cX4_execute 29 = .ok (.getfield 22, 3) := by decide +kernel
theorem dX4_execute_32 : decode cX4_execute 32 = .ok (.iload_n 3, 1) := by decide +kernel
theorem dX4_execute_33 : decode cX4_execute 33 = .ok (.invokevirtual 32, 3) := by decide +kernel
theorem dX4_execute_36 : decode cX4_execute 36 = .ok (.bipush 9, 2) := by decide +kernel
theorem dX4_execute_38 : decode cX4_execute 38 = .ok (.if_icmp .ne 18, 3) := by decide +kernel
theorem dX4_execute_41 : decode cX4_execute 41 = .ok (.aload_n 0, 1) := by decide +kernel
theorem dX4_execute_42 : decode cX4_execute 42 = .ok (.getfield 9, 3) := by decide +kernel
theorem dX4_execute_45 : decode cX4_execute 45 = .ok (.iconst 0, 1) := by decide +kernel
theorem dX4_execute_46 : decode cX4_execute 46 = .ok (.aload_n 1, 1) := by decide +kernel
theorem dX4_execute_47 : decode cX4_execute 47 = .ok (.iconst 0, 1) := by decide +kernel
theorem dX4_execute_48 : decode cX4_execute 48 = .ok (.bipush 8, 2) := by decide +kernel
theorem dX4_execute_50 : decode cX4_execute 50 = .ok (.invokestatic 26, 3) := by decide +kernel
theorem dX4_execute_53 : decode cX4_execute 53 = .ok (.iload 4, 2) := by decide +kernel
theorem dX4_execute_55 : decode cX4_execute 55 = .ok (.ireturn, 1) := by decide +kernel
theorem dX4_execute_56 : decode cX4_execute 56 = .ok (.aload_n 0, 1) := by decide +kernel
theorem dX4_execute_57 : decode cX4_execute 57 = .ok (.iload_n 3, 1) := by decide +kernel
theorem dX4_execute_58 : decode cX4_execute 58 = .ok (.invokevirtual 38, 3) := by decide +kernel
theorem dX4_execute_61 : decode cX4_execute 61 = .ok (.istore_n 3, 1) := by decide +kernel
theorem dX4_execute_62 : decode cX4_execute 62 = .ok (.iinc 4 1, 3) := by decide +kernel
theorem dX4_execute_65 : decode cX4_execute 65 = .ok (.goto (-43), 3) := by decide +kernel
theorem dX4_execute_68 : decode cX4_execute 68 = .ok (.iconst (-1), 1) := by decide +kernel
theorem dX4_execute_69 : decode cX4_execute 69 = .ok (.ireturn, 1) := by decide +kernel
theorem dX4_step_0 : decode cX4_step 0 = .ok (.aload_n 0, 1) := by decide +kernel
theorem dX4_step_1 : decode cX4_step 1 = .ok (.getfield 22, 3) := by decide +kernel
theorem dX4_step_4 : decode cX4_step 4 = .ok (.iload_n 1, 1) := by decide +kernel
theorem dX4_step_5 : decode cX4_step 5 = .ok (.invokevirtual 32, 3) := by decide +kernel
theorem dX4_step_8 : decode cX4_step 8 = .ok (.istore_n 2, 1) := by decide +kernel
theorem dX4_step_9 : decode cX4_step 9 = .ok (.aload_n 0, 1) := by decide +kernel
theorem dX4_step_10 : decode cX4_step 10 = .ok (.getfield 22, 3) := by decide +kernel
theorem dX4_step_13 : decode cX4_step 13 = .ok (.iload_n 1, 1) := by decide +kernel
theorem dX4_step_14 : decode cX4_step 14 = .ok (.invokevirtual 41, 3) := by decide +kernel
theorem dX4_step_17 : decode cX4_step 17 = .ok (.istore_n 3, 1) := by decide +kernel
theorem dX4_step_18 : decode cX4_step 18 = .ok (.iload_n 2, 1) := by decide +kernel
theorem dX4_step_19 : decode cX4_step 19 = .ok (.ifCond .ne 11, 3) := by decide +kernel
theorem dX4_step_22 : decode cX4_step 22 = .ok (.aload_n 0, 1) := by decide +kernel
theorem dX4_step_23 : decode cX4_step 23 = .ok (.iload_n 3, 1) := by decide +kernel
theorem dX4_step_24 : decode cX4_step 24 = .ok (.invokevirtual 44, 3) := by decide +kernel
theorem dX4_step_27 : decode cX4_step 27 = .ok (.goto 114, 3) := by decide +kernel
theorem dX4_step_30 : decode cX4_step 30 = .ok (.iload_n 2, 1) := by decide +kernel
theorem dX4_step_31 : decode cX4_step 31 = .ok (.iconst 1, 1) := by decide +kernel
theorem dX4_step_32 : decode cX4_step 32 = .ok (.if_icmp .ne 23, 3) := by decide +kernel
theorem dX4_step_35 : decode cX4_step 35 = .ok (.iload_n 3, 1) := by decide +kernel
theorem dX4_step_36 : decode cX4_step 36 = .ok (.invokestatic 48, 3) := by decide +kernel
theorem dX4_step_39 : decode cX4_step 39 = .ok (.ifCond .eq 16, 3) := by decide +kernel
theorem dX4_step_42 : decode cX4_step 42 = .ok (.aload_n 0, 1) := by decide +kernel
theorem dX4_step_43 : decode cX4_step 43 = .ok (.aload_n 0, 1) := by decide +kernel
theorem dX4_step_44 : decode cX4_step 44 = .ok (.getfield 9, 3) := by decide +kernel
theorem dX4_step_47 : decode cX4_step 47 = .ok (.iload_n 3, 1) := by decide +kernel
theorem dX4_step_48 : decode cX4_step 48 = .ok (.iaload, 1) := by decide +kernel
theorem dX4_step_49 : decode cX4_step 49 = .ok (.invokevirtual 44, 3) := by decide +kernel
theorem dX4_step_52 : decode cX4_step 52 = .ok (.goto 89, 3) := by decide +kernel
theorem dX4_step_55 : decode cX4_step 55 = .ok (.iload_n 2, 1) := by decide +kernel
theorem dX4_step_56 : decode cX4_step 56 = .ok (.iconst 2, 1) := by decide +kernel
theorem dX4_step_57 : decode cX4_step 57 = .ok (.if_icmp .ne 23, 3) := by decide +kernel
theorem dX4_step_60 : decode cX4_step 60 = .ok (.iload_n 3, 1) := by decide +kernel
theorem dX4_step_61 : decode cX4_step 61 = .ok (.invokestatic 48, 3) := by decide +kernel
theorem dX4_step_64 : decode cX4_step 64 = .ok (.ifCond .eq 16, 3) := by decide +kernel
theorem dX4_step_67 : decode cX4_step 67 = .ok (.aload_n 0, 1) := by decide +kernel
theorem dX4_step_68 : decode cX4_step 68 = .ok (.getfield 9, 3) := by decide +kernel
theorem dX4_step_71 : decode cX4_step 71 = .ok (.iload_n 3, 1) := by decide +kernel
theorem dX4_step_72 : decode cX4_step 72 = .ok (.aload_n 0, 1) := by decide +kernel
theorem dX4_step_73 : decode cX4_step 73 = .ok (.invokevirtual 52, 3) := by decide +kernel
theorem dX4_step_76 : decode cX4_step 76 = .ok (.iastore, 1) := by decide +kernel
theorem dX4_step_77 : decode cX4_step 77 = .ok (.goto 64, 3) := by decide +kernel
theorem dX4_step_80 : decode cX4_step 80 = .ok (.iload_n 2, 1) := by decide +kernel
theorem dX4_step_81 : decode cX4_step 81 = .ok (.invokestatic 56, 3) := by decide +kernel
theorem dX4_step_84 : decode cX4_step 84 = .ok (.ifCond .eq 30, 3) := by decide +kernel
theorem dX4_step_87 : decode cX4_step 87 = .ok (.aload_n 0, 1) := by decide +kernel
theorem dX4_step_88 : decode cX4_step 88 = .ok (.invokevirtual 52, 3) := by decide +kernel
theorem dX4_step_91 : decode cX4_step 91 = .ok (.istore 4, 2) := by decide +kernel
theorem dX4_step_93 : decode cX4_step 93 = .ok (.aload_n 0, 1) := by decide +kernel
theorem dX4_step_94 : decode cX4_step 94 = .ok (.invokevirtual 52, 3) := by decide +kernel
theorem dX4_step_97 : decode cX4_step 97 = .ok (.istore 5, 2) := by decide +kernel
theorem dX4_step_99 : decode cX4_step 99 = .ok (.aload_n 0, 1) := by decide +kernel
theorem dX4_step_100 : decode cX4_step 100 = .ok (.iload_n 2, 1) := by decide +kernel
theorem dX4_step_101 : decode cX4_step 101 = .ok (.iload 5, 2) := by decide +kernel
theorem dX4_step_103 : decode cX4_step 103 = .ok (.iload 4, 2) := by decide +kernel
theorem dX4_step_105 : decode cX4_step 105 = .ok (.invokestatic 59, 3) := by decide +kernel
theorem dX4_step_108 : decode cX4_step 108 = .ok (.invokevirtual 44, 3) := by decide +kernel
theorem dX4_step_111 : decode cX4_step 111 = .ok (.goto 30, 3) := by decide +kernel
theorem dX4_step_114 : decode cX4_step 114 = .ok (.iload_n 2, 1) := by decide +kernel
theorem dX4_step_115 : decode cX4_step 115 = .ok (.bipush 7, 2) := by decide +kernel
theorem dX4_step_117 : decode cX4_step 117 = .ok (.if_icmp .ne 24, 3) := by decide +kernel
theorem dX4_step_120 : decode cX4_step 120 = .ok (.aload_n 0, 1) := by decide +kernel
theorem dX4_step_121 : decode cX4_step 121 = .ok (.getfield 22, 3) := by decide +kernel
theorem dX4_step_124 : decode cX4_step 124 = .ok (.iload_n 1, 1) := by decide +kernel
theorem dX4_step_125 : decode cX4_step 125 = .ok (.aload_n 0, 1) := by decide +kernel
theorem dX4_step_126 : decode cX4_step 126 = .ok (.invokevirtual 52, 3) := by decide +kernel
theorem dX4_step_129 : decode cX4_step 129 = .ok (.ifCond .ne 7, 3) := by decide +kernel
theorem dX4_step_132 : decode cX4_step 132 = .ok (.iconst 1, 1) := by decide +kernel
theorem dX4_step_133 : decode cX4_step 133 = .ok (.goto 4, 3) := by decide +kernel
theorem dX4_step_136 : decode cX4_step 136 = .ok (.iconst 0, 1) := by decide +kernel
theorem dX4_step_137 : decode cX4_step 137 = .ok (.invokevirtual 63, 3) := by decide +kernel
theorem dX4_step_140 : decode cX4_step 140 = .ok (.ireturn, 1) := by decide +kernel
theorem dX4_step_141 : decode cX4_step 141 = .ok (.aload_n 0, 1) := by decide +kernel
theorem dX4_step_142 : decode cX4_step 142 = .ok (.getfield 22, 3) := by decide +kernel
theorem dX4_step_145 : decode cX4_step 145 = .ok (.iload_n 1, 1) := by decide +kernel
theorem dX4_step_146 : decode cX4_step 146 = .ok (.iconst 0, 1) := by decide +kernel
theorem dX4_step_147 : decode cX4_step 147 = .ok (.invokevirtual 63, 3) := by decide +kernel
theorem dX4_step_150 : decode cX4_step 150 = .ok (.ireturn, 1) := by decide +kernel
theorem dX4_push_0 : decode cX4_push 0 = .ok (.aload_n 0, 1) := by decide +kernel
theorem dX4_push_1 : decode cX4_push 1 = .ok (.getfield 18, 3) := by decide +kernel
theorem dX4_push_4 : decode cX4_push 4 = .ok (.bipush 8, 2) := by decide +kernel
theorem dX4_push_6 : decode cX4_push 6 = .ok (.if_icmp .ge 23, 3) := by decide +kernel
theorem dX4_push_9 : decode cX4_push 9 = .ok (.aload_n 0, 1) := by decide +kernel
theorem dX4_push_10 : decode cX4_push 10 = .ok (.getfield 15, 3) := by decide +kernel
theorem dX4_push_13 : decode cX4_push 13 = .ok (.aload_n 0, 1) := by decide +kernel
theorem dX4_push_14 : decode cX4_push 14 = .ok (.getfield 18, 3) := by decide +kernel
theorem dX4_push_17 : decode cX4_push 17 = .ok (.iload_n 1, 1) := by decide +kernel
theorem dX4_push_18 : decode cX4_push 18 = .ok (.iastore, 1) := by decide +kernel
theorem dX4_push_19 : decode cX4_push 19 = .ok (.aload_n 0, 1) := by decide +kernel
theorem dX4_push_20 : decode cX4_push 20 = .ok (.dup, 1) := by decide +kernel
theorem dX4_push_21 : decode cX4_push 21 = .ok (.getfield 18, 3) := by decide +kernel
theorem dX4_push_24 : decode cX4_push 24 = .ok (.iconst 1, 1) := by decide +kernel
theorem dX4_push_25 : decode cX4_push 25 = .ok (.iadd, 1) := by decide +kernel
theorem dX4_push_26 : decode cX4_push 26 = .ok (.putfield 18, 3) := by decide +kernel
theorem dX4_push_29 : decode cX4_push 29 = .ok (.return_, 1) := by decide +kernel
theorem dX4_pop_0 : decode cX4_pop 0 = .ok (.aload_n 0, 1) := by decide +kernel
theorem dX4_pop_1 : decode cX4_pop 1 = .ok (.getfield 18, 3) := by decide +kernel
theorem dX4_pop_4 : decode cX4_pop 4 = .ok (.ifCond .gt 5, 3) := by decide +kernel
theorem dX4_pop_7 : decode cX4_pop 7 = .ok (.iconst 0, 1) := by decide +kernel
theorem dX4_pop_8 : decode cX4_pop 8 = .ok (.ireturn, 1) := by decide +kernel
theorem dX4_pop_9 : decode cX4_pop 9 = .ok (.aload_n 0, 1) := by decide +kernel
theorem dX4_pop_10 : decode cX4_pop 10 = .ok (.dup, 1) := by decide +kernel
theorem dX4_pop_11 : decode cX4_pop 11 = .ok (.getfield 18, 3) := by decide +kernel
theorem dX4_pop_14 : decode cX4_pop 14 = .ok (.iconst 1, 1) := by decide +kernel
theorem dX4_pop_15 : decode cX4_pop 15 = .ok (.isub, 1) := by decide +kernel
theorem dX4_pop_16 : decode cX4_pop 16 = .ok (.putfield 18, 3) := by decide +kernel
theorem dX4_pop_19 : decode cX4_pop 19 = .ok (.aload_n 0, 1) := by decide +kernel
theorem dX4_pop_20 : decode cX4_pop 20 = .ok (.getfield 15, 3) := by decide +kernel
theorem dX4_pop_23 : decode cX4_pop 23 = .ok (.aload_n 0, 1) := by decide +kernel
theorem dX4_pop_24 : decode cX4_pop 24 = .ok (.getfield 18, 3) := by decide +kernel
theorem dX4_pop_27 : decode cX4_pop 27 = .ok (.iaload, 1) := by decide +kernel
theorem dX4_pop_28 : decode cX4_pop 28 = .ok (.ireturn, 1) := by decide +kernel
theorem dX5_init_0 : decode cX5_init 0 = .ok (.aload_n 0, 1) := by decide +kernel
theorem dX5_init_1 : decode cX5_init 1 = .ok (.invokespecial 3, 3) := by decide +kernel
theorem dX5_init_4 : decode cX5_init 4 = .ok (.aload_n 0, 1) := by decide +kernel
theorem dX5_init_5 : decode cX5_init 5 = .ok (.bipush 100, 2) := by decide +kernel
theorem dX5_init_7 : decode cX5_init 7 = .ok (.newarray .long, 2) := by decide +kernel
theorem dX5_init_9 : decode cX5_init 9 = .ok (.putfield 9, 3) := by decide +kernel
theorem dX5_init_12 : decode cX5_init 12 = .ok (.aload_n 0, 1) := by decide +kernel
theorem dX5_init_13 : decode cX5_init 13 = .ok (.bipush 100, 2) := by decide +kernel
theorem dX5_init_15 : decode cX5_init 15 = .ok (.newarray .long, 2) := by decide +kernel
theorem dX5_init_17 : decode cX5_init 17 = .ok (.putfield 15, 3) := by decide +kernel
theorem dX5_init_20 : decode cX5_init 20 = .ok (.return_, 1) := by decide +kernel
theorem dX5_lowBit_0 : decode cX5_lowBit 0 = .ok (.iload_n 0, 1) := by decide +kernel
theorem dX5_lowBit_1 : decode cX5_lowBit 1 = .ok (.bipush 64, 2) := by decide +kernel
theorem dX5_lowBit_3 : decode cX5_lowBit 3 = .ok (.if_icmp .ge 9, 3) := by decide +kernel
theorem dX5_lowBit_6 : decode cX5_lowBit 6 = .ok (.lconst 1, 1) := by decide +kernel
theorem dX5_lowBit_7 : decode cX5_lowBit 7 = .ok (.iload_n 0, 1) := by decide +kernel
theorem dX5_lowBit_8 : decode cX5_lowBit 8 = .ok (.lshl, 1) := by decide +kernel
theorem dX5_lowBit_9 : decode cX5_lowBit 9 = .ok (.goto 4, 3) := by decide +kernel
theorem dX5_lowBit_12 : decode cX5_lowBit 12 = .ok (.lconst 0, 1) := by decide +kernel
theorem dX5_lowBit_13 : decode cX5_lowBit 13 = .ok (.lreturn, 1) := by decide +kernel
theorem dX5_highBit_0 : decode cX5_highBit 0 = .ok (.iload_n 0, 1) := by decide +kernel
theorem dX5_highBit_1 : decode cX5_highBit 1 = .ok (.bipush 64, 2) := by decide +kernel
theorem dX5_highBit_3 : decode cX5_highBit 3 = .ok (.if_icmp .ge 7, 3) := by decide +kernel
theorem dX5_highBit_6 : decode cX5_highBit 6 = .ok (.lconst 0, 1) := by decide +kernel
theorem dX5_highBit_7 : decode cX5_highBit 7 = .ok (.goto 9, 3) := by decide +kernel
theorem dX5_highBit_10 : decode cX5_highBit 10 = .ok (.lconst 1, 1) := by decide +kernel
theorem dX5_highBit_11 : decode cX5_highBit 11 = .ok (.iload_n 0, 1) := by decide +kernel
theorem dX5_highBit_12 : decode cX5_highBit 12 = .ok (.bipush 64, 2) := by decide +kernel
theorem dX5_highBit_14 : decode cX5_highBit 14 = .ok (.isub, 1) := by decide +kernel
theorem dX5_highBit_15 : decode cX5_highBit 15 = .ok (.lshl, 1) := by decide +kernel
theorem dX5_highBit_16 : decode cX5_highBit 16 = .ok (.lreturn, 1) := by decide +kernel
theorem dX5_isPlace_0 : decode cX5_isPlace 0 = .ok (.iload_n 0, 1) := by decide +kernel
theorem dX5_isPlace_1 : decode cX5_isPlace 1 = .ok (.ifCond .lt 13, 3) := by decide +kernel
theorem dX5_isPlace_4 : decode cX5_isPlace 4 = .ok (.iload_n 0, 1) := by decide +kernel
theorem dX5_isPlace_5 : decode cX5_isPlace 5 = .ok (.bipush 100, 2) := by decide +kernel
theorem dX5_isPlace_7 : decode cX5_isPlace 7 = .ok (.if_icmp .ge 7, 3) := by decide +kernel
theorem dX5_isPlace_10 : decode cX5_isPlace 10 = .ok (.iconst 1, 1) := by decide +kernel
theorem dX5_isPlace_11 : decode cX5_isPlace 11 = .ok (.goto 4, 3) := by decide +kernel
theorem dX5_isPlace_14 : decode cX5_isPlace 14 = .ok (.iconst 0, 1) := by decide +kernel
theorem dX5_isPlace_15 : decode cX5_isPlace 15 = .ok (.ireturn, 1) := by decide +kernel
theorem dX5_has_0 : decode cX5_has 0 = .ok (.iload_n 1, 1) := by decide +kernel
theorem dX5_has_1 : decode cX5_has 1 = .ok (.invokestatic 18, 3) := by decide +kernel
theorem dX5_has_4 : decode cX5_has 4 = .ok (.ifCond .eq 42, 3) := by decide +kernel
theorem dX5_has_7 : decode cX5_has 7 = .ok (.iload_n 2, 1) := by decide +kernel
theorem dX5_has_8 : decode cX5_has 8 = .ok (.invokestatic 18, 3) := by decide +kernel
theorem dX5_has_11 : decode cX5_has 11 = .ok (.ifCond .eq 35, 3) := by decide +kernel
theorem dX5_has_14 : decode cX5_has 14 = .ok (.aload_n 0, 1) := by decide +kernel
theorem dX5_has_15 : decode cX5_has 15 = .ok (.getfield 9, 3) := by decide +kernel
theorem dX5_has_18 : decode cX5_has 18 = .ok (.iload_n 1, 1) := by decide +kernel
theorem dX5_has_19 : decode cX5_has 19 = .ok (.laload, 1) := by decide +kernel
theorem dX5_has_20 : decode cX5_has 20 = .ok (.iload_n 2, 1) := by decide +kernel
theorem dX5_has_21 : decode cX5_has 21 = .ok (.invokestatic 22, 3) := by decide +kernel
theorem dX5_has_24 : decode cX5_has 24 = .ok (.land, 1) := by decide +kernel
theorem dX5_has_25 : decode cX5_has 25 = .ok (.aload_n 0, 1) := by decide +kernel
theorem dX5_has_26 : decode cX5_has 26 = .ok (.getfield 15, 3) := by decide +kernel
theorem dX5_has_29 : decode cX5_has 29 = .ok (.iload_n 1, 1) := by decide +kernel
theorem dX5_has_30 : decode cX5_has 30 = .ok (.laload, 1) := by decide +kernel
theorem dX5_has_31 : decode cX5_has 31 = .ok (.iload_n 2, 1) := by decide +kernel
theorem dX5_has_32 : decode cX5_has 32 = .ok (.invokestatic 26, 3) := by decide +kernel
theorem dX5_has_35 : decode cX5_has 35 = .ok (.land, 1) := by decide +kernel
theorem dX5_has_36 : decode cX5_has 36 = .ok (.lor, 1) := by decide +kernel
theorem dX5_has_37 : decode cX5_has 37 = .ok (.lconst 0, 1) := by decide +kernel
theorem dX5_has_38 : decode cX5_has 38 = .ok (.lcmp, 1) := by decide +kernel
theorem dX5_has_39 : decode cX5_has 39 = .ok (.ifCond .eq 7, 3) := by decide +kernel
theorem dX5_has_42 : decode cX5_has 42 = .ok (.iconst 1, 1) := by decide +kernel
theorem dX5_has_43 : decode cX5_has 43 = .ok (.goto 4, 3) := by decide +kernel
theorem dX5_has_46 : decode cX5_has 46 = .ok (.iconst 0, 1) := by decide +kernel
theorem dX5_has_47 : decode cX5_has 47 = .ok (.ireturn, 1) := by decide +kernel
theorem dX5_add_0 : decode cX5_add 0 = .ok (.iload_n 1, 1) := by decide +kernel
theorem dX5_add_1 : decode cX5_add 1 = .ok (.invokestatic 18, 3) := by decide +kernel
theorem dX5_add_4 : decode cX5_add 4 = .ok (.ifCond .eq 36, 3) := by decide +kernel
theorem dX5_add_7 : decode cX5_add 7 = .ok (.iload_n 2, 1) := by decide +kernel
theorem dX5_add_8 : decode cX5_add 8 = .ok (.invokestatic 18, 3) := by decide +kernel
theorem dX5_add_11 : decode cX5_add 11 = .ok (.ifCond .eq 29, 3) := by decide +kernel
theorem dX5_add_14 : decode cX5_add 14 = .ok (.aload_n 0, 1) := by decide +kernel
theorem dX5_add_15 : decode cX5_add 15 = .ok (.getfield 9, 3) := by decide +kernel
theorem dX5_add_18 : decode cX5_add 18 = .ok (.iload_n 1, 1) := by decide +kernel
theorem dX5_add_19 : decode cX5_add 19 = .ok (.dup2, 1) := by decide +kernel
theorem dX5_add_20 : decode cX5_add 20 = .ok (.laload, 1) := by decide +kernel
theorem dX5_add_21 : decode cX5_add 21 = .ok (.iload_n 2, 1) := by decide +kernel
theorem dX5_add_22 : decode cX5_add 22 = .ok (.invokestatic 22, 3) := by decide +kernel
theorem dX5_add_25 : decode cX5_add 25 = .ok (.lor, 1) := by decide +kernel
theorem dX5_add_26 : decode cX5_add 26 = .ok (.lastore, 1) := by decide +kernel
theorem dX5_add_27 : decode cX5_add 27 = .ok (.aload_n 0, 1) := by decide +kernel
theorem dX5_add_28 : decode cX5_add 28 = .ok (.getfield 15, 3) := by decide +kernel
theorem dX5_add_31 : decode cX5_add 31 = .ok (.iload_n 1, 1) := by decide +kernel
theorem dX5_add_32 : decode cX5_add 32 = .ok (.dup2, 1) := by decide +kernel
theorem dX5_add_33 : decode cX5_add 33 = .ok (.laload, 1) := by decide +kernel
theorem dX5_add_34 : decode cX5_add 34 = .ok (.iload_n 2, 1) := by decide +kernel
theorem dX5_add_35 : decode cX5_add 35 = .ok (.invokestatic 26, 3) := by decide +kernel
theorem dX5_add_38 : decode cX5_add 38 = .ok (.lor, 1) := by decide +kernel
theorem dX5_add_39 : decode cX5_add 39 = .ok (.lastore, 1) := by decide +kernel
theorem dX5_add_40 : decode cX5_add 40 = .ok (.return_, 1) := by decide +kernel
theorem dX5_refill_0 : decode cX5_refill 0 = .ok (.iload_n 1, 1) := by decide +kernel
theorem dX5_refill_1 : decode cX5_refill 1 = .ok (.invokestatic 18, 3) := by decide +kernel
theorem dX5_refill_4 : decode cX5_refill 4 = .ok (.ifCond .eq 37, 3) := by decide +kernel
theorem dX5_refill_7 : decode cX5_refill 7 = .ok (.aload_n 0, 1) := by decide +kernel
theorem dX5_refill_8 : decode cX5_refill 8 = .ok (.getfield 9, 3) := by decide +kernel
theorem dX5_refill_11 : decode cX5_refill 11 = .ok (.iload_n 1, 1) := by decide +kernel
theorem dX5_refill_12 : decode cX5_refill 12 = .ok (.iload_n 2, 1) := by decide +kernel
theorem dX5_refill_13 : decode cX5_refill 13 = .ok (.ifCond .eq 9, 3) := by decide +kernel
theorem dX5_refill_16 : decode cX5_refill 16 = .ok (.ldc2_w 29, 3) := by decide +kernel
theorem dX5_refill_19 : decode cX5_refill 19 = .ok (.goto 4, 3) := by decide +kernel
theorem dX5_refill_22 : decode cX5_refill 22 = .ok (.lconst 0, 1) := by decide +kernel
theorem dX5_refill_23 : decode cX5_refill 23 = .ok (.lastore, 1) := by decide +kernel
theorem dX5_refill_24 : decode cX5_refill 24 = .ok (.aload_n 0, 1) := by decide +kernel
theorem dX5_refill_25 : decode cX5_refill 25 = .ok (.getfield 15, 3) := by decide +kernel
theorem dX5_refill_28 : decode cX5_refill 28 = .ok (.iload_n 1, 1) := by decide +kernel
theorem dX5_refill_29 : decode cX5_refill 29 = .ok (.iload_n 2, 1) := by decide +kernel
theorem dX5_refill_30 : decode cX5_refill 30 = .ok (.ifCond .eq 9, 3) := by decide +kernel
theorem dX5_refill_33 : decode cX5_refill 33 = .ok (.ldc2_w 29, 3) := by decide +kernel
theorem dX5_refill_36 : decode cX5_refill 36 = .ok (.goto 4, 3) := by decide +kernel
theorem dX5_refill_39 : decode cX5_refill 39 = .ok (.lconst 0, 1) := by decide +kernel
theorem dX5_refill_40 : decode cX5_refill 40 = .ok (.lastore, 1) := by decide +kernel
theorem dX5_refill_41 : decode cX5_refill 41 = .ok (.return_, 1) := by decide +kernel
theorem dX5_narrow_0 : decode cX5_narrow 0 = .ok (.iload_n 1, 1) := by decide +kernel
theorem dX5_narrow_1 : decode cX5_narrow 1 = .ok (.invokestatic 18, 3) := by decide +kernel
theorem dX5_narrow_4 : decode cX5_narrow 4 = .ok (.ifCond .eq 10, 3) := by decide +kernel
theorem dX5_narrow_7 : decode cX5_narrow 7 = .ok (.iload_n 2, 1) := by decide +kernel
theorem dX5_narrow_8 : decode cX5_narrow 8 = .ok (.invokestatic 18, 3) := by decide +kernel
theorem dX5_narrow_11 : decode cX5_narrow 11 = .ok (.ifCond .ne 5, 3) := by decide +kernel
theorem dX5_narrow_14 : decode cX5_narrow 14 = .ok (.iconst 0, 1) := by decide +kernel
theorem dX5_narrow_15 : decode cX5_narrow 15 = .ok (.ireturn, 1) := by decide +kernel
theorem dX5_narrow_16 : decode cX5_narrow 16 = .ok (.aload_n 0, 1) := by decide +kernel
theorem dX5_narrow_17 : decode cX5_narrow 17 = .ok (.getfield 9, 3) := by decide +kernel
theorem dX5_narrow_20 : decode cX5_narrow 20 = .ok (.iload_n 1, 1) := by decide +kernel
theorem dX5_narrow_21 : decode cX5_narrow 21 = .ok (.laload, 1) := by decide +kernel
theorem dX5_narrow_22 : decode cX5_narrow 22 = .ok (.aload_n 0, 1) := by decide +kernel
theorem dX5_narrow_23 : decode cX5_narrow 23 = .ok (.getfield 9, 3) := by decide +kernel
theorem dX5_narrow_26 : decode cX5_narrow 26 = .ok (.iload_n 2, 1) := by decide +kernel
theorem dX5_narrow_27 : decode cX5_narrow 27 = .ok (.laload, 1) := by decide +kernel
theorem dX5_narrow_28 : decode cX5_narrow 28 = .ok (.iload_n 1, 1) := by decide +kernel
theorem dX5_narrow_29 : decode cX5_narrow 29 = .ok (.invokestatic 22, 3) := by decide +kernel
theorem dX5_narrow_32 : decode cX5_narrow 32 = .ok (.lor, 1) := by decide +kernel
theorem dX5_narrow_33 : decode cX5_narrow 33 = .ok (.land, 1) := by decide +kernel
theorem dX5_narrow_34 : decode cX5_narrow 34 = .ok (.lstore_n 3, 1) := by decide +kernel
theorem dX5_narrow_35 : decode cX5_narrow 35 = .ok (.aload_n 0, 1) := by decide +kernel
theorem dX5_narrow_36 : decode cX5_narrow 36 = .ok (.getfield 15, 3) := by decide +kernel
theorem dX5_narrow_39 : decode cX5_narrow 39 = .ok (.iload_n 1, 1) := by decide +kernel
theorem dX5_narrow_40 : decode cX5_narrow 40 = .ok (.laload, 1) := by decide +kernel
theorem dX5_narrow_41 : decode cX5_narrow 41 = .ok (.aload_n 0, 1) := by decide +kernel
theorem dX5_narrow_42 : decode cX5_narrow 42 = .ok (.getfield 15, 3) := by decide +kernel
theorem dX5_narrow_45 : decode cX5_narrow 45 = .ok (.iload_n 2, 1) := by decide +kernel
theorem dX5_narrow_46 : decode cX5_narrow 46 = .ok (.laload, 1) := by decide +kernel
theorem dX5_narrow_47 : decode cX5_narrow 47 = .ok (.iload_n 1, 1) := by decide +kernel
theorem dX5_narrow_48 : decode cX5_narrow 48 = .ok (.invokestatic 26, 3) := by decide +kernel
theorem dX5_narrow_51 : decode cX5_narrow 51 = .ok (.lor, 1) := by decide +kernel
theorem dX5_narrow_52 : decode cX5_narrow 52 = .ok (.land, 1) := by decide +kernel
theorem dX5_narrow_53 : decode cX5_narrow 53 = .ok (.lstore 5, 2) := by decide +kernel
theorem dX5_narrow_55 : decode cX5_narrow 55 = .ok (.lload_n 3, 1) := by decide +kernel
theorem dX5_narrow_56 : decode cX5_narrow 56 = .ok (.aload_n 0, 1) := by decide +kernel
theorem dX5_narrow_57 : decode cX5_narrow 57 = .ok (.getfield 9, 3) := by decide +kernel
theorem dX5_narrow_60 : decode cX5_narrow 60 = .ok (.iload_n 1, 1) := by decide +kernel
theorem dX5_narrow_61 : decode cX5_narrow 61 = .ok (.laload, 1) := by decide +kernel
theorem dX5_narrow_62 : decode cX5_narrow 62 = .ok (.lcmp, 1) := by decide +kernel
theorem dX5_narrow_63 : decode cX5_narrow 63 = .ok (.ifCond .ne 15, 3) := by decide +kernel
theorem dX5_narrow_66 : decode cX5_narrow 66 = .ok (.lload 5, 2) := by decide +kernel
theorem dX5_narrow_68 : decode cX5_narrow 68 = .ok (.aload_n 0, 1) := by decide +kernel
theorem dX5_narrow_69 : decode cX5_narrow 69 = .ok (.getfield 15, 3) := by decide +kernel
theorem dX5_narrow_72 : decode cX5_narrow 72 = .ok (.iload_n 1, 1) := by decide +kernel
theorem dX5_narrow_73 : decode cX5_narrow 73 = .ok (.laload, 1) := by decide +kernel
theorem dX5_narrow_74 : decode cX5_narrow 74 = .ok (.lcmp, 1) := by decide +kernel
theorem dX5_narrow_75 : decode cX5_narrow 75 = .ok (.ifCond .eq 7, 3) := by decide +kernel
theorem dX5_narrow_78 : decode cX5_narrow 78 = .ok (.iconst 1, 1) := by decide +kernel
theorem dX5_narrow_79 : decode cX5_narrow 79 = .ok (.goto 4, 3) := by decide +kernel
theorem dX5_narrow_82 : decode cX5_narrow 82 = .ok (.iconst 0, 1) := by decide +kernel
theorem dX5_narrow_83 : decode cX5_narrow 83 = .ok (.istore 7, 2) := by decide +kernel
theorem dX5_narrow_85 : decode cX5_narrow 85 = .ok (.aload_n 0, 1) := by decide +kernel
theorem dX5_narrow_86 : decode cX5_narrow 86 = .ok (.getfield 9, 3) := by decide +kernel
theorem dX5_narrow_89 : decode cX5_narrow 89 = .ok (.iload_n 1, 1) := by decide +kernel
theorem dX5_narrow_90 : decode cX5_narrow 90 = .ok (.lload_n 3, 1) := by decide +kernel
theorem dX5_narrow_91 : decode cX5_narrow 91 = .ok (.lastore, 1) := by decide +kernel
theorem dX5_narrow_92 : decode cX5_narrow 92 = .ok (.aload_n 0, 1) := by decide +kernel
theorem dX5_narrow_93 : decode cX5_narrow 93 = .ok (.getfield 15, 3) := by decide +kernel
theorem dX5_narrow_96 : decode cX5_narrow 96 = .ok (.iload_n 1, 1) := by decide +kernel
theorem dX5_narrow_97 : decode cX5_narrow 97 = .ok (.lload 5, 2) := by decide +kernel
theorem dX5_narrow_99 : decode cX5_narrow 99 = .ok (.lastore, 1) := by decide +kernel
theorem dX5_narrow_100 : decode cX5_narrow 100 = .ok (.iload 7, 2) := by decide +kernel
theorem dX5_narrow_102 : decode cX5_narrow 102 = .ok (.ireturn, 1) := by decide +kernel
theorem dX6_init_0 : decode cX6_init 0 = .ok (.aload_n 0, 1) := by decide +kernel
theorem dX6_init_1 : decode cX6_init 1 = .ok (.invokespecial 1, 3) := by decide +kernel
theorem dX6_init_4 : decode cX6_init 4 = .ok (.aload_n 0, 1) := by decide +kernel
theorem dX6_init_5 : decode cX6_init 5 = .ok (.aconst_null, 1) := by decide +kernel
theorem dX6_init_6 : decode cX6_init 6 = .ok (.putfield 7, 3) := by decide +kernel
theorem dX6_init_9 : decode cX6_init 9 = .ok (.aload_n 0, 1) := by decide +kernel
theorem dX6_init_10 : decode cX6_init 10 = .ok (.iload_n 1, 1) := by decide +kernel
theorem dX6_init_11 : decode cX6_init 11 = .ok (.putfield 13, 3) := by decide +kernel
theorem dX6_init_14 : decode cX6_init 14 = .ok (.aload_n 0, 1) := by decide +kernel
theorem dX6_init_15 : decode cX6_init 15 = .ok (.iload_n 2, 1) := by decide +kernel
theorem dX6_init_16 : decode cX6_init 16 = .ok (.putfield 17, 3) := by decide +kernel
theorem dX6_init_19 : decode cX6_init 19 = .ok (.aload_n 0, 1) := by decide +kernel
theorem dX6_init_20 : decode cX6_init 20 = .ok (.aload_n 3, 1) := by decide +kernel
theorem dX6_init_21 : decode cX6_init 21 = .ok (.putfield 20, 3) := by decide +kernel
theorem dX6_init_24 : decode cX6_init 24 = .ok (.aload_n 0, 1) := by decide +kernel
theorem dX6_init_25 : decode cX6_init 25 = .ok (.aload 4, 2) := by decide +kernel
theorem dX6_init_27 : decode cX6_init 27 = .ok (.putfield 23, 3) := by decide +kernel
theorem dX6_init_30 : decode cX6_init 30 = .ok (.aload_n 0, 1) := by decide +kernel
theorem dX6_init_31 : decode cX6_init 31 = .ok (.aload 5, 2) := by decide +kernel
theorem dX6_init_33 : decode cX6_init 33 = .ok (.putfield 26, 3) := by decide +kernel
theorem dX6_init_36 : decode cX6_init 36 = .ok (.return_, 1) := by decide +kernel
theorem dX7_init_0 : decode cX7_init 0 = .ok (.aload_n 0, 1) := by decide +kernel
theorem dX7_init_1 : decode cX7_init 1 = .ok (.invokespecial 3, 3) := by decide +kernel
theorem dX7_init_4 : decode cX7_init 4 = .ok (.aload_n 0, 1) := by decide +kernel
theorem dX7_init_5 : decode cX7_init 5 = .ok (.bipush 8, 2) := by decide +kernel
theorem dX7_init_7 : decode cX7_init 7 = .ok (.newarray .int, 2) := by decide +kernel
theorem dX7_init_9 : decode cX7_init 9 = .ok (.putfield 9, 3) := by decide +kernel
theorem dX7_init_12 : decode cX7_init 12 = .ok (.aload_n 0, 1) := by decide +kernel
theorem dX7_init_13 : decode cX7_init 13 = .ok (.bipush 7, 2) := by decide +kernel
theorem dX7_init_15 : decode cX7_init 15 = .ok (.bipush 8, 2) := by decide +kernel
theorem dX7_init_17 : decode cX7_init 17 = .ok (.multianewarray 15 2, 4) := by decide +kernel
theorem dX7_init_21 : decode cX7_init 21 = .ok (.putfield 17, 3) := by decide +kernel
theorem dX7_init_24 : decode cX7_init 24 = .ok (.aload_n 0, 1) := by decide +kernel
theorem dX7_init_25 : decode cX7_init 25 = .ok (.bipush 7, 2) := by decide +kernel
theorem dX7_init_27 : decode cX7_init 27 = .ok (.bipush 8, 2) := by decide +kernel
theorem dX7_init_29 : decode cX7_init 29 = .ok (.multianewarray 15 2, 4) := by decide +kernel
theorem dX7_init_33 : decode cX7_init 33 = .ok (.putfield 20, 3) := by decide +kernel
theorem dX7_init_36 : decode cX7_init 36 = .ok (.aload_n 0, 1) := by decide +kernel
theorem dX7_init_37 : decode cX7_init 37 = .ok (.aload_n 1, 1) := by decide +kernel
theorem dX7_init_38 : decode cX7_init 38 = .ok (.putfield 23, 3) := by decide +kernel
theorem dX7_init_41 : decode cX7_init 41 = .ok (.return_, 1) := by decide +kernel
theorem dX7_workOut_0 : decode cX7_workOut 0 = .ok (.aload_n 2, 1) := by decide +kernel
theorem dX7_workOut_1 : decode cX7_workOut 1 = .ok (.iconst 0, 1) := by decide +kernel
theorem dX7_workOut_2 : decode cX7_workOut 2 = .ok (.aload_n 0, 1) := by decide +kernel
theorem dX7_workOut_3 : decode cX7_workOut 3 = .ok (.getfield 9, 3) := by decide +kernel
theorem dX7_workOut_6 : decode cX7_workOut 6 = .ok (.iconst 0, 1) := by decide +kernel
theorem dX7_workOut_7 : decode cX7_workOut 7 = .ok (.bipush 8, 2) := by decide +kernel
theorem dX7_workOut_9 : decode cX7_workOut 9 = .ok (.invokestatic 27, 3) := by decide +kernel
theorem dX7_workOut_12 : decode cX7_workOut 12 = .ok (.aload_n 0, 1) := by decide +kernel
theorem dX7_workOut_13 : decode cX7_workOut 13 = .ok (.aload_n 1, 1) := by decide +kernel
theorem dX7_workOut_14 : decode cX7_workOut 14 = .ok (.aload_n 0, 1) := by decide +kernel
theorem dX7_workOut_15 : decode cX7_workOut 15 = .ok (.getfield 23, 3) := by decide +kernel
theorem dX7_workOut_18 : decode cX7_workOut 18 = .ok (.invokevirtual 33, 3) := by decide +kernel
theorem dX7_workOut_21 : decode cX7_workOut 21 = .ok (.iconst 0, 1) := by decide +kernel
theorem dX7_workOut_22 : decode cX7_workOut 22 = .ok (.invokevirtual 39, 3) := by decide +kernel
theorem dX7_workOut_25 : decode cX7_workOut 25 = .ok (.return_, 1) := by decide +kernel
theorem dX7_keepTo_0 : decode cX7_keepTo 0 = .ok (.iconst 0, 1) := by decide +kernel
theorem dX7_keepTo_1 : decode cX7_keepTo 1 = .ok (.istore_n 2, 1) := by decide +kernel
theorem dX7_keepTo_2 : decode cX7_keepTo 2 = .ok (.iload_n 2, 1) := by decide +kernel
theorem dX7_keepTo_3 : decode cX7_keepTo 3 = .ok (.bipush 8, 2) := by decide +kernel
theorem dX7_keepTo_5 : decode cX7_keepTo 5 = .ok (.if_icmp .ge 30, 3) := by decide +kernel
theorem dX7_keepTo_8 : decode cX7_keepTo 8 = .ok (.aload_n 0, 1) := by decide +kernel
theorem dX7_keepTo_9 : decode cX7_keepTo 9 = .ok (.getfield 23, 3) := by decide +kernel
theorem dX7_keepTo_12 : decode cX7_keepTo 12 = .ok (.aload_n 0, 1) := by decide +kernel
theorem dX7_keepTo_13 : decode cX7_keepTo 13 = .ok (.getfield 9, 3) := by decide +kernel
theorem dX7_keepTo_16 : decode cX7_keepTo 16 = .ok (.iload_n 2, 1) := by decide +kernel
theorem dX7_keepTo_17 : decode cX7_keepTo 17 = .ok (.iaload, 1) := by decide +kernel
theorem dX7_keepTo_18 : decode cX7_keepTo 18 = .ok (.aload_n 1, 1) := by decide +kernel
theorem dX7_keepTo_19 : decode cX7_keepTo 19 = .ok (.iload_n 2, 1) := by decide +kernel
theorem dX7_keepTo_20 : decode cX7_keepTo 20 = .ok (.iaload, 1) := by decide +kernel
theorem dX7_keepTo_21 : decode cX7_keepTo 21 = .ok (.invokevirtual 43, 3) := by decide +kernel
theorem dX7_keepTo_24 : decode cX7_keepTo 24 = .ok (.ifCond .ne 5, 3) := by decide +kernel
theorem dX7_keepTo_27 : decode cX7_keepTo 27 = .ok (.iconst 0, 1) := by decide +kernel
theorem dX7_keepTo_28 : decode cX7_keepTo 28 = .ok (.ireturn, 1) := by decide +kernel
theorem dX7_keepTo_29 : decode cX7_keepTo 29 = .ok (.iinc 2 1, 3) := by decide +kernel
theorem dX7_keepTo_32 : decode cX7_keepTo 32 = .ok (.goto (-30), 3) := by decide +kernel
theorem dX7_keepTo_35 : decode cX7_keepTo 35 = .ok (.iconst 1, 1) := by decide +kernel
theorem dX7_keepTo_36 : decode cX7_keepTo 36 = .ok (.ireturn, 1) := by decide +kernel
theorem dX7_exitOf_0 : decode cX7_exitOf 0 = .ok (.iload_n 1, 1) := by decide +kernel
theorem dX7_exitOf_1 : decode cX7_exitOf 1 = .ok (.invokestatic 47, 3) := by decide +kernel
theorem dX7_exitOf_4 : decode cX7_exitOf 4 = .ok (.ifCond .eq 12, 3) := by decide +kernel
theorem dX7_exitOf_7 : decode cX7_exitOf 7 = .ok (.aload_n 0, 1) := by decide +kernel
theorem dX7_exitOf_8 : decode cX7_exitOf 8 = .ok (.getfield 9, 3) := by decide +kernel
theorem dX7_exitOf_11 : decode cX7_exitOf 11 = .ok (.iload_n 1, 1) := by decide +kernel
theorem dX7_exitOf_12 : decode cX7_exitOf 12 = .ok (.iaload, 1) := by decide +kernel
theorem dX7_exitOf_13 : decode cX7_exitOf 13 = .ok (.goto 4, 3) := by decide +kernel
theorem dX7_exitOf_16 : decode cX7_exitOf 16 = .ok (.iconst (-1), 1) := by decide +kernel
theorem dX7_exitOf_17 : decode cX7_exitOf 17 = .ok (.ireturn, 1) := by decide +kernel
theorem dX7_flowRow_0 : decode cX7_flowRow 0 = .ok (.iload_n 3, 1) := by decide +kernel
theorem dX7_flowRow_1 : decode cX7_flowRow 1 = .ok (.bipush 6, 2) := by decide +kernel
theorem dX7_flowRow_3 : decode cX7_flowRow 3 = .ok (.if_icmp .le 4, 3) := by decide +kernel
theorem dX7_flowRow_6 : decode cX7_flowRow 6 = .ok (.return_, 1) := by decide +kernel
theorem dX7_flowRow_7 : decode cX7_flowRow 7 = .ok (.aload_n 1, 1) := by decide +kernel
theorem dX7_flowRow_8 : decode cX7_flowRow 8 = .ok (.astore 4, 2) := by decide +kernel
theorem dX7_flowRow_10 : decode cX7_flowRow 10 = .ok (.aload 4, 2) := by decide +kernel
theorem dX7_flowRow_12 : decode cX7_flowRow 12 = .ok (.ifnull 92, 3) := by decide +kernel
theorem dX7_flowRow_15 : decode cX7_flowRow 15 = .ok (.aload 4, 2) := by decide +kernel
theorem dX7_flowRow_17 : decode cX7_flowRow 17 = .ok (.getfield 51, 3) := by decide +kernel
theorem dX7_flowRow_20 : decode cX7_flowRow 20 = .ok (.iconst 4, 1) := by decide +kernel
theorem dX7_flowRow_21 : decode cX7_flowRow 21 = .ok (.if_icmp .ne 14, 3) := by decide +kernel
theorem dX7_flowRow_24 : decode cX7_flowRow 24 = .ok (.aload_n 0, 1) := by decide +kernel
theorem dX7_flowRow_25 : decode cX7_flowRow 25 = .ok (.aload 4, 2) := by decide +kernel
theorem dX7_flowRow_27 : decode cX7_flowRow 27 = .ok (.iload_n 2, 1) := by decide +kernel
theorem dX7_flowRow_28 : decode cX7_flowRow 28 = .ok (.iload_n 3, 1) := by decide +kernel
theorem dX7_flowRow_29 : decode cX7_flowRow 29 = .ok (.invokevirtual 57, 3) := by decide +kernel
theorem dX7_flowRow_32 : decode cX7_flowRow 32 = .ok (.goto 62, 3) := by decide +kernel
theorem dX7_flowRow_35 : decode cX7_flowRow 35 = .ok (.aload 4, 2) := by decide +kernel
theorem dX7_flowRow_37 : decode cX7_flowRow 37 = .ok (.getfield 51, 3) := by decide +kernel
theorem dX7_flowRow_40 : decode cX7_flowRow 40 = .ok (.iconst 5, 1) := by decide +kernel
theorem dX7_flowRow_41 : decode cX7_flowRow 41 = .ok (.if_icmp .ne 14, 3) := by decide +kernel
theorem dX7_flowRow_44 : decode cX7_flowRow 44 = .ok (.aload_n 0, 1) := by decide +kernel
theorem dX7_flowRow_45 : decode cX7_flowRow 45 = .ok (.aload 4, 2) := by decide +kernel
theorem dX7_flowRow_47 : decode cX7_flowRow 47 = .ok (.iload_n 2, 1) := by decide +kernel
theorem dX7_flowRow_48 : decode cX7_flowRow 48 = .ok (.iload_n 3, 1) := by decide +kernel
theorem dX7_flowRow_49 : decode cX7_flowRow 49 = .ok (.invokevirtual 60, 3) := by decide +kernel
theorem dX7_flowRow_52 : decode cX7_flowRow 52 = .ok (.goto 42, 3) := by decide +kernel
theorem dX7_flowRow_55 : decode cX7_flowRow 55 = .ok (.aload 4, 2) := by decide +kernel
theorem dX7_flowRow_57 : decode cX7_flowRow 57 = .ok (.getfield 63, 3) := by decide +kernel
theorem dX7_flowRow_60 : decode cX7_flowRow 60 = .ok (.invokestatic 47, 3) := by decide +kernel
theorem dX7_flowRow_63 : decode cX7_flowRow 63 = .ok (.ifCond .eq 31, 3) := by decide +kernel
theorem dX7_flowRow_66 : decode cX7_flowRow 66 = .ok (.aload_n 0, 1) := by decide +kernel
theorem dX7_flowRow_67 : decode cX7_flowRow 67 = .ok (.getfield 9, 3) := by decide +kernel
theorem dX7_flowRow_70 : decode cX7_flowRow 70 = .ok (.aload 4, 2) := by decide +kernel
theorem dX7_flowRow_72 : decode cX7_flowRow 72 = .ok (.getfield 63, 3) := by decide +kernel
theorem dX7_flowRow_75 : decode cX7_flowRow 75 = .ok (.aload_n 0, 1) := by decide +kernel
theorem dX7_flowRow_76 : decode cX7_flowRow 76 = .ok (.getfield 23, 3) := by decide +kernel
theorem dX7_flowRow_79 : decode cX7_flowRow 79 = .ok (.iload_n 2, 1) := by decide +kernel
theorem dX7_flowRow_80 : decode cX7_flowRow 80 = .ok (.aload_n 0, 1) := by decide +kernel
theorem dX7_flowRow_81 : decode cX7_flowRow 81 = .ok (.aload 4, 2) := by decide +kernel
theorem dX7_flowRow_83 : decode cX7_flowRow 83 = .ok (.getfield 66, 3) := by decide +kernel
theorem dX7_flowRow_86 : decode cX7_flowRow 86 = .ok (.iconst 0, 1) := by decide +kernel
theorem dX7_flowRow_87 : decode cX7_flowRow 87 = .ok (.invokevirtual 70, 3) := by decide +kernel
theorem dX7_flowRow_90 : decode cX7_flowRow 90 = .ok (.invokevirtual 74, 3) := by decide +kernel
theorem dX7_flowRow_93 : decode cX7_flowRow 93 = .ok (.iastore, 1) := by decide +kernel
theorem dX7_flowRow_94 : decode cX7_flowRow 94 = .ok (.aload 4, 2) := by decide +kernel
theorem dX7_flowRow_96 : decode cX7_flowRow 96 = .ok (.getfield 78, 3) := by decide +kernel
theorem dX7_flowRow_99 : decode cX7_flowRow 99 = .ok (.astore 4, 2) := by decide +kernel
theorem dX7_flowRow_101 : decode cX7_flowRow 101 = .ok (.goto (-91), 3) := by decide +kernel
theorem dX7_flowRow_104 : decode cX7_flowRow 104 = .ok (.return_, 1) := by decide +kernel
theorem dX7_flowChoice_0 : decode cX7_flowChoice 0 = .ok (.aload_n 0, 1) := by decide +kernel
theorem dX7_flowChoice_1 : decode cX7_flowChoice 1 = .ok (.getfield 23, 3) := by decide +kernel
theorem dX7_flowChoice_4 : decode cX7_flowChoice 4 = .ok (.iload_n 2, 1) := by decide +kernel
theorem dX7_flowChoice_5 : decode cX7_flowChoice 5 = .ok (.aload_n 0, 1) := by decide +kernel
theorem dX7_flowChoice_6 : decode cX7_flowChoice 6 = .ok (.aload_n 1, 1) := by decide +kernel
theorem dX7_flowChoice_7 : decode cX7_flowChoice 7 = .ok (.getfield 66, 3) := by decide +kernel
theorem dX7_flowChoice_10 : decode cX7_flowChoice 10 = .ok (.iconst 0, 1) := by decide +kernel
theorem dX7_flowChoice_11 : decode cX7_flowChoice 11 = .ok (.invokevirtual 70, 3) := by decide +kernel
theorem dX7_flowChoice_14 : decode cX7_flowChoice 14 = .ok (.invokevirtual 74, 3) := by decide +kernel
theorem dX7_flowChoice_17 : decode cX7_flowChoice 17 = .ok (.istore 4, 2) := by decide +kernel
theorem dX7_flowChoice_19 : decode cX7_flowChoice 19 = .ok (.aload_n 0, 1) := by decide +kernel
theorem dX7_flowChoice_20 : decode cX7_flowChoice 20 = .ok (.getfield 9, 3) := by decide +kernel
theorem dX7_flowChoice_23 : decode cX7_flowChoice 23 = .ok (.iconst 0, 1) := by decide +kernel
theorem dX7_flowChoice_24 : decode cX7_flowChoice 24 = .ok (.aload_n 0, 1) := by decide +kernel
theorem dX7_flowChoice_25 : decode cX7_flowChoice 25 = .ok (.getfield 17, 3) := by decide +kernel
theorem dX7_flowChoice_28 : decode cX7_flowChoice 28 = .ok (.iload_n 3, 1) := by decide +kernel
theorem dX7_flowChoice_29 : decode cX7_flowChoice 29 = .ok (.aaload, 1) := by decide +kernel
theorem dX7_flowChoice_30 : decode cX7_flowChoice 30 = .ok (.iconst 0, 1) := by decide +kernel
theorem dX7_flowChoice_31 : decode cX7_flowChoice 31 = .ok (.bipush 8, 2) := by decide +kernel
theorem dX7_flowChoice_33 : decode cX7_flowChoice 33 = .ok (.invokestatic 27, 3) := by decide +kernel
theorem dX7_flowChoice_36 : decode cX7_flowChoice 36 = .ok (.aload_n 0, 1) := by decide +kernel
theorem dX7_flowChoice_37 : decode cX7_flowChoice 37 = .ok (.aload_n 1, 1) := by decide +kernel
theorem dX7_flowChoice_38 : decode cX7_flowChoice 38 = .ok (.getfield 81, 3) := by decide +kernel
theorem dX7_flowChoice_41 : decode cX7_flowChoice 41 = .ok (.iload 4, 2) := by decide +kernel
theorem dX7_flowChoice_43 : decode cX7_flowChoice 43 = .ok (.iload_n 3, 1) := by decide +kernel
theorem dX7_flowChoice_44 : decode cX7_flowChoice 44 = .ok (.iconst 1, 1) := by decide +kernel
theorem dX7_flowChoice_45 : decode cX7_flowChoice 45 = .ok (.iadd, 1) := by decide +kernel
theorem dX7_flowChoice_46 : decode cX7_flowChoice 46 = .ok (.invokevirtual 39, 3) := by decide +kernel
theorem dX7_flowChoice_49 : decode cX7_flowChoice 49 = .ok (.aload_n 0, 1) := by decide +kernel
theorem dX7_flowChoice_50 : decode cX7_flowChoice 50 = .ok (.getfield 9, 3) := by decide +kernel
theorem dX7_flowChoice_53 : decode cX7_flowChoice 53 = .ok (.iconst 0, 1) := by decide +kernel
theorem dX7_flowChoice_54 : decode cX7_flowChoice 54 = .ok (.aload_n 0, 1) := by decide +kernel
theorem dX7_flowChoice_55 : decode cX7_flowChoice 55 = .ok (.getfield 20, 3) := by decide +kernel
theorem dX7_flowChoice_58 : decode cX7_flowChoice 58 = .ok (.iload_n 3, 1) := by decide +kernel
theorem dX7_flowChoice_59 : decode cX7_flowChoice 59 = .ok (.aaload, 1) := by decide +kernel
theorem dX7_flowChoice_60 : decode cX7_flowChoice 60 = .ok (.iconst 0, 1) := by decide +kernel
theorem dX7_flowChoice_61 : decode cX7_flowChoice 61 = .ok (.bipush 8, 2) := by decide +kernel
theorem dX7_flowChoice_63 : decode cX7_flowChoice 63 = .ok (.invokestatic 27, 3) := by decide +kernel
theorem dX7_flowChoice_66 : decode cX7_flowChoice 66 = .ok (.aload_n 0, 1) := by decide +kernel
theorem dX7_flowChoice_67 : decode cX7_flowChoice 67 = .ok (.getfield 17, 3) := by decide +kernel
theorem dX7_flowChoice_70 : decode cX7_flowChoice 70 = .ok (.iload_n 3, 1) := by decide +kernel
theorem dX7_flowChoice_71 : decode cX7_flowChoice 71 = .ok (.aaload, 1) := by decide +kernel
theorem dX7_flowChoice_72 : decode cX7_flowChoice 72 = .ok (.iconst 0, 1) := by decide +kernel
theorem dX7_flowChoice_73 : decode cX7_flowChoice 73 = .ok (.aload_n 0, 1) := by decide +kernel
theorem dX7_flowChoice_74 : decode cX7_flowChoice 74 = .ok (.getfield 9, 3) := by decide +kernel
theorem dX7_flowChoice_77 : decode cX7_flowChoice 77 = .ok (.iconst 0, 1) := by decide +kernel
theorem dX7_flowChoice_78 : decode cX7_flowChoice 78 = .ok (.bipush 8, 2) := by decide +kernel
theorem dX7_flowChoice_80 : decode cX7_flowChoice 80 = .ok (.invokestatic 27, 3) := by decide +kernel
theorem dX7_flowChoice_83 : decode cX7_flowChoice 83 = .ok (.aload_n 0, 1) := by decide +kernel
theorem dX7_flowChoice_84 : decode cX7_flowChoice 84 = .ok (.aload_n 1, 1) := by decide +kernel
theorem dX7_flowChoice_85 : decode cX7_flowChoice 85 = .ok (.getfield 84, 3) := by decide +kernel
theorem dX7_flowChoice_88 : decode cX7_flowChoice 88 = .ok (.iload 4, 2) := by decide +kernel
theorem dX7_flowChoice_90 : decode cX7_flowChoice 90 = .ok (.iload_n 3, 1) := by decide +kernel
theorem dX7_flowChoice_91 : decode cX7_flowChoice 91 = .ok (.iconst 1, 1) := by decide +kernel
theorem dX7_flowChoice_92 : decode cX7_flowChoice 92 = .ok (.iadd, 1) := by decide +kernel
theorem dX7_flowChoice_93 : decode cX7_flowChoice 93 = .ok (.invokevirtual 39, 3) := by decide +kernel
theorem dX7_flowChoice_96 : decode cX7_flowChoice 96 = .ok (.aload_n 0, 1) := by decide +kernel
theorem dX7_flowChoice_97 : decode cX7_flowChoice 97 = .ok (.aload_n 0, 1) := by decide +kernel
theorem dX7_flowChoice_98 : decode cX7_flowChoice 98 = .ok (.getfield 20, 3) := by decide +kernel
theorem dX7_flowChoice_101 : decode cX7_flowChoice 101 = .ok (.iload_n 3, 1) := by decide +kernel
theorem dX7_flowChoice_102 : decode cX7_flowChoice 102 = .ok (.aaload, 1) := by decide +kernel
theorem dX7_flowChoice_103 : decode cX7_flowChoice 103 = .ok (.invokevirtual 87, 3) := by decide +kernel
theorem dX7_flowChoice_106 : decode cX7_flowChoice 106 = .ok (.return_, 1) := by decide +kernel
theorem dX7_flowLoop_0 : decode cX7_flowLoop 0 = .ok (.iconst 0, 1) := by decide +kernel
theorem dX7_flowLoop_1 : decode cX7_flowLoop 1 = .ok (.istore 4, 2) := by decide +kernel
theorem dX7_flowLoop_3 : decode cX7_flowLoop 3 = .ok (.iload 4, 2) := by decide +kernel
theorem dX7_flowLoop_5 : decode cX7_flowLoop 5 = .ok (.ldc 91, 2) := by decide +kernel
theorem dX7_flowLoop_7 : decode cX7_flowLoop 7 = .ok (.if_icmp .ge 82, 3) := by decide +kernel
theorem dX7_flowLoop_10 : decode cX7_flowLoop 10 = .ok (.aload_n 0, 1) := by decide +kernel
theorem dX7_flowLoop_11 : decode cX7_flowLoop 11 = .ok (.getfield 23, 3) := by decide +kernel
theorem dX7_flowLoop_14 : decode cX7_flowLoop 14 = .ok (.iload_n 2, 1) := by decide +kernel
theorem dX7_flowLoop_15 : decode cX7_flowLoop 15 = .ok (.aload_n 0, 1) := by decide +kernel
theorem dX7_flowLoop_16 : decode cX7_flowLoop 16 = .ok (.aload_n 1, 1) := by decide +kernel
theorem dX7_flowLoop_17 : decode cX7_flowLoop 17 = .ok (.getfield 66, 3) := by decide +kernel
theorem dX7_flowLoop_20 : decode cX7_flowLoop 20 = .ok (.iconst 0, 1) := by decide +kernel
theorem dX7_flowLoop_21 : decode cX7_flowLoop 21 = .ok (.invokevirtual 70, 3) := by decide +kernel
theorem dX7_flowLoop_24 : decode cX7_flowLoop 24 = .ok (.invokevirtual 74, 3) := by decide +kernel
theorem dX7_flowLoop_27 : decode cX7_flowLoop 27 = .ok (.istore 5, 2) := by decide +kernel
theorem dX7_flowLoop_29 : decode cX7_flowLoop 29 = .ok (.aload_n 0, 1) := by decide +kernel
theorem dX7_flowLoop_30 : decode cX7_flowLoop 30 = .ok (.getfield 9, 3) := by decide +kernel
theorem dX7_flowLoop_33 : decode cX7_flowLoop 33 = .ok (.iconst 0, 1) := by decide +kernel
theorem dX7_flowLoop_34 : decode cX7_flowLoop 34 = .ok (.aload_n 0, 1) := by decide +kernel
theorem dX7_flowLoop_35 : decode cX7_flowLoop 35 = .ok (.getfield 17, 3) := by decide +kernel
theorem dX7_flowLoop_38 : decode cX7_flowLoop 38 = .ok (.iload_n 3, 1) := by decide +kernel
theorem dX7_flowLoop_39 : decode cX7_flowLoop 39 = .ok (.aaload, 1) := by decide +kernel
theorem dX7_flowLoop_40 : decode cX7_flowLoop 40 = .ok (.iconst 0, 1) := by decide +kernel
theorem dX7_flowLoop_41 : decode cX7_flowLoop 41 = .ok (.bipush 8, 2) := by decide +kernel
theorem dX7_flowLoop_43 : decode cX7_flowLoop 43 = .ok (.invokestatic 27, 3) := by decide +kernel
theorem dX7_flowLoop_46 : decode cX7_flowLoop 46 = .ok (.aload_n 0, 1) := by decide +kernel
theorem dX7_flowLoop_47 : decode cX7_flowLoop 47 = .ok (.aload_n 1, 1) := by decide +kernel
theorem dX7_flowLoop_48 : decode cX7_flowLoop 48 = .ok (.getfield 81, 3) := by decide +kernel
theorem dX7_flowLoop_51 : decode cX7_flowLoop 51 = .ok (.iload 5, 2) := by decide +kernel
theorem dX7_flowLoop_53 : decode cX7_flowLoop 53 = .ok (.iload_n 3, 1) := by decide +kernel
theorem dX7_flowLoop_54 : decode cX7_flowLoop 54 = .ok (.iconst 1, 1) := by decide +kernel
theorem dX7_flowLoop_55 : decode cX7_flowLoop 55 = .ok (.iadd, 1) := by decide +kernel
theorem dX7_flowLoop_56 : decode cX7_flowLoop 56 = .ok (.invokevirtual 39, 3) := by decide +kernel
theorem dX7_flowLoop_59 : decode cX7_flowLoop 59 = .ok (.aload_n 0, 1) := by decide +kernel
theorem dX7_flowLoop_60 : decode cX7_flowLoop 60 = .ok (.aload_n 0, 1) := by decide +kernel
theorem dX7_flowLoop_61 : decode cX7_flowLoop 61 = .ok (.getfield 17, 3) := by decide +kernel
theorem dX7_flowLoop_64 : decode cX7_flowLoop 64 = .ok (.iload_n 3, 1) := by decide +kernel
theorem dX7_flowLoop_65 : decode cX7_flowLoop 65 = .ok (.aaload, 1) := by decide +kernel
theorem dX7_flowLoop_66 : decode cX7_flowLoop 66 = .ok (.invokevirtual 87, 3) := by decide +kernel
theorem dX7_flowLoop_69 : decode cX7_flowLoop 69 = .ok (.aload_n 0, 1) := by decide +kernel
theorem dX7_flowLoop_70 : decode cX7_flowLoop 70 = .ok (.aload_n 0, 1) := by decide +kernel
theorem dX7_flowLoop_71 : decode cX7_flowLoop 71 = .ok (.getfield 17, 3) := by decide +kernel
theorem dX7_flowLoop_74 : decode cX7_flowLoop 74 = .ok (.iload_n 3, 1) := by decide +kernel
theorem dX7_flowLoop_75 : decode cX7_flowLoop 75 = .ok (.aaload, 1) := by decide +kernel
theorem dX7_flowLoop_76 : decode cX7_flowLoop 76 = .ok (.invokevirtual 92, 3) := by decide +kernel
theorem dX7_flowLoop_79 : decode cX7_flowLoop 79 = .ok (.ifCond .eq 4, 3) := by decide +kernel
theorem dX7_flowLoop_82 : decode cX7_flowLoop 82 = .ok (.return_, 1) := by decide +kernel
theorem dX7_flowLoop_83 : decode cX7_flowLoop 83 = .ok (.iinc 4 1, 3) := by decide +kernel
theorem dX7_flowLoop_86 : decode cX7_flowLoop 86 = .ok (.goto (-83), 3) := by decide +kernel
theorem dX7_flowLoop_89 : decode cX7_flowLoop 89 = .ok (.return_, 1) := by decide +kernel
theorem dX7_raiseBy_0 : decode cX7_raiseBy 0 = .ok (.iconst 0, 1) := by decide +kernel
theorem dX7_raiseBy_1 : decode cX7_raiseBy 1 = .ok (.istore_n 2, 1) := by decide +kernel
theorem dX7_raiseBy_2 : decode cX7_raiseBy 2 = .ok (.iload_n 2, 1) := by decide +kernel
theorem dX7_raiseBy_3 : decode cX7_raiseBy 3 = .ok (.bipush 8, 2) := by decide +kernel
theorem dX7_raiseBy_5 : decode cX7_raiseBy 5 = .ok (.if_icmp .ge 31, 3) := by decide +kernel
theorem dX7_raiseBy_8 : decode cX7_raiseBy 8 = .ok (.aload_n 0, 1) := by decide +kernel
theorem dX7_raiseBy_9 : decode cX7_raiseBy 9 = .ok (.getfield 9, 3) := by decide +kernel
theorem dX7_raiseBy_12 : decode cX7_raiseBy 12 = .ok (.iload_n 2, 1) := by decide +kernel
theorem dX7_raiseBy_13 : decode cX7_raiseBy 13 = .ok (.aload_n 0, 1) := by decide +kernel
theorem dX7_raiseBy_14 : decode cX7_raiseBy 14 = .ok (.getfield 23, 3) := by decide +kernel
theorem dX7_raiseBy_17 : decode cX7_raiseBy 17 = .ok (.aload_n 0, 1) := by decide +kernel
theorem dX7_raiseBy_18 : decode cX7_raiseBy 18 = .ok (.getfield 9, 3) := by decide +kernel
theorem dX7_raiseBy_21 : decode cX7_raiseBy 21 = .ok (.iload_n 2, 1) := by decide +kernel
theorem dX7_raiseBy_22 : decode cX7_raiseBy 22 = .ok (.iaload, 1) := by decide +kernel
theorem dX7_raiseBy_23 : decode cX7_raiseBy 23 = .ok (.aload_n 1, 1) := by decide +kernel
theorem dX7_raiseBy_24 : decode cX7_raiseBy 24 = .ok (.iload_n 2, 1) := by decide +kernel
theorem dX7_raiseBy_25 : decode cX7_raiseBy 25 = .ok (.iaload, 1) := by decide +kernel
theorem dX7_raiseBy_26 : decode cX7_raiseBy 26 = .ok (.invokevirtual 74, 3) := by decide +kernel
theorem dX7_raiseBy_29 : decode cX7_raiseBy 29 = .ok (.iastore, 1) := by decide +kernel
theorem dX7_raiseBy_30 : decode cX7_raiseBy 30 = .ok (.iinc 2 1, 3) := by decide +kernel
theorem dX7_raiseBy_33 : decode cX7_raiseBy 33 = .ok (.goto (-31), 3) := by decide +kernel
theorem dX7_raiseBy_36 : decode cX7_raiseBy 36 = .ok (.return_, 1) := by decide +kernel
theorem dX7_areLabels_0 : decode cX7_areLabels 0 = .ok (.iconst 0, 1) := by decide +kernel
theorem dX7_areLabels_1 : decode cX7_areLabels 1 = .ok (.istore_n 2, 1) := by decide +kernel
theorem dX7_areLabels_2 : decode cX7_areLabels 2 = .ok (.iload_n 2, 1) := by decide +kernel
theorem dX7_areLabels_3 : decode cX7_areLabels 3 = .ok (.bipush 8, 2) := by decide +kernel
theorem dX7_areLabels_5 : decode cX7_areLabels 5 = .ok (.if_icmp .ge 23, 3) := by decide +kernel
theorem dX7_areLabels_8 : decode cX7_areLabels 8 = .ok (.aload_n 0, 1) := by decide +kernel
theorem dX7_areLabels_9 : decode cX7_areLabels 9 = .ok (.getfield 9, 3) := by decide +kernel
theorem dX7_areLabels_12 : decode cX7_areLabels 12 = .ok (.iload_n 2, 1) := by decide +kernel
theorem dX7_areLabels_13 : decode cX7_areLabels 13 = .ok (.iaload, 1) := by decide +kernel
theorem dX7_areLabels_14 : decode cX7_areLabels 14 = .ok (.aload_n 1, 1) := by decide +kernel
theorem dX7_areLabels_15 : decode cX7_areLabels 15 = .ok (.iload_n 2, 1) := by decide +kernel
theorem dX7_areLabels_16 : decode cX7_areLabels 16 = .ok (.iaload, 1) := by decide +kernel
theorem dX7_areLabels_17 : decode cX7_areLabels 17 = .ok (.if_icmp .eq 5, 3) := by decide +kernel
theorem dX7_areLabels_20 : decode cX7_areLabels 20 = .ok (.iconst 0, 1) := by decide +kernel
theorem dX7_areLabels_21 : decode cX7_areLabels 21 = .ok (.ireturn, 1) := by decide +kernel
theorem dX7_areLabels_22 : decode cX7_areLabels 22 = .ok (.iinc 2 1, 3) := by decide +kernel
theorem dX7_areLabels_25 : decode cX7_areLabels 25 = .ok (.goto (-23), 3) := by decide +kernel
theorem dX7_areLabels_28 : decode cX7_areLabels 28 = .ok (.iconst 1, 1) := by decide +kernel
theorem dX7_areLabels_29 : decode cX7_areLabels 29 = .ok (.ireturn, 1) := by decide +kernel
theorem dX7_labelOf_0 : decode cX7_labelOf 0 = .ok (.aload_n 1, 1) := by decide +kernel
theorem dX7_labelOf_1 : decode cX7_labelOf 1 = .ok (.ifnull 9, 3) := by decide +kernel
theorem dX7_labelOf_4 : decode cX7_labelOf 4 = .ok (.iload_n 2, 1) := by decide +kernel
theorem dX7_labelOf_5 : decode cX7_labelOf 5 = .ok (.bipush 6, 2) := by decide +kernel
theorem dX7_labelOf_7 : decode cX7_labelOf 7 = .ok (.if_icmp .le 11, 3) := by decide +kernel
theorem dX7_labelOf_10 : decode cX7_labelOf 10 = .ok (.aload_n 0, 1) := by decide +kernel
theorem dX7_labelOf_11 : decode cX7_labelOf 11 = .ok (.getfield 23, 3) := by decide +kernel
theorem dX7_labelOf_14 : decode cX7_labelOf 14 = .ok (.invokevirtual 33, 3) := by decide +kernel
theorem dX7_labelOf_17 : decode cX7_labelOf 17 = .ok (.ireturn, 1) := by decide +kernel
theorem dX7_labelOf_18 : decode cX7_labelOf 18 = .ok (.aload_n 1, 1) := by decide +kernel
theorem dX7_labelOf_19 : decode cX7_labelOf 19 = .ok (.getfield 51, 3) := by decide +kernel
theorem dX7_labelOf_22 : decode cX7_labelOf 22 = .ok (.iconst 1, 1) := by decide +kernel
theorem dX7_labelOf_23 : decode cX7_labelOf 23 = .ok (.if_icmp .ne 23, 3) := by decide +kernel
theorem dX7_labelOf_26 : decode cX7_labelOf 26 = .ok (.aload_n 1, 1) := by decide +kernel
theorem dX7_labelOf_27 : decode cX7_labelOf 27 = .ok (.getfield 63, 3) := by decide +kernel
theorem dX7_labelOf_30 : decode cX7_labelOf 30 = .ok (.invokestatic 47, 3) := by decide +kernel
theorem dX7_labelOf_33 : decode cX7_labelOf 33 = .ok (.ifCond .eq 13, 3) := by decide +kernel
theorem dX7_labelOf_36 : decode cX7_labelOf 36 = .ok (.aload_n 0, 1) := by decide +kernel
theorem dX7_labelOf_37 : decode cX7_labelOf 37 = .ok (.getfield 9, 3) := by decide +kernel
theorem dX7_labelOf_40 : decode cX7_labelOf 40 = .ok (.aload_n 1, 1) := by decide +kernel
theorem dX7_labelOf_41 : decode cX7_labelOf 41 = .ok (.getfield 63, 3) := by decide +kernel
theorem dX7_labelOf_44 : decode cX7_labelOf 44 = .ok (.iaload, 1) := by decide +kernel
theorem dX7_labelOf_45 : decode cX7_labelOf 45 = .ok (.ireturn, 1) := by decide +kernel
theorem dX7_labelOf_46 : decode cX7_labelOf 46 = .ok (.aload_n 1, 1) := by decide +kernel
theorem dX7_labelOf_47 : decode cX7_labelOf 47 = .ok (.getfield 51, 3) := by decide +kernel
theorem dX7_labelOf_50 : decode cX7_labelOf 50 = .ok (.iconst 2, 1) := by decide +kernel
theorem dX7_labelOf_51 : decode cX7_labelOf 51 = .ok (.if_icmp .ne 33, 3) := by decide +kernel
theorem dX7_labelOf_54 : decode cX7_labelOf 54 = .ok (.aload_n 0, 1) := by decide +kernel
theorem dX7_labelOf_55 : decode cX7_labelOf 55 = .ok (.getfield 23, 3) := by decide +kernel
theorem dX7_labelOf_58 : decode cX7_labelOf 58 = .ok (.aload_n 0, 1) := by decide +kernel
theorem dX7_labelOf_59 : decode cX7_labelOf 59 = .ok (.aload_n 1, 1) := by decide +kernel
theorem dX7_labelOf_60 : decode cX7_labelOf 60 = .ok (.getfield 81, 3) := by decide +kernel
theorem dX7_labelOf_63 : decode cX7_labelOf 63 = .ok (.iload_n 2, 1) := by decide +kernel
theorem dX7_labelOf_64 : decode cX7_labelOf 64 = .ok (.iconst 1, 1) := by decide +kernel
theorem dX7_labelOf_65 : decode cX7_labelOf 65 = .ok (.iadd, 1) := by decide +kernel
theorem dX7_labelOf_66 : decode cX7_labelOf 66 = .ok (.invokevirtual 70, 3) := by decide +kernel
theorem dX7_labelOf_69 : decode cX7_labelOf 69 = .ok (.aload_n 0, 1) := by decide +kernel
theorem dX7_labelOf_70 : decode cX7_labelOf 70 = .ok (.aload_n 1, 1) := by decide +kernel
theorem dX7_labelOf_71 : decode cX7_labelOf 71 = .ok (.getfield 84, 3) := by decide +kernel
theorem dX7_labelOf_74 : decode cX7_labelOf 74 = .ok (.iload_n 2, 1) := by decide +kernel
theorem dX7_labelOf_75 : decode cX7_labelOf 75 = .ok (.iconst 1, 1) := by decide +kernel
theorem dX7_labelOf_76 : decode cX7_labelOf 76 = .ok (.iadd, 1) := by decide +kernel
theorem dX7_labelOf_77 : decode cX7_labelOf 77 = .ok (.invokevirtual 70, 3) := by decide +kernel
theorem dX7_labelOf_80 : decode cX7_labelOf 80 = .ok (.invokevirtual 74, 3) := by decide +kernel
theorem dX7_labelOf_83 : decode cX7_labelOf 83 = .ok (.ireturn, 1) := by decide +kernel
theorem dX7_labelOf_84 : decode cX7_labelOf 84 = .ok (.aload_n 0, 1) := by decide +kernel
theorem dX7_labelOf_85 : decode cX7_labelOf 85 = .ok (.getfield 23, 3) := by decide +kernel
theorem dX7_labelOf_88 : decode cX7_labelOf 88 = .ok (.invokevirtual 33, 3) := by decide +kernel
theorem dX7_labelOf_91 : decode cX7_labelOf 91 = .ok (.ireturn, 1) := by decide +kernel
theorem dX8_init_0 : decode cX8_init 0 = .ok (.aload_n 0, 1) := by decide +kernel
theorem dX8_init_1 : decode cX8_init 1 = .ok (.invokespecial 3, 3) := by decide +kernel
theorem dX8_init_4 : decode cX8_init 4 = .ok (.aload_n 0, 1) := by decide +kernel
theorem dX8_init_5 : decode cX8_init 5 = .ok (.bipush 72, 2) := by decide +kernel
theorem dX8_init_7 : decode cX8_init 7 = .ok (.newarray .int, 2) := by decide +kernel
theorem dX8_init_9 : decode cX8_init 9 = .ok (.putfield 9, 3) := by decide +kernel
theorem dX8_init_12 : decode cX8_init 12 = .ok (.aload_n 0, 1) := by decide +kernel
theorem dX8_init_13 : decode cX8_init 13 = .ok (.iconst 0, 1) := by decide +kernel
theorem dX8_init_14 : decode cX8_init 14 = .ok (.putfield 15, 3) := by decide +kernel
theorem dX8_init_17 : decode cX8_init 17 = .ok (.aload_n 0, 1) := by decide +kernel
theorem dX8_init_18 : decode cX8_init 18 = .ok (.iconst 0, 1) := by decide +kernel
theorem dX8_init_19 : decode cX8_init 19 = .ok (.putfield 19, 3) := by decide +kernel
theorem dX8_init_22 : decode cX8_init 22 = .ok (.aload_n 0, 1) := by decide +kernel
theorem dX8_init_23 : decode cX8_init 23 = .ok (.iconst (-1), 1) := by decide +kernel
theorem dX8_init_24 : decode cX8_init 24 = .ok (.putfield 22, 3) := by decide +kernel
theorem dX8_init_27 : decode cX8_init 27 = .ok (.return_, 1) := by decide +kernel
theorem dX8_append_0 : decode cX8_append 0 = .ok (.iconst 0, 1) := by decide +kernel
theorem dX8_append_1 : decode cX8_append 1 = .ok (.istore_n 3, 1) := by decide +kernel
theorem dX8_append_2 : decode cX8_append 2 = .ok (.bipush 56, 2) := by decide +kernel
theorem dX8_append_4 : decode cX8_append 4 = .ok (.istore 4, 2) := by decide +kernel
theorem dX8_append_6 : decode cX8_append 6 = .ok (.iload 4, 2) := by decide +kernel
theorem dX8_append_8 : decode cX8_append 8 = .ok (.ifCond .lt 54, 3) := by decide +kernel
theorem dX8_append_11 : decode cX8_append 11 = .ok (.lload_n 1, 1) := by decide +kernel
theorem dX8_append_12 : decode cX8_append 12 = .ok (.iload 4, 2) := by decide +kernel
theorem dX8_append_14 : decode cX8_append 14 = .ok (.lushr, 1) := by decide +kernel
theorem dX8_append_15 : decode cX8_append 15 = .ok (.ldc2_w 25, 3) := by decide +kernel
theorem dX8_append_18 : decode cX8_append 18 = .ok (.land, 1) := by decide +kernel
theorem dX8_append_19 : decode cX8_append 19 = .ok (.l2i, 1) := by decide +kernel
theorem dX8_append_20 : decode cX8_append 20 = .ok (.istore 5, 2) := by decide +kernel
theorem dX8_append_22 : decode cX8_append 22 = .ok (.iload 5, 2) := by decide +kernel
theorem dX8_append_24 : decode cX8_append 24 = .ok (.ifCond .eq 19, 3) := by decide +kernel
theorem dX8_append_27 : decode cX8_append 27 = .ok (.iload 5, 2) := by decide +kernel
theorem dX8_append_29 : decode cX8_append 29 = .ok (.bipush 32, 2) := by decide +kernel
theorem dX8_append_31 : decode cX8_append 31 = .ok (.if_icmp .lt 10, 3) := by decide +kernel
theorem dX8_append_34 : decode cX8_append 34 = .ok (.iload 5, 2) := by decide +kernel
theorem dX8_append_36 : decode cX8_append 36 = .ok (.bipush 126, 2) := by decide +kernel
theorem dX8_append_38 : decode cX8_append 38 = .ok (.if_icmp .le 5, 3) := by decide +kernel
theorem dX8_append_41 : decode cX8_append 41 = .ok (.iconst 0, 1) := by decide +kernel
theorem dX8_append_42 : decode cX8_append 42 = .ok (.ireturn, 1) := by decide +kernel
theorem dX8_append_43 : decode cX8_append 43 = .ok (.iload_n 3, 1) := by decide +kernel
theorem dX8_append_44 : decode cX8_append 44 = .ok (.iload 5, 2) := by decide +kernel
theorem dX8_append_46 : decode cX8_append 46 = .ok (.ifCond .ne 7, 3) := by decide +kernel
theorem dX8_append_49 : decode cX8_append 49 = .ok (.iconst 0, 1) := by decide +kernel
theorem dX8_append_50 : decode cX8_append 50 = .ok (.goto 4, 3) := by decide +kernel
theorem dX8_append_53 : decode cX8_append 53 = .ok (.iconst 1, 1) := by decide +kernel
theorem dX8_append_54 : decode cX8_append 54 = .ok (.iadd, 1) := by decide +kernel
theorem dX8_append_55 : decode cX8_append 55 = .ok (.istore_n 3, 1) := by decide +kernel
theorem dX8_append_56 : decode cX8_append 56 = .ok (.iinc 4 (-8), 3) := by decide +kernel
theorem dX8_append_59 : decode cX8_append 59 = .ok (.goto (-53), 3) := by decide +kernel
theorem dX8_append_62 : decode cX8_append 62 = .ok (.iload_n 3, 1) := by decide +kernel
theorem dX8_append_63 : decode cX8_append 63 = .ok (.bipush 72, 2) := by decide +kernel
theorem dX8_append_65 : decode cX8_append 65 = .ok (.aload_n 0, 1) := by decide +kernel
theorem dX8_append_66 : decode cX8_append 66 = .ok (.getfield 15, 3) := by decide +kernel
theorem dX8_append_69 : decode cX8_append 69 = .ok (.isub, 1) := by decide +kernel
theorem dX8_append_70 : decode cX8_append 70 = .ok (.if_icmp .le 5, 3) := by decide +kernel
theorem dX8_append_73 : decode cX8_append 73 = .ok (.iconst 0, 1) := by decide +kernel
theorem dX8_append_74 : decode cX8_append 74 = .ok (.ireturn, 1) := by decide +kernel
theorem dX8_append_75 : decode cX8_append 75 = .ok (.bipush 56, 2) := by decide +kernel
theorem dX8_append_77 : decode cX8_append 77 = .ok (.istore 4, 2) := by decide +kernel
theorem dX8_append_79 : decode cX8_append 79 = .ok (.iload 4, 2) := by decide +kernel
theorem dX8_append_81 : decode cX8_append 81 = .ok (.ifCond .lt 46, 3) := by decide +kernel
theorem dX8_append_84 : decode cX8_append 84 = .ok (.lload_n 1, 1) := by decide +kernel
theorem dX8_append_85 : decode cX8_append 85 = .ok (.iload 4, 2) := by decide +kernel
theorem dX8_append_87 : decode cX8_append 87 = .ok (.lushr, 1) := by decide +kernel
theorem dX8_append_88 : decode cX8_append 88 = .ok (.ldc2_w 25, 3) := by decide +kernel
theorem dX8_append_91 : decode cX8_append 91 = .ok (.land, 1) := by decide +kernel
theorem dX8_append_92 : decode cX8_append 92 = .ok (.l2i, 1) := by decide +kernel
theorem dX8_append_93 : decode cX8_append 93 = .ok (.istore 5, 2) := by decide +kernel
theorem dX8_append_95 : decode cX8_append 95 = .ok (.iload 5, 2) := by decide +kernel
theorem dX8_append_97 : decode cX8_append 97 = .ok (.ifCond .eq 24, 3) := by decide +kernel
theorem dX8_append_100 : decode cX8_append 100 = .ok (.aload_n 0, 1) := by decide +kernel
theorem dX8_append_101 : decode cX8_append 101 = .ok (.getfield 9, 3) := by decide +kernel
theorem dX8_append_104 : decode cX8_append 104 = .ok (.aload_n 0, 1) := by decide +kernel
theorem dX8_append_105 : decode cX8_append 105 = .ok (.getfield 15, 3) := by decide +kernel
theorem dX8_append_108 : decode cX8_append 108 = .ok (.iload 5, 2) := by decide +kernel
theorem dX8_append_110 : decode cX8_append 110 = .ok (.iastore, 1) := by decide +kernel
theorem dX8_append_111 : decode cX8_append 111 = .ok (.aload_n 0, 1) := by decide +kernel
theorem dX8_append_112 : decode cX8_append 112 = .ok (.dup, 1) := by decide +kernel
theorem dX8_append_113 : decode cX8_append 113 = .ok (.getfield 15, 3) := by decide +kernel
theorem dX8_append_116 : decode cX8_append 116 = .ok (.iconst 1, 1) := by decide +kernel
theorem dX8_append_117 : decode cX8_append 117 = .ok (.iadd, 1) := by decide +kernel
theorem dX8_append_118 : decode cX8_append 118 = .ok (.putfield 15, 3) := by decide +kernel
theorem dX8_append_121 : decode cX8_append 121 = .ok (.iinc 4 (-8), 3) := by decide +kernel
theorem dX8_append_124 : decode cX8_append 124 = .ok (.goto (-45), 3) := by decide +kernel
theorem dX8_append_127 : decode cX8_append 127 = .ok (.iconst 1, 1) := by decide +kernel
theorem dX8_append_128 : decode cX8_append 128 = .ok (.ireturn, 1) := by decide +kernel
theorem dX8_takeProgram_0 : decode cX8_takeProgram 0 = .ok (.aload_n 0, 1) := by decide +kernel
theorem dX8_takeProgram_1 : decode cX8_takeProgram 1 = .ok (.iconst 0, 1) := by decide +kernel
theorem dX8_takeProgram_2 : decode cX8_takeProgram 2 = .ok (.putfield 19, 3) := by decide +kernel
theorem dX8_takeProgram_5 : decode cX8_takeProgram 5 = .ok (.aload_n 0, 1) := by decide +kernel
theorem dX8_takeProgram_6 : decode cX8_takeProgram 6 = .ok (.iconst (-1), 1) := by decide +kernel
theorem dX8_takeProgram_7 : decode cX8_takeProgram 7 = .ok (.putfield 22, 3) := by decide +kernel
theorem dX8_takeProgram_10 : decode cX8_takeProgram 10 = .ok (.aload_n 0, 1) := by decide +kernel
theorem dX8_takeProgram_11 : decode cX8_takeProgram 11 = .ok (.iconst 0, 1) := by decide +kernel
theorem dX8_takeProgram_12 : decode cX8_takeProgram 12 = .ok (.invokevirtual 27, 3) := by decide +kernel
theorem dX8_takeProgram_15 : decode cX8_takeProgram 15 = .ok (.astore_n 1, 1) := by decide +kernel
theorem dX8_takeProgram_16 : decode cX8_takeProgram 16 = .ok (.aload_n 0, 1) := by decide +kernel
theorem dX8_takeProgram_17 : decode cX8_takeProgram 17 = .ok (.getfield 22, 3) := by decide +kernel
theorem dX8_takeProgram_20 : decode cX8_takeProgram 20 = .ok (.iconst (-1), 1) := by decide +kernel
theorem dX8_takeProgram_21 : decode cX8_takeProgram 21 = .ok (.if_icmp .ne 22, 3) := by decide +kernel
theorem dX8_takeProgram_24 : decode cX8_takeProgram 24 = .ok (.aload_n 0, 1) := by decide +kernel
theorem dX8_takeProgram_25 : decode cX8_takeProgram 25 = .ok (.getfield 19, 3) := by decide +kernel
theorem dX8_takeProgram_28 : decode cX8_takeProgram 28 = .ok (.aload_n 0, 1) := by decide +kernel
theorem dX8_takeProgram_29 : decode cX8_takeProgram 29 = .ok (.getfield 15, 3) := by decide +kernel
theorem dX8_takeProgram_32 : decode cX8_takeProgram 32 = .ok (.if_icmp .ge 11, 3) := by decide +kernel
theorem dX8_takeProgram_35 : decode cX8_takeProgram 35 = .ok (.aload_n 0, 1) := by decide +kernel
theorem dX8_takeProgram_36 : decode cX8_takeProgram 36 = .ok (.aload_n 0, 1) := by decide +kernel
theorem dX8_takeProgram_37 : decode cX8_takeProgram 37 = .ok (.getfield 19, 3) := by decide +kernel
theorem dX8_takeProgram_40 : decode cX8_takeProgram 40 = .ok (.putfield 22, 3) := by decide +kernel
theorem dX8_takeProgram_43 : decode cX8_takeProgram 43 = .ok (.aload_n 0, 1) := by decide +kernel
theorem dX8_takeProgram_44 : decode cX8_takeProgram 44 = .ok (.iconst 0, 1) := by decide +kernel
theorem dX8_takeProgram_45 : decode cX8_takeProgram 45 = .ok (.putfield 15, 3) := by decide +kernel
theorem dX8_takeProgram_48 : decode cX8_takeProgram 48 = .ok (.aload_n 1, 1) := by decide +kernel
theorem dX8_takeProgram_49 : decode cX8_takeProgram 49 = .ok (.areturn, 1) := by decide +kernel
theorem dX8_error_0 : decode cX8_error 0 = .ok (.aload_n 0, 1) := by decide +kernel
theorem dX8_error_1 : decode cX8_error 1 = .ok (.getfield 22, 3) := by decide +kernel
theorem dX8_error_4 : decode cX8_error 4 = .ok (.ireturn, 1) := by decide +kernel
theorem dX8_current_0 : decode cX8_current 0 = .ok (.aload_n 0, 1) := by decide +kernel
theorem dX8_current_1 : decode cX8_current 1 = .ok (.getfield 19, 3) := by decide +kernel
theorem dX8_current_4 : decode cX8_current 4 = .ok (.aload_n 0, 1) := by decide +kernel
theorem dX8_current_5 : decode cX8_current 5 = .ok (.getfield 15, 3) := by decide +kernel
theorem dX8_current_8 : decode cX8_current 8 = .ok (.if_icmp .ge 15, 3) := by decide +kernel
theorem dX8_current_11 : decode cX8_current 11 = .ok (.aload_n 0, 1) := by decide +kernel
theorem dX8_current_12 : decode cX8_current 12 = .ok (.getfield 9, 3) := by decide +kernel
theorem dX8_current_15 : decode cX8_current 15 = .ok (.aload_n 0, 1) := by decide +kernel
theorem dX8_current_16 : decode cX8_current 16 = .ok (.getfield 19, 3) := by decide +kernel
theorem dX8_current_19 : decode cX8_current 19 = .ok (.iaload, 1) := by decide +kernel
theorem dX8_current_20 : decode cX8_current 20 = .ok (.goto 4, 3) := by decide +kernel
theorem dX8_current_23 : decode cX8_current 23 = .ok (.iconst (-1), 1) := by decide +kernel
theorem dX8_current_24 : decode cX8_current 24 = .ok (.ireturn, 1) := by decide +kernel
theorem dX8_skip_0 : decode cX8_skip 0 = .ok (.aload_n 0, 1) := by decide +kernel
theorem dX8_skip_1 : decode cX8_skip 1 = .ok (.invokevirtual 31, 3) := by decide +kernel
theorem dX8_skip_4 : decode cX8_skip 4 = .ok (.iload_n 1, 1) := by decide +kernel
theorem dX8_skip_5 : decode cX8_skip 5 = .ok (.if_icmp .eq 13, 3) := by decide +kernel
theorem dX8_skip_8 : decode cX8_skip 8 = .ok (.aload_n 0, 1) := by decide +kernel
theorem dX8_skip_9 : decode cX8_skip 9 = .ok (.aload_n 0, 1) := by decide +kernel
theorem dX8_skip_10 : decode cX8_skip 10 = .ok (.getfield 19, 3) := by decide +kernel
theorem dX8_skip_13 : decode cX8_skip 13 = .ok (.putfield 22, 3) := by decide +kernel
theorem dX8_skip_16 : decode cX8_skip 16 = .ok (.iconst 0, 1) := by decide +kernel
theorem dX8_skip_17 : decode cX8_skip 17 = .ok (.ireturn, 1) := by decide +kernel
theorem dX8_skip_18 : decode cX8_skip 18 = .ok (.aload_n 0, 1) := by decide +kernel
theorem dX8_skip_19 : decode cX8_skip 19 = .ok (.dup, 1) := by decide +kernel
theorem dX8_skip_20 : decode cX8_skip 20 = .ok (.getfield 19, 3) := by decide +kernel
theorem dX8_skip_23 : decode cX8_skip 23 = .ok (.iconst 1, 1) := by decide +kernel
theorem dX8_skip_24 : decode cX8_skip 24 = .ok (.iadd, 1) := by decide +kernel
theorem dX8_skip_25 : decode cX8_skip 25 = .ok (.putfield 19, 3) := by decide +kernel
theorem dX8_skip_28 : decode cX8_skip 28 = .ok (.iconst 1, 1) := by decide +kernel
theorem dX8_skip_29 : decode cX8_skip 29 = .ok (.ireturn, 1) := by decide +kernel
theorem dX8_open_0 : decode cX8_open 0 = .ok (.iload_n 2, 1) := by decide +kernel
theorem dX8_open_1 : decode cX8_open 1 = .ok (.bipush 6, 2) := by decide +kernel
theorem dX8_open_3 : decode cX8_open 3 = .ok (.if_icmp .gt 11, 3) := by decide +kernel
theorem dX8_open_6 : decode cX8_open 6 = .ok (.aload_n 0, 1) := by decide +kernel
theorem dX8_open_7 : decode cX8_open 7 = .ok (.invokevirtual 31, 3) := by decide +kernel
theorem dX8_open_10 : decode cX8_open 10 = .ok (.iload_n 1, 1) := by decide +kernel
theorem dX8_open_11 : decode cX8_open 11 = .ok (.if_icmp .eq 13, 3) := by decide +kernel
theorem dX8_open_14 : decode cX8_open 14 = .ok (.aload_n 0, 1) := by decide +kernel
theorem dX8_open_15 : decode cX8_open 15 = .ok (.aload_n 0, 1) := by decide +kernel
theorem dX8_open_16 : decode cX8_open 16 = .ok (.getfield 19, 3) := by decide +kernel
theorem dX8_open_19 : decode cX8_open 19 = .ok (.putfield 22, 3) := by decide +kernel
theorem dX8_open_22 : decode cX8_open 22 = .ok (.iconst 0, 1) := by decide +kernel
theorem dX8_open_23 : decode cX8_open 23 = .ok (.ireturn, 1) := by decide +kernel
theorem dX8_open_24 : decode cX8_open 24 = .ok (.aload_n 0, 1) := by decide +kernel
theorem dX8_open_25 : decode cX8_open 25 = .ok (.dup, 1) := by decide +kernel
theorem dX8_open_26 : decode cX8_open 26 = .ok (.getfield 19, 3) := by decide +kernel
theorem dX8_open_29 : decode cX8_open 29 = .ok (.iconst 1, 1) := by decide +kernel
theorem dX8_open_30 : decode cX8_open 30 = .ok (.iadd, 1) := by decide +kernel
theorem dX8_open_31 : decode cX8_open 31 = .ok (.putfield 19, 3) := by decide +kernel
theorem dX8_open_34 : decode cX8_open 34 = .ok (.iconst 1, 1) := by decide +kernel
theorem dX8_open_35 : decode cX8_open 35 = .ok (.ireturn, 1) := by decide +kernel
theorem dX8_isName_0 : decode cX8_isName 0 = .ok (.iload_n 0, 1) := by decide +kernel
theorem dX8_isName_1 : decode cX8_isName 1 = .ok (.bipush 97, 2) := by decide +kernel
theorem dX8_isName_3 : decode cX8_isName 3 = .ok (.if_icmp .lt 13, 3) := by decide +kernel
theorem dX8_isName_6 : decode cX8_isName 6 = .ok (.iload_n 0, 1) := by decide +kernel
theorem dX8_isName_7 : decode cX8_isName 7 = .ok (.bipush 105, 2) := by decide +kernel
theorem dX8_isName_9 : decode cX8_isName 9 = .ok (.if_icmp .ge 7, 3) := by decide +kernel
theorem dX8_isName_12 : decode cX8_isName 12 = .ok (.iconst 1, 1) := by decide +kernel
theorem dX8_isName_13 : decode cX8_isName 13 = .ok (.goto 4, 3) := by decide +kernel
theorem dX8_isName_16 : decode cX8_isName 16 = .ok (.iconst 0, 1) := by decide +kernel
theorem dX8_isName_17 : decode cX8_isName 17 = .ok (.ireturn, 1) := by decide +kernel
theorem dX8_isDigit_0 : decode cX8_isDigit 0 = .ok (.iload_n 0, 1) := by decide +kernel
theorem dX8_isDigit_1 : decode cX8_isDigit 1 = .ok (.bipush 48, 2) := by decide +kernel
theorem dX8_isDigit_3 : decode cX8_isDigit 3 = .ok (.if_icmp .lt 13, 3) := by decide +kernel
theorem dX8_isDigit_6 : decode cX8_isDigit 6 = .ok (.iload_n 0, 1) := by decide +kernel
theorem dX8_isDigit_7 : decode cX8_isDigit 7 = .ok (.bipush 57, 2) := by decide +kernel
theorem dX8_isDigit_9 : decode cX8_isDigit 9 = .ok (.if_icmp .gt 7, 3) := by decide +kernel
theorem dX8_isDigit_12 : decode cX8_isDigit 12 = .ok (.iconst 1, 1) := by decide +kernel
theorem dX8_isDigit_13 : decode cX8_isDigit 13 = .ok (.goto 4, 3) := by decide +kernel
theorem dX8_isDigit_16 : decode cX8_isDigit 16 = .ok (.iconst 0, 1) := by decide +kernel
theorem dX8_isDigit_17 : decode cX8_isDigit 17 = .ok (.ireturn, 1) := by decide +kernel
theorem dX8_atStatement_0 : decode cX8_atStatement 0 = .ok (.aload_n 0, 1) := by decide +kernel
theorem dX8_atStatement_1 : decode cX8_atStatement 1 = .ok (.invokevirtual 31, 3) := by decide +kernel
theorem dX8_atStatement_4 : decode cX8_atStatement 4 = .ok (.istore_n 1, 1) := by decide +kernel
theorem dX8_atStatement_5 : decode cX8_atStatement 5 = .ok (.iload_n 1, 1) := by decide +kernel
theorem dX8_atStatement_6 : decode cX8_atStatement 6 = .ok (.invokestatic 35, 3) := by decide +kernel
theorem dX8_atStatement_9 : decode cX8_atStatement 9 = .ok (.ifCond .ne 15, 3) := by decide +kernel
theorem dX8_atStatement_12 : decode cX8_atStatement 12 = .ok (.iload_n 1, 1) := by decide +kernel
theorem dX8_atStatement_13 : decode cX8_atStatement 13 = .ok (.bipush 63, 2) := by decide +kernel
theorem dX8_atStatement_15 : decode cX8_atStatement 15 = .ok (.if_icmp .eq 9, 3) := by decide +kernel
theorem dX8_atStatement_18 : decode cX8_atStatement 18 = .ok (.iload_n 1, 1) := by decide +kernel
theorem dX8_atStatement_19 : decode cX8_atStatement 19 = .ok (.bipush 42, 2) := by decide +kernel
theorem dX8_atStatement_21 : decode cX8_atStatement 21 = .ok (.if_icmp .ne 7, 3) := by decide +kernel
theorem dX8_atStatement_24 : decode cX8_atStatement 24 = .ok (.iconst 1, 1) := by decide +kernel
theorem dX8_atStatement_25 : decode cX8_atStatement 25 = .ok (.goto 4, 3) := by decide +kernel
theorem dX8_atStatement_28 : decode cX8_atStatement 28 = .ok (.iconst 0, 1) := by decide +kernel
theorem dX8_atStatement_29 : decode cX8_atStatement 29 = .ok (.ireturn, 1) := by decide +kernel
theorem dX8_readRow_0 : decode cX8_readRow 0 = .ok (.aconst_null, 1) := by decide +kernel
theorem dX8_readRow_1 : decode cX8_readRow 1 = .ok (.astore_n 2, 1) := by decide +kernel
theorem dX8_readRow_2 : decode cX8_readRow 2 = .ok (.aconst_null, 1) := by decide +kernel
theorem dX8_readRow_3 : decode cX8_readRow 3 = .ok (.astore_n 3, 1) := by decide +kernel
theorem dX8_readRow_4 : decode cX8_readRow 4 = .ok (.iconst 0, 1) := by decide +kernel
theorem dX8_readRow_5 : decode cX8_readRow 5 = .ok (.istore 4, 2) := by decide +kernel
theorem dX8_readRow_7 : decode cX8_readRow 7 = .ok (.iload 4, 2) := by decide +kernel
theorem dX8_readRow_9 : decode cX8_readRow 9 = .ok (.bipush 72, 2) := by decide +kernel
theorem dX8_readRow_11 : decode cX8_readRow 11 = .ok (.if_icmp .ge 49, 3) := by decide +kernel
theorem dX8_readRow_14 : decode cX8_readRow 14 = .ok (.aload_n 0, 1) := by decide +kernel
theorem dX8_readRow_15 : decode cX8_readRow 15 = .ok (.invokevirtual 39, 3) := by decide +kernel
theorem dX8_readRow_18 : decode cX8_readRow 18 = .ok (.ifCond .eq 42, 3) := by decide +kernel
theorem dX8_readRow_21 : decode cX8_readRow 21 = .ok (.aload_n 0, 1) := by decide +kernel
theorem dX8_readRow_22 : decode cX8_readRow 22 = .ok (.iload_n 1, 1) := by decide +kernel
theorem dX8_readRow_23 : decode cX8_readRow 23 = .ok (.invokevirtual 43, 3) := by decide +kernel
theorem dX8_readRow_26 : decode cX8_readRow 26 = .ok (.astore 5, 2) := by decide +kernel
theorem dX8_readRow_28 : decode cX8_readRow 28 = .ok (.aload 5, 2) := by decide +kernel
theorem dX8_readRow_30 : decode cX8_readRow 30 = .ok (.ifnonnull 5, 3) := by decide +kernel
theorem dX8_readRow_33 : decode cX8_readRow 33 = .ok (.aconst_null, 1) := by decide +kernel
theorem dX8_readRow_34 : decode cX8_readRow 34 = .ok (.areturn, 1) := by decide +kernel
theorem dX8_readRow_35 : decode cX8_readRow 35 = .ok (.aload_n 3, 1) := by decide +kernel
theorem dX8_readRow_36 : decode cX8_readRow 36 = .ok (.ifnonnull 9, 3) := by decide +kernel
theorem dX8_readRow_39 : decode cX8_readRow 39 = .ok (.aload 5, 2) := by decide +kernel
theorem dX8_readRow_41 : decode cX8_readRow 41 = .ok (.astore_n 2, 1) := by decide +kernel
theorem dX8_readRow_42 : decode cX8_readRow 42 = .ok (.goto 9, 3) := by decide +kernel
theorem dX8_readRow_45 : decode cX8_readRow 45 = .ok (.aload_n 3, 1) := by decide +kernel
theorem dX8_readRow_46 : decode cX8_readRow 46 = .ok (.aload 5, 2) := by decide +kernel
theorem dX8_readRow_48 : decode cX8_readRow 48 = .ok (.putfield 46, 3) := by decide +kernel
theorem dX8_readRow_51 : decode cX8_readRow 51 = .ok (.aload 5, 2) := by decide +kernel
theorem dX8_readRow_53 : decode cX8_readRow 53 = .ok (.astore_n 3, 1) := by decide +kernel
theorem dX8_readRow_54 : decode cX8_readRow 54 = .ok (.iinc 4 1, 3) := by decide +kernel
theorem dX8_readRow_57 : decode cX8_readRow 57 = .ok (.goto (-50), 3) := by decide +kernel
theorem dX8_readRow_60 : decode cX8_readRow 60 = .ok (.aload_n 2, 1) := by decide +kernel
theorem dX8_readRow_61 : decode cX8_readRow 61 = .ok (.areturn, 1) := by decide +kernel
theorem dX8_readStatement_0 : decode cX8_readStatement 0 = .ok (.aload_n 0, 1) := by decide +kernel
theorem dX8_readStatement_1 : decode cX8_readStatement 1 = .ok (.invokevirtual 31, 3) := by decide +kernel
theorem dX8_readStatement_4 : decode cX8_readStatement 4 = .ok (.istore_n 2, 1) := by decide +kernel
theorem dX8_readStatement_5 : decode cX8_readStatement 5 = .ok (.aload_n 0, 1) := by decide +kernel
theorem dX8_readStatement_6 : decode cX8_readStatement 6 = .ok (.dup, 1) := by decide +kernel
theorem dX8_readStatement_7 : decode cX8_readStatement 7 = .ok (.getfield 19, 3) := by decide +kernel
theorem dX8_readStatement_10 : decode cX8_readStatement 10 = .ok (.iconst 1, 1) := by decide +kernel
theorem dX8_readStatement_11 : decode cX8_readStatement 11 = .ok (.iadd, 1) := by decide +kernel
theorem dX8_readStatement_12 : decode cX8_readStatement 12 = .ok (.putfield 19, 3) := by decide +kernel
theorem dX8_readStatement_15 : decode cX8_readStatement 15 = .ok (.iload_n 2, 1) := by decide +kernel
theorem dX8_readStatement_16 : decode cX8_readStatement 16 = .ok (.bipush 63, 2) := by decide +kernel
theorem dX8_readStatement_18 : decode cX8_readStatement 18 = .ok (.if_icmp .ne 9, 3) := by decide +kernel
theorem dX8_readStatement_21 : decode cX8_readStatement 21 = .ok (.aload_n 0, 1) := by decide +kernel
theorem dX8_readStatement_22 : decode cX8_readStatement 22 = .ok (.iload_n 1, 1) := by decide +kernel
theorem dX8_readStatement_23 : decode cX8_readStatement 23 = .ok (.invokevirtual 52, 3) := by decide +kernel
theorem dX8_readStatement_26 : decode cX8_readStatement 26 = .ok (.areturn, 1) := by decide +kernel
theorem dX8_readStatement_27 : decode cX8_readStatement 27 = .ok (.iload_n 2, 1) := by decide +kernel
theorem dX8_readStatement_28 : decode cX8_readStatement 28 = .ok (.bipush 42, 2) := by decide +kernel
theorem dX8_readStatement_30 : decode cX8_readStatement 30 = .ok (.if_icmp .ne 11, 3) := by decide +kernel
theorem dX8_readStatement_33 : decode cX8_readStatement 33 = .ok (.aload_n 0, 1) := by decide +kernel
theorem dX8_readStatement_34 : decode cX8_readStatement 34 = .ok (.iload_n 1, 1) := by decide +kernel
theorem dX8_readStatement_35 : decode cX8_readStatement 35 = .ok (.invokevirtual 55, 3) := by decide +kernel
theorem dX8_readStatement_38 : decode cX8_readStatement 38 = .ok (.goto 12, 3) := by decide +kernel
theorem dX8_readStatement_41 : decode cX8_readStatement 41 = .ok (.aload_n 0, 1) := by decide +kernel
theorem dX8_readStatement_42 : decode cX8_readStatement 42 = .ok (.iload_n 2, 1) := by decide +kernel
theorem dX8_readStatement_43 : decode cX8_readStatement 43 = .ok (.bipush 97, 2) := by decide +kernel
theorem dX8_readStatement_45 : decode cX8_readStatement 45 = .ok (.isub, 1) := by decide +kernel
theorem dX8_readStatement_46 : decode cX8_readStatement 46 = .ok (.iload_n 1, 1) := by decide +kernel
theorem dX8_readStatement_47 : decode cX8_readStatement 47 = .ok (.invokevirtual 58, 3) := by decide +kernel
theorem dX8_readStatement_50 : decode cX8_readStatement 50 = .ok (.areturn, 1) := by decide +kernel
theorem dX8_readAssignment_0 : decode cX8_readAssignment 0 = .ok (.aload_n 0, 1) := by decide +kernel
theorem dX8_readAssignment_1 : decode cX8_readAssignment 1 = .ok (.bipush 61, 2) := by decide +kernel
theorem dX8_readAssignment_3 : decode cX8_readAssignment 3 = .ok (.invokevirtual 62, 3) := by decide +kernel
theorem dX8_readAssignment_6 : decode cX8_readAssignment 6 = .ok (.ifCond .ne 5, 3) := by decide +kernel
theorem dX8_readAssignment_9 : decode cX8_readAssignment 9 = .ok (.aconst_null, 1) := by decide +kernel
theorem dX8_readAssignment_10 : decode cX8_readAssignment 10 = .ok (.areturn, 1) := by decide +kernel
theorem dX8_readAssignment_11 : decode cX8_readAssignment 11 = .ok (.aload_n 0, 1) := by decide +kernel
theorem dX8_readAssignment_12 : decode cX8_readAssignment 12 = .ok (.iload_n 2, 1) := by decide +kernel
theorem dX8_readAssignment_13 : decode cX8_readAssignment 13 = .ok (.invokevirtual 65, 3) := by decide +kernel
theorem dX8_readAssignment_16 : decode cX8_readAssignment 16 = .ok (.astore_n 3, 1) := by decide +kernel
theorem dX8_readAssignment_17 : decode cX8_readAssignment 17 = .ok (.aload_n 3, 1) := by decide +kernel
theorem dX8_readAssignment_18 : decode cX8_readAssignment 18 = .ok (.ifnull 12, 3) := by decide +kernel
theorem dX8_readAssignment_21 : decode cX8_readAssignment 21 = .ok (.aload_n 0, 1) := by decide +kernel
theorem dX8_readAssignment_22 : decode cX8_readAssignment 22 = .ok (.bipush 59, 2) := by decide +kernel
theorem dX8_readAssignment_24 : decode cX8_readAssignment 24 = .ok (.invokevirtual 62, 3) := by decide +kernel
theorem dX8_readAssignment_27 : decode cX8_readAssignment 27 = .ok (.ifCond .ne 5, 3) := by decide +kernel
theorem dX8_readAssignment_30 : decode cX8_readAssignment 30 = .ok (.aconst_null, 1) := by decide +kernel
theorem dX8_readAssignment_31 : decode cX8_readAssignment 31 = .ok (.areturn, 1) := by decide +kernel
theorem dX8_readAssignment_32 : decode cX8_readAssignment 32 = .ok (.new 47, 3) := by decide +kernel
theorem dX8_readAssignment_35 : decode cX8_readAssignment 35 = .ok (.dup, 1) := by decide +kernel
theorem dX8_readAssignment_36 : decode cX8_readAssignment 36 = .ok (.iconst 3, 1) := by decide +kernel
theorem dX8_readAssignment_37 : decode cX8_readAssignment 37 = .ok (.iload_n 1, 1) := by decide +kernel
theorem dX8_readAssignment_38 : decode cX8_readAssignment 38 = .ok (.aload_n 3, 1) := by decide +kernel
theorem dX8_readAssignment_39 : decode cX8_readAssignment 39 = .ok (.aconst_null, 1) := by decide +kernel
theorem dX8_readAssignment_40 : decode cX8_readAssignment 40 = .ok (.aconst_null, 1) := by decide +kernel
theorem dX8_readAssignment_41 : decode cX8_readAssignment 41 = .ok (.invokespecial 68, 3) := by decide +kernel
theorem dX8_readAssignment_44 : decode cX8_readAssignment 44 = .ok (.areturn, 1) := by decide +kernel
theorem dX8_readChoice_0 : decode cX8_readChoice 0 = .ok (.aload_n 0, 1) := by decide +kernel
theorem dX8_readChoice_1 : decode cX8_readChoice 1 = .ok (.iload_n 1, 1) := by decide +kernel
theorem dX8_readChoice_2 : decode cX8_readChoice 2 = .ok (.invokevirtual 65, 3) := by decide +kernel
theorem dX8_readChoice_5 : decode cX8_readChoice 5 = .ok (.astore_n 2, 1) := by decide +kernel
theorem dX8_readChoice_6 : decode cX8_readChoice 6 = .ok (.aload_n 2, 1) := by decide +kernel
theorem dX8_readChoice_7 : decode cX8_readChoice 7 = .ok (.ifnonnull 5, 3) := by decide +kernel
theorem dX8_readChoice_10 : decode cX8_readChoice 10 = .ok (.aconst_null, 1) := by decide +kernel
theorem dX8_readChoice_11 : decode cX8_readChoice 11 = .ok (.areturn, 1) := by decide +kernel
theorem dX8_readChoice_12 : decode cX8_readChoice 12 = .ok (.aload_n 0, 1) := by decide +kernel
theorem dX8_readChoice_13 : decode cX8_readChoice 13 = .ok (.iload_n 1, 1) := by decide +kernel
theorem dX8_readChoice_14 : decode cX8_readChoice 14 = .ok (.iconst 1, 1) := by decide +kernel
theorem dX8_readChoice_15 : decode cX8_readChoice 15 = .ok (.iadd, 1) := by decide +kernel
theorem dX8_readChoice_16 : decode cX8_readChoice 16 = .ok (.invokevirtual 71, 3) := by decide +kernel
theorem dX8_readChoice_19 : decode cX8_readChoice 19 = .ok (.astore_n 3, 1) := by decide +kernel
theorem dX8_readChoice_20 : decode cX8_readChoice 20 = .ok (.aload_n 0, 1) := by decide +kernel
theorem dX8_readChoice_21 : decode cX8_readChoice 21 = .ok (.getfield 22, 3) := by decide +kernel
theorem dX8_readChoice_24 : decode cX8_readChoice 24 = .ok (.iconst (-1), 1) := by decide +kernel
theorem dX8_readChoice_25 : decode cX8_readChoice 25 = .ok (.if_icmp .eq 5, 3) := by decide +kernel
theorem dX8_readChoice_28 : decode cX8_readChoice 28 = .ok (.aconst_null, 1) := by decide +kernel
theorem dX8_readChoice_29 : decode cX8_readChoice 29 = .ok (.areturn, 1) := by decide +kernel
theorem dX8_readChoice_30 : decode cX8_readChoice 30 = .ok (.aload_n 0, 1) := by decide +kernel
theorem dX8_readChoice_31 : decode cX8_readChoice 31 = .ok (.iload_n 1, 1) := by decide +kernel
theorem dX8_readChoice_32 : decode cX8_readChoice 32 = .ok (.iconst 1, 1) := by decide +kernel
theorem dX8_readChoice_33 : decode cX8_readChoice 33 = .ok (.iadd, 1) := by decide +kernel
theorem dX8_readChoice_34 : decode cX8_readChoice 34 = .ok (.invokevirtual 71, 3) := by decide +kernel
theorem dX8_readChoice_37 : decode cX8_readChoice 37 = .ok (.astore 4, 2) := by decide +kernel
theorem dX8_readChoice_39 : decode cX8_readChoice 39 = .ok (.aload_n 0, 1) := by decide +kernel
theorem dX8_readChoice_40 : decode cX8_readChoice 40 = .ok (.getfield 22, 3) := by decide +kernel
theorem dX8_readChoice_43 : decode cX8_readChoice 43 = .ok (.iconst (-1), 1) := by decide +kernel
theorem dX8_readChoice_44 : decode cX8_readChoice 44 = .ok (.if_icmp .ne 19, 3) := by decide +kernel
theorem dX8_readChoice_47 : decode cX8_readChoice 47 = .ok (.new 47, 3) := by decide +kernel
theorem dX8_readChoice_50 : decode cX8_readChoice 50 = .ok (.dup, 1) := by decide +kernel
theorem dX8_readChoice_51 : decode cX8_readChoice 51 = .ok (.iconst 4, 1) := by decide +kernel
theorem dX8_readChoice_52 : decode cX8_readChoice 52 = .ok (.iconst 0, 1) := by decide +kernel
theorem dX8_readChoice_53 : decode cX8_readChoice 53 = .ok (.aload_n 2, 1) := by decide +kernel
theorem dX8_readChoice_54 : decode cX8_readChoice 54 = .ok (.aload_n 3, 1) := by decide +kernel
theorem dX8_readChoice_55 : decode cX8_readChoice 55 = .ok (.aload 4, 2) := by decide +kernel
theorem dX8_readChoice_57 : decode cX8_readChoice 57 = .ok (.invokespecial 68, 3) := by decide +kernel
theorem dX8_readChoice_60 : decode cX8_readChoice 60 = .ok (.goto 4, 3) := by decide +kernel
theorem dX8_readChoice_63 : decode cX8_readChoice 63 = .ok (.aconst_null, 1) := by decide +kernel
theorem dX8_readChoice_64 : decode cX8_readChoice 64 = .ok (.areturn, 1) := by decide +kernel
theorem dX8_readLoop_0 : decode cX8_readLoop 0 = .ok (.aload_n 0, 1) := by decide +kernel
theorem dX8_readLoop_1 : decode cX8_readLoop 1 = .ok (.iload_n 1, 1) := by decide +kernel
theorem dX8_readLoop_2 : decode cX8_readLoop 2 = .ok (.invokevirtual 65, 3) := by decide +kernel
theorem dX8_readLoop_5 : decode cX8_readLoop 5 = .ok (.astore_n 2, 1) := by decide +kernel
theorem dX8_readLoop_6 : decode cX8_readLoop 6 = .ok (.aload_n 2, 1) := by decide +kernel
theorem dX8_readLoop_7 : decode cX8_readLoop 7 = .ok (.ifnonnull 5, 3) := by decide +kernel
theorem dX8_readLoop_10 : decode cX8_readLoop 10 = .ok (.aconst_null, 1) := by decide +kernel
theorem dX8_readLoop_11 : decode cX8_readLoop 11 = .ok (.areturn, 1) := by decide +kernel
theorem dX8_readLoop_12 : decode cX8_readLoop 12 = .ok (.aload_n 0, 1) := by decide +kernel
theorem dX8_readLoop_13 : decode cX8_readLoop 13 = .ok (.iload_n 1, 1) := by decide +kernel
theorem dX8_readLoop_14 : decode cX8_readLoop 14 = .ok (.iconst 1, 1) := by decide +kernel
theorem dX8_readLoop_15 : decode cX8_readLoop 15 = .ok (.iadd, 1) := by decide +kernel
theorem dX8_readLoop_16 : decode cX8_readLoop 16 = .ok (.invokevirtual 71, 3) := by decide +kernel
theorem dX8_readLoop_19 : decode cX8_readLoop 19 = .ok (.astore_n 3, 1) := by decide +kernel
theorem dX8_readLoop_20 : decode cX8_readLoop 20 = .ok (.aload_n 0, 1) := by decide +kernel
theorem dX8_readLoop_21 : decode cX8_readLoop 21 = .ok (.getfield 22, 3) := by decide +kernel
theorem dX8_readLoop_24 : decode cX8_readLoop 24 = .ok (.iconst (-1), 1) := by decide +kernel
theorem dX8_readLoop_25 : decode cX8_readLoop 25 = .ok (.if_icmp .ne 18, 3) := by decide +kernel
theorem dX8_readLoop_28 : decode cX8_readLoop 28 = .ok (.new 47, 3) := by decide +kernel
theorem dX8_readLoop_31 : decode cX8_readLoop 31 = .ok (.dup, 1) := by decide +kernel
theorem dX8_readLoop_32 : decode cX8_readLoop 32 = .ok (.iconst 5, 1) := by decide +kernel
theorem dX8_readLoop_33 : decode cX8_readLoop 33 = .ok (.iconst 0, 1) := by decide +kernel
theorem dX8_readLoop_34 : decode cX8_readLoop 34 = .ok (.aload_n 2, 1) := by decide +kernel
theorem dX8_readLoop_35 : decode cX8_readLoop 35 = .ok (.aload_n 3, 1) := by decide +kernel
theorem dX8_readLoop_36 : decode cX8_readLoop 36 = .ok (.aconst_null, 1) := by decide +kernel
theorem dX8_readLoop_37 : decode cX8_readLoop 37 = .ok (.invokespecial 68, 3) := by decide +kernel
theorem dX8_readLoop_40 : decode cX8_readLoop 40 = .ok (.goto 4, 3) := by decide +kernel
theorem dX8_readLoop_43 : decode cX8_readLoop 43 = .ok (.aconst_null, 1) := by decide +kernel
theorem dX8_readLoop_44 : decode cX8_readLoop 44 = .ok (.areturn, 1) := by decide +kernel
theorem dX8_readBlock_0 : decode cX8_readBlock 0 = .ok (.aload_n 0, 1) := by decide +kernel
theorem dX8_readBlock_1 : decode cX8_readBlock 1 = .ok (.bipush 123, 2) := by decide +kernel
theorem dX8_readBlock_3 : decode cX8_readBlock 3 = .ok (.iload_n 1, 1) := by decide +kernel
theorem dX8_readBlock_4 : decode cX8_readBlock 4 = .ok (.invokevirtual 74, 3) := by decide +kernel
theorem dX8_readBlock_7 : decode cX8_readBlock 7 = .ok (.ifCond .ne 5, 3) := by decide +kernel
theorem dX8_readBlock_10 : decode cX8_readBlock 10 = .ok (.aconst_null, 1) := by decide +kernel
theorem dX8_readBlock_11 : decode cX8_readBlock 11 = .ok (.areturn, 1) := by decide +kernel
theorem dX8_readBlock_12 : decode cX8_readBlock 12 = .ok (.aload_n 0, 1) := by decide +kernel
theorem dX8_readBlock_13 : decode cX8_readBlock 13 = .ok (.iload_n 1, 1) := by decide +kernel
theorem dX8_readBlock_14 : decode cX8_readBlock 14 = .ok (.invokevirtual 27, 3) := by decide +kernel
theorem dX8_readBlock_17 : decode cX8_readBlock 17 = .ok (.astore_n 2, 1) := by decide +kernel
theorem dX8_readBlock_18 : decode cX8_readBlock 18 = .ok (.aload_n 0, 1) := by decide +kernel
theorem dX8_readBlock_19 : decode cX8_readBlock 19 = .ok (.getfield 22, 3) := by decide +kernel
theorem dX8_readBlock_22 : decode cX8_readBlock 22 = .ok (.iconst (-1), 1) := by decide +kernel
theorem dX8_readBlock_23 : decode cX8_readBlock 23 = .ok (.if_icmp .ne 16, 3) := by decide +kernel
theorem dX8_readBlock_26 : decode cX8_readBlock 26 = .ok (.aload_n 0, 1) := by decide +kernel
theorem dX8_readBlock_27 : decode cX8_readBlock 27 = .ok (.bipush 125, 2) := by decide +kernel
theorem dX8_readBlock_29 : decode cX8_readBlock 29 = .ok (.invokevirtual 62, 3) := by decide +kernel
theorem dX8_readBlock_32 : decode cX8_readBlock 32 = .ok (.ifCond .eq 7, 3) := by decide +kernel
theorem dX8_readBlock_35 : decode cX8_readBlock 35 = .ok (.aload_n 2, 1) := by decide +kernel
theorem dX8_readBlock_36 : decode cX8_readBlock 36 = .ok (.goto 4, 3) := by decide +kernel
theorem dX8_readBlock_39 : decode cX8_readBlock 39 = .ok (.aconst_null, 1) := by decide +kernel
theorem dX8_readBlock_40 : decode cX8_readBlock 40 = .ok (.areturn, 1) := by decide +kernel
theorem dX8_readExpression_0 : decode cX8_readExpression 0 = .ok (.aload_n 0, 1) := by decide +kernel
theorem dX8_readExpression_1 : decode cX8_readExpression 1 = .ok (.invokevirtual 31, 3) := by decide +kernel
theorem dX8_readExpression_4 : decode cX8_readExpression 4 = .ok (.istore_n 2, 1) := by decide +kernel
theorem dX8_readExpression_5 : decode cX8_readExpression 5 = .ok (.iload_n 2, 1) := by decide +kernel
theorem dX8_readExpression_6 : decode cX8_readExpression 6 = .ok (.invokestatic 78, 3) := by decide +kernel
theorem dX8_readExpression_9 : decode cX8_readExpression 9 = .ok (.ifCond .eq 8, 3) := by decide +kernel
theorem dX8_readExpression_12 : decode cX8_readExpression 12 = .ok (.aload_n 0, 1) := by decide +kernel
theorem dX8_readExpression_13 : decode cX8_readExpression 13 = .ok (.invokevirtual 81, 3) := by decide +kernel
theorem dX8_readExpression_16 : decode cX8_readExpression 16 = .ok (.areturn, 1) := by decide +kernel
theorem dX8_readExpression_17 : decode cX8_readExpression 17 = .ok (.iload_n 2, 1) := by decide +kernel
theorem dX8_readExpression_18 : decode cX8_readExpression 18 = .ok (.invokestatic 35, 3) := by decide +kernel
theorem dX8_readExpression_21 : decode cX8_readExpression 21 = .ok (.ifCond .eq 29, 3) := by decide +kernel
theorem dX8_readExpression_24 : decode cX8_readExpression 24 = .ok (.aload_n 0, 1) := by decide +kernel
theorem dX8_readExpression_25 : decode cX8_readExpression 25 = .ok (.dup, 1) := by decide +kernel
theorem dX8_readExpression_26 : decode cX8_readExpression 26 = .ok (.getfield 19, 3) := by decide +kernel
theorem dX8_readExpression_29 : decode cX8_readExpression 29 = .ok (.iconst 1, 1) := by decide +kernel
theorem dX8_readExpression_30 : decode cX8_readExpression 30 = .ok (.iadd, 1) := by decide +kernel
theorem dX8_readExpression_31 : decode cX8_readExpression 31 = .ok (.putfield 19, 3) := by decide +kernel
theorem dX8_readExpression_34 : decode cX8_readExpression 34 = .ok (.new 47, 3) := by decide +kernel
theorem dX8_readExpression_37 : decode cX8_readExpression 37 = .ok (.dup, 1) := by decide +kernel
theorem dX8_readExpression_38 : decode cX8_readExpression 38 = .ok (.iconst 1, 1) := by decide +kernel
theorem dX8_readExpression_39 : decode cX8_readExpression 39 = .ok (.iload_n 2, 1) := by decide +kernel
theorem dX8_readExpression_40 : decode cX8_readExpression 40 = .ok (.bipush 97, 2) := by decide +kernel
theorem dX8_readExpression_42 : decode cX8_readExpression 42 = .ok (.isub, 1) := by decide +kernel
theorem dX8_readExpression_43 : decode cX8_readExpression 43 = .ok (.aconst_null, 1) := by decide +kernel
theorem dX8_readExpression_44 : decode cX8_readExpression 44 = .ok (.aconst_null, 1) := by decide +kernel
theorem dX8_readExpression_45 : decode cX8_readExpression 45 = .ok (.aconst_null, 1) := by decide +kernel
theorem dX8_readExpression_46 : decode cX8_readExpression 46 = .ok (.invokespecial 68, 3) := by decide +kernel
theorem dX8_readExpression_49 : decode cX8_readExpression 49 = .ok (.areturn, 1) := by decide +kernel
theorem dX8_readExpression_50 : decode cX8_readExpression 50 = .ok (.aload_n 0, 1) := by decide +kernel
theorem dX8_readExpression_51 : decode cX8_readExpression 51 = .ok (.iload_n 1, 1) := by decide +kernel
theorem dX8_readExpression_52 : decode cX8_readExpression 52 = .ok (.iconst 1, 1) := by decide +kernel
theorem dX8_readExpression_53 : decode cX8_readExpression 53 = .ok (.iadd, 1) := by decide +kernel
theorem dX8_readExpression_54 : decode cX8_readExpression 54 = .ok (.invokevirtual 85, 3) := by decide +kernel
theorem dX8_readExpression_57 : decode cX8_readExpression 57 = .ok (.areturn, 1) := by decide +kernel
theorem dX8_readNumber_0 : decode cX8_readNumber 0 = .ok (.iconst 0, 1) := by decide +kernel
theorem dX8_readNumber_1 : decode cX8_readNumber 1 = .ok (.istore_n 1, 1) := by decide +kernel
theorem dX8_readNumber_2 : decode cX8_readNumber 2 = .ok (.iconst 0, 1) := by decide +kernel
theorem dX8_readNumber_3 : decode cX8_readNumber 3 = .ok (.istore_n 2, 1) := by decide +kernel
theorem dX8_readNumber_4 : decode cX8_readNumber 4 = .ok (.iload_n 2, 1) := by decide +kernel
theorem dX8_readNumber_5 : decode cX8_readNumber 5 = .ok (.iconst 3, 1) := by decide +kernel
theorem dX8_readNumber_6 : decode cX8_readNumber 6 = .ok (.if_icmp .ge 42, 3) := by decide +kernel
theorem dX8_readNumber_9 : decode cX8_readNumber 9 = .ok (.aload_n 0, 1) := by decide +kernel
theorem dX8_readNumber_10 : decode cX8_readNumber 10 = .ok (.invokevirtual 31, 3) := by decide +kernel
theorem dX8_readNumber_13 : decode cX8_readNumber 13 = .ok (.invokestatic 78, 3) := by decide +kernel
theorem dX8_readNumber_16 : decode cX8_readNumber 16 = .ok (.ifCond .eq 32, 3) := by decide +kernel
theorem dX8_readNumber_19 : decode cX8_readNumber 19 = .ok (.iload_n 1, 1) := by decide +kernel
theorem dX8_readNumber_20 : decode cX8_readNumber 20 = .ok (.bipush 10, 2) := by decide +kernel
theorem dX8_readNumber_22 : decode cX8_readNumber 22 = .ok (.imul, 1) := by decide +kernel
theorem dX8_readNumber_23 : decode cX8_readNumber 23 = .ok (.aload_n 0, 1) := by decide +kernel
theorem dX8_readNumber_24 : decode cX8_readNumber 24 = .ok (.invokevirtual 31, 3) := by decide +kernel
theorem dX8_readNumber_27 : decode cX8_readNumber 27 = .ok (.iadd, 1) := by decide +kernel
theorem dX8_readNumber_28 : decode cX8_readNumber 28 = .ok (.bipush 48, 2) := by decide +kernel
theorem dX8_readNumber_30 : decode cX8_readNumber 30 = .ok (.isub, 1) := by decide +kernel
theorem dX8_readNumber_31 : decode cX8_readNumber 31 = .ok (.istore_n 1, 1) := by decide +kernel
theorem dX8_readNumber_32 : decode cX8_readNumber 32 = .ok (.aload_n 0, 1) := by decide +kernel
theorem dX8_readNumber_33 : decode cX8_readNumber 33 = .ok (.dup, 1) := by decide +kernel
theorem dX8_readNumber_34 : decode cX8_readNumber 34 = .ok (.getfield 19, 3) := by decide +kernel
theorem dX8_readNumber_37 : decode cX8_readNumber 37 = .ok (.iconst 1, 1) := by decide +kernel
theorem dX8_readNumber_38 : decode cX8_readNumber 38 = .ok (.iadd, 1) := by decide +kernel
theorem dX8_readNumber_39 : decode cX8_readNumber 39 = .ok (.putfield 19, 3) := by decide +kernel
theorem dX8_readNumber_42 : decode cX8_readNumber 42 = .ok (.iinc 2 1, 3) := by decide +kernel
theorem dX8_readNumber_45 : decode cX8_readNumber 45 = .ok (.goto (-41), 3) := by decide +kernel
theorem dX8_readNumber_48 : decode cX8_readNumber 48 = .ok (.new 47, 3) := by decide +kernel
theorem dX8_readNumber_51 : decode cX8_readNumber 51 = .ok (.dup, 1) := by decide +kernel
theorem dX8_readNumber_52 : decode cX8_readNumber 52 = .ok (.iconst 0, 1) := by decide +kernel
theorem dX8_readNumber_53 : decode cX8_readNumber 53 = .ok (.iload_n 1, 1) := by decide +kernel
theorem dX8_readNumber_54 : decode cX8_readNumber 54 = .ok (.aconst_null, 1) := by decide +kernel
theorem dX8_readNumber_55 : decode cX8_readNumber 55 = .ok (.aconst_null, 1) := by decide +kernel
theorem dX8_readNumber_56 : decode cX8_readNumber 56 = .ok (.aconst_null, 1) := by decide +kernel
theorem dX8_readNumber_57 : decode cX8_readNumber 57 = .ok (.invokespecial 68, 3) := by decide +kernel
theorem dX8_readNumber_60 : decode cX8_readNumber 60 = .ok (.areturn, 1) := by decide +kernel
theorem dX8_readBrackets_0 : decode cX8_readBrackets 0 = .ok (.aload_n 0, 1) := by decide +kernel
theorem dX8_readBrackets_1 : decode cX8_readBrackets 1 = .ok (.bipush 40, 2) := by decide +kernel
theorem dX8_readBrackets_3 : decode cX8_readBrackets 3 = .ok (.iload_n 1, 1) := by decide +kernel
theorem dX8_readBrackets_4 : decode cX8_readBrackets 4 = .ok (.invokevirtual 74, 3) := by decide +kernel
theorem dX8_readBrackets_7 : decode cX8_readBrackets 7 = .ok (.ifCond .ne 5, 3) := by decide +kernel
theorem dX8_readBrackets_10 : decode cX8_readBrackets 10 = .ok (.aconst_null, 1) := by decide +kernel
theorem dX8_readBrackets_11 : decode cX8_readBrackets 11 = .ok (.areturn, 1) := by decide +kernel
theorem dX8_readBrackets_12 : decode cX8_readBrackets 12 = .ok (.aload_n 0, 1) := by decide +kernel
theorem dX8_readBrackets_13 : decode cX8_readBrackets 13 = .ok (.iload_n 1, 1) := by decide +kernel
theorem dX8_readBrackets_14 : decode cX8_readBrackets 14 = .ok (.invokevirtual 65, 3) := by decide +kernel
theorem dX8_readBrackets_17 : decode cX8_readBrackets 17 = .ok (.astore_n 2, 1) := by decide +kernel
theorem dX8_readBrackets_18 : decode cX8_readBrackets 18 = .ok (.aload_n 2, 1) := by decide +kernel
theorem dX8_readBrackets_19 : decode cX8_readBrackets 19 = .ok (.ifnonnull 7, 3) := by decide +kernel
theorem dX8_readBrackets_22 : decode cX8_readBrackets 22 = .ok (.iconst (-1), 1) := by decide +kernel
theorem dX8_readBrackets_23 : decode cX8_readBrackets 23 = .ok (.goto 7, 3) := by decide +kernel
theorem dX8_readBrackets_26 : decode cX8_readBrackets 26 = .ok (.aload_n 0, 1) := by decide +kernel
theorem dX8_readBrackets_27 : decode cX8_readBrackets 27 = .ok (.invokevirtual 88, 3) := by decide +kernel
theorem dX8_readBrackets_30 : decode cX8_readBrackets 30 = .ok (.istore_n 3, 1) := by decide +kernel
theorem dX8_readBrackets_31 : decode cX8_readBrackets 31 = .ok (.iload_n 3, 1) := by decide +kernel
theorem dX8_readBrackets_32 : decode cX8_readBrackets 32 = .ok (.iconst (-1), 1) := by decide +kernel
theorem dX8_readBrackets_33 : decode cX8_readBrackets 33 = .ok (.if_icmp .ne 5, 3) := by decide +kernel
theorem dX8_readBrackets_36 : decode cX8_readBrackets 36 = .ok (.aconst_null, 1) := by decide +kernel
theorem dX8_readBrackets_37 : decode cX8_readBrackets 37 = .ok (.areturn, 1) := by decide +kernel
theorem dX8_readBrackets_38 : decode cX8_readBrackets 38 = .ok (.aload_n 0, 1) := by decide +kernel
theorem dX8_readBrackets_39 : decode cX8_readBrackets 39 = .ok (.iload_n 1, 1) := by decide +kernel
theorem dX8_readBrackets_40 : decode cX8_readBrackets 40 = .ok (.invokevirtual 65, 3) := by decide +kernel
theorem dX8_readBrackets_43 : decode cX8_readBrackets 43 = .ok (.astore 4, 2) := by decide +kernel
theorem dX8_readBrackets_45 : decode cX8_readBrackets 45 = .ok (.aload 4, 2) := by decide +kernel
theorem dX8_readBrackets_47 : decode cX8_readBrackets 47 = .ok (.ifnull 28, 3) := by decide +kernel
theorem dX8_readBrackets_50 : decode cX8_readBrackets 50 = .ok (.aload_n 0, 1) := by decide +kernel
theorem dX8_readBrackets_51 : decode cX8_readBrackets 51 = .ok (.bipush 41, 2) := by decide +kernel
theorem dX8_readBrackets_53 : decode cX8_readBrackets 53 = .ok (.invokevirtual 62, 3) := by decide +kernel
theorem dX8_readBrackets_56 : decode cX8_readBrackets 56 = .ok (.ifCond .eq 19, 3) := by decide +kernel
theorem dX8_readBrackets_59 : decode cX8_readBrackets 59 = .ok (.new 47, 3) := by decide +kernel
theorem dX8_readBrackets_62 : decode cX8_readBrackets 62 = .ok (.dup, 1) := by decide +kernel
theorem dX8_readBrackets_63 : decode cX8_readBrackets 63 = .ok (.iconst 2, 1) := by decide +kernel
theorem dX8_readBrackets_64 : decode cX8_readBrackets 64 = .ok (.iload_n 3, 1) := by decide +kernel
theorem dX8_readBrackets_65 : decode cX8_readBrackets 65 = .ok (.aconst_null, 1) := by decide +kernel
theorem dX8_readBrackets_66 : decode cX8_readBrackets 66 = .ok (.aload_n 2, 1) := by decide +kernel
theorem dX8_readBrackets_67 : decode cX8_readBrackets 67 = .ok (.aload 4, 2) := by decide +kernel
theorem dX8_readBrackets_69 : decode cX8_readBrackets 69 = .ok (.invokespecial 68, 3) := by decide +kernel
theorem dX8_readBrackets_72 : decode cX8_readBrackets 72 = .ok (.goto 4, 3) := by decide +kernel
theorem dX8_readBrackets_75 : decode cX8_readBrackets 75 = .ok (.aconst_null, 1) := by decide +kernel
theorem dX8_readBrackets_76 : decode cX8_readBrackets 76 = .ok (.areturn, 1) := by decide +kernel
theorem dX8_readOperation_0 : decode cX8_readOperation 0 = .ok (.aload_n 0, 1) := by decide +kernel
theorem dX8_readOperation_1 : decode cX8_readOperation 1 = .ok (.invokevirtual 31, 3) := by decide +kernel
theorem dX8_readOperation_4 : decode cX8_readOperation 4 = .ok (.lookupswitch 65 #[(42, 54), (43, 44), (45, 49), (60, 59)], 44) := by decide +kernel
theorem dX8_readOperation_48 : decode cX8_readOperation 48 = .ok (.iconst 3, 1) := by decide +kernel
theorem dX8_readOperation_49 : decode cX8_readOperation 49 = .ok (.istore_n 1, 1) := by decide +kernel
theorem dX8_readOperation_50 : decode cX8_readOperation 50 = .ok (.goto 29, 3) := by decide +kernel
theorem dX8_readOperation_53 : decode cX8_readOperation 53 = .ok (.iconst 4, 1) := by decide +kernel
theorem dX8_readOperation_54 : decode cX8_readOperation 54 = .ok (.istore_n 1, 1) := by decide +kernel
theorem dX8_readOperation_55 : decode cX8_readOperation 55 = .ok (.goto 24, 3) := by decide +kernel
theorem dX8_readOperation_58 : decode cX8_readOperation 58 = .ok (.iconst 5, 1) := by decide +kernel
theorem dX8_readOperation_59 : decode cX8_readOperation 59 = .ok (.istore_n 1, 1) := by decide +kernel
theorem dX8_readOperation_60 : decode cX8_readOperation 60 = .ok (.goto 19, 3) := by decide +kernel
theorem dX8_readOperation_63 : decode cX8_readOperation 63 = .ok (.bipush 6, 2) := by decide +kernel
theorem dX8_readOperation_65 : decode cX8_readOperation 65 = .ok (.istore_n 1, 1) := by decide +kernel
theorem dX8_readOperation_66 : decode cX8_readOperation 66 = .ok (.goto 13, 3) := by decide +kernel
theorem dX8_readOperation_69 : decode cX8_readOperation 69 = .ok (.aload_n 0, 1) := by decide +kernel
theorem dX8_readOperation_70 : decode cX8_readOperation 70 = .ok (.aload_n 0, 1) := by decide +kernel
theorem dX8_readOperation_71 : decode cX8_readOperation 71 = .ok (.getfield 19, 3) := by decide +kernel
theorem dX8_readOperation_74 : decode cX8_readOperation 74 = .ok (.putfield 22, 3) := by decide +kernel
theorem dX8_readOperation_77 : decode cX8_readOperation 77 = .ok (.iconst (-1), 1) := by decide +kernel
theorem dX8_readOperation_78 : decode cX8_readOperation 78 = .ok (.ireturn, 1) := by decide +kernel
theorem dX8_readOperation_79 : decode cX8_readOperation 79 = .ok (.aload_n 0, 1) := by decide +kernel
theorem dX8_readOperation_80 : decode cX8_readOperation 80 = .ok (.dup, 1) := by decide +kernel
theorem dX8_readOperation_81 : decode cX8_readOperation 81 = .ok (.getfield 19, 3) := by decide +kernel
theorem dX8_readOperation_84 : decode cX8_readOperation 84 = .ok (.iconst 1, 1) := by decide +kernel
theorem dX8_readOperation_85 : decode cX8_readOperation 85 = .ok (.iadd, 1) := by decide +kernel
theorem dX8_readOperation_86 : decode cX8_readOperation 86 = .ok (.putfield 19, 3) := by decide +kernel
theorem dX8_readOperation_89 : decode cX8_readOperation 89 = .ok (.iload_n 1, 1) := by decide +kernel
theorem dX8_readOperation_90 : decode cX8_readOperation 90 = .ok (.ireturn, 1) := by decide +kernel
theorem dX9_init_0 : decode cX9_init 0 = .ok (.aload_n 0, 1) := by decide +kernel
theorem dX9_init_1 : decode cX9_init 1 = .ok (.invokespecial 3, 3) := by decide +kernel
theorem dX9_init_4 : decode cX9_init 4 = .ok (.aload_n 0, 1) := by decide +kernel
theorem dX9_init_5 : decode cX9_init 5 = .ok (.new 9, 3) := by decide +kernel
theorem dX9_init_8 : decode cX9_init 8 = .ok (.dup, 1) := by decide +kernel
theorem dX9_init_9 : decode cX9_init 9 = .ok (.invokespecial 11, 3) := by decide +kernel
theorem dX9_init_12 : decode cX9_init 12 = .ok (.putfield 12, 3) := by decide +kernel
theorem dX9_init_15 : decode cX9_init 15 = .ok (.aload_n 0, 1) := by decide +kernel
theorem dX9_init_16 : decode cX9_init 16 = .ok (.new 9, 3) := by decide +kernel
theorem dX9_init_19 : decode cX9_init 19 = .ok (.dup, 1) := by decide +kernel
theorem dX9_init_20 : decode cX9_init 20 = .ok (.invokespecial 11, 3) := by decide +kernel
theorem dX9_init_23 : decode cX9_init 23 = .ok (.putfield 18, 3) := by decide +kernel
theorem dX9_init_26 : decode cX9_init 26 = .ok (.aload_n 0, 1) := by decide +kernel
theorem dX9_init_27 : decode cX9_init 27 = .ok (.bipush 100, 2) := by decide +kernel
theorem dX9_init_29 : decode cX9_init 29 = .ok (.newarray .int, 2) := by decide +kernel
theorem dX9_init_31 : decode cX9_init 31 = .ok (.putfield 21, 3) := by decide +kernel
theorem dX9_init_34 : decode cX9_init 34 = .ok (.aload_n 0, 1) := by decide +kernel
theorem dX9_init_35 : decode cX9_init 35 = .ok (.iconst 0, 1) := by decide +kernel
theorem dX9_init_36 : decode cX9_init 36 = .ok (.putfield 25, 3) := by decide +kernel
theorem dX9_init_39 : decode cX9_init 39 = .ok (.aload_n 0, 1) := by decide +kernel
theorem dX9_init_40 : decode cX9_init 40 = .ok (.aload_n 1, 1) := by decide +kernel
theorem dX9_init_41 : decode cX9_init 41 = .ok (.putfield 29, 3) := by decide +kernel
theorem dX9_init_44 : decode cX9_init 44 = .ok (.aload_n 0, 1) := by decide +kernel
theorem dX9_init_45 : decode cX9_init 45 = .ok (.aload_n 2, 1) := by decide +kernel
theorem dX9_init_46 : decode cX9_init 46 = .ok (.putfield 33, 3) := by decide +kernel
theorem dX9_init_49 : decode cX9_init 49 = .ok (.return_, 1) := by decide +kernel
theorem dX9_workOut_0 : decode cX9_workOut 0 = .ok (.aload_n 0, 1) := by decide +kernel
theorem dX9_workOut_1 : decode cX9_workOut 1 = .ok (.invokevirtual 37, 3) := by decide +kernel
theorem dX9_workOut_4 : decode cX9_workOut 4 = .ok (.iconst 0, 1) := by decide +kernel
theorem dX9_workOut_5 : decode cX9_workOut 5 = .ok (.istore_n 1, 1) := by decide +kernel
theorem dX9_workOut_6 : decode cX9_workOut 6 = .ok (.iload_n 1, 1) := by decide +kernel
theorem dX9_workOut_7 : decode cX9_workOut 7 = .ok (.aload_n 0, 1) := by decide +kernel
theorem dX9_workOut_8 : decode cX9_workOut 8 = .ok (.getfield 29, 3) := by decide +kernel
theorem dX9_workOut_11 : decode cX9_workOut 11 = .ok (.invokevirtual 40, 3) := by decide +kernel
theorem dX9_workOut_14 : decode cX9_workOut 14 = .ok (.if_icmp .ge 48, 3) := by decide +kernel
theorem dX9_workOut_17 : decode cX9_workOut 17 = .ok (.aload_n 0, 1) := by decide +kernel
theorem dX9_workOut_18 : decode cX9_workOut 18 = .ok (.getfield 18, 3) := by decide +kernel
theorem dX9_workOut_21 : decode cX9_workOut 21 = .ok (.iload_n 1, 1) := by decide +kernel
theorem dX9_workOut_22 : decode cX9_workOut 22 = .ok (.iconst 0, 1) := by decide +kernel
theorem dX9_workOut_23 : decode cX9_workOut 23 = .ok (.invokevirtual 46, 3) := by decide +kernel
theorem dX9_workOut_26 : decode cX9_workOut 26 = .ok (.aload_n 0, 1) := by decide +kernel
theorem dX9_workOut_27 : decode cX9_workOut 27 = .ok (.getfield 33, 3) := by decide +kernel
theorem dX9_workOut_30 : decode cX9_workOut 30 = .ok (.iload_n 1, 1) := by decide +kernel
theorem dX9_workOut_31 : decode cX9_workOut 31 = .ok (.invokevirtual 50, 3) := by decide +kernel
theorem dX9_workOut_34 : decode cX9_workOut 34 = .ok (.iconst (-1), 1) := by decide +kernel
theorem dX9_workOut_35 : decode cX9_workOut 35 = .ok (.if_icmp .eq 21, 3) := by decide +kernel
theorem dX9_workOut_38 : decode cX9_workOut 38 = .ok (.aload_n 0, 1) := by decide +kernel
theorem dX9_workOut_39 : decode cX9_workOut 39 = .ok (.getfield 29, 3) := by decide +kernel
theorem dX9_workOut_42 : decode cX9_workOut 42 = .ok (.iload_n 1, 1) := by decide +kernel
theorem dX9_workOut_43 : decode cX9_workOut 43 = .ok (.invokevirtual 56, 3) := by decide +kernel
theorem dX9_workOut_46 : decode cX9_workOut 46 = .ok (.bipush 7, 2) := by decide +kernel
theorem dX9_workOut_48 : decode cX9_workOut 48 = .ok (.if_icmp .ne 8, 3) := by decide +kernel
theorem dX9_workOut_51 : decode cX9_workOut 51 = .ok (.aload_n 0, 1) := by decide +kernel
theorem dX9_workOut_52 : decode cX9_workOut 52 = .ok (.iload_n 1, 1) := by decide +kernel
theorem dX9_workOut_53 : decode cX9_workOut 53 = .ok (.invokevirtual 59, 3) := by decide +kernel
theorem dX9_workOut_56 : decode cX9_workOut 56 = .ok (.iinc 1 1, 3) := by decide +kernel
theorem dX9_workOut_59 : decode cX9_workOut 59 = .ok (.goto (-53), 3) := by decide +kernel
theorem dX9_workOut_62 : decode cX9_workOut 62 = .ok (.return_, 1) := by decide +kernel
theorem dX9_has_0 : decode cX9_has 0 = .ok (.aload_n 0, 1) := by decide +kernel
theorem dX9_has_1 : decode cX9_has 1 = .ok (.getfield 18, 3) := by decide +kernel

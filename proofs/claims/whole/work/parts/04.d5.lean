theorem dX12_labelOf_26 : decode cX12_labelOf 26 = .ok (.aload_n 0, 1) := by decide +kernel
theorem dX12_labelOf_27 : decode cX12_labelOf 27 = .ok (.getfield 43, 3) := by decide +kernel
theorem dX12_labelOf_30 : decode cX12_labelOf 30 = .ok (.iload 4, 2) := by decide +kernel
theorem dX12_labelOf_32 : decode cX12_labelOf 32 = .ok (.iaload, 1) := by decide +kernel
theorem dX12_labelOf_33 : decode cX12_labelOf 33 = .ok (.iconst 1, 1) := by decide +kernel
theorem dX12_labelOf_34 : decode cX12_labelOf 34 = .ok (.if_icmp .ne 23, 3) := by decide +kernel
theorem dX12_labelOf_37 : decode cX12_labelOf 37 = .ok (.aload_n 0, 1) := by decide +kernel
theorem dX12_labelOf_38 : decode cX12_labelOf 38 = .ok (.iload_n 3, 1) := by decide +kernel
theorem dX12_labelOf_39 : decode cX12_labelOf 39 = .ok (.aload_n 0, 1) := by decide +kernel
theorem dX12_labelOf_40 : decode cX12_labelOf 40 = .ok (.getfield 82, 3) := by decide +kernel
theorem dX12_labelOf_43 : decode cX12_labelOf 43 = .ok (.aload_n 0, 1) := by decide +kernel
theorem dX12_labelOf_44 : decode cX12_labelOf 44 = .ok (.getfield 46, 3) := by decide +kernel
theorem dX12_labelOf_47 : decode cX12_labelOf 47 = .ok (.iload 4, 2) := by decide +kernel
theorem dX12_labelOf_49 : decode cX12_labelOf 49 = .ok (.iaload, 1) := by decide +kernel
theorem dX12_labelOf_50 : decode cX12_labelOf 50 = .ok (.iaload, 1) := by decide +kernel
theorem dX12_labelOf_51 : decode cX12_labelOf 51 = .ok (.invokevirtual 148, 3) := by decide +kernel
theorem dX12_labelOf_54 : decode cX12_labelOf 54 = .ok (.goto 4, 3) := by decide +kernel
theorem dX12_labelOf_57 : decode cX12_labelOf 57 = .ok (.iload_n 3, 1) := by decide +kernel
theorem dX12_labelOf_58 : decode cX12_labelOf 58 = .ok (.istore_n 3, 1) := by decide +kernel
theorem dX12_labelOf_59 : decode cX12_labelOf 59 = .ok (.iinc 4 1, 3) := by decide +kernel
theorem dX12_labelOf_62 : decode cX12_labelOf 62 = .ok (.goto (-47), 3) := by decide +kernel
theorem dX12_labelOf_65 : decode cX12_labelOf 65 = .ok (.iload_n 3, 1) := by decide +kernel
theorem dX12_labelOf_66 : decode cX12_labelOf 66 = .ok (.ireturn, 1) := by decide +kernel
theorem dX12_setIn_0 : decode cX12_setIn 0 = .ok (.aload_n 0, 1) := by decide +kernel
theorem dX12_setIn_1 : decode cX12_setIn 1 = .ok (.aload_n 0, 1) := by decide +kernel
theorem dX12_setIn_2 : decode cX12_setIn 2 = .ok (.getfield 207, 3) := by decide +kernel
theorem dX12_setIn_5 : decode cX12_setIn 5 = .ok (.ifCond .ne 13, 3) := by decide +kernel
theorem dX12_setIn_8 : decode cX12_setIn 8 = .ok (.aload_n 0, 1) := by decide +kernel
theorem dX12_setIn_9 : decode cX12_setIn 9 = .ok (.getfield 79, 3) := by decide +kernel
theorem dX12_setIn_12 : decode cX12_setIn 12 = .ok (.iload_n 1, 1) := by decide +kernel
theorem dX12_setIn_13 : decode cX12_setIn 13 = .ok (.iaload, 1) := by decide +kernel
theorem dX12_setIn_14 : decode cX12_setIn 14 = .ok (.iload_n 2, 1) := by decide +kernel
theorem dX12_setIn_15 : decode cX12_setIn 15 = .ok (.if_icmp .eq 7, 3) := by decide +kernel
theorem dX12_setIn_18 : decode cX12_setIn 18 = .ok (.iconst 1, 1) := by decide +kernel
theorem dX12_setIn_19 : decode cX12_setIn 19 = .ok (.goto 4, 3) := by decide +kernel
theorem dX12_setIn_22 : decode cX12_setIn 22 = .ok (.iconst 0, 1) := by decide +kernel
theorem dX12_setIn_23 : decode cX12_setIn 23 = .ok (.putfield 207, 3) := by decide +kernel
theorem dX12_setIn_26 : decode cX12_setIn 26 = .ok (.aload_n 0, 1) := by decide +kernel
theorem dX12_setIn_27 : decode cX12_setIn 27 = .ok (.getfield 79, 3) := by decide +kernel
theorem dX12_setIn_30 : decode cX12_setIn 30 = .ok (.iload_n 1, 1) := by decide +kernel
theorem dX12_setIn_31 : decode cX12_setIn 31 = .ok (.iload_n 2, 1) := by decide +kernel
theorem dX12_setIn_32 : decode cX12_setIn 32 = .ok (.iastore, 1) := by decide +kernel
theorem dX12_setIn_33 : decode cX12_setIn 33 = .ok (.iconst 0, 1) := by decide +kernel
theorem dX12_setIn_34 : decode cX12_setIn 34 = .ok (.istore_n 3, 1) := by decide +kernel
theorem dX12_setIn_35 : decode cX12_setIn 35 = .ok (.iload_n 3, 1) := by decide +kernel
theorem dX12_setIn_36 : decode cX12_setIn 36 = .ok (.bipush 8, 2) := by decide +kernel
theorem dX12_setIn_38 : decode cX12_setIn 38 = .ok (.if_icmp .ge 62, 3) := by decide +kernel
theorem dX12_setIn_41 : decode cX12_setIn 41 = .ok (.aload_n 0, 1) := by decide +kernel
theorem dX12_setIn_42 : decode cX12_setIn 42 = .ok (.aload_n 0, 1) := by decide +kernel
theorem dX12_setIn_43 : decode cX12_setIn 43 = .ok (.getfield 207, 3) := by decide +kernel
theorem dX12_setIn_46 : decode cX12_setIn 46 = .ok (.ifCond .ne 23, 3) := by decide +kernel
theorem dX12_setIn_49 : decode cX12_setIn 49 = .ok (.aload_n 0, 1) := by decide +kernel
theorem dX12_setIn_50 : decode cX12_setIn 50 = .ok (.getfield 73, 3) := by decide +kernel
theorem dX12_setIn_53 : decode cX12_setIn 53 = .ok (.bipush 8, 2) := by decide +kernel
theorem dX12_setIn_55 : decode cX12_setIn 55 = .ok (.iload_n 1, 1) := by decide +kernel
theorem dX12_setIn_56 : decode cX12_setIn 56 = .ok (.imul, 1) := by decide +kernel
theorem dX12_setIn_57 : decode cX12_setIn 57 = .ok (.iload_n 3, 1) := by decide +kernel
theorem dX12_setIn_58 : decode cX12_setIn 58 = .ok (.iadd, 1) := by decide +kernel
theorem dX12_setIn_59 : decode cX12_setIn 59 = .ok (.iaload, 1) := by decide +kernel
theorem dX12_setIn_60 : decode cX12_setIn 60 = .ok (.aload_n 0, 1) := by decide +kernel
theorem dX12_setIn_61 : decode cX12_setIn 61 = .ok (.getfield 82, 3) := by decide +kernel
theorem dX12_setIn_64 : decode cX12_setIn 64 = .ok (.iload_n 3, 1) := by decide +kernel
theorem dX12_setIn_65 : decode cX12_setIn 65 = .ok (.iaload, 1) := by decide +kernel
theorem dX12_setIn_66 : decode cX12_setIn 66 = .ok (.if_icmp .eq 7, 3) := by decide +kernel
theorem dX12_setIn_69 : decode cX12_setIn 69 = .ok (.iconst 1, 1) := by decide +kernel
theorem dX12_setIn_70 : decode cX12_setIn 70 = .ok (.goto 4, 3) := by decide +kernel
theorem dX12_setIn_73 : decode cX12_setIn 73 = .ok (.iconst 0, 1) := by decide +kernel
theorem dX12_setIn_74 : decode cX12_setIn 74 = .ok (.putfield 207, 3) := by decide +kernel
theorem dX12_setIn_77 : decode cX12_setIn 77 = .ok (.aload_n 0, 1) := by decide +kernel
theorem dX12_setIn_78 : decode cX12_setIn 78 = .ok (.getfield 73, 3) := by decide +kernel
theorem dX12_setIn_81 : decode cX12_setIn 81 = .ok (.bipush 8, 2) := by decide +kernel
theorem dX12_setIn_83 : decode cX12_setIn 83 = .ok (.iload_n 1, 1) := by decide +kernel
theorem dX12_setIn_84 : decode cX12_setIn 84 = .ok (.imul, 1) := by decide +kernel
theorem dX12_setIn_85 : decode cX12_setIn 85 = .ok (.iload_n 3, 1) := by decide +kernel
theorem dX12_setIn_86 : decode cX12_setIn 86 = .ok (.iadd, 1) := by decide +kernel
theorem dX12_setIn_87 : decode cX12_setIn 87 = .ok (.aload_n 0, 1) := by decide +kernel
theorem dX12_setIn_88 : decode cX12_setIn 88 = .ok (.getfield 82, 3) := by decide +kernel
theorem dX12_setIn_91 : decode cX12_setIn 91 = .ok (.iload_n 3, 1) := by decide +kernel
theorem dX12_setIn_92 : decode cX12_setIn 92 = .ok (.iaload, 1) := by decide +kernel
theorem dX12_setIn_93 : decode cX12_setIn 93 = .ok (.iastore, 1) := by decide +kernel
theorem dX12_setIn_94 : decode cX12_setIn 94 = .ok (.iinc 3 1, 3) := by decide +kernel
theorem dX12_setIn_97 : decode cX12_setIn 97 = .ok (.goto (-62), 3) := by decide +kernel
theorem dX12_setIn_100 : decode cX12_setIn 100 = .ok (.return_, 1) := by decide +kernel
theorem dX12_setOut_0 : decode cX12_setOut 0 = .ok (.iconst 0, 1) := by decide +kernel
theorem dX12_setOut_1 : decode cX12_setOut 1 = .ok (.istore_n 2, 1) := by decide +kernel
theorem dX12_setOut_2 : decode cX12_setOut 2 = .ok (.iload_n 2, 1) := by decide +kernel
theorem dX12_setOut_3 : decode cX12_setOut 3 = .ok (.bipush 8, 2) := by decide +kernel
theorem dX12_setOut_5 : decode cX12_setOut 5 = .ok (.if_icmp .ge 62, 3) := by decide +kernel
theorem dX12_setOut_8 : decode cX12_setOut 8 = .ok (.aload_n 0, 1) := by decide +kernel
theorem dX12_setOut_9 : decode cX12_setOut 9 = .ok (.aload_n 0, 1) := by decide +kernel
theorem dX12_setOut_10 : decode cX12_setOut 10 = .ok (.getfield 207, 3) := by decide +kernel
theorem dX12_setOut_13 : decode cX12_setOut 13 = .ok (.ifCond .ne 23, 3) := by decide +kernel
theorem dX12_setOut_16 : decode cX12_setOut 16 = .ok (.aload_n 0, 1) := by decide +kernel
theorem dX12_setOut_17 : decode cX12_setOut 17 = .ok (.getfield 76, 3) := by decide +kernel
theorem dX12_setOut_20 : decode cX12_setOut 20 = .ok (.bipush 8, 2) := by decide +kernel
theorem dX12_setOut_22 : decode cX12_setOut 22 = .ok (.iload_n 1, 1) := by decide +kernel
theorem dX12_setOut_23 : decode cX12_setOut 23 = .ok (.imul, 1) := by decide +kernel
theorem dX12_setOut_24 : decode cX12_setOut 24 = .ok (.iload_n 2, 1) := by decide +kernel
theorem dX12_setOut_25 : decode cX12_setOut 25 = .ok (.iadd, 1) := by decide +kernel
theorem dX12_setOut_26 : decode cX12_setOut 26 = .ok (.iaload, 1) := by decide +kernel
theorem dX12_setOut_27 : decode cX12_setOut 27 = .ok (.aload_n 0, 1) := by decide +kernel
theorem dX12_setOut_28 : decode cX12_setOut 28 = .ok (.getfield 82, 3) := by decide +kernel
theorem dX12_setOut_31 : decode cX12_setOut 31 = .ok (.iload_n 2, 1) := by decide +kernel
theorem dX12_setOut_32 : decode cX12_setOut 32 = .ok (.iaload, 1) := by decide +kernel
theorem dX12_setOut_33 : decode cX12_setOut 33 = .ok (.if_icmp .eq 7, 3) := by decide +kernel
theorem dX12_setOut_36 : decode cX12_setOut 36 = .ok (.iconst 1, 1) := by decide +kernel
theorem dX12_setOut_37 : decode cX12_setOut 37 = .ok (.goto 4, 3) := by decide +kernel
theorem dX12_setOut_40 : decode cX12_setOut 40 = .ok (.iconst 0, 1) := by decide +kernel
theorem dX12_setOut_41 : decode cX12_setOut 41 = .ok (.putfield 207, 3) := by decide +kernel
theorem dX12_setOut_44 : decode cX12_setOut 44 = .ok (.aload_n 0, 1) := by decide +kernel
theorem dX12_setOut_45 : decode cX12_setOut 45 = .ok (.getfield 76, 3) := by decide +kernel
theorem dX12_setOut_48 : decode cX12_setOut 48 = .ok (.bipush 8, 2) := by decide +kernel
theorem dX12_setOut_50 : decode cX12_setOut 50 = .ok (.iload_n 1, 1) := by decide +kernel
theorem dX12_setOut_51 : decode cX12_setOut 51 = .ok (.imul, 1) := by decide +kernel
theorem dX12_setOut_52 : decode cX12_setOut 52 = .ok (.iload_n 2, 1) := by decide +kernel
theorem dX12_setOut_53 : decode cX12_setOut 53 = .ok (.iadd, 1) := by decide +kernel
theorem dX12_setOut_54 : decode cX12_setOut 54 = .ok (.aload_n 0, 1) := by decide +kernel
theorem dX12_setOut_55 : decode cX12_setOut 55 = .ok (.getfield 82, 3) := by decide +kernel
theorem dX12_setOut_58 : decode cX12_setOut 58 = .ok (.iload_n 2, 1) := by decide +kernel
theorem dX12_setOut_59 : decode cX12_setOut 59 = .ok (.iaload, 1) := by decide +kernel
theorem dX12_setOut_60 : decode cX12_setOut 60 = .ok (.iastore, 1) := by decide +kernel
theorem dX12_setOut_61 : decode cX12_setOut 61 = .ok (.iinc 2 1, 3) := by decide +kernel
theorem dX12_setOut_64 : decode cX12_setOut 64 = .ok (.goto (-62), 3) := by decide +kernel
theorem dX12_setOut_67 : decode cX12_setOut 67 = .ok (.return_, 1) := by decide +kernel
theorem dX12_take_0 : decode cX12_take 0 = .ok (.iconst 0, 1) := by decide +kernel
theorem dX12_take_1 : decode cX12_take 1 = .ok (.istore_n 3, 1) := by decide +kernel
theorem dX12_take_2 : decode cX12_take 2 = .ok (.iload_n 3, 1) := by decide +kernel
theorem dX12_take_3 : decode cX12_take 3 = .ok (.bipush 8, 2) := by decide +kernel
theorem dX12_take_5 : decode cX12_take 5 = .ok (.if_icmp .ge 23, 3) := by decide +kernel
theorem dX12_take_8 : decode cX12_take 8 = .ok (.aload_n 0, 1) := by decide +kernel
theorem dX12_take_9 : decode cX12_take 9 = .ok (.getfield 82, 3) := by decide +kernel
theorem dX12_take_12 : decode cX12_take 12 = .ok (.iload_n 3, 1) := by decide +kernel
theorem dX12_take_13 : decode cX12_take 13 = .ok (.aload_n 1, 1) := by decide +kernel
theorem dX12_take_14 : decode cX12_take 14 = .ok (.bipush 8, 2) := by decide +kernel
theorem dX12_take_16 : decode cX12_take 16 = .ok (.iload_n 2, 1) := by decide +kernel
theorem dX12_take_17 : decode cX12_take 17 = .ok (.imul, 1) := by decide +kernel
theorem dX12_take_18 : decode cX12_take 18 = .ok (.iload_n 3, 1) := by decide +kernel
theorem dX12_take_19 : decode cX12_take 19 = .ok (.iadd, 1) := by decide +kernel
theorem dX12_take_20 : decode cX12_take 20 = .ok (.iaload, 1) := by decide +kernel
theorem dX12_take_21 : decode cX12_take 21 = .ok (.iastore, 1) := by decide +kernel
theorem dX12_take_22 : decode cX12_take 22 = .ok (.iinc 3 1, 3) := by decide +kernel
theorem dX12_take_25 : decode cX12_take 25 = .ok (.goto (-23), 3) := by decide +kernel
theorem dX12_take_28 : decode cX12_take 28 = .ok (.return_, 1) := by decide +kernel
theorem dX12_joinOut_0 : decode cX12_joinOut 0 = .ok (.iconst 0, 1) := by decide +kernel
theorem dX12_joinOut_1 : decode cX12_joinOut 1 = .ok (.istore_n 2, 1) := by decide +kernel
theorem dX12_joinOut_2 : decode cX12_joinOut 2 = .ok (.iload_n 2, 1) := by decide +kernel
theorem dX12_joinOut_3 : decode cX12_joinOut 3 = .ok (.bipush 8, 2) := by decide +kernel
theorem dX12_joinOut_5 : decode cX12_joinOut 5 = .ok (.if_icmp .ge 36, 3) := by decide +kernel
theorem dX12_joinOut_8 : decode cX12_joinOut 8 = .ok (.aload_n 0, 1) := by decide +kernel
theorem dX12_joinOut_9 : decode cX12_joinOut 9 = .ok (.getfield 82, 3) := by decide +kernel
theorem dX12_joinOut_12 : decode cX12_joinOut 12 = .ok (.iload_n 2, 1) := by decide +kernel
theorem dX12_joinOut_13 : decode cX12_joinOut 13 = .ok (.aload_n 0, 1) := by decide +kernel
theorem dX12_joinOut_14 : decode cX12_joinOut 14 = .ok (.aload_n 0, 1) := by decide +kernel
theorem dX12_joinOut_15 : decode cX12_joinOut 15 = .ok (.getfield 82, 3) := by decide +kernel
theorem dX12_joinOut_18 : decode cX12_joinOut 18 = .ok (.iload_n 2, 1) := by decide +kernel
theorem dX12_joinOut_19 : decode cX12_joinOut 19 = .ok (.iaload, 1) := by decide +kernel
theorem dX12_joinOut_20 : decode cX12_joinOut 20 = .ok (.aload_n 0, 1) := by decide +kernel
theorem dX12_joinOut_21 : decode cX12_joinOut 21 = .ok (.getfield 76, 3) := by decide +kernel
theorem dX12_joinOut_24 : decode cX12_joinOut 24 = .ok (.bipush 8, 2) := by decide +kernel
theorem dX12_joinOut_26 : decode cX12_joinOut 26 = .ok (.iload_n 1, 1) := by decide +kernel
theorem dX12_joinOut_27 : decode cX12_joinOut 27 = .ok (.imul, 1) := by decide +kernel
theorem dX12_joinOut_28 : decode cX12_joinOut 28 = .ok (.iload_n 2, 1) := by decide +kernel
theorem dX12_joinOut_29 : decode cX12_joinOut 29 = .ok (.iadd, 1) := by decide +kernel
theorem dX12_joinOut_30 : decode cX12_joinOut 30 = .ok (.iaload, 1) := by decide +kernel
theorem dX12_joinOut_31 : decode cX12_joinOut 31 = .ok (.invokevirtual 148, 3) := by decide +kernel
theorem dX12_joinOut_34 : decode cX12_joinOut 34 = .ok (.iastore, 1) := by decide +kernel
theorem dX12_joinOut_35 : decode cX12_joinOut 35 = .ok (.iinc 2 1, 3) := by decide +kernel
theorem dX12_joinOut_38 : decode cX12_joinOut 38 = .ok (.goto (-36), 3) := by decide +kernel
theorem dX12_joinOut_41 : decode cX12_joinOut 41 = .ok (.return_, 1) := by decide +kernel
theorem dX12_statement_0 : decode cX12_statement 0 = .ok (.aload_n 0, 1) := by decide +kernel
theorem dX12_statement_1 : decode cX12_statement 1 = .ok (.aload_n 0, 1) := by decide +kernel
theorem dX12_statement_2 : decode cX12_statement 2 = .ok (.getfield 73, 3) := by decide +kernel
theorem dX12_statement_5 : decode cX12_statement 5 = .ok (.iload_n 1, 1) := by decide +kernel
theorem dX12_statement_6 : decode cX12_statement 6 = .ok (.invokevirtual 211, 3) := by decide +kernel
theorem dX12_statement_9 : decode cX12_statement 9 = .ok (.aload_n 0, 1) := by decide +kernel
theorem dX12_statement_10 : decode cX12_statement 10 = .ok (.getfield 43, 3) := by decide +kernel
theorem dX12_statement_13 : decode cX12_statement 13 = .ok (.iload_n 1, 1) := by decide +kernel
theorem dX12_statement_14 : decode cX12_statement 14 = .ok (.iaload, 1) := by decide +kernel
theorem dX12_statement_15 : decode cX12_statement 15 = .ok (.iconst 3, 1) := by decide +kernel
theorem dX12_statement_16 : decode cX12_statement 16 = .ok (.if_icmp .ne 34, 3) := by decide +kernel
theorem dX12_statement_19 : decode cX12_statement 19 = .ok (.aload_n 0, 1) := by decide +kernel
theorem dX12_statement_20 : decode cX12_statement 20 = .ok (.aload_n 0, 1) := by decide +kernel
theorem dX12_statement_21 : decode cX12_statement 21 = .ok (.getfield 79, 3) := by decide +kernel
theorem dX12_statement_24 : decode cX12_statement 24 = .ok (.iload_n 1, 1) := by decide +kernel
theorem dX12_statement_25 : decode cX12_statement 25 = .ok (.iaload, 1) := by decide +kernel
theorem dX12_statement_26 : decode cX12_statement 26 = .ok (.aload_n 0, 1) := by decide +kernel
theorem dX12_statement_27 : decode cX12_statement 27 = .ok (.iload_n 1, 1) := by decide +kernel
theorem dX12_statement_28 : decode cX12_statement 28 = .ok (.invokevirtual 215, 3) := by decide +kernel
theorem dX12_statement_31 : decode cX12_statement 31 = .ok (.invokevirtual 148, 3) := by decide +kernel
theorem dX12_statement_34 : decode cX12_statement 34 = .ok (.istore_n 2, 1) := by decide +kernel
theorem dX12_statement_35 : decode cX12_statement 35 = .ok (.aload_n 0, 1) := by decide +kernel
theorem dX12_statement_36 : decode cX12_statement 36 = .ok (.getfield 82, 3) := by decide +kernel
theorem dX12_statement_39 : decode cX12_statement 39 = .ok (.aload_n 0, 1) := by decide +kernel
theorem dX12_statement_40 : decode cX12_statement 40 = .ok (.getfield 46, 3) := by decide +kernel
theorem dX12_statement_43 : decode cX12_statement 43 = .ok (.iload_n 1, 1) := by decide +kernel
theorem dX12_statement_44 : decode cX12_statement 44 = .ok (.iaload, 1) := by decide +kernel
theorem dX12_statement_45 : decode cX12_statement 45 = .ok (.iload_n 2, 1) := by decide +kernel
theorem dX12_statement_46 : decode cX12_statement 46 = .ok (.iastore, 1) := by decide +kernel
theorem dX12_statement_47 : decode cX12_statement 47 = .ok (.goto 105, 3) := by decide +kernel
theorem dX12_statement_50 : decode cX12_statement 50 = .ok (.aload_n 0, 1) := by decide +kernel
theorem dX12_statement_51 : decode cX12_statement 51 = .ok (.getfield 58, 3) := by decide +kernel
theorem dX12_statement_54 : decode cX12_statement 54 = .ok (.aload_n 0, 1) := by decide +kernel
theorem dX12_statement_55 : decode cX12_statement 55 = .ok (.getfield 52, 3) := by decide +kernel
theorem dX12_statement_58 : decode cX12_statement 58 = .ok (.iload_n 1, 1) := by decide +kernel
theorem dX12_statement_59 : decode cX12_statement 59 = .ok (.iaload, 1) := by decide +kernel
theorem dX12_statement_60 : decode cX12_statement 60 = .ok (.iaload, 1) := by decide +kernel
theorem dX12_statement_61 : decode cX12_statement 61 = .ok (.istore_n 2, 1) := by decide +kernel
theorem dX12_statement_62 : decode cX12_statement 62 = .ok (.aload_n 0, 1) := by decide +kernel
theorem dX12_statement_63 : decode cX12_statement 63 = .ok (.getfield 43, 3) := by decide +kernel
theorem dX12_statement_66 : decode cX12_statement 66 = .ok (.iload_n 1, 1) := by decide +kernel
theorem dX12_statement_67 : decode cX12_statement 67 = .ok (.iaload, 1) := by decide +kernel
theorem dX12_statement_68 : decode cX12_statement 68 = .ok (.iconst 5, 1) := by decide +kernel
theorem dX12_statement_69 : decode cX12_statement 69 = .ok (.if_icmp .ne 31, 3) := by decide +kernel
theorem dX12_statement_72 : decode cX12_statement 72 = .ok (.aload_n 0, 1) := by decide +kernel
theorem dX12_statement_73 : decode cX12_statement 73 = .ok (.iload_n 2, 1) := by decide +kernel
theorem dX12_statement_74 : decode cX12_statement 74 = .ok (.invokevirtual 218, 3) := by decide +kernel
theorem dX12_statement_77 : decode cX12_statement 77 = .ok (.aload_n 0, 1) := by decide +kernel
theorem dX12_statement_78 : decode cX12_statement 78 = .ok (.iload_n 2, 1) := by decide +kernel
theorem dX12_statement_79 : decode cX12_statement 79 = .ok (.aload_n 0, 1) := by decide +kernel
theorem dX12_statement_80 : decode cX12_statement 80 = .ok (.aload_n 0, 1) := by decide +kernel
theorem dX12_statement_81 : decode cX12_statement 81 = .ok (.getfield 79, 3) := by decide +kernel
theorem dX12_statement_84 : decode cX12_statement 84 = .ok (.iload_n 1, 1) := by decide +kernel
theorem dX12_statement_85 : decode cX12_statement 85 = .ok (.iaload, 1) := by decide +kernel
theorem dX12_statement_86 : decode cX12_statement 86 = .ok (.aload_n 0, 1) := by decide +kernel
theorem dX12_statement_87 : decode cX12_statement 87 = .ok (.iload_n 1, 1) := by decide +kernel
theorem dX12_statement_88 : decode cX12_statement 88 = .ok (.invokevirtual 215, 3) := by decide +kernel
theorem dX12_statement_91 : decode cX12_statement 91 = .ok (.invokevirtual 148, 3) := by decide +kernel
theorem dX12_statement_94 : decode cX12_statement 94 = .ok (.invokevirtual 222, 3) := by decide +kernel
theorem dX12_statement_97 : decode cX12_statement 97 = .ok (.goto 55, 3) := by decide +kernel
theorem dX12_statement_100 : decode cX12_statement 100 = .ok (.aload_n 0, 1) := by decide +kernel
theorem dX12_statement_101 : decode cX12_statement 101 = .ok (.getfield 58, 3) := by decide +kernel
theorem dX12_statement_104 : decode cX12_statement 104 = .ok (.iload_n 2, 1) := by decide +kernel
theorem dX12_statement_105 : decode cX12_statement 105 = .ok (.iaload, 1) := by decide +kernel
theorem dX12_statement_106 : decode cX12_statement 106 = .ok (.istore_n 3, 1) := by decide +kernel
theorem dX12_statement_107 : decode cX12_statement 107 = .ok (.aload_n 0, 1) := by decide +kernel
theorem dX12_statement_108 : decode cX12_statement 108 = .ok (.aload_n 0, 1) := by decide +kernel
theorem dX12_statement_109 : decode cX12_statement 109 = .ok (.getfield 79, 3) := by decide +kernel
theorem dX12_statement_112 : decode cX12_statement 112 = .ok (.iload_n 1, 1) := by decide +kernel
theorem dX12_statement_113 : decode cX12_statement 113 = .ok (.iaload, 1) := by decide +kernel
theorem dX12_statement_114 : decode cX12_statement 114 = .ok (.aload_n 0, 1) := by decide +kernel
theorem dX12_statement_115 : decode cX12_statement 115 = .ok (.iload_n 1, 1) := by decide +kernel
theorem dX12_statement_116 : decode cX12_statement 116 = .ok (.invokevirtual 215, 3) := by decide +kernel
theorem dX12_statement_119 : decode cX12_statement 119 = .ok (.invokevirtual 148, 3) := by decide +kernel
theorem dX12_statement_122 : decode cX12_statement 122 = .ok (.istore 4, 2) := by decide +kernel
theorem dX12_statement_124 : decode cX12_statement 124 = .ok (.aload_n 0, 1) := by decide +kernel
theorem dX12_statement_125 : decode cX12_statement 125 = .ok (.iload_n 2, 1) := by decide +kernel
theorem dX12_statement_126 : decode cX12_statement 126 = .ok (.iload 4, 2) := by decide +kernel
theorem dX12_statement_128 : decode cX12_statement 128 = .ok (.invokevirtual 222, 3) := by decide +kernel
theorem dX12_statement_131 : decode cX12_statement 131 = .ok (.aload_n 0, 1) := by decide +kernel
theorem dX12_statement_132 : decode cX12_statement 132 = .ok (.iload_n 3, 1) := by decide +kernel
theorem dX12_statement_133 : decode cX12_statement 133 = .ok (.iload 4, 2) := by decide +kernel
theorem dX12_statement_135 : decode cX12_statement 135 = .ok (.invokevirtual 222, 3) := by decide +kernel
theorem dX12_statement_138 : decode cX12_statement 138 = .ok (.aload_n 0, 1) := by decide +kernel
theorem dX12_statement_139 : decode cX12_statement 139 = .ok (.aload_n 0, 1) := by decide +kernel
theorem dX12_statement_140 : decode cX12_statement 140 = .ok (.getfield 76, 3) := by decide +kernel
theorem dX12_statement_143 : decode cX12_statement 143 = .ok (.iload_n 2, 1) := by decide +kernel
theorem dX12_statement_144 : decode cX12_statement 144 = .ok (.invokevirtual 211, 3) := by decide +kernel
theorem dX12_statement_147 : decode cX12_statement 147 = .ok (.aload_n 0, 1) := by decide +kernel
theorem dX12_statement_148 : decode cX12_statement 148 = .ok (.iload_n 3, 1) := by decide +kernel
theorem dX12_statement_149 : decode cX12_statement 149 = .ok (.invokevirtual 218, 3) := by decide +kernel
theorem dX12_statement_152 : decode cX12_statement 152 = .ok (.aload_n 0, 1) := by decide +kernel
theorem dX12_statement_153 : decode cX12_statement 153 = .ok (.iload_n 1, 1) := by decide +kernel
theorem dX12_statement_154 : decode cX12_statement 154 = .ok (.invokevirtual 226, 3) := by decide +kernel
theorem dX12_statement_157 : decode cX12_statement 157 = .ok (.return_, 1) := by decide +kernel
theorem dX12_row_0 : decode cX12_row 0 = .ok (.aload_n 0, 1) := by decide +kernel
theorem dX12_row_1 : decode cX12_row 1 = .ok (.aload_n 0, 1) := by decide +kernel
theorem dX12_row_2 : decode cX12_row 2 = .ok (.getfield 73, 3) := by decide +kernel
theorem dX12_row_5 : decode cX12_row 5 = .ok (.iload_n 1, 1) := by decide +kernel
theorem dX12_row_6 : decode cX12_row 6 = .ok (.invokevirtual 211, 3) := by decide +kernel
theorem dX12_row_9 : decode cX12_row 9 = .ok (.aload_n 0, 1) := by decide +kernel
theorem dX12_row_10 : decode cX12_row 10 = .ok (.getfield 52, 3) := by decide +kernel
theorem dX12_row_13 : decode cX12_row 13 = .ok (.iload_n 1, 1) := by decide +kernel
theorem dX12_row_14 : decode cX12_row 14 = .ok (.iaload, 1) := by decide +kernel
theorem dX12_row_15 : decode cX12_row 15 = .ok (.istore_n 2, 1) := by decide +kernel
theorem dX12_row_16 : decode cX12_row 16 = .ok (.iload_n 2, 1) := by decide +kernel
theorem dX12_row_17 : decode cX12_row 17 = .ok (.ifCond .lt 38, 3) := by decide +kernel
theorem dX12_row_20 : decode cX12_row 20 = .ok (.aload_n 0, 1) := by decide +kernel
theorem dX12_row_21 : decode cX12_row 21 = .ok (.iload_n 2, 1) := by decide +kernel
theorem dX12_row_22 : decode cX12_row 22 = .ok (.aload_n 0, 1) := by decide +kernel
theorem dX12_row_23 : decode cX12_row 23 = .ok (.getfield 79, 3) := by decide +kernel
theorem dX12_row_26 : decode cX12_row 26 = .ok (.iload_n 1, 1) := by decide +kernel
theorem dX12_row_27 : decode cX12_row 27 = .ok (.iaload, 1) := by decide +kernel
theorem dX12_row_28 : decode cX12_row 28 = .ok (.invokevirtual 222, 3) := by decide +kernel
theorem dX12_row_31 : decode cX12_row 31 = .ok (.aload_n 0, 1) := by decide +kernel
theorem dX12_row_32 : decode cX12_row 32 = .ok (.iload_n 2, 1) := by decide +kernel
theorem dX12_row_33 : decode cX12_row 33 = .ok (.invokevirtual 229, 3) := by decide +kernel
theorem dX12_row_36 : decode cX12_row 36 = .ok (.aload_n 0, 1) := by decide +kernel
theorem dX12_row_37 : decode cX12_row 37 = .ok (.aload_n 0, 1) := by decide +kernel
theorem dX12_row_38 : decode cX12_row 38 = .ok (.getfield 76, 3) := by decide +kernel
theorem dX12_row_41 : decode cX12_row 41 = .ok (.iload_n 2, 1) := by decide +kernel
theorem dX12_row_42 : decode cX12_row 42 = .ok (.invokevirtual 211, 3) := by decide +kernel
theorem dX12_row_45 : decode cX12_row 45 = .ok (.aload_n 0, 1) := by decide +kernel
theorem dX12_row_46 : decode cX12_row 46 = .ok (.getfield 58, 3) := by decide +kernel
theorem dX12_row_49 : decode cX12_row 49 = .ok (.iload_n 2, 1) := by decide +kernel
theorem dX12_row_50 : decode cX12_row 50 = .ok (.iaload, 1) := by decide +kernel
theorem dX12_row_51 : decode cX12_row 51 = .ok (.istore_n 2, 1) := by decide +kernel
theorem dX12_row_52 : decode cX12_row 52 = .ok (.goto (-36), 3) := by decide +kernel
theorem dX12_row_55 : decode cX12_row 55 = .ok (.aload_n 0, 1) := by decide +kernel
theorem dX12_row_56 : decode cX12_row 56 = .ok (.iload_n 1, 1) := by decide +kernel
theorem dX12_row_57 : decode cX12_row 57 = .ok (.invokevirtual 226, 3) := by decide +kernel
theorem dX12_row_60 : decode cX12_row 60 = .ok (.return_, 1) := by decide +kernel
theorem dX12_labelProgram_0 : decode cX12_labelProgram 0 = .ok (.iconst 0, 1) := by decide +kernel
theorem dX12_labelProgram_1 : decode cX12_labelProgram 1 = .ok (.istore_n 1, 1) := by decide +kernel
theorem dX12_labelProgram_2 : decode cX12_labelProgram 2 = .ok (.iload_n 1, 1) := by decide +kernel
theorem dX12_labelProgram_3 : decode cX12_labelProgram 3 = .ok (.bipush 8, 2) := by decide +kernel
theorem dX12_labelProgram_5 : decode cX12_labelProgram 5 = .ok (.aload_n 0, 1) := by decide +kernel
theorem dX12_labelProgram_6 : decode cX12_labelProgram 6 = .ok (.getfield 171, 3) := by decide +kernel
theorem dX12_labelProgram_9 : decode cX12_labelProgram 9 = .ok (.imul, 1) := by decide +kernel
theorem dX12_labelProgram_10 : decode cX12_labelProgram 10 = .ok (.if_icmp .ge 29, 3) := by decide +kernel
theorem dX12_labelProgram_13 : decode cX12_labelProgram 13 = .ok (.aload_n 0, 1) := by decide +kernel
theorem dX12_labelProgram_14 : decode cX12_labelProgram 14 = .ok (.getfield 73, 3) := by decide +kernel
theorem dX12_labelProgram_17 : decode cX12_labelProgram 17 = .ok (.iload_n 1, 1) := by decide +kernel
theorem dX12_labelProgram_18 : decode cX12_labelProgram 18 = .ok (.aload_n 0, 1) := by decide +kernel
theorem dX12_labelProgram_19 : decode cX12_labelProgram 19 = .ok (.getfield 142, 3) := by decide +kernel
theorem dX12_labelProgram_22 : decode cX12_labelProgram 22 = .ok (.iastore, 1) := by decide +kernel
theorem dX12_labelProgram_23 : decode cX12_labelProgram 23 = .ok (.aload_n 0, 1) := by decide +kernel
theorem dX12_labelProgram_24 : decode cX12_labelProgram 24 = .ok (.getfield 76, 3) := by decide +kernel
theorem dX12_labelProgram_27 : decode cX12_labelProgram 27 = .ok (.iload_n 1, 1) := by decide +kernel
theorem dX12_labelProgram_28 : decode cX12_labelProgram 28 = .ok (.aload_n 0, 1) := by decide +kernel
theorem dX12_labelProgram_29 : decode cX12_labelProgram 29 = .ok (.getfield 142, 3) := by decide +kernel
theorem dX12_labelProgram_32 : decode cX12_labelProgram 32 = .ok (.iastore, 1) := by decide +kernel
theorem dX12_labelProgram_33 : decode cX12_labelProgram 33 = .ok (.iinc 1 1, 3) := by decide +kernel
theorem dX12_labelProgram_36 : decode cX12_labelProgram 36 = .ok (.goto (-34), 3) := by decide +kernel
theorem dX12_labelProgram_39 : decode cX12_labelProgram 39 = .ok (.iconst 0, 1) := by decide +kernel
theorem dX12_labelProgram_40 : decode cX12_labelProgram 40 = .ok (.istore_n 1, 1) := by decide +kernel
theorem dX12_labelProgram_41 : decode cX12_labelProgram 41 = .ok (.iload_n 1, 1) := by decide +kernel
theorem dX12_labelProgram_42 : decode cX12_labelProgram 42 = .ok (.aload_n 0, 1) := by decide +kernel
theorem dX12_labelProgram_43 : decode cX12_labelProgram 43 = .ok (.getfield 171, 3) := by decide +kernel
theorem dX12_labelProgram_46 : decode cX12_labelProgram 46 = .ok (.if_icmp .ge 19, 3) := by decide +kernel
theorem dX12_labelProgram_49 : decode cX12_labelProgram 49 = .ok (.aload_n 0, 1) := by decide +kernel
theorem dX12_labelProgram_50 : decode cX12_labelProgram 50 = .ok (.getfield 79, 3) := by decide +kernel
theorem dX12_labelProgram_53 : decode cX12_labelProgram 53 = .ok (.iload_n 1, 1) := by decide +kernel
theorem dX12_labelProgram_54 : decode cX12_labelProgram 54 = .ok (.aload_n 0, 1) := by decide +kernel
theorem dX12_labelProgram_55 : decode cX12_labelProgram 55 = .ok (.getfield 142, 3) := by decide +kernel
theorem dX12_labelProgram_58 : decode cX12_labelProgram 58 = .ok (.iastore, 1) := by decide +kernel
theorem dX12_labelProgram_59 : decode cX12_labelProgram 59 = .ok (.iinc 1 1, 3) := by decide +kernel
theorem dX12_labelProgram_62 : decode cX12_labelProgram 62 = .ok (.goto (-21), 3) := by decide +kernel
theorem dX12_labelProgram_65 : decode cX12_labelProgram 65 = .ok (.aload_n 0, 1) := by decide +kernel
theorem dX12_labelProgram_66 : decode cX12_labelProgram 66 = .ok (.iconst 1, 1) := by decide +kernel
theorem dX12_labelProgram_67 : decode cX12_labelProgram 67 = .ok (.putfield 207, 3) := by decide +kernel
theorem dX12_labelProgram_70 : decode cX12_labelProgram 70 = .ok (.iconst 0, 1) := by decide +kernel
theorem dX12_labelProgram_71 : decode cX12_labelProgram 71 = .ok (.istore_n 1, 1) := by decide +kernel
theorem dX12_labelProgram_72 : decode cX12_labelProgram 72 = .ok (.iload_n 1, 1) := by decide +kernel
theorem dX12_labelProgram_73 : decode cX12_labelProgram 73 = .ok (.sipush 10000, 3) := by decide +kernel
theorem dX12_labelProgram_76 : decode cX12_labelProgram 76 = .ok (.if_icmp .ge 88, 3) := by decide +kernel
theorem dX12_labelProgram_79 : decode cX12_labelProgram 79 = .ok (.aload_n 0, 1) := by decide +kernel
theorem dX12_labelProgram_80 : decode cX12_labelProgram 80 = .ok (.getfield 207, 3) := by decide +kernel
theorem dX12_labelProgram_83 : decode cX12_labelProgram 83 = .ok (.ifCond .eq 81, 3) := by decide +kernel
theorem dX12_labelProgram_86 : decode cX12_labelProgram 86 = .ok (.aload_n 0, 1) := by decide +kernel
theorem dX12_labelProgram_87 : decode cX12_labelProgram 87 = .ok (.iconst 0, 1) := by decide +kernel
theorem dX12_labelProgram_88 : decode cX12_labelProgram 88 = .ok (.putfield 207, 3) := by decide +kernel
theorem dX12_labelProgram_91 : decode cX12_labelProgram 91 = .ok (.iconst 0, 1) := by decide +kernel
theorem dX12_labelProgram_92 : decode cX12_labelProgram 92 = .ok (.istore_n 2, 1) := by decide +kernel
theorem dX12_labelProgram_93 : decode cX12_labelProgram 93 = .ok (.iload_n 2, 1) := by decide +kernel
theorem dX12_labelProgram_94 : decode cX12_labelProgram 94 = .ok (.bipush 8, 2) := by decide +kernel
theorem dX12_labelProgram_96 : decode cX12_labelProgram 96 = .ok (.if_icmp .ge 21, 3) := by decide +kernel
theorem dX12_labelProgram_99 : decode cX12_labelProgram 99 = .ok (.aload_n 0, 1) := by decide +kernel
theorem dX12_labelProgram_100 : decode cX12_labelProgram 100 = .ok (.getfield 82, 3) := by decide +kernel
theorem dX12_labelProgram_103 : decode cX12_labelProgram 103 = .ok (.iload_n 2, 1) := by decide +kernel
theorem dX12_labelProgram_104 : decode cX12_labelProgram 104 = .ok (.aload_n 0, 1) := by decide +kernel
theorem dX12_labelProgram_105 : decode cX12_labelProgram 105 = .ok (.getfield 21, 3) := by decide +kernel
theorem dX12_labelProgram_108 : decode cX12_labelProgram 108 = .ok (.iload_n 2, 1) := by decide +kernel
theorem dX12_labelProgram_109 : decode cX12_labelProgram 109 = .ok (.iaload, 1) := by decide +kernel
theorem dX12_labelProgram_110 : decode cX12_labelProgram 110 = .ok (.iastore, 1) := by decide +kernel
theorem dX12_labelProgram_111 : decode cX12_labelProgram 111 = .ok (.iinc 2 1, 3) := by decide +kernel
theorem dX12_labelProgram_114 : decode cX12_labelProgram 114 = .ok (.goto (-21), 3) := by decide +kernel
theorem dX12_labelProgram_117 : decode cX12_labelProgram 117 = .ok (.aload_n 0, 1) := by decide +kernel
theorem dX12_labelProgram_118 : decode cX12_labelProgram 118 = .ok (.iconst 0, 1) := by decide +kernel
theorem dX12_labelProgram_119 : decode cX12_labelProgram 119 = .ok (.aload_n 0, 1) := by decide +kernel
theorem dX12_labelProgram_120 : decode cX12_labelProgram 120 = .ok (.getfield 142, 3) := by decide +kernel
theorem dX12_labelProgram_123 : decode cX12_labelProgram 123 = .ok (.invokevirtual 222, 3) := by decide +kernel
theorem dX12_labelProgram_126 : decode cX12_labelProgram 126 = .ok (.iconst 0, 1) := by decide +kernel
theorem dX12_labelProgram_127 : decode cX12_labelProgram 127 = .ok (.istore_n 2, 1) := by decide +kernel
theorem dX12_labelProgram_128 : decode cX12_labelProgram 128 = .ok (.iload_n 2, 1) := by decide +kernel
theorem dX12_labelProgram_129 : decode cX12_labelProgram 129 = .ok (.aload_n 0, 1) := by decide +kernel
theorem dX12_labelProgram_130 : decode cX12_labelProgram 130 = .ok (.getfield 171, 3) := by decide +kernel
theorem dX12_labelProgram_133 : decode cX12_labelProgram 133 = .ok (.if_icmp .ge 25, 3) := by decide +kernel
theorem dX12_labelProgram_136 : decode cX12_labelProgram 136 = .ok (.aload_n 0, 1) := by decide +kernel
theorem dX12_labelProgram_137 : decode cX12_labelProgram 137 = .ok (.getfield 43, 3) := by decide +kernel
theorem dX12_labelProgram_140 : decode cX12_labelProgram 140 = .ok (.iload_n 2, 1) := by decide +kernel
theorem dX12_labelProgram_141 : decode cX12_labelProgram 141 = .ok (.iaload, 1) := by decide +kernel
theorem dX12_labelProgram_142 : decode cX12_labelProgram 142 = .ok (.bipush 6, 2) := by decide +kernel
theorem dX12_labelProgram_144 : decode cX12_labelProgram 144 = .ok (.if_icmp .ne 8, 3) := by decide +kernel
theorem dX12_labelProgram_147 : decode cX12_labelProgram 147 = .ok (.aload_n 0, 1) := by decide +kernel
theorem dX12_labelProgram_148 : decode cX12_labelProgram 148 = .ok (.iload_n 2, 1) := by decide +kernel
theorem dX12_labelProgram_149 : decode cX12_labelProgram 149 = .ok (.invokevirtual 232, 3) := by decide +kernel
theorem dX12_labelProgram_152 : decode cX12_labelProgram 152 = .ok (.iinc 2 1, 3) := by decide +kernel
theorem dX12_labelProgram_155 : decode cX12_labelProgram 155 = .ok (.goto (-27), 3) := by decide +kernel
theorem dX12_labelProgram_158 : decode cX12_labelProgram 158 = .ok (.iinc 1 1, 3) := by decide +kernel
theorem dX12_labelProgram_161 : decode cX12_labelProgram 161 = .ok (.goto (-89), 3) := by decide +kernel
theorem dX12_labelProgram_164 : decode cX12_labelProgram 164 = .ok (.return_, 1) := by decide +kernel
theorem dX12_compile_0 : decode cX12_compile 0 = .ok (.aload_n 0, 1) := by decide +kernel
theorem dX12_compile_1 : decode cX12_compile 1 = .ok (.invokevirtual 235, 3) := by decide +kernel
theorem dX12_compile_4 : decode cX12_compile 4 = .ok (.istore_n 1, 1) := by decide +kernel
theorem dX12_compile_5 : decode cX12_compile 5 = .ok (.aload_n 0, 1) := by decide +kernel
theorem dX12_compile_6 : decode cX12_compile 6 = .ok (.iconst 0, 1) := by decide +kernel
theorem dX12_compile_7 : decode cX12_compile 7 = .ok (.putfield 154, 3) := by decide +kernel
theorem dX12_compile_10 : decode cX12_compile 10 = .ok (.aload_n 0, 1) := by decide +kernel
theorem dX12_compile_11 : decode cX12_compile 11 = .ok (.iload_n 1, 1) := by decide +kernel
theorem dX12_compile_12 : decode cX12_compile 12 = .ok (.ifCond .eq 7, 3) := by decide +kernel
theorem dX12_compile_15 : decode cX12_compile 15 = .ok (.iconst (-1), 1) := by decide +kernel
theorem dX12_compile_16 : decode cX12_compile 16 = .ok (.goto 7, 3) := by decide +kernel
theorem dX12_compile_19 : decode cX12_compile 19 = .ok (.aload_n 0, 1) := by decide +kernel
theorem dX12_compile_20 : decode cX12_compile 20 = .ok (.getfield 157, 3) := by decide +kernel
theorem dX12_compile_23 : decode cX12_compile 23 = .ok (.putfield 40, 3) := by decide +kernel
theorem dX12_compile_26 : decode cX12_compile 26 = .ok (.aload_n 0, 1) := by decide +kernel
theorem dX12_compile_27 : decode cX12_compile 27 = .ok (.iload_n 1, 1) := by decide +kernel
theorem dX12_compile_28 : decode cX12_compile 28 = .ok (.ifCond .eq 7, 3) := by decide +kernel
theorem dX12_compile_31 : decode cX12_compile 31 = .ok (.iconst 0, 1) := by decide +kernel
theorem dX12_compile_32 : decode cX12_compile 32 = .ok (.goto 4, 3) := by decide +kernel
theorem dX12_compile_35 : decode cX12_compile 35 = .ok (.iconst 1, 1) := by decide +kernel
theorem dX12_compile_36 : decode cX12_compile 36 = .ok (.putfield 124, 3) := by decide +kernel
theorem dX12_compile_39 : decode cX12_compile 39 = .ok (.iload_n 1, 1) := by decide +kernel
theorem dX12_compile_40 : decode cX12_compile 40 = .ok (.ifCond .ne 5, 3) := by decide +kernel
theorem dX12_compile_43 : decode cX12_compile 43 = .ok (.iconst 0, 1) := by decide +kernel
theorem dX12_compile_44 : decode cX12_compile 44 = .ok (.ireturn, 1) := by decide +kernel
theorem dX12_compile_45 : decode cX12_compile 45 = .ok (.aload_n 0, 1) := by decide +kernel
theorem dX12_compile_46 : decode cX12_compile 46 = .ok (.invokevirtual 239, 3) := by decide +kernel
theorem dX12_compile_49 : decode cX12_compile 49 = .ok (.aload_n 0, 1) := by decide +kernel
theorem dX12_compile_50 : decode cX12_compile 50 = .ok (.invokevirtual 242, 3) := by decide +kernel
theorem dX12_compile_53 : decode cX12_compile 53 = .ok (.aload_n 0, 1) := by decide +kernel
theorem dX12_compile_54 : decode cX12_compile 54 = .ok (.invokevirtual 245, 3) := by decide +kernel
theorem dX12_compile_57 : decode cX12_compile 57 = .ok (.aload_n 0, 1) := by decide +kernel
theorem dX12_compile_58 : decode cX12_compile 58 = .ok (.iconst 1, 1) := by decide +kernel
theorem dX12_compile_59 : decode cX12_compile 59 = .ok (.putfield 248, 3) := by decide +kernel
theorem dX12_compile_62 : decode cX12_compile 62 = .ok (.iconst 1, 1) := by decide +kernel
theorem dX12_compile_63 : decode cX12_compile 63 = .ok (.istore_n 2, 1) := by decide +kernel
theorem dX12_compile_64 : decode cX12_compile 64 = .ok (.iconst 0, 1) := by decide +kernel
theorem dX12_compile_65 : decode cX12_compile 65 = .ok (.istore_n 3, 1) := by decide +kernel
theorem dX12_compile_66 : decode cX12_compile 66 = .ok (.iload_n 3, 1) := by decide +kernel
theorem dX12_compile_67 : decode cX12_compile 67 = .ok (.bipush 8, 2) := by decide +kernel
theorem dX12_compile_69 : decode cX12_compile 69 = .ok (.if_icmp .ge 55, 3) := by decide +kernel
theorem dX12_compile_72 : decode cX12_compile 72 = .ok (.aload_n 0, 1) := by decide +kernel
theorem dX12_compile_73 : decode cX12_compile 73 = .ok (.getfield 91, 3) := by decide +kernel
theorem dX12_compile_76 : decode cX12_compile 76 = .ok (.iload_n 3, 1) := by decide +kernel
theorem dX12_compile_77 : decode cX12_compile 77 = .ok (.aload_n 0, 1) := by decide +kernel
theorem dX12_compile_78 : decode cX12_compile 78 = .ok (.getfield 76, 3) := by decide +kernel
theorem dX12_compile_81 : decode cX12_compile 81 = .ok (.iload_n 3, 1) := by decide +kernel
theorem dX12_compile_82 : decode cX12_compile 82 = .ok (.iaload, 1) := by decide +kernel
theorem dX12_compile_83 : decode cX12_compile 83 = .ok (.iastore, 1) := by decide +kernel
theorem dX12_compile_84 : decode cX12_compile 84 = .ok (.iload_n 2, 1) := by decide +kernel
theorem dX12_compile_85 : decode cX12_compile 85 = .ok (.ifCond .eq 31, 3) := by decide +kernel
theorem dX12_compile_88 : decode cX12_compile 88 = .ok (.aload_n 0, 1) := by decide +kernel
theorem dX12_compile_89 : decode cX12_compile 89 = .ok (.getfield 13, 3) := by decide +kernel
theorem dX12_compile_92 : decode cX12_compile 92 = .ok (.bipush 6, 2) := by decide +kernel
theorem dX12_compile_94 : decode cX12_compile 94 = .ok (.aload_n 0, 1) := by decide +kernel
theorem dX12_compile_95 : decode cX12_compile 95 = .ok (.getfield 91, 3) := by decide +kernel
theorem dX12_compile_98 : decode cX12_compile 98 = .ok (.iload_n 3, 1) := by decide +kernel
theorem dX12_compile_99 : decode cX12_compile 99 = .ok (.iaload, 1) := by decide +kernel
theorem dX12_compile_100 : decode cX12_compile 100 = .ok (.imul, 1) := by decide +kernel
theorem dX12_compile_101 : decode cX12_compile 101 = .ok (.aload_n 0, 1) := by decide +kernel
theorem dX12_compile_102 : decode cX12_compile 102 = .ok (.getfield 24, 3) := by decide +kernel
theorem dX12_compile_105 : decode cX12_compile 105 = .ok (.iload_n 3, 1) := by decide +kernel
theorem dX12_compile_106 : decode cX12_compile 106 = .ok (.iaload, 1) := by decide +kernel
theorem dX12_compile_107 : decode cX12_compile 107 = .ok (.iadd, 1) := by decide +kernel
theorem dX12_compile_108 : decode cX12_compile 108 = .ok (.baload, 1) := by decide +kernel
theorem dX12_compile_109 : decode cX12_compile 109 = .ok (.ifCond .eq 7, 3) := by decide +kernel
theorem dX12_compile_112 : decode cX12_compile 112 = .ok (.iconst 1, 1) := by decide +kernel
theorem dX12_compile_113 : decode cX12_compile 113 = .ok (.goto 4, 3) := by decide +kernel
theorem dX12_compile_116 : decode cX12_compile 116 = .ok (.iconst 0, 1) := by decide +kernel
theorem dX12_compile_117 : decode cX12_compile 117 = .ok (.istore_n 2, 1) := by decide +kernel
theorem dX12_compile_118 : decode cX12_compile 118 = .ok (.iinc 3 1, 3) := by decide +kernel
theorem dX12_compile_121 : decode cX12_compile 121 = .ok (.goto (-55), 3) := by decide +kernel
theorem dX12_compile_124 : decode cX12_compile 124 = .ok (.aload_n 0, 1) := by decide +kernel
theorem dX12_compile_125 : decode cX12_compile 125 = .ok (.iload_n 2, 1) := by decide +kernel
theorem dX12_compile_126 : decode cX12_compile 126 = .ok (.ifCond .eq 7, 3) := by decide +kernel
theorem dX12_compile_129 : decode cX12_compile 129 = .ok (.iconst 0, 1) := by decide +kernel
theorem dX12_compile_130 : decode cX12_compile 130 = .ok (.goto 4, 3) := by decide +kernel
theorem dX12_compile_133 : decode cX12_compile 133 = .ok (.iconst 2, 1) := by decide +kernel
theorem dX12_compile_134 : decode cX12_compile 134 = .ok (.putfield 124, 3) := by decide +kernel
theorem dX12_compile_137 : decode cX12_compile 137 = .ok (.iload_n 2, 1) := by decide +kernel
theorem dX12_compile_138 : decode cX12_compile 138 = .ok (.ifCond .ne 5, 3) := by decide +kernel
theorem dX12_compile_141 : decode cX12_compile 141 = .ok (.iconst 0, 1) := by decide +kernel
theorem dX12_compile_142 : decode cX12_compile 142 = .ok (.ireturn, 1) := by decide +kernel
theorem dX12_compile_143 : decode cX12_compile 143 = .ok (.aload_n 0, 1) := by decide +kernel
theorem dX12_compile_144 : decode cX12_compile 144 = .ok (.aload_n 0, 1) := by decide +kernel
theorem dX12_compile_145 : decode cX12_compile 145 = .ok (.getfield 200, 3) := by decide +kernel
theorem dX12_compile_148 : decode cX12_compile 148 = .ok (.putfield 251, 3) := by decide +kernel
theorem dX12_compile_151 : decode cX12_compile 151 = .ok (.iconst 0, 1) := by decide +kernel
theorem dX12_compile_152 : decode cX12_compile 152 = .ok (.istore_n 3, 1) := by decide +kernel
theorem dX12_compile_153 : decode cX12_compile 153 = .ok (.iload_n 3, 1) := by decide +kernel
theorem dX12_compile_154 : decode cX12_compile 154 = .ok (.aload_n 0, 1) := by decide +kernel
theorem dX12_compile_155 : decode cX12_compile 155 = .ok (.getfield 251, 3) := by decide +kernel
theorem dX12_compile_158 : decode cX12_compile 158 = .ok (.if_icmp .ge 33, 3) := by decide +kernel
theorem dX12_compile_161 : decode cX12_compile 161 = .ok (.aload_n 0, 1) := by decide +kernel
theorem dX12_compile_162 : decode cX12_compile 162 = .ok (.getfield 94, 3) := by decide +kernel
theorem dX12_compile_165 : decode cX12_compile 165 = .ok (.iload_n 3, 1) := by decide +kernel
theorem dX12_compile_166 : decode cX12_compile 166 = .ok (.aload_n 0, 1) := by decide +kernel
theorem dX12_compile_167 : decode cX12_compile 167 = .ok (.getfield 85, 3) := by decide +kernel
theorem dX12_compile_170 : decode cX12_compile 170 = .ok (.iload_n 3, 1) := by decide +kernel
theorem dX12_compile_171 : decode cX12_compile 171 = .ok (.iaload, 1) := by decide +kernel
theorem dX12_compile_172 : decode cX12_compile 172 = .ok (.iastore, 1) := by decide +kernel
theorem dX12_compile_173 : decode cX12_compile 173 = .ok (.aload_n 0, 1) := by decide +kernel
theorem dX12_compile_174 : decode cX12_compile 174 = .ok (.getfield 97, 3) := by decide +kernel
theorem dX12_compile_177 : decode cX12_compile 177 = .ok (.iload_n 3, 1) := by decide +kernel
theorem dX12_compile_178 : decode cX12_compile 178 = .ok (.aload_n 0, 1) := by decide +kernel
theorem dX12_compile_179 : decode cX12_compile 179 = .ok (.getfield 88, 3) := by decide +kernel
theorem dX12_compile_182 : decode cX12_compile 182 = .ok (.iload_n 3, 1) := by decide +kernel
theorem dX12_compile_183 : decode cX12_compile 183 = .ok (.iaload, 1) := by decide +kernel
theorem dX12_compile_184 : decode cX12_compile 184 = .ok (.iastore, 1) := by decide +kernel
theorem dX12_compile_185 : decode cX12_compile 185 = .ok (.iinc 3 1, 3) := by decide +kernel
theorem dX12_compile_188 : decode cX12_compile 188 = .ok (.goto (-35), 3) := by decide +kernel
theorem dX12_compile_191 : decode cX12_compile 191 = .ok (.aload_n 0, 1) := by decide +kernel
theorem dX12_compile_192 : decode cX12_compile 192 = .ok (.iconst 1, 1) := by decide +kernel
theorem dX12_compile_193 : decode cX12_compile 193 = .ok (.putfield 254, 3) := by decide +kernel
theorem dX12_compile_196 : decode cX12_compile 196 = .ok (.aload_n 0, 1) := by decide +kernel
theorem dX12_compile_197 : decode cX12_compile 197 = .ok (.iconst 0, 1) := by decide +kernel
theorem dX12_compile_198 : decode cX12_compile 198 = .ok (.putfield 257, 3) := by decide +kernel
theorem dX12_compile_201 : decode cX12_compile 201 = .ok (.aload_n 0, 1) := by decide +kernel
theorem dX12_compile_202 : decode cX12_compile 202 = .ok (.getfield 251, 3) := by decide +kernel
theorem dX12_compile_205 : decode cX12_compile 205 = .ok (.ireturn, 1) := by decide +kernel
theorem dX12_position_0 : decode cX12_position 0 = .ok (.aload_n 0, 1) := by decide +kernel
theorem dX12_position_1 : decode cX12_position 1 = .ok (.iconst 0, 1) := by decide +kernel
theorem dX12_position_2 : decode cX12_position 2 = .ok (.putfield 124, 3) := by decide +kernel
theorem dX12_position_5 : decode cX12_position 5 = .ok (.aload_n 0, 1) := by decide +kernel
theorem dX12_position_6 : decode cX12_position 6 = .ok (.getfield 40, 3) := by decide +kernel
theorem dX12_position_9 : decode cX12_position 9 = .ok (.ireturn, 1) := by decide +kernel
theorem dX12_exit_0 : decode cX12_exit 0 = .ok (.aload_n 0, 1) := by decide +kernel
theorem dX12_exit_1 : decode cX12_exit 1 = .ok (.iconst 0, 1) := by decide +kernel
theorem dX12_exit_2 : decode cX12_exit 2 = .ok (.putfield 124, 3) := by decide +kernel
theorem dX12_exit_5 : decode cX12_exit 5 = .ok (.aload_n 0, 1) := by decide +kernel
theorem dX12_exit_6 : decode cX12_exit 6 = .ok (.getfield 248, 3) := by decide +kernel
theorem dX12_exit_9 : decode cX12_exit 9 = .ok (.ifCond .eq 22, 3) := by decide +kernel
theorem dX12_exit_12 : decode cX12_exit 12 = .ok (.iload_n 1, 1) := by decide +kernel
theorem dX12_exit_13 : decode cX12_exit 13 = .ok (.ifCond .lt 18, 3) := by decide +kernel
theorem dX12_exit_16 : decode cX12_exit 16 = .ok (.iload_n 1, 1) := by decide +kernel
theorem dX12_exit_17 : decode cX12_exit 17 = .ok (.bipush 8, 2) := by decide +kernel
theorem dX12_exit_19 : decode cX12_exit 19 = .ok (.if_icmp .ge 12, 3) := by decide +kernel
theorem dX12_exit_22 : decode cX12_exit 22 = .ok (.aload_n 0, 1) := by decide +kernel
theorem dX12_exit_23 : decode cX12_exit 23 = .ok (.getfield 91, 3) := by decide +kernel
theorem dX12_exit_26 : decode cX12_exit 26 = .ok (.iload_n 1, 1) := by decide +kernel
theorem dX12_exit_27 : decode cX12_exit 27 = .ok (.iaload, 1) := by decide +kernel
theorem dX12_exit_28 : decode cX12_exit 28 = .ok (.goto 4, 3) := by decide +kernel
theorem dX12_exit_31 : decode cX12_exit 31 = .ok (.iconst (-1), 1) := by decide +kernel
theorem dX12_exit_32 : decode cX12_exit 32 = .ok (.ireturn, 1) := by decide +kernel
theorem dX12_code_0 : decode cX12_code 0 = .ok (.aload_n 0, 1) := by decide +kernel
theorem dX12_code_1 : decode cX12_code 1 = .ok (.iconst 0, 1) := by decide +kernel
theorem dX12_code_2 : decode cX12_code 2 = .ok (.putfield 124, 3) := by decide +kernel
theorem dX12_code_5 : decode cX12_code 5 = .ok (.iload_n 1, 1) := by decide +kernel
theorem dX12_code_6 : decode cX12_code 6 = .ok (.iconst (-1), 1) := by decide +kernel
theorem dX12_code_7 : decode cX12_code 7 = .ok (.if_icmp .ne 8, 3) := by decide +kernel
theorem dX12_code_10 : decode cX12_code 10 = .ok (.aload_n 0, 1) := by decide +kernel
theorem dX12_code_11 : decode cX12_code 11 = .ok (.getfield 251, 3) := by decide +kernel
theorem dX12_code_14 : decode cX12_code 14 = .ok (.ireturn, 1) := by decide +kernel
theorem dX12_code_15 : decode cX12_code 15 = .ok (.iload_n 1, 1) := by decide +kernel
theorem dX12_code_16 : decode cX12_code 16 = .ok (.ifCond .lt 20, 3) := by decide +kernel
theorem dX12_code_19 : decode cX12_code 19 = .ok (.iload_n 1, 1) := by decide +kernel
theorem dX12_code_20 : decode cX12_code 20 = .ok (.aload_n 0, 1) := by decide +kernel
theorem dX12_code_21 : decode cX12_code 21 = .ok (.getfield 251, 3) := by decide +kernel
theorem dX12_code_24 : decode cX12_code 24 = .ok (.if_icmp .ge 12, 3) := by decide +kernel
theorem dX12_code_27 : decode cX12_code 27 = .ok (.iload_n 2, 1) := by decide +kernel
theorem dX12_code_28 : decode cX12_code 28 = .ok (.ifCond .lt 8, 3) := by decide +kernel
theorem dX12_code_31 : decode cX12_code 31 = .ok (.iload_n 2, 1) := by decide +kernel
theorem dX12_code_32 : decode cX12_code 32 = .ok (.iconst 1, 1) := by decide +kernel
theorem dX12_code_33 : decode cX12_code 33 = .ok (.if_icmp .le 5, 3) := by decide +kernel
theorem dX12_code_36 : decode cX12_code 36 = .ok (.iconst (-1), 1) := by decide +kernel
theorem dX12_code_37 : decode cX12_code 37 = .ok (.ireturn, 1) := by decide +kernel
theorem dX12_code_38 : decode cX12_code 38 = .ok (.iload_n 2, 1) := by decide +kernel
theorem dX12_code_39 : decode cX12_code 39 = .ok (.ifCond .ne 12, 3) := by decide +kernel
theorem dX12_code_42 : decode cX12_code 42 = .ok (.aload_n 0, 1) := by decide +kernel
theorem dX12_code_43 : decode cX12_code 43 = .ok (.getfield 94, 3) := by decide +kernel
theorem dX12_code_46 : decode cX12_code 46 = .ok (.iload_n 1, 1) := by decide +kernel
theorem dX12_code_47 : decode cX12_code 47 = .ok (.iaload, 1) := by decide +kernel
theorem dX12_code_48 : decode cX12_code 48 = .ok (.goto 9, 3) := by decide +kernel
theorem dX12_code_51 : decode cX12_code 51 = .ok (.aload_n 0, 1) := by decide +kernel
theorem dX12_code_52 : decode cX12_code 52 = .ok (.getfield 97, 3) := by decide +kernel
theorem dX12_code_55 : decode cX12_code 55 = .ok (.iload_n 1, 1) := by decide +kernel
theorem dX12_code_56 : decode cX12_code 56 = .ok (.iaload, 1) := by decide +kernel
theorem dX12_code_57 : decode cX12_code 57 = .ok (.ireturn, 1) := by decide +kernel
theorem dX12_empty_0 : decode cX12_empty 0 = .ok (.aload_n 0, 1) := by decide +kernel
theorem dX12_empty_1 : decode cX12_empty 1 = .ok (.iconst 0, 1) := by decide +kernel
theorem dX12_empty_2 : decode cX12_empty 2 = .ok (.putfield 124, 3) := by decide +kernel
theorem dX12_empty_5 : decode cX12_empty 5 = .ok (.aload_n 0, 1) := by decide +kernel
theorem dX12_empty_6 : decode cX12_empty 6 = .ok (.iconst 0, 1) := by decide +kernel
theorem dX12_empty_7 : decode cX12_empty 7 = .ok (.putfield 251, 3) := by decide +kernel
theorem dX12_empty_10 : decode cX12_empty 10 = .ok (.aload_n 0, 1) := by decide +kernel
theorem dX12_empty_11 : decode cX12_empty 11 = .ok (.iconst 0, 1) := by decide +kernel
theorem dX12_empty_12 : decode cX12_empty 12 = .ok (.putfield 254, 3) := by decide +kernel
theorem dX12_empty_15 : decode cX12_empty 15 = .ok (.aload_n 0, 1) := by decide +kernel
theorem dX12_empty_16 : decode cX12_empty 16 = .ok (.iconst 0, 1) := by decide +kernel
theorem dX12_empty_17 : decode cX12_empty 17 = .ok (.putfield 257, 3) := by decide +kernel
theorem dX12_empty_20 : decode cX12_empty 20 = .ok (.return_, 1) := by decide +kernel
theorem dX12_put_0 : decode cX12_put 0 = .ok (.aload_n 0, 1) := by decide +kernel
theorem dX12_put_1 : decode cX12_put 1 = .ok (.iconst 0, 1) := by decide +kernel
theorem dX12_put_2 : decode cX12_put 2 = .ok (.putfield 124, 3) := by decide +kernel
theorem dX12_put_5 : decode cX12_put 5 = .ok (.aload_n 0, 1) := by decide +kernel
theorem dX12_put_6 : decode cX12_put 6 = .ok (.getfield 251, 3) := by decide +kernel
theorem dX12_put_9 : decode cX12_put 9 = .ok (.bipush 100, 2) := by decide +kernel
theorem dX12_put_11 : decode cX12_put 11 = .ok (.if_icmp .ne 5, 3) := by decide +kernel
theorem dX12_put_14 : decode cX12_put 14 = .ok (.iconst 0, 1) := by decide +kernel
theorem dX12_put_15 : decode cX12_put 15 = .ok (.ireturn, 1) := by decide +kernel
theorem dX12_put_16 : decode cX12_put 16 = .ok (.aload_n 0, 1) := by decide +kernel
theorem dX12_put_17 : decode cX12_put 17 = .ok (.getfield 94, 3) := by decide +kernel
theorem dX12_put_20 : decode cX12_put 20 = .ok (.aload_n 0, 1) := by decide +kernel
theorem dX12_put_21 : decode cX12_put 21 = .ok (.getfield 251, 3) := by decide +kernel
theorem dX12_put_24 : decode cX12_put 24 = .ok (.iload_n 1, 1) := by decide +kernel
theorem dX12_put_25 : decode cX12_put 25 = .ok (.iastore, 1) := by decide +kernel
theorem dX12_put_26 : decode cX12_put 26 = .ok (.aload_n 0, 1) := by decide +kernel
theorem dX12_put_27 : decode cX12_put 27 = .ok (.getfield 97, 3) := by decide +kernel
theorem dX12_put_30 : decode cX12_put 30 = .ok (.aload_n 0, 1) := by decide +kernel
theorem dX12_put_31 : decode cX12_put 31 = .ok (.getfield 251, 3) := by decide +kernel
theorem dX12_put_34 : decode cX12_put 34 = .ok (.iload_n 2, 1) := by decide +kernel
theorem dX12_put_35 : decode cX12_put 35 = .ok (.iastore, 1) := by decide +kernel
theorem dX12_put_36 : decode cX12_put 36 = .ok (.aload_n 0, 1) := by decide +kernel
theorem dX12_put_37 : decode cX12_put 37 = .ok (.dup, 1) := by decide +kernel
theorem dX12_put_38 : decode cX12_put 38 = .ok (.getfield 251, 3) := by decide +kernel
theorem dX12_put_41 : decode cX12_put 41 = .ok (.iconst 1, 1) := by decide +kernel
theorem dX12_put_42 : decode cX12_put 42 = .ok (.iadd, 1) := by decide +kernel
theorem dX12_put_43 : decode cX12_put 43 = .ok (.putfield 251, 3) := by decide +kernel
theorem dX12_put_46 : decode cX12_put 46 = .ok (.aload_n 0, 1) := by decide +kernel
theorem dX12_put_47 : decode cX12_put 47 = .ok (.iconst 0, 1) := by decide +kernel
theorem dX12_put_48 : decode cX12_put 48 = .ok (.putfield 254, 3) := by decide +kernel
theorem dX12_put_51 : decode cX12_put 51 = .ok (.aload_n 0, 1) := by decide +kernel
theorem dX12_put_52 : decode cX12_put 52 = .ok (.iconst 0, 1) := by decide +kernel
theorem dX12_put_53 : decode cX12_put 53 = .ok (.putfield 257, 3) := by decide +kernel
theorem dX12_put_56 : decode cX12_put 56 = .ok (.iconst 1, 1) := by decide +kernel
theorem dX12_put_57 : decode cX12_put 57 = .ok (.ireturn, 1) := by decide +kernel
theorem dX12_plain_0 : decode cX12_plain 0 = .ok (.aload_n 0, 1) := by decide +kernel
theorem dX12_plain_1 : decode cX12_plain 1 = .ok (.getfield 251, 3) := by decide +kernel
theorem dX12_plain_4 : decode cX12_plain 4 = .ok (.ifCond .le 7, 3) := by decide +kernel
theorem dX12_plain_7 : decode cX12_plain 7 = .ok (.iconst 1, 1) := by decide +kernel
theorem dX12_plain_8 : decode cX12_plain 8 = .ok (.goto 4, 3) := by decide +kernel
theorem dX12_plain_11 : decode cX12_plain 11 = .ok (.iconst 0, 1) := by decide +kernel
theorem dX12_plain_12 : decode cX12_plain 12 = .ok (.istore_n 1, 1) := by decide +kernel
theorem dX12_plain_13 : decode cX12_plain 13 = .ok (.iconst 0, 1) := by decide +kernel
theorem dX12_plain_14 : decode cX12_plain 14 = .ok (.istore_n 2, 1) := by decide +kernel
theorem dX12_plain_15 : decode cX12_plain 15 = .ok (.iload_n 2, 1) := by decide +kernel
theorem dX12_plain_16 : decode cX12_plain 16 = .ok (.aload_n 0, 1) := by decide +kernel
theorem dX12_plain_17 : decode cX12_plain 17 = .ok (.getfield 251, 3) := by decide +kernel
theorem dX12_plain_20 : decode cX12_plain 20 = .ok (.if_icmp .ge 92, 3) := by decide +kernel
theorem dX12_plain_23 : decode cX12_plain 23 = .ok (.aload_n 0, 1) := by decide +kernel
theorem dX12_plain_24 : decode cX12_plain 24 = .ok (.getfield 94, 3) := by decide +kernel
theorem dX12_plain_27 : decode cX12_plain 27 = .ok (.iload_n 2, 1) := by decide +kernel
theorem dX12_plain_28 : decode cX12_plain 28 = .ok (.iaload, 1) := by decide +kernel
theorem dX12_plain_29 : decode cX12_plain 29 = .ok (.istore_n 3, 1) := by decide +kernel
theorem dX12_plain_30 : decode cX12_plain 30 = .ok (.aload_n 0, 1) := by decide +kernel
theorem dX12_plain_31 : decode cX12_plain 31 = .ok (.getfield 97, 3) := by decide +kernel
theorem dX12_plain_34 : decode cX12_plain 34 = .ok (.iload_n 2, 1) := by decide +kernel
theorem dX12_plain_35 : decode cX12_plain 35 = .ok (.iaload, 1) := by decide +kernel
theorem dX12_plain_36 : decode cX12_plain 36 = .ok (.istore 4, 2) := by decide +kernel
theorem dX12_plain_38 : decode cX12_plain 38 = .ok (.iload_n 1, 1) := by decide +kernel
theorem dX12_plain_39 : decode cX12_plain 39 = .ok (.ifCond .eq 65, 3) := by decide +kernel
theorem dX12_plain_42 : decode cX12_plain 42 = .ok (.iload_n 3, 1) := by decide +kernel
theorem dX12_plain_43 : decode cX12_plain 43 = .ok (.ifCond .lt 61, 3) := by decide +kernel
theorem dX12_plain_46 : decode cX12_plain 46 = .ok (.iload_n 3, 1) := by decide +kernel
theorem dX12_plain_47 : decode cX12_plain 47 = .ok (.bipush 9, 2) := by decide +kernel
theorem dX12_plain_49 : decode cX12_plain 49 = .ok (.if_icmp .gt 55, 3) := by decide +kernel
theorem dX12_plain_52 : decode cX12_plain 52 = .ok (.iload_n 3, 1) := by decide +kernel
theorem dX12_plain_53 : decode cX12_plain 53 = .ok (.iconst 1, 1) := by decide +kernel
theorem dX12_plain_54 : decode cX12_plain 54 = .ok (.if_icmp .eq 8, 3) := by decide +kernel
theorem dX12_plain_57 : decode cX12_plain 57 = .ok (.iload_n 3, 1) := by decide +kernel
theorem dX12_plain_58 : decode cX12_plain 58 = .ok (.iconst 2, 1) := by decide +kernel
theorem dX12_plain_59 : decode cX12_plain 59 = .ok (.if_icmp .ne 15, 3) := by decide +kernel
theorem dX12_plain_62 : decode cX12_plain 62 = .ok (.iload 4, 2) := by decide +kernel
theorem dX12_plain_64 : decode cX12_plain 64 = .ok (.ifCond .lt 40, 3) := by decide +kernel
theorem dX12_plain_67 : decode cX12_plain 67 = .ok (.iload 4, 2) := by decide +kernel
theorem dX12_plain_69 : decode cX12_plain 69 = .ok (.bipush 8, 2) := by decide +kernel
theorem dX12_plain_71 : decode cX12_plain 71 = .ok (.if_icmp .ge 33, 3) := by decide +kernel
theorem dX12_plain_74 : decode cX12_plain 74 = .ok (.iload_n 3, 1) := by decide +kernel
theorem dX12_plain_75 : decode cX12_plain 75 = .ok (.bipush 7, 2) := by decide +kernel
theorem dX12_plain_77 : decode cX12_plain 77 = .ok (.if_icmp .eq 9, 3) := by decide +kernel
theorem dX12_plain_80 : decode cX12_plain 80 = .ok (.iload_n 3, 1) := by decide +kernel
theorem dX12_plain_81 : decode cX12_plain 81 = .ok (.bipush 8, 2) := by decide +kernel
theorem dX12_plain_83 : decode cX12_plain 83 = .ok (.if_icmp .ne 17, 3) := by decide +kernel
theorem dX12_plain_86 : decode cX12_plain 86 = .ok (.iload 4, 2) := by decide +kernel
theorem dX12_plain_88 : decode cX12_plain 88 = .ok (.ifCond .lt 16, 3) := by decide +kernel
theorem dX12_plain_91 : decode cX12_plain 91 = .ok (.iload 4, 2) := by decide +kernel
theorem dX12_plain_93 : decode cX12_plain 93 = .ok (.aload_n 0, 1) := by decide +kernel
theorem dX12_plain_94 : decode cX12_plain 94 = .ok (.getfield 251, 3) := by decide +kernel
theorem dX12_plain_97 : decode cX12_plain 97 = .ok (.if_icmp .ge 7, 3) := by decide +kernel
theorem dX12_plain_100 : decode cX12_plain 100 = .ok (.iconst 1, 1) := by decide +kernel
theorem dX12_plain_101 : decode cX12_plain 101 = .ok (.goto 4, 3) := by decide +kernel
theorem dX12_plain_104 : decode cX12_plain 104 = .ok (.iconst 0, 1) := by decide +kernel
theorem dX12_plain_105 : decode cX12_plain 105 = .ok (.istore_n 1, 1) := by decide +kernel
theorem dX12_plain_106 : decode cX12_plain 106 = .ok (.iinc 2 1, 3) := by decide +kernel
theorem dX12_plain_109 : decode cX12_plain 109 = .ok (.goto (-94), 3) := by decide +kernel
theorem dX12_plain_112 : decode cX12_plain 112 = .ok (.iload_n 1, 1) := by decide +kernel
theorem dX12_plain_113 : decode cX12_plain 113 = .ok (.ireturn, 1) := by decide +kernel
theorem dX12_takenBy_0 : decode cX12_takenBy 0 = .ok (.iload_n 0, 1) := by decide +kernel
theorem dX12_takenBy_1 : decode cX12_takenBy 1 = .ok (.iconst 2, 1) := by decide +kernel
theorem dX12_takenBy_2 : decode cX12_takenBy 2 = .ok (.if_icmp .eq 9, 3) := by decide +kernel
theorem dX12_takenBy_5 : decode cX12_takenBy 5 = .ok (.iload_n 0, 1) := by decide +kernel
theorem dX12_takenBy_6 : decode cX12_takenBy 6 = .ok (.bipush 7, 2) := by decide +kernel
theorem dX12_takenBy_8 : decode cX12_takenBy 8 = .ok (.if_icmp .ne 7, 3) := by decide +kernel
theorem dX12_takenBy_11 : decode cX12_takenBy 11 = .ok (.iconst 1, 1) := by decide +kernel
theorem dX12_takenBy_12 : decode cX12_takenBy 12 = .ok (.goto 19, 3) := by decide +kernel
theorem dX12_takenBy_15 : decode cX12_takenBy 15 = .ok (.iload_n 0, 1) := by decide +kernel
theorem dX12_takenBy_16 : decode cX12_takenBy 16 = .ok (.iconst 2, 1) := by decide +kernel
theorem dX12_takenBy_17 : decode cX12_takenBy 17 = .ok (.if_icmp .le 13, 3) := by decide +kernel
theorem dX12_takenBy_20 : decode cX12_takenBy 20 = .ok (.iload_n 0, 1) := by decide +kernel
theorem dX12_takenBy_21 : decode cX12_takenBy 21 = .ok (.bipush 7, 2) := by decide +kernel
theorem dX12_takenBy_23 : decode cX12_takenBy 23 = .ok (.if_icmp .ge 7, 3) := by decide +kernel
theorem dX12_takenBy_26 : decode cX12_takenBy 26 = .ok (.iconst 2, 1) := by decide +kernel
theorem dX12_takenBy_27 : decode cX12_takenBy 27 = .ok (.goto 4, 3) := by decide +kernel
theorem dX12_takenBy_30 : decode cX12_takenBy 30 = .ok (.iconst 0, 1) := by decide +kernel
theorem dX12_takenBy_31 : decode cX12_takenBy 31 = .ok (.ireturn, 1) := by decide +kernel
theorem dX12_givenBy_0 : decode cX12_givenBy 0 = .ok (.iload_n 0, 1) := by decide +kernel
theorem dX12_givenBy_1 : decode cX12_givenBy 1 = .ok (.iconst 2, 1) := by decide +kernel
theorem dX12_givenBy_2 : decode cX12_givenBy 2 = .ok (.if_icmp .lt 14, 3) := by decide +kernel
theorem dX12_givenBy_5 : decode cX12_givenBy 5 = .ok (.iload_n 0, 1) := by decide +kernel
theorem dX12_givenBy_6 : decode cX12_givenBy 6 = .ok (.iconst 2, 1) := by decide +kernel
theorem dX12_givenBy_7 : decode cX12_givenBy 7 = .ok (.if_icmp .le 13, 3) := by decide +kernel
theorem dX12_givenBy_10 : decode cX12_givenBy 10 = .ok (.iload_n 0, 1) := by decide +kernel
theorem dX12_givenBy_11 : decode cX12_givenBy 11 = .ok (.bipush 7, 2) := by decide +kernel
theorem dX12_givenBy_13 : decode cX12_givenBy 13 = .ok (.if_icmp .ge 7, 3) := by decide +kernel
theorem dX12_givenBy_16 : decode cX12_givenBy 16 = .ok (.iconst 1, 1) := by decide +kernel
theorem dX12_givenBy_17 : decode cX12_givenBy 17 = .ok (.goto 4, 3) := by decide +kernel
theorem dX12_givenBy_20 : decode cX12_givenBy 20 = .ok (.iconst 0, 1) := by decide +kernel
theorem dX12_givenBy_21 : decode cX12_givenBy 21 = .ok (.ireturn, 1) := by decide +kernel
theorem dX12_nextOf_0 : decode cX12_nextOf 0 = .ok (.aload_n 0, 1) := by decide +kernel
theorem dX12_nextOf_1 : decode cX12_nextOf 1 = .ok (.getfield 94, 3) := by decide +kernel
theorem dX12_nextOf_4 : decode cX12_nextOf 4 = .ok (.iload_n 1, 1) := by decide +kernel
theorem dX12_nextOf_5 : decode cX12_nextOf 5 = .ok (.iaload, 1) := by decide +kernel
theorem dX12_nextOf_6 : decode cX12_nextOf 6 = .ok (.istore_n 3, 1) := by decide +kernel
theorem dX12_nextOf_7 : decode cX12_nextOf 7 = .ok (.iload_n 2, 1) := by decide +kernel
theorem dX12_nextOf_8 : decode cX12_nextOf 8 = .ok (.ifCond .ne 32, 3) := by decide +kernel
theorem dX12_nextOf_11 : decode cX12_nextOf 11 = .ok (.iload_n 3, 1) := by decide +kernel
theorem dX12_nextOf_12 : decode cX12_nextOf 12 = .ok (.bipush 9, 2) := by decide +kernel
theorem dX12_nextOf_14 : decode cX12_nextOf 14 = .ok (.if_icmp .ne 7, 3) := by decide +kernel
theorem dX12_nextOf_17 : decode cX12_nextOf 17 = .ok (.iconst (-1), 1) := by decide +kernel
theorem dX12_nextOf_18 : decode cX12_nextOf 18 = .ok (.goto 21, 3) := by decide +kernel
theorem dX12_nextOf_21 : decode cX12_nextOf 21 = .ok (.iload_n 3, 1) := by decide +kernel
theorem dX12_nextOf_22 : decode cX12_nextOf 22 = .ok (.bipush 8, 2) := by decide +kernel
theorem dX12_nextOf_24 : decode cX12_nextOf 24 = .ok (.if_icmp .ne 12, 3) := by decide +kernel
theorem dX12_nextOf_27 : decode cX12_nextOf 27 = .ok (.aload_n 0, 1) := by decide +kernel
theorem dX12_nextOf_28 : decode cX12_nextOf 28 = .ok (.getfield 97, 3) := by decide +kernel
theorem dX12_nextOf_31 : decode cX12_nextOf 31 = .ok (.iload_n 1, 1) := by decide +kernel
theorem dX12_nextOf_32 : decode cX12_nextOf 32 = .ok (.iaload, 1) := by decide +kernel
theorem dX12_nextOf_33 : decode cX12_nextOf 33 = .ok (.goto 6, 3) := by decide +kernel
theorem dX12_nextOf_36 : decode cX12_nextOf 36 = .ok (.iload_n 1, 1) := by decide +kernel
theorem dX12_nextOf_37 : decode cX12_nextOf 37 = .ok (.iconst 1, 1) := by decide +kernel
theorem dX12_nextOf_38 : decode cX12_nextOf 38 = .ok (.iadd, 1) := by decide +kernel
theorem dX12_nextOf_39 : decode cX12_nextOf 39 = .ok (.ireturn, 1) := by decide +kernel
theorem dX12_nextOf_40 : decode cX12_nextOf 40 = .ok (.iload_n 3, 1) := by decide +kernel
theorem dX12_nextOf_41 : decode cX12_nextOf 41 = .ok (.bipush 7, 2) := by decide +kernel
theorem dX12_nextOf_43 : decode cX12_nextOf 43 = .ok (.if_icmp .ne 12, 3) := by decide +kernel
theorem dX12_nextOf_46 : decode cX12_nextOf 46 = .ok (.aload_n 0, 1) := by decide +kernel
theorem dX12_nextOf_47 : decode cX12_nextOf 47 = .ok (.getfield 97, 3) := by decide +kernel
theorem dX12_nextOf_50 : decode cX12_nextOf 50 = .ok (.iload_n 1, 1) := by decide +kernel
theorem dX12_nextOf_51 : decode cX12_nextOf 51 = .ok (.iaload, 1) := by decide +kernel
theorem dX12_nextOf_52 : decode cX12_nextOf 52 = .ok (.goto 4, 3) := by decide +kernel
theorem dX12_nextOf_55 : decode cX12_nextOf 55 = .ok (.iconst (-1), 1) := by decide +kernel
theorem dX12_nextOf_56 : decode cX12_nextOf 56 = .ok (.ireturn, 1) := by decide +kernel
theorem dX12_heights_0 : decode cX12_heights 0 = .ok (.iconst 0, 1) := by decide +kernel
theorem dX12_heights_1 : decode cX12_heights 1 = .ok (.istore_n 1, 1) := by decide +kernel
theorem dX12_heights_2 : decode cX12_heights 2 = .ok (.iload_n 1, 1) := by decide +kernel
theorem dX12_heights_3 : decode cX12_heights 3 = .ok (.aload_n 0, 1) := by decide +kernel
theorem dX12_heights_4 : decode cX12_heights 4 = .ok (.getfield 251, 3) := by decide +kernel
theorem dX12_heights_7 : decode cX12_heights 7 = .ok (.if_icmp .ge 16, 3) := by decide +kernel
theorem dX12_heights_10 : decode cX12_heights 10 = .ok (.aload_n 0, 1) := by decide +kernel
theorem dX12_heights_11 : decode cX12_heights 11 = .ok (.getfield 100, 3) := by decide +kernel
theorem dX12_heights_14 : decode cX12_heights 14 = .ok (.iload_n 1, 1) := by decide +kernel
theorem dX12_heights_15 : decode cX12_heights 15 = .ok (.iconst (-1), 1) := by decide +kernel
theorem dX12_heights_16 : decode cX12_heights 16 = .ok (.iastore, 1) := by decide +kernel
theorem dX12_heights_17 : decode cX12_heights 17 = .ok (.iinc 1 1, 3) := by decide +kernel
theorem dX12_heights_20 : decode cX12_heights 20 = .ok (.goto (-18), 3) := by decide +kernel
theorem dX12_heights_23 : decode cX12_heights 23 = .ok (.aload_n 0, 1) := by decide +kernel
theorem dX12_heights_24 : decode cX12_heights 24 = .ok (.getfield 100, 3) := by decide +kernel
theorem dX12_heights_27 : decode cX12_heights 27 = .ok (.iconst 0, 1) := by decide +kernel
theorem dX12_heights_28 : decode cX12_heights 28 = .ok (.iconst 0, 1) := by decide +kernel
theorem dX12_heights_29 : decode cX12_heights 29 = .ok (.iastore, 1) := by decide +kernel
theorem dX12_heights_30 : decode cX12_heights 30 = .ok (.aload_n 0, 1) := by decide +kernel
theorem dX12_heights_31 : decode cX12_heights 31 = .ok (.getfield 106, 3) := by decide +kernel
theorem dX12_heights_34 : decode cX12_heights 34 = .ok (.iconst 0, 1) := by decide +kernel
theorem dX12_heights_35 : decode cX12_heights 35 = .ok (.iconst 0, 1) := by decide +kernel
theorem dX12_heights_36 : decode cX12_heights 36 = .ok (.iastore, 1) := by decide +kernel
theorem dX12_heights_37 : decode cX12_heights 37 = .ok (.iconst 1, 1) := by decide +kernel
theorem dX12_heights_38 : decode cX12_heights 38 = .ok (.istore_n 1, 1) := by decide +kernel
theorem dX12_heights_39 : decode cX12_heights 39 = .ok (.iload_n 1, 1) := by decide +kernel
theorem dX12_heights_40 : decode cX12_heights 40 = .ok (.ifCond .le 177, 3) := by decide +kernel
theorem dX12_heights_43 : decode cX12_heights 43 = .ok (.iinc 1 (-1), 3) := by decide +kernel
theorem dX12_heights_46 : decode cX12_heights 46 = .ok (.aload_n 0, 1) := by decide +kernel
theorem dX12_heights_47 : decode cX12_heights 47 = .ok (.getfield 106, 3) := by decide +kernel
theorem dX12_heights_50 : decode cX12_heights 50 = .ok (.iload_n 1, 1) := by decide +kernel
theorem dX12_heights_51 : decode cX12_heights 51 = .ok (.iaload, 1) := by decide +kernel
theorem dX12_heights_52 : decode cX12_heights 52 = .ok (.istore_n 2, 1) := by decide +kernel
theorem dX12_heights_53 : decode cX12_heights 53 = .ok (.aload_n 0, 1) := by decide +kernel
theorem dX12_heights_54 : decode cX12_heights 54 = .ok (.getfield 100, 3) := by decide +kernel
theorem dX12_heights_57 : decode cX12_heights 57 = .ok (.iload_n 2, 1) := by decide +kernel
theorem dX12_heights_58 : decode cX12_heights 58 = .ok (.iaload, 1) := by decide +kernel
theorem dX12_heights_59 : decode cX12_heights 59 = .ok (.aload_n 0, 1) := by decide +kernel
theorem dX12_heights_60 : decode cX12_heights 60 = .ok (.getfield 94, 3) := by decide +kernel
theorem dX12_heights_63 : decode cX12_heights 63 = .ok (.iload_n 2, 1) := by decide +kernel
theorem dX12_heights_64 : decode cX12_heights 64 = .ok (.iaload, 1) := by decide +kernel
theorem dX12_heights_65 : decode cX12_heights 65 = .ok (.invokestatic 260, 3) := by decide +kernel
theorem dX12_heights_68 : decode cX12_heights 68 = .ok (.isub, 1) := by decide +kernel
theorem dX12_heights_69 : decode cX12_heights 69 = .ok (.istore_n 3, 1) := by decide +kernel
theorem dX12_heights_70 : decode cX12_heights 70 = .ok (.iload_n 3, 1) := by decide +kernel
theorem dX12_heights_71 : decode cX12_heights 71 = .ok (.ifCond .lt 34, 3) := by decide +kernel
theorem dX12_heights_74 : decode cX12_heights 74 = .ok (.iload_n 3, 1) := by decide +kernel
theorem dX12_heights_75 : decode cX12_heights 75 = .ok (.aload_n 0, 1) := by decide +kernel
theorem dX12_heights_76 : decode cX12_heights 76 = .ok (.getfield 94, 3) := by decide +kernel
theorem dX12_heights_79 : decode cX12_heights 79 = .ok (.iload_n 2, 1) := by decide +kernel
theorem dX12_heights_80 : decode cX12_heights 80 = .ok (.iaload, 1) := by decide +kernel
theorem dX12_heights_81 : decode cX12_heights 81 = .ok (.invokestatic 263, 3) := by decide +kernel
theorem dX12_heights_84 : decode cX12_heights 84 = .ok (.iadd, 1) := by decide +kernel
theorem dX12_heights_85 : decode cX12_heights 85 = .ok (.bipush 8, 2) := by decide +kernel
theorem dX12_heights_87 : decode cX12_heights 87 = .ok (.if_icmp .gt 18, 3) := by decide +kernel
theorem dX12_heights_90 : decode cX12_heights 90 = .ok (.aload_n 0, 1) := by decide +kernel
theorem dX12_heights_91 : decode cX12_heights 91 = .ok (.getfield 94, 3) := by decide +kernel
theorem dX12_heights_94 : decode cX12_heights 94 = .ok (.iload_n 2, 1) := by decide +kernel
theorem dX12_heights_95 : decode cX12_heights 95 = .ok (.iaload, 1) := by decide +kernel
theorem dX12_heights_96 : decode cX12_heights 96 = .ok (.bipush 9, 2) := by decide +kernel
theorem dX12_heights_98 : decode cX12_heights 98 = .ok (.if_icmp .ne 9, 3) := by decide +kernel
theorem dX12_heights_101 : decode cX12_heights 101 = .ok (.iload_n 3, 1) := by decide +kernel
theorem dX12_heights_102 : decode cX12_heights 102 = .ok (.ifCond .le 5, 3) := by decide +kernel
theorem dX12_heights_105 : decode cX12_heights 105 = .ok (.iconst 0, 1) := by decide +kernel
theorem dX12_heights_106 : decode cX12_heights 106 = .ok (.ireturn, 1) := by decide +kernel
theorem dX12_heights_107 : decode cX12_heights 107 = .ok (.iload_n 3, 1) := by decide +kernel
theorem dX12_heights_108 : decode cX12_heights 108 = .ok (.aload_n 0, 1) := by decide +kernel
theorem dX12_heights_109 : decode cX12_heights 109 = .ok (.getfield 94, 3) := by decide +kernel
theorem dX12_heights_112 : decode cX12_heights 112 = .ok (.iload_n 2, 1) := by decide +kernel
theorem dX12_heights_113 : decode cX12_heights 113 = .ok (.iaload, 1) := by decide +kernel
theorem dX12_heights_114 : decode cX12_heights 114 = .ok (.invokestatic 263, 3) := by decide +kernel
theorem dX12_heights_117 : decode cX12_heights 117 = .ok (.iadd, 1) := by decide +kernel
theorem dX12_heights_118 : decode cX12_heights 118 = .ok (.istore_n 3, 1) := by decide +kernel
theorem dX12_heights_119 : decode cX12_heights 119 = .ok (.iconst 0, 1) := by decide +kernel
theorem dX12_heights_120 : decode cX12_heights 120 = .ok (.istore 4, 2) := by decide +kernel
theorem dX12_heights_122 : decode cX12_heights 122 = .ok (.iload 4, 2) := by decide +kernel
theorem dX12_heights_124 : decode cX12_heights 124 = .ok (.iconst 2, 1) := by decide +kernel
theorem dX12_heights_125 : decode cX12_heights 125 = .ok (.if_icmp .ge 89, 3) := by decide +kernel
theorem dX12_heights_128 : decode cX12_heights 128 = .ok (.aload_n 0, 1) := by decide +kernel
theorem dX12_heights_129 : decode cX12_heights 129 = .ok (.iload_n 2, 1) := by decide +kernel
theorem dX12_heights_130 : decode cX12_heights 130 = .ok (.iload 4, 2) := by decide +kernel
theorem dX12_heights_132 : decode cX12_heights 132 = .ok (.invokevirtual 266, 3) := by decide +kernel
theorem dX12_heights_135 : decode cX12_heights 135 = .ok (.istore 5, 2) := by decide +kernel
theorem dX12_heights_137 : decode cX12_heights 137 = .ok (.iload 5, 2) := by decide +kernel
theorem dX12_heights_139 : decode cX12_heights 139 = .ok (.aload_n 0, 1) := by decide +kernel
theorem dX12_heights_140 : decode cX12_heights 140 = .ok (.getfield 251, 3) := by decide +kernel
theorem dX12_heights_143 : decode cX12_heights 143 = .ok (.if_icmp .ge 29, 3) := by decide +kernel
theorem dX12_heights_146 : decode cX12_heights 146 = .ok (.iload 5, 2) := by decide +kernel
theorem dX12_heights_148 : decode cX12_heights 148 = .ok (.ifCond .lt 26, 3) := by decide +kernel
theorem dX12_heights_151 : decode cX12_heights 151 = .ok (.aload_n 0, 1) := by decide +kernel
theorem dX12_heights_152 : decode cX12_heights 152 = .ok (.getfield 100, 3) := by decide +kernel
theorem dX12_heights_155 : decode cX12_heights 155 = .ok (.iload 5, 2) := by decide +kernel
theorem dX12_heights_157 : decode cX12_heights 157 = .ok (.iaload, 1) := by decide +kernel
theorem dX12_heights_158 : decode cX12_heights 158 = .ok (.ifCond .lt 16, 3) := by decide +kernel
theorem dX12_heights_161 : decode cX12_heights 161 = .ok (.aload_n 0, 1) := by decide +kernel
theorem dX12_heights_162 : decode cX12_heights 162 = .ok (.getfield 100, 3) := by decide +kernel
theorem dX12_heights_165 : decode cX12_heights 165 = .ok (.iload 5, 2) := by decide +kernel
theorem dX12_heights_167 : decode cX12_heights 167 = .ok (.iaload, 1) := by decide +kernel
theorem dX12_heights_168 : decode cX12_heights 168 = .ok (.iload_n 3, 1) := by decide +kernel
theorem dX12_heights_169 : decode cX12_heights 169 = .ok (.if_icmp .eq 5, 3) := by decide +kernel
theorem dX12_heights_172 : decode cX12_heights 172 = .ok (.iconst 0, 1) := by decide +kernel
theorem dX12_heights_173 : decode cX12_heights 173 = .ok (.ireturn, 1) := by decide +kernel
theorem dX12_heights_174 : decode cX12_heights 174 = .ok (.iload 5, 2) := by decide +kernel
theorem dX12_heights_176 : decode cX12_heights 176 = .ok (.ifCond .lt 32, 3) := by decide +kernel
theorem dX12_heights_179 : decode cX12_heights 179 = .ok (.aload_n 0, 1) := by decide +kernel
theorem dX12_heights_180 : decode cX12_heights 180 = .ok (.getfield 100, 3) := by decide +kernel
theorem dX12_heights_183 : decode cX12_heights 183 = .ok (.iload 5, 2) := by decide +kernel
theorem dX12_heights_185 : decode cX12_heights 185 = .ok (.iaload, 1) := by decide +kernel
theorem dX12_heights_186 : decode cX12_heights 186 = .ok (.ifCond .ge 22, 3) := by decide +kernel
theorem dX12_heights_189 : decode cX12_heights 189 = .ok (.aload_n 0, 1) := by decide +kernel
theorem dX12_heights_190 : decode cX12_heights 190 = .ok (.getfield 100, 3) := by decide +kernel
theorem dX12_heights_193 : decode cX12_heights 193 = .ok (.iload 5, 2) := by decide +kernel
theorem dX12_heights_195 : decode cX12_heights 195 = .ok (.iload_n 3, 1) := by decide +kernel
theorem dX12_heights_196 : decode cX12_heights 196 = .ok (.iastore, 1) := by decide +kernel
theorem dX12_heights_197 : decode cX12_heights 197 = .ok (.aload_n 0, 1) := by decide +kernel
theorem dX12_heights_198 : decode cX12_heights 198 = .ok (.getfield 106, 3) := by decide +kernel
theorem dX12_heights_201 : decode cX12_heights 201 = .ok (.iload_n 1, 1) := by decide +kernel
theorem dX12_heights_202 : decode cX12_heights 202 = .ok (.iload 5, 2) := by decide +kernel
theorem dX12_heights_204 : decode cX12_heights 204 = .ok (.iastore, 1) := by decide +kernel
theorem dX12_heights_205 : decode cX12_heights 205 = .ok (.iinc 1 1, 3) := by decide +kernel
theorem dX12_heights_208 : decode cX12_heights 208 = .ok (.iinc 4 1, 3) := by decide +kernel
theorem dX12_heights_211 : decode cX12_heights 211 = .ok (.goto (-89), 3) := by decide +kernel
theorem dX12_heights_214 : decode cX12_heights 214 = .ok (.goto (-175), 3) := by decide +kernel
theorem dX12_heights_217 : decode cX12_heights 217 = .ok (.iconst 1, 1) := by decide +kernel
theorem dX12_heights_218 : decode cX12_heights 218 = .ok (.ireturn, 1) := by decide +kernel
theorem dX12_comesToEnd_0 : decode cX12_comesToEnd 0 = .ok (.iconst 0, 1) := by decide +kernel
theorem dX12_comesToEnd_1 : decode cX12_comesToEnd 1 = .ok (.istore_n 3, 1) := by decide +kernel
theorem dX12_comesToEnd_2 : decode cX12_comesToEnd 2 = .ok (.iload_n 3, 1) := by decide +kernel
theorem dX12_comesToEnd_3 : decode cX12_comesToEnd 3 = .ok (.aload_n 0, 1) := by decide +kernel
theorem dX12_comesToEnd_4 : decode cX12_comesToEnd 4 = .ok (.getfield 251, 3) := by decide +kernel
theorem dX12_comesToEnd_7 : decode cX12_comesToEnd 7 = .ok (.if_icmp .ge 25, 3) := by decide +kernel
theorem dX12_comesToEnd_10 : decode cX12_comesToEnd 10 = .ok (.aload_n 0, 1) := by decide +kernel
theorem dX12_comesToEnd_11 : decode cX12_comesToEnd 11 = .ok (.getfield 103, 3) := by decide +kernel
theorem dX12_comesToEnd_14 : decode cX12_comesToEnd 14 = .ok (.iload_n 3, 1) := by decide +kernel
theorem dX12_comesToEnd_15 : decode cX12_comesToEnd 15 = .ok (.iload_n 3, 1) := by decide +kernel
theorem dX12_comesToEnd_16 : decode cX12_comesToEnd 16 = .ok (.iload_n 2, 1) := by decide +kernel
theorem dX12_comesToEnd_17 : decode cX12_comesToEnd 17 = .ok (.if_icmp .ne 7, 3) := by decide +kernel
theorem dX12_comesToEnd_20 : decode cX12_comesToEnd 20 = .ok (.iconst 1, 1) := by decide +kernel
theorem dX12_comesToEnd_21 : decode cX12_comesToEnd 21 = .ok (.goto 4, 3) := by decide +kernel
theorem dX12_comesToEnd_24 : decode cX12_comesToEnd 24 = .ok (.iconst 0, 1) := by decide +kernel
theorem dX12_comesToEnd_25 : decode cX12_comesToEnd 25 = .ok (.bastore, 1) := by decide +kernel
theorem dX12_comesToEnd_26 : decode cX12_comesToEnd 26 = .ok (.iinc 3 1, 3) := by decide +kernel
theorem dX12_comesToEnd_29 : decode cX12_comesToEnd 29 = .ok (.goto (-27), 3) := by decide +kernel
theorem dX12_comesToEnd_32 : decode cX12_comesToEnd 32 = .ok (.aload_n 0, 1) := by decide +kernel
theorem dX12_comesToEnd_33 : decode cX12_comesToEnd 33 = .ok (.getfield 103, 3) := by decide +kernel
theorem dX12_comesToEnd_36 : decode cX12_comesToEnd 36 = .ok (.iload_n 1, 1) := by decide +kernel
theorem dX12_comesToEnd_37 : decode cX12_comesToEnd 37 = .ok (.baload, 1) := by decide +kernel
theorem dX12_comesToEnd_38 : decode cX12_comesToEnd 38 = .ok (.ifCond .eq 5, 3) := by decide +kernel
theorem dX12_comesToEnd_41 : decode cX12_comesToEnd 41 = .ok (.iconst 0, 1) := by decide +kernel
theorem dX12_comesToEnd_42 : decode cX12_comesToEnd 42 = .ok (.ireturn, 1) := by decide +kernel
theorem dX12_comesToEnd_43 : decode cX12_comesToEnd 43 = .ok (.aload_n 0, 1) := by decide +kernel
theorem dX12_comesToEnd_44 : decode cX12_comesToEnd 44 = .ok (.getfield 103, 3) := by decide +kernel
theorem dX12_comesToEnd_47 : decode cX12_comesToEnd 47 = .ok (.iload_n 1, 1) := by decide +kernel
theorem dX12_comesToEnd_48 : decode cX12_comesToEnd 48 = .ok (.iconst 1, 1) := by decide +kernel
theorem dX12_comesToEnd_49 : decode cX12_comesToEnd 49 = .ok (.bastore, 1) := by decide +kernel
theorem dX12_comesToEnd_50 : decode cX12_comesToEnd 50 = .ok (.aload_n 0, 1) := by decide +kernel
theorem dX12_comesToEnd_51 : decode cX12_comesToEnd 51 = .ok (.getfield 106, 3) := by decide +kernel
theorem dX12_comesToEnd_54 : decode cX12_comesToEnd 54 = .ok (.iconst 0, 1) := by decide +kernel
theorem dX12_comesToEnd_55 : decode cX12_comesToEnd 55 = .ok (.iload_n 1, 1) := by decide +kernel
theorem dX12_comesToEnd_56 : decode cX12_comesToEnd 56 = .ok (.iastore, 1) := by decide +kernel
theorem dX12_comesToEnd_57 : decode cX12_comesToEnd 57 = .ok (.iconst 1, 1) := by decide +kernel
theorem dX12_comesToEnd_58 : decode cX12_comesToEnd 58 = .ok (.istore_n 3, 1) := by decide +kernel
theorem dX12_comesToEnd_59 : decode cX12_comesToEnd 59 = .ok (.iload_n 3, 1) := by decide +kernel
theorem dX12_comesToEnd_60 : decode cX12_comesToEnd 60 = .ok (.ifCond .le 90, 3) := by decide +kernel
theorem dX12_comesToEnd_63 : decode cX12_comesToEnd 63 = .ok (.iinc 3 (-1), 3) := by decide +kernel
theorem dX12_comesToEnd_66 : decode cX12_comesToEnd 66 = .ok (.aload_n 0, 1) := by decide +kernel
theorem dX12_comesToEnd_67 : decode cX12_comesToEnd 67 = .ok (.getfield 106, 3) := by decide +kernel
theorem dX12_comesToEnd_70 : decode cX12_comesToEnd 70 = .ok (.iload_n 3, 1) := by decide +kernel
theorem dX12_comesToEnd_71 : decode cX12_comesToEnd 71 = .ok (.iaload, 1) := by decide +kernel
theorem dX12_comesToEnd_72 : decode cX12_comesToEnd 72 = .ok (.istore 4, 2) := by decide +kernel
theorem dX12_comesToEnd_74 : decode cX12_comesToEnd 74 = .ok (.aload_n 0, 1) := by decide +kernel
theorem dX12_comesToEnd_75 : decode cX12_comesToEnd 75 = .ok (.getfield 94, 3) := by decide +kernel
theorem dX12_comesToEnd_78 : decode cX12_comesToEnd 78 = .ok (.iload 4, 2) := by decide +kernel
theorem dX12_comesToEnd_80 : decode cX12_comesToEnd 80 = .ok (.iaload, 1) := by decide +kernel
theorem dX12_comesToEnd_81 : decode cX12_comesToEnd 81 = .ok (.bipush 9, 2) := by decide +kernel
theorem dX12_comesToEnd_83 : decode cX12_comesToEnd 83 = .ok (.if_icmp .ne 5, 3) := by decide +kernel
theorem dX12_comesToEnd_86 : decode cX12_comesToEnd 86 = .ok (.iconst 1, 1) := by decide +kernel
theorem dX12_comesToEnd_87 : decode cX12_comesToEnd 87 = .ok (.ireturn, 1) := by decide +kernel
theorem dX12_comesToEnd_88 : decode cX12_comesToEnd 88 = .ok (.iconst 0, 1) := by decide +kernel
theorem dX12_comesToEnd_89 : decode cX12_comesToEnd 89 = .ok (.istore 5, 2) := by decide +kernel
theorem dX12_comesToEnd_91 : decode cX12_comesToEnd 91 = .ok (.iload 5, 2) := by decide +kernel
theorem dX12_comesToEnd_93 : decode cX12_comesToEnd 93 = .ok (.iconst 2, 1) := by decide +kernel
theorem dX12_comesToEnd_94 : decode cX12_comesToEnd 94 = .ok (.if_icmp .ge 53, 3) := by decide +kernel
theorem dX12_comesToEnd_97 : decode cX12_comesToEnd 97 = .ok (.aload_n 0, 1) := by decide +kernel
theorem dX12_comesToEnd_98 : decode cX12_comesToEnd 98 = .ok (.iload 4, 2) := by decide +kernel
theorem dX12_comesToEnd_100 : decode cX12_comesToEnd 100 = .ok (.iload 5, 2) := by decide +kernel
theorem dX12_comesToEnd_102 : decode cX12_comesToEnd 102 = .ok (.invokevirtual 266, 3) := by decide +kernel
theorem dX12_comesToEnd_105 : decode cX12_comesToEnd 105 = .ok (.istore 6, 2) := by decide +kernel
theorem dX12_comesToEnd_107 : decode cX12_comesToEnd 107 = .ok (.iload 6, 2) := by decide +kernel
theorem dX12_comesToEnd_109 : decode cX12_comesToEnd 109 = .ok (.ifCond .lt 32, 3) := by decide +kernel
theorem dX12_comesToEnd_112 : decode cX12_comesToEnd 112 = .ok (.aload_n 0, 1) := by decide +kernel
theorem dX12_comesToEnd_113 : decode cX12_comesToEnd 113 = .ok (.getfield 103, 3) := by decide +kernel
theorem dX12_comesToEnd_116 : decode cX12_comesToEnd 116 = .ok (.iload 6, 2) := by decide +kernel
theorem dX12_comesToEnd_118 : decode cX12_comesToEnd 118 = .ok (.baload, 1) := by decide +kernel
theorem dX12_comesToEnd_119 : decode cX12_comesToEnd 119 = .ok (.ifCond .ne 22, 3) := by decide +kernel
theorem dX12_comesToEnd_122 : decode cX12_comesToEnd 122 = .ok (.aload_n 0, 1) := by decide +kernel
theorem dX12_comesToEnd_123 : decode cX12_comesToEnd 123 = .ok (.getfield 103, 3) := by decide +kernel
theorem dX12_comesToEnd_126 : decode cX12_comesToEnd 126 = .ok (.iload 6, 2) := by decide +kernel
theorem dX12_comesToEnd_128 : decode cX12_comesToEnd 128 = .ok (.iconst 1, 1) := by decide +kernel
theorem dX12_comesToEnd_129 : decode cX12_comesToEnd 129 = .ok (.bastore, 1) := by decide +kernel
theorem dX12_comesToEnd_130 : decode cX12_comesToEnd 130 = .ok (.aload_n 0, 1) := by decide +kernel
theorem dX12_comesToEnd_131 : decode cX12_comesToEnd 131 = .ok (.getfield 106, 3) := by decide +kernel
theorem dX12_comesToEnd_134 : decode cX12_comesToEnd 134 = .ok (.iload_n 3, 1) := by decide +kernel
theorem dX12_comesToEnd_135 : decode cX12_comesToEnd 135 = .ok (.iload 6, 2) := by decide +kernel
theorem dX12_comesToEnd_137 : decode cX12_comesToEnd 137 = .ok (.iastore, 1) := by decide +kernel
theorem dX12_comesToEnd_138 : decode cX12_comesToEnd 138 = .ok (.iinc 3 1, 3) := by decide +kernel
theorem dX12_comesToEnd_141 : decode cX12_comesToEnd 141 = .ok (.iinc 5 1, 3) := by decide +kernel
theorem dX12_comesToEnd_144 : decode cX12_comesToEnd 144 = .ok (.goto (-53), 3) := by decide +kernel
theorem dX12_comesToEnd_147 : decode cX12_comesToEnd 147 = .ok (.goto (-88), 3) := by decide +kernel
theorem dX12_comesToEnd_150 : decode cX12_comesToEnd 150 = .ok (.iconst 0, 1) := by decide +kernel
theorem dX12_comesToEnd_151 : decode cX12_comesToEnd 151 = .ok (.ireturn, 1) := by decide +kernel
theorem dX12_shape_0 : decode cX12_shape 0 = .ok (.aload_n 0, 1) := by decide +kernel
theorem dX12_shape_1 : decode cX12_shape 1 = .ok (.invokevirtual 269, 3) := by decide +kernel
theorem dX12_shape_4 : decode cX12_shape 4 = .ok (.ifCond .eq 10, 3) := by decide +kernel
theorem dX12_shape_7 : decode cX12_shape 7 = .ok (.aload_n 0, 1) := by decide +kernel
theorem dX12_shape_8 : decode cX12_shape 8 = .ok (.invokevirtual 272, 3) := by decide +kernel
theorem dX12_shape_11 : decode cX12_shape 11 = .ok (.ifCond .ne 5, 3) := by decide +kernel
theorem dX12_shape_14 : decode cX12_shape 14 = .ok (.iconst 0, 1) := by decide +kernel
theorem dX12_shape_15 : decode cX12_shape 15 = .ok (.ireturn, 1) := by decide +kernel
theorem dX12_shape_16 : decode cX12_shape 16 = .ok (.iconst 1, 1) := by decide +kernel
theorem dX12_shape_17 : decode cX12_shape 17 = .ok (.istore_n 1, 1) := by decide +kernel
theorem dX12_shape_18 : decode cX12_shape 18 = .ok (.iconst 0, 1) := by decide +kernel
theorem dX12_shape_19 : decode cX12_shape 19 = .ok (.istore_n 2, 1) := by decide +kernel
theorem dX12_shape_20 : decode cX12_shape 20 = .ok (.iload_n 2, 1) := by decide +kernel
theorem dX12_shape_21 : decode cX12_shape 21 = .ok (.aload_n 0, 1) := by decide +kernel
theorem dX12_shape_22 : decode cX12_shape 22 = .ok (.getfield 251, 3) := by decide +kernel
theorem dX12_shape_25 : decode cX12_shape 25 = .ok (.if_icmp .ge 37, 3) := by decide +kernel
theorem dX12_shape_28 : decode cX12_shape 28 = .ok (.iload_n 1, 1) := by decide +kernel
theorem dX12_shape_29 : decode cX12_shape 29 = .ok (.ifCond .eq 25, 3) := by decide +kernel
theorem dX12_shape_32 : decode cX12_shape 32 = .ok (.aload_n 0, 1) := by decide +kernel
theorem dX12_shape_33 : decode cX12_shape 33 = .ok (.getfield 100, 3) := by decide +kernel
theorem dX12_shape_36 : decode cX12_shape 36 = .ok (.iload_n 2, 1) := by decide +kernel
theorem dX12_shape_37 : decode cX12_shape 37 = .ok (.iaload, 1) := by decide +kernel
theorem dX12_shape_38 : decode cX12_shape 38 = .ok (.ifCond .lt 12, 3) := by decide +kernel
theorem dX12_shape_41 : decode cX12_shape 41 = .ok (.aload_n 0, 1) := by decide +kernel
theorem dX12_shape_42 : decode cX12_shape 42 = .ok (.iload_n 2, 1) := by decide +kernel
theorem dX12_shape_43 : decode cX12_shape 43 = .ok (.iconst (-1), 1) := by decide +kernel
theorem dX12_shape_44 : decode cX12_shape 44 = .ok (.invokevirtual 275, 3) := by decide +kernel
theorem dX12_shape_47 : decode cX12_shape 47 = .ok (.ifCond .eq 7, 3) := by decide +kernel
theorem dX12_shape_50 : decode cX12_shape 50 = .ok (.iconst 1, 1) := by decide +kernel
theorem dX12_shape_51 : decode cX12_shape 51 = .ok (.goto 4, 3) := by decide +kernel
theorem dX12_shape_54 : decode cX12_shape 54 = .ok (.iconst 0, 1) := by decide +kernel
theorem dX12_shape_55 : decode cX12_shape 55 = .ok (.istore_n 1, 1) := by decide +kernel
theorem dX12_shape_56 : decode cX12_shape 56 = .ok (.iinc 2 1, 3) := by decide +kernel
theorem dX12_shape_59 : decode cX12_shape 59 = .ok (.goto (-39), 3) := by decide +kernel
theorem dX12_shape_62 : decode cX12_shape 62 = .ok (.iload_n 1, 1) := by decide +kernel
theorem dX12_shape_63 : decode cX12_shape 63 = .ok (.ireturn, 1) := by decide +kernel
theorem dX12_findRegion_0 : decode cX12_findRegion 0 = .ok (.iconst 0, 1) := by decide +kernel
theorem dX12_findRegion_1 : decode cX12_findRegion 1 = .ok (.istore_n 2, 1) := by decide +kernel
theorem dX12_findRegion_2 : decode cX12_findRegion 2 = .ok (.iload_n 2, 1) := by decide +kernel
theorem dX12_findRegion_3 : decode cX12_findRegion 3 = .ok (.aload_n 0, 1) := by decide +kernel
theorem dX12_findRegion_4 : decode cX12_findRegion 4 = .ok (.getfield 251, 3) := by decide +kernel
theorem dX12_findRegion_7 : decode cX12_findRegion 7 = .ok (.if_icmp .ge 55, 3) := by decide +kernel
theorem dX12_findRegion_10 : decode cX12_findRegion 10 = .ok (.aload_n 0, 1) := by decide +kernel
theorem dX12_findRegion_11 : decode cX12_findRegion 11 = .ok (.getfield 112, 3) := by decide +kernel
theorem dX12_findRegion_14 : decode cX12_findRegion 14 = .ok (.iload_n 2, 1) := by decide +kernel
theorem dX12_findRegion_15 : decode cX12_findRegion 15 = .ok (.iload_n 2, 1) := by decide +kernel
theorem dX12_findRegion_16 : decode cX12_findRegion 16 = .ok (.iload_n 1, 1) := by decide +kernel
theorem dX12_findRegion_17 : decode cX12_findRegion 17 = .ok (.if_icmp .eq 25, 3) := by decide +kernel
theorem dX12_findRegion_20 : decode cX12_findRegion 20 = .ok (.aload_n 0, 1) := by decide +kernel
theorem dX12_findRegion_21 : decode cX12_findRegion 21 = .ok (.getfield 100, 3) := by decide +kernel
theorem dX12_findRegion_24 : decode cX12_findRegion 24 = .ok (.iload_n 2, 1) := by decide +kernel
theorem dX12_findRegion_25 : decode cX12_findRegion 25 = .ok (.iaload, 1) := by decide +kernel
theorem dX12_findRegion_26 : decode cX12_findRegion 26 = .ok (.ifCond .lt 16, 3) := by decide +kernel
theorem dX12_findRegion_29 : decode cX12_findRegion 29 = .ok (.aload_n 0, 1) := by decide +kernel
theorem dX12_findRegion_30 : decode cX12_findRegion 30 = .ok (.iload_n 1, 1) := by decide +kernel
theorem dX12_findRegion_31 : decode cX12_findRegion 31 = .ok (.iload_n 2, 1) := by decide +kernel
theorem dX12_findRegion_32 : decode cX12_findRegion 32 = .ok (.invokevirtual 275, 3) := by decide +kernel
theorem dX12_findRegion_35 : decode cX12_findRegion 35 = .ok (.ifCond .ne 7, 3) := by decide +kernel
theorem dX12_findRegion_38 : decode cX12_findRegion 38 = .ok (.iconst 1, 1) := by decide +kernel
theorem dX12_findRegion_39 : decode cX12_findRegion 39 = .ok (.goto 4, 3) := by decide +kernel
theorem dX12_findRegion_42 : decode cX12_findRegion 42 = .ok (.iconst 0, 1) := by decide +kernel
theorem dX12_findRegion_43 : decode cX12_findRegion 43 = .ok (.bastore, 1) := by decide +kernel
theorem dX12_findRegion_44 : decode cX12_findRegion 44 = .ok (.aload_n 0, 1) := by decide +kernel
theorem dX12_findRegion_45 : decode cX12_findRegion 45 = .ok (.getfield 109, 3) := by decide +kernel
theorem dX12_findRegion_48 : decode cX12_findRegion 48 = .ok (.bipush 100, 2) := by decide +kernel
theorem dX12_findRegion_50 : decode cX12_findRegion 50 = .ok (.iload_n 1, 1) := by decide +kernel
theorem dX12_findRegion_51 : decode cX12_findRegion 51 = .ok (.imul, 1) := by decide +kernel
theorem dX12_findRegion_52 : decode cX12_findRegion 52 = .ok (.iload_n 2, 1) := by decide +kernel
theorem dX12_findRegion_53 : decode cX12_findRegion 53 = .ok (.iadd, 1) := by decide +kernel
theorem dX12_findRegion_54 : decode cX12_findRegion 54 = .ok (.iconst 0, 1) := by decide +kernel
theorem dX12_findRegion_55 : decode cX12_findRegion 55 = .ok (.bastore, 1) := by decide +kernel
theorem dX12_findRegion_56 : decode cX12_findRegion 56 = .ok (.iinc 2 1, 3) := by decide +kernel
theorem dX12_findRegion_59 : decode cX12_findRegion 59 = .ok (.goto (-57), 3) := by decide +kernel
theorem dX12_findRegion_62 : decode cX12_findRegion 62 = .ok (.aload_n 0, 1) := by decide +kernel
theorem dX12_findRegion_63 : decode cX12_findRegion 63 = .ok (.getfield 106, 3) := by decide +kernel
theorem dX12_findRegion_66 : decode cX12_findRegion 66 = .ok (.iconst 0, 1) := by decide +kernel
theorem dX12_findRegion_67 : decode cX12_findRegion 67 = .ok (.iload_n 1, 1) := by decide +kernel
theorem dX12_findRegion_68 : decode cX12_findRegion 68 = .ok (.iastore, 1) := by decide +kernel
theorem dX12_findRegion_69 : decode cX12_findRegion 69 = .ok (.iconst 1, 1) := by decide +kernel
theorem dX12_findRegion_70 : decode cX12_findRegion 70 = .ok (.istore_n 2, 1) := by decide +kernel
theorem dX12_findRegion_71 : decode cX12_findRegion 71 = .ok (.iload_n 2, 1) := by decide +kernel
theorem dX12_findRegion_72 : decode cX12_findRegion 72 = .ok (.ifCond .le 94, 3) := by decide +kernel
theorem dX12_findRegion_75 : decode cX12_findRegion 75 = .ok (.iinc 2 (-1), 3) := by decide +kernel
theorem dX12_findRegion_78 : decode cX12_findRegion 78 = .ok (.aload_n 0, 1) := by decide +kernel
theorem dX12_findRegion_79 : decode cX12_findRegion 79 = .ok (.getfield 106, 3) := by decide +kernel
theorem dX12_findRegion_82 : decode cX12_findRegion 82 = .ok (.iload_n 2, 1) := by decide +kernel
theorem dX12_findRegion_83 : decode cX12_findRegion 83 = .ok (.iaload, 1) := by decide +kernel
theorem dX12_findRegion_84 : decode cX12_findRegion 84 = .ok (.istore_n 3, 1) := by decide +kernel
theorem dX12_findRegion_85 : decode cX12_findRegion 85 = .ok (.iconst 0, 1) := by decide +kernel
theorem dX12_findRegion_86 : decode cX12_findRegion 86 = .ok (.istore 4, 2) := by decide +kernel
theorem dX12_findRegion_88 : decode cX12_findRegion 88 = .ok (.iload 4, 2) := by decide +kernel
theorem dX12_findRegion_90 : decode cX12_findRegion 90 = .ok (.iconst 2, 1) := by decide +kernel
theorem dX12_findRegion_91 : decode cX12_findRegion 91 = .ok (.if_icmp .ge 72, 3) := by decide +kernel
theorem dX12_findRegion_94 : decode cX12_findRegion 94 = .ok (.aload_n 0, 1) := by decide +kernel
theorem dX12_findRegion_95 : decode cX12_findRegion 95 = .ok (.iload_n 3, 1) := by decide +kernel
theorem dX12_findRegion_96 : decode cX12_findRegion 96 = .ok (.iload 4, 2) := by decide +kernel
theorem dX12_findRegion_98 : decode cX12_findRegion 98 = .ok (.invokevirtual 266, 3) := by decide +kernel
theorem dX12_findRegion_101 : decode cX12_findRegion 101 = .ok (.istore 5, 2) := by decide +kernel
theorem dX12_findRegion_103 : decode cX12_findRegion 103 = .ok (.iload 5, 2) := by decide +kernel
theorem dX12_findRegion_105 : decode cX12_findRegion 105 = .ok (.ifCond .lt 52, 3) := by decide +kernel
theorem dX12_findRegion_108 : decode cX12_findRegion 108 = .ok (.aload_n 0, 1) := by decide +kernel
theorem dX12_findRegion_109 : decode cX12_findRegion 109 = .ok (.getfield 112, 3) := by decide +kernel
theorem dX12_findRegion_112 : decode cX12_findRegion 112 = .ok (.iload 5, 2) := by decide +kernel
theorem dX12_findRegion_114 : decode cX12_findRegion 114 = .ok (.baload, 1) := by decide +kernel
theorem dX12_findRegion_115 : decode cX12_findRegion 115 = .ok (.ifCond .ne 42, 3) := by decide +kernel
theorem dX12_findRegion_118 : decode cX12_findRegion 118 = .ok (.aload_n 0, 1) := by decide +kernel
theorem dX12_findRegion_119 : decode cX12_findRegion 119 = .ok (.getfield 109, 3) := by decide +kernel
theorem dX12_findRegion_122 : decode cX12_findRegion 122 = .ok (.bipush 100, 2) := by decide +kernel
theorem dX12_findRegion_124 : decode cX12_findRegion 124 = .ok (.iload_n 1, 1) := by decide +kernel
theorem dX12_findRegion_125 : decode cX12_findRegion 125 = .ok (.imul, 1) := by decide +kernel
theorem dX12_findRegion_126 : decode cX12_findRegion 126 = .ok (.iload 5, 2) := by decide +kernel
theorem dX12_findRegion_128 : decode cX12_findRegion 128 = .ok (.iadd, 1) := by decide +kernel
theorem dX12_findRegion_129 : decode cX12_findRegion 129 = .ok (.baload, 1) := by decide +kernel
theorem dX12_findRegion_130 : decode cX12_findRegion 130 = .ok (.ifCond .ne 27, 3) := by decide +kernel
theorem dX12_findRegion_133 : decode cX12_findRegion 133 = .ok (.aload_n 0, 1) := by decide +kernel
theorem dX12_findRegion_134 : decode cX12_findRegion 134 = .ok (.getfield 109, 3) := by decide +kernel
theorem dX12_findRegion_137 : decode cX12_findRegion 137 = .ok (.bipush 100, 2) := by decide +kernel
theorem dX12_findRegion_139 : decode cX12_findRegion 139 = .ok (.iload_n 1, 1) := by decide +kernel
theorem dX12_findRegion_140 : decode cX12_findRegion 140 = .ok (.imul, 1) := by decide +kernel
theorem dX12_findRegion_141 : decode cX12_findRegion 141 = .ok (.iload 5, 2) := by decide +kernel
theorem dX12_findRegion_143 : decode cX12_findRegion 143 = .ok (.iadd, 1) := by decide +kernel
theorem dX12_findRegion_144 : decode cX12_findRegion 144 = .ok (.iconst 1, 1) := by decide +kernel
theorem dX12_findRegion_145 : decode cX12_findRegion 145 = .ok (.bastore, 1) := by decide +kernel
theorem dX12_findRegion_146 : decode cX12_findRegion 146 = .ok (.aload_n 0, 1) := by decide +kernel
theorem dX12_findRegion_147 : decode cX12_findRegion 147 = .ok (.getfield 106, 3) := by decide +kernel
theorem dX12_findRegion_150 : decode cX12_findRegion 150 = .ok (.iload_n 2, 1) := by decide +kernel
theorem dX12_findRegion_151 : decode cX12_findRegion 151 = .ok (.iload 5, 2) := by decide +kernel
theorem dX12_findRegion_153 : decode cX12_findRegion 153 = .ok (.iastore, 1) := by decide +kernel
theorem dX12_findRegion_154 : decode cX12_findRegion 154 = .ok (.iinc 2 1, 3) := by decide +kernel
theorem dX12_findRegion_157 : decode cX12_findRegion 157 = .ok (.iinc 4 1, 3) := by decide +kernel
theorem dX12_findRegion_160 : decode cX12_findRegion 160 = .ok (.goto (-72), 3) := by decide +kernel
theorem dX12_findRegion_163 : decode cX12_findRegion 163 = .ok (.goto (-92), 3) := by decide +kernel
theorem dX12_findRegion_166 : decode cX12_findRegion 166 = .ok (.return_, 1) := by decide +kernel
theorem dX12_come_0 : decode cX12_come 0 = .ok (.aload_n 0, 1) := by decide +kernel
theorem dX12_come_1 : decode cX12_come 1 = .ok (.aload_n 0, 1) := by decide +kernel
theorem dX12_come_2 : decode cX12_come 2 = .ok (.getfield 115, 3) := by decide +kernel
theorem dX12_come_5 : decode cX12_come 5 = .ok (.iload_n 1, 1) := by decide +kernel
theorem dX12_come_6 : decode cX12_come 6 = .ok (.iaload, 1) := by decide +kernel
theorem dX12_come_7 : decode cX12_come 7 = .ok (.iload_n 2, 1) := by decide +kernel
theorem dX12_come_8 : decode cX12_come 8 = .ok (.invokevirtual 148, 3) := by decide +kernel
theorem dX12_come_11 : decode cX12_come 11 = .ok (.istore_n 3, 1) := by decide +kernel
theorem dX12_come_12 : decode cX12_come 12 = .ok (.aload_n 0, 1) := by decide +kernel
theorem dX12_come_13 : decode cX12_come 13 = .ok (.aload_n 0, 1) := by decide +kernel
theorem dX12_come_14 : decode cX12_come 14 = .ok (.getfield 207, 3) := by decide +kernel
theorem dX12_come_17 : decode cX12_come 17 = .ok (.ifCond .ne 13, 3) := by decide +kernel
theorem dX12_come_20 : decode cX12_come 20 = .ok (.iload_n 3, 1) := by decide +kernel
theorem dX12_come_21 : decode cX12_come 21 = .ok (.aload_n 0, 1) := by decide +kernel
theorem dX12_come_22 : decode cX12_come 22 = .ok (.getfield 115, 3) := by decide +kernel
theorem dX12_come_25 : decode cX12_come 25 = .ok (.iload_n 1, 1) := by decide +kernel
theorem dX12_come_26 : decode cX12_come 26 = .ok (.iaload, 1) := by decide +kernel
theorem dX12_come_27 : decode cX12_come 27 = .ok (.if_icmp .eq 7, 3) := by decide +kernel
theorem dX12_come_30 : decode cX12_come 30 = .ok (.iconst 1, 1) := by decide +kernel
theorem dX12_come_31 : decode cX12_come 31 = .ok (.goto 4, 3) := by decide +kernel
theorem dX12_come_34 : decode cX12_come 34 = .ok (.iconst 0, 1) := by decide +kernel
theorem dX12_come_35 : decode cX12_come 35 = .ok (.putfield 207, 3) := by decide +kernel
theorem dX12_come_38 : decode cX12_come 38 = .ok (.aload_n 0, 1) := by decide +kernel
theorem dX12_come_39 : decode cX12_come 39 = .ok (.getfield 115, 3) := by decide +kernel
theorem dX12_come_42 : decode cX12_come 42 = .ok (.iload_n 1, 1) := by decide +kernel
theorem dX12_come_43 : decode cX12_come 43 = .ok (.iload_n 3, 1) := by decide +kernel
theorem dX12_come_44 : decode cX12_come 44 = .ok (.iastore, 1) := by decide +kernel
theorem dX12_come_45 : decode cX12_come 45 = .ok (.return_, 1) := by decide +kernel
theorem dX12_findContext_0 : decode cX12_findContext 0 = .ok (.aload_n 0, 1) := by decide +kernel
theorem dX12_findContext_1 : decode cX12_findContext 1 = .ok (.getfield 142, 3) := by decide +kernel
theorem dX12_findContext_4 : decode cX12_findContext 4 = .ok (.istore_n 2, 1) := by decide +kernel
theorem dX12_findContext_5 : decode cX12_findContext 5 = .ok (.iconst 0, 1) := by decide +kernel
theorem dX12_findContext_6 : decode cX12_findContext 6 = .ok (.istore_n 3, 1) := by decide +kernel
theorem dX12_findContext_7 : decode cX12_findContext 7 = .ok (.iload_n 3, 1) := by decide +kernel
theorem dX12_findContext_8 : decode cX12_findContext 8 = .ok (.aload_n 0, 1) := by decide +kernel
theorem dX12_findContext_9 : decode cX12_findContext 9 = .ok (.getfield 251, 3) := by decide +kernel
theorem dX12_findContext_12 : decode cX12_findContext 12 = .ok (.if_icmp .ge 68, 3) := by decide +kernel
theorem dX12_findContext_15 : decode cX12_findContext 15 = .ok (.aload_n 0, 1) := by decide +kernel
theorem dX12_findContext_16 : decode cX12_findContext 16 = .ok (.getfield 100, 3) := by decide +kernel
theorem dX12_findContext_19 : decode cX12_findContext 19 = .ok (.iload_n 3, 1) := by decide +kernel
theorem dX12_findContext_20 : decode cX12_findContext 20 = .ok (.iaload, 1) := by decide +kernel
theorem dX12_findContext_21 : decode cX12_findContext 21 = .ok (.ifCond .le 53, 3) := by decide +kernel
theorem dX12_findContext_24 : decode cX12_findContext 24 = .ok (.aload_n 0, 1) := by decide +kernel
theorem dX12_findContext_25 : decode cX12_findContext 25 = .ok (.getfield 94, 3) := by decide +kernel
theorem dX12_findContext_28 : decode cX12_findContext 28 = .ok (.iload_n 3, 1) := by decide +kernel
theorem dX12_findContext_29 : decode cX12_findContext 29 = .ok (.iaload, 1) := by decide +kernel
theorem dX12_findContext_30 : decode cX12_findContext 30 = .ok (.bipush 7, 2) := by decide +kernel
theorem dX12_findContext_32 : decode cX12_findContext 32 = .ok (.if_icmp .ne 42, 3) := by decide +kernel
theorem dX12_findContext_35 : decode cX12_findContext 35 = .ok (.aload_n 0, 1) := by decide +kernel
theorem dX12_findContext_36 : decode cX12_findContext 36 = .ok (.getfield 109, 3) := by decide +kernel
theorem dX12_findContext_39 : decode cX12_findContext 39 = .ok (.bipush 100, 2) := by decide +kernel
theorem dX12_findContext_41 : decode cX12_findContext 41 = .ok (.iload_n 3, 1) := by decide +kernel
theorem dX12_findContext_42 : decode cX12_findContext 42 = .ok (.imul, 1) := by decide +kernel
theorem dX12_findContext_43 : decode cX12_findContext 43 = .ok (.iload_n 1, 1) := by decide +kernel
theorem dX12_findContext_44 : decode cX12_findContext 44 = .ok (.iadd, 1) := by decide +kernel
theorem dX12_findContext_45 : decode cX12_findContext 45 = .ok (.baload, 1) := by decide +kernel
theorem dX12_findContext_46 : decode cX12_findContext 46 = .ok (.ifCond .eq 28, 3) := by decide +kernel
theorem dX12_findContext_49 : decode cX12_findContext 49 = .ok (.aload_n 0, 1) := by decide +kernel
theorem dX12_findContext_50 : decode cX12_findContext 50 = .ok (.iload_n 2, 1) := by decide +kernel
theorem dX12_findContext_51 : decode cX12_findContext 51 = .ok (.aload_n 0, 1) := by decide +kernel
theorem dX12_findContext_52 : decode cX12_findContext 52 = .ok (.getfield 115, 3) := by decide +kernel
theorem dX12_findContext_55 : decode cX12_findContext 55 = .ok (.bipush 16, 2) := by decide +kernel
theorem dX12_findContext_57 : decode cX12_findContext 57 = .ok (.iload_n 3, 1) := by decide +kernel
theorem dX12_findContext_58 : decode cX12_findContext 58 = .ok (.imul, 1) := by decide +kernel
theorem dX12_findContext_59 : decode cX12_findContext 59 = .ok (.bipush 7, 2) := by decide +kernel
theorem dX12_findContext_61 : decode cX12_findContext 61 = .ok (.iadd, 1) := by decide +kernel
theorem dX12_findContext_62 : decode cX12_findContext 62 = .ok (.aload_n 0, 1) := by decide +kernel
theorem dX12_findContext_63 : decode cX12_findContext 63 = .ok (.getfield 100, 3) := by decide +kernel
theorem dX12_findContext_66 : decode cX12_findContext 66 = .ok (.iload_n 3, 1) := by decide +kernel
theorem dX12_findContext_67 : decode cX12_findContext 67 = .ok (.iaload, 1) := by decide +kernel
theorem dX12_findContext_68 : decode cX12_findContext 68 = .ok (.iadd, 1) := by decide +kernel
theorem dX12_findContext_69 : decode cX12_findContext 69 = .ok (.iaload, 1) := by decide +kernel
theorem dX12_findContext_70 : decode cX12_findContext 70 = .ok (.invokevirtual 148, 3) := by decide +kernel
theorem dX12_findContext_73 : decode cX12_findContext 73 = .ok (.istore_n 2, 1) := by decide +kernel
theorem dX12_findContext_74 : decode cX12_findContext 74 = .ok (.iinc 3 1, 3) := by decide +kernel
theorem dX12_findContext_77 : decode cX12_findContext 77 = .ok (.goto (-70), 3) := by decide +kernel
theorem dX12_findContext_80 : decode cX12_findContext 80 = .ok (.aload_n 0, 1) := by decide +kernel
theorem dX12_findContext_81 : decode cX12_findContext 81 = .ok (.aload_n 0, 1) := by decide +kernel
theorem dX12_findContext_82 : decode cX12_findContext 82 = .ok (.getfield 207, 3) := by decide +kernel
theorem dX12_findContext_85 : decode cX12_findContext 85 = .ok (.ifCond .ne 13, 3) := by decide +kernel
theorem dX12_findContext_88 : decode cX12_findContext 88 = .ok (.iload_n 2, 1) := by decide +kernel
theorem dX12_findContext_89 : decode cX12_findContext 89 = .ok (.aload_n 0, 1) := by decide +kernel
theorem dX12_findContext_90 : decode cX12_findContext 90 = .ok (.getfield 118, 3) := by decide +kernel
theorem dX12_findContext_93 : decode cX12_findContext 93 = .ok (.iload_n 1, 1) := by decide +kernel
theorem dX12_findContext_94 : decode cX12_findContext 94 = .ok (.iaload, 1) := by decide +kernel
theorem dX12_findContext_95 : decode cX12_findContext 95 = .ok (.if_icmp .eq 7, 3) := by decide +kernel
theorem dX12_findContext_98 : decode cX12_findContext 98 = .ok (.iconst 1, 1) := by decide +kernel
theorem dX12_findContext_99 : decode cX12_findContext 99 = .ok (.goto 4, 3) := by decide +kernel
theorem dX12_findContext_102 : decode cX12_findContext 102 = .ok (.iconst 0, 1) := by decide +kernel
theorem dX12_findContext_103 : decode cX12_findContext 103 = .ok (.putfield 207, 3) := by decide +kernel
theorem dX12_findContext_106 : decode cX12_findContext 106 = .ok (.aload_n 0, 1) := by decide +kernel
theorem dX12_findContext_107 : decode cX12_findContext 107 = .ok (.getfield 118, 3) := by decide +kernel
theorem dX12_findContext_110 : decode cX12_findContext 110 = .ok (.iload_n 1, 1) := by decide +kernel
theorem dX12_findContext_111 : decode cX12_findContext 111 = .ok (.iload_n 2, 1) := by decide +kernel
theorem dX12_findContext_112 : decode cX12_findContext 112 = .ok (.iastore, 1) := by decide +kernel
theorem dX12_findContext_113 : decode cX12_findContext 113 = .ok (.return_, 1) := by decide +kernel
theorem dX12_leave_0 : decode cX12_leave 0 = .ok (.aload_n 0, 1) := by decide +kernel
theorem dX12_leave_1 : decode cX12_leave 1 = .ok (.getfield 94, 3) := by decide +kernel
theorem dX12_leave_4 : decode cX12_leave 4 = .ok (.iload_n 1, 1) := by decide +kernel
theorem dX12_leave_5 : decode cX12_leave 5 = .ok (.iaload, 1) := by decide +kernel
theorem dX12_leave_6 : decode cX12_leave 6 = .ok (.istore_n 2, 1) := by decide +kernel
theorem dX12_leave_7 : decode cX12_leave 7 = .ok (.aload_n 0, 1) := by decide +kernel
theorem dX12_leave_8 : decode cX12_leave 8 = .ok (.getfield 100, 3) := by decide +kernel
theorem dX12_leave_11 : decode cX12_leave 11 = .ok (.iload_n 1, 1) := by decide +kernel
theorem dX12_leave_12 : decode cX12_leave 12 = .ok (.iaload, 1) := by decide +kernel
theorem dX12_leave_13 : decode cX12_leave 13 = .ok (.istore_n 3, 1) := by decide +kernel
theorem dX12_leave_14 : decode cX12_leave 14 = .ok (.iload_n 3, 1) := by decide +kernel
theorem dX12_leave_15 : decode cX12_leave 15 = .ok (.iload_n 2, 1) := by decide +kernel
theorem dX12_leave_16 : decode cX12_leave 16 = .ok (.invokestatic 260, 3) := by decide +kernel
theorem dX12_leave_19 : decode cX12_leave 19 = .ok (.isub, 1) := by decide +kernel
theorem dX12_leave_20 : decode cX12_leave 20 = .ok (.istore 4, 2) := by decide +kernel
theorem dX12_leave_22 : decode cX12_leave 22 = .ok (.aload_n 0, 1) := by decide +kernel
theorem dX12_leave_23 : decode cX12_leave 23 = .ok (.getfield 118, 3) := by decide +kernel
theorem dX12_leave_26 : decode cX12_leave 26 = .ok (.iload_n 1, 1) := by decide +kernel
theorem dX12_leave_27 : decode cX12_leave 27 = .ok (.iaload, 1) := by decide +kernel
theorem dX12_leave_28 : decode cX12_leave 28 = .ok (.istore 5, 2) := by decide +kernel
theorem dX12_leave_30 : decode cX12_leave 30 = .ok (.iload_n 2, 1) := by decide +kernel
theorem dX12_leave_31 : decode cX12_leave 31 = .ok (.iconst 1, 1) := by decide +kernel
theorem dX12_leave_32 : decode cX12_leave 32 = .ok (.if_icmp .ne 28, 3) := by decide +kernel
theorem dX12_leave_35 : decode cX12_leave 35 = .ok (.aload_n 0, 1) := by decide +kernel
theorem dX12_leave_36 : decode cX12_leave 36 = .ok (.iload 5, 2) := by decide +kernel
theorem dX12_leave_38 : decode cX12_leave 38 = .ok (.aload_n 0, 1) := by decide +kernel
theorem dX12_leave_39 : decode cX12_leave 39 = .ok (.getfield 115, 3) := by decide +kernel
theorem dX12_leave_42 : decode cX12_leave 42 = .ok (.bipush 16, 2) := by decide +kernel
theorem dX12_leave_44 : decode cX12_leave 44 = .ok (.iload_n 1, 1) := by decide +kernel
theorem dX12_leave_45 : decode cX12_leave 45 = .ok (.imul, 1) := by decide +kernel
theorem dX12_leave_46 : decode cX12_leave 46 = .ok (.aload_n 0, 1) := by decide +kernel
theorem dX12_leave_47 : decode cX12_leave 47 = .ok (.getfield 97, 3) := by decide +kernel
theorem dX12_leave_50 : decode cX12_leave 50 = .ok (.iload_n 1, 1) := by decide +kernel
theorem dX12_leave_51 : decode cX12_leave 51 = .ok (.iaload, 1) := by decide +kernel
theorem dX12_leave_52 : decode cX12_leave 52 = .ok (.iadd, 1) := by decide +kernel
theorem dX12_leave_53 : decode cX12_leave 53 = .ok (.iaload, 1) := by decide +kernel
theorem dX12_leave_54 : decode cX12_leave 54 = .ok (.invokevirtual 148, 3) := by decide +kernel
theorem dX12_leave_57 : decode cX12_leave 57 = .ok (.goto 5, 3) := by decide +kernel
theorem dX12_leave_60 : decode cX12_leave 60 = .ok (.iload 5, 2) := by decide +kernel
theorem dX12_leave_62 : decode cX12_leave 62 = .ok (.istore 5, 2) := by decide +kernel
theorem dX12_leave_64 : decode cX12_leave 64 = .ok (.iload 4, 2) := by decide +kernel
theorem dX12_leave_66 : decode cX12_leave 66 = .ok (.istore 6, 2) := by decide +kernel
theorem dX12_leave_68 : decode cX12_leave 68 = .ok (.iload 6, 2) := by decide +kernel
theorem dX12_leave_70 : decode cX12_leave 70 = .ok (.iload_n 3, 1) := by decide +kernel
theorem dX12_leave_71 : decode cX12_leave 71 = .ok (.if_icmp .ge 32, 3) := by decide +kernel
theorem dX12_leave_74 : decode cX12_leave 74 = .ok (.aload_n 0, 1) := by decide +kernel
theorem dX12_leave_75 : decode cX12_leave 75 = .ok (.iload 5, 2) := by decide +kernel
theorem dX12_leave_77 : decode cX12_leave 77 = .ok (.aload_n 0, 1) := by decide +kernel
theorem dX12_leave_78 : decode cX12_leave 78 = .ok (.getfield 115, 3) := by decide +kernel
theorem dX12_leave_81 : decode cX12_leave 81 = .ok (.bipush 16, 2) := by decide +kernel
theorem dX12_leave_83 : decode cX12_leave 83 = .ok (.iload_n 1, 1) := by decide +kernel
theorem dX12_leave_84 : decode cX12_leave 84 = .ok (.imul, 1) := by decide +kernel
theorem dX12_leave_85 : decode cX12_leave 85 = .ok (.bipush 8, 2) := by decide +kernel
theorem dX12_leave_87 : decode cX12_leave 87 = .ok (.iadd, 1) := by decide +kernel
theorem dX12_leave_88 : decode cX12_leave 88 = .ok (.iload 6, 2) := by decide +kernel
theorem dX12_leave_90 : decode cX12_leave 90 = .ok (.iadd, 1) := by decide +kernel
theorem dX12_leave_91 : decode cX12_leave 91 = .ok (.iaload, 1) := by decide +kernel
theorem dX12_leave_92 : decode cX12_leave 92 = .ok (.invokevirtual 148, 3) := by decide +kernel
theorem dX12_leave_95 : decode cX12_leave 95 = .ok (.istore 5, 2) := by decide +kernel
theorem dX12_leave_97 : decode cX12_leave 97 = .ok (.iinc 6 1, 3) := by decide +kernel
theorem dX12_leave_100 : decode cX12_leave 100 = .ok (.goto (-32), 3) := by decide +kernel
theorem dX12_leave_103 : decode cX12_leave 103 = .ok (.iconst 0, 1) := by decide +kernel
theorem dX12_leave_104 : decode cX12_leave 104 = .ok (.istore 6, 2) := by decide +kernel
theorem dX12_leave_106 : decode cX12_leave 106 = .ok (.iload 6, 2) := by decide +kernel
theorem dX12_leave_108 : decode cX12_leave 108 = .ok (.iconst 2, 1) := by decide +kernel
theorem dX12_leave_109 : decode cX12_leave 109 = .ok (.if_icmp .ge 155, 3) := by decide +kernel
theorem dX12_leave_112 : decode cX12_leave 112 = .ok (.aload_n 0, 1) := by decide +kernel
theorem dX12_leave_113 : decode cX12_leave 113 = .ok (.iload_n 1, 1) := by decide +kernel
theorem dX12_leave_114 : decode cX12_leave 114 = .ok (.iload 6, 2) := by decide +kernel
theorem dX12_leave_116 : decode cX12_leave 116 = .ok (.invokevirtual 266, 3) := by decide +kernel
theorem dX12_leave_119 : decode cX12_leave 119 = .ok (.istore 7, 2) := by decide +kernel
theorem dX12_leave_121 : decode cX12_leave 121 = .ok (.iload 7, 2) := by decide +kernel
theorem dX12_leave_123 : decode cX12_leave 123 = .ok (.ifCond .lt 135, 3) := by decide +kernel
theorem dX12_leave_126 : decode cX12_leave 126 = .ok (.iconst 0, 1) := by decide +kernel
theorem dX12_leave_127 : decode cX12_leave 127 = .ok (.istore 8, 2) := by decide +kernel
theorem dX12_leave_129 : decode cX12_leave 129 = .ok (.iload 8, 2) := by decide +kernel
theorem dX12_leave_131 : decode cX12_leave 131 = .ok (.bipush 8, 2) := by decide +kernel
theorem dX12_leave_133 : decode cX12_leave 133 = .ok (.if_icmp .ge 54, 3) := by decide +kernel
theorem dX12_leave_136 : decode cX12_leave 136 = .ok (.aload_n 0, 1) := by decide +kernel
theorem dX12_leave_137 : decode cX12_leave 137 = .ok (.bipush 16, 2) := by decide +kernel
theorem dX12_leave_139 : decode cX12_leave 139 = .ok (.iload 7, 2) := by decide +kernel
theorem dX12_leave_141 : decode cX12_leave 141 = .ok (.imul, 1) := by decide +kernel
theorem dX12_leave_142 : decode cX12_leave 142 = .ok (.iload 8, 2) := by decide +kernel
theorem dX12_leave_144 : decode cX12_leave 144 = .ok (.iadd, 1) := by decide +kernel
theorem dX12_leave_145 : decode cX12_leave 145 = .ok (.iload_n 2, 1) := by decide +kernel
theorem dX12_leave_146 : decode cX12_leave 146 = .ok (.iconst 2, 1) := by decide +kernel
theorem dX12_leave_147 : decode cX12_leave 147 = .ok (.if_icmp .ne 19, 3) := by decide +kernel
theorem dX12_leave_150 : decode cX12_leave 150 = .ok (.aload_n 0, 1) := by decide +kernel
theorem dX12_leave_151 : decode cX12_leave 151 = .ok (.getfield 97, 3) := by decide +kernel
theorem dX12_leave_154 : decode cX12_leave 154 = .ok (.iload_n 1, 1) := by decide +kernel
theorem dX12_leave_155 : decode cX12_leave 155 = .ok (.iaload, 1) := by decide +kernel
theorem dX12_leave_156 : decode cX12_leave 156 = .ok (.iload 8, 2) := by decide +kernel
theorem dX12_leave_158 : decode cX12_leave 158 = .ok (.if_icmp .ne 8, 3) := by decide +kernel
theorem dX12_leave_161 : decode cX12_leave 161 = .ok (.iload 5, 2) := by decide +kernel
theorem dX12_leave_163 : decode cX12_leave 163 = .ok (.goto 15, 3) := by decide +kernel
theorem dX12_leave_166 : decode cX12_leave 166 = .ok (.aload_n 0, 1) := by decide +kernel
theorem dX12_leave_167 : decode cX12_leave 167 = .ok (.getfield 115, 3) := by decide +kernel
theorem dX12_leave_170 : decode cX12_leave 170 = .ok (.bipush 16, 2) := by decide +kernel
theorem dX12_leave_172 : decode cX12_leave 172 = .ok (.iload_n 1, 1) := by decide +kernel
theorem dX12_leave_173 : decode cX12_leave 173 = .ok (.imul, 1) := by decide +kernel
theorem dX12_leave_174 : decode cX12_leave 174 = .ok (.iload 8, 2) := by decide +kernel
theorem dX12_leave_176 : decode cX12_leave 176 = .ok (.iadd, 1) := by decide +kernel
theorem dX12_leave_177 : decode cX12_leave 177 = .ok (.iaload, 1) := by decide +kernel
theorem dX12_leave_178 : decode cX12_leave 178 = .ok (.invokevirtual 279, 3) := by decide +kernel
theorem dX12_leave_181 : decode cX12_leave 181 = .ok (.iinc 8 1, 3) := by decide +kernel
theorem dX12_leave_184 : decode cX12_leave 184 = .ok (.goto (-55), 3) := by decide +kernel
theorem dX12_leave_187 : decode cX12_leave 187 = .ok (.iconst 0, 1) := by decide +kernel
theorem dX12_leave_188 : decode cX12_leave 188 = .ok (.istore 8, 2) := by decide +kernel
theorem dX12_leave_190 : decode cX12_leave 190 = .ok (.iload 8, 2) := by decide +kernel
theorem dX12_leave_192 : decode cX12_leave 192 = .ok (.iload 4, 2) := by decide +kernel
theorem dX12_leave_194 : decode cX12_leave 194 = .ok (.if_icmp .ge 39, 3) := by decide +kernel
theorem dX12_leave_197 : decode cX12_leave 197 = .ok (.aload_n 0, 1) := by decide +kernel
theorem dX12_leave_198 : decode cX12_leave 198 = .ok (.bipush 16, 2) := by decide +kernel
theorem dX12_leave_200 : decode cX12_leave 200 = .ok (.iload 7, 2) := by decide +kernel
theorem dX12_leave_202 : decode cX12_leave 202 = .ok (.imul, 1) := by decide +kernel
theorem dX12_leave_203 : decode cX12_leave 203 = .ok (.bipush 8, 2) := by decide +kernel
theorem dX12_leave_205 : decode cX12_leave 205 = .ok (.iadd, 1) := by decide +kernel

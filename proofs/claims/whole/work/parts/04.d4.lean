theorem dX12_fits_13 : decode cX12_fits 13 = .ok (.iadd, 1) := by decide +kernel
theorem dX12_fits_14 : decode cX12_fits 14 = .ok (.baload, 1) := by decide +kernel
theorem dX12_fits_15 : decode cX12_fits 15 = .ok (.goto 14, 3) := by decide +kernel
theorem dX12_fits_18 : decode cX12_fits 18 = .ok (.aload_n 0, 1) := by decide +kernel
theorem dX12_fits_19 : decode cX12_fits 19 = .ok (.getfield 33, 3) := by decide +kernel
theorem dX12_fits_22 : decode cX12_fits 22 = .ok (.bipush 6, 2) := by decide +kernel
theorem dX12_fits_24 : decode cX12_fits 24 = .ok (.iload_n 1, 1) := by decide +kernel
theorem dX12_fits_25 : decode cX12_fits 25 = .ok (.imul, 1) := by decide +kernel
theorem dX12_fits_26 : decode cX12_fits 26 = .ok (.iload_n 2, 1) := by decide +kernel
theorem dX12_fits_27 : decode cX12_fits 27 = .ok (.iadd, 1) := by decide +kernel
theorem dX12_fits_28 : decode cX12_fits 28 = .ok (.baload, 1) := by decide +kernel
theorem dX12_fits_29 : decode cX12_fits 29 = .ok (.ireturn, 1) := by decide +kernel
theorem dX12_isOrder_0 : decode cX12_isOrder 0 = .ok (.iconst 1, 1) := by decide +kernel
theorem dX12_isOrder_1 : decode cX12_isOrder 1 = .ok (.istore_n 2, 1) := by decide +kernel
theorem dX12_isOrder_2 : decode cX12_isOrder 2 = .ok (.iconst 0, 1) := by decide +kernel
theorem dX12_isOrder_3 : decode cX12_isOrder 3 = .ok (.istore_n 3, 1) := by decide +kernel
theorem dX12_isOrder_4 : decode cX12_isOrder 4 = .ok (.iload_n 3, 1) := by decide +kernel
theorem dX12_isOrder_5 : decode cX12_isOrder 5 = .ok (.iload_n 1, 1) := by decide +kernel
theorem dX12_isOrder_6 : decode cX12_isOrder 6 = .ok (.if_icmp .ge 163, 3) := by decide +kernel
theorem dX12_isOrder_9 : decode cX12_isOrder 9 = .ok (.iload_n 2, 1) := by decide +kernel
theorem dX12_isOrder_10 : decode cX12_isOrder 10 = .ok (.ifCond .eq 19, 3) := by decide +kernel
theorem dX12_isOrder_13 : decode cX12_isOrder 13 = .ok (.aload_n 0, 1) := by decide +kernel
theorem dX12_isOrder_14 : decode cX12_isOrder 14 = .ok (.getfield 33, 3) := by decide +kernel
theorem dX12_isOrder_17 : decode cX12_isOrder 17 = .ok (.bipush 7, 2) := by decide +kernel
theorem dX12_isOrder_19 : decode cX12_isOrder 19 = .ok (.iload_n 3, 1) := by decide +kernel
theorem dX12_isOrder_20 : decode cX12_isOrder 20 = .ok (.imul, 1) := by decide +kernel
theorem dX12_isOrder_21 : decode cX12_isOrder 21 = .ok (.baload, 1) := by decide +kernel
theorem dX12_isOrder_22 : decode cX12_isOrder 22 = .ok (.ifCond .eq 7, 3) := by decide +kernel
theorem dX12_isOrder_25 : decode cX12_isOrder 25 = .ok (.iconst 1, 1) := by decide +kernel
theorem dX12_isOrder_26 : decode cX12_isOrder 26 = .ok (.goto 4, 3) := by decide +kernel
theorem dX12_isOrder_29 : decode cX12_isOrder 29 = .ok (.iconst 0, 1) := by decide +kernel
theorem dX12_isOrder_30 : decode cX12_isOrder 30 = .ok (.istore_n 2, 1) := by decide +kernel
theorem dX12_isOrder_31 : decode cX12_isOrder 31 = .ok (.iconst 0, 1) := by decide +kernel
theorem dX12_isOrder_32 : decode cX12_isOrder 32 = .ok (.istore 4, 2) := by decide +kernel
theorem dX12_isOrder_34 : decode cX12_isOrder 34 = .ok (.iload 4, 2) := by decide +kernel
theorem dX12_isOrder_36 : decode cX12_isOrder 36 = .ok (.iload_n 1, 1) := by decide +kernel
theorem dX12_isOrder_37 : decode cX12_isOrder 37 = .ok (.if_icmp .ge 126, 3) := by decide +kernel
theorem dX12_isOrder_40 : decode cX12_isOrder 40 = .ok (.iload_n 2, 1) := by decide +kernel
theorem dX12_isOrder_41 : decode cX12_isOrder 41 = .ok (.ifCond .eq 43, 3) := by decide +kernel
theorem dX12_isOrder_44 : decode cX12_isOrder 44 = .ok (.iload_n 3, 1) := by decide +kernel
theorem dX12_isOrder_45 : decode cX12_isOrder 45 = .ok (.iload 4, 2) := by decide +kernel
theorem dX12_isOrder_47 : decode cX12_isOrder 47 = .ok (.if_icmp .eq 33, 3) := by decide +kernel
theorem dX12_isOrder_50 : decode cX12_isOrder 50 = .ok (.aload_n 0, 1) := by decide +kernel
theorem dX12_isOrder_51 : decode cX12_isOrder 51 = .ok (.getfield 33, 3) := by decide +kernel
theorem dX12_isOrder_54 : decode cX12_isOrder 54 = .ok (.bipush 6, 2) := by decide +kernel
theorem dX12_isOrder_56 : decode cX12_isOrder 56 = .ok (.iload_n 3, 1) := by decide +kernel
theorem dX12_isOrder_57 : decode cX12_isOrder 57 = .ok (.imul, 1) := by decide +kernel
theorem dX12_isOrder_58 : decode cX12_isOrder 58 = .ok (.iload 4, 2) := by decide +kernel
theorem dX12_isOrder_60 : decode cX12_isOrder 60 = .ok (.iadd, 1) := by decide +kernel
theorem dX12_isOrder_61 : decode cX12_isOrder 61 = .ok (.baload, 1) := by decide +kernel
theorem dX12_isOrder_62 : decode cX12_isOrder 62 = .ok (.ifCond .eq 18, 3) := by decide +kernel
theorem dX12_isOrder_65 : decode cX12_isOrder 65 = .ok (.aload_n 0, 1) := by decide +kernel
theorem dX12_isOrder_66 : decode cX12_isOrder 66 = .ok (.getfield 33, 3) := by decide +kernel
theorem dX12_isOrder_69 : decode cX12_isOrder 69 = .ok (.bipush 6, 2) := by decide +kernel
theorem dX12_isOrder_71 : decode cX12_isOrder 71 = .ok (.iload 4, 2) := by decide +kernel
theorem dX12_isOrder_73 : decode cX12_isOrder 73 = .ok (.imul, 1) := by decide +kernel
theorem dX12_isOrder_74 : decode cX12_isOrder 74 = .ok (.iload_n 3, 1) := by decide +kernel
theorem dX12_isOrder_75 : decode cX12_isOrder 75 = .ok (.iadd, 1) := by decide +kernel
theorem dX12_isOrder_76 : decode cX12_isOrder 76 = .ok (.baload, 1) := by decide +kernel
theorem dX12_isOrder_77 : decode cX12_isOrder 77 = .ok (.ifCond .ne 7, 3) := by decide +kernel
theorem dX12_isOrder_80 : decode cX12_isOrder 80 = .ok (.iconst 1, 1) := by decide +kernel
theorem dX12_isOrder_81 : decode cX12_isOrder 81 = .ok (.goto 4, 3) := by decide +kernel
theorem dX12_isOrder_84 : decode cX12_isOrder 84 = .ok (.iconst 0, 1) := by decide +kernel
theorem dX12_isOrder_85 : decode cX12_isOrder 85 = .ok (.istore_n 2, 1) := by decide +kernel
theorem dX12_isOrder_86 : decode cX12_isOrder 86 = .ok (.iconst 0, 1) := by decide +kernel
theorem dX12_isOrder_87 : decode cX12_isOrder 87 = .ok (.istore 5, 2) := by decide +kernel
theorem dX12_isOrder_89 : decode cX12_isOrder 89 = .ok (.iload 5, 2) := by decide +kernel
theorem dX12_isOrder_91 : decode cX12_isOrder 91 = .ok (.iload_n 1, 1) := by decide +kernel
theorem dX12_isOrder_92 : decode cX12_isOrder 92 = .ok (.if_icmp .ge 65, 3) := by decide +kernel
theorem dX12_isOrder_95 : decode cX12_isOrder 95 = .ok (.iload_n 2, 1) := by decide +kernel
theorem dX12_isOrder_96 : decode cX12_isOrder 96 = .ok (.ifCond .eq 53, 3) := by decide +kernel
theorem dX12_isOrder_99 : decode cX12_isOrder 99 = .ok (.aload_n 0, 1) := by decide +kernel
theorem dX12_isOrder_100 : decode cX12_isOrder 100 = .ok (.getfield 33, 3) := by decide +kernel
theorem dX12_isOrder_103 : decode cX12_isOrder 103 = .ok (.bipush 6, 2) := by decide +kernel
theorem dX12_isOrder_105 : decode cX12_isOrder 105 = .ok (.iload_n 3, 1) := by decide +kernel
theorem dX12_isOrder_106 : decode cX12_isOrder 106 = .ok (.imul, 1) := by decide +kernel
theorem dX12_isOrder_107 : decode cX12_isOrder 107 = .ok (.iload 4, 2) := by decide +kernel
theorem dX12_isOrder_109 : decode cX12_isOrder 109 = .ok (.iadd, 1) := by decide +kernel
theorem dX12_isOrder_110 : decode cX12_isOrder 110 = .ok (.baload, 1) := by decide +kernel
theorem dX12_isOrder_111 : decode cX12_isOrder 111 = .ok (.ifCond .eq 34, 3) := by decide +kernel
theorem dX12_isOrder_114 : decode cX12_isOrder 114 = .ok (.aload_n 0, 1) := by decide +kernel
theorem dX12_isOrder_115 : decode cX12_isOrder 115 = .ok (.getfield 33, 3) := by decide +kernel
theorem dX12_isOrder_118 : decode cX12_isOrder 118 = .ok (.bipush 6, 2) := by decide +kernel
theorem dX12_isOrder_120 : decode cX12_isOrder 120 = .ok (.iload 4, 2) := by decide +kernel
theorem dX12_isOrder_122 : decode cX12_isOrder 122 = .ok (.imul, 1) := by decide +kernel
theorem dX12_isOrder_123 : decode cX12_isOrder 123 = .ok (.iload 5, 2) := by decide +kernel
theorem dX12_isOrder_125 : decode cX12_isOrder 125 = .ok (.iadd, 1) := by decide +kernel
theorem dX12_isOrder_126 : decode cX12_isOrder 126 = .ok (.baload, 1) := by decide +kernel
theorem dX12_isOrder_127 : decode cX12_isOrder 127 = .ok (.ifCond .eq 18, 3) := by decide +kernel
theorem dX12_isOrder_130 : decode cX12_isOrder 130 = .ok (.aload_n 0, 1) := by decide +kernel
theorem dX12_isOrder_131 : decode cX12_isOrder 131 = .ok (.getfield 33, 3) := by decide +kernel
theorem dX12_isOrder_134 : decode cX12_isOrder 134 = .ok (.bipush 6, 2) := by decide +kernel
theorem dX12_isOrder_136 : decode cX12_isOrder 136 = .ok (.iload_n 3, 1) := by decide +kernel
theorem dX12_isOrder_137 : decode cX12_isOrder 137 = .ok (.imul, 1) := by decide +kernel
theorem dX12_isOrder_138 : decode cX12_isOrder 138 = .ok (.iload 5, 2) := by decide +kernel
theorem dX12_isOrder_140 : decode cX12_isOrder 140 = .ok (.iadd, 1) := by decide +kernel
theorem dX12_isOrder_141 : decode cX12_isOrder 141 = .ok (.baload, 1) := by decide +kernel
theorem dX12_isOrder_142 : decode cX12_isOrder 142 = .ok (.ifCond .eq 7, 3) := by decide +kernel
theorem dX12_isOrder_145 : decode cX12_isOrder 145 = .ok (.iconst 1, 1) := by decide +kernel
theorem dX12_isOrder_146 : decode cX12_isOrder 146 = .ok (.goto 4, 3) := by decide +kernel
theorem dX12_isOrder_149 : decode cX12_isOrder 149 = .ok (.iconst 0, 1) := by decide +kernel
theorem dX12_isOrder_150 : decode cX12_isOrder 150 = .ok (.istore_n 2, 1) := by decide +kernel
theorem dX12_isOrder_151 : decode cX12_isOrder 151 = .ok (.iinc 5 1, 3) := by decide +kernel
theorem dX12_isOrder_154 : decode cX12_isOrder 154 = .ok (.goto (-65), 3) := by decide +kernel
theorem dX12_isOrder_157 : decode cX12_isOrder 157 = .ok (.iinc 4 1, 3) := by decide +kernel
theorem dX12_isOrder_160 : decode cX12_isOrder 160 = .ok (.goto (-126), 3) := by decide +kernel
theorem dX12_isOrder_163 : decode cX12_isOrder 163 = .ok (.iinc 3 1, 3) := by decide +kernel
theorem dX12_isOrder_166 : decode cX12_isOrder 166 = .ok (.goto (-162), 3) := by decide +kernel
theorem dX12_isOrder_169 : decode cX12_isOrder 169 = .ok (.iload_n 2, 1) := by decide +kernel
theorem dX12_isOrder_170 : decode cX12_isOrder 170 = .ok (.ireturn, 1) := by decide +kernel
theorem dX12_isLattice_0 : decode cX12_isLattice 0 = .ok (.iconst 1, 1) := by decide +kernel
theorem dX12_isLattice_1 : decode cX12_isLattice 1 = .ok (.istore_n 2, 1) := by decide +kernel
theorem dX12_isLattice_2 : decode cX12_isLattice 2 = .ok (.iconst 0, 1) := by decide +kernel
theorem dX12_isLattice_3 : decode cX12_isLattice 3 = .ok (.istore_n 3, 1) := by decide +kernel
theorem dX12_isLattice_4 : decode cX12_isLattice 4 = .ok (.iload_n 3, 1) := by decide +kernel
theorem dX12_isLattice_5 : decode cX12_isLattice 5 = .ok (.iload_n 1, 1) := by decide +kernel
theorem dX12_isLattice_6 : decode cX12_isLattice 6 = .ok (.if_icmp .ge 58, 3) := by decide +kernel
theorem dX12_isLattice_9 : decode cX12_isLattice 9 = .ok (.iconst 0, 1) := by decide +kernel
theorem dX12_isLattice_10 : decode cX12_isLattice 10 = .ok (.istore 4, 2) := by decide +kernel
theorem dX12_isLattice_12 : decode cX12_isLattice 12 = .ok (.iload 4, 2) := by decide +kernel
theorem dX12_isLattice_14 : decode cX12_isLattice 14 = .ok (.iload_n 1, 1) := by decide +kernel
theorem dX12_isLattice_15 : decode cX12_isLattice 15 = .ok (.if_icmp .ge 43, 3) := by decide +kernel
theorem dX12_isLattice_18 : decode cX12_isLattice 18 = .ok (.iload_n 2, 1) := by decide +kernel
theorem dX12_isLattice_19 : decode cX12_isLattice 19 = .ok (.ifCond .eq 31, 3) := by decide +kernel
theorem dX12_isLattice_22 : decode cX12_isLattice 22 = .ok (.aload_n 0, 1) := by decide +kernel
theorem dX12_isLattice_23 : decode cX12_isLattice 23 = .ok (.iload_n 1, 1) := by decide +kernel
theorem dX12_isLattice_24 : decode cX12_isLattice 24 = .ok (.iload_n 3, 1) := by decide +kernel
theorem dX12_isLattice_25 : decode cX12_isLattice 25 = .ok (.iload 4, 2) := by decide +kernel
theorem dX12_isLattice_27 : decode cX12_isLattice 27 = .ok (.iconst 0, 1) := by decide +kernel
theorem dX12_isLattice_28 : decode cX12_isLattice 28 = .ok (.invokevirtual 131, 3) := by decide +kernel
theorem dX12_isLattice_31 : decode cX12_isLattice 31 = .ok (.ifCond .lt 19, 3) := by decide +kernel
theorem dX12_isLattice_34 : decode cX12_isLattice 34 = .ok (.aload_n 0, 1) := by decide +kernel
theorem dX12_isLattice_35 : decode cX12_isLattice 35 = .ok (.iload_n 1, 1) := by decide +kernel
theorem dX12_isLattice_36 : decode cX12_isLattice 36 = .ok (.iload_n 3, 1) := by decide +kernel
theorem dX12_isLattice_37 : decode cX12_isLattice 37 = .ok (.iload 4, 2) := by decide +kernel
theorem dX12_isLattice_39 : decode cX12_isLattice 39 = .ok (.iconst 1, 1) := by decide +kernel
theorem dX12_isLattice_40 : decode cX12_isLattice 40 = .ok (.invokevirtual 131, 3) := by decide +kernel
theorem dX12_isLattice_43 : decode cX12_isLattice 43 = .ok (.ifCond .lt 7, 3) := by decide +kernel
theorem dX12_isLattice_46 : decode cX12_isLattice 46 = .ok (.iconst 1, 1) := by decide +kernel
theorem dX12_isLattice_47 : decode cX12_isLattice 47 = .ok (.goto 4, 3) := by decide +kernel
theorem dX12_isLattice_50 : decode cX12_isLattice 50 = .ok (.iconst 0, 1) := by decide +kernel
theorem dX12_isLattice_51 : decode cX12_isLattice 51 = .ok (.istore_n 2, 1) := by decide +kernel
theorem dX12_isLattice_52 : decode cX12_isLattice 52 = .ok (.iinc 4 1, 3) := by decide +kernel
theorem dX12_isLattice_55 : decode cX12_isLattice 55 = .ok (.goto (-43), 3) := by decide +kernel
theorem dX12_isLattice_58 : decode cX12_isLattice 58 = .ok (.iinc 3 1, 3) := by decide +kernel
theorem dX12_isLattice_61 : decode cX12_isLattice 61 = .ok (.goto (-57), 3) := by decide +kernel
theorem dX12_isLattice_64 : decode cX12_isLattice 64 = .ok (.iload_n 2, 1) := by decide +kernel
theorem dX12_isLattice_65 : decode cX12_isLattice 65 = .ok (.ireturn, 1) := by decide +kernel
theorem dX12_levels_0 : decode cX12_levels 0 = .ok (.iconst 0, 1) := by decide +kernel
theorem dX12_levels_1 : decode cX12_levels 1 = .ok (.istore 4, 2) := by decide +kernel
theorem dX12_levels_3 : decode cX12_levels 3 = .ok (.iload 4, 2) := by decide +kernel
theorem dX12_levels_5 : decode cX12_levels 5 = .ok (.bipush 36, 2) := by decide +kernel
theorem dX12_levels_7 : decode cX12_levels 7 = .ok (.if_icmp .ge 32, 3) := by decide +kernel
theorem dX12_levels_10 : decode cX12_levels 10 = .ok (.aload_n 0, 1) := by decide +kernel
theorem dX12_levels_11 : decode cX12_levels 11 = .ok (.getfield 33, 3) := by decide +kernel
theorem dX12_levels_14 : decode cX12_levels 14 = .ok (.iload 4, 2) := by decide +kernel
theorem dX12_levels_16 : decode cX12_levels 16 = .ok (.lload_n 2, 1) := by decide +kernel
theorem dX12_levels_17 : decode cX12_levels 17 = .ok (.iload 4, 2) := by decide +kernel
theorem dX12_levels_19 : decode cX12_levels 19 = .ok (.lshr, 1) := by decide +kernel
theorem dX12_levels_20 : decode cX12_levels 20 = .ok (.lconst 1, 1) := by decide +kernel
theorem dX12_levels_21 : decode cX12_levels 21 = .ok (.land, 1) := by decide +kernel
theorem dX12_levels_22 : decode cX12_levels 22 = .ok (.lconst 1, 1) := by decide +kernel
theorem dX12_levels_23 : decode cX12_levels 23 = .ok (.lcmp, 1) := by decide +kernel
theorem dX12_levels_24 : decode cX12_levels 24 = .ok (.ifCond .ne 7, 3) := by decide +kernel
theorem dX12_levels_27 : decode cX12_levels 27 = .ok (.iconst 1, 1) := by decide +kernel
theorem dX12_levels_28 : decode cX12_levels 28 = .ok (.goto 4, 3) := by decide +kernel
theorem dX12_levels_31 : decode cX12_levels 31 = .ok (.iconst 0, 1) := by decide +kernel
theorem dX12_levels_32 : decode cX12_levels 32 = .ok (.bastore, 1) := by decide +kernel
theorem dX12_levels_33 : decode cX12_levels 33 = .ok (.iinc 4 1, 3) := by decide +kernel
theorem dX12_levels_36 : decode cX12_levels 36 = .ok (.goto (-33), 3) := by decide +kernel
theorem dX12_levels_39 : decode cX12_levels 39 = .ok (.iload_n 1, 1) := by decide +kernel
theorem dX12_levels_40 : decode cX12_levels 40 = .ok (.iconst 1, 1) := by decide +kernel
theorem dX12_levels_41 : decode cX12_levels 41 = .ok (.if_icmp .lt 21, 3) := by decide +kernel
theorem dX12_levels_44 : decode cX12_levels 44 = .ok (.iload_n 1, 1) := by decide +kernel
theorem dX12_levels_45 : decode cX12_levels 45 = .ok (.bipush 6, 2) := by decide +kernel
theorem dX12_levels_47 : decode cX12_levels 47 = .ok (.if_icmp .gt 15, 3) := by decide +kernel
theorem dX12_levels_50 : decode cX12_levels 50 = .ok (.aload_n 0, 1) := by decide +kernel
theorem dX12_levels_51 : decode cX12_levels 51 = .ok (.iload_n 1, 1) := by decide +kernel
theorem dX12_levels_52 : decode cX12_levels 52 = .ok (.invokevirtual 135, 3) := by decide +kernel
theorem dX12_levels_55 : decode cX12_levels 55 = .ok (.ifCond .eq 7, 3) := by decide +kernel
theorem dX12_levels_58 : decode cX12_levels 58 = .ok (.iconst 1, 1) := by decide +kernel
theorem dX12_levels_59 : decode cX12_levels 59 = .ok (.goto 4, 3) := by decide +kernel
theorem dX12_levels_62 : decode cX12_levels 62 = .ok (.iconst 0, 1) := by decide +kernel
theorem dX12_levels_63 : decode cX12_levels 63 = .ok (.istore 4, 2) := by decide +kernel
theorem dX12_levels_65 : decode cX12_levels 65 = .ok (.aload_n 0, 1) := by decide +kernel
theorem dX12_levels_66 : decode cX12_levels 66 = .ok (.iload 4, 2) := by decide +kernel
theorem dX12_levels_68 : decode cX12_levels 68 = .ok (.ifCond .ne 7, 3) := by decide +kernel
theorem dX12_levels_71 : decode cX12_levels 71 = .ok (.iconst 1, 1) := by decide +kernel
theorem dX12_levels_72 : decode cX12_levels 72 = .ok (.goto 16, 3) := by decide +kernel
theorem dX12_levels_75 : decode cX12_levels 75 = .ok (.aload_n 0, 1) := by decide +kernel
theorem dX12_levels_76 : decode cX12_levels 76 = .ok (.iload_n 1, 1) := by decide +kernel
theorem dX12_levels_77 : decode cX12_levels 77 = .ok (.invokevirtual 139, 3) := by decide +kernel
theorem dX12_levels_80 : decode cX12_levels 80 = .ok (.ifCond .ne 7, 3) := by decide +kernel
theorem dX12_levels_83 : decode cX12_levels 83 = .ok (.iconst 2, 1) := by decide +kernel
theorem dX12_levels_84 : decode cX12_levels 84 = .ok (.goto 4, 3) := by decide +kernel
theorem dX12_levels_87 : decode cX12_levels 87 = .ok (.iconst 0, 1) := by decide +kernel
theorem dX12_levels_88 : decode cX12_levels 88 = .ok (.putfield 124, 3) := by decide +kernel
theorem dX12_levels_91 : decode cX12_levels 91 = .ok (.aload_n 0, 1) := by decide +kernel
theorem dX12_levels_92 : decode cX12_levels 92 = .ok (.getfield 124, 3) := by decide +kernel
theorem dX12_levels_95 : decode cX12_levels 95 = .ok (.ifCond .le 5, 3) := by decide +kernel
theorem dX12_levels_98 : decode cX12_levels 98 = .ok (.iconst 0, 1) := by decide +kernel
theorem dX12_levels_99 : decode cX12_levels 99 = .ok (.ireturn, 1) := by decide +kernel
theorem dX12_levels_100 : decode cX12_levels 100 = .ok (.aload_n 0, 1) := by decide +kernel
theorem dX12_levels_101 : decode cX12_levels 101 = .ok (.iload_n 1, 1) := by decide +kernel
theorem dX12_levels_102 : decode cX12_levels 102 = .ok (.putfield 7, 3) := by decide +kernel
theorem dX12_levels_105 : decode cX12_levels 105 = .ok (.iconst 0, 1) := by decide +kernel
theorem dX12_levels_106 : decode cX12_levels 106 = .ok (.istore 5, 2) := by decide +kernel
theorem dX12_levels_108 : decode cX12_levels 108 = .ok (.aload_n 0, 1) := by decide +kernel
theorem dX12_levels_109 : decode cX12_levels 109 = .ok (.iconst 0, 1) := by decide +kernel
theorem dX12_levels_110 : decode cX12_levels 110 = .ok (.putfield 142, 3) := by decide +kernel
theorem dX12_levels_113 : decode cX12_levels 113 = .ok (.iconst 0, 1) := by decide +kernel
theorem dX12_levels_114 : decode cX12_levels 114 = .ok (.istore 6, 2) := by decide +kernel
theorem dX12_levels_116 : decode cX12_levels 116 = .ok (.iload 6, 2) := by decide +kernel
theorem dX12_levels_118 : decode cX12_levels 118 = .ok (.bipush 36, 2) := by decide +kernel
theorem dX12_levels_120 : decode cX12_levels 120 = .ok (.if_icmp .ge 68, 3) := by decide +kernel
theorem dX12_levels_123 : decode cX12_levels 123 = .ok (.aload_n 0, 1) := by decide +kernel
theorem dX12_levels_124 : decode cX12_levels 124 = .ok (.getfield 13, 3) := by decide +kernel
theorem dX12_levels_127 : decode cX12_levels 127 = .ok (.iload 6, 2) := by decide +kernel
theorem dX12_levels_129 : decode cX12_levels 129 = .ok (.aload_n 0, 1) := by decide +kernel
theorem dX12_levels_130 : decode cX12_levels 130 = .ok (.getfield 33, 3) := by decide +kernel
theorem dX12_levels_133 : decode cX12_levels 133 = .ok (.iload 6, 2) := by decide +kernel
theorem dX12_levels_135 : decode cX12_levels 135 = .ok (.baload, 1) := by decide +kernel
theorem dX12_levels_136 : decode cX12_levels 136 = .ok (.bastore, 1) := by decide +kernel
theorem dX12_levels_137 : decode cX12_levels 137 = .ok (.aload_n 0, 1) := by decide +kernel
theorem dX12_levels_138 : decode cX12_levels 138 = .ok (.getfield 17, 3) := by decide +kernel
theorem dX12_levels_141 : decode cX12_levels 141 = .ok (.iload 6, 2) := by decide +kernel
theorem dX12_levels_143 : decode cX12_levels 143 = .ok (.iload 6, 2) := by decide +kernel
theorem dX12_levels_145 : decode cX12_levels 145 = .ok (.bipush 6, 2) := by decide +kernel
theorem dX12_levels_147 : decode cX12_levels 147 = .ok (.idiv, 1) := by decide +kernel
theorem dX12_levels_148 : decode cX12_levels 148 = .ok (.iload_n 1, 1) := by decide +kernel
theorem dX12_levels_149 : decode cX12_levels 149 = .ok (.if_icmp .ge 31, 3) := by decide +kernel
theorem dX12_levels_152 : decode cX12_levels 152 = .ok (.iload 6, 2) := by decide +kernel
theorem dX12_levels_154 : decode cX12_levels 154 = .ok (.bipush 6, 2) := by decide +kernel
theorem dX12_levels_156 : decode cX12_levels 156 = .ok (.irem, 1) := by decide +kernel
theorem dX12_levels_157 : decode cX12_levels 157 = .ok (.iload_n 1, 1) := by decide +kernel
theorem dX12_levels_158 : decode cX12_levels 158 = .ok (.if_icmp .ge 22, 3) := by decide +kernel
theorem dX12_levels_161 : decode cX12_levels 161 = .ok (.aload_n 0, 1) := by decide +kernel
theorem dX12_levels_162 : decode cX12_levels 162 = .ok (.iload_n 1, 1) := by decide +kernel
theorem dX12_levels_163 : decode cX12_levels 163 = .ok (.iload 6, 2) := by decide +kernel
theorem dX12_levels_165 : decode cX12_levels 165 = .ok (.bipush 6, 2) := by decide +kernel
theorem dX12_levels_167 : decode cX12_levels 167 = .ok (.idiv, 1) := by decide +kernel
theorem dX12_levels_168 : decode cX12_levels 168 = .ok (.iload 6, 2) := by decide +kernel
theorem dX12_levels_170 : decode cX12_levels 170 = .ok (.bipush 6, 2) := by decide +kernel
theorem dX12_levels_172 : decode cX12_levels 172 = .ok (.irem, 1) := by decide +kernel
theorem dX12_levels_173 : decode cX12_levels 173 = .ok (.iconst 0, 1) := by decide +kernel
theorem dX12_levels_174 : decode cX12_levels 174 = .ok (.invokevirtual 131, 3) := by decide +kernel
theorem dX12_levels_177 : decode cX12_levels 177 = .ok (.goto 4, 3) := by decide +kernel
theorem dX12_levels_180 : decode cX12_levels 180 = .ok (.iconst 0, 1) := by decide +kernel
theorem dX12_levels_181 : decode cX12_levels 181 = .ok (.iastore, 1) := by decide +kernel
theorem dX12_levels_182 : decode cX12_levels 182 = .ok (.iinc 6 1, 3) := by decide +kernel
theorem dX12_levels_185 : decode cX12_levels 185 = .ok (.goto (-69), 3) := by decide +kernel
theorem dX12_levels_188 : decode cX12_levels 188 = .ok (.iconst 0, 1) := by decide +kernel
theorem dX12_levels_189 : decode cX12_levels 189 = .ok (.istore 6, 2) := by decide +kernel
theorem dX12_levels_191 : decode cX12_levels 191 = .ok (.iload 6, 2) := by decide +kernel
theorem dX12_levels_193 : decode cX12_levels 193 = .ok (.iload_n 1, 1) := by decide +kernel
theorem dX12_levels_194 : decode cX12_levels 194 = .ok (.if_icmp .ge 40, 3) := by decide +kernel
theorem dX12_levels_197 : decode cX12_levels 197 = .ok (.aload_n 0, 1) := by decide +kernel
theorem dX12_levels_198 : decode cX12_levels 198 = .ok (.getfield 17, 3) := by decide +kernel
theorem dX12_levels_201 : decode cX12_levels 201 = .ok (.bipush 6, 2) := by decide +kernel
theorem dX12_levels_203 : decode cX12_levels 203 = .ok (.iload 5, 2) := by decide +kernel
theorem dX12_levels_205 : decode cX12_levels 205 = .ok (.imul, 1) := by decide +kernel
theorem dX12_levels_206 : decode cX12_levels 206 = .ok (.iload 6, 2) := by decide +kernel
theorem dX12_levels_208 : decode cX12_levels 208 = .ok (.iadd, 1) := by decide +kernel
theorem dX12_levels_209 : decode cX12_levels 209 = .ok (.iaload, 1) := by decide +kernel
theorem dX12_levels_210 : decode cX12_levels 210 = .ok (.istore 5, 2) := by decide +kernel
theorem dX12_levels_212 : decode cX12_levels 212 = .ok (.aload_n 0, 1) := by decide +kernel
theorem dX12_levels_213 : decode cX12_levels 213 = .ok (.aload_n 0, 1) := by decide +kernel
theorem dX12_levels_214 : decode cX12_levels 214 = .ok (.iload_n 1, 1) := by decide +kernel
theorem dX12_levels_215 : decode cX12_levels 215 = .ok (.aload_n 0, 1) := by decide +kernel
theorem dX12_levels_216 : decode cX12_levels 216 = .ok (.getfield 142, 3) := by decide +kernel
theorem dX12_levels_219 : decode cX12_levels 219 = .ok (.iload 6, 2) := by decide +kernel
theorem dX12_levels_221 : decode cX12_levels 221 = .ok (.iconst 1, 1) := by decide +kernel
theorem dX12_levels_222 : decode cX12_levels 222 = .ok (.invokevirtual 131, 3) := by decide +kernel
theorem dX12_levels_225 : decode cX12_levels 225 = .ok (.putfield 142, 3) := by decide +kernel
theorem dX12_levels_228 : decode cX12_levels 228 = .ok (.iinc 6 1, 3) := by decide +kernel
theorem dX12_levels_231 : decode cX12_levels 231 = .ok (.goto (-40), 3) := by decide +kernel
theorem dX12_levels_234 : decode cX12_levels 234 = .ok (.iconst 0, 1) := by decide +kernel
theorem dX12_levels_235 : decode cX12_levels 235 = .ok (.istore 6, 2) := by decide +kernel
theorem dX12_levels_237 : decode cX12_levels 237 = .ok (.iload 6, 2) := by decide +kernel
theorem dX12_levels_239 : decode cX12_levels 239 = .ok (.bipush 8, 2) := by decide +kernel
theorem dX12_levels_241 : decode cX12_levels 241 = .ok (.if_icmp .ge 29, 3) := by decide +kernel
theorem dX12_levels_244 : decode cX12_levels 244 = .ok (.aload_n 0, 1) := by decide +kernel
theorem dX12_levels_245 : decode cX12_levels 245 = .ok (.getfield 21, 3) := by decide +kernel
theorem dX12_levels_248 : decode cX12_levels 248 = .ok (.iload 6, 2) := by decide +kernel
theorem dX12_levels_250 : decode cX12_levels 250 = .ok (.aload_n 0, 1) := by decide +kernel
theorem dX12_levels_251 : decode cX12_levels 251 = .ok (.getfield 142, 3) := by decide +kernel
theorem dX12_levels_254 : decode cX12_levels 254 = .ok (.iastore, 1) := by decide +kernel
theorem dX12_levels_255 : decode cX12_levels 255 = .ok (.aload_n 0, 1) := by decide +kernel
theorem dX12_levels_256 : decode cX12_levels 256 = .ok (.getfield 24, 3) := by decide +kernel
theorem dX12_levels_259 : decode cX12_levels 259 = .ok (.iload 6, 2) := by decide +kernel
theorem dX12_levels_261 : decode cX12_levels 261 = .ok (.iload 5, 2) := by decide +kernel
theorem dX12_levels_263 : decode cX12_levels 263 = .ok (.iastore, 1) := by decide +kernel
theorem dX12_levels_264 : decode cX12_levels 264 = .ok (.iinc 6 1, 3) := by decide +kernel
theorem dX12_levels_267 : decode cX12_levels 267 = .ok (.goto (-30), 3) := by decide +kernel
theorem dX12_levels_270 : decode cX12_levels 270 = .ok (.iconst 1, 1) := by decide +kernel
theorem dX12_levels_271 : decode cX12_levels 271 = .ok (.ireturn, 1) := by decide +kernel
theorem dX12_joined_0 : decode cX12_joined 0 = .ok (.aload_n 0, 1) := by decide +kernel
theorem dX12_joined_1 : decode cX12_joined 1 = .ok (.getfield 17, 3) := by decide +kernel
theorem dX12_joined_4 : decode cX12_joined 4 = .ok (.bipush 6, 2) := by decide +kernel
theorem dX12_joined_6 : decode cX12_joined 6 = .ok (.iload_n 1, 1) := by decide +kernel
theorem dX12_joined_7 : decode cX12_joined 7 = .ok (.imul, 1) := by decide +kernel
theorem dX12_joined_8 : decode cX12_joined 8 = .ok (.iload_n 2, 1) := by decide +kernel
theorem dX12_joined_9 : decode cX12_joined 9 = .ok (.iadd, 1) := by decide +kernel
theorem dX12_joined_10 : decode cX12_joined 10 = .ok (.iaload, 1) := by decide +kernel
theorem dX12_joined_11 : decode cX12_joined 11 = .ok (.ireturn, 1) := by decide +kernel
theorem dX12_join_0 : decode cX12_join 0 = .ok (.aload_n 0, 1) := by decide +kernel
theorem dX12_join_1 : decode cX12_join 1 = .ok (.iconst 0, 1) := by decide +kernel
theorem dX12_join_2 : decode cX12_join 2 = .ok (.putfield 124, 3) := by decide +kernel
theorem dX12_join_5 : decode cX12_join 5 = .ok (.aload_n 0, 1) := by decide +kernel
theorem dX12_join_6 : decode cX12_join 6 = .ok (.iload_n 1, 1) := by decide +kernel
theorem dX12_join_7 : decode cX12_join 7 = .ok (.invokevirtual 145, 3) := by decide +kernel
theorem dX12_join_10 : decode cX12_join 10 = .ok (.ifCond .eq 20, 3) := by decide +kernel
theorem dX12_join_13 : decode cX12_join 13 = .ok (.aload_n 0, 1) := by decide +kernel
theorem dX12_join_14 : decode cX12_join 14 = .ok (.iload_n 2, 1) := by decide +kernel
theorem dX12_join_15 : decode cX12_join 15 = .ok (.invokevirtual 145, 3) := by decide +kernel
theorem dX12_join_18 : decode cX12_join 18 = .ok (.ifCond .eq 12, 3) := by decide +kernel
theorem dX12_join_21 : decode cX12_join 21 = .ok (.aload_n 0, 1) := by decide +kernel
theorem dX12_join_22 : decode cX12_join 22 = .ok (.iload_n 1, 1) := by decide +kernel
theorem dX12_join_23 : decode cX12_join 23 = .ok (.iload_n 2, 1) := by decide +kernel
theorem dX12_join_24 : decode cX12_join 24 = .ok (.invokevirtual 148, 3) := by decide +kernel
theorem dX12_join_27 : decode cX12_join 27 = .ok (.goto 4, 3) := by decide +kernel
theorem dX12_join_30 : decode cX12_join 30 = .ok (.iconst (-1), 1) := by decide +kernel
theorem dX12_join_31 : decode cX12_join 31 = .ok (.ireturn, 1) := by decide +kernel
theorem dX12_label_0 : decode cX12_label 0 = .ok (.aload_n 0, 1) := by decide +kernel
theorem dX12_label_1 : decode cX12_label 1 = .ok (.iconst 0, 1) := by decide +kernel
theorem dX12_label_2 : decode cX12_label 2 = .ok (.putfield 124, 3) := by decide +kernel
theorem dX12_label_5 : decode cX12_label 5 = .ok (.iload_n 1, 1) := by decide +kernel
theorem dX12_label_6 : decode cX12_label 6 = .ok (.ifCond .eq 8, 3) := by decide +kernel
theorem dX12_label_9 : decode cX12_label 9 = .ok (.iload_n 1, 1) := by decide +kernel
theorem dX12_label_10 : decode cX12_label 10 = .ok (.iconst 1, 1) := by decide +kernel
theorem dX12_label_11 : decode cX12_label 11 = .ok (.if_icmp .ne 21, 3) := by decide +kernel
theorem dX12_label_14 : decode cX12_label 14 = .ok (.iload_n 2, 1) := by decide +kernel
theorem dX12_label_15 : decode cX12_label 15 = .ok (.ifCond .lt 17, 3) := by decide +kernel
theorem dX12_label_18 : decode cX12_label 18 = .ok (.iload_n 2, 1) := by decide +kernel
theorem dX12_label_19 : decode cX12_label 19 = .ok (.bipush 7, 2) := by decide +kernel
theorem dX12_label_21 : decode cX12_label 21 = .ok (.if_icmp .gt 11, 3) := by decide +kernel
theorem dX12_label_24 : decode cX12_label 24 = .ok (.aload_n 0, 1) := by decide +kernel
theorem dX12_label_25 : decode cX12_label 25 = .ok (.iload_n 3, 1) := by decide +kernel
theorem dX12_label_26 : decode cX12_label 26 = .ok (.invokevirtual 145, 3) := by decide +kernel
theorem dX12_label_29 : decode cX12_label 29 = .ok (.ifCond .ne 5, 3) := by decide +kernel
theorem dX12_label_32 : decode cX12_label 32 = .ok (.iconst 0, 1) := by decide +kernel
theorem dX12_label_33 : decode cX12_label 33 = .ok (.ireturn, 1) := by decide +kernel
theorem dX12_label_34 : decode cX12_label 34 = .ok (.iload_n 1, 1) := by decide +kernel
theorem dX12_label_35 : decode cX12_label 35 = .ok (.ifCond .ne 13, 3) := by decide +kernel
theorem dX12_label_38 : decode cX12_label 38 = .ok (.aload_n 0, 1) := by decide +kernel
theorem dX12_label_39 : decode cX12_label 39 = .ok (.getfield 21, 3) := by decide +kernel
theorem dX12_label_42 : decode cX12_label 42 = .ok (.iload_n 2, 1) := by decide +kernel
theorem dX12_label_43 : decode cX12_label 43 = .ok (.iload_n 3, 1) := by decide +kernel
theorem dX12_label_44 : decode cX12_label 44 = .ok (.iastore, 1) := by decide +kernel
theorem dX12_label_45 : decode cX12_label 45 = .ok (.goto 10, 3) := by decide +kernel
theorem dX12_label_48 : decode cX12_label 48 = .ok (.aload_n 0, 1) := by decide +kernel
theorem dX12_label_49 : decode cX12_label 49 = .ok (.getfield 24, 3) := by decide +kernel
theorem dX12_label_52 : decode cX12_label 52 = .ok (.iload_n 2, 1) := by decide +kernel
theorem dX12_label_53 : decode cX12_label 53 = .ok (.iload_n 3, 1) := by decide +kernel
theorem dX12_label_54 : decode cX12_label 54 = .ok (.iastore, 1) := by decide +kernel
theorem dX12_label_55 : decode cX12_label 55 = .ok (.iconst 1, 1) := by decide +kernel
theorem dX12_label_56 : decode cX12_label 56 = .ok (.ireturn, 1) := by decide +kernel
theorem dX12_write_0 : decode cX12_write 0 = .ok (.aload_n 0, 1) := by decide +kernel
theorem dX12_write_1 : decode cX12_write 1 = .ok (.iconst 0, 1) := by decide +kernel
theorem dX12_write_2 : decode cX12_write 2 = .ok (.putfield 124, 3) := by decide +kernel
theorem dX12_write_5 : decode cX12_write 5 = .ok (.iconst 0, 1) := by decide +kernel
theorem dX12_write_6 : decode cX12_write 6 = .ok (.istore_n 3, 1) := by decide +kernel
theorem dX12_write_7 : decode cX12_write 7 = .ok (.bipush 56, 2) := by decide +kernel
theorem dX12_write_9 : decode cX12_write 9 = .ok (.istore 4, 2) := by decide +kernel
theorem dX12_write_11 : decode cX12_write 11 = .ok (.iload 4, 2) := by decide +kernel
theorem dX12_write_13 : decode cX12_write 13 = .ok (.ifCond .lt 58, 3) := by decide +kernel
theorem dX12_write_16 : decode cX12_write 16 = .ok (.lload_n 1, 1) := by decide +kernel
theorem dX12_write_17 : decode cX12_write 17 = .ok (.iload 4, 2) := by decide +kernel
theorem dX12_write_19 : decode cX12_write 19 = .ok (.lushr, 1) := by decide +kernel
theorem dX12_write_20 : decode cX12_write 20 = .ok (.ldc2_w 152, 3) := by decide +kernel
theorem dX12_write_23 : decode cX12_write 23 = .ok (.land, 1) := by decide +kernel
theorem dX12_write_24 : decode cX12_write 24 = .ok (.l2i, 1) := by decide +kernel
theorem dX12_write_25 : decode cX12_write 25 = .ok (.istore 5, 2) := by decide +kernel
theorem dX12_write_27 : decode cX12_write 27 = .ok (.iload 5, 2) := by decide +kernel
theorem dX12_write_29 : decode cX12_write 29 = .ok (.ifCond .eq 19, 3) := by decide +kernel
theorem dX12_write_32 : decode cX12_write 32 = .ok (.iload 5, 2) := by decide +kernel
theorem dX12_write_34 : decode cX12_write 34 = .ok (.bipush 32, 2) := by decide +kernel
theorem dX12_write_36 : decode cX12_write 36 = .ok (.if_icmp .lt 10, 3) := by decide +kernel
theorem dX12_write_39 : decode cX12_write 39 = .ok (.iload 5, 2) := by decide +kernel
theorem dX12_write_41 : decode cX12_write 41 = .ok (.bipush 126, 2) := by decide +kernel
theorem dX12_write_43 : decode cX12_write 43 = .ok (.if_icmp .le 5, 3) := by decide +kernel
theorem dX12_write_46 : decode cX12_write 46 = .ok (.iconst 0, 1) := by decide +kernel
theorem dX12_write_47 : decode cX12_write 47 = .ok (.ireturn, 1) := by decide +kernel
theorem dX12_write_48 : decode cX12_write 48 = .ok (.iload 5, 2) := by decide +kernel
theorem dX12_write_50 : decode cX12_write 50 = .ok (.ifCond .eq 9, 3) := by decide +kernel
theorem dX12_write_53 : decode cX12_write 53 = .ok (.iload_n 3, 1) := by decide +kernel
theorem dX12_write_54 : decode cX12_write 54 = .ok (.iconst 1, 1) := by decide +kernel
theorem dX12_write_55 : decode cX12_write 55 = .ok (.iadd, 1) := by decide +kernel
theorem dX12_write_56 : decode cX12_write 56 = .ok (.goto 4, 3) := by decide +kernel
theorem dX12_write_59 : decode cX12_write 59 = .ok (.iload_n 3, 1) := by decide +kernel
theorem dX12_write_60 : decode cX12_write 60 = .ok (.istore_n 3, 1) := by decide +kernel
theorem dX12_write_61 : decode cX12_write 61 = .ok (.iload 4, 2) := by decide +kernel
theorem dX12_write_63 : decode cX12_write 63 = .ok (.bipush 8, 2) := by decide +kernel
theorem dX12_write_65 : decode cX12_write 65 = .ok (.isub, 1) := by decide +kernel
theorem dX12_write_66 : decode cX12_write 66 = .ok (.istore 4, 2) := by decide +kernel
theorem dX12_write_68 : decode cX12_write 68 = .ok (.goto (-57), 3) := by decide +kernel
theorem dX12_write_71 : decode cX12_write 71 = .ok (.aload_n 0, 1) := by decide +kernel
theorem dX12_write_72 : decode cX12_write 72 = .ok (.getfield 154, 3) := by decide +kernel
theorem dX12_write_75 : decode cX12_write 75 = .ok (.iload_n 3, 1) := by decide +kernel
theorem dX12_write_76 : decode cX12_write 76 = .ok (.iadd, 1) := by decide +kernel
theorem dX12_write_77 : decode cX12_write 77 = .ok (.bipush 72, 2) := by decide +kernel
theorem dX12_write_79 : decode cX12_write 79 = .ok (.if_icmp .le 5, 3) := by decide +kernel
theorem dX12_write_82 : decode cX12_write 82 = .ok (.iconst 0, 1) := by decide +kernel
theorem dX12_write_83 : decode cX12_write 83 = .ok (.ireturn, 1) := by decide +kernel
theorem dX12_write_84 : decode cX12_write 84 = .ok (.bipush 56, 2) := by decide +kernel
theorem dX12_write_86 : decode cX12_write 86 = .ok (.istore 4, 2) := by decide +kernel
theorem dX12_write_88 : decode cX12_write 88 = .ok (.iload 4, 2) := by decide +kernel
theorem dX12_write_90 : decode cX12_write 90 = .ok (.ifCond .lt 51, 3) := by decide +kernel
theorem dX12_write_93 : decode cX12_write 93 = .ok (.lload_n 1, 1) := by decide +kernel
theorem dX12_write_94 : decode cX12_write 94 = .ok (.iload 4, 2) := by decide +kernel
theorem dX12_write_96 : decode cX12_write 96 = .ok (.lushr, 1) := by decide +kernel
theorem dX12_write_97 : decode cX12_write 97 = .ok (.ldc2_w 152, 3) := by decide +kernel
theorem dX12_write_100 : decode cX12_write 100 = .ok (.land, 1) := by decide +kernel
theorem dX12_write_101 : decode cX12_write 101 = .ok (.l2i, 1) := by decide +kernel
theorem dX12_write_102 : decode cX12_write 102 = .ok (.istore 5, 2) := by decide +kernel
theorem dX12_write_104 : decode cX12_write 104 = .ok (.iload 5, 2) := by decide +kernel
theorem dX12_write_106 : decode cX12_write 106 = .ok (.ifCond .eq 25, 3) := by decide +kernel
theorem dX12_write_109 : decode cX12_write 109 = .ok (.aload_n 0, 1) := by decide +kernel
theorem dX12_write_110 : decode cX12_write 110 = .ok (.getfield 36, 3) := by decide +kernel
theorem dX12_write_113 : decode cX12_write 113 = .ok (.aload_n 0, 1) := by decide +kernel
theorem dX12_write_114 : decode cX12_write 114 = .ok (.getfield 154, 3) := by decide +kernel
theorem dX12_write_117 : decode cX12_write 117 = .ok (.iload 5, 2) := by decide +kernel
theorem dX12_write_119 : decode cX12_write 119 = .ok (.i2c, 1) := by decide +kernel
theorem dX12_write_120 : decode cX12_write 120 = .ok (.castore, 1) := by decide +kernel
theorem dX12_write_121 : decode cX12_write 121 = .ok (.aload_n 0, 1) := by decide +kernel
theorem dX12_write_122 : decode cX12_write 122 = .ok (.dup, 1) := by decide +kernel
theorem dX12_write_123 : decode cX12_write 123 = .ok (.getfield 154, 3) := by decide +kernel
theorem dX12_write_126 : decode cX12_write 126 = .ok (.iconst 1, 1) := by decide +kernel
theorem dX12_write_127 : decode cX12_write 127 = .ok (.iadd, 1) := by decide +kernel
theorem dX12_write_128 : decode cX12_write 128 = .ok (.putfield 154, 3) := by decide +kernel
theorem dX12_write_131 : decode cX12_write 131 = .ok (.iload 4, 2) := by decide +kernel
theorem dX12_write_133 : decode cX12_write 133 = .ok (.bipush 8, 2) := by decide +kernel
theorem dX12_write_135 : decode cX12_write 135 = .ok (.isub, 1) := by decide +kernel
theorem dX12_write_136 : decode cX12_write 136 = .ok (.istore 4, 2) := by decide +kernel
theorem dX12_write_138 : decode cX12_write 138 = .ok (.goto (-50), 3) := by decide +kernel
theorem dX12_write_141 : decode cX12_write 141 = .ok (.iconst 1, 1) := by decide +kernel
theorem dX12_write_142 : decode cX12_write 142 = .ok (.ireturn, 1) := by decide +kernel
theorem dX12_here_0 : decode cX12_here 0 = .ok (.aload_n 0, 1) := by decide +kernel
theorem dX12_here_1 : decode cX12_here 1 = .ok (.getfield 157, 3) := by decide +kernel
theorem dX12_here_4 : decode cX12_here 4 = .ok (.aload_n 0, 1) := by decide +kernel
theorem dX12_here_5 : decode cX12_here 5 = .ok (.getfield 154, 3) := by decide +kernel
theorem dX12_here_8 : decode cX12_here 8 = .ok (.if_icmp .ge 15, 3) := by decide +kernel
theorem dX12_here_11 : decode cX12_here 11 = .ok (.aload_n 0, 1) := by decide +kernel
theorem dX12_here_12 : decode cX12_here 12 = .ok (.getfield 36, 3) := by decide +kernel
theorem dX12_here_15 : decode cX12_here 15 = .ok (.aload_n 0, 1) := by decide +kernel
theorem dX12_here_16 : decode cX12_here 16 = .ok (.getfield 157, 3) := by decide +kernel
theorem dX12_here_19 : decode cX12_here 19 = .ok (.caload, 1) := by decide +kernel
theorem dX12_here_20 : decode cX12_here 20 = .ok (.goto 4, 3) := by decide +kernel
theorem dX12_here_23 : decode cX12_here 23 = .ok (.iconst 0, 1) := by decide +kernel
theorem dX12_here_24 : decode cX12_here 24 = .ok (.ireturn, 1) := by decide +kernel
theorem dX12_takes_0 : decode cX12_takes 0 = .ok (.aload_n 0, 1) := by decide +kernel
theorem dX12_takes_1 : decode cX12_takes 1 = .ok (.invokevirtual 160, 3) := by decide +kernel
theorem dX12_takes_4 : decode cX12_takes 4 = .ok (.iload_n 1, 1) := by decide +kernel
theorem dX12_takes_5 : decode cX12_takes 5 = .ok (.if_icmp .ne 7, 3) := by decide +kernel
theorem dX12_takes_8 : decode cX12_takes 8 = .ok (.iconst 1, 1) := by decide +kernel
theorem dX12_takes_9 : decode cX12_takes 9 = .ok (.goto 4, 3) := by decide +kernel
theorem dX12_takes_12 : decode cX12_takes 12 = .ok (.iconst 0, 1) := by decide +kernel
theorem dX12_takes_13 : decode cX12_takes 13 = .ok (.istore_n 2, 1) := by decide +kernel
theorem dX12_takes_14 : decode cX12_takes 14 = .ok (.aload_n 0, 1) := by decide +kernel
theorem dX12_takes_15 : decode cX12_takes 15 = .ok (.iload_n 2, 1) := by decide +kernel
theorem dX12_takes_16 : decode cX12_takes 16 = .ok (.ifCond .eq 12, 3) := by decide +kernel
theorem dX12_takes_19 : decode cX12_takes 19 = .ok (.aload_n 0, 1) := by decide +kernel
theorem dX12_takes_20 : decode cX12_takes 20 = .ok (.getfield 157, 3) := by decide +kernel
theorem dX12_takes_23 : decode cX12_takes 23 = .ok (.iconst 1, 1) := by decide +kernel
theorem dX12_takes_24 : decode cX12_takes 24 = .ok (.iadd, 1) := by decide +kernel
theorem dX12_takes_25 : decode cX12_takes 25 = .ok (.goto 7, 3) := by decide +kernel
theorem dX12_takes_28 : decode cX12_takes 28 = .ok (.aload_n 0, 1) := by decide +kernel
theorem dX12_takes_29 : decode cX12_takes 29 = .ok (.getfield 157, 3) := by decide +kernel
theorem dX12_takes_32 : decode cX12_takes 32 = .ok (.putfield 157, 3) := by decide +kernel
theorem dX12_takes_35 : decode cX12_takes 35 = .ok (.iload_n 2, 1) := by decide +kernel
theorem dX12_takes_36 : decode cX12_takes 36 = .ok (.ireturn, 1) := by decide +kernel
theorem dX12_opens_0 : decode cX12_opens 0 = .ok (.aload_n 0, 1) := by decide +kernel
theorem dX12_opens_1 : decode cX12_opens 1 = .ok (.invokevirtual 160, 3) := by decide +kernel
theorem dX12_opens_4 : decode cX12_opens 4 = .ok (.iload_n 1, 1) := by decide +kernel
theorem dX12_opens_5 : decode cX12_opens 5 = .ok (.if_icmp .ne 12, 3) := by decide +kernel
theorem dX12_opens_8 : decode cX12_opens 8 = .ok (.aload_n 0, 1) := by decide +kernel
theorem dX12_opens_9 : decode cX12_opens 9 = .ok (.getfield 164, 3) := by decide +kernel
theorem dX12_opens_12 : decode cX12_opens 12 = .ok (.bipush 6, 2) := by decide +kernel
theorem dX12_opens_14 : decode cX12_opens 14 = .ok (.if_icmp .ne 5, 3) := by decide +kernel
theorem dX12_opens_17 : decode cX12_opens 17 = .ok (.iconst 0, 1) := by decide +kernel
theorem dX12_opens_18 : decode cX12_opens 18 = .ok (.ireturn, 1) := by decide +kernel
theorem dX12_opens_19 : decode cX12_opens 19 = .ok (.aload_n 0, 1) := by decide +kernel
theorem dX12_opens_20 : decode cX12_opens 20 = .ok (.dup, 1) := by decide +kernel
theorem dX12_opens_21 : decode cX12_opens 21 = .ok (.getfield 164, 3) := by decide +kernel
theorem dX12_opens_24 : decode cX12_opens 24 = .ok (.iconst 1, 1) := by decide +kernel
theorem dX12_opens_25 : decode cX12_opens 25 = .ok (.iadd, 1) := by decide +kernel
theorem dX12_opens_26 : decode cX12_opens 26 = .ok (.putfield 164, 3) := by decide +kernel
theorem dX12_opens_29 : decode cX12_opens 29 = .ok (.aload_n 0, 1) := by decide +kernel
theorem dX12_opens_30 : decode cX12_opens 30 = .ok (.dup, 1) := by decide +kernel
theorem dX12_opens_31 : decode cX12_opens 31 = .ok (.getfield 157, 3) := by decide +kernel
theorem dX12_opens_34 : decode cX12_opens 34 = .ok (.iconst 1, 1) := by decide +kernel
theorem dX12_opens_35 : decode cX12_opens 35 = .ok (.iadd, 1) := by decide +kernel
theorem dX12_opens_36 : decode cX12_opens 36 = .ok (.putfield 157, 3) := by decide +kernel
theorem dX12_opens_39 : decode cX12_opens 39 = .ok (.iconst 1, 1) := by decide +kernel
theorem dX12_opens_40 : decode cX12_opens 40 = .ok (.ireturn, 1) := by decide +kernel
theorem dX12_closes_0 : decode cX12_closes 0 = .ok (.aload_n 0, 1) := by decide +kernel
theorem dX12_closes_1 : decode cX12_closes 1 = .ok (.iload_n 1, 1) := by decide +kernel
theorem dX12_closes_2 : decode cX12_closes 2 = .ok (.invokevirtual 167, 3) := by decide +kernel
theorem dX12_closes_5 : decode cX12_closes 5 = .ok (.istore_n 2, 1) := by decide +kernel
theorem dX12_closes_6 : decode cX12_closes 6 = .ok (.aload_n 0, 1) := by decide +kernel
theorem dX12_closes_7 : decode cX12_closes 7 = .ok (.iload_n 2, 1) := by decide +kernel
theorem dX12_closes_8 : decode cX12_closes 8 = .ok (.ifCond .eq 12, 3) := by decide +kernel
theorem dX12_closes_11 : decode cX12_closes 11 = .ok (.aload_n 0, 1) := by decide +kernel
theorem dX12_closes_12 : decode cX12_closes 12 = .ok (.getfield 164, 3) := by decide +kernel
theorem dX12_closes_15 : decode cX12_closes 15 = .ok (.iconst 1, 1) := by decide +kernel
theorem dX12_closes_16 : decode cX12_closes 16 = .ok (.isub, 1) := by decide +kernel
theorem dX12_closes_17 : decode cX12_closes 17 = .ok (.goto 7, 3) := by decide +kernel
theorem dX12_closes_20 : decode cX12_closes 20 = .ok (.aload_n 0, 1) := by decide +kernel
theorem dX12_closes_21 : decode cX12_closes 21 = .ok (.getfield 164, 3) := by decide +kernel
theorem dX12_closes_24 : decode cX12_closes 24 = .ok (.putfield 164, 3) := by decide +kernel
theorem dX12_closes_27 : decode cX12_closes 27 = .ok (.iload_n 2, 1) := by decide +kernel
theorem dX12_closes_28 : decode cX12_closes 28 = .ok (.ireturn, 1) := by decide +kernel
theorem dX12_isName_0 : decode cX12_isName 0 = .ok (.iload_n 0, 1) := by decide +kernel
theorem dX12_isName_1 : decode cX12_isName 1 = .ok (.bipush 97, 2) := by decide +kernel
theorem dX12_isName_3 : decode cX12_isName 3 = .ok (.if_icmp .lt 13, 3) := by decide +kernel
theorem dX12_isName_6 : decode cX12_isName 6 = .ok (.iload_n 0, 1) := by decide +kernel
theorem dX12_isName_7 : decode cX12_isName 7 = .ok (.bipush 104, 2) := by decide +kernel
theorem dX12_isName_9 : decode cX12_isName 9 = .ok (.if_icmp .gt 7, 3) := by decide +kernel
theorem dX12_isName_12 : decode cX12_isName 12 = .ok (.iconst 1, 1) := by decide +kernel
theorem dX12_isName_13 : decode cX12_isName 13 = .ok (.goto 4, 3) := by decide +kernel
theorem dX12_isName_16 : decode cX12_isName 16 = .ok (.iconst 0, 1) := by decide +kernel
theorem dX12_isName_17 : decode cX12_isName 17 = .ok (.ireturn, 1) := by decide +kernel
theorem dX12_isDigit_0 : decode cX12_isDigit 0 = .ok (.iload_n 0, 1) := by decide +kernel
theorem dX12_isDigit_1 : decode cX12_isDigit 1 = .ok (.bipush 48, 2) := by decide +kernel
theorem dX12_isDigit_3 : decode cX12_isDigit 3 = .ok (.if_icmp .lt 13, 3) := by decide +kernel
theorem dX12_isDigit_6 : decode cX12_isDigit 6 = .ok (.iload_n 0, 1) := by decide +kernel
theorem dX12_isDigit_7 : decode cX12_isDigit 7 = .ok (.bipush 57, 2) := by decide +kernel
theorem dX12_isDigit_9 : decode cX12_isDigit 9 = .ok (.if_icmp .gt 7, 3) := by decide +kernel
theorem dX12_isDigit_12 : decode cX12_isDigit 12 = .ok (.iconst 1, 1) := by decide +kernel
theorem dX12_isDigit_13 : decode cX12_isDigit 13 = .ok (.goto 4, 3) := by decide +kernel
theorem dX12_isDigit_16 : decode cX12_isDigit 16 = .ok (.iconst 0, 1) := by decide +kernel
theorem dX12_isDigit_17 : decode cX12_isDigit 17 = .ok (.ireturn, 1) := by decide +kernel
theorem dX12_part_0 : decode cX12_part 0 = .ok (.aload_n 0, 1) := by decide +kernel
theorem dX12_part_1 : decode cX12_part 1 = .ok (.getfield 171, 3) := by decide +kernel
theorem dX12_part_4 : decode cX12_part 4 = .ok (.istore_n 3, 1) := by decide +kernel
theorem dX12_part_5 : decode cX12_part 5 = .ok (.aload_n 0, 1) := by decide +kernel
theorem dX12_part_6 : decode cX12_part 6 = .ok (.dup, 1) := by decide +kernel
theorem dX12_part_7 : decode cX12_part 7 = .ok (.getfield 171, 3) := by decide +kernel
theorem dX12_part_10 : decode cX12_part 10 = .ok (.iconst 1, 1) := by decide +kernel
theorem dX12_part_11 : decode cX12_part 11 = .ok (.iadd, 1) := by decide +kernel
theorem dX12_part_12 : decode cX12_part 12 = .ok (.putfield 171, 3) := by decide +kernel
theorem dX12_part_15 : decode cX12_part 15 = .ok (.aload_n 0, 1) := by decide +kernel
theorem dX12_part_16 : decode cX12_part 16 = .ok (.getfield 43, 3) := by decide +kernel
theorem dX12_part_19 : decode cX12_part 19 = .ok (.iload_n 3, 1) := by decide +kernel
theorem dX12_part_20 : decode cX12_part 20 = .ok (.iload_n 1, 1) := by decide +kernel
theorem dX12_part_21 : decode cX12_part 21 = .ok (.iastore, 1) := by decide +kernel
theorem dX12_part_22 : decode cX12_part 22 = .ok (.aload_n 0, 1) := by decide +kernel
theorem dX12_part_23 : decode cX12_part 23 = .ok (.getfield 46, 3) := by decide +kernel
theorem dX12_part_26 : decode cX12_part 26 = .ok (.iload_n 3, 1) := by decide +kernel
theorem dX12_part_27 : decode cX12_part 27 = .ok (.iconst 0, 1) := by decide +kernel
theorem dX12_part_28 : decode cX12_part 28 = .ok (.iastore, 1) := by decide +kernel
theorem dX12_part_29 : decode cX12_part 29 = .ok (.aload_n 0, 1) := by decide +kernel
theorem dX12_part_30 : decode cX12_part 30 = .ok (.getfield 49, 3) := by decide +kernel
theorem dX12_part_33 : decode cX12_part 33 = .ok (.iload_n 3, 1) := by decide +kernel
theorem dX12_part_34 : decode cX12_part 34 = .ok (.iload_n 2, 1) := by decide +kernel
theorem dX12_part_35 : decode cX12_part 35 = .ok (.iastore, 1) := by decide +kernel
theorem dX12_part_36 : decode cX12_part 36 = .ok (.aload_n 0, 1) := by decide +kernel
theorem dX12_part_37 : decode cX12_part 37 = .ok (.getfield 52, 3) := by decide +kernel
theorem dX12_part_40 : decode cX12_part 40 = .ok (.iload_n 3, 1) := by decide +kernel
theorem dX12_part_41 : decode cX12_part 41 = .ok (.iconst (-1), 1) := by decide +kernel
theorem dX12_part_42 : decode cX12_part 42 = .ok (.iastore, 1) := by decide +kernel
theorem dX12_part_43 : decode cX12_part 43 = .ok (.aload_n 0, 1) := by decide +kernel
theorem dX12_part_44 : decode cX12_part 44 = .ok (.getfield 55, 3) := by decide +kernel
theorem dX12_part_47 : decode cX12_part 47 = .ok (.iload_n 3, 1) := by decide +kernel
theorem dX12_part_48 : decode cX12_part 48 = .ok (.iconst (-1), 1) := by decide +kernel
theorem dX12_part_49 : decode cX12_part 49 = .ok (.iastore, 1) := by decide +kernel
theorem dX12_part_50 : decode cX12_part 50 = .ok (.aload_n 0, 1) := by decide +kernel
theorem dX12_part_51 : decode cX12_part 51 = .ok (.getfield 58, 3) := by decide +kernel
theorem dX12_part_54 : decode cX12_part 54 = .ok (.iload_n 3, 1) := by decide +kernel
theorem dX12_part_55 : decode cX12_part 55 = .ok (.iconst (-1), 1) := by decide +kernel
theorem dX12_part_56 : decode cX12_part 56 = .ok (.iastore, 1) := by decide +kernel
theorem dX12_part_57 : decode cX12_part 57 = .ok (.aload_n 0, 1) := by decide +kernel
theorem dX12_part_58 : decode cX12_part 58 = .ok (.getfield 61, 3) := by decide +kernel
theorem dX12_part_61 : decode cX12_part 61 = .ok (.iload_n 3, 1) := by decide +kernel
theorem dX12_part_62 : decode cX12_part 62 = .ok (.iconst 0, 1) := by decide +kernel
theorem dX12_part_63 : decode cX12_part 63 = .ok (.iastore, 1) := by decide +kernel
theorem dX12_part_64 : decode cX12_part 64 = .ok (.aload_n 0, 1) := by decide +kernel
theorem dX12_part_65 : decode cX12_part 65 = .ok (.getfield 64, 3) := by decide +kernel
theorem dX12_part_68 : decode cX12_part 68 = .ok (.iload_n 3, 1) := by decide +kernel
theorem dX12_part_69 : decode cX12_part 69 = .ok (.aload_n 0, 1) := by decide +kernel
theorem dX12_part_70 : decode cX12_part 70 = .ok (.getfield 171, 3) := by decide +kernel
theorem dX12_part_73 : decode cX12_part 73 = .ok (.iastore, 1) := by decide +kernel
theorem dX12_part_74 : decode cX12_part 74 = .ok (.iload_n 2, 1) := by decide +kernel
theorem dX12_part_75 : decode cX12_part 75 = .ok (.ifCond .lt 51, 3) := by decide +kernel
theorem dX12_part_78 : decode cX12_part 78 = .ok (.aload_n 0, 1) := by decide +kernel
theorem dX12_part_79 : decode cX12_part 79 = .ok (.getfield 52, 3) := by decide +kernel
theorem dX12_part_82 : decode cX12_part 82 = .ok (.iload_n 2, 1) := by decide +kernel
theorem dX12_part_83 : decode cX12_part 83 = .ok (.iaload, 1) := by decide +kernel
theorem dX12_part_84 : decode cX12_part 84 = .ok (.ifCond .ge 13, 3) := by decide +kernel
theorem dX12_part_87 : decode cX12_part 87 = .ok (.aload_n 0, 1) := by decide +kernel
theorem dX12_part_88 : decode cX12_part 88 = .ok (.getfield 52, 3) := by decide +kernel
theorem dX12_part_91 : decode cX12_part 91 = .ok (.iload_n 2, 1) := by decide +kernel
theorem dX12_part_92 : decode cX12_part 92 = .ok (.iload_n 3, 1) := by decide +kernel
theorem dX12_part_93 : decode cX12_part 93 = .ok (.iastore, 1) := by decide +kernel
theorem dX12_part_94 : decode cX12_part 94 = .ok (.goto 15, 3) := by decide +kernel
theorem dX12_part_97 : decode cX12_part 97 = .ok (.aload_n 0, 1) := by decide +kernel
theorem dX12_part_98 : decode cX12_part 98 = .ok (.getfield 58, 3) := by decide +kernel
theorem dX12_part_101 : decode cX12_part 101 = .ok (.aload_n 0, 1) := by decide +kernel
theorem dX12_part_102 : decode cX12_part 102 = .ok (.getfield 55, 3) := by decide +kernel
theorem dX12_part_105 : decode cX12_part 105 = .ok (.iload_n 2, 1) := by decide +kernel
theorem dX12_part_106 : decode cX12_part 106 = .ok (.iaload, 1) := by decide +kernel
theorem dX12_part_107 : decode cX12_part 107 = .ok (.iload_n 3, 1) := by decide +kernel
theorem dX12_part_108 : decode cX12_part 108 = .ok (.iastore, 1) := by decide +kernel
theorem dX12_part_109 : decode cX12_part 109 = .ok (.aload_n 0, 1) := by decide +kernel
theorem dX12_part_110 : decode cX12_part 110 = .ok (.getfield 55, 3) := by decide +kernel
theorem dX12_part_113 : decode cX12_part 113 = .ok (.iload_n 2, 1) := by decide +kernel
theorem dX12_part_114 : decode cX12_part 114 = .ok (.iload_n 3, 1) := by decide +kernel
theorem dX12_part_115 : decode cX12_part 115 = .ok (.iastore, 1) := by decide +kernel
theorem dX12_part_116 : decode cX12_part 116 = .ok (.aload_n 0, 1) := by decide +kernel
theorem dX12_part_117 : decode cX12_part 117 = .ok (.getfield 61, 3) := by decide +kernel
theorem dX12_part_120 : decode cX12_part 120 = .ok (.iload_n 2, 1) := by decide +kernel
theorem dX12_part_121 : decode cX12_part 121 = .ok (.dup2, 1) := by decide +kernel
theorem dX12_part_122 : decode cX12_part 122 = .ok (.iaload, 1) := by decide +kernel
theorem dX12_part_123 : decode cX12_part 123 = .ok (.iconst 1, 1) := by decide +kernel
theorem dX12_part_124 : decode cX12_part 124 = .ok (.iadd, 1) := by decide +kernel
theorem dX12_part_125 : decode cX12_part 125 = .ok (.iastore, 1) := by decide +kernel
theorem dX12_part_126 : decode cX12_part 126 = .ok (.iload_n 3, 1) := by decide +kernel
theorem dX12_part_127 : decode cX12_part 127 = .ok (.ireturn, 1) := by decide +kernel
theorem dX12_operation_0 : decode cX12_operation 0 = .ok (.iload_n 0, 1) := by decide +kernel
theorem dX12_operation_1 : decode cX12_operation 1 = .ok (.bipush 43, 2) := by decide +kernel
theorem dX12_operation_3 : decode cX12_operation 3 = .ok (.if_icmp .ne 7, 3) := by decide +kernel
theorem dX12_operation_6 : decode cX12_operation 6 = .ok (.iconst 3, 1) := by decide +kernel
theorem dX12_operation_7 : decode cX12_operation 7 = .ok (.goto 35, 3) := by decide +kernel
theorem dX12_operation_10 : decode cX12_operation 10 = .ok (.iload_n 0, 1) := by decide +kernel
theorem dX12_operation_11 : decode cX12_operation 11 = .ok (.bipush 45, 2) := by decide +kernel
theorem dX12_operation_13 : decode cX12_operation 13 = .ok (.if_icmp .ne 7, 3) := by decide +kernel
theorem dX12_operation_16 : decode cX12_operation 16 = .ok (.iconst 4, 1) := by decide +kernel
theorem dX12_operation_17 : decode cX12_operation 17 = .ok (.goto 25, 3) := by decide +kernel
theorem dX12_operation_20 : decode cX12_operation 20 = .ok (.iload_n 0, 1) := by decide +kernel
theorem dX12_operation_21 : decode cX12_operation 21 = .ok (.bipush 42, 2) := by decide +kernel
theorem dX12_operation_23 : decode cX12_operation 23 = .ok (.if_icmp .ne 7, 3) := by decide +kernel
theorem dX12_operation_26 : decode cX12_operation 26 = .ok (.iconst 5, 1) := by decide +kernel
theorem dX12_operation_27 : decode cX12_operation 27 = .ok (.goto 15, 3) := by decide +kernel
theorem dX12_operation_30 : decode cX12_operation 30 = .ok (.iload_n 0, 1) := by decide +kernel
theorem dX12_operation_31 : decode cX12_operation 31 = .ok (.bipush 60, 2) := by decide +kernel
theorem dX12_operation_33 : decode cX12_operation 33 = .ok (.if_icmp .ne 8, 3) := by decide +kernel
theorem dX12_operation_36 : decode cX12_operation 36 = .ok (.bipush 6, 2) := by decide +kernel
theorem dX12_operation_38 : decode cX12_operation 38 = .ok (.goto 4, 3) := by decide +kernel
theorem dX12_operation_41 : decode cX12_operation 41 = .ok (.iconst 0, 1) := by decide +kernel
theorem dX12_operation_42 : decode cX12_operation 42 = .ok (.ireturn, 1) := by decide +kernel
theorem dX12_begin_0 : decode cX12_begin 0 = .ok (.aload_n 0, 1) := by decide +kernel
theorem dX12_begin_1 : decode cX12_begin 1 = .ok (.invokevirtual 160, 3) := by decide +kernel
theorem dX12_begin_4 : decode cX12_begin 4 = .ok (.istore_n 2, 1) := by decide +kernel
theorem dX12_begin_5 : decode cX12_begin 5 = .ok (.iload_n 2, 1) := by decide +kernel
theorem dX12_begin_6 : decode cX12_begin 6 = .ok (.bipush 40, 2) := by decide +kernel
theorem dX12_begin_8 : decode cX12_begin 8 = .ok (.if_icmp .ne 23, 3) := by decide +kernel
theorem dX12_begin_11 : decode cX12_begin 11 = .ok (.aload_n 0, 1) := by decide +kernel
theorem dX12_begin_12 : decode cX12_begin 12 = .ok (.bipush 40, 2) := by decide +kernel
theorem dX12_begin_14 : decode cX12_begin 14 = .ok (.invokevirtual 174, 3) := by decide +kernel
theorem dX12_begin_17 : decode cX12_begin 17 = .ok (.ifCond .ne 5, 3) := by decide +kernel
theorem dX12_begin_20 : decode cX12_begin 20 = .ok (.iconst (-1), 1) := by decide +kernel
theorem dX12_begin_21 : decode cX12_begin 21 = .ok (.ireturn, 1) := by decide +kernel
theorem dX12_begin_22 : decode cX12_begin 22 = .ok (.aload_n 0, 1) := by decide +kernel
theorem dX12_begin_23 : decode cX12_begin 23 = .ok (.iconst 2, 1) := by decide +kernel
theorem dX12_begin_24 : decode cX12_begin 24 = .ok (.iload_n 1, 1) := by decide +kernel
theorem dX12_begin_25 : decode cX12_begin 25 = .ok (.invokevirtual 177, 3) := by decide +kernel
theorem dX12_begin_28 : decode cX12_begin 28 = .ok (.istore_n 3, 1) := by decide +kernel
theorem dX12_begin_29 : decode cX12_begin 29 = .ok (.iconst 1, 1) := by decide +kernel
theorem dX12_begin_30 : decode cX12_begin 30 = .ok (.ireturn, 1) := by decide +kernel
theorem dX12_begin_31 : decode cX12_begin 31 = .ok (.iload_n 2, 1) := by decide +kernel
theorem dX12_begin_32 : decode cX12_begin 32 = .ok (.invokestatic 180, 3) := by decide +kernel
theorem dX12_begin_35 : decode cX12_begin 35 = .ok (.ifCond .ne 12, 3) := by decide +kernel
theorem dX12_begin_38 : decode cX12_begin 38 = .ok (.iload_n 2, 1) := by decide +kernel
theorem dX12_begin_39 : decode cX12_begin 39 = .ok (.invokestatic 183, 3) := by decide +kernel
theorem dX12_begin_42 : decode cX12_begin 42 = .ok (.ifCond .ne 5, 3) := by decide +kernel
theorem dX12_begin_45 : decode cX12_begin 45 = .ok (.iconst (-1), 1) := by decide +kernel
theorem dX12_begin_46 : decode cX12_begin 46 = .ok (.ireturn, 1) := by decide +kernel
theorem dX12_begin_47 : decode cX12_begin 47 = .ok (.aload_n 0, 1) := by decide +kernel
theorem dX12_begin_48 : decode cX12_begin 48 = .ok (.iload_n 2, 1) := by decide +kernel
theorem dX12_begin_49 : decode cX12_begin 49 = .ok (.invokestatic 180, 3) := by decide +kernel
theorem dX12_begin_52 : decode cX12_begin 52 = .ok (.ifCond .eq 7, 3) := by decide +kernel
theorem dX12_begin_55 : decode cX12_begin 55 = .ok (.iconst 1, 1) := by decide +kernel
theorem dX12_begin_56 : decode cX12_begin 56 = .ok (.goto 4, 3) := by decide +kernel
theorem dX12_begin_59 : decode cX12_begin 59 = .ok (.iconst 0, 1) := by decide +kernel
theorem dX12_begin_60 : decode cX12_begin 60 = .ok (.iload_n 1, 1) := by decide +kernel
theorem dX12_begin_61 : decode cX12_begin 61 = .ok (.invokevirtual 177, 3) := by decide +kernel
theorem dX12_begin_64 : decode cX12_begin 64 = .ok (.istore_n 3, 1) := by decide +kernel
theorem dX12_begin_65 : decode cX12_begin 65 = .ok (.aload_n 0, 1) := by decide +kernel
theorem dX12_begin_66 : decode cX12_begin 66 = .ok (.getfield 46, 3) := by decide +kernel
theorem dX12_begin_69 : decode cX12_begin 69 = .ok (.iload_n 3, 1) := by decide +kernel
theorem dX12_begin_70 : decode cX12_begin 70 = .ok (.iload_n 2, 1) := by decide +kernel
theorem dX12_begin_71 : decode cX12_begin 71 = .ok (.invokestatic 180, 3) := by decide +kernel
theorem dX12_begin_74 : decode cX12_begin 74 = .ok (.ifCond .eq 10, 3) := by decide +kernel
theorem dX12_begin_77 : decode cX12_begin 77 = .ok (.iload_n 2, 1) := by decide +kernel
theorem dX12_begin_78 : decode cX12_begin 78 = .ok (.bipush 97, 2) := by decide +kernel
theorem dX12_begin_80 : decode cX12_begin 80 = .ok (.isub, 1) := by decide +kernel
theorem dX12_begin_81 : decode cX12_begin 81 = .ok (.goto 4, 3) := by decide +kernel
theorem dX12_begin_84 : decode cX12_begin 84 = .ok (.iconst 0, 1) := by decide +kernel
theorem dX12_begin_85 : decode cX12_begin 85 = .ok (.iastore, 1) := by decide +kernel
theorem dX12_begin_86 : decode cX12_begin 86 = .ok (.iconst 0, 1) := by decide +kernel
theorem dX12_begin_87 : decode cX12_begin 87 = .ok (.istore 4, 2) := by decide +kernel
theorem dX12_begin_89 : decode cX12_begin 89 = .ok (.iload 4, 2) := by decide +kernel
theorem dX12_begin_91 : decode cX12_begin 91 = .ok (.iconst 3, 1) := by decide +kernel
theorem dX12_begin_92 : decode cX12_begin 92 = .ok (.if_icmp .ge 61, 3) := by decide +kernel
theorem dX12_begin_95 : decode cX12_begin 95 = .ok (.aload_n 0, 1) := by decide +kernel
theorem dX12_begin_96 : decode cX12_begin 96 = .ok (.getfield 43, 3) := by decide +kernel
theorem dX12_begin_99 : decode cX12_begin 99 = .ok (.iload_n 3, 1) := by decide +kernel
theorem dX12_begin_100 : decode cX12_begin 100 = .ok (.iaload, 1) := by decide +kernel
theorem dX12_begin_101 : decode cX12_begin 101 = .ok (.ifCond .ne 52, 3) := by decide +kernel
theorem dX12_begin_104 : decode cX12_begin 104 = .ok (.aload_n 0, 1) := by decide +kernel
theorem dX12_begin_105 : decode cX12_begin 105 = .ok (.invokevirtual 160, 3) := by decide +kernel
theorem dX12_begin_108 : decode cX12_begin 108 = .ok (.invokestatic 183, 3) := by decide +kernel
theorem dX12_begin_111 : decode cX12_begin 111 = .ok (.ifCond .eq 42, 3) := by decide +kernel
theorem dX12_begin_114 : decode cX12_begin 114 = .ok (.aload_n 0, 1) := by decide +kernel
theorem dX12_begin_115 : decode cX12_begin 115 = .ok (.getfield 46, 3) := by decide +kernel
theorem dX12_begin_118 : decode cX12_begin 118 = .ok (.iload_n 3, 1) := by decide +kernel
theorem dX12_begin_119 : decode cX12_begin 119 = .ok (.bipush 10, 2) := by decide +kernel
theorem dX12_begin_121 : decode cX12_begin 121 = .ok (.aload_n 0, 1) := by decide +kernel
theorem dX12_begin_122 : decode cX12_begin 122 = .ok (.getfield 46, 3) := by decide +kernel
theorem dX12_begin_125 : decode cX12_begin 125 = .ok (.iload_n 3, 1) := by decide +kernel
theorem dX12_begin_126 : decode cX12_begin 126 = .ok (.iaload, 1) := by decide +kernel
theorem dX12_begin_127 : decode cX12_begin 127 = .ok (.imul, 1) := by decide +kernel
theorem dX12_begin_128 : decode cX12_begin 128 = .ok (.aload_n 0, 1) := by decide +kernel
theorem dX12_begin_129 : decode cX12_begin 129 = .ok (.invokevirtual 160, 3) := by decide +kernel
theorem dX12_begin_132 : decode cX12_begin 132 = .ok (.iadd, 1) := by decide +kernel
theorem dX12_begin_133 : decode cX12_begin 133 = .ok (.bipush 48, 2) := by decide +kernel
theorem dX12_begin_135 : decode cX12_begin 135 = .ok (.isub, 1) := by decide +kernel
theorem dX12_begin_136 : decode cX12_begin 136 = .ok (.iastore, 1) := by decide +kernel
theorem dX12_begin_137 : decode cX12_begin 137 = .ok (.aload_n 0, 1) := by decide +kernel
theorem dX12_begin_138 : decode cX12_begin 138 = .ok (.dup, 1) := by decide +kernel
theorem dX12_begin_139 : decode cX12_begin 139 = .ok (.getfield 157, 3) := by decide +kernel
theorem dX12_begin_142 : decode cX12_begin 142 = .ok (.iconst 1, 1) := by decide +kernel
theorem dX12_begin_143 : decode cX12_begin 143 = .ok (.iadd, 1) := by decide +kernel
theorem dX12_begin_144 : decode cX12_begin 144 = .ok (.putfield 157, 3) := by decide +kernel
theorem dX12_begin_147 : decode cX12_begin 147 = .ok (.iinc 4 1, 3) := by decide +kernel
theorem dX12_begin_150 : decode cX12_begin 150 = .ok (.goto (-61), 3) := by decide +kernel
theorem dX12_begin_153 : decode cX12_begin 153 = .ok (.aload_n 0, 1) := by decide +kernel
theorem dX12_begin_154 : decode cX12_begin 154 = .ok (.aload_n 0, 1) := by decide +kernel
theorem dX12_begin_155 : decode cX12_begin 155 = .ok (.getfield 43, 3) := by decide +kernel
theorem dX12_begin_158 : decode cX12_begin 158 = .ok (.iload_n 3, 1) := by decide +kernel
theorem dX12_begin_159 : decode cX12_begin 159 = .ok (.iaload, 1) := by decide +kernel
theorem dX12_begin_160 : decode cX12_begin 160 = .ok (.iconst 1, 1) := by decide +kernel
theorem dX12_begin_161 : decode cX12_begin 161 = .ok (.if_icmp .ne 12, 3) := by decide +kernel
theorem dX12_begin_164 : decode cX12_begin 164 = .ok (.aload_n 0, 1) := by decide +kernel
theorem dX12_begin_165 : decode cX12_begin 165 = .ok (.getfield 157, 3) := by decide +kernel
theorem dX12_begin_168 : decode cX12_begin 168 = .ok (.iconst 1, 1) := by decide +kernel
theorem dX12_begin_169 : decode cX12_begin 169 = .ok (.iadd, 1) := by decide +kernel
theorem dX12_begin_170 : decode cX12_begin 170 = .ok (.goto 7, 3) := by decide +kernel
theorem dX12_begin_173 : decode cX12_begin 173 = .ok (.aload_n 0, 1) := by decide +kernel
theorem dX12_begin_174 : decode cX12_begin 174 = .ok (.getfield 157, 3) := by decide +kernel
theorem dX12_begin_177 : decode cX12_begin 177 = .ok (.putfield 157, 3) := by decide +kernel
theorem dX12_begin_180 : decode cX12_begin 180 = .ok (.iconst 0, 1) := by decide +kernel
theorem dX12_begin_181 : decode cX12_begin 181 = .ok (.ireturn, 1) := by decide +kernel
theorem dX12_expression_0 : decode cX12_expression 0 = .ok (.iload_n 1, 1) := by decide +kernel
theorem dX12_expression_1 : decode cX12_expression 1 = .ok (.istore_n 2, 1) := by decide +kernel
theorem dX12_expression_2 : decode cX12_expression 2 = .ok (.iconst 0, 1) := by decide +kernel
theorem dX12_expression_3 : decode cX12_expression 3 = .ok (.istore_n 3, 1) := by decide +kernel
theorem dX12_expression_4 : decode cX12_expression 4 = .ok (.iload_n 3, 1) := by decide +kernel
theorem dX12_expression_5 : decode cX12_expression 5 = .ok (.bipush 100, 2) := by decide +kernel
theorem dX12_expression_7 : decode cX12_expression 7 = .ok (.if_icmp .ge 134, 3) := by decide +kernel
theorem dX12_expression_10 : decode cX12_expression 10 = .ok (.aload_n 0, 1) := by decide +kernel
theorem dX12_expression_11 : decode cX12_expression 11 = .ok (.iload_n 2, 1) := by decide +kernel
theorem dX12_expression_12 : decode cX12_expression 12 = .ok (.invokevirtual 186, 3) := by decide +kernel
theorem dX12_expression_15 : decode cX12_expression 15 = .ok (.istore 4, 2) := by decide +kernel
theorem dX12_expression_17 : decode cX12_expression 17 = .ok (.iload 4, 2) := by decide +kernel
theorem dX12_expression_19 : decode cX12_expression 19 = .ok (.ifCond .ge 5, 3) := by decide +kernel
theorem dX12_expression_22 : decode cX12_expression 22 = .ok (.iconst 0, 1) := by decide +kernel
theorem dX12_expression_23 : decode cX12_expression 23 = .ok (.ireturn, 1) := by decide +kernel
theorem dX12_expression_24 : decode cX12_expression 24 = .ok (.iload 4, 2) := by decide +kernel
theorem dX12_expression_26 : decode cX12_expression 26 = .ok (.iconst 1, 1) := by decide +kernel
theorem dX12_expression_27 : decode cX12_expression 27 = .ok (.if_icmp .ne 10, 3) := by decide +kernel
theorem dX12_expression_30 : decode cX12_expression 30 = .ok (.aload_n 0, 1) := by decide +kernel
theorem dX12_expression_31 : decode cX12_expression 31 = .ok (.getfield 171, 3) := by decide +kernel
theorem dX12_expression_34 : decode cX12_expression 34 = .ok (.iconst 1, 1) := by decide +kernel
theorem dX12_expression_35 : decode cX12_expression 35 = .ok (.isub, 1) := by decide +kernel
theorem dX12_expression_36 : decode cX12_expression 36 = .ok (.istore_n 2, 1) := by decide +kernel
theorem dX12_expression_37 : decode cX12_expression 37 = .ok (.iload 4, 2) := by decide +kernel
theorem dX12_expression_39 : decode cX12_expression 39 = .ok (.ifCond .ne 96, 3) := by decide +kernel
theorem dX12_expression_42 : decode cX12_expression 42 = .ok (.iload_n 2, 1) := by decide +kernel
theorem dX12_expression_43 : decode cX12_expression 43 = .ok (.iload_n 1, 1) := by decide +kernel
theorem dX12_expression_44 : decode cX12_expression 44 = .ok (.if_icmp .ne 20, 3) := by decide +kernel
theorem dX12_expression_47 : decode cX12_expression 47 = .ok (.aload_n 0, 1) := by decide +kernel
theorem dX12_expression_48 : decode cX12_expression 48 = .ok (.getfield 64, 3) := by decide +kernel
theorem dX12_expression_51 : decode cX12_expression 51 = .ok (.aload_n 0, 1) := by decide +kernel
theorem dX12_expression_52 : decode cX12_expression 52 = .ok (.getfield 52, 3) := by decide +kernel
theorem dX12_expression_55 : decode cX12_expression 55 = .ok (.iload_n 1, 1) := by decide +kernel
theorem dX12_expression_56 : decode cX12_expression 56 = .ok (.iaload, 1) := by decide +kernel
theorem dX12_expression_57 : decode cX12_expression 57 = .ok (.aload_n 0, 1) := by decide +kernel
theorem dX12_expression_58 : decode cX12_expression 58 = .ok (.getfield 171, 3) := by decide +kernel
theorem dX12_expression_61 : decode cX12_expression 61 = .ok (.iastore, 1) := by decide +kernel
theorem dX12_expression_62 : decode cX12_expression 62 = .ok (.iconst 1, 1) := by decide +kernel
theorem dX12_expression_63 : decode cX12_expression 63 = .ok (.ireturn, 1) := by decide +kernel
theorem dX12_expression_64 : decode cX12_expression 64 = .ok (.aload_n 0, 1) := by decide +kernel
theorem dX12_expression_65 : decode cX12_expression 65 = .ok (.getfield 61, 3) := by decide +kernel
theorem dX12_expression_68 : decode cX12_expression 68 = .ok (.iload_n 2, 1) := by decide +kernel
theorem dX12_expression_69 : decode cX12_expression 69 = .ok (.iaload, 1) := by decide +kernel
theorem dX12_expression_70 : decode cX12_expression 70 = .ok (.iconst 1, 1) := by decide +kernel
theorem dX12_expression_71 : decode cX12_expression 71 = .ok (.if_icmp .ne 43, 3) := by decide +kernel
theorem dX12_expression_74 : decode cX12_expression 74 = .ok (.aload_n 0, 1) := by decide +kernel
theorem dX12_expression_75 : decode cX12_expression 75 = .ok (.getfield 46, 3) := by decide +kernel
theorem dX12_expression_78 : decode cX12_expression 78 = .ok (.iload_n 2, 1) := by decide +kernel
theorem dX12_expression_79 : decode cX12_expression 79 = .ok (.aload_n 0, 1) := by decide +kernel
theorem dX12_expression_80 : decode cX12_expression 80 = .ok (.invokevirtual 160, 3) := by decide +kernel
theorem dX12_expression_83 : decode cX12_expression 83 = .ok (.invokestatic 190, 3) := by decide +kernel
theorem dX12_expression_86 : decode cX12_expression 86 = .ok (.iastore, 1) := by decide +kernel
theorem dX12_expression_87 : decode cX12_expression 87 = .ok (.aload_n 0, 1) := by decide +kernel
theorem dX12_expression_88 : decode cX12_expression 88 = .ok (.getfield 46, 3) := by decide +kernel
theorem dX12_expression_91 : decode cX12_expression 91 = .ok (.iload_n 2, 1) := by decide +kernel
theorem dX12_expression_92 : decode cX12_expression 92 = .ok (.iaload, 1) := by decide +kernel
theorem dX12_expression_93 : decode cX12_expression 93 = .ok (.ifCond .ne 5, 3) := by decide +kernel
theorem dX12_expression_96 : decode cX12_expression 96 = .ok (.iconst 0, 1) := by decide +kernel
theorem dX12_expression_97 : decode cX12_expression 97 = .ok (.ireturn, 1) := by decide +kernel
theorem dX12_expression_98 : decode cX12_expression 98 = .ok (.aload_n 0, 1) := by decide +kernel
theorem dX12_expression_99 : decode cX12_expression 99 = .ok (.dup, 1) := by decide +kernel
theorem dX12_expression_100 : decode cX12_expression 100 = .ok (.getfield 157, 3) := by decide +kernel
theorem dX12_expression_103 : decode cX12_expression 103 = .ok (.iconst 1, 1) := by decide +kernel
theorem dX12_expression_104 : decode cX12_expression 104 = .ok (.iadd, 1) := by decide +kernel
theorem dX12_expression_105 : decode cX12_expression 105 = .ok (.putfield 157, 3) := by decide +kernel
theorem dX12_expression_108 : decode cX12_expression 108 = .ok (.iconst 1, 1) := by decide +kernel
theorem dX12_expression_109 : decode cX12_expression 109 = .ok (.istore 4, 2) := by decide +kernel
theorem dX12_expression_111 : decode cX12_expression 111 = .ok (.goto (-74), 3) := by decide +kernel
theorem dX12_expression_114 : decode cX12_expression 114 = .ok (.aload_n 0, 1) := by decide +kernel
theorem dX12_expression_115 : decode cX12_expression 115 = .ok (.bipush 41, 2) := by decide +kernel
theorem dX12_expression_117 : decode cX12_expression 117 = .ok (.invokevirtual 194, 3) := by decide +kernel
theorem dX12_expression_120 : decode cX12_expression 120 = .ok (.ifCond .ne 5, 3) := by decide +kernel
theorem dX12_expression_123 : decode cX12_expression 123 = .ok (.iconst 0, 1) := by decide +kernel
theorem dX12_expression_124 : decode cX12_expression 124 = .ok (.ireturn, 1) := by decide +kernel
theorem dX12_expression_125 : decode cX12_expression 125 = .ok (.aload_n 0, 1) := by decide +kernel
theorem dX12_expression_126 : decode cX12_expression 126 = .ok (.getfield 49, 3) := by decide +kernel
theorem dX12_expression_129 : decode cX12_expression 129 = .ok (.iload_n 2, 1) := by decide +kernel
theorem dX12_expression_130 : decode cX12_expression 130 = .ok (.iaload, 1) := by decide +kernel
theorem dX12_expression_131 : decode cX12_expression 131 = .ok (.istore_n 2, 1) := by decide +kernel
theorem dX12_expression_132 : decode cX12_expression 132 = .ok (.goto (-95), 3) := by decide +kernel
theorem dX12_expression_135 : decode cX12_expression 135 = .ok (.iinc 3 1, 3) := by decide +kernel
theorem dX12_expression_138 : decode cX12_expression 138 = .ok (.goto (-134), 3) := by decide +kernel
theorem dX12_expression_141 : decode cX12_expression 141 = .ok (.iconst 0, 1) := by decide +kernel
theorem dX12_expression_142 : decode cX12_expression 142 = .ok (.ireturn, 1) := by decide +kernel
theorem dX12_read_0 : decode cX12_read 0 = .ok (.aload_n 0, 1) := by decide +kernel
theorem dX12_read_1 : decode cX12_read 1 = .ok (.iconst 0, 1) := by decide +kernel
theorem dX12_read_2 : decode cX12_read 2 = .ok (.putfield 157, 3) := by decide +kernel
theorem dX12_read_5 : decode cX12_read 5 = .ok (.aload_n 0, 1) := by decide +kernel
theorem dX12_read_6 : decode cX12_read 6 = .ok (.iconst 0, 1) := by decide +kernel
theorem dX12_read_7 : decode cX12_read 7 = .ok (.putfield 164, 3) := by decide +kernel
theorem dX12_read_10 : decode cX12_read 10 = .ok (.aload_n 0, 1) := by decide +kernel
theorem dX12_read_11 : decode cX12_read 11 = .ok (.iconst 0, 1) := by decide +kernel
theorem dX12_read_12 : decode cX12_read 12 = .ok (.putfield 171, 3) := by decide +kernel
theorem dX12_read_15 : decode cX12_read 15 = .ok (.aload_n 0, 1) := by decide +kernel
theorem dX12_read_16 : decode cX12_read 16 = .ok (.bipush 6, 2) := by decide +kernel
theorem dX12_read_18 : decode cX12_read 18 = .ok (.iconst (-1), 1) := by decide +kernel
theorem dX12_read_19 : decode cX12_read 19 = .ok (.invokevirtual 177, 3) := by decide +kernel
theorem dX12_read_22 : decode cX12_read 22 = .ok (.istore_n 1, 1) := by decide +kernel
theorem dX12_read_23 : decode cX12_read 23 = .ok (.aload_n 0, 1) := by decide +kernel
theorem dX12_read_24 : decode cX12_read 24 = .ok (.getfield 157, 3) := by decide +kernel
theorem dX12_read_27 : decode cX12_read 27 = .ok (.aload_n 0, 1) := by decide +kernel
theorem dX12_read_28 : decode cX12_read 28 = .ok (.getfield 154, 3) := by decide +kernel
theorem dX12_read_31 : decode cX12_read 31 = .ok (.if_icmp .ge 232, 3) := by decide +kernel
theorem dX12_read_34 : decode cX12_read 34 = .ok (.aload_n 0, 1) := by decide +kernel
theorem dX12_read_35 : decode cX12_read 35 = .ok (.invokevirtual 160, 3) := by decide +kernel
theorem dX12_read_38 : decode cX12_read 38 = .ok (.istore_n 2, 1) := by decide +kernel
theorem dX12_read_39 : decode cX12_read 39 = .ok (.iload_n 2, 1) := by decide +kernel
theorem dX12_read_40 : decode cX12_read 40 = .ok (.invokestatic 180, 3) := by decide +kernel
theorem dX12_read_43 : decode cX12_read 43 = .ok (.ifCond .eq 61, 3) := by decide +kernel
theorem dX12_read_46 : decode cX12_read 46 = .ok (.aload_n 0, 1) := by decide +kernel
theorem dX12_read_47 : decode cX12_read 47 = .ok (.iconst 3, 1) := by decide +kernel
theorem dX12_read_48 : decode cX12_read 48 = .ok (.iload_n 1, 1) := by decide +kernel
theorem dX12_read_49 : decode cX12_read 49 = .ok (.invokevirtual 177, 3) := by decide +kernel
theorem dX12_read_52 : decode cX12_read 52 = .ok (.istore_n 3, 1) := by decide +kernel
theorem dX12_read_53 : decode cX12_read 53 = .ok (.aload_n 0, 1) := by decide +kernel
theorem dX12_read_54 : decode cX12_read 54 = .ok (.getfield 46, 3) := by decide +kernel
theorem dX12_read_57 : decode cX12_read 57 = .ok (.iload_n 3, 1) := by decide +kernel
theorem dX12_read_58 : decode cX12_read 58 = .ok (.iload_n 2, 1) := by decide +kernel
theorem dX12_read_59 : decode cX12_read 59 = .ok (.bipush 97, 2) := by decide +kernel
theorem dX12_read_61 : decode cX12_read 61 = .ok (.isub, 1) := by decide +kernel
theorem dX12_read_62 : decode cX12_read 62 = .ok (.iastore, 1) := by decide +kernel
theorem dX12_read_63 : decode cX12_read 63 = .ok (.aload_n 0, 1) := by decide +kernel
theorem dX12_read_64 : decode cX12_read 64 = .ok (.dup, 1) := by decide +kernel
theorem dX12_read_65 : decode cX12_read 65 = .ok (.getfield 157, 3) := by decide +kernel
theorem dX12_read_68 : decode cX12_read 68 = .ok (.iconst 1, 1) := by decide +kernel
theorem dX12_read_69 : decode cX12_read 69 = .ok (.iadd, 1) := by decide +kernel
theorem dX12_read_70 : decode cX12_read 70 = .ok (.putfield 157, 3) := by decide +kernel
theorem dX12_read_73 : decode cX12_read 73 = .ok (.aload_n 0, 1) := by decide +kernel
theorem dX12_read_74 : decode cX12_read 74 = .ok (.bipush 61, 2) := by decide +kernel
theorem dX12_read_76 : decode cX12_read 76 = .ok (.invokevirtual 167, 3) := by decide +kernel
theorem dX12_read_79 : decode cX12_read 79 = .ok (.ifCond .eq 20, 3) := by decide +kernel
theorem dX12_read_82 : decode cX12_read 82 = .ok (.aload_n 0, 1) := by decide +kernel
theorem dX12_read_83 : decode cX12_read 83 = .ok (.iload_n 3, 1) := by decide +kernel
theorem dX12_read_84 : decode cX12_read 84 = .ok (.invokevirtual 197, 3) := by decide +kernel
theorem dX12_read_87 : decode cX12_read 87 = .ok (.ifCond .eq 12, 3) := by decide +kernel
theorem dX12_read_90 : decode cX12_read 90 = .ok (.aload_n 0, 1) := by decide +kernel
theorem dX12_read_91 : decode cX12_read 91 = .ok (.bipush 59, 2) := by decide +kernel
theorem dX12_read_93 : decode cX12_read 93 = .ok (.invokevirtual 167, 3) := by decide +kernel
theorem dX12_read_96 : decode cX12_read 96 = .ok (.ifCond .ne 5, 3) := by decide +kernel
theorem dX12_read_99 : decode cX12_read 99 = .ok (.iconst 0, 1) := by decide +kernel
theorem dX12_read_100 : decode cX12_read 100 = .ok (.ireturn, 1) := by decide +kernel
theorem dX12_read_101 : decode cX12_read 101 = .ok (.goto 159, 3) := by decide +kernel
theorem dX12_read_104 : decode cX12_read 104 = .ok (.iload_n 2, 1) := by decide +kernel
theorem dX12_read_105 : decode cX12_read 105 = .ok (.bipush 63, 2) := by decide +kernel
theorem dX12_read_107 : decode cX12_read 107 = .ok (.if_icmp .eq 9, 3) := by decide +kernel
theorem dX12_read_110 : decode cX12_read 110 = .ok (.iload_n 2, 1) := by decide +kernel
theorem dX12_read_111 : decode cX12_read 111 = .ok (.bipush 42, 2) := by decide +kernel
theorem dX12_read_113 : decode cX12_read 113 = .ok (.if_icmp .ne 60, 3) := by decide +kernel
theorem dX12_read_116 : decode cX12_read 116 = .ok (.aload_n 0, 1) := by decide +kernel
theorem dX12_read_117 : decode cX12_read 117 = .ok (.iload_n 2, 1) := by decide +kernel
theorem dX12_read_118 : decode cX12_read 118 = .ok (.bipush 63, 2) := by decide +kernel
theorem dX12_read_120 : decode cX12_read 120 = .ok (.if_icmp .ne 7, 3) := by decide +kernel
theorem dX12_read_123 : decode cX12_read 123 = .ok (.iconst 4, 1) := by decide +kernel
theorem dX12_read_124 : decode cX12_read 124 = .ok (.goto 4, 3) := by decide +kernel
theorem dX12_read_127 : decode cX12_read 127 = .ok (.iconst 5, 1) := by decide +kernel
theorem dX12_read_128 : decode cX12_read 128 = .ok (.iload_n 1, 1) := by decide +kernel
theorem dX12_read_129 : decode cX12_read 129 = .ok (.invokevirtual 177, 3) := by decide +kernel
theorem dX12_read_132 : decode cX12_read 132 = .ok (.istore_n 3, 1) := by decide +kernel
theorem dX12_read_133 : decode cX12_read 133 = .ok (.aload_n 0, 1) := by decide +kernel
theorem dX12_read_134 : decode cX12_read 134 = .ok (.dup, 1) := by decide +kernel
theorem dX12_read_135 : decode cX12_read 135 = .ok (.getfield 157, 3) := by decide +kernel
theorem dX12_read_138 : decode cX12_read 138 = .ok (.iconst 1, 1) := by decide +kernel
theorem dX12_read_139 : decode cX12_read 139 = .ok (.iadd, 1) := by decide +kernel
theorem dX12_read_140 : decode cX12_read 140 = .ok (.putfield 157, 3) := by decide +kernel
theorem dX12_read_143 : decode cX12_read 143 = .ok (.aload_n 0, 1) := by decide +kernel
theorem dX12_read_144 : decode cX12_read 144 = .ok (.iload_n 3, 1) := by decide +kernel
theorem dX12_read_145 : decode cX12_read 145 = .ok (.invokevirtual 197, 3) := by decide +kernel
theorem dX12_read_148 : decode cX12_read 148 = .ok (.ifCond .eq 12, 3) := by decide +kernel
theorem dX12_read_151 : decode cX12_read 151 = .ok (.aload_n 0, 1) := by decide +kernel
theorem dX12_read_152 : decode cX12_read 152 = .ok (.bipush 123, 2) := by decide +kernel
theorem dX12_read_154 : decode cX12_read 154 = .ok (.invokevirtual 174, 3) := by decide +kernel
theorem dX12_read_157 : decode cX12_read 157 = .ok (.ifCond .ne 5, 3) := by decide +kernel
theorem dX12_read_160 : decode cX12_read 160 = .ok (.iconst 0, 1) := by decide +kernel
theorem dX12_read_161 : decode cX12_read 161 = .ok (.ireturn, 1) := by decide +kernel
theorem dX12_read_162 : decode cX12_read 162 = .ok (.aload_n 0, 1) := by decide +kernel
theorem dX12_read_163 : decode cX12_read 163 = .ok (.bipush 6, 2) := by decide +kernel
theorem dX12_read_165 : decode cX12_read 165 = .ok (.iload_n 3, 1) := by decide +kernel
theorem dX12_read_166 : decode cX12_read 166 = .ok (.invokevirtual 177, 3) := by decide +kernel
theorem dX12_read_169 : decode cX12_read 169 = .ok (.istore_n 1, 1) := by decide +kernel
theorem dX12_read_170 : decode cX12_read 170 = .ok (.goto 90, 3) := by decide +kernel
theorem dX12_read_173 : decode cX12_read 173 = .ok (.iload_n 2, 1) := by decide +kernel
theorem dX12_read_174 : decode cX12_read 174 = .ok (.bipush 125, 2) := by decide +kernel
theorem dX12_read_176 : decode cX12_read 176 = .ok (.if_icmp .ne 82, 3) := by decide +kernel
theorem dX12_read_179 : decode cX12_read 179 = .ok (.iload_n 1, 1) := by decide +kernel
theorem dX12_read_180 : decode cX12_read 180 = .ok (.ifCond .eq 78, 3) := by decide +kernel
theorem dX12_read_183 : decode cX12_read 183 = .ok (.aload_n 0, 1) := by decide +kernel
theorem dX12_read_184 : decode cX12_read 184 = .ok (.bipush 125, 2) := by decide +kernel
theorem dX12_read_186 : decode cX12_read 186 = .ok (.invokevirtual 194, 3) := by decide +kernel
theorem dX12_read_189 : decode cX12_read 189 = .ok (.istore_n 3, 1) := by decide +kernel
theorem dX12_read_190 : decode cX12_read 190 = .ok (.aload_n 0, 1) := by decide +kernel
theorem dX12_read_191 : decode cX12_read 191 = .ok (.getfield 49, 3) := by decide +kernel
theorem dX12_read_194 : decode cX12_read 194 = .ok (.iload_n 1, 1) := by decide +kernel
theorem dX12_read_195 : decode cX12_read 195 = .ok (.iaload, 1) := by decide +kernel
theorem dX12_read_196 : decode cX12_read 196 = .ok (.istore 4, 2) := by decide +kernel
theorem dX12_read_198 : decode cX12_read 198 = .ok (.iload_n 3, 1) := by decide +kernel
theorem dX12_read_199 : decode cX12_read 199 = .ok (.ifCond .eq 48, 3) := by decide +kernel
theorem dX12_read_202 : decode cX12_read 202 = .ok (.aload_n 0, 1) := by decide +kernel
theorem dX12_read_203 : decode cX12_read 203 = .ok (.getfield 43, 3) := by decide +kernel
theorem dX12_read_206 : decode cX12_read 206 = .ok (.iload 4, 2) := by decide +kernel
theorem dX12_read_208 : decode cX12_read 208 = .ok (.iaload, 1) := by decide +kernel
theorem dX12_read_209 : decode cX12_read 209 = .ok (.iconst 4, 1) := by decide +kernel
theorem dX12_read_210 : decode cX12_read 210 = .ok (.if_icmp .ne 37, 3) := by decide +kernel
theorem dX12_read_213 : decode cX12_read 213 = .ok (.aload_n 0, 1) := by decide +kernel
theorem dX12_read_214 : decode cX12_read 214 = .ok (.getfield 61, 3) := by decide +kernel
theorem dX12_read_217 : decode cX12_read 217 = .ok (.iload 4, 2) := by decide +kernel
theorem dX12_read_219 : decode cX12_read 219 = .ok (.iaload, 1) := by decide +kernel
theorem dX12_read_220 : decode cX12_read 220 = .ok (.iconst 2, 1) := by decide +kernel
theorem dX12_read_221 : decode cX12_read 221 = .ok (.if_icmp .ne 26, 3) := by decide +kernel
theorem dX12_read_224 : decode cX12_read 224 = .ok (.aload_n 0, 1) := by decide +kernel
theorem dX12_read_225 : decode cX12_read 225 = .ok (.bipush 123, 2) := by decide +kernel
theorem dX12_read_227 : decode cX12_read 227 = .ok (.invokevirtual 174, 3) := by decide +kernel
theorem dX12_read_230 : decode cX12_read 230 = .ok (.ifCond .ne 5, 3) := by decide +kernel
theorem dX12_read_233 : decode cX12_read 233 = .ok (.iconst 0, 1) := by decide +kernel
theorem dX12_read_234 : decode cX12_read 234 = .ok (.ireturn, 1) := by decide +kernel
theorem dX12_read_235 : decode cX12_read 235 = .ok (.aload_n 0, 1) := by decide +kernel
theorem dX12_read_236 : decode cX12_read 236 = .ok (.bipush 6, 2) := by decide +kernel
theorem dX12_read_238 : decode cX12_read 238 = .ok (.iload 4, 2) := by decide +kernel
theorem dX12_read_240 : decode cX12_read 240 = .ok (.invokevirtual 177, 3) := by decide +kernel
theorem dX12_read_243 : decode cX12_read 243 = .ok (.istore_n 1, 1) := by decide +kernel
theorem dX12_read_244 : decode cX12_read 244 = .ok (.goto 11, 3) := by decide +kernel
theorem dX12_read_247 : decode cX12_read 247 = .ok (.aload_n 0, 1) := by decide +kernel
theorem dX12_read_248 : decode cX12_read 248 = .ok (.getfield 49, 3) := by decide +kernel
theorem dX12_read_251 : decode cX12_read 251 = .ok (.iload 4, 2) := by decide +kernel
theorem dX12_read_253 : decode cX12_read 253 = .ok (.iaload, 1) := by decide +kernel
theorem dX12_read_254 : decode cX12_read 254 = .ok (.istore_n 1, 1) := by decide +kernel
theorem dX12_read_255 : decode cX12_read 255 = .ok (.goto 5, 3) := by decide +kernel
theorem dX12_read_258 : decode cX12_read 258 = .ok (.iconst 0, 1) := by decide +kernel
theorem dX12_read_259 : decode cX12_read 259 = .ok (.ireturn, 1) := by decide +kernel
theorem dX12_read_260 : decode cX12_read 260 = .ok (.goto (-237), 3) := by decide +kernel
theorem dX12_read_263 : decode cX12_read 263 = .ok (.iload_n 1, 1) := by decide +kernel
theorem dX12_read_264 : decode cX12_read 264 = .ok (.ifCond .ne 7, 3) := by decide +kernel
theorem dX12_read_267 : decode cX12_read 267 = .ok (.iconst 1, 1) := by decide +kernel
theorem dX12_read_268 : decode cX12_read 268 = .ok (.goto 4, 3) := by decide +kernel
theorem dX12_read_271 : decode cX12_read 271 = .ok (.iconst 0, 1) := by decide +kernel
theorem dX12_read_272 : decode cX12_read 272 = .ok (.ireturn, 1) := by decide +kernel
theorem dX12_measure_0 : decode cX12_measure 0 = .ok (.aload_n 0, 1) := by decide +kernel
theorem dX12_measure_1 : decode cX12_measure 1 = .ok (.getfield 171, 3) := by decide +kernel
theorem dX12_measure_4 : decode cX12_measure 4 = .ok (.iconst 1, 1) := by decide +kernel
theorem dX12_measure_5 : decode cX12_measure 5 = .ok (.isub, 1) := by decide +kernel
theorem dX12_measure_6 : decode cX12_measure 6 = .ok (.istore_n 1, 1) := by decide +kernel
theorem dX12_measure_7 : decode cX12_measure 7 = .ok (.iload_n 1, 1) := by decide +kernel
theorem dX12_measure_8 : decode cX12_measure 8 = .ok (.ifCond .lt 97, 3) := by decide +kernel
theorem dX12_measure_11 : decode cX12_measure 11 = .ok (.aload_n 0, 1) := by decide +kernel
theorem dX12_measure_12 : decode cX12_measure 12 = .ok (.getfield 43, 3) := by decide +kernel
theorem dX12_measure_15 : decode cX12_measure 15 = .ok (.iload_n 1, 1) := by decide +kernel
theorem dX12_measure_16 : decode cX12_measure 16 = .ok (.iaload, 1) := by decide +kernel
theorem dX12_measure_17 : decode cX12_measure 17 = .ok (.iconst 2, 1) := by decide +kernel
theorem dX12_measure_18 : decode cX12_measure 18 = .ok (.if_icmp .lt 23, 3) := by decide +kernel
theorem dX12_measure_21 : decode cX12_measure 21 = .ok (.aload_n 0, 1) := by decide +kernel
theorem dX12_measure_22 : decode cX12_measure 22 = .ok (.getfield 43, 3) := by decide +kernel
theorem dX12_measure_25 : decode cX12_measure 25 = .ok (.iload_n 1, 1) := by decide +kernel
theorem dX12_measure_26 : decode cX12_measure 26 = .ok (.iaload, 1) := by decide +kernel
theorem dX12_measure_27 : decode cX12_measure 27 = .ok (.iconst 2, 1) := by decide +kernel
theorem dX12_measure_28 : decode cX12_measure 28 = .ok (.if_icmp .eq 13, 3) := by decide +kernel
theorem dX12_measure_31 : decode cX12_measure 31 = .ok (.aload_n 0, 1) := by decide +kernel
theorem dX12_measure_32 : decode cX12_measure 32 = .ok (.getfield 43, 3) := by decide +kernel
theorem dX12_measure_35 : decode cX12_measure 35 = .ok (.iload_n 1, 1) := by decide +kernel
theorem dX12_measure_36 : decode cX12_measure 36 = .ok (.iaload, 1) := by decide +kernel
theorem dX12_measure_37 : decode cX12_measure 37 = .ok (.iconst 3, 1) := by decide +kernel
theorem dX12_measure_38 : decode cX12_measure 38 = .ok (.if_icmp .ne 7, 3) := by decide +kernel
theorem dX12_measure_41 : decode cX12_measure 41 = .ok (.iconst 1, 1) := by decide +kernel
theorem dX12_measure_42 : decode cX12_measure 42 = .ok (.goto 19, 3) := by decide +kernel
theorem dX12_measure_45 : decode cX12_measure 45 = .ok (.aload_n 0, 1) := by decide +kernel
theorem dX12_measure_46 : decode cX12_measure 46 = .ok (.getfield 43, 3) := by decide +kernel
theorem dX12_measure_49 : decode cX12_measure 49 = .ok (.iload_n 1, 1) := by decide +kernel
theorem dX12_measure_50 : decode cX12_measure 50 = .ok (.iaload, 1) := by decide +kernel
theorem dX12_measure_51 : decode cX12_measure 51 = .ok (.bipush 6, 2) := by decide +kernel
theorem dX12_measure_53 : decode cX12_measure 53 = .ok (.if_icmp .ne 7, 3) := by decide +kernel
theorem dX12_measure_56 : decode cX12_measure 56 = .ok (.iconst 0, 1) := by decide +kernel
theorem dX12_measure_57 : decode cX12_measure 57 = .ok (.goto 4, 3) := by decide +kernel
theorem dX12_measure_60 : decode cX12_measure 60 = .ok (.iconst 2, 1) := by decide +kernel
theorem dX12_measure_61 : decode cX12_measure 61 = .ok (.istore_n 2, 1) := by decide +kernel
theorem dX12_measure_62 : decode cX12_measure 62 = .ok (.aload_n 0, 1) := by decide +kernel
theorem dX12_measure_63 : decode cX12_measure 63 = .ok (.getfield 52, 3) := by decide +kernel
theorem dX12_measure_66 : decode cX12_measure 66 = .ok (.iload_n 1, 1) := by decide +kernel
theorem dX12_measure_67 : decode cX12_measure 67 = .ok (.iaload, 1) := by decide +kernel
theorem dX12_measure_68 : decode cX12_measure 68 = .ok (.istore_n 3, 1) := by decide +kernel
theorem dX12_measure_69 : decode cX12_measure 69 = .ok (.iload_n 3, 1) := by decide +kernel
theorem dX12_measure_70 : decode cX12_measure 70 = .ok (.ifCond .lt 22, 3) := by decide +kernel
theorem dX12_measure_73 : decode cX12_measure 73 = .ok (.iload_n 2, 1) := by decide +kernel
theorem dX12_measure_74 : decode cX12_measure 74 = .ok (.aload_n 0, 1) := by decide +kernel
theorem dX12_measure_75 : decode cX12_measure 75 = .ok (.getfield 67, 3) := by decide +kernel
theorem dX12_measure_78 : decode cX12_measure 78 = .ok (.iload_n 3, 1) := by decide +kernel
theorem dX12_measure_79 : decode cX12_measure 79 = .ok (.iaload, 1) := by decide +kernel
theorem dX12_measure_80 : decode cX12_measure 80 = .ok (.iadd, 1) := by decide +kernel
theorem dX12_measure_81 : decode cX12_measure 81 = .ok (.istore_n 2, 1) := by decide +kernel
theorem dX12_measure_82 : decode cX12_measure 82 = .ok (.aload_n 0, 1) := by decide +kernel
theorem dX12_measure_83 : decode cX12_measure 83 = .ok (.getfield 58, 3) := by decide +kernel
theorem dX12_measure_86 : decode cX12_measure 86 = .ok (.iload_n 3, 1) := by decide +kernel
theorem dX12_measure_87 : decode cX12_measure 87 = .ok (.iaload, 1) := by decide +kernel
theorem dX12_measure_88 : decode cX12_measure 88 = .ok (.istore_n 3, 1) := by decide +kernel
theorem dX12_measure_89 : decode cX12_measure 89 = .ok (.goto (-20), 3) := by decide +kernel
theorem dX12_measure_92 : decode cX12_measure 92 = .ok (.aload_n 0, 1) := by decide +kernel
theorem dX12_measure_93 : decode cX12_measure 93 = .ok (.getfield 67, 3) := by decide +kernel
theorem dX12_measure_96 : decode cX12_measure 96 = .ok (.iload_n 1, 1) := by decide +kernel
theorem dX12_measure_97 : decode cX12_measure 97 = .ok (.iload_n 2, 1) := by decide +kernel
theorem dX12_measure_98 : decode cX12_measure 98 = .ok (.iastore, 1) := by decide +kernel
theorem dX12_measure_99 : decode cX12_measure 99 = .ok (.iinc 1 (-1), 3) := by decide +kernel
theorem dX12_measure_102 : decode cX12_measure 102 = .ok (.goto (-95), 3) := by decide +kernel
theorem dX12_measure_105 : decode cX12_measure 105 = .ok (.return_, 1) := by decide +kernel
theorem dX12_say_0 : decode cX12_say 0 = .ok (.aload_n 0, 1) := by decide +kernel
theorem dX12_say_1 : decode cX12_say 1 = .ok (.getfield 85, 3) := by decide +kernel
theorem dX12_say_4 : decode cX12_say 4 = .ok (.iload_n 1, 1) := by decide +kernel
theorem dX12_say_5 : decode cX12_say 5 = .ok (.iload_n 2, 1) := by decide +kernel
theorem dX12_say_6 : decode cX12_say 6 = .ok (.iastore, 1) := by decide +kernel
theorem dX12_say_7 : decode cX12_say 7 = .ok (.aload_n 0, 1) := by decide +kernel
theorem dX12_say_8 : decode cX12_say 8 = .ok (.getfield 88, 3) := by decide +kernel
theorem dX12_say_11 : decode cX12_say 11 = .ok (.iload_n 1, 1) := by decide +kernel
theorem dX12_say_12 : decode cX12_say 12 = .ok (.iload_n 3, 1) := by decide +kernel
theorem dX12_say_13 : decode cX12_say 13 = .ok (.iastore, 1) := by decide +kernel
theorem dX12_say_14 : decode cX12_say 14 = .ok (.return_, 1) := by decide +kernel
theorem dX12_lay_0 : decode cX12_lay 0 = .ok (.aload_n 0, 1) := by decide +kernel
theorem dX12_lay_1 : decode cX12_lay 1 = .ok (.getfield 70, 3) := by decide +kernel
theorem dX12_lay_4 : decode cX12_lay 4 = .ok (.iconst 0, 1) := by decide +kernel
theorem dX12_lay_5 : decode cX12_lay 5 = .ok (.iconst 0, 1) := by decide +kernel
theorem dX12_lay_6 : decode cX12_lay 6 = .ok (.iastore, 1) := by decide +kernel
theorem dX12_lay_7 : decode cX12_lay 7 = .ok (.aload_n 0, 1) := by decide +kernel
theorem dX12_lay_8 : decode cX12_lay 8 = .ok (.aload_n 0, 1) := by decide +kernel
theorem dX12_lay_9 : decode cX12_lay 9 = .ok (.getfield 67, 3) := by decide +kernel
theorem dX12_lay_12 : decode cX12_lay 12 = .ok (.iconst 0, 1) := by decide +kernel
theorem dX12_lay_13 : decode cX12_lay 13 = .ok (.iaload, 1) := by decide +kernel
theorem dX12_lay_14 : decode cX12_lay 14 = .ok (.iconst 1, 1) := by decide +kernel
theorem dX12_lay_15 : decode cX12_lay 15 = .ok (.iadd, 1) := by decide +kernel
theorem dX12_lay_16 : decode cX12_lay 16 = .ok (.putfield 200, 3) := by decide +kernel
theorem dX12_lay_19 : decode cX12_lay 19 = .ok (.aload_n 0, 1) := by decide +kernel
theorem dX12_lay_20 : decode cX12_lay 20 = .ok (.aload_n 0, 1) := by decide +kernel
theorem dX12_lay_21 : decode cX12_lay 21 = .ok (.getfield 67, 3) := by decide +kernel
theorem dX12_lay_24 : decode cX12_lay 24 = .ok (.iconst 0, 1) := by decide +kernel
theorem dX12_lay_25 : decode cX12_lay 25 = .ok (.iaload, 1) := by decide +kernel
theorem dX12_lay_26 : decode cX12_lay 26 = .ok (.bipush 9, 2) := by decide +kernel
theorem dX12_lay_28 : decode cX12_lay 28 = .ok (.iconst 0, 1) := by decide +kernel
theorem dX12_lay_29 : decode cX12_lay 29 = .ok (.invokevirtual 203, 3) := by decide +kernel
theorem dX12_lay_32 : decode cX12_lay 32 = .ok (.iconst 0, 1) := by decide +kernel
theorem dX12_lay_33 : decode cX12_lay 33 = .ok (.istore_n 1, 1) := by decide +kernel
theorem dX12_lay_34 : decode cX12_lay 34 = .ok (.iload_n 1, 1) := by decide +kernel
theorem dX12_lay_35 : decode cX12_lay 35 = .ok (.aload_n 0, 1) := by decide +kernel
theorem dX12_lay_36 : decode cX12_lay 36 = .ok (.getfield 171, 3) := by decide +kernel
theorem dX12_lay_39 : decode cX12_lay 39 = .ok (.if_icmp .ge 341, 3) := by decide +kernel
theorem dX12_lay_42 : decode cX12_lay 42 = .ok (.aload_n 0, 1) := by decide +kernel
theorem dX12_lay_43 : decode cX12_lay 43 = .ok (.getfield 70, 3) := by decide +kernel
theorem dX12_lay_46 : decode cX12_lay 46 = .ok (.iload_n 1, 1) := by decide +kernel
theorem dX12_lay_47 : decode cX12_lay 47 = .ok (.iaload, 1) := by decide +kernel
theorem dX12_lay_48 : decode cX12_lay 48 = .ok (.istore_n 2, 1) := by decide +kernel
theorem dX12_lay_49 : decode cX12_lay 49 = .ok (.iconst 0, 1) := by decide +kernel
theorem dX12_lay_50 : decode cX12_lay 50 = .ok (.istore_n 3, 1) := by decide +kernel
theorem dX12_lay_51 : decode cX12_lay 51 = .ok (.aload_n 0, 1) := by decide +kernel
theorem dX12_lay_52 : decode cX12_lay 52 = .ok (.getfield 52, 3) := by decide +kernel
theorem dX12_lay_55 : decode cX12_lay 55 = .ok (.iload_n 1, 1) := by decide +kernel
theorem dX12_lay_56 : decode cX12_lay 56 = .ok (.iaload, 1) := by decide +kernel
theorem dX12_lay_57 : decode cX12_lay 57 = .ok (.istore 4, 2) := by decide +kernel
theorem dX12_lay_59 : decode cX12_lay 59 = .ok (.iload 4, 2) := by decide +kernel
theorem dX12_lay_61 : decode cX12_lay 61 = .ok (.ifCond .lt 73, 3) := by decide +kernel
theorem dX12_lay_64 : decode cX12_lay 64 = .ok (.aload_n 0, 1) := by decide +kernel
theorem dX12_lay_65 : decode cX12_lay 65 = .ok (.getfield 70, 3) := by decide +kernel
theorem dX12_lay_68 : decode cX12_lay 68 = .ok (.iload 4, 2) := by decide +kernel
theorem dX12_lay_70 : decode cX12_lay 70 = .ok (.iload_n 2, 1) := by decide +kernel
theorem dX12_lay_71 : decode cX12_lay 71 = .ok (.iastore, 1) := by decide +kernel
theorem dX12_lay_72 : decode cX12_lay 72 = .ok (.iload_n 2, 1) := by decide +kernel
theorem dX12_lay_73 : decode cX12_lay 73 = .ok (.aload_n 0, 1) := by decide +kernel
theorem dX12_lay_74 : decode cX12_lay 74 = .ok (.getfield 67, 3) := by decide +kernel
theorem dX12_lay_77 : decode cX12_lay 77 = .ok (.iload 4, 2) := by decide +kernel
theorem dX12_lay_79 : decode cX12_lay 79 = .ok (.iaload, 1) := by decide +kernel
theorem dX12_lay_80 : decode cX12_lay 80 = .ok (.iadd, 1) := by decide +kernel
theorem dX12_lay_81 : decode cX12_lay 81 = .ok (.istore_n 2, 1) := by decide +kernel
theorem dX12_lay_82 : decode cX12_lay 82 = .ok (.aload_n 0, 1) := by decide +kernel
theorem dX12_lay_83 : decode cX12_lay 83 = .ok (.getfield 43, 3) := by decide +kernel
theorem dX12_lay_86 : decode cX12_lay 86 = .ok (.iload_n 1, 1) := by decide +kernel
theorem dX12_lay_87 : decode cX12_lay 87 = .ok (.iaload, 1) := by decide +kernel
theorem dX12_lay_88 : decode cX12_lay 88 = .ok (.iconst 4, 1) := by decide +kernel
theorem dX12_lay_89 : decode cX12_lay 89 = .ok (.if_icmp .ne 8, 3) := by decide +kernel
theorem dX12_lay_92 : decode cX12_lay 92 = .ok (.iload_n 3, 1) := by decide +kernel
theorem dX12_lay_93 : decode cX12_lay 93 = .ok (.iconst 2, 1) := by decide +kernel
theorem dX12_lay_94 : decode cX12_lay 94 = .ok (.if_icmp .lt 17, 3) := by decide +kernel
theorem dX12_lay_97 : decode cX12_lay 97 = .ok (.aload_n 0, 1) := by decide +kernel
theorem dX12_lay_98 : decode cX12_lay 98 = .ok (.getfield 43, 3) := by decide +kernel
theorem dX12_lay_101 : decode cX12_lay 101 = .ok (.iload_n 1, 1) := by decide +kernel
theorem dX12_lay_102 : decode cX12_lay 102 = .ok (.iaload, 1) := by decide +kernel
theorem dX12_lay_103 : decode cX12_lay 103 = .ok (.iconst 5, 1) := by decide +kernel
theorem dX12_lay_104 : decode cX12_lay 104 = .ok (.if_icmp .ne 13, 3) := by decide +kernel
theorem dX12_lay_107 : decode cX12_lay 107 = .ok (.iload_n 3, 1) := by decide +kernel
theorem dX12_lay_108 : decode cX12_lay 108 = .ok (.ifCond .ne 9, 3) := by decide +kernel
theorem dX12_lay_111 : decode cX12_lay 111 = .ok (.iload_n 2, 1) := by decide +kernel
theorem dX12_lay_112 : decode cX12_lay 112 = .ok (.iconst 1, 1) := by decide +kernel
theorem dX12_lay_113 : decode cX12_lay 113 = .ok (.iadd, 1) := by decide +kernel
theorem dX12_lay_114 : decode cX12_lay 114 = .ok (.goto 4, 3) := by decide +kernel
theorem dX12_lay_117 : decode cX12_lay 117 = .ok (.iload_n 2, 1) := by decide +kernel
theorem dX12_lay_118 : decode cX12_lay 118 = .ok (.istore_n 2, 1) := by decide +kernel
theorem dX12_lay_119 : decode cX12_lay 119 = .ok (.iinc 3 1, 3) := by decide +kernel
theorem dX12_lay_122 : decode cX12_lay 122 = .ok (.aload_n 0, 1) := by decide +kernel
theorem dX12_lay_123 : decode cX12_lay 123 = .ok (.getfield 58, 3) := by decide +kernel
theorem dX12_lay_126 : decode cX12_lay 126 = .ok (.iload 4, 2) := by decide +kernel
theorem dX12_lay_128 : decode cX12_lay 128 = .ok (.iaload, 1) := by decide +kernel
theorem dX12_lay_129 : decode cX12_lay 129 = .ok (.istore 4, 2) := by decide +kernel
theorem dX12_lay_131 : decode cX12_lay 131 = .ok (.goto (-72), 3) := by decide +kernel
theorem dX12_lay_134 : decode cX12_lay 134 = .ok (.aload_n 0, 1) := by decide +kernel
theorem dX12_lay_135 : decode cX12_lay 135 = .ok (.getfield 70, 3) := by decide +kernel
theorem dX12_lay_138 : decode cX12_lay 138 = .ok (.iload_n 1, 1) := by decide +kernel
theorem dX12_lay_139 : decode cX12_lay 139 = .ok (.iaload, 1) := by decide +kernel
theorem dX12_lay_140 : decode cX12_lay 140 = .ok (.aload_n 0, 1) := by decide +kernel
theorem dX12_lay_141 : decode cX12_lay 141 = .ok (.getfield 67, 3) := by decide +kernel
theorem dX12_lay_144 : decode cX12_lay 144 = .ok (.iload_n 1, 1) := by decide +kernel
theorem dX12_lay_145 : decode cX12_lay 145 = .ok (.iaload, 1) := by decide +kernel
theorem dX12_lay_146 : decode cX12_lay 146 = .ok (.iadd, 1) := by decide +kernel
theorem dX12_lay_147 : decode cX12_lay 147 = .ok (.istore 4, 2) := by decide +kernel
theorem dX12_lay_149 : decode cX12_lay 149 = .ok (.aload_n 0, 1) := by decide +kernel
theorem dX12_lay_150 : decode cX12_lay 150 = .ok (.getfield 52, 3) := by decide +kernel
theorem dX12_lay_153 : decode cX12_lay 153 = .ok (.iload_n 1, 1) := by decide +kernel
theorem dX12_lay_154 : decode cX12_lay 154 = .ok (.iaload, 1) := by decide +kernel
theorem dX12_lay_155 : decode cX12_lay 155 = .ok (.istore 5, 2) := by decide +kernel
theorem dX12_lay_157 : decode cX12_lay 157 = .ok (.aload_n 0, 1) := by decide +kernel
theorem dX12_lay_158 : decode cX12_lay 158 = .ok (.getfield 43, 3) := by decide +kernel
theorem dX12_lay_161 : decode cX12_lay 161 = .ok (.iload_n 1, 1) := by decide +kernel
theorem dX12_lay_162 : decode cX12_lay 162 = .ok (.iaload, 1) := by decide +kernel
theorem dX12_lay_163 : decode cX12_lay 163 = .ok (.ifCond .eq 13, 3) := by decide +kernel
theorem dX12_lay_166 : decode cX12_lay 166 = .ok (.aload_n 0, 1) := by decide +kernel
theorem dX12_lay_167 : decode cX12_lay 167 = .ok (.getfield 43, 3) := by decide +kernel
theorem dX12_lay_170 : decode cX12_lay 170 = .ok (.iload_n 1, 1) := by decide +kernel
theorem dX12_lay_171 : decode cX12_lay 171 = .ok (.iaload, 1) := by decide +kernel
theorem dX12_lay_172 : decode cX12_lay 172 = .ok (.iconst 1, 1) := by decide +kernel
theorem dX12_lay_173 : decode cX12_lay 173 = .ok (.if_icmp .ne 26, 3) := by decide +kernel
theorem dX12_lay_176 : decode cX12_lay 176 = .ok (.aload_n 0, 1) := by decide +kernel
theorem dX12_lay_177 : decode cX12_lay 177 = .ok (.iload 4, 2) := by decide +kernel
theorem dX12_lay_179 : decode cX12_lay 179 = .ok (.iconst 1, 1) := by decide +kernel
theorem dX12_lay_180 : decode cX12_lay 180 = .ok (.isub, 1) := by decide +kernel
theorem dX12_lay_181 : decode cX12_lay 181 = .ok (.aload_n 0, 1) := by decide +kernel
theorem dX12_lay_182 : decode cX12_lay 182 = .ok (.getfield 43, 3) := by decide +kernel
theorem dX12_lay_185 : decode cX12_lay 185 = .ok (.iload_n 1, 1) := by decide +kernel
theorem dX12_lay_186 : decode cX12_lay 186 = .ok (.iaload, 1) := by decide +kernel
theorem dX12_lay_187 : decode cX12_lay 187 = .ok (.aload_n 0, 1) := by decide +kernel
theorem dX12_lay_188 : decode cX12_lay 188 = .ok (.getfield 46, 3) := by decide +kernel
theorem dX12_lay_191 : decode cX12_lay 191 = .ok (.iload_n 1, 1) := by decide +kernel
theorem dX12_lay_192 : decode cX12_lay 192 = .ok (.iaload, 1) := by decide +kernel
theorem dX12_lay_193 : decode cX12_lay 193 = .ok (.invokevirtual 203, 3) := by decide +kernel
theorem dX12_lay_196 : decode cX12_lay 196 = .ok (.goto 178, 3) := by decide +kernel
theorem dX12_lay_199 : decode cX12_lay 199 = .ok (.aload_n 0, 1) := by decide +kernel
theorem dX12_lay_200 : decode cX12_lay 200 = .ok (.getfield 43, 3) := by decide +kernel
theorem dX12_lay_203 : decode cX12_lay 203 = .ok (.iload_n 1, 1) := by decide +kernel
theorem dX12_lay_204 : decode cX12_lay 204 = .ok (.iaload, 1) := by decide +kernel
theorem dX12_lay_205 : decode cX12_lay 205 = .ok (.iconst 2, 1) := by decide +kernel
theorem dX12_lay_206 : decode cX12_lay 206 = .ok (.if_icmp .ne 21, 3) := by decide +kernel
theorem dX12_lay_209 : decode cX12_lay 209 = .ok (.aload_n 0, 1) := by decide +kernel
theorem dX12_lay_210 : decode cX12_lay 210 = .ok (.iload 4, 2) := by decide +kernel
theorem dX12_lay_212 : decode cX12_lay 212 = .ok (.iconst 1, 1) := by decide +kernel
theorem dX12_lay_213 : decode cX12_lay 213 = .ok (.isub, 1) := by decide +kernel
theorem dX12_lay_214 : decode cX12_lay 214 = .ok (.aload_n 0, 1) := by decide +kernel
theorem dX12_lay_215 : decode cX12_lay 215 = .ok (.getfield 46, 3) := by decide +kernel
theorem dX12_lay_218 : decode cX12_lay 218 = .ok (.iload_n 1, 1) := by decide +kernel
theorem dX12_lay_219 : decode cX12_lay 219 = .ok (.iaload, 1) := by decide +kernel
theorem dX12_lay_220 : decode cX12_lay 220 = .ok (.iconst 0, 1) := by decide +kernel
theorem dX12_lay_221 : decode cX12_lay 221 = .ok (.invokevirtual 203, 3) := by decide +kernel
theorem dX12_lay_224 : decode cX12_lay 224 = .ok (.goto 150, 3) := by decide +kernel
theorem dX12_lay_227 : decode cX12_lay 227 = .ok (.aload_n 0, 1) := by decide +kernel
theorem dX12_lay_228 : decode cX12_lay 228 = .ok (.getfield 43, 3) := by decide +kernel
theorem dX12_lay_231 : decode cX12_lay 231 = .ok (.iload_n 1, 1) := by decide +kernel
theorem dX12_lay_232 : decode cX12_lay 232 = .ok (.iaload, 1) := by decide +kernel
theorem dX12_lay_233 : decode cX12_lay 233 = .ok (.iconst 3, 1) := by decide +kernel
theorem dX12_lay_234 : decode cX12_lay 234 = .ok (.if_icmp .ne 21, 3) := by decide +kernel
theorem dX12_lay_237 : decode cX12_lay 237 = .ok (.aload_n 0, 1) := by decide +kernel
theorem dX12_lay_238 : decode cX12_lay 238 = .ok (.iload 4, 2) := by decide +kernel
theorem dX12_lay_240 : decode cX12_lay 240 = .ok (.iconst 1, 1) := by decide +kernel
theorem dX12_lay_241 : decode cX12_lay 241 = .ok (.isub, 1) := by decide +kernel
theorem dX12_lay_242 : decode cX12_lay 242 = .ok (.iconst 2, 1) := by decide +kernel
theorem dX12_lay_243 : decode cX12_lay 243 = .ok (.aload_n 0, 1) := by decide +kernel
theorem dX12_lay_244 : decode cX12_lay 244 = .ok (.getfield 46, 3) := by decide +kernel
theorem dX12_lay_247 : decode cX12_lay 247 = .ok (.iload_n 1, 1) := by decide +kernel
theorem dX12_lay_248 : decode cX12_lay 248 = .ok (.iaload, 1) := by decide +kernel
theorem dX12_lay_249 : decode cX12_lay 249 = .ok (.invokevirtual 203, 3) := by decide +kernel
theorem dX12_lay_252 : decode cX12_lay 252 = .ok (.goto 122, 3) := by decide +kernel
theorem dX12_lay_255 : decode cX12_lay 255 = .ok (.aload_n 0, 1) := by decide +kernel
theorem dX12_lay_256 : decode cX12_lay 256 = .ok (.getfield 43, 3) := by decide +kernel
theorem dX12_lay_259 : decode cX12_lay 259 = .ok (.iload_n 1, 1) := by decide +kernel
theorem dX12_lay_260 : decode cX12_lay 260 = .ok (.iaload, 1) := by decide +kernel
theorem dX12_lay_261 : decode cX12_lay 261 = .ok (.iconst 4, 1) := by decide +kernel
theorem dX12_lay_262 : decode cX12_lay 262 = .ok (.if_icmp .ne 64, 3) := by decide +kernel
theorem dX12_lay_265 : decode cX12_lay 265 = .ok (.aload_n 0, 1) := by decide +kernel
theorem dX12_lay_266 : decode cX12_lay 266 = .ok (.getfield 58, 3) := by decide +kernel
theorem dX12_lay_269 : decode cX12_lay 269 = .ok (.aload_n 0, 1) := by decide +kernel
theorem dX12_lay_270 : decode cX12_lay 270 = .ok (.getfield 58, 3) := by decide +kernel
theorem dX12_lay_273 : decode cX12_lay 273 = .ok (.iload 5, 2) := by decide +kernel
theorem dX12_lay_275 : decode cX12_lay 275 = .ok (.iaload, 1) := by decide +kernel
theorem dX12_lay_276 : decode cX12_lay 276 = .ok (.iaload, 1) := by decide +kernel
theorem dX12_lay_277 : decode cX12_lay 277 = .ok (.istore 6, 2) := by decide +kernel
theorem dX12_lay_279 : decode cX12_lay 279 = .ok (.aload_n 0, 1) := by decide +kernel
theorem dX12_lay_280 : decode cX12_lay 280 = .ok (.aload_n 0, 1) := by decide +kernel
theorem dX12_lay_281 : decode cX12_lay 281 = .ok (.getfield 70, 3) := by decide +kernel
theorem dX12_lay_284 : decode cX12_lay 284 = .ok (.aload_n 0, 1) := by decide +kernel
theorem dX12_lay_285 : decode cX12_lay 285 = .ok (.getfield 58, 3) := by decide +kernel
theorem dX12_lay_288 : decode cX12_lay 288 = .ok (.iload 5, 2) := by decide +kernel
theorem dX12_lay_290 : decode cX12_lay 290 = .ok (.iaload, 1) := by decide +kernel
theorem dX12_lay_291 : decode cX12_lay 291 = .ok (.iaload, 1) := by decide +kernel
theorem dX12_lay_292 : decode cX12_lay 292 = .ok (.iconst 1, 1) := by decide +kernel
theorem dX12_lay_293 : decode cX12_lay 293 = .ok (.isub, 1) := by decide +kernel
theorem dX12_lay_294 : decode cX12_lay 294 = .ok (.bipush 7, 2) := by decide +kernel
theorem dX12_lay_296 : decode cX12_lay 296 = .ok (.aload_n 0, 1) := by decide +kernel
theorem dX12_lay_297 : decode cX12_lay 297 = .ok (.getfield 70, 3) := by decide +kernel
theorem dX12_lay_300 : decode cX12_lay 300 = .ok (.iload 6, 2) := by decide +kernel
theorem dX12_lay_302 : decode cX12_lay 302 = .ok (.iaload, 1) := by decide +kernel
theorem dX12_lay_303 : decode cX12_lay 303 = .ok (.invokevirtual 203, 3) := by decide +kernel
theorem dX12_lay_306 : decode cX12_lay 306 = .ok (.aload_n 0, 1) := by decide +kernel
theorem dX12_lay_307 : decode cX12_lay 307 = .ok (.aload_n 0, 1) := by decide +kernel
theorem dX12_lay_308 : decode cX12_lay 308 = .ok (.getfield 70, 3) := by decide +kernel
theorem dX12_lay_311 : decode cX12_lay 311 = .ok (.iload 6, 2) := by decide +kernel
theorem dX12_lay_313 : decode cX12_lay 313 = .ok (.iaload, 1) := by decide +kernel
theorem dX12_lay_314 : decode cX12_lay 314 = .ok (.iconst 1, 1) := by decide +kernel
theorem dX12_lay_315 : decode cX12_lay 315 = .ok (.isub, 1) := by decide +kernel
theorem dX12_lay_316 : decode cX12_lay 316 = .ok (.bipush 8, 2) := by decide +kernel
theorem dX12_lay_318 : decode cX12_lay 318 = .ok (.iload 4, 2) := by decide +kernel
theorem dX12_lay_320 : decode cX12_lay 320 = .ok (.invokevirtual 203, 3) := by decide +kernel
theorem dX12_lay_323 : decode cX12_lay 323 = .ok (.goto 51, 3) := by decide +kernel
theorem dX12_lay_326 : decode cX12_lay 326 = .ok (.aload_n 0, 1) := by decide +kernel
theorem dX12_lay_327 : decode cX12_lay 327 = .ok (.getfield 43, 3) := by decide +kernel
theorem dX12_lay_330 : decode cX12_lay 330 = .ok (.iload_n 1, 1) := by decide +kernel
theorem dX12_lay_331 : decode cX12_lay 331 = .ok (.iaload, 1) := by decide +kernel
theorem dX12_lay_332 : decode cX12_lay 332 = .ok (.iconst 5, 1) := by decide +kernel
theorem dX12_lay_333 : decode cX12_lay 333 = .ok (.if_icmp .ne 41, 3) := by decide +kernel
theorem dX12_lay_336 : decode cX12_lay 336 = .ok (.aload_n 0, 1) := by decide +kernel
theorem dX12_lay_337 : decode cX12_lay 337 = .ok (.aload_n 0, 1) := by decide +kernel
theorem dX12_lay_338 : decode cX12_lay 338 = .ok (.getfield 70, 3) := by decide +kernel
theorem dX12_lay_341 : decode cX12_lay 341 = .ok (.aload_n 0, 1) := by decide +kernel
theorem dX12_lay_342 : decode cX12_lay 342 = .ok (.getfield 58, 3) := by decide +kernel
theorem dX12_lay_345 : decode cX12_lay 345 = .ok (.iload 5, 2) := by decide +kernel
theorem dX12_lay_347 : decode cX12_lay 347 = .ok (.iaload, 1) := by decide +kernel
theorem dX12_lay_348 : decode cX12_lay 348 = .ok (.iaload, 1) := by decide +kernel
theorem dX12_lay_349 : decode cX12_lay 349 = .ok (.iconst 1, 1) := by decide +kernel
theorem dX12_lay_350 : decode cX12_lay 350 = .ok (.isub, 1) := by decide +kernel
theorem dX12_lay_351 : decode cX12_lay 351 = .ok (.bipush 7, 2) := by decide +kernel
theorem dX12_lay_353 : decode cX12_lay 353 = .ok (.iload 4, 2) := by decide +kernel
theorem dX12_lay_355 : decode cX12_lay 355 = .ok (.invokevirtual 203, 3) := by decide +kernel
theorem dX12_lay_358 : decode cX12_lay 358 = .ok (.aload_n 0, 1) := by decide +kernel
theorem dX12_lay_359 : decode cX12_lay 359 = .ok (.iload 4, 2) := by decide +kernel
theorem dX12_lay_361 : decode cX12_lay 361 = .ok (.iconst 1, 1) := by decide +kernel
theorem dX12_lay_362 : decode cX12_lay 362 = .ok (.isub, 1) := by decide +kernel
theorem dX12_lay_363 : decode cX12_lay 363 = .ok (.bipush 8, 2) := by decide +kernel
theorem dX12_lay_365 : decode cX12_lay 365 = .ok (.aload_n 0, 1) := by decide +kernel
theorem dX12_lay_366 : decode cX12_lay 366 = .ok (.getfield 70, 3) := by decide +kernel
theorem dX12_lay_369 : decode cX12_lay 369 = .ok (.iload_n 1, 1) := by decide +kernel
theorem dX12_lay_370 : decode cX12_lay 370 = .ok (.iaload, 1) := by decide +kernel
theorem dX12_lay_371 : decode cX12_lay 371 = .ok (.invokevirtual 203, 3) := by decide +kernel
theorem dX12_lay_374 : decode cX12_lay 374 = .ok (.iinc 1 1, 3) := by decide +kernel
theorem dX12_lay_377 : decode cX12_lay 377 = .ok (.goto (-343), 3) := by decide +kernel
theorem dX12_lay_380 : decode cX12_lay 380 = .ok (.return_, 1) := by decide +kernel
theorem dX12_labelOf_0 : decode cX12_labelOf 0 = .ok (.aload_n 0, 1) := by decide +kernel
theorem dX12_labelOf_1 : decode cX12_labelOf 1 = .ok (.getfield 52, 3) := by decide +kernel
theorem dX12_labelOf_4 : decode cX12_labelOf 4 = .ok (.iload_n 1, 1) := by decide +kernel
theorem dX12_labelOf_5 : decode cX12_labelOf 5 = .ok (.iaload, 1) := by decide +kernel
theorem dX12_labelOf_6 : decode cX12_labelOf 6 = .ok (.istore_n 2, 1) := by decide +kernel
theorem dX12_labelOf_7 : decode cX12_labelOf 7 = .ok (.aload_n 0, 1) := by decide +kernel
theorem dX12_labelOf_8 : decode cX12_labelOf 8 = .ok (.getfield 142, 3) := by decide +kernel
theorem dX12_labelOf_11 : decode cX12_labelOf 11 = .ok (.istore_n 3, 1) := by decide +kernel
theorem dX12_labelOf_12 : decode cX12_labelOf 12 = .ok (.iload_n 2, 1) := by decide +kernel
theorem dX12_labelOf_13 : decode cX12_labelOf 13 = .ok (.istore 4, 2) := by decide +kernel
theorem dX12_labelOf_15 : decode cX12_labelOf 15 = .ok (.iload 4, 2) := by decide +kernel
theorem dX12_labelOf_17 : decode cX12_labelOf 17 = .ok (.aload_n 0, 1) := by decide +kernel
theorem dX12_labelOf_18 : decode cX12_labelOf 18 = .ok (.getfield 64, 3) := by decide +kernel
theorem dX12_labelOf_21 : decode cX12_labelOf 21 = .ok (.iload_n 2, 1) := by decide +kernel
theorem dX12_labelOf_22 : decode cX12_labelOf 22 = .ok (.iaload, 1) := by decide +kernel
theorem dX12_labelOf_23 : decode cX12_labelOf 23 = .ok (.if_icmp .ge 42, 3) := by decide +kernel

theorem dX12_leave_206 : decode cX12_leave 206 = .ok (.iload 8, 2) := by decide +kernel
theorem dX12_leave_208 : decode cX12_leave 208 = .ok (.iadd, 1) := by decide +kernel
theorem dX12_leave_209 : decode cX12_leave 209 = .ok (.aload_n 0, 1) := by decide +kernel
theorem dX12_leave_210 : decode cX12_leave 210 = .ok (.getfield 115, 3) := by decide +kernel
theorem dX12_leave_213 : decode cX12_leave 213 = .ok (.bipush 16, 2) := by decide +kernel
theorem dX12_leave_215 : decode cX12_leave 215 = .ok (.iload_n 1, 1) := by decide +kernel
theorem dX12_leave_216 : decode cX12_leave 216 = .ok (.imul, 1) := by decide +kernel
theorem dX12_leave_217 : decode cX12_leave 217 = .ok (.bipush 8, 2) := by decide +kernel
theorem dX12_leave_219 : decode cX12_leave 219 = .ok (.iadd, 1) := by decide +kernel
theorem dX12_leave_220 : decode cX12_leave 220 = .ok (.iload 8, 2) := by decide +kernel
theorem dX12_leave_222 : decode cX12_leave 222 = .ok (.iadd, 1) := by decide +kernel
theorem dX12_leave_223 : decode cX12_leave 223 = .ok (.iaload, 1) := by decide +kernel
theorem dX12_leave_224 : decode cX12_leave 224 = .ok (.invokevirtual 279, 3) := by decide +kernel
theorem dX12_leave_227 : decode cX12_leave 227 = .ok (.iinc 8 1, 3) := by decide +kernel
theorem dX12_leave_230 : decode cX12_leave 230 = .ok (.goto (-40), 3) := by decide +kernel
theorem dX12_leave_233 : decode cX12_leave 233 = .ok (.iload_n 2, 1) := by decide +kernel
theorem dX12_leave_234 : decode cX12_leave 234 = .ok (.invokestatic 263, 3) := by decide +kernel
theorem dX12_leave_237 : decode cX12_leave 237 = .ok (.iconst 1, 1) := by decide +kernel
theorem dX12_leave_238 : decode cX12_leave 238 = .ok (.if_icmp .ne 20, 3) := by decide +kernel
theorem dX12_leave_241 : decode cX12_leave 241 = .ok (.aload_n 0, 1) := by decide +kernel
theorem dX12_leave_242 : decode cX12_leave 242 = .ok (.bipush 16, 2) := by decide +kernel
theorem dX12_leave_244 : decode cX12_leave 244 = .ok (.iload 7, 2) := by decide +kernel
theorem dX12_leave_246 : decode cX12_leave 246 = .ok (.imul, 1) := by decide +kernel
theorem dX12_leave_247 : decode cX12_leave 247 = .ok (.bipush 8, 2) := by decide +kernel
theorem dX12_leave_249 : decode cX12_leave 249 = .ok (.iadd, 1) := by decide +kernel
theorem dX12_leave_250 : decode cX12_leave 250 = .ok (.iload 4, 2) := by decide +kernel
theorem dX12_leave_252 : decode cX12_leave 252 = .ok (.iadd, 1) := by decide +kernel
theorem dX12_leave_253 : decode cX12_leave 253 = .ok (.iload 5, 2) := by decide +kernel
theorem dX12_leave_255 : decode cX12_leave 255 = .ok (.invokevirtual 279, 3) := by decide +kernel
theorem dX12_leave_258 : decode cX12_leave 258 = .ok (.iinc 6 1, 3) := by decide +kernel
theorem dX12_leave_261 : decode cX12_leave 261 = .ok (.goto (-155), 3) := by decide +kernel
theorem dX12_leave_264 : decode cX12_leave 264 = .ok (.return_, 1) := by decide +kernel
theorem dX12_labelCode_0 : decode cX12_labelCode 0 = .ok (.iconst 0, 1) := by decide +kernel
theorem dX12_labelCode_1 : decode cX12_labelCode 1 = .ok (.istore_n 1, 1) := by decide +kernel
theorem dX12_labelCode_2 : decode cX12_labelCode 2 = .ok (.iload_n 1, 1) := by decide +kernel
theorem dX12_labelCode_3 : decode cX12_labelCode 3 = .ok (.bipush 16, 2) := by decide +kernel
theorem dX12_labelCode_5 : decode cX12_labelCode 5 = .ok (.aload_n 0, 1) := by decide +kernel
theorem dX12_labelCode_6 : decode cX12_labelCode 6 = .ok (.getfield 251, 3) := by decide +kernel
theorem dX12_labelCode_9 : decode cX12_labelCode 9 = .ok (.imul, 1) := by decide +kernel
theorem dX12_labelCode_10 : decode cX12_labelCode 10 = .ok (.if_icmp .ge 19, 3) := by decide +kernel
theorem dX12_labelCode_13 : decode cX12_labelCode 13 = .ok (.aload_n 0, 1) := by decide +kernel
theorem dX12_labelCode_14 : decode cX12_labelCode 14 = .ok (.getfield 115, 3) := by decide +kernel
theorem dX12_labelCode_17 : decode cX12_labelCode 17 = .ok (.iload_n 1, 1) := by decide +kernel
theorem dX12_labelCode_18 : decode cX12_labelCode 18 = .ok (.aload_n 0, 1) := by decide +kernel
theorem dX12_labelCode_19 : decode cX12_labelCode 19 = .ok (.getfield 142, 3) := by decide +kernel
theorem dX12_labelCode_22 : decode cX12_labelCode 22 = .ok (.iastore, 1) := by decide +kernel
theorem dX12_labelCode_23 : decode cX12_labelCode 23 = .ok (.iinc 1 1, 3) := by decide +kernel
theorem dX12_labelCode_26 : decode cX12_labelCode 26 = .ok (.goto (-24), 3) := by decide +kernel
theorem dX12_labelCode_29 : decode cX12_labelCode 29 = .ok (.iconst 0, 1) := by decide +kernel
theorem dX12_labelCode_30 : decode cX12_labelCode 30 = .ok (.istore_n 1, 1) := by decide +kernel
theorem dX12_labelCode_31 : decode cX12_labelCode 31 = .ok (.iload_n 1, 1) := by decide +kernel
theorem dX12_labelCode_32 : decode cX12_labelCode 32 = .ok (.aload_n 0, 1) := by decide +kernel
theorem dX12_labelCode_33 : decode cX12_labelCode 33 = .ok (.getfield 251, 3) := by decide +kernel
theorem dX12_labelCode_36 : decode cX12_labelCode 36 = .ok (.if_icmp .ge 44, 3) := by decide +kernel
theorem dX12_labelCode_39 : decode cX12_labelCode 39 = .ok (.aload_n 0, 1) := by decide +kernel
theorem dX12_labelCode_40 : decode cX12_labelCode 40 = .ok (.getfield 118, 3) := by decide +kernel
theorem dX12_labelCode_43 : decode cX12_labelCode 43 = .ok (.iload_n 1, 1) := by decide +kernel
theorem dX12_labelCode_44 : decode cX12_labelCode 44 = .ok (.aload_n 0, 1) := by decide +kernel
theorem dX12_labelCode_45 : decode cX12_labelCode 45 = .ok (.getfield 142, 3) := by decide +kernel
theorem dX12_labelCode_48 : decode cX12_labelCode 48 = .ok (.iastore, 1) := by decide +kernel
theorem dX12_labelCode_49 : decode cX12_labelCode 49 = .ok (.aload_n 0, 1) := by decide +kernel
theorem dX12_labelCode_50 : decode cX12_labelCode 50 = .ok (.getfield 100, 3) := by decide +kernel
theorem dX12_labelCode_53 : decode cX12_labelCode 53 = .ok (.iload_n 1, 1) := by decide +kernel
theorem dX12_labelCode_54 : decode cX12_labelCode 54 = .ok (.iaload, 1) := by decide +kernel
theorem dX12_labelCode_55 : decode cX12_labelCode 55 = .ok (.ifCond .lt 19, 3) := by decide +kernel
theorem dX12_labelCode_58 : decode cX12_labelCode 58 = .ok (.aload_n 0, 1) := by decide +kernel
theorem dX12_labelCode_59 : decode cX12_labelCode 59 = .ok (.getfield 94, 3) := by decide +kernel
theorem dX12_labelCode_62 : decode cX12_labelCode 62 = .ok (.iload_n 1, 1) := by decide +kernel
theorem dX12_labelCode_63 : decode cX12_labelCode 63 = .ok (.iaload, 1) := by decide +kernel
theorem dX12_labelCode_64 : decode cX12_labelCode 64 = .ok (.bipush 7, 2) := by decide +kernel
theorem dX12_labelCode_66 : decode cX12_labelCode 66 = .ok (.if_icmp .ne 8, 3) := by decide +kernel
theorem dX12_labelCode_69 : decode cX12_labelCode 69 = .ok (.aload_n 0, 1) := by decide +kernel
theorem dX12_labelCode_70 : decode cX12_labelCode 70 = .ok (.iload_n 1, 1) := by decide +kernel
theorem dX12_labelCode_71 : decode cX12_labelCode 71 = .ok (.invokevirtual 282, 3) := by decide +kernel
theorem dX12_labelCode_74 : decode cX12_labelCode 74 = .ok (.iinc 1 1, 3) := by decide +kernel
theorem dX12_labelCode_77 : decode cX12_labelCode 77 = .ok (.goto (-46), 3) := by decide +kernel
theorem dX12_labelCode_80 : decode cX12_labelCode 80 = .ok (.aload_n 0, 1) := by decide +kernel
theorem dX12_labelCode_81 : decode cX12_labelCode 81 = .ok (.iconst 1, 1) := by decide +kernel
theorem dX12_labelCode_82 : decode cX12_labelCode 82 = .ok (.putfield 207, 3) := by decide +kernel
theorem dX12_labelCode_85 : decode cX12_labelCode 85 = .ok (.iconst 0, 1) := by decide +kernel
theorem dX12_labelCode_86 : decode cX12_labelCode 86 = .ok (.istore_n 1, 1) := by decide +kernel
theorem dX12_labelCode_87 : decode cX12_labelCode 87 = .ok (.iload_n 1, 1) := by decide +kernel
theorem dX12_labelCode_88 : decode cX12_labelCode 88 = .ok (.sipush 10000, 3) := by decide +kernel
theorem dX12_labelCode_91 : decode cX12_labelCode 91 = .ok (.if_icmp .ge 81, 3) := by decide +kernel
theorem dX12_labelCode_94 : decode cX12_labelCode 94 = .ok (.aload_n 0, 1) := by decide +kernel
theorem dX12_labelCode_95 : decode cX12_labelCode 95 = .ok (.getfield 207, 3) := by decide +kernel
theorem dX12_labelCode_98 : decode cX12_labelCode 98 = .ok (.ifCond .eq 74, 3) := by decide +kernel
theorem dX12_labelCode_101 : decode cX12_labelCode 101 = .ok (.aload_n 0, 1) := by decide +kernel
theorem dX12_labelCode_102 : decode cX12_labelCode 102 = .ok (.iconst 0, 1) := by decide +kernel
theorem dX12_labelCode_103 : decode cX12_labelCode 103 = .ok (.putfield 207, 3) := by decide +kernel
theorem dX12_labelCode_106 : decode cX12_labelCode 106 = .ok (.iconst 0, 1) := by decide +kernel
theorem dX12_labelCode_107 : decode cX12_labelCode 107 = .ok (.istore_n 2, 1) := by decide +kernel
theorem dX12_labelCode_108 : decode cX12_labelCode 108 = .ok (.iload_n 2, 1) := by decide +kernel
theorem dX12_labelCode_109 : decode cX12_labelCode 109 = .ok (.bipush 8, 2) := by decide +kernel
theorem dX12_labelCode_111 : decode cX12_labelCode 111 = .ok (.if_icmp .ge 20, 3) := by decide +kernel
theorem dX12_labelCode_114 : decode cX12_labelCode 114 = .ok (.aload_n 0, 1) := by decide +kernel
theorem dX12_labelCode_115 : decode cX12_labelCode 115 = .ok (.iload_n 2, 1) := by decide +kernel
theorem dX12_labelCode_116 : decode cX12_labelCode 116 = .ok (.aload_n 0, 1) := by decide +kernel
theorem dX12_labelCode_117 : decode cX12_labelCode 117 = .ok (.getfield 21, 3) := by decide +kernel
theorem dX12_labelCode_120 : decode cX12_labelCode 120 = .ok (.iload_n 2, 1) := by decide +kernel
theorem dX12_labelCode_121 : decode cX12_labelCode 121 = .ok (.iaload, 1) := by decide +kernel
theorem dX12_labelCode_122 : decode cX12_labelCode 122 = .ok (.invokevirtual 279, 3) := by decide +kernel
theorem dX12_labelCode_125 : decode cX12_labelCode 125 = .ok (.iinc 2 1, 3) := by decide +kernel
theorem dX12_labelCode_128 : decode cX12_labelCode 128 = .ok (.goto (-20), 3) := by decide +kernel
theorem dX12_labelCode_131 : decode cX12_labelCode 131 = .ok (.iconst 0, 1) := by decide +kernel
theorem dX12_labelCode_132 : decode cX12_labelCode 132 = .ok (.istore_n 2, 1) := by decide +kernel
theorem dX12_labelCode_133 : decode cX12_labelCode 133 = .ok (.iload_n 2, 1) := by decide +kernel
theorem dX12_labelCode_134 : decode cX12_labelCode 134 = .ok (.aload_n 0, 1) := by decide +kernel
theorem dX12_labelCode_135 : decode cX12_labelCode 135 = .ok (.getfield 251, 3) := by decide +kernel
theorem dX12_labelCode_138 : decode cX12_labelCode 138 = .ok (.if_icmp .ge 28, 3) := by decide +kernel
theorem dX12_labelCode_141 : decode cX12_labelCode 141 = .ok (.aload_n 0, 1) := by decide +kernel
theorem dX12_labelCode_142 : decode cX12_labelCode 142 = .ok (.getfield 100, 3) := by decide +kernel
theorem dX12_labelCode_145 : decode cX12_labelCode 145 = .ok (.iload_n 2, 1) := by decide +kernel
theorem dX12_labelCode_146 : decode cX12_labelCode 146 = .ok (.iaload, 1) := by decide +kernel
theorem dX12_labelCode_147 : decode cX12_labelCode 147 = .ok (.ifCond .lt 13, 3) := by decide +kernel
theorem dX12_labelCode_150 : decode cX12_labelCode 150 = .ok (.aload_n 0, 1) := by decide +kernel
theorem dX12_labelCode_151 : decode cX12_labelCode 151 = .ok (.iload_n 2, 1) := by decide +kernel
theorem dX12_labelCode_152 : decode cX12_labelCode 152 = .ok (.invokevirtual 285, 3) := by decide +kernel
theorem dX12_labelCode_155 : decode cX12_labelCode 155 = .ok (.aload_n 0, 1) := by decide +kernel
theorem dX12_labelCode_156 : decode cX12_labelCode 156 = .ok (.iload_n 2, 1) := by decide +kernel
theorem dX12_labelCode_157 : decode cX12_labelCode 157 = .ok (.invokevirtual 288, 3) := by decide +kernel
theorem dX12_labelCode_160 : decode cX12_labelCode 160 = .ok (.iinc 2 1, 3) := by decide +kernel
theorem dX12_labelCode_163 : decode cX12_labelCode 163 = .ok (.goto (-30), 3) := by decide +kernel
theorem dX12_labelCode_166 : decode cX12_labelCode 166 = .ok (.iinc 1 1, 3) := by decide +kernel
theorem dX12_labelCode_169 : decode cX12_labelCode 169 = .ok (.goto (-82), 3) := by decide +kernel
theorem dX12_labelCode_172 : decode cX12_labelCode 172 = .ok (.return_, 1) := by decide +kernel
theorem dX12_verify_0 : decode cX12_verify 0 = .ok (.aload_n 0, 1) := by decide +kernel
theorem dX12_verify_1 : decode cX12_verify 1 = .ok (.aload_n 0, 1) := by decide +kernel
theorem dX12_verify_2 : decode cX12_verify 2 = .ok (.invokevirtual 291, 3) := by decide +kernel
theorem dX12_verify_5 : decode cX12_verify 5 = .ok (.putfield 257, 3) := by decide +kernel
theorem dX12_verify_8 : decode cX12_verify 8 = .ok (.aload_n 0, 1) := by decide +kernel
theorem dX12_verify_9 : decode cX12_verify 9 = .ok (.iconst 0, 1) := by decide +kernel
theorem dX12_verify_10 : decode cX12_verify 10 = .ok (.putfield 254, 3) := by decide +kernel
theorem dX12_verify_13 : decode cX12_verify 13 = .ok (.aload_n 0, 1) := by decide +kernel
theorem dX12_verify_14 : decode cX12_verify 14 = .ok (.aload_n 0, 1) := by decide +kernel
theorem dX12_verify_15 : decode cX12_verify 15 = .ok (.getfield 257, 3) := by decide +kernel
theorem dX12_verify_18 : decode cX12_verify 18 = .ok (.ifCond .eq 7, 3) := by decide +kernel
theorem dX12_verify_21 : decode cX12_verify 21 = .ok (.iconst 0, 1) := by decide +kernel
theorem dX12_verify_22 : decode cX12_verify 22 = .ok (.goto 4, 3) := by decide +kernel
theorem dX12_verify_25 : decode cX12_verify 25 = .ok (.iconst 1, 1) := by decide +kernel
theorem dX12_verify_26 : decode cX12_verify 26 = .ok (.putfield 124, 3) := by decide +kernel
theorem dX12_verify_29 : decode cX12_verify 29 = .ok (.aload_n 0, 1) := by decide +kernel
theorem dX12_verify_30 : decode cX12_verify 30 = .ok (.getfield 257, 3) := by decide +kernel
theorem dX12_verify_33 : decode cX12_verify 33 = .ok (.ifCond .ne 5, 3) := by decide +kernel
theorem dX12_verify_36 : decode cX12_verify 36 = .ok (.iconst 0, 1) := by decide +kernel
theorem dX12_verify_37 : decode cX12_verify 37 = .ok (.ireturn, 1) := by decide +kernel
theorem dX12_verify_38 : decode cX12_verify 38 = .ok (.aload_n 0, 1) := by decide +kernel
theorem dX12_verify_39 : decode cX12_verify 39 = .ok (.invokevirtual 294, 3) := by decide +kernel
theorem dX12_verify_42 : decode cX12_verify 42 = .ok (.iconst 1, 1) := by decide +kernel
theorem dX12_verify_43 : decode cX12_verify 43 = .ok (.istore_n 1, 1) := by decide +kernel
theorem dX12_verify_44 : decode cX12_verify 44 = .ok (.iconst 0, 1) := by decide +kernel
theorem dX12_verify_45 : decode cX12_verify 45 = .ok (.istore_n 2, 1) := by decide +kernel
theorem dX12_verify_46 : decode cX12_verify 46 = .ok (.iconst 0, 1) := by decide +kernel
theorem dX12_verify_47 : decode cX12_verify 47 = .ok (.istore_n 3, 1) := by decide +kernel
theorem dX12_verify_48 : decode cX12_verify 48 = .ok (.iload_n 3, 1) := by decide +kernel
theorem dX12_verify_49 : decode cX12_verify 49 = .ok (.aload_n 0, 1) := by decide +kernel
theorem dX12_verify_50 : decode cX12_verify 50 = .ok (.getfield 251, 3) := by decide +kernel
theorem dX12_verify_53 : decode cX12_verify 53 = .ok (.if_icmp .ge 103, 3) := by decide +kernel
theorem dX12_verify_56 : decode cX12_verify 56 = .ok (.aload_n 0, 1) := by decide +kernel
theorem dX12_verify_57 : decode cX12_verify 57 = .ok (.getfield 100, 3) := by decide +kernel
theorem dX12_verify_60 : decode cX12_verify 60 = .ok (.iload_n 3, 1) := by decide +kernel
theorem dX12_verify_61 : decode cX12_verify 61 = .ok (.iaload, 1) := by decide +kernel
theorem dX12_verify_62 : decode cX12_verify 62 = .ok (.ifCond .lt 9, 3) := by decide +kernel
theorem dX12_verify_65 : decode cX12_verify 65 = .ok (.iload_n 2, 1) := by decide +kernel
theorem dX12_verify_66 : decode cX12_verify 66 = .ok (.iconst 1, 1) := by decide +kernel
theorem dX12_verify_67 : decode cX12_verify 67 = .ok (.iadd, 1) := by decide +kernel
theorem dX12_verify_68 : decode cX12_verify 68 = .ok (.goto 4, 3) := by decide +kernel
theorem dX12_verify_71 : decode cX12_verify 71 = .ok (.iload_n 2, 1) := by decide +kernel
theorem dX12_verify_72 : decode cX12_verify 72 = .ok (.istore_n 2, 1) := by decide +kernel
theorem dX12_verify_73 : decode cX12_verify 73 = .ok (.iconst 0, 1) := by decide +kernel
theorem dX12_verify_74 : decode cX12_verify 74 = .ok (.istore 4, 2) := by decide +kernel
theorem dX12_verify_76 : decode cX12_verify 76 = .ok (.iload 4, 2) := by decide +kernel
theorem dX12_verify_78 : decode cX12_verify 78 = .ok (.bipush 8, 2) := by decide +kernel
theorem dX12_verify_80 : decode cX12_verify 80 = .ok (.if_icmp .ge 70, 3) := by decide +kernel
theorem dX12_verify_83 : decode cX12_verify 83 = .ok (.iload_n 1, 1) := by decide +kernel
theorem dX12_verify_84 : decode cX12_verify 84 = .ok (.ifCond .eq 58, 3) := by decide +kernel
theorem dX12_verify_87 : decode cX12_verify 87 = .ok (.aload_n 0, 1) := by decide +kernel
theorem dX12_verify_88 : decode cX12_verify 88 = .ok (.getfield 100, 3) := by decide +kernel
theorem dX12_verify_91 : decode cX12_verify 91 = .ok (.iload_n 3, 1) := by decide +kernel
theorem dX12_verify_92 : decode cX12_verify 92 = .ok (.iaload, 1) := by decide +kernel
theorem dX12_verify_93 : decode cX12_verify 93 = .ok (.ifCond .lt 45, 3) := by decide +kernel
theorem dX12_verify_96 : decode cX12_verify 96 = .ok (.aload_n 0, 1) := by decide +kernel
theorem dX12_verify_97 : decode cX12_verify 97 = .ok (.getfield 94, 3) := by decide +kernel
theorem dX12_verify_100 : decode cX12_verify 100 = .ok (.iload_n 3, 1) := by decide +kernel
theorem dX12_verify_101 : decode cX12_verify 101 = .ok (.iaload, 1) := by decide +kernel
theorem dX12_verify_102 : decode cX12_verify 102 = .ok (.bipush 9, 2) := by decide +kernel
theorem dX12_verify_104 : decode cX12_verify 104 = .ok (.if_icmp .ne 34, 3) := by decide +kernel
theorem dX12_verify_107 : decode cX12_verify 107 = .ok (.aload_n 0, 1) := by decide +kernel
theorem dX12_verify_108 : decode cX12_verify 108 = .ok (.getfield 13, 3) := by decide +kernel
theorem dX12_verify_111 : decode cX12_verify 111 = .ok (.bipush 6, 2) := by decide +kernel
theorem dX12_verify_113 : decode cX12_verify 113 = .ok (.aload_n 0, 1) := by decide +kernel
theorem dX12_verify_114 : decode cX12_verify 114 = .ok (.getfield 115, 3) := by decide +kernel
theorem dX12_verify_117 : decode cX12_verify 117 = .ok (.bipush 16, 2) := by decide +kernel
theorem dX12_verify_119 : decode cX12_verify 119 = .ok (.iload_n 3, 1) := by decide +kernel
theorem dX12_verify_120 : decode cX12_verify 120 = .ok (.imul, 1) := by decide +kernel
theorem dX12_verify_121 : decode cX12_verify 121 = .ok (.iload 4, 2) := by decide +kernel
theorem dX12_verify_123 : decode cX12_verify 123 = .ok (.iadd, 1) := by decide +kernel
theorem dX12_verify_124 : decode cX12_verify 124 = .ok (.iaload, 1) := by decide +kernel
theorem dX12_verify_125 : decode cX12_verify 125 = .ok (.imul, 1) := by decide +kernel
theorem dX12_verify_126 : decode cX12_verify 126 = .ok (.aload_n 0, 1) := by decide +kernel
theorem dX12_verify_127 : decode cX12_verify 127 = .ok (.getfield 24, 3) := by decide +kernel
theorem dX12_verify_130 : decode cX12_verify 130 = .ok (.iload 4, 2) := by decide +kernel
theorem dX12_verify_132 : decode cX12_verify 132 = .ok (.iaload, 1) := by decide +kernel
theorem dX12_verify_133 : decode cX12_verify 133 = .ok (.iadd, 1) := by decide +kernel
theorem dX12_verify_134 : decode cX12_verify 134 = .ok (.baload, 1) := by decide +kernel
theorem dX12_verify_135 : decode cX12_verify 135 = .ok (.ifCond .eq 7, 3) := by decide +kernel
theorem dX12_verify_138 : decode cX12_verify 138 = .ok (.iconst 1, 1) := by decide +kernel
theorem dX12_verify_139 : decode cX12_verify 139 = .ok (.goto 4, 3) := by decide +kernel
theorem dX12_verify_142 : decode cX12_verify 142 = .ok (.iconst 0, 1) := by decide +kernel
theorem dX12_verify_143 : decode cX12_verify 143 = .ok (.istore_n 1, 1) := by decide +kernel
theorem dX12_verify_144 : decode cX12_verify 144 = .ok (.iinc 4 1, 3) := by decide +kernel
theorem dX12_verify_147 : decode cX12_verify 147 = .ok (.goto (-71), 3) := by decide +kernel
theorem dX12_verify_150 : decode cX12_verify 150 = .ok (.iinc 3 1, 3) := by decide +kernel
theorem dX12_verify_153 : decode cX12_verify 153 = .ok (.goto (-105), 3) := by decide +kernel
theorem dX12_verify_156 : decode cX12_verify 156 = .ok (.aload_n 0, 1) := by decide +kernel
theorem dX12_verify_157 : decode cX12_verify 157 = .ok (.iload_n 1, 1) := by decide +kernel
theorem dX12_verify_158 : decode cX12_verify 158 = .ok (.ifCond .eq 7, 3) := by decide +kernel
theorem dX12_verify_161 : decode cX12_verify 161 = .ok (.iconst 0, 1) := by decide +kernel
theorem dX12_verify_162 : decode cX12_verify 162 = .ok (.goto 4, 3) := by decide +kernel
theorem dX12_verify_165 : decode cX12_verify 165 = .ok (.iconst 2, 1) := by decide +kernel
theorem dX12_verify_166 : decode cX12_verify 166 = .ok (.putfield 124, 3) := by decide +kernel
theorem dX12_verify_169 : decode cX12_verify 169 = .ok (.aload_n 0, 1) := by decide +kernel
theorem dX12_verify_170 : decode cX12_verify 170 = .ok (.iload_n 1, 1) := by decide +kernel
theorem dX12_verify_171 : decode cX12_verify 171 = .ok (.putfield 254, 3) := by decide +kernel
theorem dX12_verify_174 : decode cX12_verify 174 = .ok (.iload_n 1, 1) := by decide +kernel
theorem dX12_verify_175 : decode cX12_verify 175 = .ok (.ifCond .eq 7, 3) := by decide +kernel
theorem dX12_verify_178 : decode cX12_verify 178 = .ok (.iload_n 2, 1) := by decide +kernel
theorem dX12_verify_179 : decode cX12_verify 179 = .ok (.goto 4, 3) := by decide +kernel
theorem dX12_verify_182 : decode cX12_verify 182 = .ok (.iconst 0, 1) := by decide +kernel
theorem dX12_verify_183 : decode cX12_verify 183 = .ok (.ireturn, 1) := by decide +kernel
theorem dX12_found_0 : decode cX12_found 0 = .ok (.aload_n 0, 1) := by decide +kernel
theorem dX12_found_1 : decode cX12_found 1 = .ok (.iconst 0, 1) := by decide +kernel
theorem dX12_found_2 : decode cX12_found 2 = .ok (.putfield 124, 3) := by decide +kernel
theorem dX12_found_5 : decode cX12_found 5 = .ok (.aload_n 0, 1) := by decide +kernel
theorem dX12_found_6 : decode cX12_found 6 = .ok (.getfield 257, 3) := by decide +kernel
theorem dX12_found_9 : decode cX12_found 9 = .ok (.ifCond .eq 41, 3) := by decide +kernel
theorem dX12_found_12 : decode cX12_found 12 = .ok (.iload_n 1, 1) := by decide +kernel
theorem dX12_found_13 : decode cX12_found 13 = .ok (.ifCond .lt 37, 3) := by decide +kernel
theorem dX12_found_16 : decode cX12_found 16 = .ok (.iload_n 1, 1) := by decide +kernel
theorem dX12_found_17 : decode cX12_found 17 = .ok (.aload_n 0, 1) := by decide +kernel
theorem dX12_found_18 : decode cX12_found 18 = .ok (.getfield 251, 3) := by decide +kernel
theorem dX12_found_21 : decode cX12_found 21 = .ok (.if_icmp .ge 29, 3) := by decide +kernel
theorem dX12_found_24 : decode cX12_found 24 = .ok (.aload_n 0, 1) := by decide +kernel
theorem dX12_found_25 : decode cX12_found 25 = .ok (.getfield 100, 3) := by decide +kernel
theorem dX12_found_28 : decode cX12_found 28 = .ok (.iload_n 1, 1) := by decide +kernel
theorem dX12_found_29 : decode cX12_found 29 = .ok (.iaload, 1) := by decide +kernel
theorem dX12_found_30 : decode cX12_found 30 = .ok (.ifCond .lt 20, 3) := by decide +kernel
theorem dX12_found_33 : decode cX12_found 33 = .ok (.iload_n 2, 1) := by decide +kernel
theorem dX12_found_34 : decode cX12_found 34 = .ok (.ifCond .lt 16, 3) := by decide +kernel
theorem dX12_found_37 : decode cX12_found 37 = .ok (.iload_n 2, 1) := by decide +kernel
theorem dX12_found_38 : decode cX12_found 38 = .ok (.bipush 8, 2) := by decide +kernel
theorem dX12_found_40 : decode cX12_found 40 = .ok (.aload_n 0, 1) := by decide +kernel
theorem dX12_found_41 : decode cX12_found 41 = .ok (.getfield 100, 3) := by decide +kernel
theorem dX12_found_44 : decode cX12_found 44 = .ok (.iload_n 1, 1) := by decide +kernel
theorem dX12_found_45 : decode cX12_found 45 = .ok (.iaload, 1) := by decide +kernel
theorem dX12_found_46 : decode cX12_found 46 = .ok (.iadd, 1) := by decide +kernel
theorem dX12_found_47 : decode cX12_found 47 = .ok (.if_icmp .le 5, 3) := by decide +kernel
theorem dX12_found_50 : decode cX12_found 50 = .ok (.iconst (-1), 1) := by decide +kernel
theorem dX12_found_51 : decode cX12_found 51 = .ok (.ireturn, 1) := by decide +kernel
theorem dX12_found_52 : decode cX12_found 52 = .ok (.iload_n 2, 1) := by decide +kernel
theorem dX12_found_53 : decode cX12_found 53 = .ok (.bipush 8, 2) := by decide +kernel
theorem dX12_found_55 : decode cX12_found 55 = .ok (.if_icmp .ge 17, 3) := by decide +kernel
theorem dX12_found_58 : decode cX12_found 58 = .ok (.aload_n 0, 1) := by decide +kernel
theorem dX12_found_59 : decode cX12_found 59 = .ok (.getfield 115, 3) := by decide +kernel
theorem dX12_found_62 : decode cX12_found 62 = .ok (.bipush 16, 2) := by decide +kernel
theorem dX12_found_64 : decode cX12_found 64 = .ok (.iload_n 1, 1) := by decide +kernel
theorem dX12_found_65 : decode cX12_found 65 = .ok (.imul, 1) := by decide +kernel
theorem dX12_found_66 : decode cX12_found 66 = .ok (.iload_n 2, 1) := by decide +kernel
theorem dX12_found_67 : decode cX12_found 67 = .ok (.iadd, 1) := by decide +kernel
theorem dX12_found_68 : decode cX12_found 68 = .ok (.iaload, 1) := by decide +kernel
theorem dX12_found_69 : decode cX12_found 69 = .ok (.goto 31, 3) := by decide +kernel
theorem dX12_found_72 : decode cX12_found 72 = .ok (.iload_n 2, 1) := by decide +kernel
theorem dX12_found_73 : decode cX12_found 73 = .ok (.bipush 8, 2) := by decide +kernel
theorem dX12_found_75 : decode cX12_found 75 = .ok (.if_icmp .ne 12, 3) := by decide +kernel
theorem dX12_found_78 : decode cX12_found 78 = .ok (.aload_n 0, 1) := by decide +kernel
theorem dX12_found_79 : decode cX12_found 79 = .ok (.getfield 118, 3) := by decide +kernel
theorem dX12_found_82 : decode cX12_found 82 = .ok (.iload_n 1, 1) := by decide +kernel
theorem dX12_found_83 : decode cX12_found 83 = .ok (.iaload, 1) := by decide +kernel
theorem dX12_found_84 : decode cX12_found 84 = .ok (.goto 16, 3) := by decide +kernel
theorem dX12_found_87 : decode cX12_found 87 = .ok (.aload_n 0, 1) := by decide +kernel
theorem dX12_found_88 : decode cX12_found 88 = .ok (.getfield 115, 3) := by decide +kernel
theorem dX12_found_91 : decode cX12_found 91 = .ok (.bipush 16, 2) := by decide +kernel
theorem dX12_found_93 : decode cX12_found 93 = .ok (.iload_n 1, 1) := by decide +kernel
theorem dX12_found_94 : decode cX12_found 94 = .ok (.imul, 1) := by decide +kernel
theorem dX12_found_95 : decode cX12_found 95 = .ok (.iload_n 2, 1) := by decide +kernel
theorem dX12_found_96 : decode cX12_found 96 = .ok (.iadd, 1) := by decide +kernel
theorem dX12_found_97 : decode cX12_found 97 = .ok (.iconst 1, 1) := by decide +kernel
theorem dX12_found_98 : decode cX12_found 98 = .ok (.isub, 1) := by decide +kernel
theorem dX12_found_99 : decode cX12_found 99 = .ok (.iaload, 1) := by decide +kernel
theorem dX12_found_100 : decode cX12_found 100 = .ok (.ireturn, 1) := by decide +kernel
theorem dX12_set_0 : decode cX12_set 0 = .ok (.aload_n 0, 1) := by decide +kernel
theorem dX12_set_1 : decode cX12_set 1 = .ok (.iconst 0, 1) := by decide +kernel
theorem dX12_set_2 : decode cX12_set 2 = .ok (.putfield 124, 3) := by decide +kernel
theorem dX12_set_5 : decode cX12_set 5 = .ok (.iload_n 1, 1) := by decide +kernel
theorem dX12_set_6 : decode cX12_set 6 = .ok (.ifCond .lt 9, 3) := by decide +kernel
theorem dX12_set_9 : decode cX12_set 9 = .ok (.iload_n 1, 1) := by decide +kernel
theorem dX12_set_10 : decode cX12_set 10 = .ok (.bipush 7, 2) := by decide +kernel
theorem dX12_set_12 : decode cX12_set 12 = .ok (.if_icmp .le 5, 3) := by decide +kernel
theorem dX12_set_15 : decode cX12_set 15 = .ok (.iconst 0, 1) := by decide +kernel
theorem dX12_set_16 : decode cX12_set 16 = .ok (.ireturn, 1) := by decide +kernel
theorem dX12_set_17 : decode cX12_set 17 = .ok (.aload_n 0, 1) := by decide +kernel
theorem dX12_set_18 : decode cX12_set 18 = .ok (.getfield 27, 3) := by decide +kernel
theorem dX12_set_21 : decode cX12_set 21 = .ok (.iload_n 1, 1) := by decide +kernel
theorem dX12_set_22 : decode cX12_set 22 = .ok (.iload_n 2, 1) := by decide +kernel
theorem dX12_set_23 : decode cX12_set 23 = .ok (.iastore, 1) := by decide +kernel
theorem dX12_set_24 : decode cX12_set 24 = .ok (.iconst 1, 1) := by decide +kernel
theorem dX12_set_25 : decode cX12_set 25 = .ok (.ireturn, 1) := by decide +kernel
theorem dX12_get_0 : decode cX12_get 0 = .ok (.aload_n 0, 1) := by decide +kernel
theorem dX12_get_1 : decode cX12_get 1 = .ok (.iconst 0, 1) := by decide +kernel
theorem dX12_get_2 : decode cX12_get 2 = .ok (.putfield 124, 3) := by decide +kernel
theorem dX12_get_5 : decode cX12_get 5 = .ok (.iload_n 1, 1) := by decide +kernel
theorem dX12_get_6 : decode cX12_get 6 = .ok (.ifCond .lt 18, 3) := by decide +kernel
theorem dX12_get_9 : decode cX12_get 9 = .ok (.iload_n 1, 1) := by decide +kernel
theorem dX12_get_10 : decode cX12_get 10 = .ok (.bipush 8, 2) := by decide +kernel
theorem dX12_get_12 : decode cX12_get 12 = .ok (.if_icmp .ge 12, 3) := by decide +kernel
theorem dX12_get_15 : decode cX12_get 15 = .ok (.aload_n 0, 1) := by decide +kernel
theorem dX12_get_16 : decode cX12_get 16 = .ok (.getfield 27, 3) := by decide +kernel
theorem dX12_get_19 : decode cX12_get 19 = .ok (.iload_n 1, 1) := by decide +kernel
theorem dX12_get_20 : decode cX12_get 20 = .ok (.iaload, 1) := by decide +kernel
theorem dX12_get_21 : decode cX12_get 21 = .ok (.goto 4, 3) := by decide +kernel
theorem dX12_get_24 : decode cX12_get 24 = .ok (.iconst 0, 1) := by decide +kernel
theorem dX12_get_25 : decode cX12_get 25 = .ok (.ireturn, 1) := by decide +kernel
theorem dX12_worked_0 : decode cX12_worked 0 = .ok (.iload_n 0, 1) := by decide +kernel
theorem dX12_worked_1 : decode cX12_worked 1 = .ok (.iconst 3, 1) := by decide +kernel
theorem dX12_worked_2 : decode cX12_worked 2 = .ok (.if_icmp .ne 9, 3) := by decide +kernel
theorem dX12_worked_5 : decode cX12_worked 5 = .ok (.iload_n 1, 1) := by decide +kernel
theorem dX12_worked_6 : decode cX12_worked 6 = .ok (.iload_n 2, 1) := by decide +kernel
theorem dX12_worked_7 : decode cX12_worked 7 = .ok (.iadd, 1) := by decide +kernel
theorem dX12_worked_8 : decode cX12_worked 8 = .ok (.goto 35, 3) := by decide +kernel
theorem dX12_worked_11 : decode cX12_worked 11 = .ok (.iload_n 0, 1) := by decide +kernel
theorem dX12_worked_12 : decode cX12_worked 12 = .ok (.iconst 4, 1) := by decide +kernel
theorem dX12_worked_13 : decode cX12_worked 13 = .ok (.if_icmp .ne 9, 3) := by decide +kernel
theorem dX12_worked_16 : decode cX12_worked 16 = .ok (.iload_n 1, 1) := by decide +kernel
theorem dX12_worked_17 : decode cX12_worked 17 = .ok (.iload_n 2, 1) := by decide +kernel
theorem dX12_worked_18 : decode cX12_worked 18 = .ok (.isub, 1) := by decide +kernel
theorem dX12_worked_19 : decode cX12_worked 19 = .ok (.goto 24, 3) := by decide +kernel
theorem dX12_worked_22 : decode cX12_worked 22 = .ok (.iload_n 0, 1) := by decide +kernel
theorem dX12_worked_23 : decode cX12_worked 23 = .ok (.iconst 5, 1) := by decide +kernel
theorem dX12_worked_24 : decode cX12_worked 24 = .ok (.if_icmp .ne 9, 3) := by decide +kernel
theorem dX12_worked_27 : decode cX12_worked 27 = .ok (.iload_n 1, 1) := by decide +kernel
theorem dX12_worked_28 : decode cX12_worked 28 = .ok (.iload_n 2, 1) := by decide +kernel
theorem dX12_worked_29 : decode cX12_worked 29 = .ok (.imul, 1) := by decide +kernel
theorem dX12_worked_30 : decode cX12_worked 30 = .ok (.goto 13, 3) := by decide +kernel
theorem dX12_worked_33 : decode cX12_worked 33 = .ok (.iload_n 1, 1) := by decide +kernel
theorem dX12_worked_34 : decode cX12_worked 34 = .ok (.iload_n 2, 1) := by decide +kernel
theorem dX12_worked_35 : decode cX12_worked 35 = .ok (.if_icmp .ge 7, 3) := by decide +kernel
theorem dX12_worked_38 : decode cX12_worked 38 = .ok (.iconst 1, 1) := by decide +kernel
theorem dX12_worked_39 : decode cX12_worked 39 = .ok (.goto 4, 3) := by decide +kernel
theorem dX12_worked_42 : decode cX12_worked 42 = .ok (.iconst 0, 1) := by decide +kernel
theorem dX12_worked_43 : decode cX12_worked 43 = .ok (.ireturn, 1) := by decide +kernel
theorem dX12_goOver_0 : decode cX12_goOver 0 = .ok (.iconst 0, 1) := by decide +kernel
theorem dX12_goOver_1 : decode cX12_goOver 1 = .ok (.istore 5, 2) := by decide +kernel
theorem dX12_goOver_3 : decode cX12_goOver 3 = .ok (.iload 5, 2) := by decide +kernel
theorem dX12_goOver_5 : decode cX12_goOver 5 = .ok (.bipush 8, 2) := by decide +kernel
theorem dX12_goOver_7 : decode cX12_goOver 7 = .ok (.if_icmp .ge 23, 3) := by decide +kernel
theorem dX12_goOver_10 : decode cX12_goOver 10 = .ok (.aload_n 0, 1) := by decide +kernel
theorem dX12_goOver_11 : decode cX12_goOver 11 = .ok (.getfield 30, 3) := by decide +kernel
theorem dX12_goOver_14 : decode cX12_goOver 14 = .ok (.iload 5, 2) := by decide +kernel
theorem dX12_goOver_16 : decode cX12_goOver 16 = .ok (.aload_n 0, 1) := by decide +kernel
theorem dX12_goOver_17 : decode cX12_goOver 17 = .ok (.getfield 27, 3) := by decide +kernel
theorem dX12_goOver_20 : decode cX12_goOver 20 = .ok (.iload 5, 2) := by decide +kernel
theorem dX12_goOver_22 : decode cX12_goOver 22 = .ok (.iaload, 1) := by decide +kernel
theorem dX12_goOver_23 : decode cX12_goOver 23 = .ok (.iastore, 1) := by decide +kernel
theorem dX12_goOver_24 : decode cX12_goOver 24 = .ok (.iinc 5 1, 3) := by decide +kernel
theorem dX12_goOver_27 : decode cX12_goOver 27 = .ok (.goto (-24), 3) := by decide +kernel
theorem dX12_goOver_30 : decode cX12_goOver 30 = .ok (.iconst 0, 1) := by decide +kernel
theorem dX12_goOver_31 : decode cX12_goOver 31 = .ok (.istore 5, 2) := by decide +kernel
theorem dX12_goOver_33 : decode cX12_goOver 33 = .ok (.iconst 0, 1) := by decide +kernel
theorem dX12_goOver_34 : decode cX12_goOver 34 = .ok (.istore 6, 2) := by decide +kernel
theorem dX12_goOver_36 : decode cX12_goOver 36 = .ok (.aload_n 0, 1) := by decide +kernel
theorem dX12_goOver_37 : decode cX12_goOver 37 = .ok (.iconst 0, 1) := by decide +kernel
theorem dX12_goOver_38 : decode cX12_goOver 38 = .ok (.putfield 297, 3) := by decide +kernel
theorem dX12_goOver_41 : decode cX12_goOver 41 = .ok (.iconst 1, 1) := by decide +kernel
theorem dX12_goOver_42 : decode cX12_goOver 42 = .ok (.istore 7, 2) := by decide +kernel
theorem dX12_goOver_44 : decode cX12_goOver 44 = .ok (.iload 7, 2) := by decide +kernel
theorem dX12_goOver_46 : decode cX12_goOver 46 = .ok (.iload_n 3, 1) := by decide +kernel
theorem dX12_goOver_47 : decode cX12_goOver 47 = .ok (.if_icmp .gt 197, 3) := by decide +kernel
theorem dX12_goOver_50 : decode cX12_goOver 50 = .ok (.aload_n 1, 1) := by decide +kernel
theorem dX12_goOver_51 : decode cX12_goOver 51 = .ok (.iload 5, 2) := by decide +kernel
theorem dX12_goOver_53 : decode cX12_goOver 53 = .ok (.iaload, 1) := by decide +kernel
theorem dX12_goOver_54 : decode cX12_goOver 54 = .ok (.istore 8, 2) := by decide +kernel
theorem dX12_goOver_56 : decode cX12_goOver 56 = .ok (.aload_n 2, 1) := by decide +kernel
theorem dX12_goOver_57 : decode cX12_goOver 57 = .ok (.iload 5, 2) := by decide +kernel
theorem dX12_goOver_59 : decode cX12_goOver 59 = .ok (.iaload, 1) := by decide +kernel
theorem dX12_goOver_60 : decode cX12_goOver 60 = .ok (.istore 9, 2) := by decide +kernel
theorem dX12_goOver_62 : decode cX12_goOver 62 = .ok (.iinc 5 1, 3) := by decide +kernel
theorem dX12_goOver_65 : decode cX12_goOver 65 = .ok (.iload 8, 2) := by decide +kernel
theorem dX12_goOver_67 : decode cX12_goOver 67 = .ok (.bipush 9, 2) := by decide +kernel
theorem dX12_goOver_69 : decode cX12_goOver 69 = .ok (.if_icmp .ne 6, 3) := by decide +kernel
theorem dX12_goOver_72 : decode cX12_goOver 72 = .ok (.iload 7, 2) := by decide +kernel
theorem dX12_goOver_74 : decode cX12_goOver 74 = .ok (.ireturn, 1) := by decide +kernel
theorem dX12_goOver_75 : decode cX12_goOver 75 = .ok (.iload 8, 2) := by decide +kernel
theorem dX12_goOver_77 : decode cX12_goOver 77 = .ok (.iconst 2, 1) := by decide +kernel
theorem dX12_goOver_78 : decode cX12_goOver 78 = .ok (.if_icmp .ge 33, 3) := by decide +kernel
theorem dX12_goOver_81 : decode cX12_goOver 81 = .ok (.aload_n 0, 1) := by decide +kernel
theorem dX12_goOver_82 : decode cX12_goOver 82 = .ok (.getfield 121, 3) := by decide +kernel
theorem dX12_goOver_85 : decode cX12_goOver 85 = .ok (.iload 6, 2) := by decide +kernel
theorem dX12_goOver_87 : decode cX12_goOver 87 = .ok (.iload 8, 2) := by decide +kernel
theorem dX12_goOver_89 : decode cX12_goOver 89 = .ok (.ifCond .ne 8, 3) := by decide +kernel
theorem dX12_goOver_92 : decode cX12_goOver 92 = .ok (.iload 9, 2) := by decide +kernel
theorem dX12_goOver_94 : decode cX12_goOver 94 = .ok (.goto 10, 3) := by decide +kernel
theorem dX12_goOver_97 : decode cX12_goOver 97 = .ok (.aload_n 0, 1) := by decide +kernel
theorem dX12_goOver_98 : decode cX12_goOver 98 = .ok (.getfield 27, 3) := by decide +kernel
theorem dX12_goOver_101 : decode cX12_goOver 101 = .ok (.iload 9, 2) := by decide +kernel
theorem dX12_goOver_103 : decode cX12_goOver 103 = .ok (.iaload, 1) := by decide +kernel
theorem dX12_goOver_104 : decode cX12_goOver 104 = .ok (.iastore, 1) := by decide +kernel
theorem dX12_goOver_105 : decode cX12_goOver 105 = .ok (.iinc 6 1, 3) := by decide +kernel
theorem dX12_goOver_108 : decode cX12_goOver 108 = .ok (.goto 118, 3) := by decide +kernel
theorem dX12_goOver_111 : decode cX12_goOver 111 = .ok (.iload 8, 2) := by decide +kernel
theorem dX12_goOver_113 : decode cX12_goOver 113 = .ok (.iconst 2, 1) := by decide +kernel
theorem dX12_goOver_114 : decode cX12_goOver 114 = .ok (.if_icmp .ne 23, 3) := by decide +kernel
theorem dX12_goOver_117 : decode cX12_goOver 117 = .ok (.iinc 6 (-1), 3) := by decide +kernel
theorem dX12_goOver_120 : decode cX12_goOver 120 = .ok (.aload_n 0, 1) := by decide +kernel
theorem dX12_goOver_121 : decode cX12_goOver 121 = .ok (.getfield 27, 3) := by decide +kernel
theorem dX12_goOver_124 : decode cX12_goOver 124 = .ok (.iload 9, 2) := by decide +kernel
theorem dX12_goOver_126 : decode cX12_goOver 126 = .ok (.aload_n 0, 1) := by decide +kernel
theorem dX12_goOver_127 : decode cX12_goOver 127 = .ok (.getfield 121, 3) := by decide +kernel
theorem dX12_goOver_130 : decode cX12_goOver 130 = .ok (.iload 6, 2) := by decide +kernel
theorem dX12_goOver_132 : decode cX12_goOver 132 = .ok (.iaload, 1) := by decide +kernel
theorem dX12_goOver_133 : decode cX12_goOver 133 = .ok (.iastore, 1) := by decide +kernel
theorem dX12_goOver_134 : decode cX12_goOver 134 = .ok (.goto 92, 3) := by decide +kernel
theorem dX12_goOver_137 : decode cX12_goOver 137 = .ok (.iload 8, 2) := by decide +kernel
theorem dX12_goOver_139 : decode cX12_goOver 139 = .ok (.bipush 7, 2) := by decide +kernel
theorem dX12_goOver_141 : decode cX12_goOver 141 = .ok (.if_icmp .ge 39, 3) := by decide +kernel
theorem dX12_goOver_144 : decode cX12_goOver 144 = .ok (.iinc 6 (-1), 3) := by decide +kernel
theorem dX12_goOver_147 : decode cX12_goOver 147 = .ok (.aload_n 0, 1) := by decide +kernel
theorem dX12_goOver_148 : decode cX12_goOver 148 = .ok (.getfield 121, 3) := by decide +kernel
theorem dX12_goOver_151 : decode cX12_goOver 151 = .ok (.iload 6, 2) := by decide +kernel
theorem dX12_goOver_153 : decode cX12_goOver 153 = .ok (.iconst 1, 1) := by decide +kernel
theorem dX12_goOver_154 : decode cX12_goOver 154 = .ok (.isub, 1) := by decide +kernel
theorem dX12_goOver_155 : decode cX12_goOver 155 = .ok (.iload 8, 2) := by decide +kernel
theorem dX12_goOver_157 : decode cX12_goOver 157 = .ok (.aload_n 0, 1) := by decide +kernel
theorem dX12_goOver_158 : decode cX12_goOver 158 = .ok (.getfield 121, 3) := by decide +kernel
theorem dX12_goOver_161 : decode cX12_goOver 161 = .ok (.iload 6, 2) := by decide +kernel
theorem dX12_goOver_163 : decode cX12_goOver 163 = .ok (.iconst 1, 1) := by decide +kernel
theorem dX12_goOver_164 : decode cX12_goOver 164 = .ok (.isub, 1) := by decide +kernel
theorem dX12_goOver_165 : decode cX12_goOver 165 = .ok (.iaload, 1) := by decide +kernel
theorem dX12_goOver_166 : decode cX12_goOver 166 = .ok (.aload_n 0, 1) := by decide +kernel
theorem dX12_goOver_167 : decode cX12_goOver 167 = .ok (.getfield 121, 3) := by decide +kernel
theorem dX12_goOver_170 : decode cX12_goOver 170 = .ok (.iload 6, 2) := by decide +kernel
theorem dX12_goOver_172 : decode cX12_goOver 172 = .ok (.iaload, 1) := by decide +kernel
theorem dX12_goOver_173 : decode cX12_goOver 173 = .ok (.invokestatic 300, 3) := by decide +kernel
theorem dX12_goOver_176 : decode cX12_goOver 176 = .ok (.iastore, 1) := by decide +kernel
theorem dX12_goOver_177 : decode cX12_goOver 177 = .ok (.goto 49, 3) := by decide +kernel
theorem dX12_goOver_180 : decode cX12_goOver 180 = .ok (.iload 8, 2) := by decide +kernel
theorem dX12_goOver_182 : decode cX12_goOver 182 = .ok (.bipush 7, 2) := by decide +kernel
theorem dX12_goOver_184 : decode cX12_goOver 184 = .ok (.if_icmp .ne 38, 3) := by decide +kernel
theorem dX12_goOver_187 : decode cX12_goOver 187 = .ok (.iinc 6 (-1), 3) := by decide +kernel
theorem dX12_goOver_190 : decode cX12_goOver 190 = .ok (.aload_n 0, 1) := by decide +kernel
theorem dX12_goOver_191 : decode cX12_goOver 191 = .ok (.dup, 1) := by decide +kernel
theorem dX12_goOver_192 : decode cX12_goOver 192 = .ok (.getfield 297, 3) := by decide +kernel
theorem dX12_goOver_195 : decode cX12_goOver 195 = .ok (.iconst 1, 1) := by decide +kernel
theorem dX12_goOver_196 : decode cX12_goOver 196 = .ok (.iadd, 1) := by decide +kernel
theorem dX12_goOver_197 : decode cX12_goOver 197 = .ok (.putfield 297, 3) := by decide +kernel
theorem dX12_goOver_200 : decode cX12_goOver 200 = .ok (.aload_n 0, 1) := by decide +kernel
theorem dX12_goOver_201 : decode cX12_goOver 201 = .ok (.getfield 121, 3) := by decide +kernel
theorem dX12_goOver_204 : decode cX12_goOver 204 = .ok (.iload 6, 2) := by decide +kernel
theorem dX12_goOver_206 : decode cX12_goOver 206 = .ok (.iaload, 1) := by decide +kernel
theorem dX12_goOver_207 : decode cX12_goOver 207 = .ok (.ifCond .ne 8, 3) := by decide +kernel
theorem dX12_goOver_210 : decode cX12_goOver 210 = .ok (.iload 9, 2) := by decide +kernel
theorem dX12_goOver_212 : decode cX12_goOver 212 = .ok (.goto 5, 3) := by decide +kernel
theorem dX12_goOver_215 : decode cX12_goOver 215 = .ok (.iload 5, 2) := by decide +kernel
theorem dX12_goOver_217 : decode cX12_goOver 217 = .ok (.istore 5, 2) := by decide +kernel
theorem dX12_goOver_219 : decode cX12_goOver 219 = .ok (.goto 7, 3) := by decide +kernel
theorem dX12_goOver_222 : decode cX12_goOver 222 = .ok (.iload 9, 2) := by decide +kernel
theorem dX12_goOver_224 : decode cX12_goOver 224 = .ok (.istore 5, 2) := by decide +kernel
theorem dX12_goOver_226 : decode cX12_goOver 226 = .ok (.aload_n 0, 1) := by decide +kernel
theorem dX12_goOver_227 : decode cX12_goOver 227 = .ok (.getfield 297, 3) := by decide +kernel
theorem dX12_goOver_230 : decode cX12_goOver 230 = .ok (.iload 4, 2) := by decide +kernel
theorem dX12_goOver_232 : decode cX12_goOver 232 = .ok (.if_icmp .le 6, 3) := by decide +kernel
theorem dX12_goOver_235 : decode cX12_goOver 235 = .ok (.iload_n 3, 1) := by decide +kernel
theorem dX12_goOver_236 : decode cX12_goOver 236 = .ok (.istore 7, 2) := by decide +kernel
theorem dX12_goOver_238 : decode cX12_goOver 238 = .ok (.iinc 7 1, 3) := by decide +kernel
theorem dX12_goOver_241 : decode cX12_goOver 241 = .ok (.goto (-197), 3) := by decide +kernel
theorem dX12_goOver_244 : decode cX12_goOver 244 = .ok (.iconst 0, 1) := by decide +kernel
theorem dX12_goOver_245 : decode cX12_goOver 245 = .ok (.istore 7, 2) := by decide +kernel
theorem dX12_goOver_247 : decode cX12_goOver 247 = .ok (.iload 7, 2) := by decide +kernel
theorem dX12_goOver_249 : decode cX12_goOver 249 = .ok (.bipush 8, 2) := by decide +kernel
theorem dX12_goOver_251 : decode cX12_goOver 251 = .ok (.if_icmp .ge 23, 3) := by decide +kernel
theorem dX12_goOver_254 : decode cX12_goOver 254 = .ok (.aload_n 0, 1) := by decide +kernel
theorem dX12_goOver_255 : decode cX12_goOver 255 = .ok (.getfield 27, 3) := by decide +kernel
theorem dX12_goOver_258 : decode cX12_goOver 258 = .ok (.iload 7, 2) := by decide +kernel
theorem dX12_goOver_260 : decode cX12_goOver 260 = .ok (.aload_n 0, 1) := by decide +kernel
theorem dX12_goOver_261 : decode cX12_goOver 261 = .ok (.getfield 30, 3) := by decide +kernel
theorem dX12_goOver_264 : decode cX12_goOver 264 = .ok (.iload 7, 2) := by decide +kernel
theorem dX12_goOver_266 : decode cX12_goOver 266 = .ok (.iaload, 1) := by decide +kernel
theorem dX12_goOver_267 : decode cX12_goOver 267 = .ok (.iastore, 1) := by decide +kernel
theorem dX12_goOver_268 : decode cX12_goOver 268 = .ok (.iinc 7 1, 3) := by decide +kernel
theorem dX12_goOver_271 : decode cX12_goOver 271 = .ok (.goto (-24), 3) := by decide +kernel
theorem dX12_goOver_274 : decode cX12_goOver 274 = .ok (.iconst (-1), 1) := by decide +kernel
theorem dX12_goOver_275 : decode cX12_goOver 275 = .ok (.ireturn, 1) := by decide +kernel
theorem dX12_run_0 : decode cX12_run 0 = .ok (.aload_n 0, 1) := by decide +kernel
theorem dX12_run_1 : decode cX12_run 1 = .ok (.iload_n 1, 1) := by decide +kernel
theorem dX12_run_2 : decode cX12_run 2 = .ok (.ifCond .lt 10, 3) := by decide +kernel
theorem dX12_run_5 : decode cX12_run 5 = .ok (.iload_n 1, 1) := by decide +kernel
theorem dX12_run_6 : decode cX12_run 6 = .ok (.sipush 2000, 3) := by decide +kernel
theorem dX12_run_9 : decode cX12_run 9 = .ok (.if_icmp .le 7, 3) := by decide +kernel
theorem dX12_run_12 : decode cX12_run 12 = .ok (.iconst 1, 1) := by decide +kernel
theorem dX12_run_13 : decode cX12_run 13 = .ok (.goto 15, 3) := by decide +kernel
theorem dX12_run_16 : decode cX12_run 16 = .ok (.aload_n 0, 1) := by decide +kernel
theorem dX12_run_17 : decode cX12_run 17 = .ok (.getfield 254, 3) := by decide +kernel
theorem dX12_run_20 : decode cX12_run 20 = .ok (.ifCond .ne 7, 3) := by decide +kernel
theorem dX12_run_23 : decode cX12_run 23 = .ok (.iconst 2, 1) := by decide +kernel
theorem dX12_run_24 : decode cX12_run 24 = .ok (.goto 4, 3) := by decide +kernel
theorem dX12_run_27 : decode cX12_run 27 = .ok (.iconst 0, 1) := by decide +kernel
theorem dX12_run_28 : decode cX12_run 28 = .ok (.putfield 124, 3) := by decide +kernel
theorem dX12_run_31 : decode cX12_run 31 = .ok (.aload_n 0, 1) := by decide +kernel
theorem dX12_run_32 : decode cX12_run 32 = .ok (.getfield 124, 3) := by decide +kernel
theorem dX12_run_35 : decode cX12_run 35 = .ok (.ifCond .le 7, 3) := by decide +kernel
theorem dX12_run_38 : decode cX12_run 38 = .ok (.iconst 0, 1) := by decide +kernel
theorem dX12_run_39 : decode cX12_run 39 = .ok (.goto 19, 3) := by decide +kernel
theorem dX12_run_42 : decode cX12_run 42 = .ok (.aload_n 0, 1) := by decide +kernel
theorem dX12_run_43 : decode cX12_run 43 = .ok (.aload_n 0, 1) := by decide +kernel
theorem dX12_run_44 : decode cX12_run 44 = .ok (.getfield 94, 3) := by decide +kernel
theorem dX12_run_47 : decode cX12_run 47 = .ok (.aload_n 0, 1) := by decide +kernel
theorem dX12_run_48 : decode cX12_run 48 = .ok (.getfield 97, 3) := by decide +kernel
theorem dX12_run_51 : decode cX12_run 51 = .ok (.iload_n 1, 1) := by decide +kernel
theorem dX12_run_52 : decode cX12_run 52 = .ok (.sipush 5000, 3) := by decide +kernel
theorem dX12_run_55 : decode cX12_run 55 = .ok (.invokevirtual 304, 3) := by decide +kernel
theorem dX12_run_58 : decode cX12_run 58 = .ok (.ireturn, 1) := by decide +kernel
theorem dX12_follow_0 : decode cX12_follow 0 = .ok (.aload_n 0, 1) := by decide +kernel
theorem dX12_follow_1 : decode cX12_follow 1 = .ok (.iconst 0, 1) := by decide +kernel
theorem dX12_follow_2 : decode cX12_follow 2 = .ok (.putfield 124, 3) := by decide +kernel
theorem dX12_follow_5 : decode cX12_follow 5 = .ok (.aload_n 0, 1) := by decide +kernel
theorem dX12_follow_6 : decode cX12_follow 6 = .ok (.getfield 248, 3) := by decide +kernel
theorem dX12_follow_9 : decode cX12_follow 9 = .ok (.ifCond .eq 14, 3) := by decide +kernel
theorem dX12_follow_12 : decode cX12_follow 12 = .ok (.iload_n 1, 1) := by decide +kernel
theorem dX12_follow_13 : decode cX12_follow 13 = .ok (.ifCond .lt 10, 3) := by decide +kernel
theorem dX12_follow_16 : decode cX12_follow 16 = .ok (.iload_n 1, 1) := by decide +kernel
theorem dX12_follow_17 : decode cX12_follow 17 = .ok (.sipush 500, 3) := by decide +kernel
theorem dX12_follow_20 : decode cX12_follow 20 = .ok (.if_icmp .le 5, 3) := by decide +kernel
theorem dX12_follow_23 : decode cX12_follow 23 = .ok (.iconst (-1), 1) := by decide +kernel
theorem dX12_follow_24 : decode cX12_follow 24 = .ok (.ireturn, 1) := by decide +kernel
theorem dX12_follow_25 : decode cX12_follow 25 = .ok (.aload_n 0, 1) := by decide +kernel
theorem dX12_follow_26 : decode cX12_follow 26 = .ok (.aload_n 0, 1) := by decide +kernel
theorem dX12_follow_27 : decode cX12_follow 27 = .ok (.getfield 85, 3) := by decide +kernel
theorem dX12_follow_30 : decode cX12_follow 30 = .ok (.aload_n 0, 1) := by decide +kernel
theorem dX12_follow_31 : decode cX12_follow 31 = .ok (.getfield 88, 3) := by decide +kernel
theorem dX12_follow_34 : decode cX12_follow 34 = .ok (.ldc_w 308, 3) := by decide +kernel
theorem dX12_follow_37 : decode cX12_follow 37 = .ok (.iload_n 1, 1) := by decide +kernel
theorem dX12_follow_38 : decode cX12_follow 38 = .ok (.invokevirtual 304, 3) := by decide +kernel
theorem dX12_follow_41 : decode cX12_follow 41 = .ok (.istore_n 2, 1) := by decide +kernel
theorem dX12_follow_42 : decode cX12_follow 42 = .ok (.iload_n 2, 1) := by decide +kernel
theorem dX12_follow_43 : decode cX12_follow 43 = .ok (.ifCond .ge 7, 3) := by decide +kernel
theorem dX12_follow_46 : decode cX12_follow 46 = .ok (.iconst (-1), 1) := by decide +kernel
theorem dX12_follow_47 : decode cX12_follow 47 = .ok (.goto 7, 3) := by decide +kernel
theorem dX12_follow_50 : decode cX12_follow 50 = .ok (.aload_n 0, 1) := by decide +kernel
theorem dX12_follow_51 : decode cX12_follow 51 = .ok (.getfield 297, 3) := by decide +kernel
theorem dX12_follow_54 : decode cX12_follow 54 = .ok (.ireturn, 1) := by decide +kernel
theorem dL_levels_0 : decode cL_levels 0 = .ok (.aload 4, 2) := by decide +kernel
theorem dL_levels_2 : decode cL_levels 2 = .ok (.iconst 0, 1) := by decide +kernel
theorem dL_levels_3 : decode cL_levels 3 = .ok (.aload_n 0, 1) := by decide +kernel
theorem dL_levels_4 : decode cL_levels 4 = .ok (.iload_n 1, 1) := by decide +kernel
theorem dL_levels_5 : decode cL_levels 5 = .ok (.lload_n 2, 1) := by decide +kernel
theorem dL_levels_6 : decode cL_levels 6 = .ok (.invokevirtual 7, 3) := by decide +kernel
theorem dL_levels_9 : decode cL_levels 9 = .ok (.ifCond .eq 7, 3) := by decide +kernel
theorem dL_levels_12 : decode cL_levels 12 = .ok (.lconst 1, 1) := by decide +kernel
theorem dL_levels_13 : decode cL_levels 13 = .ok (.goto 4, 3) := by decide +kernel
theorem dL_levels_16 : decode cL_levels 16 = .ok (.lconst 0, 1) := by decide +kernel
theorem dL_levels_17 : decode cL_levels 17 = .ok (.lastore, 1) := by decide +kernel
theorem dL_levels_18 : decode cL_levels 18 = .ok (.goto 11, 3) := by decide +kernel
theorem dL_levels_21 : decode cL_levels 21 = .ok (.astore 5, 2) := by decide +kernel
theorem dL_levels_23 : decode cL_levels 23 = .ok (.iconst 1, 1) := by decide +kernel
theorem dL_levels_24 : decode cL_levels 24 = .ok (.ireturn, 1) := by decide +kernel
theorem dL_levels_25 : decode cL_levels 25 = .ok (.astore 5, 2) := by decide +kernel
theorem dL_levels_27 : decode cL_levels 27 = .ok (.iconst 2, 1) := by decide +kernel
theorem dL_levels_28 : decode cL_levels 28 = .ok (.ireturn, 1) := by decide +kernel
theorem dL_levels_29 : decode cL_levels 29 = .ok (.iconst 0, 1) := by decide +kernel
theorem dL_levels_30 : decode cL_levels 30 = .ok (.ireturn, 1) := by decide +kernel
theorem dL_compile_0 : decode cL_compile 0 = .ok (.aload_n 1, 1) := by decide +kernel
theorem dL_compile_1 : decode cL_compile 1 = .ok (.iconst 0, 1) := by decide +kernel
theorem dL_compile_2 : decode cL_compile 2 = .ok (.aload_n 0, 1) := by decide +kernel
theorem dL_compile_3 : decode cL_compile 3 = .ok (.invokevirtual 17, 3) := by decide +kernel
theorem dL_compile_6 : decode cL_compile 6 = .ok (.i2l, 1) := by decide +kernel
theorem dL_compile_7 : decode cL_compile 7 = .ok (.lastore, 1) := by decide +kernel
theorem dL_compile_8 : decode cL_compile 8 = .ok (.goto 9, 3) := by decide +kernel
theorem dL_compile_11 : decode cL_compile 11 = .ok (.astore_n 2, 1) := by decide +kernel
theorem dL_compile_12 : decode cL_compile 12 = .ok (.iconst 1, 1) := by decide +kernel
theorem dL_compile_13 : decode cL_compile 13 = .ok (.ireturn, 1) := by decide +kernel
theorem dL_compile_14 : decode cL_compile 14 = .ok (.astore_n 2, 1) := by decide +kernel
theorem dL_compile_15 : decode cL_compile 15 = .ok (.iconst 2, 1) := by decide +kernel
theorem dL_compile_16 : decode cL_compile 16 = .ok (.ireturn, 1) := by decide +kernel
theorem dL_compile_17 : decode cL_compile 17 = .ok (.iconst 0, 1) := by decide +kernel
theorem dL_compile_18 : decode cL_compile 18 = .ok (.ireturn, 1) := by decide +kernel
theorem dL_verify_0 : decode cL_verify 0 = .ok (.aload_n 1, 1) := by decide +kernel
theorem dL_verify_1 : decode cL_verify 1 = .ok (.iconst 0, 1) := by decide +kernel
theorem dL_verify_2 : decode cL_verify 2 = .ok (.aload_n 0, 1) := by decide +kernel
theorem dL_verify_3 : decode cL_verify 3 = .ok (.invokevirtual 21, 3) := by decide +kernel
theorem dL_verify_6 : decode cL_verify 6 = .ok (.i2l, 1) := by decide +kernel
theorem dL_verify_7 : decode cL_verify 7 = .ok (.lastore, 1) := by decide +kernel
theorem dL_verify_8 : decode cL_verify 8 = .ok (.goto 9, 3) := by decide +kernel
theorem dL_verify_11 : decode cL_verify 11 = .ok (.astore_n 2, 1) := by decide +kernel
theorem dL_verify_12 : decode cL_verify 12 = .ok (.iconst 1, 1) := by decide +kernel
theorem dL_verify_13 : decode cL_verify 13 = .ok (.ireturn, 1) := by decide +kernel
theorem dL_verify_14 : decode cL_verify 14 = .ok (.astore_n 2, 1) := by decide +kernel
theorem dL_verify_15 : decode cL_verify 15 = .ok (.iconst 2, 1) := by decide +kernel
theorem dL_verify_16 : decode cL_verify 16 = .ok (.ireturn, 1) := by decide +kernel
theorem dL_verify_17 : decode cL_verify 17 = .ok (.iconst 0, 1) := by decide +kernel
theorem dL_verify_18 : decode cL_verify 18 = .ok (.ireturn, 1) := by decide +kernel
theorem dL_run_0 : decode cL_run 0 = .ok (.aload_n 2, 1) := by decide +kernel
theorem dL_run_1 : decode cL_run 1 = .ok (.iconst 0, 1) := by decide +kernel
theorem dL_run_2 : decode cL_run 2 = .ok (.aload_n 0, 1) := by decide +kernel
theorem dL_run_3 : decode cL_run 3 = .ok (.iload_n 1, 1) := by decide +kernel
theorem dL_run_4 : decode cL_run 4 = .ok (.invokevirtual 24, 3) := by decide +kernel
theorem dL_run_7 : decode cL_run 7 = .ok (.i2l, 1) := by decide +kernel
theorem dL_run_8 : decode cL_run 8 = .ok (.lastore, 1) := by decide +kernel
theorem dL_run_9 : decode cL_run 9 = .ok (.goto 9, 3) := by decide +kernel
theorem dL_run_12 : decode cL_run 12 = .ok (.astore_n 3, 1) := by decide +kernel
theorem dL_run_13 : decode cL_run 13 = .ok (.iconst 1, 1) := by decide +kernel
theorem dL_run_14 : decode cL_run 14 = .ok (.ireturn, 1) := by decide +kernel
theorem dL_run_15 : decode cL_run 15 = .ok (.astore_n 3, 1) := by decide +kernel
theorem dL_run_16 : decode cL_run 16 = .ok (.iconst 2, 1) := by decide +kernel
theorem dL_run_17 : decode cL_run 17 = .ok (.ireturn, 1) := by decide +kernel
theorem dL_run_18 : decode cL_run 18 = .ok (.iconst 0, 1) := by decide +kernel
theorem dL_run_19 : decode cL_run 19 = .ok (.ireturn, 1) := by decide +kernel
theorem dL_law_0 : decode cL_law 0 = .ok (.new 8, 3) := by decide +kernel
theorem dL_law_3 : decode cL_law 3 = .ok (.dup, 1) := by decide +kernel
theorem dL_law_4 : decode cL_law 4 = .ok (.invokespecial 28, 3) := by decide +kernel
theorem dL_law_7 : decode cL_law 7 = .ok (.astore_n 1, 1) := by decide +kernel
theorem dL_law_8 : decode cL_law 8 = .ok (.new 29, 3) := by decide +kernel
theorem dL_law_11 : decode cL_law 11 = .ok (.dup, 1) := by decide +kernel
theorem dL_law_12 : decode cL_law 12 = .ok (.invokespecial 31, 3) := by decide +kernel
theorem dL_law_15 : decode cL_law 15 = .ok (.astore_n 2, 1) := by decide +kernel
theorem dL_law_16 : decode cL_law 16 = .ok (.iconst 1, 1) := by decide +kernel
theorem dL_law_17 : decode cL_law 17 = .ok (.newarray .long, 2) := by decide +kernel
theorem dL_law_19 : decode cL_law 19 = .ok (.astore_n 3, 1) := by decide +kernel
theorem dL_law_20 : decode cL_law 20 = .ok (.iconst 0, 1) := by decide +kernel
theorem dL_law_21 : decode cL_law 21 = .ok (.istore 4, 2) := by decide +kernel
theorem dL_law_23 : decode cL_law 23 = .ok (.iload 4, 2) := by decide +kernel
theorem dL_law_25 : decode cL_law 25 = .ok (.aload_n 0, 1) := by decide +kernel
theorem dL_law_26 : decode cL_law 26 = .ok (.arraylength, 1) := by decide +kernel
theorem dL_law_27 : decode cL_law 27 = .ok (.iconst 4, 1) := by decide +kernel
theorem dL_law_28 : decode cL_law 28 = .ok (.isub, 1) := by decide +kernel
theorem dL_law_29 : decode cL_law 29 = .ok (.if_icmp .gt 734, 3) := by decide +kernel
theorem dL_law_32 : decode cL_law 32 = .ok (.aload_n 0, 1) := by decide +kernel
theorem dL_law_33 : decode cL_law 33 = .ok (.iload 4, 2) := by decide +kernel
theorem dL_law_35 : decode cL_law 35 = .ok (.iaload, 1) := by decide +kernel
theorem dL_law_36 : decode cL_law 36 = .ok (.bipush 15, 2) := by decide +kernel
theorem dL_law_38 : decode cL_law 38 = .ok (.iand, 1) := by decide +kernel
theorem dL_law_39 : decode cL_law 39 = .ok (.tableswitch 718 0 15 #[77, 184, 221, 270, 327, 371, 384, 409, 446, 457, 494, 538, 575, 612, 637, 693], 77) := by decide +kernel
theorem dL_law_116 : decode cL_law 116 = .ok (.aload_n 1, 1) := by decide +kernel
theorem dL_law_117 : decode cL_law 117 = .ok (.aload_n 0, 1) := by decide +kernel
theorem dL_law_118 : decode cL_law 118 = .ok (.iload 4, 2) := by decide +kernel
theorem dL_law_120 : decode cL_law 120 = .ok (.iconst 1, 1) := by decide +kernel
theorem dL_law_121 : decode cL_law 121 = .ok (.iadd, 1) := by decide +kernel
theorem dL_law_122 : decode cL_law 122 = .ok (.iaload, 1) := by decide +kernel
theorem dL_law_123 : decode cL_law 123 = .ok (.aload_n 0, 1) := by decide +kernel
theorem dL_law_124 : decode cL_law 124 = .ok (.iload 4, 2) := by decide +kernel
theorem dL_law_126 : decode cL_law 126 = .ok (.iconst 2, 1) := by decide +kernel
theorem dL_law_127 : decode cL_law 127 = .ok (.iadd, 1) := by decide +kernel
theorem dL_law_128 : decode cL_law 128 = .ok (.iaload, 1) := by decide +kernel
theorem dL_law_129 : decode cL_law 129 = .ok (.i2l, 1) := by decide +kernel
theorem dL_law_130 : decode cL_law 130 = .ok (.bipush 32, 2) := by decide +kernel
theorem dL_law_132 : decode cL_law 132 = .ok (.lshl, 1) := by decide +kernel
theorem dL_law_133 : decode cL_law 133 = .ok (.aload_n 0, 1) := by decide +kernel
theorem dL_law_134 : decode cL_law 134 = .ok (.iload 4, 2) := by decide +kernel
theorem dL_law_136 : decode cL_law 136 = .ok (.iconst 3, 1) := by decide +kernel
theorem dL_law_137 : decode cL_law 137 = .ok (.iadd, 1) := by decide +kernel
theorem dL_law_138 : decode cL_law 138 = .ok (.iaload, 1) := by decide +kernel
theorem dL_law_139 : decode cL_law 139 = .ok (.i2l, 1) := by decide +kernel
theorem dL_law_140 : decode cL_law 140 = .ok (.ldc2_w 32, 3) := by decide +kernel
theorem dL_law_143 : decode cL_law 143 = .ok (.land, 1) := by decide +kernel
theorem dL_law_144 : decode cL_law 144 = .ok (.lor, 1) := by decide +kernel
theorem dL_law_145 : decode cL_law 145 = .ok (.aload_n 3, 1) := by decide +kernel
theorem dL_law_146 : decode cL_law 146 = .ok (.invokestatic 34, 3) := by decide +kernel
theorem dL_law_149 : decode cL_law 149 = .ok (.istore 5, 2) := by decide +kernel
theorem dL_law_151 : decode cL_law 151 = .ok (.aload_n 2, 1) := by decide +kernel
theorem dL_law_152 : decode cL_law 152 = .ok (.aload_n 0, 1) := by decide +kernel
theorem dL_law_153 : decode cL_law 153 = .ok (.iload 4, 2) := by decide +kernel
theorem dL_law_155 : decode cL_law 155 = .ok (.iconst 1, 1) := by decide +kernel
theorem dL_law_156 : decode cL_law 156 = .ok (.iadd, 1) := by decide +kernel
theorem dL_law_157 : decode cL_law 157 = .ok (.iaload, 1) := by decide +kernel
theorem dL_law_158 : decode cL_law 158 = .ok (.aload_n 0, 1) := by decide +kernel
theorem dL_law_159 : decode cL_law 159 = .ok (.iload 4, 2) := by decide +kernel
theorem dL_law_161 : decode cL_law 161 = .ok (.iconst 2, 1) := by decide +kernel
theorem dL_law_162 : decode cL_law 162 = .ok (.iadd, 1) := by decide +kernel
theorem dL_law_163 : decode cL_law 163 = .ok (.iaload, 1) := by decide +kernel
theorem dL_law_164 : decode cL_law 164 = .ok (.i2l, 1) := by decide +kernel
theorem dL_law_165 : decode cL_law 165 = .ok (.bipush 32, 2) := by decide +kernel
theorem dL_law_167 : decode cL_law 167 = .ok (.lshl, 1) := by decide +kernel
theorem dL_law_168 : decode cL_law 168 = .ok (.aload_n 0, 1) := by decide +kernel
theorem dL_law_169 : decode cL_law 169 = .ok (.iload 4, 2) := by decide +kernel
theorem dL_law_171 : decode cL_law 171 = .ok (.iconst 3, 1) := by decide +kernel
theorem dL_law_172 : decode cL_law 172 = .ok (.iadd, 1) := by decide +kernel
theorem dL_law_173 : decode cL_law 173 = .ok (.iaload, 1) := by decide +kernel
theorem dL_law_174 : decode cL_law 174 = .ok (.i2l, 1) := by decide +kernel
theorem dL_law_175 : decode cL_law 175 = .ok (.ldc2_w 32, 3) := by decide +kernel
theorem dL_law_178 : decode cL_law 178 = .ok (.land, 1) := by decide +kernel
theorem dL_law_179 : decode cL_law 179 = .ok (.lor, 1) := by decide +kernel
theorem dL_law_180 : decode cL_law 180 = .ok (.invokevirtual 39, 3) := by decide +kernel
theorem dL_law_183 : decode cL_law 183 = .ok (.istore 6, 2) := by decide +kernel
theorem dL_law_185 : decode cL_law 185 = .ok (.aload_n 2, 1) := by decide +kernel
theorem dL_law_186 : decode cL_law 186 = .ok (.invokevirtual 40, 3) := by decide +kernel
theorem dL_law_189 : decode cL_law 189 = .ok (.iload 5, 2) := by decide +kernel
theorem dL_law_191 : decode cL_law 191 = .ok (.if_icmp .eq 5, 3) := by decide +kernel
theorem dL_law_194 : decode cL_law 194 = .ok (.iconst 0, 1) := by decide +kernel
theorem dL_law_195 : decode cL_law 195 = .ok (.ireturn, 1) := by decide +kernel
theorem dL_law_196 : decode cL_law 196 = .ok (.iload 5, 2) := by decide +kernel
theorem dL_law_198 : decode cL_law 198 = .ok (.ifCond .ne 22, 3) := by decide +kernel
theorem dL_law_201 : decode cL_law 201 = .ok (.aload_n 3, 1) := by decide +kernel
theorem dL_law_202 : decode cL_law 202 = .ok (.iconst 0, 1) := by decide +kernel
theorem dL_law_203 : decode cL_law 203 = .ok (.laload, 1) := by decide +kernel
theorem dL_law_204 : decode cL_law 204 = .ok (.iload 6, 2) := by decide +kernel
theorem dL_law_206 : decode cL_law 206 = .ok (.ifCond .eq 7, 3) := by decide +kernel
theorem dL_law_209 : decode cL_law 209 = .ok (.lconst 1, 1) := by decide +kernel
theorem dL_law_210 : decode cL_law 210 = .ok (.goto 4, 3) := by decide +kernel
theorem dL_law_213 : decode cL_law 213 = .ok (.lconst 0, 1) := by decide +kernel
theorem dL_law_214 : decode cL_law 214 = .ok (.lcmp, 1) := by decide +kernel
theorem dL_law_215 : decode cL_law 215 = .ok (.ifCond .eq 5, 3) := by decide +kernel
theorem dL_law_218 : decode cL_law 218 = .ok (.iconst 0, 1) := by decide +kernel
theorem dL_law_219 : decode cL_law 219 = .ok (.ireturn, 1) := by decide +kernel
theorem dL_law_220 : decode cL_law 220 = .ok (.goto 537, 3) := by decide +kernel
theorem dL_law_223 : decode cL_law 223 = .ok (.aload_n 1, 1) := by decide +kernel
theorem dL_law_224 : decode cL_law 224 = .ok (.aload_n 0, 1) := by decide +kernel
theorem dL_law_225 : decode cL_law 225 = .ok (.iload 4, 2) := by decide +kernel
theorem dL_law_227 : decode cL_law 227 = .ok (.iconst 1, 1) := by decide +kernel
theorem dL_law_228 : decode cL_law 228 = .ok (.iadd, 1) := by decide +kernel
theorem dL_law_229 : decode cL_law 229 = .ok (.iaload, 1) := by decide +kernel
theorem dL_law_230 : decode cL_law 230 = .ok (.aload_n 0, 1) := by decide +kernel
theorem dL_law_231 : decode cL_law 231 = .ok (.iload 4, 2) := by decide +kernel
theorem dL_law_233 : decode cL_law 233 = .ok (.iconst 2, 1) := by decide +kernel
theorem dL_law_234 : decode cL_law 234 = .ok (.iadd, 1) := by decide +kernel
theorem dL_law_235 : decode cL_law 235 = .ok (.iaload, 1) := by decide +kernel
theorem dL_law_236 : decode cL_law 236 = .ok (.invokevirtual 43, 3) := by decide +kernel
theorem dL_law_239 : decode cL_law 239 = .ok (.aload_n 2, 1) := by decide +kernel
theorem dL_law_240 : decode cL_law 240 = .ok (.aload_n 0, 1) := by decide +kernel
theorem dL_law_241 : decode cL_law 241 = .ok (.iload 4, 2) := by decide +kernel
theorem dL_law_243 : decode cL_law 243 = .ok (.iconst 1, 1) := by decide +kernel
theorem dL_law_244 : decode cL_law 244 = .ok (.iadd, 1) := by decide +kernel
theorem dL_law_245 : decode cL_law 245 = .ok (.iaload, 1) := by decide +kernel
theorem dL_law_246 : decode cL_law 246 = .ok (.aload_n 0, 1) := by decide +kernel
theorem dL_law_247 : decode cL_law 247 = .ok (.iload 4, 2) := by decide +kernel
theorem dL_law_249 : decode cL_law 249 = .ok (.iconst 2, 1) := by decide +kernel
theorem dL_law_250 : decode cL_law 250 = .ok (.iadd, 1) := by decide +kernel
theorem dL_law_251 : decode cL_law 251 = .ok (.iaload, 1) := by decide +kernel
theorem dL_law_252 : decode cL_law 252 = .ok (.invokevirtual 47, 3) := by decide +kernel
theorem dL_law_255 : decode cL_law 255 = .ok (.if_icmp .eq 502, 3) := by decide +kernel
theorem dL_law_258 : decode cL_law 258 = .ok (.iconst 0, 1) := by decide +kernel
theorem dL_law_259 : decode cL_law 259 = .ok (.ireturn, 1) := by decide +kernel
theorem dL_law_260 : decode cL_law 260 = .ok (.aload_n 1, 1) := by decide +kernel
theorem dL_law_261 : decode cL_law 261 = .ok (.aload_n 0, 1) := by decide +kernel
theorem dL_law_262 : decode cL_law 262 = .ok (.iload 4, 2) := by decide +kernel
theorem dL_law_264 : decode cL_law 264 = .ok (.iconst 1, 1) := by decide +kernel
theorem dL_law_265 : decode cL_law 265 = .ok (.iadd, 1) := by decide +kernel
theorem dL_law_266 : decode cL_law 266 = .ok (.iaload, 1) := by decide +kernel
theorem dL_law_267 : decode cL_law 267 = .ok (.aload_n 0, 1) := by decide +kernel
theorem dL_law_268 : decode cL_law 268 = .ok (.iload 4, 2) := by decide +kernel
theorem dL_law_270 : decode cL_law 270 = .ok (.iconst 2, 1) := by decide +kernel
theorem dL_law_271 : decode cL_law 271 = .ok (.iadd, 1) := by decide +kernel
theorem dL_law_272 : decode cL_law 272 = .ok (.iaload, 1) := by decide +kernel
theorem dL_law_273 : decode cL_law 273 = .ok (.aload_n 0, 1) := by decide +kernel
theorem dL_law_274 : decode cL_law 274 = .ok (.iload 4, 2) := by decide +kernel
theorem dL_law_276 : decode cL_law 276 = .ok (.iconst 3, 1) := by decide +kernel
theorem dL_law_277 : decode cL_law 277 = .ok (.iadd, 1) := by decide +kernel
theorem dL_law_278 : decode cL_law 278 = .ok (.iaload, 1) := by decide +kernel
theorem dL_law_279 : decode cL_law 279 = .ok (.invokevirtual 48, 3) := by decide +kernel
theorem dL_law_282 : decode cL_law 282 = .ok (.aload_n 2, 1) := by decide +kernel
theorem dL_law_283 : decode cL_law 283 = .ok (.aload_n 0, 1) := by decide +kernel
theorem dL_law_284 : decode cL_law 284 = .ok (.iload 4, 2) := by decide +kernel
theorem dL_law_286 : decode cL_law 286 = .ok (.iconst 1, 1) := by decide +kernel
theorem dL_law_287 : decode cL_law 287 = .ok (.iadd, 1) := by decide +kernel
theorem dL_law_288 : decode cL_law 288 = .ok (.iaload, 1) := by decide +kernel
theorem dL_law_289 : decode cL_law 289 = .ok (.aload_n 0, 1) := by decide +kernel
theorem dL_law_290 : decode cL_law 290 = .ok (.iload 4, 2) := by decide +kernel
theorem dL_law_292 : decode cL_law 292 = .ok (.iconst 2, 1) := by decide +kernel
theorem dL_law_293 : decode cL_law 293 = .ok (.iadd, 1) := by decide +kernel
theorem dL_law_294 : decode cL_law 294 = .ok (.iaload, 1) := by decide +kernel
theorem dL_law_295 : decode cL_law 295 = .ok (.aload_n 0, 1) := by decide +kernel
theorem dL_law_296 : decode cL_law 296 = .ok (.iload 4, 2) := by decide +kernel
theorem dL_law_298 : decode cL_law 298 = .ok (.iconst 3, 1) := by decide +kernel
theorem dL_law_299 : decode cL_law 299 = .ok (.iadd, 1) := by decide +kernel
theorem dL_law_300 : decode cL_law 300 = .ok (.iaload, 1) := by decide +kernel
theorem dL_law_301 : decode cL_law 301 = .ok (.invokevirtual 52, 3) := by decide +kernel
theorem dL_law_304 : decode cL_law 304 = .ok (.if_icmp .eq 453, 3) := by decide +kernel
theorem dL_law_307 : decode cL_law 307 = .ok (.iconst 0, 1) := by decide +kernel
theorem dL_law_308 : decode cL_law 308 = .ok (.ireturn, 1) := by decide +kernel
theorem dL_law_309 : decode cL_law 309 = .ok (.aload_n 1, 1) := by decide +kernel
theorem dL_law_310 : decode cL_law 310 = .ok (.aload_n 0, 1) := by decide +kernel
theorem dL_law_311 : decode cL_law 311 = .ok (.iload 4, 2) := by decide +kernel
theorem dL_law_313 : decode cL_law 313 = .ok (.iconst 1, 1) := by decide +kernel
theorem dL_law_314 : decode cL_law 314 = .ok (.iadd, 1) := by decide +kernel
theorem dL_law_315 : decode cL_law 315 = .ok (.iaload, 1) := by decide +kernel
theorem dL_law_316 : decode cL_law 316 = .ok (.i2l, 1) := by decide +kernel
theorem dL_law_317 : decode cL_law 317 = .ok (.bipush 32, 2) := by decide +kernel
theorem dL_law_319 : decode cL_law 319 = .ok (.lshl, 1) := by decide +kernel
theorem dL_law_320 : decode cL_law 320 = .ok (.aload_n 0, 1) := by decide +kernel
theorem dL_law_321 : decode cL_law 321 = .ok (.iload 4, 2) := by decide +kernel
theorem dL_law_323 : decode cL_law 323 = .ok (.iconst 2, 1) := by decide +kernel
theorem dL_law_324 : decode cL_law 324 = .ok (.iadd, 1) := by decide +kernel
theorem dL_law_325 : decode cL_law 325 = .ok (.iaload, 1) := by decide +kernel
theorem dL_law_326 : decode cL_law 326 = .ok (.i2l, 1) := by decide +kernel
theorem dL_law_327 : decode cL_law 327 = .ok (.ldc2_w 32, 3) := by decide +kernel
theorem dL_law_330 : decode cL_law 330 = .ok (.land, 1) := by decide +kernel
theorem dL_law_331 : decode cL_law 331 = .ok (.lor, 1) := by decide +kernel
theorem dL_law_332 : decode cL_law 332 = .ok (.invokevirtual 53, 3) := by decide +kernel
theorem dL_law_335 : decode cL_law 335 = .ok (.aload_n 2, 1) := by decide +kernel
theorem dL_law_336 : decode cL_law 336 = .ok (.aload_n 0, 1) := by decide +kernel
theorem dL_law_337 : decode cL_law 337 = .ok (.iload 4, 2) := by decide +kernel
theorem dL_law_339 : decode cL_law 339 = .ok (.iconst 1, 1) := by decide +kernel
theorem dL_law_340 : decode cL_law 340 = .ok (.iadd, 1) := by decide +kernel
theorem dL_law_341 : decode cL_law 341 = .ok (.iaload, 1) := by decide +kernel
theorem dL_law_342 : decode cL_law 342 = .ok (.i2l, 1) := by decide +kernel
theorem dL_law_343 : decode cL_law 343 = .ok (.bipush 32, 2) := by decide +kernel
theorem dL_law_345 : decode cL_law 345 = .ok (.lshl, 1) := by decide +kernel
theorem dL_law_346 : decode cL_law 346 = .ok (.aload_n 0, 1) := by decide +kernel
theorem dL_law_347 : decode cL_law 347 = .ok (.iload 4, 2) := by decide +kernel
theorem dL_law_349 : decode cL_law 349 = .ok (.iconst 2, 1) := by decide +kernel
theorem dL_law_350 : decode cL_law 350 = .ok (.iadd, 1) := by decide +kernel
theorem dL_law_351 : decode cL_law 351 = .ok (.iaload, 1) := by decide +kernel
theorem dL_law_352 : decode cL_law 352 = .ok (.i2l, 1) := by decide +kernel
theorem dL_law_353 : decode cL_law 353 = .ok (.ldc2_w 32, 3) := by decide +kernel
theorem dL_law_356 : decode cL_law 356 = .ok (.land, 1) := by decide +kernel
theorem dL_law_357 : decode cL_law 357 = .ok (.lor, 1) := by decide +kernel
theorem dL_law_358 : decode cL_law 358 = .ok (.invokevirtual 57, 3) := by decide +kernel
theorem dL_law_361 : decode cL_law 361 = .ok (.if_icmp .eq 396, 3) := by decide +kernel
theorem dL_law_364 : decode cL_law 364 = .ok (.iconst 0, 1) := by decide +kernel
theorem dL_law_365 : decode cL_law 365 = .ok (.ireturn, 1) := by decide +kernel
theorem dL_law_366 : decode cL_law 366 = .ok (.aload_n 1, 1) := by decide +kernel
theorem dL_law_367 : decode cL_law 367 = .ok (.aload_n 3, 1) := by decide +kernel
theorem dL_law_368 : decode cL_law 368 = .ok (.invokestatic 58, 3) := by decide +kernel
theorem dL_law_371 : decode cL_law 371 = .ok (.istore 5, 2) := by decide +kernel
theorem dL_law_373 : decode cL_law 373 = .ok (.aload_n 2, 1) := by decide +kernel
theorem dL_law_374 : decode cL_law 374 = .ok (.invokevirtual 61, 3) := by decide +kernel
theorem dL_law_377 : decode cL_law 377 = .ok (.istore 6, 2) := by decide +kernel
theorem dL_law_379 : decode cL_law 379 = .ok (.aload_n 2, 1) := by decide +kernel
theorem dL_law_380 : decode cL_law 380 = .ok (.invokevirtual 40, 3) := by decide +kernel
theorem dL_law_383 : decode cL_law 383 = .ok (.iload 5, 2) := by decide +kernel
theorem dL_law_385 : decode cL_law 385 = .ok (.if_icmp .eq 5, 3) := by decide +kernel
theorem dL_law_388 : decode cL_law 388 = .ok (.iconst 0, 1) := by decide +kernel
theorem dL_law_389 : decode cL_law 389 = .ok (.ireturn, 1) := by decide +kernel
theorem dL_law_390 : decode cL_law 390 = .ok (.iload 5, 2) := by decide +kernel
theorem dL_law_392 : decode cL_law 392 = .ok (.ifCond .ne 15, 3) := by decide +kernel
theorem dL_law_395 : decode cL_law 395 = .ok (.aload_n 3, 1) := by decide +kernel
theorem dL_law_396 : decode cL_law 396 = .ok (.iconst 0, 1) := by decide +kernel
theorem dL_law_397 : decode cL_law 397 = .ok (.laload, 1) := by decide +kernel
theorem dL_law_398 : decode cL_law 398 = .ok (.iload 6, 2) := by decide +kernel
theorem dL_law_400 : decode cL_law 400 = .ok (.i2l, 1) := by decide +kernel
theorem dL_law_401 : decode cL_law 401 = .ok (.lcmp, 1) := by decide +kernel
theorem dL_law_402 : decode cL_law 402 = .ok (.ifCond .eq 5, 3) := by decide +kernel
theorem dL_law_405 : decode cL_law 405 = .ok (.iconst 0, 1) := by decide +kernel
theorem dL_law_406 : decode cL_law 406 = .ok (.ireturn, 1) := by decide +kernel
theorem dL_law_407 : decode cL_law 407 = .ok (.goto 350, 3) := by decide +kernel
theorem dL_law_410 : decode cL_law 410 = .ok (.aload_n 1, 1) := by decide +kernel
theorem dL_law_411 : decode cL_law 411 = .ok (.invokevirtual 62, 3) := by decide +kernel
theorem dL_law_414 : decode cL_law 414 = .ok (.aload_n 2, 1) := by decide +kernel
theorem dL_law_415 : decode cL_law 415 = .ok (.invokevirtual 65, 3) := by decide +kernel
theorem dL_law_418 : decode cL_law 418 = .ok (.if_icmp .eq 339, 3) := by decide +kernel
theorem dL_law_421 : decode cL_law 421 = .ok (.iconst 0, 1) := by decide +kernel
theorem dL_law_422 : decode cL_law 422 = .ok (.ireturn, 1) := by decide +kernel
theorem dL_law_423 : decode cL_law 423 = .ok (.aload_n 1, 1) := by decide +kernel
theorem dL_law_424 : decode cL_law 424 = .ok (.aload_n 0, 1) := by decide +kernel
theorem dL_law_425 : decode cL_law 425 = .ok (.iload 4, 2) := by decide +kernel
theorem dL_law_427 : decode cL_law 427 = .ok (.iconst 1, 1) := by decide +kernel
theorem dL_law_428 : decode cL_law 428 = .ok (.iadd, 1) := by decide +kernel
theorem dL_law_429 : decode cL_law 429 = .ok (.iaload, 1) := by decide +kernel
theorem dL_law_430 : decode cL_law 430 = .ok (.invokevirtual 66, 3) := by decide +kernel
theorem dL_law_433 : decode cL_law 433 = .ok (.aload_n 2, 1) := by decide +kernel
theorem dL_law_434 : decode cL_law 434 = .ok (.aload_n 0, 1) := by decide +kernel
theorem dL_law_435 : decode cL_law 435 = .ok (.iload 4, 2) := by decide +kernel
theorem dL_law_437 : decode cL_law 437 = .ok (.iconst 1, 1) := by decide +kernel
theorem dL_law_438 : decode cL_law 438 = .ok (.iadd, 1) := by decide +kernel
theorem dL_law_439 : decode cL_law 439 = .ok (.iaload, 1) := by decide +kernel
theorem dL_law_440 : decode cL_law 440 = .ok (.invokevirtual 69, 3) := by decide +kernel
theorem dL_law_443 : decode cL_law 443 = .ok (.if_icmp .eq 314, 3) := by decide +kernel
theorem dL_law_446 : decode cL_law 446 = .ok (.iconst 0, 1) := by decide +kernel
theorem dL_law_447 : decode cL_law 447 = .ok (.ireturn, 1) := by decide +kernel
theorem dL_law_448 : decode cL_law 448 = .ok (.aload_n 1, 1) := by decide +kernel
theorem dL_law_449 : decode cL_law 449 = .ok (.aload_n 0, 1) := by decide +kernel
theorem dL_law_450 : decode cL_law 450 = .ok (.iload 4, 2) := by decide +kernel
theorem dL_law_452 : decode cL_law 452 = .ok (.iconst 1, 1) := by decide +kernel
theorem dL_law_453 : decode cL_law 453 = .ok (.iadd, 1) := by decide +kernel
theorem dL_law_454 : decode cL_law 454 = .ok (.iaload, 1) := by decide +kernel
theorem dL_law_455 : decode cL_law 455 = .ok (.aload_n 0, 1) := by decide +kernel
theorem dL_law_456 : decode cL_law 456 = .ok (.iload 4, 2) := by decide +kernel
theorem dL_law_458 : decode cL_law 458 = .ok (.iconst 2, 1) := by decide +kernel
theorem dL_law_459 : decode cL_law 459 = .ok (.iadd, 1) := by decide +kernel
theorem dL_law_460 : decode cL_law 460 = .ok (.iaload, 1) := by decide +kernel
theorem dL_law_461 : decode cL_law 461 = .ok (.invokevirtual 70, 3) := by decide +kernel
theorem dL_law_464 : decode cL_law 464 = .ok (.aload_n 2, 1) := by decide +kernel
theorem dL_law_465 : decode cL_law 465 = .ok (.aload_n 0, 1) := by decide +kernel
theorem dL_law_466 : decode cL_law 466 = .ok (.iload 4, 2) := by decide +kernel
theorem dL_law_468 : decode cL_law 468 = .ok (.iconst 1, 1) := by decide +kernel
theorem dL_law_469 : decode cL_law 469 = .ok (.iadd, 1) := by decide +kernel
theorem dL_law_470 : decode cL_law 470 = .ok (.iaload, 1) := by decide +kernel
theorem dL_law_471 : decode cL_law 471 = .ok (.aload_n 0, 1) := by decide +kernel
theorem dL_law_472 : decode cL_law 472 = .ok (.iload 4, 2) := by decide +kernel
theorem dL_law_474 : decode cL_law 474 = .ok (.iconst 2, 1) := by decide +kernel
theorem dL_law_475 : decode cL_law 475 = .ok (.iadd, 1) := by decide +kernel
theorem dL_law_476 : decode cL_law 476 = .ok (.iaload, 1) := by decide +kernel
theorem dL_law_477 : decode cL_law 477 = .ok (.invokevirtual 73, 3) := by decide +kernel
theorem dL_law_480 : decode cL_law 480 = .ok (.if_icmp .eq 277, 3) := by decide +kernel
theorem dL_law_483 : decode cL_law 483 = .ok (.iconst 0, 1) := by decide +kernel
theorem dL_law_484 : decode cL_law 484 = .ok (.ireturn, 1) := by decide +kernel
theorem dL_law_485 : decode cL_law 485 = .ok (.aload_n 1, 1) := by decide +kernel
theorem dL_law_486 : decode cL_law 486 = .ok (.invokevirtual 74, 3) := by decide +kernel
theorem dL_law_489 : decode cL_law 489 = .ok (.aload_n 2, 1) := by decide +kernel
theorem dL_law_490 : decode cL_law 490 = .ok (.invokevirtual 77, 3) := by decide +kernel
theorem dL_law_493 : decode cL_law 493 = .ok (.goto 264, 3) := by decide +kernel
theorem dL_law_496 : decode cL_law 496 = .ok (.aload_n 1, 1) := by decide +kernel
theorem dL_law_497 : decode cL_law 497 = .ok (.aload_n 0, 1) := by decide +kernel
theorem dL_law_498 : decode cL_law 498 = .ok (.iload 4, 2) := by decide +kernel
theorem dL_law_500 : decode cL_law 500 = .ok (.iconst 1, 1) := by decide +kernel
theorem dL_law_501 : decode cL_law 501 = .ok (.iadd, 1) := by decide +kernel
theorem dL_law_502 : decode cL_law 502 = .ok (.iaload, 1) := by decide +kernel
theorem dL_law_503 : decode cL_law 503 = .ok (.aload_n 0, 1) := by decide +kernel
theorem dL_law_504 : decode cL_law 504 = .ok (.iload 4, 2) := by decide +kernel
theorem dL_law_506 : decode cL_law 506 = .ok (.iconst 2, 1) := by decide +kernel
theorem dL_law_507 : decode cL_law 507 = .ok (.iadd, 1) := by decide +kernel
theorem dL_law_508 : decode cL_law 508 = .ok (.iaload, 1) := by decide +kernel
theorem dL_law_509 : decode cL_law 509 = .ok (.invokevirtual 78, 3) := by decide +kernel
theorem dL_law_512 : decode cL_law 512 = .ok (.aload_n 2, 1) := by decide +kernel
theorem dL_law_513 : decode cL_law 513 = .ok (.aload_n 0, 1) := by decide +kernel
theorem dL_law_514 : decode cL_law 514 = .ok (.iload 4, 2) := by decide +kernel
theorem dL_law_516 : decode cL_law 516 = .ok (.iconst 1, 1) := by decide +kernel
theorem dL_law_517 : decode cL_law 517 = .ok (.iadd, 1) := by decide +kernel
theorem dL_law_518 : decode cL_law 518 = .ok (.iaload, 1) := by decide +kernel
theorem dL_law_519 : decode cL_law 519 = .ok (.aload_n 0, 1) := by decide +kernel
theorem dL_law_520 : decode cL_law 520 = .ok (.iload 4, 2) := by decide +kernel
theorem dL_law_522 : decode cL_law 522 = .ok (.iconst 2, 1) := by decide +kernel
theorem dL_law_523 : decode cL_law 523 = .ok (.iadd, 1) := by decide +kernel
theorem dL_law_524 : decode cL_law 524 = .ok (.iaload, 1) := by decide +kernel
theorem dL_law_525 : decode cL_law 525 = .ok (.invokevirtual 82, 3) := by decide +kernel
theorem dL_law_528 : decode cL_law 528 = .ok (.if_icmp .eq 229, 3) := by decide +kernel
theorem dL_law_531 : decode cL_law 531 = .ok (.iconst 0, 1) := by decide +kernel
theorem dL_law_532 : decode cL_law 532 = .ok (.ireturn, 1) := by decide +kernel
theorem dL_law_533 : decode cL_law 533 = .ok (.aload_n 1, 1) := by decide +kernel
theorem dL_law_534 : decode cL_law 534 = .ok (.aload_n 3, 1) := by decide +kernel
theorem dL_law_535 : decode cL_law 535 = .ok (.invokestatic 83, 3) := by decide +kernel
theorem dL_law_538 : decode cL_law 538 = .ok (.istore 5, 2) := by decide +kernel
theorem dL_law_540 : decode cL_law 540 = .ok (.aload_n 2, 1) := by decide +kernel
theorem dL_law_541 : decode cL_law 541 = .ok (.invokevirtual 85, 3) := by decide +kernel
theorem dL_law_544 : decode cL_law 544 = .ok (.istore 6, 2) := by decide +kernel
theorem dL_law_546 : decode cL_law 546 = .ok (.aload_n 2, 1) := by decide +kernel
theorem dL_law_547 : decode cL_law 547 = .ok (.invokevirtual 40, 3) := by decide +kernel
theorem dL_law_550 : decode cL_law 550 = .ok (.iload 5, 2) := by decide +kernel
theorem dL_law_552 : decode cL_law 552 = .ok (.if_icmp .eq 5, 3) := by decide +kernel
theorem dL_law_555 : decode cL_law 555 = .ok (.iconst 0, 1) := by decide +kernel
theorem dL_law_556 : decode cL_law 556 = .ok (.ireturn, 1) := by decide +kernel
theorem dL_law_557 : decode cL_law 557 = .ok (.iload 5, 2) := by decide +kernel
theorem dL_law_559 : decode cL_law 559 = .ok (.ifCond .ne 15, 3) := by decide +kernel
theorem dL_law_562 : decode cL_law 562 = .ok (.aload_n 3, 1) := by decide +kernel
theorem dL_law_563 : decode cL_law 563 = .ok (.iconst 0, 1) := by decide +kernel
theorem dL_law_564 : decode cL_law 564 = .ok (.laload, 1) := by decide +kernel
theorem dL_law_565 : decode cL_law 565 = .ok (.iload 6, 2) := by decide +kernel
theorem dL_law_567 : decode cL_law 567 = .ok (.i2l, 1) := by decide +kernel
theorem dL_law_568 : decode cL_law 568 = .ok (.lcmp, 1) := by decide +kernel
theorem dL_law_569 : decode cL_law 569 = .ok (.ifCond .eq 5, 3) := by decide +kernel
theorem dL_law_572 : decode cL_law 572 = .ok (.iconst 0, 1) := by decide +kernel
theorem dL_law_573 : decode cL_law 573 = .ok (.ireturn, 1) := by decide +kernel
theorem dL_law_574 : decode cL_law 574 = .ok (.goto 183, 3) := by decide +kernel
theorem dL_law_577 : decode cL_law 577 = .ok (.aload_n 1, 1) := by decide +kernel
theorem dL_law_578 : decode cL_law 578 = .ok (.aload_n 0, 1) := by decide +kernel
theorem dL_law_579 : decode cL_law 579 = .ok (.iload 4, 2) := by decide +kernel
theorem dL_law_581 : decode cL_law 581 = .ok (.iconst 1, 1) := by decide +kernel
theorem dL_law_582 : decode cL_law 582 = .ok (.iadd, 1) := by decide +kernel
theorem dL_law_583 : decode cL_law 583 = .ok (.iaload, 1) := by decide +kernel
theorem dL_law_584 : decode cL_law 584 = .ok (.aload_n 0, 1) := by decide +kernel
theorem dL_law_585 : decode cL_law 585 = .ok (.iload 4, 2) := by decide +kernel
theorem dL_law_587 : decode cL_law 587 = .ok (.iconst 2, 1) := by decide +kernel
theorem dL_law_588 : decode cL_law 588 = .ok (.iadd, 1) := by decide +kernel
theorem dL_law_589 : decode cL_law 589 = .ok (.iaload, 1) := by decide +kernel
theorem dL_law_590 : decode cL_law 590 = .ok (.invokevirtual 86, 3) := by decide +kernel
theorem dL_law_593 : decode cL_law 593 = .ok (.aload_n 2, 1) := by decide +kernel
theorem dL_law_594 : decode cL_law 594 = .ok (.aload_n 0, 1) := by decide +kernel
theorem dL_law_595 : decode cL_law 595 = .ok (.iload 4, 2) := by decide +kernel
theorem dL_law_597 : decode cL_law 597 = .ok (.iconst 1, 1) := by decide +kernel
theorem dL_law_598 : decode cL_law 598 = .ok (.iadd, 1) := by decide +kernel
theorem dL_law_599 : decode cL_law 599 = .ok (.iaload, 1) := by decide +kernel
theorem dL_law_600 : decode cL_law 600 = .ok (.aload_n 0, 1) := by decide +kernel
theorem dL_law_601 : decode cL_law 601 = .ok (.iload 4, 2) := by decide +kernel
theorem dL_law_603 : decode cL_law 603 = .ok (.iconst 2, 1) := by decide +kernel
theorem dL_law_604 : decode cL_law 604 = .ok (.iadd, 1) := by decide +kernel
theorem dL_law_605 : decode cL_law 605 = .ok (.iaload, 1) := by decide +kernel
theorem dL_law_606 : decode cL_law 606 = .ok (.invokevirtual 89, 3) := by decide +kernel
theorem dL_law_609 : decode cL_law 609 = .ok (.if_icmp .eq 148, 3) := by decide +kernel
theorem dL_law_612 : decode cL_law 612 = .ok (.iconst 0, 1) := by decide +kernel
theorem dL_law_613 : decode cL_law 613 = .ok (.ireturn, 1) := by decide +kernel
theorem dL_law_614 : decode cL_law 614 = .ok (.aload_n 1, 1) := by decide +kernel
theorem dL_law_615 : decode cL_law 615 = .ok (.aload_n 0, 1) := by decide +kernel
theorem dL_law_616 : decode cL_law 616 = .ok (.iload 4, 2) := by decide +kernel
theorem dL_law_618 : decode cL_law 618 = .ok (.iconst 1, 1) := by decide +kernel
theorem dL_law_619 : decode cL_law 619 = .ok (.iadd, 1) := by decide +kernel
theorem dL_law_620 : decode cL_law 620 = .ok (.iaload, 1) := by decide +kernel
theorem dL_law_621 : decode cL_law 621 = .ok (.aload_n 0, 1) := by decide +kernel
theorem dL_law_622 : decode cL_law 622 = .ok (.iload 4, 2) := by decide +kernel
theorem dL_law_624 : decode cL_law 624 = .ok (.iconst 2, 1) := by decide +kernel
theorem dL_law_625 : decode cL_law 625 = .ok (.iadd, 1) := by decide +kernel
theorem dL_law_626 : decode cL_law 626 = .ok (.iaload, 1) := by decide +kernel
theorem dL_law_627 : decode cL_law 627 = .ok (.invokevirtual 90, 3) := by decide +kernel
theorem dL_law_630 : decode cL_law 630 = .ok (.aload_n 2, 1) := by decide +kernel
theorem dL_law_631 : decode cL_law 631 = .ok (.aload_n 0, 1) := by decide +kernel
theorem dL_law_632 : decode cL_law 632 = .ok (.iload 4, 2) := by decide +kernel
theorem dL_law_634 : decode cL_law 634 = .ok (.iconst 1, 1) := by decide +kernel
theorem dL_law_635 : decode cL_law 635 = .ok (.iadd, 1) := by decide +kernel
theorem dL_law_636 : decode cL_law 636 = .ok (.iaload, 1) := by decide +kernel
theorem dL_law_637 : decode cL_law 637 = .ok (.aload_n 0, 1) := by decide +kernel
theorem dL_law_638 : decode cL_law 638 = .ok (.iload 4, 2) := by decide +kernel
theorem dL_law_640 : decode cL_law 640 = .ok (.iconst 2, 1) := by decide +kernel
theorem dL_law_641 : decode cL_law 641 = .ok (.iadd, 1) := by decide +kernel
theorem dL_law_642 : decode cL_law 642 = .ok (.iaload, 1) := by decide +kernel
theorem dL_law_643 : decode cL_law 643 = .ok (.invokevirtual 93, 3) := by decide +kernel
theorem dL_law_646 : decode cL_law 646 = .ok (.if_icmp .eq 111, 3) := by decide +kernel
theorem dL_law_649 : decode cL_law 649 = .ok (.iconst 0, 1) := by decide +kernel
theorem dL_law_650 : decode cL_law 650 = .ok (.ireturn, 1) := by decide +kernel
theorem dL_law_651 : decode cL_law 651 = .ok (.aload_n 1, 1) := by decide +kernel
theorem dL_law_652 : decode cL_law 652 = .ok (.aload_n 0, 1) := by decide +kernel
theorem dL_law_653 : decode cL_law 653 = .ok (.iload 4, 2) := by decide +kernel
theorem dL_law_655 : decode cL_law 655 = .ok (.iconst 1, 1) := by decide +kernel
theorem dL_law_656 : decode cL_law 656 = .ok (.iadd, 1) := by decide +kernel
theorem dL_law_657 : decode cL_law 657 = .ok (.iaload, 1) := by decide +kernel
theorem dL_law_658 : decode cL_law 658 = .ok (.invokevirtual 94, 3) := by decide +kernel
theorem dL_law_661 : decode cL_law 661 = .ok (.aload_n 2, 1) := by decide +kernel
theorem dL_law_662 : decode cL_law 662 = .ok (.aload_n 0, 1) := by decide +kernel
theorem dL_law_663 : decode cL_law 663 = .ok (.iload 4, 2) := by decide +kernel
theorem dL_law_665 : decode cL_law 665 = .ok (.iconst 1, 1) := by decide +kernel
theorem dL_law_666 : decode cL_law 666 = .ok (.iadd, 1) := by decide +kernel
theorem dL_law_667 : decode cL_law 667 = .ok (.iaload, 1) := by decide +kernel
theorem dL_law_668 : decode cL_law 668 = .ok (.invokevirtual 97, 3) := by decide +kernel
theorem dL_law_671 : decode cL_law 671 = .ok (.if_icmp .eq 86, 3) := by decide +kernel
theorem dL_law_674 : decode cL_law 674 = .ok (.iconst 0, 1) := by decide +kernel
theorem dL_law_675 : decode cL_law 675 = .ok (.ireturn, 1) := by decide +kernel
theorem dL_law_676 : decode cL_law 676 = .ok (.aload_n 1, 1) := by decide +kernel
theorem dL_law_677 : decode cL_law 677 = .ok (.aload_n 0, 1) := by decide +kernel
theorem dL_law_678 : decode cL_law 678 = .ok (.iload 4, 2) := by decide +kernel
theorem dL_law_680 : decode cL_law 680 = .ok (.iconst 1, 1) := by decide +kernel
theorem dL_law_681 : decode cL_law 681 = .ok (.iadd, 1) := by decide +kernel
theorem dL_law_682 : decode cL_law 682 = .ok (.iaload, 1) := by decide +kernel
theorem dL_law_683 : decode cL_law 683 = .ok (.aload_n 3, 1) := by decide +kernel
theorem dL_law_684 : decode cL_law 684 = .ok (.invokestatic 98, 3) := by decide +kernel
theorem dL_law_687 : decode cL_law 687 = .ok (.istore 5, 2) := by decide +kernel
theorem dL_law_689 : decode cL_law 689 = .ok (.aload_n 2, 1) := by decide +kernel
theorem dL_law_690 : decode cL_law 690 = .ok (.aload_n 0, 1) := by decide +kernel
theorem dL_law_691 : decode cL_law 691 = .ok (.iload 4, 2) := by decide +kernel
theorem dL_law_693 : decode cL_law 693 = .ok (.iconst 1, 1) := by decide +kernel
theorem dL_law_694 : decode cL_law 694 = .ok (.iadd, 1) := by decide +kernel
theorem dL_law_695 : decode cL_law 695 = .ok (.iaload, 1) := by decide +kernel
theorem dL_law_696 : decode cL_law 696 = .ok (.invokevirtual 101, 3) := by decide +kernel
theorem dL_law_699 : decode cL_law 699 = .ok (.istore 6, 2) := by decide +kernel
theorem dL_law_701 : decode cL_law 701 = .ok (.aload_n 2, 1) := by decide +kernel
theorem dL_law_702 : decode cL_law 702 = .ok (.invokevirtual 40, 3) := by decide +kernel
theorem dL_law_705 : decode cL_law 705 = .ok (.iload 5, 2) := by decide +kernel
theorem dL_law_707 : decode cL_law 707 = .ok (.if_icmp .eq 5, 3) := by decide +kernel
theorem dL_law_710 : decode cL_law 710 = .ok (.iconst 0, 1) := by decide +kernel
theorem dL_law_711 : decode cL_law 711 = .ok (.ireturn, 1) := by decide +kernel
theorem dL_law_712 : decode cL_law 712 = .ok (.iload 5, 2) := by decide +kernel
theorem dL_law_714 : decode cL_law 714 = .ok (.ifCond .ne 15, 3) := by decide +kernel
theorem dL_law_717 : decode cL_law 717 = .ok (.aload_n 3, 1) := by decide +kernel
theorem dL_law_718 : decode cL_law 718 = .ok (.iconst 0, 1) := by decide +kernel
theorem dL_law_719 : decode cL_law 719 = .ok (.laload, 1) := by decide +kernel
theorem dL_law_720 : decode cL_law 720 = .ok (.iload 6, 2) := by decide +kernel
theorem dL_law_722 : decode cL_law 722 = .ok (.i2l, 1) := by decide +kernel
theorem dL_law_723 : decode cL_law 723 = .ok (.lcmp, 1) := by decide +kernel
theorem dL_law_724 : decode cL_law 724 = .ok (.ifCond .eq 5, 3) := by decide +kernel
theorem dL_law_727 : decode cL_law 727 = .ok (.iconst 0, 1) := by decide +kernel
theorem dL_law_728 : decode cL_law 728 = .ok (.ireturn, 1) := by decide +kernel
theorem dL_law_729 : decode cL_law 729 = .ok (.goto 28, 3) := by decide +kernel
theorem dL_law_732 : decode cL_law 732 = .ok (.aload_n 1, 1) := by decide +kernel
theorem dL_law_733 : decode cL_law 733 = .ok (.aload_n 0, 1) := by decide +kernel
theorem dL_law_734 : decode cL_law 734 = .ok (.iload 4, 2) := by decide +kernel
theorem dL_law_736 : decode cL_law 736 = .ok (.iconst 1, 1) := by decide +kernel
theorem dL_law_737 : decode cL_law 737 = .ok (.iadd, 1) := by decide +kernel
theorem dL_law_738 : decode cL_law 738 = .ok (.iaload, 1) := by decide +kernel
theorem dL_law_739 : decode cL_law 739 = .ok (.invokevirtual 102, 3) := by decide +kernel
theorem dL_law_742 : decode cL_law 742 = .ok (.aload_n 2, 1) := by decide +kernel
theorem dL_law_743 : decode cL_law 743 = .ok (.aload_n 0, 1) := by decide +kernel
theorem dL_law_744 : decode cL_law 744 = .ok (.iload 4, 2) := by decide +kernel
theorem dL_law_746 : decode cL_law 746 = .ok (.iconst 1, 1) := by decide +kernel
theorem dL_law_747 : decode cL_law 747 = .ok (.iadd, 1) := by decide +kernel
theorem dL_law_748 : decode cL_law 748 = .ok (.iaload, 1) := by decide +kernel
theorem dL_law_749 : decode cL_law 749 = .ok (.invokevirtual 105, 3) := by decide +kernel
theorem dL_law_752 : decode cL_law 752 = .ok (.if_icmp .eq 5, 3) := by decide +kernel
theorem dL_law_755 : decode cL_law 755 = .ok (.iconst 0, 1) := by decide +kernel
theorem dL_law_756 : decode cL_law 756 = .ok (.ireturn, 1) := by decide +kernel
theorem dL_law_757 : decode cL_law 757 = .ok (.iinc 4 4, 3) := by decide +kernel
theorem dL_law_760 : decode cL_law 760 = .ok (.goto (-737), 3) := by decide +kernel
theorem dL_law_763 : decode cL_law 763 = .ok (.iconst 1, 1) := by decide +kernel
theorem dL_law_764 : decode cL_law 764 = .ok (.ireturn, 1) := by decide +kernel

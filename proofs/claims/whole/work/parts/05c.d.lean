theorem dX11_leadingStep_55 : decode cX11_leadingStep 55 = .ok (.idiv, 1) := by decide +kernel
theorem dX11_leadingStep_56 : decode cX11_leadingStep 56 = .ok (.iload_n 2, 1) := by decide +kernel
theorem dX11_leadingStep_57 : decode cX11_leadingStep 57 = .ok (.bipush 7, 2) := by decide +kernel
theorem dX11_leadingStep_59 : decode cX11_leadingStep 59 = .ok (.irem, 1) := by decide +kernel
theorem dX11_leadingStep_60 : decode cX11_leadingStep 60 = .ok (.iastore, 1) := by decide +kernel
theorem dX11_leadingStep_61 : decode cX11_leadingStep 61 = .ok (.aload_n 0, 1) := by decide +kernel
theorem dX11_leadingStep_62 : decode cX11_leadingStep 62 = .ok (.invokevirtual 251, 3) := by decide +kernel
theorem dX11_leadingStep_65 : decode cX11_leadingStep 65 = .ok (.istore 4, 2) := by decide +kernel
theorem dX11_leadingStep_67 : decode cX11_leadingStep 67 = .ok (.aload_n 0, 1) := by decide +kernel
theorem dX11_leadingStep_68 : decode cX11_leadingStep 68 = .ok (.getfield 50, 3) := by decide +kernel
theorem dX11_leadingStep_71 : decode cX11_leadingStep 71 = .ok (.iload_n 2, 1) := by decide +kernel
theorem dX11_leadingStep_72 : decode cX11_leadingStep 72 = .ok (.bipush 7, 2) := by decide +kernel
theorem dX11_leadingStep_74 : decode cX11_leadingStep 74 = .ok (.idiv, 1) := by decide +kernel
theorem dX11_leadingStep_75 : decode cX11_leadingStep 75 = .ok (.iload_n 3, 1) := by decide +kernel
theorem dX11_leadingStep_76 : decode cX11_leadingStep 76 = .ok (.iastore, 1) := by decide +kernel
theorem dX11_leadingStep_77 : decode cX11_leadingStep 77 = .ok (.aload_n 0, 1) := by decide +kernel
theorem dX11_leadingStep_78 : decode cX11_leadingStep 78 = .ok (.getfield 65, 3) := by decide +kernel
theorem dX11_leadingStep_81 : decode cX11_leadingStep 81 = .ok (.iload 4, 2) := by decide +kernel
theorem dX11_leadingStep_83 : decode cX11_leadingStep 83 = .ok (.iaload, 1) := by decide +kernel
theorem dX11_leadingStep_84 : decode cX11_leadingStep 84 = .ok (.iload_n 1, 1) := by decide +kernel
theorem dX11_leadingStep_85 : decode cX11_leadingStep 85 = .ok (.iconst 1, 1) := by decide +kernel
theorem dX11_leadingStep_86 : decode cX11_leadingStep 86 = .ok (.iadd, 1) := by decide +kernel
theorem dX11_leadingStep_87 : decode cX11_leadingStep 87 = .ok (.if_icmp .ne 15, 3) := by decide +kernel
theorem dX11_leadingStep_90 : decode cX11_leadingStep 90 = .ok (.aload_n 0, 1) := by decide +kernel
theorem dX11_leadingStep_91 : decode cX11_leadingStep 91 = .ok (.getfield 71, 3) := by decide +kernel
theorem dX11_leadingStep_94 : decode cX11_leadingStep 94 = .ok (.iload 4, 2) := by decide +kernel
theorem dX11_leadingStep_96 : decode cX11_leadingStep 96 = .ok (.baload, 1) := by decide +kernel
theorem dX11_leadingStep_97 : decode cX11_leadingStep 97 = .ok (.ifCond .eq 5, 3) := by decide +kernel
theorem dX11_leadingStep_100 : decode cX11_leadingStep 100 = .ok (.iload_n 2, 1) := by decide +kernel
theorem dX11_leadingStep_101 : decode cX11_leadingStep 101 = .ok (.ireturn, 1) := by decide +kernel
theorem dX11_leadingStep_102 : decode cX11_leadingStep 102 = .ok (.iinc 2 1, 3) := by decide +kernel
theorem dX11_leadingStep_105 : decode cX11_leadingStep 105 = .ok (.goto (-93), 3) := by decide +kernel
theorem dX11_leadingStep_108 : decode cX11_leadingStep 108 = .ok (.bipush (-9), 2) := by decide +kernel
theorem dX11_leadingStep_110 : decode cX11_leadingStep 110 = .ok (.ireturn, 1) := by decide +kernel
theorem dX11_way_0 : decode cX11_way 0 = .ok (.iload_n 1, 1) := by decide +kernel
theorem dX11_way_1 : decode cX11_way 1 = .ok (.invokestatic 108, 3) := by decide +kernel
theorem dX11_way_4 : decode cX11_way 4 = .ok (.ifCond .eq 10, 3) := by decide +kernel
theorem dX11_way_7 : decode cX11_way 7 = .ok (.iload_n 2, 1) := by decide +kernel
theorem dX11_way_8 : decode cX11_way 8 = .ok (.invokestatic 108, 3) := by decide +kernel
theorem dX11_way_11 : decode cX11_way 11 = .ok (.ifCond .ne 5, 3) := by decide +kernel
theorem dX11_way_14 : decode cX11_way 14 = .ok (.iconst (-1), 1) := by decide +kernel
theorem dX11_way_15 : decode cX11_way 15 = .ok (.ireturn, 1) := by decide +kernel
theorem dX11_way_16 : decode cX11_way 16 = .ok (.aload_n 0, 1) := by decide +kernel
theorem dX11_way_17 : decode cX11_way 17 = .ok (.iload_n 1, 1) := by decide +kernel
theorem dX11_way_18 : decode cX11_way 18 = .ok (.invokevirtual 281, 3) := by decide +kernel
theorem dX11_way_21 : decode cX11_way 21 = .ok (.istore_n 3, 1) := by decide +kernel
theorem dX11_way_22 : decode cX11_way 22 = .ok (.iload_n 3, 1) := by decide +kernel
theorem dX11_way_23 : decode cX11_way 23 = .ok (.ifCond .ge 5, 3) := by decide +kernel
theorem dX11_way_26 : decode cX11_way 26 = .ok (.iload_n 3, 1) := by decide +kernel
theorem dX11_way_27 : decode cX11_way 27 = .ok (.ireturn, 1) := by decide +kernel
theorem dX11_way_28 : decode cX11_way 28 = .ok (.aload_n 0, 1) := by decide +kernel
theorem dX11_way_29 : decode cX11_way 29 = .ok (.iload_n 1, 1) := by decide +kernel
theorem dX11_way_30 : decode cX11_way 30 = .ok (.invokevirtual 284, 3) := by decide +kernel
theorem dX11_way_33 : decode cX11_way 33 = .ok (.istore 4, 2) := by decide +kernel
theorem dX11_way_35 : decode cX11_way 35 = .ok (.iload 4, 2) := by decide +kernel
theorem dX11_way_37 : decode cX11_way 37 = .ok (.bipush (-9), 2) := by decide +kernel
theorem dX11_way_39 : decode cX11_way 39 = .ok (.if_icmp .ne 6, 3) := by decide +kernel
theorem dX11_way_42 : decode cX11_way 42 = .ok (.bipush (-9), 2) := by decide +kernel
theorem dX11_way_44 : decode cX11_way 44 = .ok (.ireturn, 1) := by decide +kernel
theorem dX11_way_45 : decode cX11_way 45 = .ok (.iconst 0, 1) := by decide +kernel
theorem dX11_way_46 : decode cX11_way 46 = .ok (.istore 5, 2) := by decide +kernel
theorem dX11_way_48 : decode cX11_way 48 = .ok (.iload 5, 2) := by decide +kernel
theorem dX11_way_50 : decode cX11_way 50 = .ok (.aload_n 0, 1) := by decide +kernel
theorem dX11_way_51 : decode cX11_way 51 = .ok (.invokevirtual 265, 3) := by decide +kernel
theorem dX11_way_54 : decode cX11_way 54 = .ok (.if_icmp .ge 17, 3) := by decide +kernel
theorem dX11_way_57 : decode cX11_way 57 = .ok (.aload_n 0, 1) := by decide +kernel
theorem dX11_way_58 : decode cX11_way 58 = .ok (.getfield 71, 3) := by decide +kernel
theorem dX11_way_61 : decode cX11_way 61 = .ok (.iload 5, 2) := by decide +kernel
theorem dX11_way_63 : decode cX11_way 63 = .ok (.iconst 0, 1) := by decide +kernel
theorem dX11_way_64 : decode cX11_way 64 = .ok (.bastore, 1) := by decide +kernel
theorem dX11_way_65 : decode cX11_way 65 = .ok (.iinc 5 1, 3) := by decide +kernel
theorem dX11_way_68 : decode cX11_way 68 = .ok (.goto (-20), 3) := by decide +kernel
theorem dX11_way_71 : decode cX11_way 71 = .ok (.aload_n 0, 1) := by decide +kernel
theorem dX11_way_72 : decode cX11_way 72 = .ok (.getfield 269, 3) := by decide +kernel
theorem dX11_way_75 : decode cX11_way 75 = .ok (.iconst 1, 1) := by decide +kernel
theorem dX11_way_76 : decode cX11_way 76 = .ok (.isub, 1) := by decide +kernel
theorem dX11_way_77 : decode cX11_way 77 = .ok (.istore 5, 2) := by decide +kernel
theorem dX11_way_79 : decode cX11_way 79 = .ok (.iload 5, 2) := by decide +kernel
theorem dX11_way_81 : decode cX11_way 81 = .ok (.ifCond .lt 82, 3) := by decide +kernel
theorem dX11_way_84 : decode cX11_way 84 = .ok (.aload_n 0, 1) := by decide +kernel
theorem dX11_way_85 : decode cX11_way 85 = .ok (.getfield 65, 3) := by decide +kernel
theorem dX11_way_88 : decode cX11_way 88 = .ok (.aload_n 0, 1) := by decide +kernel
theorem dX11_way_89 : decode cX11_way 89 = .ok (.getfield 68, 3) := by decide +kernel
theorem dX11_way_92 : decode cX11_way 92 = .ok (.iload 5, 2) := by decide +kernel
theorem dX11_way_94 : decode cX11_way 94 = .ok (.iaload, 1) := by decide +kernel
theorem dX11_way_95 : decode cX11_way 95 = .ok (.iaload, 1) := by decide +kernel
theorem dX11_way_96 : decode cX11_way 96 = .ok (.istore 6, 2) := by decide +kernel
theorem dX11_way_98 : decode cX11_way 98 = .ok (.iload 6, 2) := by decide +kernel
theorem dX11_way_100 : decode cX11_way 100 = .ok (.iload 4, 2) := by decide +kernel
theorem dX11_way_102 : decode cX11_way 102 = .ok (.if_icmp .gt 55, 3) := by decide +kernel
theorem dX11_way_105 : decode cX11_way 105 = .ok (.aload_n 0, 1) := by decide +kernel
theorem dX11_way_106 : decode cX11_way 106 = .ok (.aload_n 0, 1) := by decide +kernel
theorem dX11_way_107 : decode cX11_way 107 = .ok (.getfield 68, 3) := by decide +kernel
theorem dX11_way_110 : decode cX11_way 110 = .ok (.iload 5, 2) := by decide +kernel
theorem dX11_way_112 : decode cX11_way 112 = .ok (.iaload, 1) := by decide +kernel
theorem dX11_way_113 : decode cX11_way 113 = .ok (.invokevirtual 255, 3) := by decide +kernel
theorem dX11_way_116 : decode cX11_way 116 = .ok (.aload_n 0, 1) := by decide +kernel
theorem dX11_way_117 : decode cX11_way 117 = .ok (.getfield 71, 3) := by decide +kernel
theorem dX11_way_120 : decode cX11_way 120 = .ok (.aload_n 0, 1) := by decide +kernel
theorem dX11_way_121 : decode cX11_way 121 = .ok (.getfield 68, 3) := by decide +kernel
theorem dX11_way_124 : decode cX11_way 124 = .ok (.iload 5, 2) := by decide +kernel
theorem dX11_way_126 : decode cX11_way 126 = .ok (.iaload, 1) := by decide +kernel
theorem dX11_way_127 : decode cX11_way 127 = .ok (.iload 6, 2) := by decide +kernel
theorem dX11_way_129 : decode cX11_way 129 = .ok (.iload 4, 2) := by decide +kernel
theorem dX11_way_131 : decode cX11_way 131 = .ok (.if_icmp .ne 11, 3) := by decide +kernel
theorem dX11_way_134 : decode cX11_way 134 = .ok (.aload_n 0, 1) := by decide +kernel
theorem dX11_way_135 : decode cX11_way 135 = .ok (.iload_n 1, 1) := by decide +kernel
theorem dX11_way_136 : decode cX11_way 136 = .ok (.invokevirtual 278, 3) := by decide +kernel
theorem dX11_way_139 : decode cX11_way 139 = .ok (.goto 17, 3) := by decide +kernel
theorem dX11_way_142 : decode cX11_way 142 = .ok (.aload_n 0, 1) := by decide +kernel
theorem dX11_way_143 : decode cX11_way 143 = .ok (.invokevirtual 287, 3) := by decide +kernel
theorem dX11_way_146 : decode cX11_way 146 = .ok (.bipush (-9), 2) := by decide +kernel
theorem dX11_way_148 : decode cX11_way 148 = .ok (.if_icmp .eq 7, 3) := by decide +kernel
theorem dX11_way_151 : decode cX11_way 151 = .ok (.iconst 1, 1) := by decide +kernel
theorem dX11_way_152 : decode cX11_way 152 = .ok (.goto 4, 3) := by decide +kernel
theorem dX11_way_155 : decode cX11_way 155 = .ok (.iconst 0, 1) := by decide +kernel
theorem dX11_way_156 : decode cX11_way 156 = .ok (.bastore, 1) := by decide +kernel
theorem dX11_way_157 : decode cX11_way 157 = .ok (.iinc 5 (-1), 3) := by decide +kernel
theorem dX11_way_160 : decode cX11_way 160 = .ok (.goto (-81), 3) := by decide +kernel
theorem dX11_way_163 : decode cX11_way 163 = .ok (.aload_n 0, 1) := by decide +kernel
theorem dX11_way_164 : decode cX11_way 164 = .ok (.getfield 13, 3) := by decide +kernel
theorem dX11_way_167 : decode cX11_way 167 = .ok (.iload_n 2, 1) := by decide +kernel
theorem dX11_way_168 : decode cX11_way 168 = .ok (.iload 4, 2) := by decide +kernel
theorem dX11_way_170 : decode cX11_way 170 = .ok (.iastore, 1) := by decide +kernel
theorem dX11_way_171 : decode cX11_way 171 = .ok (.iconst 0, 1) := by decide +kernel
theorem dX11_way_172 : decode cX11_way 172 = .ok (.istore 5, 2) := by decide +kernel
theorem dX11_way_174 : decode cX11_way 174 = .ok (.iload 5, 2) := by decide +kernel
theorem dX11_way_176 : decode cX11_way 176 = .ok (.bipush 60, 2) := by decide +kernel
theorem dX11_way_178 : decode cX11_way 178 = .ok (.if_icmp .ge 22, 3) := by decide +kernel
theorem dX11_way_181 : decode cX11_way 181 = .ok (.aload_n 0, 1) := by decide +kernel
theorem dX11_way_182 : decode cX11_way 182 = .ok (.getfield 16, 3) := by decide +kernel
theorem dX11_way_185 : decode cX11_way 185 = .ok (.bipush 60, 2) := by decide +kernel
theorem dX11_way_187 : decode cX11_way 187 = .ok (.iload_n 2, 1) := by decide +kernel
theorem dX11_way_188 : decode cX11_way 188 = .ok (.imul, 1) := by decide +kernel
theorem dX11_way_189 : decode cX11_way 189 = .ok (.iload 5, 2) := by decide +kernel
theorem dX11_way_191 : decode cX11_way 191 = .ok (.iadd, 1) := by decide +kernel
theorem dX11_way_192 : decode cX11_way 192 = .ok (.iconst 0, 1) := by decide +kernel
theorem dX11_way_193 : decode cX11_way 193 = .ok (.iastore, 1) := by decide +kernel
theorem dX11_way_194 : decode cX11_way 194 = .ok (.iinc 5 1, 3) := by decide +kernel
theorem dX11_way_197 : decode cX11_way 197 = .ok (.goto (-23), 3) := by decide +kernel
theorem dX11_way_200 : decode cX11_way 200 = .ok (.aload_n 0, 1) := by decide +kernel
theorem dX11_way_201 : decode cX11_way 201 = .ok (.invokevirtual 217, 3) := by decide +kernel
theorem dX11_way_204 : decode cX11_way 204 = .ok (.iconst 0, 1) := by decide +kernel
theorem dX11_way_205 : decode cX11_way 205 = .ok (.istore 5, 2) := by decide +kernel
theorem dX11_way_207 : decode cX11_way 207 = .ok (.iload 5, 2) := by decide +kernel
theorem dX11_way_209 : decode cX11_way 209 = .ok (.iload 4, 2) := by decide +kernel
theorem dX11_way_211 : decode cX11_way 211 = .ok (.if_icmp .ge 44, 3) := by decide +kernel
theorem dX11_way_214 : decode cX11_way 214 = .ok (.aload_n 0, 1) := by decide +kernel
theorem dX11_way_215 : decode cX11_way 215 = .ok (.invokevirtual 287, 3) := by decide +kernel
theorem dX11_way_218 : decode cX11_way 218 = .ok (.istore 6, 2) := by decide +kernel
theorem dX11_way_220 : decode cX11_way 220 = .ok (.aload_n 0, 1) := by decide +kernel
theorem dX11_way_221 : decode cX11_way 221 = .ok (.getfield 16, 3) := by decide +kernel
theorem dX11_way_224 : decode cX11_way 224 = .ok (.bipush 60, 2) := by decide +kernel
theorem dX11_way_226 : decode cX11_way 226 = .ok (.iload_n 2, 1) := by decide +kernel
theorem dX11_way_227 : decode cX11_way 227 = .ok (.imul, 1) := by decide +kernel
theorem dX11_way_228 : decode cX11_way 228 = .ok (.iload 5, 2) := by decide +kernel
theorem dX11_way_230 : decode cX11_way 230 = .ok (.iadd, 1) := by decide +kernel
theorem dX11_way_231 : decode cX11_way 231 = .ok (.iload 6, 2) := by decide +kernel
theorem dX11_way_233 : decode cX11_way 233 = .ok (.iastore, 1) := by decide +kernel
theorem dX11_way_234 : decode cX11_way 234 = .ok (.aload_n 0, 1) := by decide +kernel
theorem dX11_way_235 : decode cX11_way 235 = .ok (.getfield 50, 3) := by decide +kernel
theorem dX11_way_238 : decode cX11_way 238 = .ok (.iload 6, 2) := by decide +kernel
theorem dX11_way_240 : decode cX11_way 240 = .ok (.bipush 7, 2) := by decide +kernel
theorem dX11_way_242 : decode cX11_way 242 = .ok (.idiv, 1) := by decide +kernel
theorem dX11_way_243 : decode cX11_way 243 = .ok (.iload 6, 2) := by decide +kernel
theorem dX11_way_245 : decode cX11_way 245 = .ok (.bipush 7, 2) := by decide +kernel
theorem dX11_way_247 : decode cX11_way 247 = .ok (.irem, 1) := by decide +kernel
theorem dX11_way_248 : decode cX11_way 248 = .ok (.iastore, 1) := by decide +kernel
theorem dX11_way_249 : decode cX11_way 249 = .ok (.iinc 5 1, 3) := by decide +kernel
theorem dX11_way_252 : decode cX11_way 252 = .ok (.goto (-45), 3) := by decide +kernel
theorem dX11_way_255 : decode cX11_way 255 = .ok (.iload 4, 2) := by decide +kernel
theorem dX11_way_257 : decode cX11_way 257 = .ok (.ireturn, 1) := by decide +kernel
theorem dX11_all_0 : decode cX11_all 0 = .ok (.aload_n 0, 1) := by decide +kernel
theorem dX11_all_1 : decode cX11_all 1 = .ok (.invokevirtual 272, 3) := by decide +kernel
theorem dX11_all_4 : decode cX11_all 4 = .ok (.aload_n 0, 1) := by decide +kernel
theorem dX11_all_5 : decode cX11_all 5 = .ok (.aload_n 0, 1) := by decide +kernel
theorem dX11_all_6 : decode cX11_all 6 = .ok (.getfield 65, 3) := by decide +kernel
theorem dX11_all_9 : decode cX11_all 9 = .ok (.aload_n 0, 1) := by decide +kernel
theorem dX11_all_10 : decode cX11_all 10 = .ok (.getfield 68, 3) := by decide +kernel
theorem dX11_all_13 : decode cX11_all 13 = .ok (.aload_n 0, 1) := by decide +kernel
theorem dX11_all_14 : decode cX11_all 14 = .ok (.getfield 269, 3) := by decide +kernel
theorem dX11_all_17 : decode cX11_all 17 = .ok (.iconst 1, 1) := by decide +kernel
theorem dX11_all_18 : decode cX11_all 18 = .ok (.isub, 1) := by decide +kernel
theorem dX11_all_19 : decode cX11_all 19 = .ok (.iaload, 1) := by decide +kernel
theorem dX11_all_20 : decode cX11_all 20 = .ok (.iaload, 1) := by decide +kernel
theorem dX11_all_21 : decode cX11_all 21 = .ok (.aload_n 0, 1) := by decide +kernel
theorem dX11_all_22 : decode cX11_all 22 = .ok (.getfield 269, 3) := by decide +kernel
theorem dX11_all_25 : decode cX11_all 25 = .ok (.invokevirtual 120, 3) := by decide +kernel
theorem dX11_all_28 : decode cX11_all 28 = .ok (.ireturn, 1) := by decide +kernel
theorem dX11_till_0 : decode cX11_till 0 = .ok (.aload_n 0, 1) := by decide +kernel
theorem dX11_till_1 : decode cX11_till 1 = .ok (.iload_n 1, 1) := by decide +kernel
theorem dX11_till_2 : decode cX11_till 2 = .ok (.invokevirtual 235, 3) := by decide +kernel
theorem dX11_till_5 : decode cX11_till 5 = .ok (.ifCond .ne 5, 3) := by decide +kernel
theorem dX11_till_8 : decode cX11_till 8 = .ok (.iconst (-1), 1) := by decide +kernel
theorem dX11_till_9 : decode cX11_till 9 = .ok (.ireturn, 1) := by decide +kernel
theorem dX11_till_10 : decode cX11_till 10 = .ok (.aload_n 0, 1) := by decide +kernel
theorem dX11_till_11 : decode cX11_till 11 = .ok (.invokevirtual 272, 3) := by decide +kernel
theorem dX11_till_14 : decode cX11_till 14 = .ok (.iconst 0, 1) := by decide +kernel
theorem dX11_till_15 : decode cX11_till 15 = .ok (.istore_n 2, 1) := by decide +kernel
theorem dX11_till_16 : decode cX11_till 16 = .ok (.iload_n 2, 1) := by decide +kernel
theorem dX11_till_17 : decode cX11_till 17 = .ok (.aload_n 0, 1) := by decide +kernel
theorem dX11_till_18 : decode cX11_till 18 = .ok (.getfield 269, 3) := by decide +kernel
theorem dX11_till_21 : decode cX11_till 21 = .ok (.if_icmp .ge 39, 3) := by decide +kernel
theorem dX11_till_24 : decode cX11_till 24 = .ok (.aload_n 0, 1) := by decide +kernel
theorem dX11_till_25 : decode cX11_till 25 = .ok (.aload_n 0, 1) := by decide +kernel
theorem dX11_till_26 : decode cX11_till 26 = .ok (.getfield 68, 3) := by decide +kernel
theorem dX11_till_29 : decode cX11_till 29 = .ok (.iload_n 2, 1) := by decide +kernel
theorem dX11_till_30 : decode cX11_till 30 = .ok (.iaload, 1) := by decide +kernel
theorem dX11_till_31 : decode cX11_till 31 = .ok (.invokevirtual 255, 3) := by decide +kernel
theorem dX11_till_34 : decode cX11_till 34 = .ok (.aload_n 0, 1) := by decide +kernel
theorem dX11_till_35 : decode cX11_till 35 = .ok (.iload_n 1, 1) := by decide +kernel
theorem dX11_till_36 : decode cX11_till 36 = .ok (.invokevirtual 262, 3) := by decide +kernel
theorem dX11_till_39 : decode cX11_till 39 = .ok (.ifCond .eq 15, 3) := by decide +kernel
theorem dX11_till_42 : decode cX11_till 42 = .ok (.aload_n 0, 1) := by decide +kernel
theorem dX11_till_43 : decode cX11_till 43 = .ok (.getfield 65, 3) := by decide +kernel
theorem dX11_till_46 : decode cX11_till 46 = .ok (.aload_n 0, 1) := by decide +kernel
theorem dX11_till_47 : decode cX11_till 47 = .ok (.getfield 68, 3) := by decide +kernel
theorem dX11_till_50 : decode cX11_till 50 = .ok (.iload_n 2, 1) := by decide +kernel
theorem dX11_till_51 : decode cX11_till 51 = .ok (.iaload, 1) := by decide +kernel
theorem dX11_till_52 : decode cX11_till 52 = .ok (.iaload, 1) := by decide +kernel
theorem dX11_till_53 : decode cX11_till 53 = .ok (.ireturn, 1) := by decide +kernel
theorem dX11_till_54 : decode cX11_till 54 = .ok (.iinc 2 1, 3) := by decide +kernel
theorem dX11_till_57 : decode cX11_till 57 = .ok (.goto (-41), 3) := by decide +kernel
theorem dX11_till_60 : decode cX11_till 60 = .ok (.bipush (-9), 2) := by decide +kernel
theorem dX11_till_62 : decode cX11_till 62 = .ok (.ireturn, 1) := by decide +kernel
theorem dX11_stepsOn_0 : decode cX11_stepsOn 0 = .ok (.iconst 0, 1) := by decide +kernel
theorem dX11_stepsOn_1 : decode cX11_stepsOn 1 = .ok (.istore_n 1, 1) := by decide +kernel
theorem dX11_stepsOn_2 : decode cX11_stepsOn 2 = .ok (.iload_n 1, 1) := by decide +kernel
theorem dX11_stepsOn_3 : decode cX11_stepsOn 3 = .ok (.aload_n 0, 1) := by decide +kernel
theorem dX11_stepsOn_4 : decode cX11_stepsOn 4 = .ok (.invokevirtual 265, 3) := by decide +kernel
theorem dX11_stepsOn_7 : decode cX11_stepsOn 7 = .ok (.if_icmp .ge 21, 3) := by decide +kernel
theorem dX11_stepsOn_10 : decode cX11_stepsOn 10 = .ok (.aload_n 0, 1) := by decide +kernel
theorem dX11_stepsOn_11 : decode cX11_stepsOn 11 = .ok (.getfield 78, 3) := by decide +kernel
theorem dX11_stepsOn_14 : decode cX11_stepsOn 14 = .ok (.iload_n 1, 1) := by decide +kernel
theorem dX11_stepsOn_15 : decode cX11_stepsOn 15 = .ok (.aload_n 0, 1) := by decide +kernel
theorem dX11_stepsOn_16 : decode cX11_stepsOn 16 = .ok (.getfield 75, 3) := by decide +kernel
theorem dX11_stepsOn_19 : decode cX11_stepsOn 19 = .ok (.iload_n 1, 1) := by decide +kernel
theorem dX11_stepsOn_20 : decode cX11_stepsOn 20 = .ok (.iaload, 1) := by decide +kernel
theorem dX11_stepsOn_21 : decode cX11_stepsOn 21 = .ok (.iastore, 1) := by decide +kernel
theorem dX11_stepsOn_22 : decode cX11_stepsOn 22 = .ok (.iinc 1 1, 3) := by decide +kernel
theorem dX11_stepsOn_25 : decode cX11_stepsOn 25 = .ok (.goto (-23), 3) := by decide +kernel
theorem dX11_stepsOn_28 : decode cX11_stepsOn 28 = .ok (.iconst 0, 1) := by decide +kernel
theorem dX11_stepsOn_29 : decode cX11_stepsOn 29 = .ok (.istore_n 1, 1) := by decide +kernel
theorem dX11_stepsOn_30 : decode cX11_stepsOn 30 = .ok (.iload_n 1, 1) := by decide +kernel
theorem dX11_stepsOn_31 : decode cX11_stepsOn 31 = .ok (.aload_n 0, 1) := by decide +kernel
theorem dX11_stepsOn_32 : decode cX11_stepsOn 32 = .ok (.invokevirtual 265, 3) := by decide +kernel
theorem dX11_stepsOn_35 : decode cX11_stepsOn 35 = .ok (.if_icmp .ge 119, 3) := by decide +kernel
theorem dX11_stepsOn_38 : decode cX11_stepsOn 38 = .ok (.aload_n 0, 1) := by decide +kernel
theorem dX11_stepsOn_39 : decode cX11_stepsOn 39 = .ok (.getfield 75, 3) := by decide +kernel
theorem dX11_stepsOn_42 : decode cX11_stepsOn 42 = .ok (.iload_n 1, 1) := by decide +kernel
theorem dX11_stepsOn_43 : decode cX11_stepsOn 43 = .ok (.iaload, 1) := by decide +kernel
theorem dX11_stepsOn_44 : decode cX11_stepsOn 44 = .ok (.ifCond .lt 104, 3) := by decide +kernel
theorem dX11_stepsOn_47 : decode cX11_stepsOn 47 = .ok (.aload_n 0, 1) := by decide +kernel
theorem dX11_stepsOn_48 : decode cX11_stepsOn 48 = .ok (.iload_n 1, 1) := by decide +kernel
theorem dX11_stepsOn_49 : decode cX11_stepsOn 49 = .ok (.invokevirtual 255, 3) := by decide +kernel
theorem dX11_stepsOn_52 : decode cX11_stepsOn 52 = .ok (.iconst 0, 1) := by decide +kernel
theorem dX11_stepsOn_53 : decode cX11_stepsOn 53 = .ok (.istore_n 2, 1) := by decide +kernel
theorem dX11_stepsOn_54 : decode cX11_stepsOn 54 = .ok (.iload_n 2, 1) := by decide +kernel
theorem dX11_stepsOn_55 : decode cX11_stepsOn 55 = .ok (.bipush 7, 2) := by decide +kernel
theorem dX11_stepsOn_57 : decode cX11_stepsOn 57 = .ok (.aload_n 0, 1) := by decide +kernel
theorem dX11_stepsOn_58 : decode cX11_stepsOn 58 = .ok (.getfield 181, 3) := by decide +kernel
theorem dX11_stepsOn_61 : decode cX11_stepsOn 61 = .ok (.imul, 1) := by decide +kernel
theorem dX11_stepsOn_62 : decode cX11_stepsOn 62 = .ok (.if_icmp .ge 86, 3) := by decide +kernel
theorem dX11_stepsOn_65 : decode cX11_stepsOn 65 = .ok (.aload_n 0, 1) := by decide +kernel
theorem dX11_stepsOn_66 : decode cX11_stepsOn 66 = .ok (.iload_n 2, 1) := by decide +kernel
theorem dX11_stepsOn_67 : decode cX11_stepsOn 67 = .ok (.bipush 7, 2) := by decide +kernel
theorem dX11_stepsOn_69 : decode cX11_stepsOn 69 = .ok (.idiv, 1) := by decide +kernel
theorem dX11_stepsOn_70 : decode cX11_stepsOn 70 = .ok (.iload_n 2, 1) := by decide +kernel
theorem dX11_stepsOn_71 : decode cX11_stepsOn 71 = .ok (.bipush 7, 2) := by decide +kernel
theorem dX11_stepsOn_73 : decode cX11_stepsOn 73 = .ok (.irem, 1) := by decide +kernel
theorem dX11_stepsOn_74 : decode cX11_stepsOn 74 = .ok (.invokevirtual 241, 3) := by decide +kernel
theorem dX11_stepsOn_77 : decode cX11_stepsOn 77 = .ok (.ifCond .eq 65, 3) := by decide +kernel
theorem dX11_stepsOn_80 : decode cX11_stepsOn 80 = .ok (.aload_n 0, 1) := by decide +kernel
theorem dX11_stepsOn_81 : decode cX11_stepsOn 81 = .ok (.getfield 50, 3) := by decide +kernel
theorem dX11_stepsOn_84 : decode cX11_stepsOn 84 = .ok (.iload_n 2, 1) := by decide +kernel
theorem dX11_stepsOn_85 : decode cX11_stepsOn 85 = .ok (.bipush 7, 2) := by decide +kernel
theorem dX11_stepsOn_87 : decode cX11_stepsOn 87 = .ok (.idiv, 1) := by decide +kernel
theorem dX11_stepsOn_88 : decode cX11_stepsOn 88 = .ok (.iaload, 1) := by decide +kernel
theorem dX11_stepsOn_89 : decode cX11_stepsOn 89 = .ok (.istore_n 3, 1) := by decide +kernel
theorem dX11_stepsOn_90 : decode cX11_stepsOn 90 = .ok (.aload_n 0, 1) := by decide +kernel
theorem dX11_stepsOn_91 : decode cX11_stepsOn 91 = .ok (.getfield 50, 3) := by decide +kernel
theorem dX11_stepsOn_94 : decode cX11_stepsOn 94 = .ok (.iload_n 2, 1) := by decide +kernel
theorem dX11_stepsOn_95 : decode cX11_stepsOn 95 = .ok (.bipush 7, 2) := by decide +kernel
theorem dX11_stepsOn_97 : decode cX11_stepsOn 97 = .ok (.idiv, 1) := by decide +kernel
theorem dX11_stepsOn_98 : decode cX11_stepsOn 98 = .ok (.iload_n 2, 1) := by decide +kernel
theorem dX11_stepsOn_99 : decode cX11_stepsOn 99 = .ok (.bipush 7, 2) := by decide +kernel
theorem dX11_stepsOn_101 : decode cX11_stepsOn 101 = .ok (.irem, 1) := by decide +kernel
theorem dX11_stepsOn_102 : decode cX11_stepsOn 102 = .ok (.iastore, 1) := by decide +kernel
theorem dX11_stepsOn_103 : decode cX11_stepsOn 103 = .ok (.aload_n 0, 1) := by decide +kernel
theorem dX11_stepsOn_104 : decode cX11_stepsOn 104 = .ok (.invokevirtual 251, 3) := by decide +kernel
theorem dX11_stepsOn_107 : decode cX11_stepsOn 107 = .ok (.istore 4, 2) := by decide +kernel
theorem dX11_stepsOn_109 : decode cX11_stepsOn 109 = .ok (.aload_n 0, 1) := by decide +kernel
theorem dX11_stepsOn_110 : decode cX11_stepsOn 110 = .ok (.getfield 50, 3) := by decide +kernel
theorem dX11_stepsOn_113 : decode cX11_stepsOn 113 = .ok (.iload_n 2, 1) := by decide +kernel
theorem dX11_stepsOn_114 : decode cX11_stepsOn 114 = .ok (.bipush 7, 2) := by decide +kernel
theorem dX11_stepsOn_116 : decode cX11_stepsOn 116 = .ok (.idiv, 1) := by decide +kernel
theorem dX11_stepsOn_117 : decode cX11_stepsOn 117 = .ok (.iload_n 3, 1) := by decide +kernel
theorem dX11_stepsOn_118 : decode cX11_stepsOn 118 = .ok (.iastore, 1) := by decide +kernel
theorem dX11_stepsOn_119 : decode cX11_stepsOn 119 = .ok (.aload_n 0, 1) := by decide +kernel
theorem dX11_stepsOn_120 : decode cX11_stepsOn 120 = .ok (.getfield 78, 3) := by decide +kernel
theorem dX11_stepsOn_123 : decode cX11_stepsOn 123 = .ok (.iload 4, 2) := by decide +kernel
theorem dX11_stepsOn_125 : decode cX11_stepsOn 125 = .ok (.aload_n 0, 1) := by decide +kernel
theorem dX11_stepsOn_126 : decode cX11_stepsOn 126 = .ok (.getfield 78, 3) := by decide +kernel
theorem dX11_stepsOn_129 : decode cX11_stepsOn 129 = .ok (.iload 4, 2) := by decide +kernel
theorem dX11_stepsOn_131 : decode cX11_stepsOn 131 = .ok (.iaload, 1) := by decide +kernel
theorem dX11_stepsOn_132 : decode cX11_stepsOn 132 = .ok (.aload_n 0, 1) := by decide +kernel
theorem dX11_stepsOn_133 : decode cX11_stepsOn 133 = .ok (.getfield 75, 3) := by decide +kernel
theorem dX11_stepsOn_136 : decode cX11_stepsOn 136 = .ok (.iload_n 1, 1) := by decide +kernel
theorem dX11_stepsOn_137 : decode cX11_stepsOn 137 = .ok (.iaload, 1) := by decide +kernel
theorem dX11_stepsOn_138 : decode cX11_stepsOn 138 = .ok (.invokestatic 290, 3) := by decide +kernel
theorem dX11_stepsOn_141 : decode cX11_stepsOn 141 = .ok (.iastore, 1) := by decide +kernel
theorem dX11_stepsOn_142 : decode cX11_stepsOn 142 = .ok (.iinc 2 1, 3) := by decide +kernel
theorem dX11_stepsOn_145 : decode cX11_stepsOn 145 = .ok (.goto (-91), 3) := by decide +kernel
theorem dX11_stepsOn_148 : decode cX11_stepsOn 148 = .ok (.iinc 1 1, 3) := by decide +kernel
theorem dX11_stepsOn_151 : decode cX11_stepsOn 151 = .ok (.goto (-121), 3) := by decide +kernel
theorem dX11_stepsOn_154 : decode cX11_stepsOn 154 = .ok (.iconst 0, 1) := by decide +kernel
theorem dX11_stepsOn_155 : decode cX11_stepsOn 155 = .ok (.istore_n 1, 1) := by decide +kernel
theorem dX11_stepsOn_156 : decode cX11_stepsOn 156 = .ok (.iload_n 1, 1) := by decide +kernel
theorem dX11_stepsOn_157 : decode cX11_stepsOn 157 = .ok (.aload_n 0, 1) := by decide +kernel
theorem dX11_stepsOn_158 : decode cX11_stepsOn 158 = .ok (.invokevirtual 265, 3) := by decide +kernel
theorem dX11_stepsOn_161 : decode cX11_stepsOn 161 = .ok (.if_icmp .ge 21, 3) := by decide +kernel
theorem dX11_stepsOn_164 : decode cX11_stepsOn 164 = .ok (.aload_n 0, 1) := by decide +kernel
theorem dX11_stepsOn_165 : decode cX11_stepsOn 165 = .ok (.getfield 75, 3) := by decide +kernel
theorem dX11_stepsOn_168 : decode cX11_stepsOn 168 = .ok (.iload_n 1, 1) := by decide +kernel
theorem dX11_stepsOn_169 : decode cX11_stepsOn 169 = .ok (.aload_n 0, 1) := by decide +kernel
theorem dX11_stepsOn_170 : decode cX11_stepsOn 170 = .ok (.getfield 78, 3) := by decide +kernel
theorem dX11_stepsOn_173 : decode cX11_stepsOn 173 = .ok (.iload_n 1, 1) := by decide +kernel
theorem dX11_stepsOn_174 : decode cX11_stepsOn 174 = .ok (.iaload, 1) := by decide +kernel
theorem dX11_stepsOn_175 : decode cX11_stepsOn 175 = .ok (.iastore, 1) := by decide +kernel
theorem dX11_stepsOn_176 : decode cX11_stepsOn 176 = .ok (.iinc 1 1, 3) := by decide +kernel
theorem dX11_stepsOn_179 : decode cX11_stepsOn 179 = .ok (.goto (-23), 3) := by decide +kernel
theorem dX11_stepsOn_182 : decode cX11_stepsOn 182 = .ok (.return_, 1) := by decide +kernel
theorem dX11_worksAt_0 : decode cX11_worksAt 0 = .ok (.iconst 0, 1) := by decide +kernel
theorem dX11_worksAt_1 : decode cX11_worksAt 1 = .ok (.istore_n 2, 1) := by decide +kernel
theorem dX11_worksAt_2 : decode cX11_worksAt 2 = .ok (.iload_n 2, 1) := by decide +kernel
theorem dX11_worksAt_3 : decode cX11_worksAt 3 = .ok (.aload_n 0, 1) := by decide +kernel
theorem dX11_worksAt_4 : decode cX11_worksAt 4 = .ok (.invokevirtual 265, 3) := by decide +kernel
theorem dX11_worksAt_7 : decode cX11_worksAt 7 = .ok (.if_icmp .ge 82, 3) := by decide +kernel
theorem dX11_worksAt_10 : decode cX11_worksAt 10 = .ok (.aload_n 0, 1) := by decide +kernel
theorem dX11_worksAt_11 : decode cX11_worksAt 11 = .ok (.getfield 75, 3) := by decide +kernel
theorem dX11_worksAt_14 : decode cX11_worksAt 14 = .ok (.iload_n 2, 1) := by decide +kernel
theorem dX11_worksAt_15 : decode cX11_worksAt 15 = .ok (.iaload, 1) := by decide +kernel
theorem dX11_worksAt_16 : decode cX11_worksAt 16 = .ok (.ifCond .lt 67, 3) := by decide +kernel
theorem dX11_worksAt_19 : decode cX11_worksAt 19 = .ok (.aload_n 0, 1) := by decide +kernel
theorem dX11_worksAt_20 : decode cX11_worksAt 20 = .ok (.iload_n 2, 1) := by decide +kernel
theorem dX11_worksAt_21 : decode cX11_worksAt 21 = .ok (.invokevirtual 255, 3) := by decide +kernel
theorem dX11_worksAt_24 : decode cX11_worksAt 24 = .ok (.iconst 0, 1) := by decide +kernel
theorem dX11_worksAt_25 : decode cX11_worksAt 25 = .ok (.istore_n 3, 1) := by decide +kernel
theorem dX11_worksAt_26 : decode cX11_worksAt 26 = .ok (.iload_n 3, 1) := by decide +kernel
theorem dX11_worksAt_27 : decode cX11_worksAt 27 = .ok (.aload_n 0, 1) := by decide +kernel
theorem dX11_worksAt_28 : decode cX11_worksAt 28 = .ok (.getfield 184, 3) := by decide +kernel
theorem dX11_worksAt_31 : decode cX11_worksAt 31 = .ok (.if_icmp .ge 52, 3) := by decide +kernel
theorem dX11_worksAt_34 : decode cX11_worksAt 34 = .ok (.aload_n 0, 1) := by decide +kernel
theorem dX11_worksAt_35 : decode cX11_worksAt 35 = .ok (.getfield 75, 3) := by decide +kernel
theorem dX11_worksAt_38 : decode cX11_worksAt 38 = .ok (.iload_n 2, 1) := by decide +kernel
theorem dX11_worksAt_39 : decode cX11_worksAt 39 = .ok (.dup2, 1) := by decide +kernel
theorem dX11_worksAt_40 : decode cX11_worksAt 40 = .ok (.iaload, 1) := by decide +kernel
theorem dX11_worksAt_41 : decode cX11_worksAt 41 = .ok (.aload_n 0, 1) := by decide +kernel
theorem dX11_worksAt_42 : decode cX11_worksAt 42 = .ok (.getfield 35, 3) := by decide +kernel
theorem dX11_worksAt_45 : decode cX11_worksAt 45 = .ok (.iconst 4, 1) := by decide +kernel
theorem dX11_worksAt_46 : decode cX11_worksAt 46 = .ok (.iload_n 3, 1) := by decide +kernel
theorem dX11_worksAt_47 : decode cX11_worksAt 47 = .ok (.imul, 1) := by decide +kernel
theorem dX11_worksAt_48 : decode cX11_worksAt 48 = .ok (.iaload, 1) := by decide +kernel
theorem dX11_worksAt_49 : decode cX11_worksAt 49 = .ok (.iload_n 1, 1) := by decide +kernel
theorem dX11_worksAt_50 : decode cX11_worksAt 50 = .ok (.if_icmp .ne 24, 3) := by decide +kernel
theorem dX11_worksAt_53 : decode cX11_worksAt 53 = .ok (.aload_n 0, 1) := by decide +kernel
theorem dX11_worksAt_54 : decode cX11_worksAt 54 = .ok (.iload_n 3, 1) := by decide +kernel
theorem dX11_worksAt_55 : decode cX11_worksAt 55 = .ok (.invokevirtual 262, 3) := by decide +kernel
theorem dX11_worksAt_58 : decode cX11_worksAt 58 = .ok (.ifCond .eq 16, 3) := by decide +kernel
theorem dX11_worksAt_61 : decode cX11_worksAt 61 = .ok (.aload_n 0, 1) := by decide +kernel
theorem dX11_worksAt_62 : decode cX11_worksAt 62 = .ok (.getfield 35, 3) := by decide +kernel
theorem dX11_worksAt_65 : decode cX11_worksAt 65 = .ok (.iconst 4, 1) := by decide +kernel
theorem dX11_worksAt_66 : decode cX11_worksAt 66 = .ok (.iload_n 3, 1) := by decide +kernel
theorem dX11_worksAt_67 : decode cX11_worksAt 67 = .ok (.imul, 1) := by decide +kernel
theorem dX11_worksAt_68 : decode cX11_worksAt 68 = .ok (.iconst 3, 1) := by decide +kernel
theorem dX11_worksAt_69 : decode cX11_worksAt 69 = .ok (.iadd, 1) := by decide +kernel
theorem dX11_worksAt_70 : decode cX11_worksAt 70 = .ok (.iaload, 1) := by decide +kernel
theorem dX11_worksAt_71 : decode cX11_worksAt 71 = .ok (.goto 4, 3) := by decide +kernel
theorem dX11_worksAt_74 : decode cX11_worksAt 74 = .ok (.iconst 0, 1) := by decide +kernel
theorem dX11_worksAt_75 : decode cX11_worksAt 75 = .ok (.iadd, 1) := by decide +kernel
theorem dX11_worksAt_76 : decode cX11_worksAt 76 = .ok (.iastore, 1) := by decide +kernel
theorem dX11_worksAt_77 : decode cX11_worksAt 77 = .ok (.iinc 3 1, 3) := by decide +kernel
theorem dX11_worksAt_80 : decode cX11_worksAt 80 = .ok (.goto (-54), 3) := by decide +kernel
theorem dX11_worksAt_83 : decode cX11_worksAt 83 = .ok (.iinc 2 1, 3) := by decide +kernel
theorem dX11_worksAt_86 : decode cX11_worksAt 86 = .ok (.goto (-84), 3) := by decide +kernel
theorem dX11_worksAt_89 : decode cX11_worksAt 89 = .ok (.return_, 1) := by decide +kernel
theorem dX11_mostBy_0 : decode cX11_mostBy 0 = .ok (.iconst 0, 1) := by decide +kernel
theorem dX11_mostBy_1 : decode cX11_mostBy 1 = .ok (.istore_n 2, 1) := by decide +kernel
theorem dX11_mostBy_2 : decode cX11_mostBy 2 = .ok (.iload_n 2, 1) := by decide +kernel
theorem dX11_mostBy_3 : decode cX11_mostBy 3 = .ok (.aload_n 0, 1) := by decide +kernel
theorem dX11_mostBy_4 : decode cX11_mostBy 4 = .ok (.invokevirtual 265, 3) := by decide +kernel
theorem dX11_mostBy_7 : decode cX11_mostBy 7 = .ok (.if_icmp .ge 16, 3) := by decide +kernel
theorem dX11_mostBy_10 : decode cX11_mostBy 10 = .ok (.aload_n 0, 1) := by decide +kernel
theorem dX11_mostBy_11 : decode cX11_mostBy 11 = .ok (.getfield 75, 3) := by decide +kernel
theorem dX11_mostBy_14 : decode cX11_mostBy 14 = .ok (.iload_n 2, 1) := by decide +kernel
theorem dX11_mostBy_15 : decode cX11_mostBy 15 = .ok (.iconst (-1), 1) := by decide +kernel
theorem dX11_mostBy_16 : decode cX11_mostBy 16 = .ok (.iastore, 1) := by decide +kernel
theorem dX11_mostBy_17 : decode cX11_mostBy 17 = .ok (.iinc 2 1, 3) := by decide +kernel
theorem dX11_mostBy_20 : decode cX11_mostBy 20 = .ok (.goto (-18), 3) := by decide +kernel
theorem dX11_mostBy_23 : decode cX11_mostBy 23 = .ok (.aload_n 0, 1) := by decide +kernel
theorem dX11_mostBy_24 : decode cX11_mostBy 24 = .ok (.invokevirtual 217, 3) := by decide +kernel
theorem dX11_mostBy_27 : decode cX11_mostBy 27 = .ok (.aload_n 0, 1) := by decide +kernel
theorem dX11_mostBy_28 : decode cX11_mostBy 28 = .ok (.getfield 75, 3) := by decide +kernel
theorem dX11_mostBy_31 : decode cX11_mostBy 31 = .ok (.aload_n 0, 1) := by decide +kernel
theorem dX11_mostBy_32 : decode cX11_mostBy 32 = .ok (.invokevirtual 251, 3) := by decide +kernel
theorem dX11_mostBy_35 : decode cX11_mostBy 35 = .ok (.iconst 0, 1) := by decide +kernel
theorem dX11_mostBy_36 : decode cX11_mostBy 36 = .ok (.iastore, 1) := by decide +kernel
theorem dX11_mostBy_37 : decode cX11_mostBy 37 = .ok (.iconst 0, 1) := by decide +kernel
theorem dX11_mostBy_38 : decode cX11_mostBy 38 = .ok (.istore_n 2, 1) := by decide +kernel
theorem dX11_mostBy_39 : decode cX11_mostBy 39 = .ok (.iload_n 2, 1) := by decide +kernel
theorem dX11_mostBy_40 : decode cX11_mostBy 40 = .ok (.bipush 6, 2) := by decide +kernel
theorem dX11_mostBy_42 : decode cX11_mostBy 42 = .ok (.if_icmp .ge 31, 3) := by decide +kernel
theorem dX11_mostBy_45 : decode cX11_mostBy 45 = .ok (.iconst 0, 1) := by decide +kernel
theorem dX11_mostBy_46 : decode cX11_mostBy 46 = .ok (.istore_n 3, 1) := by decide +kernel
theorem dX11_mostBy_47 : decode cX11_mostBy 47 = .ok (.iload_n 3, 1) := by decide +kernel
theorem dX11_mostBy_48 : decode cX11_mostBy 48 = .ok (.iload_n 1, 1) := by decide +kernel
theorem dX11_mostBy_49 : decode cX11_mostBy 49 = .ok (.if_icmp .ge 13, 3) := by decide +kernel
theorem dX11_mostBy_52 : decode cX11_mostBy 52 = .ok (.aload_n 0, 1) := by decide +kernel
theorem dX11_mostBy_53 : decode cX11_mostBy 53 = .ok (.invokevirtual 293, 3) := by decide +kernel
theorem dX11_mostBy_56 : decode cX11_mostBy 56 = .ok (.iinc 3 1, 3) := by decide +kernel
theorem dX11_mostBy_59 : decode cX11_mostBy 59 = .ok (.goto (-12), 3) := by decide +kernel
theorem dX11_mostBy_62 : decode cX11_mostBy 62 = .ok (.aload_n 0, 1) := by decide +kernel
theorem dX11_mostBy_63 : decode cX11_mostBy 63 = .ok (.iload_n 2, 1) := by decide +kernel
theorem dX11_mostBy_64 : decode cX11_mostBy 64 = .ok (.invokevirtual 296, 3) := by decide +kernel
theorem dX11_mostBy_67 : decode cX11_mostBy 67 = .ok (.iinc 2 1, 3) := by decide +kernel
theorem dX11_mostBy_70 : decode cX11_mostBy 70 = .ok (.goto (-31), 3) := by decide +kernel
theorem dX11_mostBy_73 : decode cX11_mostBy 73 = .ok (.iconst 0, 1) := by decide +kernel
theorem dX11_mostBy_74 : decode cX11_mostBy 74 = .ok (.istore_n 2, 1) := by decide +kernel
theorem dX11_mostBy_75 : decode cX11_mostBy 75 = .ok (.iconst 0, 1) := by decide +kernel
theorem dX11_mostBy_76 : decode cX11_mostBy 76 = .ok (.istore_n 3, 1) := by decide +kernel
theorem dX11_mostBy_77 : decode cX11_mostBy 77 = .ok (.iload_n 3, 1) := by decide +kernel
theorem dX11_mostBy_78 : decode cX11_mostBy 78 = .ok (.aload_n 0, 1) := by decide +kernel
theorem dX11_mostBy_79 : decode cX11_mostBy 79 = .ok (.invokevirtual 265, 3) := by decide +kernel
theorem dX11_mostBy_82 : decode cX11_mostBy 82 = .ok (.if_icmp .ge 20, 3) := by decide +kernel
theorem dX11_mostBy_85 : decode cX11_mostBy 85 = .ok (.iload_n 2, 1) := by decide +kernel
theorem dX11_mostBy_86 : decode cX11_mostBy 86 = .ok (.aload_n 0, 1) := by decide +kernel
theorem dX11_mostBy_87 : decode cX11_mostBy 87 = .ok (.getfield 75, 3) := by decide +kernel
theorem dX11_mostBy_90 : decode cX11_mostBy 90 = .ok (.iload_n 3, 1) := by decide +kernel
theorem dX11_mostBy_91 : decode cX11_mostBy 91 = .ok (.iaload, 1) := by decide +kernel
theorem dX11_mostBy_92 : decode cX11_mostBy 92 = .ok (.invokestatic 290, 3) := by decide +kernel
theorem dX11_mostBy_95 : decode cX11_mostBy 95 = .ok (.istore_n 2, 1) := by decide +kernel
theorem dX11_mostBy_96 : decode cX11_mostBy 96 = .ok (.iinc 3 1, 3) := by decide +kernel
theorem dX11_mostBy_99 : decode cX11_mostBy 99 = .ok (.goto (-22), 3) := by decide +kernel
theorem dX11_mostBy_102 : decode cX11_mostBy 102 = .ok (.iload_n 2, 1) := by decide +kernel
theorem dX11_mostBy_103 : decode cX11_mostBy 103 = .ok (.ireturn, 1) := by decide +kernel
theorem dX11_allWorth_0 : decode cX11_allWorth 0 = .ok (.iconst 0, 1) := by decide +kernel
theorem dX11_allWorth_1 : decode cX11_allWorth 1 = .ok (.istore_n 1, 1) := by decide +kernel
theorem dX11_allWorth_2 : decode cX11_allWorth 2 = .ok (.iconst 0, 1) := by decide +kernel
theorem dX11_allWorth_3 : decode cX11_allWorth 3 = .ok (.istore_n 2, 1) := by decide +kernel
theorem dX11_allWorth_4 : decode cX11_allWorth 4 = .ok (.iload_n 2, 1) := by decide +kernel
theorem dX11_allWorth_5 : decode cX11_allWorth 5 = .ok (.aload_n 0, 1) := by decide +kernel
theorem dX11_allWorth_6 : decode cX11_allWorth 6 = .ok (.getfield 184, 3) := by decide +kernel
theorem dX11_allWorth_9 : decode cX11_allWorth 9 = .ok (.if_icmp .ge 22, 3) := by decide +kernel
theorem dX11_allWorth_12 : decode cX11_allWorth 12 = .ok (.iload_n 1, 1) := by decide +kernel
theorem dX11_allWorth_13 : decode cX11_allWorth 13 = .ok (.aload_n 0, 1) := by decide +kernel
theorem dX11_allWorth_14 : decode cX11_allWorth 14 = .ok (.getfield 35, 3) := by decide +kernel
theorem dX11_allWorth_17 : decode cX11_allWorth 17 = .ok (.iconst 4, 1) := by decide +kernel
theorem dX11_allWorth_18 : decode cX11_allWorth 18 = .ok (.iload_n 2, 1) := by decide +kernel
theorem dX11_allWorth_19 : decode cX11_allWorth 19 = .ok (.imul, 1) := by decide +kernel
theorem dX11_allWorth_20 : decode cX11_allWorth 20 = .ok (.iconst 3, 1) := by decide +kernel
theorem dX11_allWorth_21 : decode cX11_allWorth 21 = .ok (.iadd, 1) := by decide +kernel
theorem dX11_allWorth_22 : decode cX11_allWorth 22 = .ok (.iaload, 1) := by decide +kernel
theorem dX11_allWorth_23 : decode cX11_allWorth 23 = .ok (.iadd, 1) := by decide +kernel
theorem dX11_allWorth_24 : decode cX11_allWorth 24 = .ok (.istore_n 1, 1) := by decide +kernel
theorem dX11_allWorth_25 : decode cX11_allWorth 25 = .ok (.iinc 2 1, 3) := by decide +kernel
theorem dX11_allWorth_28 : decode cX11_allWorth 28 = .ok (.goto (-24), 3) := by decide +kernel
theorem dX11_allWorth_31 : decode cX11_allWorth 31 = .ok (.iload_n 1, 1) := by decide +kernel
theorem dX11_allWorth_32 : decode cX11_allWorth 32 = .ok (.ireturn, 1) := by decide +kernel
theorem dX11_most_0 : decode cX11_most 0 = .ok (.iload_n 1, 1) := by decide +kernel
theorem dX11_most_1 : decode cX11_most 1 = .ok (.iconst 0, 1) := by decide +kernel
theorem dX11_most_2 : decode cX11_most 2 = .ok (.iconst 2, 1) := by decide +kernel
theorem dX11_most_3 : decode cX11_most 3 = .ok (.invokestatic 98, 3) := by decide +kernel
theorem dX11_most_6 : decode cX11_most 6 = .ok (.ifCond .eq 19, 3) := by decide +kernel
theorem dX11_most_9 : decode cX11_most 9 = .ok (.aload_n 0, 1) := by decide +kernel
theorem dX11_most_10 : decode cX11_most 10 = .ok (.aload_n 0, 1) := by decide +kernel
theorem dX11_most_11 : decode cX11_most 11 = .ok (.invokevirtual 299, 3) := by decide +kernel
theorem dX11_most_14 : decode cX11_most 14 = .ok (.aload_n 0, 1) := by decide +kernel
theorem dX11_most_15 : decode cX11_most 15 = .ok (.iload_n 1, 1) := by decide +kernel
theorem dX11_most_16 : decode cX11_most 16 = .ok (.invokevirtual 302, 3) := by decide +kernel
theorem dX11_most_19 : decode cX11_most 19 = .ok (.invokevirtual 120, 3) := by decide +kernel
theorem dX11_most_22 : decode cX11_most 22 = .ok (.goto 4, 3) := by decide +kernel
theorem dX11_most_25 : decode cX11_most 25 = .ok (.iconst (-1), 1) := by decide +kernel
theorem dX11_most_26 : decode cX11_most 26 = .ok (.ireturn, 1) := by decide +kernel
theorem dX11_mostWith_0 : decode cX11_mostWith 0 = .ok (.aload_n 0, 1) := by decide +kernel
theorem dX11_mostWith_1 : decode cX11_mostWith 1 = .ok (.getfield 91, 3) := by decide +kernel
theorem dX11_mostWith_4 : decode cX11_mostWith 4 = .ok (.istore_n 3, 1) := by decide +kernel
theorem dX11_mostWith_5 : decode cX11_mostWith 5 = .ok (.aload_n 0, 1) := by decide +kernel
theorem dX11_mostWith_6 : decode cX11_mostWith 6 = .ok (.iload_n 1, 1) := by decide +kernel
theorem dX11_mostWith_7 : decode cX11_mostWith 7 = .ok (.putfield 91, 3) := by decide +kernel
theorem dX11_mostWith_10 : decode cX11_mostWith 10 = .ok (.aload_n 0, 1) := by decide +kernel
theorem dX11_mostWith_11 : decode cX11_mostWith 11 = .ok (.iload_n 2, 1) := by decide +kernel
theorem dX11_mostWith_12 : decode cX11_mostWith 12 = .ok (.invokevirtual 302, 3) := by decide +kernel
theorem dX11_mostWith_15 : decode cX11_mostWith 15 = .ok (.istore 4, 2) := by decide +kernel
theorem dX11_mostWith_17 : decode cX11_mostWith 17 = .ok (.aload_n 0, 1) := by decide +kernel
theorem dX11_mostWith_18 : decode cX11_mostWith 18 = .ok (.iload_n 3, 1) := by decide +kernel
theorem dX11_mostWith_19 : decode cX11_mostWith 19 = .ok (.putfield 91, 3) := by decide +kernel
theorem dX11_mostWith_22 : decode cX11_mostWith 22 = .ok (.iload 4, 2) := by decide +kernel
theorem dX11_mostWith_24 : decode cX11_mostWith 24 = .ok (.ireturn, 1) := by decide +kernel
theorem dX11_hand_0 : decode cX11_hand 0 = .ok (.iload_n 1, 1) := by decide +kernel
theorem dX11_hand_1 : decode cX11_hand 1 = .ok (.iconst 0, 1) := by decide +kernel
theorem dX11_hand_2 : decode cX11_hand 2 = .ok (.iconst 2, 1) := by decide +kernel
theorem dX11_hand_3 : decode cX11_hand 3 = .ok (.invokestatic 98, 3) := by decide +kernel
theorem dX11_hand_6 : decode cX11_hand 6 = .ok (.ifCond .ne 5, 3) := by decide +kernel
theorem dX11_hand_9 : decode cX11_hand 9 = .ok (.iconst (-1), 1) := by decide +kernel
theorem dX11_hand_10 : decode cX11_hand 10 = .ok (.ireturn, 1) := by decide +kernel
theorem dX11_hand_11 : decode cX11_hand 11 = .ok (.aload_n 0, 1) := by decide +kernel
theorem dX11_hand_12 : decode cX11_hand 12 = .ok (.getfield 91, 3) := by decide +kernel
theorem dX11_hand_15 : decode cX11_hand 15 = .ok (.bipush 6, 2) := by decide +kernel
theorem dX11_hand_17 : decode cX11_hand 17 = .ok (.if_icmp .ne 7, 3) := by decide +kernel
theorem dX11_hand_20 : decode cX11_hand 20 = .ok (.iconst 0, 1) := by decide +kernel
theorem dX11_hand_21 : decode cX11_hand 21 = .ok (.goto 20, 3) := by decide +kernel
theorem dX11_hand_24 : decode cX11_hand 24 = .ok (.aload_n 0, 1) := by decide +kernel
theorem dX11_hand_25 : decode cX11_hand 25 = .ok (.aload_n 0, 1) := by decide +kernel
theorem dX11_hand_26 : decode cX11_hand 26 = .ok (.getfield 91, 3) := by decide +kernel
theorem dX11_hand_29 : decode cX11_hand 29 = .ok (.iconst 1, 1) := by decide +kernel
theorem dX11_hand_30 : decode cX11_hand 30 = .ok (.iadd, 1) := by decide +kernel
theorem dX11_hand_31 : decode cX11_hand 31 = .ok (.iload_n 1, 1) := by decide +kernel
theorem dX11_hand_32 : decode cX11_hand 32 = .ok (.invokevirtual 305, 3) := by decide +kernel
theorem dX11_hand_35 : decode cX11_hand 35 = .ok (.aload_n 0, 1) := by decide +kernel
theorem dX11_hand_36 : decode cX11_hand 36 = .ok (.iload_n 1, 1) := by decide +kernel
theorem dX11_hand_37 : decode cX11_hand 37 = .ok (.invokevirtual 302, 3) := by decide +kernel
theorem dX11_hand_40 : decode cX11_hand 40 = .ok (.isub, 1) := by decide +kernel
theorem dX11_hand_41 : decode cX11_hand 41 = .ok (.ireturn, 1) := by decide +kernel
theorem dX11_creed_0 : decode cX11_creed 0 = .ok (.iload_n 1, 1) := by decide +kernel
theorem dX11_creed_1 : decode cX11_creed 1 = .ok (.iconst 1, 1) := by decide +kernel
theorem dX11_creed_2 : decode cX11_creed 2 = .ok (.bipush 6, 2) := by decide +kernel
theorem dX11_creed_4 : decode cX11_creed 4 = .ok (.invokestatic 98, 3) := by decide +kernel
theorem dX11_creed_7 : decode cX11_creed 7 = .ok (.ifCond .eq 12, 3) := by decide +kernel
theorem dX11_creed_10 : decode cX11_creed 10 = .ok (.iload_n 2, 1) := by decide +kernel
theorem dX11_creed_11 : decode cX11_creed 11 = .ok (.iconst 0, 1) := by decide +kernel
theorem dX11_creed_12 : decode cX11_creed 12 = .ok (.iconst 2, 1) := by decide +kernel
theorem dX11_creed_13 : decode cX11_creed 13 = .ok (.invokestatic 98, 3) := by decide +kernel
theorem dX11_creed_16 : decode cX11_creed 16 = .ok (.ifCond .ne 5, 3) := by decide +kernel
theorem dX11_creed_19 : decode cX11_creed 19 = .ok (.iconst (-1), 1) := by decide +kernel
theorem dX11_creed_20 : decode cX11_creed 20 = .ok (.ireturn, 1) := by decide +kernel
theorem dX11_creed_21 : decode cX11_creed 21 = .ok (.aload_n 0, 1) := by decide +kernel
theorem dX11_creed_22 : decode cX11_creed 22 = .ok (.iload_n 1, 1) := by decide +kernel
theorem dX11_creed_23 : decode cX11_creed 23 = .ok (.invokevirtual 238, 3) := by decide +kernel
theorem dX11_creed_26 : decode cX11_creed 26 = .ok (.ifCond .eq 8, 3) := by decide +kernel
theorem dX11_creed_29 : decode cX11_creed 29 = .ok (.bipush (-4), 2) := by decide +kernel
theorem dX11_creed_31 : decode cX11_creed 31 = .ok (.goto 9, 3) := by decide +kernel
theorem dX11_creed_34 : decode cX11_creed 34 = .ok (.aload_n 0, 1) := by decide +kernel
theorem dX11_creed_35 : decode cX11_creed 35 = .ok (.iload_n 1, 1) := by decide +kernel
theorem dX11_creed_36 : decode cX11_creed 36 = .ok (.iload_n 2, 1) := by decide +kernel
theorem dX11_creed_37 : decode cX11_creed 37 = .ok (.invokevirtual 305, 3) := by decide +kernel
theorem dX11_creed_40 : decode cX11_creed 40 = .ok (.ireturn, 1) := by decide +kernel
theorem dX11_leastOf_0 : decode cX11_leastOf 0 = .ok (.iconst 0, 1) := by decide +kernel
theorem dX11_leastOf_1 : decode cX11_leastOf 1 = .ok (.istore_n 2, 1) := by decide +kernel
theorem dX11_leastOf_2 : decode cX11_leastOf 2 = .ok (.iload_n 2, 1) := by decide +kernel
theorem dX11_leastOf_3 : decode cX11_leastOf 3 = .ok (.aload_n 0, 1) := by decide +kernel
theorem dX11_leastOf_4 : decode cX11_leastOf 4 = .ok (.getfield 181, 3) := by decide +kernel
theorem dX11_leastOf_7 : decode cX11_leastOf 7 = .ok (.if_icmp .ge 33, 3) := by decide +kernel
theorem dX11_leastOf_10 : decode cX11_leastOf 10 = .ok (.aload_n 0, 1) := by decide +kernel
theorem dX11_leastOf_11 : decode cX11_leastOf 11 = .ok (.getfield 50, 3) := by decide +kernel
theorem dX11_leastOf_14 : decode cX11_leastOf 14 = .ok (.iload_n 2, 1) := by decide +kernel
theorem dX11_leastOf_15 : decode cX11_leastOf 15 = .ok (.iaload, 1) := by decide +kernel
theorem dX11_leastOf_16 : decode cX11_leastOf 16 = .ok (.iload_n 1, 1) := by decide +kernel
theorem dX11_leastOf_17 : decode cX11_leastOf 17 = .ok (.if_icmp .ne 17, 3) := by decide +kernel
theorem dX11_leastOf_20 : decode cX11_leastOf 20 = .ok (.aload_n 0, 1) := by decide +kernel
theorem dX11_leastOf_21 : decode cX11_leastOf 21 = .ok (.getfield 29, 3) := by decide +kernel
theorem dX11_leastOf_24 : decode cX11_leastOf 24 = .ok (.iload_n 2, 1) := by decide +kernel
theorem dX11_leastOf_25 : decode cX11_leastOf 25 = .ok (.iaload, 1) := by decide +kernel
theorem dX11_leastOf_26 : decode cX11_leastOf 26 = .ok (.invokestatic 156, 3) := by decide +kernel
theorem dX11_leastOf_29 : decode cX11_leastOf 29 = .ok (.ifCond .ne 5, 3) := by decide +kernel
theorem dX11_leastOf_32 : decode cX11_leastOf 32 = .ok (.iload_n 2, 1) := by decide +kernel
theorem dX11_leastOf_33 : decode cX11_leastOf 33 = .ok (.ireturn, 1) := by decide +kernel
theorem dX11_leastOf_34 : decode cX11_leastOf 34 = .ok (.iinc 2 1, 3) := by decide +kernel
theorem dX11_leastOf_37 : decode cX11_leastOf 37 = .ok (.goto (-35), 3) := by decide +kernel
theorem dX11_leastOf_40 : decode cX11_leastOf 40 = .ok (.bipush (-9), 2) := by decide +kernel
theorem dX11_leastOf_42 : decode cX11_leastOf 42 = .ok (.ireturn, 1) := by decide +kernel
theorem dX11_gives_0 : decode cX11_gives 0 = .ok (.aload_n 0, 1) := by decide +kernel
theorem dX11_gives_1 : decode cX11_gives 1 = .ok (.iconst 0, 1) := by decide +kernel
theorem dX11_gives_2 : decode cX11_gives 2 = .ok (.putfield 308, 3) := by decide +kernel
theorem dX11_gives_5 : decode cX11_gives 5 = .ok (.aload_n 0, 1) := by decide +kernel
theorem dX11_gives_6 : decode cX11_gives 6 = .ok (.getfield 50, 3) := by decide +kernel
theorem dX11_gives_9 : decode cX11_gives 9 = .ok (.iload_n 2, 1) := by decide +kernel
theorem dX11_gives_10 : decode cX11_gives 10 = .ok (.iaload, 1) := by decide +kernel
theorem dX11_gives_11 : decode cX11_gives 11 = .ok (.iload_n 1, 1) := by decide +kernel
theorem dX11_gives_12 : decode cX11_gives 12 = .ok (.if_icmp .ne 8, 3) := by decide +kernel
theorem dX11_gives_15 : decode cX11_gives 15 = .ok (.iload_n 1, 1) := by decide +kernel
theorem dX11_gives_16 : decode cX11_gives 16 = .ok (.iload_n 3, 1) := by decide +kernel
theorem dX11_gives_17 : decode cX11_gives 17 = .ok (.if_icmp .ne 5, 3) := by decide +kernel
theorem dX11_gives_20 : decode cX11_gives 20 = .ok (.iconst 0, 1) := by decide +kernel
theorem dX11_gives_21 : decode cX11_gives 21 = .ok (.ireturn, 1) := by decide +kernel
theorem dX11_gives_22 : decode cX11_gives 22 = .ok (.aload_n 0, 1) := by decide +kernel
theorem dX11_gives_23 : decode cX11_gives 23 = .ok (.iload_n 2, 1) := by decide +kernel
theorem dX11_gives_24 : decode cX11_gives 24 = .ok (.iload_n 3, 1) := by decide +kernel
theorem dX11_gives_25 : decode cX11_gives 25 = .ok (.invokevirtual 211, 3) := by decide +kernel
theorem dX11_gives_28 : decode cX11_gives 28 = .ok (.ifCond .ne 43, 3) := by decide +kernel
theorem dX11_gives_31 : decode cX11_gives 31 = .ok (.aload_n 0, 1) := by decide +kernel
theorem dX11_gives_32 : decode cX11_gives 32 = .ok (.iload_n 3, 1) := by decide +kernel
theorem dX11_gives_33 : decode cX11_gives 33 = .ok (.invokevirtual 311, 3) := by decide +kernel
theorem dX11_gives_36 : decode cX11_gives 36 = .ok (.istore 4, 2) := by decide +kernel
theorem dX11_gives_38 : decode cX11_gives 38 = .ok (.iload 4, 2) := by decide +kernel
theorem dX11_gives_40 : decode cX11_gives 40 = .ok (.bipush (-9), 2) := by decide +kernel
theorem dX11_gives_42 : decode cX11_gives 42 = .ok (.if_icmp .ne 5, 3) := by decide +kernel
theorem dX11_gives_45 : decode cX11_gives 45 = .ok (.iconst 0, 1) := by decide +kernel
theorem dX11_gives_46 : decode cX11_gives 46 = .ok (.ireturn, 1) := by decide +kernel
theorem dX11_gives_47 : decode cX11_gives 47 = .ok (.aload_n 0, 1) := by decide +kernel
theorem dX11_gives_48 : decode cX11_gives 48 = .ok (.getfield 50, 3) := by decide +kernel
theorem dX11_gives_51 : decode cX11_gives 51 = .ok (.iload 4, 2) := by decide +kernel
theorem dX11_gives_53 : decode cX11_gives 53 = .ok (.iconst 4, 1) := by decide +kernel
theorem dX11_gives_54 : decode cX11_gives 54 = .ok (.iastore, 1) := by decide +kernel
theorem dX11_gives_55 : decode cX11_gives 55 = .ok (.aload_n 0, 1) := by decide +kernel
theorem dX11_gives_56 : decode cX11_gives 56 = .ok (.dup, 1) := by decide +kernel
theorem dX11_gives_57 : decode cX11_gives 57 = .ok (.getfield 308, 3) := by decide +kernel
theorem dX11_gives_60 : decode cX11_gives 60 = .ok (.iconst 1, 1) := by decide +kernel
theorem dX11_gives_61 : decode cX11_gives 61 = .ok (.iload 4, 2) := by decide +kernel
theorem dX11_gives_63 : decode cX11_gives 63 = .ok (.ishl, 1) := by decide +kernel
theorem dX11_gives_64 : decode cX11_gives 64 = .ok (.ior, 1) := by decide +kernel
theorem dX11_gives_65 : decode cX11_gives 65 = .ok (.putfield 308, 3) := by decide +kernel
theorem dX11_gives_68 : decode cX11_gives 68 = .ok (.goto (-46), 3) := by decide +kernel
theorem dX11_gives_71 : decode cX11_gives 71 = .ok (.aload_n 0, 1) := by decide +kernel
theorem dX11_gives_72 : decode cX11_gives 72 = .ok (.getfield 50, 3) := by decide +kernel
theorem dX11_gives_75 : decode cX11_gives 75 = .ok (.iload_n 2, 1) := by decide +kernel
theorem dX11_gives_76 : decode cX11_gives 76 = .ok (.iload_n 3, 1) := by decide +kernel
theorem dX11_gives_77 : decode cX11_gives 77 = .ok (.iastore, 1) := by decide +kernel
theorem dX11_gives_78 : decode cX11_gives 78 = .ok (.iconst 1, 1) := by decide +kernel
theorem dX11_gives_79 : decode cX11_gives 79 = .ok (.ireturn, 1) := by decide +kernel
theorem dX11_steals_0 : decode cX11_steals 0 = .ok (.iload_n 2, 1) := by decide +kernel
theorem dX11_steals_1 : decode cX11_steals 1 = .ok (.bipush 7, 2) := by decide +kernel
theorem dX11_steals_3 : decode cX11_steals 3 = .ok (.idiv, 1) := by decide +kernel
theorem dX11_steals_4 : decode cX11_steals 4 = .ok (.istore_n 3, 1) := by decide +kernel
theorem dX11_steals_5 : decode cX11_steals 5 = .ok (.iload_n 2, 1) := by decide +kernel
theorem dX11_steals_6 : decode cX11_steals 6 = .ok (.bipush 7, 2) := by decide +kernel
theorem dX11_steals_8 : decode cX11_steals 8 = .ok (.irem, 1) := by decide +kernel
theorem dX11_steals_9 : decode cX11_steals 9 = .ok (.istore 4, 2) := by decide +kernel
theorem dX11_steals_11 : decode cX11_steals 11 = .ok (.aload_n 0, 1) := by decide +kernel
theorem dX11_steals_12 : decode cX11_steals 12 = .ok (.iload 4, 2) := by decide +kernel
theorem dX11_steals_14 : decode cX11_steals 14 = .ok (.invokevirtual 196, 3) := by decide +kernel
theorem dX11_steals_17 : decode cX11_steals 17 = .ok (.ifCond .eq 18, 3) := by decide +kernel
theorem dX11_steals_20 : decode cX11_steals 20 = .ok (.iload 4, 2) := by decide +kernel
theorem dX11_steals_22 : decode cX11_steals 22 = .ok (.iload_n 1, 1) := by decide +kernel
theorem dX11_steals_23 : decode cX11_steals 23 = .ok (.if_icmp .eq 12, 3) := by decide +kernel
theorem dX11_steals_26 : decode cX11_steals 26 = .ok (.aload_n 0, 1) := by decide +kernel
theorem dX11_steals_27 : decode cX11_steals 27 = .ok (.iload_n 1, 1) := by decide +kernel
theorem dX11_steals_28 : decode cX11_steals 28 = .ok (.iload_n 3, 1) := by decide +kernel
theorem dX11_steals_29 : decode cX11_steals 29 = .ok (.iload 4, 2) := by decide +kernel
theorem dX11_steals_31 : decode cX11_steals 31 = .ok (.invokevirtual 314, 3) := by decide +kernel
theorem dX11_steals_34 : decode cX11_steals 34 = .ok (.ireturn, 1) := by decide +kernel
theorem dX11_steals_35 : decode cX11_steals 35 = .ok (.iload 4, 2) := by decide +kernel
theorem dX11_steals_37 : decode cX11_steals 37 = .ok (.iload_n 1, 1) := by decide +kernel
theorem dX11_steals_38 : decode cX11_steals 38 = .ok (.if_icmp .ne 30, 3) := by decide +kernel
theorem dX11_steals_41 : decode cX11_steals 41 = .ok (.aload_n 0, 1) := by decide +kernel
theorem dX11_steals_42 : decode cX11_steals 42 = .ok (.getfield 50, 3) := by decide +kernel
theorem dX11_steals_45 : decode cX11_steals 45 = .ok (.iload_n 3, 1) := by decide +kernel
theorem dX11_steals_46 : decode cX11_steals 46 = .ok (.iaload, 1) := by decide +kernel
theorem dX11_steals_47 : decode cX11_steals 47 = .ok (.iconst 4, 1) := by decide +kernel
theorem dX11_steals_48 : decode cX11_steals 48 = .ok (.if_icmp .ne 16, 3) := by decide +kernel
theorem dX11_steals_51 : decode cX11_steals 51 = .ok (.aload_n 0, 1) := by decide +kernel
theorem dX11_steals_52 : decode cX11_steals 52 = .ok (.iload_n 3, 1) := by decide +kernel
theorem dX11_steals_53 : decode cX11_steals 53 = .ok (.iload_n 1, 1) := by decide +kernel
theorem dX11_steals_54 : decode cX11_steals 54 = .ok (.invokevirtual 211, 3) := by decide +kernel
theorem dX11_steals_57 : decode cX11_steals 57 = .ok (.ifCond .eq 7, 3) := by decide +kernel
theorem dX11_steals_60 : decode cX11_steals 60 = .ok (.iconst 1, 1) := by decide +kernel
theorem dX11_steals_61 : decode cX11_steals 61 = .ok (.goto 40, 3) := by decide +kernel
theorem dX11_steals_64 : decode cX11_steals 64 = .ok (.iconst 0, 1) := by decide +kernel
theorem dX11_steals_65 : decode cX11_steals 65 = .ok (.goto 36, 3) := by decide +kernel
theorem dX11_steals_68 : decode cX11_steals 68 = .ok (.iload 4, 2) := by decide +kernel
theorem dX11_steals_70 : decode cX11_steals 70 = .ok (.iconst 4, 1) := by decide +kernel
theorem dX11_steals_71 : decode cX11_steals 71 = .ok (.if_icmp .ne 29, 3) := by decide +kernel
theorem dX11_steals_74 : decode cX11_steals 74 = .ok (.aload_n 0, 1) := by decide +kernel
theorem dX11_steals_75 : decode cX11_steals 75 = .ok (.getfield 50, 3) := by decide +kernel
theorem dX11_steals_78 : decode cX11_steals 78 = .ok (.iload_n 3, 1) := by decide +kernel
theorem dX11_steals_79 : decode cX11_steals 79 = .ok (.iaload, 1) := by decide +kernel
theorem dX11_steals_80 : decode cX11_steals 80 = .ok (.iload_n 1, 1) := by decide +kernel
theorem dX11_steals_81 : decode cX11_steals 81 = .ok (.if_icmp .ne 19, 3) := by decide +kernel
theorem dX11_steals_84 : decode cX11_steals 84 = .ok (.aload_n 0, 1) := by decide +kernel
theorem dX11_steals_85 : decode cX11_steals 85 = .ok (.getfield 29, 3) := by decide +kernel
theorem dX11_steals_88 : decode cX11_steals 88 = .ok (.iload_n 3, 1) := by decide +kernel
theorem dX11_steals_89 : decode cX11_steals 89 = .ok (.iaload, 1) := by decide +kernel
theorem dX11_steals_90 : decode cX11_steals 90 = .ok (.invokestatic 156, 3) := by decide +kernel
theorem dX11_steals_93 : decode cX11_steals 93 = .ok (.ifCond .ne 7, 3) := by decide +kernel
theorem dX11_steals_96 : decode cX11_steals 96 = .ok (.iconst 1, 1) := by decide +kernel
theorem dX11_steals_97 : decode cX11_steals 97 = .ok (.goto 4, 3) := by decide +kernel
theorem dX11_steals_100 : decode cX11_steals 100 = .ok (.iconst 0, 1) := by decide +kernel
theorem dX11_steals_101 : decode cX11_steals 101 = .ok (.istore 5, 2) := by decide +kernel
theorem dX11_steals_103 : decode cX11_steals 103 = .ok (.aload_n 0, 1) := by decide +kernel
theorem dX11_steals_104 : decode cX11_steals 104 = .ok (.getfield 50, 3) := by decide +kernel
theorem dX11_steals_107 : decode cX11_steals 107 = .ok (.iload_n 3, 1) := by decide +kernel
theorem dX11_steals_108 : decode cX11_steals 108 = .ok (.iload 5, 2) := by decide +kernel
theorem dX11_steals_110 : decode cX11_steals 110 = .ok (.ifCond .eq 8, 3) := by decide +kernel
theorem dX11_steals_113 : decode cX11_steals 113 = .ok (.iload 4, 2) := by decide +kernel
theorem dX11_steals_115 : decode cX11_steals 115 = .ok (.goto 9, 3) := by decide +kernel
theorem dX11_steals_118 : decode cX11_steals 118 = .ok (.aload_n 0, 1) := by decide +kernel
theorem dX11_steals_119 : decode cX11_steals 119 = .ok (.getfield 50, 3) := by decide +kernel
theorem dX11_steals_122 : decode cX11_steals 122 = .ok (.iload_n 3, 1) := by decide +kernel
theorem dX11_steals_123 : decode cX11_steals 123 = .ok (.iaload, 1) := by decide +kernel
theorem dX11_steals_124 : decode cX11_steals 124 = .ok (.iastore, 1) := by decide +kernel
theorem dX11_steals_125 : decode cX11_steals 125 = .ok (.iload 5, 2) := by decide +kernel
theorem dX11_steals_127 : decode cX11_steals 127 = .ok (.ireturn, 1) := by decide +kernel
theorem dX11_layTheft_0 : decode cX11_layTheft 0 = .ok (.iconst 0, 1) := by decide +kernel
theorem dX11_layTheft_1 : decode cX11_layTheft 1 = .ok (.istore_n 3, 1) := by decide +kernel
theorem dX11_layTheft_2 : decode cX11_layTheft 2 = .ok (.iload_n 3, 1) := by decide +kernel
theorem dX11_layTheft_3 : decode cX11_layTheft 3 = .ok (.aload_n 0, 1) := by decide +kernel
theorem dX11_layTheft_4 : decode cX11_layTheft 4 = .ok (.invokevirtual 265, 3) := by decide +kernel
theorem dX11_layTheft_7 : decode cX11_layTheft 7 = .ok (.if_icmp .ge 18, 3) := by decide +kernel
theorem dX11_layTheft_10 : decode cX11_layTheft 10 = .ok (.aload_n 0, 1) := by decide +kernel
theorem dX11_layTheft_11 : decode cX11_layTheft 11 = .ok (.getfield 65, 3) := by decide +kernel
theorem dX11_layTheft_14 : decode cX11_layTheft 14 = .ok (.iload_n 3, 1) := by decide +kernel
theorem dX11_layTheft_15 : decode cX11_layTheft 15 = .ok (.ldc_w 268, 3) := by decide +kernel
theorem dX11_layTheft_18 : decode cX11_layTheft 18 = .ok (.iastore, 1) := by decide +kernel
theorem dX11_layTheft_19 : decode cX11_layTheft 19 = .ok (.iinc 3 1, 3) := by decide +kernel
theorem dX11_layTheft_22 : decode cX11_layTheft 22 = .ok (.goto (-20), 3) := by decide +kernel
theorem dX11_layTheft_25 : decode cX11_layTheft 25 = .ok (.aload_n 0, 1) := by decide +kernel
theorem dX11_layTheft_26 : decode cX11_layTheft 26 = .ok (.invokevirtual 217, 3) := by decide +kernel
theorem dX11_layTheft_29 : decode cX11_layTheft 29 = .ok (.aload_n 0, 1) := by decide +kernel
theorem dX11_layTheft_30 : decode cX11_layTheft 30 = .ok (.getfield 68, 3) := by decide +kernel
theorem dX11_layTheft_33 : decode cX11_layTheft 33 = .ok (.iconst 0, 1) := by decide +kernel
theorem dX11_layTheft_34 : decode cX11_layTheft 34 = .ok (.aload_n 0, 1) := by decide +kernel
theorem dX11_layTheft_35 : decode cX11_layTheft 35 = .ok (.invokevirtual 251, 3) := by decide +kernel
theorem dX11_layTheft_38 : decode cX11_layTheft 38 = .ok (.iastore, 1) := by decide +kernel
theorem dX11_layTheft_39 : decode cX11_layTheft 39 = .ok (.aload_n 0, 1) := by decide +kernel
theorem dX11_layTheft_40 : decode cX11_layTheft 40 = .ok (.getfield 65, 3) := by decide +kernel
theorem dX11_layTheft_43 : decode cX11_layTheft 43 = .ok (.aload_n 0, 1) := by decide +kernel
theorem dX11_layTheft_44 : decode cX11_layTheft 44 = .ok (.getfield 68, 3) := by decide +kernel
theorem dX11_layTheft_47 : decode cX11_layTheft 47 = .ok (.iconst 0, 1) := by decide +kernel
theorem dX11_layTheft_48 : decode cX11_layTheft 48 = .ok (.iaload, 1) := by decide +kernel
theorem dX11_layTheft_49 : decode cX11_layTheft 49 = .ok (.iconst 0, 1) := by decide +kernel
theorem dX11_layTheft_50 : decode cX11_layTheft 50 = .ok (.iastore, 1) := by decide +kernel
theorem dX11_layTheft_51 : decode cX11_layTheft 51 = .ok (.aload_n 0, 1) := by decide +kernel
theorem dX11_layTheft_52 : decode cX11_layTheft 52 = .ok (.iconst 1, 1) := by decide +kernel
theorem dX11_layTheft_53 : decode cX11_layTheft 53 = .ok (.putfield 269, 3) := by decide +kernel
theorem dX11_layTheft_56 : decode cX11_layTheft 56 = .ok (.iconst 0, 1) := by decide +kernel
theorem dX11_layTheft_57 : decode cX11_layTheft 57 = .ok (.istore_n 3, 1) := by decide +kernel
theorem dX11_layTheft_58 : decode cX11_layTheft 58 = .ok (.iload_n 3, 1) := by decide +kernel
theorem dX11_layTheft_59 : decode cX11_layTheft 59 = .ok (.aload_n 0, 1) := by decide +kernel
theorem dX11_layTheft_60 : decode cX11_layTheft 60 = .ok (.getfield 269, 3) := by decide +kernel
theorem dX11_layTheft_63 : decode cX11_layTheft 63 = .ok (.if_icmp .ge 125, 3) := by decide +kernel
theorem dX11_layTheft_66 : decode cX11_layTheft 66 = .ok (.aload_n 0, 1) := by decide +kernel
theorem dX11_layTheft_67 : decode cX11_layTheft 67 = .ok (.getfield 65, 3) := by decide +kernel
theorem dX11_layTheft_70 : decode cX11_layTheft 70 = .ok (.aload_n 0, 1) := by decide +kernel
theorem dX11_layTheft_71 : decode cX11_layTheft 71 = .ok (.getfield 68, 3) := by decide +kernel
theorem dX11_layTheft_74 : decode cX11_layTheft 74 = .ok (.iload_n 3, 1) := by decide +kernel
theorem dX11_layTheft_75 : decode cX11_layTheft 75 = .ok (.iaload, 1) := by decide +kernel
theorem dX11_layTheft_76 : decode cX11_layTheft 76 = .ok (.iaload, 1) := by decide +kernel
theorem dX11_layTheft_77 : decode cX11_layTheft 77 = .ok (.iload_n 2, 1) := by decide +kernel
theorem dX11_layTheft_78 : decode cX11_layTheft 78 = .ok (.if_icmp .ge 110, 3) := by decide +kernel
theorem dX11_layTheft_81 : decode cX11_layTheft 81 = .ok (.iconst 0, 1) := by decide +kernel
theorem dX11_layTheft_82 : decode cX11_layTheft 82 = .ok (.istore 4, 2) := by decide +kernel
theorem dX11_layTheft_84 : decode cX11_layTheft 84 = .ok (.iload 4, 2) := by decide +kernel
theorem dX11_layTheft_86 : decode cX11_layTheft 86 = .ok (.bipush 7, 2) := by decide +kernel
theorem dX11_layTheft_88 : decode cX11_layTheft 88 = .ok (.aload_n 0, 1) := by decide +kernel
theorem dX11_layTheft_89 : decode cX11_layTheft 89 = .ok (.getfield 181, 3) := by decide +kernel
theorem dX11_layTheft_92 : decode cX11_layTheft 92 = .ok (.imul, 1) := by decide +kernel
theorem dX11_layTheft_93 : decode cX11_layTheft 93 = .ok (.if_icmp .ge 89, 3) := by decide +kernel
theorem dX11_layTheft_96 : decode cX11_layTheft 96 = .ok (.aload_n 0, 1) := by decide +kernel
theorem dX11_layTheft_97 : decode cX11_layTheft 97 = .ok (.aload_n 0, 1) := by decide +kernel
theorem dX11_layTheft_98 : decode cX11_layTheft 98 = .ok (.getfield 68, 3) := by decide +kernel
theorem dX11_layTheft_101 : decode cX11_layTheft 101 = .ok (.iload_n 3, 1) := by decide +kernel
theorem dX11_layTheft_102 : decode cX11_layTheft 102 = .ok (.iaload, 1) := by decide +kernel
theorem dX11_layTheft_103 : decode cX11_layTheft 103 = .ok (.invokevirtual 255, 3) := by decide +kernel
theorem dX11_layTheft_106 : decode cX11_layTheft 106 = .ok (.aload_n 0, 1) := by decide +kernel
theorem dX11_layTheft_107 : decode cX11_layTheft 107 = .ok (.iload_n 1, 1) := by decide +kernel
theorem dX11_layTheft_108 : decode cX11_layTheft 108 = .ok (.iload 4, 2) := by decide +kernel
theorem dX11_layTheft_110 : decode cX11_layTheft 110 = .ok (.invokevirtual 317, 3) := by decide +kernel
theorem dX11_layTheft_113 : decode cX11_layTheft 113 = .ok (.ifCond .eq 63, 3) := by decide +kernel
theorem dX11_layTheft_116 : decode cX11_layTheft 116 = .ok (.aload_n 0, 1) := by decide +kernel
theorem dX11_layTheft_117 : decode cX11_layTheft 117 = .ok (.invokevirtual 251, 3) := by decide +kernel
theorem dX11_layTheft_120 : decode cX11_layTheft 120 = .ok (.istore 5, 2) := by decide +kernel
theorem dX11_layTheft_122 : decode cX11_layTheft 122 = .ok (.aload_n 0, 1) := by decide +kernel
theorem dX11_layTheft_123 : decode cX11_layTheft 123 = .ok (.getfield 65, 3) := by decide +kernel
theorem dX11_layTheft_126 : decode cX11_layTheft 126 = .ok (.iload 5, 2) := by decide +kernel
theorem dX11_layTheft_128 : decode cX11_layTheft 128 = .ok (.iaload, 1) := by decide +kernel
theorem dX11_layTheft_129 : decode cX11_layTheft 129 = .ok (.ldc_w 268, 3) := by decide +kernel
theorem dX11_layTheft_132 : decode cX11_layTheft 132 = .ok (.if_icmp .ne 44, 3) := by decide +kernel
theorem dX11_layTheft_135 : decode cX11_layTheft 135 = .ok (.aload_n 0, 1) := by decide +kernel
theorem dX11_layTheft_136 : decode cX11_layTheft 136 = .ok (.getfield 65, 3) := by decide +kernel
theorem dX11_layTheft_139 : decode cX11_layTheft 139 = .ok (.iload 5, 2) := by decide +kernel
theorem dX11_layTheft_141 : decode cX11_layTheft 141 = .ok (.aload_n 0, 1) := by decide +kernel
theorem dX11_layTheft_142 : decode cX11_layTheft 142 = .ok (.getfield 65, 3) := by decide +kernel
theorem dX11_layTheft_145 : decode cX11_layTheft 145 = .ok (.aload_n 0, 1) := by decide +kernel
theorem dX11_layTheft_146 : decode cX11_layTheft 146 = .ok (.getfield 68, 3) := by decide +kernel
theorem dX11_layTheft_149 : decode cX11_layTheft 149 = .ok (.iload_n 3, 1) := by decide +kernel
theorem dX11_layTheft_150 : decode cX11_layTheft 150 = .ok (.iaload, 1) := by decide +kernel
theorem dX11_layTheft_151 : decode cX11_layTheft 151 = .ok (.iaload, 1) := by decide +kernel
theorem dX11_layTheft_152 : decode cX11_layTheft 152 = .ok (.iconst 1, 1) := by decide +kernel
theorem dX11_layTheft_153 : decode cX11_layTheft 153 = .ok (.iadd, 1) := by decide +kernel
theorem dX11_layTheft_154 : decode cX11_layTheft 154 = .ok (.iastore, 1) := by decide +kernel
theorem dX11_layTheft_155 : decode cX11_layTheft 155 = .ok (.aload_n 0, 1) := by decide +kernel
theorem dX11_layTheft_156 : decode cX11_layTheft 156 = .ok (.getfield 68, 3) := by decide +kernel
theorem dX11_layTheft_159 : decode cX11_layTheft 159 = .ok (.aload_n 0, 1) := by decide +kernel
theorem dX11_layTheft_160 : decode cX11_layTheft 160 = .ok (.getfield 269, 3) := by decide +kernel
theorem dX11_layTheft_163 : decode cX11_layTheft 163 = .ok (.iload 5, 2) := by decide +kernel
theorem dX11_layTheft_165 : decode cX11_layTheft 165 = .ok (.iastore, 1) := by decide +kernel
theorem dX11_layTheft_166 : decode cX11_layTheft 166 = .ok (.aload_n 0, 1) := by decide +kernel
theorem dX11_layTheft_167 : decode cX11_layTheft 167 = .ok (.dup, 1) := by decide +kernel
theorem dX11_layTheft_168 : decode cX11_layTheft 168 = .ok (.getfield 269, 3) := by decide +kernel
theorem dX11_layTheft_171 : decode cX11_layTheft 171 = .ok (.iconst 1, 1) := by decide +kernel
theorem dX11_layTheft_172 : decode cX11_layTheft 172 = .ok (.iadd, 1) := by decide +kernel
theorem dX11_layTheft_173 : decode cX11_layTheft 173 = .ok (.putfield 269, 3) := by decide +kernel
theorem dX11_layTheft_176 : decode cX11_layTheft 176 = .ok (.iinc 4 1, 3) := by decide +kernel
theorem dX11_layTheft_179 : decode cX11_layTheft 179 = .ok (.goto (-95), 3) := by decide +kernel
theorem dX11_layTheft_182 : decode cX11_layTheft 182 = .ok (.iinc 3 1, 3) := by decide +kernel
theorem dX11_layTheft_185 : decode cX11_layTheft 185 = .ok (.goto (-127), 3) := by decide +kernel
theorem dX11_layTheft_188 : decode cX11_layTheft 188 = .ok (.return_, 1) := by decide +kernel
theorem dX11_theft_0 : decode cX11_theft 0 = .ok (.aload_n 0, 1) := by decide +kernel
theorem dX11_theft_1 : decode cX11_theft 1 = .ok (.iload_n 1, 1) := by decide +kernel
theorem dX11_theft_2 : decode cX11_theft 2 = .ok (.invokevirtual 196, 3) := by decide +kernel
theorem dX11_theft_5 : decode cX11_theft 5 = .ok (.ifCond .eq 11, 3) := by decide +kernel
theorem dX11_theft_8 : decode cX11_theft 8 = .ok (.aload_n 0, 1) := by decide +kernel
theorem dX11_theft_9 : decode cX11_theft 9 = .ok (.iload_n 2, 1) := by decide +kernel
theorem dX11_theft_10 : decode cX11_theft 10 = .ok (.invokevirtual 220, 3) := by decide +kernel
theorem dX11_theft_13 : decode cX11_theft 13 = .ok (.ifCond .ne 5, 3) := by decide +kernel
theorem dX11_theft_16 : decode cX11_theft 16 = .ok (.iconst (-1), 1) := by decide +kernel
theorem dX11_theft_17 : decode cX11_theft 17 = .ok (.ireturn, 1) := by decide +kernel
theorem dX11_theft_18 : decode cX11_theft 18 = .ok (.aload_n 0, 1) := by decide +kernel
theorem dX11_theft_19 : decode cX11_theft 19 = .ok (.iload_n 1, 1) := by decide +kernel
theorem dX11_theft_20 : decode cX11_theft 20 = .ok (.iconst 4, 1) := by decide +kernel
theorem dX11_theft_21 : decode cX11_theft 21 = .ok (.invokevirtual 320, 3) := by decide +kernel
theorem dX11_theft_24 : decode cX11_theft 24 = .ok (.iconst 0, 1) := by decide +kernel
theorem dX11_theft_25 : decode cX11_theft 25 = .ok (.istore_n 3, 1) := by decide +kernel
theorem dX11_theft_26 : decode cX11_theft 26 = .ok (.iload_n 3, 1) := by decide +kernel
theorem dX11_theft_27 : decode cX11_theft 27 = .ok (.aload_n 0, 1) := by decide +kernel
theorem dX11_theft_28 : decode cX11_theft 28 = .ok (.getfield 269, 3) := by decide +kernel
theorem dX11_theft_31 : decode cX11_theft 31 = .ok (.if_icmp .ge 40, 3) := by decide +kernel
theorem dX11_theft_34 : decode cX11_theft 34 = .ok (.aload_n 0, 1) := by decide +kernel
theorem dX11_theft_35 : decode cX11_theft 35 = .ok (.aload_n 0, 1) := by decide +kernel
theorem dX11_theft_36 : decode cX11_theft 36 = .ok (.getfield 68, 3) := by decide +kernel
theorem dX11_theft_39 : decode cX11_theft 39 = .ok (.iload_n 3, 1) := by decide +kernel
theorem dX11_theft_40 : decode cX11_theft 40 = .ok (.iaload, 1) := by decide +kernel
theorem dX11_theft_41 : decode cX11_theft 41 = .ok (.invokevirtual 255, 3) := by decide +kernel
theorem dX11_theft_44 : decode cX11_theft 44 = .ok (.aload_n 0, 1) := by decide +kernel
theorem dX11_theft_45 : decode cX11_theft 45 = .ok (.iload_n 2, 1) := by decide +kernel
theorem dX11_theft_46 : decode cX11_theft 46 = .ok (.invokevirtual 199, 3) := by decide +kernel
theorem dX11_theft_49 : decode cX11_theft 49 = .ok (.iload_n 1, 1) := by decide +kernel
theorem dX11_theft_50 : decode cX11_theft 50 = .ok (.if_icmp .ne 15, 3) := by decide +kernel
theorem dX11_theft_53 : decode cX11_theft 53 = .ok (.aload_n 0, 1) := by decide +kernel
theorem dX11_theft_54 : decode cX11_theft 54 = .ok (.getfield 65, 3) := by decide +kernel
theorem dX11_theft_57 : decode cX11_theft 57 = .ok (.aload_n 0, 1) := by decide +kernel
theorem dX11_theft_58 : decode cX11_theft 58 = .ok (.getfield 68, 3) := by decide +kernel
theorem dX11_theft_61 : decode cX11_theft 61 = .ok (.iload_n 3, 1) := by decide +kernel
theorem dX11_theft_62 : decode cX11_theft 62 = .ok (.iaload, 1) := by decide +kernel
theorem dX11_theft_63 : decode cX11_theft 63 = .ok (.iaload, 1) := by decide +kernel
theorem dX11_theft_64 : decode cX11_theft 64 = .ok (.ireturn, 1) := by decide +kernel
theorem dX11_theft_65 : decode cX11_theft 65 = .ok (.iinc 3 1, 3) := by decide +kernel
theorem dX11_theft_68 : decode cX11_theft 68 = .ok (.goto (-42), 3) := by decide +kernel
theorem dX11_theft_71 : decode cX11_theft 71 = .ok (.bipush (-9), 2) := by decide +kernel
theorem dX11_theft_73 : decode cX11_theft 73 = .ok (.ireturn, 1) := by decide +kernel
theorem dX11_thefts_0 : decode cX11_thefts 0 = .ok (.aload_n 0, 1) := by decide +kernel
theorem dX11_thefts_1 : decode cX11_thefts 1 = .ok (.iload_n 1, 1) := by decide +kernel
theorem dX11_thefts_2 : decode cX11_thefts 2 = .ok (.invokevirtual 196, 3) := by decide +kernel
theorem dX11_thefts_5 : decode cX11_thefts 5 = .ok (.ifCond .eq 12, 3) := by decide +kernel
theorem dX11_thefts_8 : decode cX11_thefts 8 = .ok (.iload_n 2, 1) := by decide +kernel
theorem dX11_thefts_9 : decode cX11_thefts 9 = .ok (.iconst 0, 1) := by decide +kernel
theorem dX11_thefts_10 : decode cX11_thefts 10 = .ok (.iconst 3, 1) := by decide +kernel
theorem dX11_thefts_11 : decode cX11_thefts 11 = .ok (.invokestatic 98, 3) := by decide +kernel
theorem dX11_thefts_14 : decode cX11_thefts 14 = .ok (.ifCond .ne 5, 3) := by decide +kernel
theorem dX11_thefts_17 : decode cX11_thefts 17 = .ok (.iconst (-1), 1) := by decide +kernel
theorem dX11_thefts_18 : decode cX11_thefts 18 = .ok (.ireturn, 1) := by decide +kernel
theorem dX11_thefts_19 : decode cX11_thefts 19 = .ok (.aload_n 0, 1) := by decide +kernel
theorem dX11_thefts_20 : decode cX11_thefts 20 = .ok (.iload_n 1, 1) := by decide +kernel
theorem dX11_thefts_21 : decode cX11_thefts 21 = .ok (.iload_n 2, 1) := by decide +kernel
theorem dX11_thefts_22 : decode cX11_thefts 22 = .ok (.invokevirtual 320, 3) := by decide +kernel
theorem dX11_thefts_25 : decode cX11_thefts 25 = .ok (.iconst 0, 1) := by decide +kernel
theorem dX11_thefts_26 : decode cX11_thefts 26 = .ok (.istore_n 3, 1) := by decide +kernel
theorem dX11_thefts_27 : decode cX11_thefts 27 = .ok (.iconst 0, 1) := by decide +kernel
theorem dX11_thefts_28 : decode cX11_thefts 28 = .ok (.istore 4, 2) := by decide +kernel
theorem dX11_thefts_30 : decode cX11_thefts 30 = .ok (.iload 4, 2) := by decide +kernel
theorem dX11_thefts_32 : decode cX11_thefts 32 = .ok (.aload_n 0, 1) := by decide +kernel
theorem dX11_thefts_33 : decode cX11_thefts 33 = .ok (.getfield 269, 3) := by decide +kernel
theorem dX11_thefts_36 : decode cX11_thefts 36 = .ok (.if_icmp .ge 28, 3) := by decide +kernel
theorem dX11_thefts_39 : decode cX11_thefts 39 = .ok (.aload_n 0, 1) := by decide +kernel
theorem dX11_thefts_40 : decode cX11_thefts 40 = .ok (.aload_n 0, 1) := by decide +kernel
theorem dX11_thefts_41 : decode cX11_thefts 41 = .ok (.getfield 68, 3) := by decide +kernel
theorem dX11_thefts_44 : decode cX11_thefts 44 = .ok (.iload 4, 2) := by decide +kernel
theorem dX11_thefts_46 : decode cX11_thefts 46 = .ok (.iaload, 1) := by decide +kernel
theorem dX11_thefts_47 : decode cX11_thefts 47 = .ok (.invokevirtual 255, 3) := by decide +kernel
theorem dX11_thefts_50 : decode cX11_thefts 50 = .ok (.iload_n 3, 1) := by decide +kernel
theorem dX11_thefts_51 : decode cX11_thefts 51 = .ok (.aload_n 0, 1) := by decide +kernel
theorem dX11_thefts_52 : decode cX11_thefts 52 = .ok (.iload_n 1, 1) := by decide +kernel
theorem dX11_thefts_53 : decode cX11_thefts 53 = .ok (.invokevirtual 229, 3) := by decide +kernel
theorem dX11_thefts_56 : decode cX11_thefts 56 = .ok (.ior, 1) := by decide +kernel
theorem dX11_thefts_57 : decode cX11_thefts 57 = .ok (.istore_n 3, 1) := by decide +kernel
theorem dX11_thefts_58 : decode cX11_thefts 58 = .ok (.iinc 4 1, 3) := by decide +kernel
theorem dX11_thefts_61 : decode cX11_thefts 61 = .ok (.goto (-31), 3) := by decide +kernel
theorem dX11_thefts_64 : decode cX11_thefts 64 = .ok (.iload_n 3, 1) := by decide +kernel
theorem dX11_thefts_65 : decode cX11_thefts 65 = .ok (.ireturn, 1) := by decide +kernel
theorem dX11_drops_0 : decode cX11_drops 0 = .ok (.aload_n 0, 1) := by decide +kernel
theorem dX11_drops_1 : decode cX11_drops 1 = .ok (.iload_n 1, 1) := by decide +kernel
theorem dX11_drops_2 : decode cX11_drops 2 = .ok (.invokevirtual 196, 3) := by decide +kernel
theorem dX11_drops_5 : decode cX11_drops 5 = .ok (.ifCond .eq 16, 3) := by decide +kernel
theorem dX11_drops_8 : decode cX11_drops 8 = .ok (.aload_n 0, 1) := by decide +kernel
theorem dX11_drops_9 : decode cX11_drops 9 = .ok (.iload_n 2, 1) := by decide +kernel
theorem dX11_drops_10 : decode cX11_drops 10 = .ok (.invokevirtual 196, 3) := by decide +kernel
theorem dX11_drops_13 : decode cX11_drops 13 = .ok (.ifCond .eq 8, 3) := by decide +kernel
theorem dX11_drops_16 : decode cX11_drops 16 = .ok (.iload_n 1, 1) := by decide +kernel
theorem dX11_drops_17 : decode cX11_drops 17 = .ok (.iload_n 2, 1) := by decide +kernel
theorem dX11_drops_18 : decode cX11_drops 18 = .ok (.if_icmp .ne 5, 3) := by decide +kernel
theorem dX11_drops_21 : decode cX11_drops 21 = .ok (.iconst (-1), 1) := by decide +kernel
theorem dX11_drops_22 : decode cX11_drops 22 = .ok (.ireturn, 1) := by decide +kernel
theorem dX11_drops_23 : decode cX11_drops 23 = .ok (.iconst 0, 1) := by decide +kernel
theorem dX11_drops_24 : decode cX11_drops 24 = .ok (.istore_n 3, 1) := by decide +kernel
theorem dX11_drops_25 : decode cX11_drops 25 = .ok (.bipush (-9), 2) := by decide +kernel
theorem dX11_drops_27 : decode cX11_drops 27 = .ok (.istore 4, 2) := by decide +kernel
theorem dX11_drops_29 : decode cX11_drops 29 = .ok (.iconst 0, 1) := by decide +kernel
theorem dX11_drops_30 : decode cX11_drops 30 = .ok (.istore 5, 2) := by decide +kernel
theorem dX11_drops_32 : decode cX11_drops 32 = .ok (.iload 5, 2) := by decide +kernel
theorem dX11_drops_34 : decode cX11_drops 34 = .ok (.aload_n 0, 1) := by decide +kernel
theorem dX11_drops_35 : decode cX11_drops 35 = .ok (.getfield 181, 3) := by decide +kernel
theorem dX11_drops_38 : decode cX11_drops 38 = .ok (.if_icmp .ge 47, 3) := by decide +kernel
theorem dX11_drops_41 : decode cX11_drops 41 = .ok (.aload_n 0, 1) := by decide +kernel
theorem dX11_drops_42 : decode cX11_drops 42 = .ok (.invokevirtual 217, 3) := by decide +kernel
theorem dX11_drops_45 : decode cX11_drops 45 = .ok (.aload_n 0, 1) := by decide +kernel
theorem dX11_drops_46 : decode cX11_drops 46 = .ok (.iload_n 1, 1) := by decide +kernel
theorem dX11_drops_47 : decode cX11_drops 47 = .ok (.iload 5, 2) := by decide +kernel
theorem dX11_drops_49 : decode cX11_drops 49 = .ok (.iload_n 2, 1) := by decide +kernel
theorem dX11_drops_50 : decode cX11_drops 50 = .ok (.invokevirtual 314, 3) := by decide +kernel
theorem dX11_drops_53 : decode cX11_drops 53 = .ok (.ifCond .eq 26, 3) := by decide +kernel
theorem dX11_drops_56 : decode cX11_drops 56 = .ok (.aload_n 0, 1) := by decide +kernel
theorem dX11_drops_57 : decode cX11_drops 57 = .ok (.getfield 308, 3) := by decide +kernel
theorem dX11_drops_60 : decode cX11_drops 60 = .ok (.invokestatic 232, 3) := by decide +kernel
theorem dX11_drops_63 : decode cX11_drops 63 = .ok (.iload_n 3, 1) := by decide +kernel
theorem dX11_drops_64 : decode cX11_drops 64 = .ok (.invokestatic 232, 3) := by decide +kernel
theorem dX11_drops_67 : decode cX11_drops 67 = .ok (.if_icmp .le 12, 3) := by decide +kernel
theorem dX11_drops_70 : decode cX11_drops 70 = .ok (.aload_n 0, 1) := by decide +kernel
theorem dX11_drops_71 : decode cX11_drops 71 = .ok (.getfield 308, 3) := by decide +kernel
theorem dX11_drops_74 : decode cX11_drops 74 = .ok (.istore_n 3, 1) := by decide +kernel
theorem dX11_drops_75 : decode cX11_drops 75 = .ok (.iload 5, 2) := by decide +kernel
theorem dX11_drops_77 : decode cX11_drops 77 = .ok (.istore 4, 2) := by decide +kernel
theorem dX11_drops_79 : decode cX11_drops 79 = .ok (.iinc 5 1, 3) := by decide +kernel
theorem dX11_drops_82 : decode cX11_drops 82 = .ok (.goto (-50), 3) := by decide +kernel
theorem dX11_drops_85 : decode cX11_drops 85 = .ok (.aload_n 0, 1) := by decide +kernel
theorem dX11_drops_86 : decode cX11_drops 86 = .ok (.iload 4, 2) := by decide +kernel
theorem dX11_drops_88 : decode cX11_drops 88 = .ok (.iload_n 3, 1) := by decide +kernel
theorem dX11_drops_89 : decode cX11_drops 89 = .ok (.invokevirtual 120, 3) := by decide +kernel
theorem dX11_drops_92 : decode cX11_drops 92 = .ok (.ireturn, 1) := by decide +kernel
theorem dX11_wants_0 : decode cX11_wants 0 = .ok (.iconst 0, 1) := by decide +kernel
theorem dX11_wants_1 : decode cX11_wants 1 = .ok (.istore_n 2, 1) := by decide +kernel
theorem dX11_wants_2 : decode cX11_wants 2 = .ok (.iconst 0, 1) := by decide +kernel
theorem dX11_wants_3 : decode cX11_wants 3 = .ok (.istore_n 3, 1) := by decide +kernel
theorem dX11_wants_4 : decode cX11_wants 4 = .ok (.iload_n 3, 1) := by decide +kernel
theorem dX11_wants_5 : decode cX11_wants 5 = .ok (.aload_n 0, 1) := by decide +kernel
theorem dX11_wants_6 : decode cX11_wants 6 = .ok (.getfield 184, 3) := by decide +kernel
theorem dX11_wants_9 : decode cX11_wants 9 = .ok (.if_icmp .ge 40, 3) := by decide +kernel
theorem dX11_wants_12 : decode cX11_wants 12 = .ok (.iload_n 2, 1) := by decide +kernel
theorem dX11_wants_13 : decode cX11_wants 13 = .ok (.aload_n 0, 1) := by decide +kernel
theorem dX11_wants_14 : decode cX11_wants 14 = .ok (.getfield 35, 3) := by decide +kernel
theorem dX11_wants_17 : decode cX11_wants 17 = .ok (.iconst 4, 1) := by decide +kernel
theorem dX11_wants_18 : decode cX11_wants 18 = .ok (.iload_n 3, 1) := by decide +kernel
theorem dX11_wants_19 : decode cX11_wants 19 = .ok (.imul, 1) := by decide +kernel
theorem dX11_wants_20 : decode cX11_wants 20 = .ok (.iconst 1, 1) := by decide +kernel
theorem dX11_wants_21 : decode cX11_wants 21 = .ok (.iadd, 1) := by decide +kernel
theorem dX11_wants_22 : decode cX11_wants 22 = .ok (.iaload, 1) := by decide +kernel
theorem dX11_wants_23 : decode cX11_wants 23 = .ok (.iload_n 1, 1) := by decide +kernel
theorem dX11_wants_24 : decode cX11_wants 24 = .ok (.if_icmp .ne 16, 3) := by decide +kernel
theorem dX11_wants_27 : decode cX11_wants 27 = .ok (.aload_n 0, 1) := by decide +kernel
theorem dX11_wants_28 : decode cX11_wants 28 = .ok (.getfield 35, 3) := by decide +kernel
theorem dX11_wants_31 : decode cX11_wants 31 = .ok (.iconst 4, 1) := by decide +kernel
theorem dX11_wants_32 : decode cX11_wants 32 = .ok (.iload_n 3, 1) := by decide +kernel
theorem dX11_wants_33 : decode cX11_wants 33 = .ok (.imul, 1) := by decide +kernel
theorem dX11_wants_34 : decode cX11_wants 34 = .ok (.iconst 2, 1) := by decide +kernel
theorem dX11_wants_35 : decode cX11_wants 35 = .ok (.iadd, 1) := by decide +kernel
theorem dX11_wants_36 : decode cX11_wants 36 = .ok (.iaload, 1) := by decide +kernel
theorem dX11_wants_37 : decode cX11_wants 37 = .ok (.goto 4, 3) := by decide +kernel
theorem dX11_wants_40 : decode cX11_wants 40 = .ok (.iconst 0, 1) := by decide +kernel
theorem dX11_wants_41 : decode cX11_wants 41 = .ok (.ior, 1) := by decide +kernel
theorem dX11_wants_42 : decode cX11_wants 42 = .ok (.istore_n 2, 1) := by decide +kernel
theorem dX11_wants_43 : decode cX11_wants 43 = .ok (.iinc 3 1, 3) := by decide +kernel
theorem dX11_wants_46 : decode cX11_wants 46 = .ok (.goto (-42), 3) := by decide +kernel
theorem dX11_wants_49 : decode cX11_wants 49 = .ok (.iload_n 2, 1) := by decide +kernel
theorem dX11_wants_50 : decode cX11_wants 50 = .ok (.ireturn, 1) := by decide +kernel
theorem dX11_besideOf_0 : decode cX11_besideOf 0 = .ok (.aload_n 0, 1) := by decide +kernel
theorem dX11_besideOf_1 : decode cX11_besideOf 1 = .ok (.invokevirtual 217, 3) := by decide +kernel
theorem dX11_besideOf_4 : decode cX11_besideOf 4 = .ok (.aload_n 0, 1) := by decide +kernel
theorem dX11_besideOf_5 : decode cX11_besideOf 5 = .ok (.iload_n 1, 1) := by decide +kernel
theorem dX11_besideOf_6 : decode cX11_besideOf 6 = .ok (.invokevirtual 323, 3) := by decide +kernel
theorem dX11_besideOf_9 : decode cX11_besideOf 9 = .ok (.aload_n 0, 1) := by decide +kernel
theorem dX11_besideOf_10 : decode cX11_besideOf 10 = .ok (.iload_n 2, 1) := by decide +kernel
theorem dX11_besideOf_11 : decode cX11_besideOf 11 = .ok (.invokevirtual 229, 3) := by decide +kernel
theorem dX11_besideOf_14 : decode cX11_besideOf 14 = .ok (.iand, 1) := by decide +kernel
theorem dX11_besideOf_15 : decode cX11_besideOf 15 = .ok (.invokestatic 232, 3) := by decide +kernel
theorem dX11_besideOf_18 : decode cX11_besideOf 18 = .ok (.aload_n 0, 1) := by decide +kernel
theorem dX11_besideOf_19 : decode cX11_besideOf 19 = .ok (.iload_n 2, 1) := by decide +kernel
theorem dX11_besideOf_20 : decode cX11_besideOf 20 = .ok (.invokevirtual 323, 3) := by decide +kernel
theorem dX11_besideOf_23 : decode cX11_besideOf 23 = .ok (.aload_n 0, 1) := by decide +kernel
theorem dX11_besideOf_24 : decode cX11_besideOf 24 = .ok (.iload_n 1, 1) := by decide +kernel
theorem dX11_besideOf_25 : decode cX11_besideOf 25 = .ok (.invokevirtual 229, 3) := by decide +kernel
theorem dX11_besideOf_28 : decode cX11_besideOf 28 = .ok (.iand, 1) := by decide +kernel
theorem dX11_besideOf_29 : decode cX11_besideOf 29 = .ok (.invokestatic 232, 3) := by decide +kernel
theorem dX11_besideOf_32 : decode cX11_besideOf 32 = .ok (.iadd, 1) := by decide +kernel
theorem dX11_besideOf_33 : decode cX11_besideOf 33 = .ok (.ireturn, 1) := by decide +kernel
theorem dX11_beside_0 : decode cX11_beside 0 = .ok (.aload_n 0, 1) := by decide +kernel
theorem dX11_beside_1 : decode cX11_beside 1 = .ok (.iload_n 1, 1) := by decide +kernel
theorem dX11_beside_2 : decode cX11_beside 2 = .ok (.invokevirtual 196, 3) := by decide +kernel
theorem dX11_beside_5 : decode cX11_beside 5 = .ok (.ifCond .eq 25, 3) := by decide +kernel
theorem dX11_beside_8 : decode cX11_beside 8 = .ok (.aload_n 0, 1) := by decide +kernel
theorem dX11_beside_9 : decode cX11_beside 9 = .ok (.iload_n 2, 1) := by decide +kernel
theorem dX11_beside_10 : decode cX11_beside 10 = .ok (.invokevirtual 196, 3) := by decide +kernel
theorem dX11_beside_13 : decode cX11_beside 13 = .ok (.ifCond .eq 17, 3) := by decide +kernel
theorem dX11_beside_16 : decode cX11_beside 16 = .ok (.iload_n 1, 1) := by decide +kernel
theorem dX11_beside_17 : decode cX11_beside 17 = .ok (.iload_n 2, 1) := by decide +kernel
theorem dX11_beside_18 : decode cX11_beside 18 = .ok (.if_icmp .eq 12, 3) := by decide +kernel
theorem dX11_beside_21 : decode cX11_beside 21 = .ok (.aload_n 0, 1) := by decide +kernel
theorem dX11_beside_22 : decode cX11_beside 22 = .ok (.iload_n 1, 1) := by decide +kernel
theorem dX11_beside_23 : decode cX11_beside 23 = .ok (.iload_n 2, 1) := by decide +kernel
theorem dX11_beside_24 : decode cX11_beside 24 = .ok (.invokevirtual 326, 3) := by decide +kernel
theorem dX11_beside_27 : decode cX11_beside 27 = .ok (.goto 4, 3) := by decide +kernel
theorem dX11_beside_30 : decode cX11_beside 30 = .ok (.iconst (-1), 1) := by decide +kernel
theorem dX11_beside_31 : decode cX11_beside 31 = .ok (.ireturn, 1) := by decide +kernel
theorem dX11_pair_0 : decode cX11_pair 0 = .ok (.aload_n 0, 1) := by decide +kernel
theorem dX11_pair_1 : decode cX11_pair 1 = .ok (.getfield 178, 3) := by decide +kernel
theorem dX11_pair_4 : decode cX11_pair 4 = .ok (.ifCond .ne 6, 3) := by decide +kernel
theorem dX11_pair_7 : decode cX11_pair 7 = .ok (.bipush (-4), 2) := by decide +kernel
theorem dX11_pair_9 : decode cX11_pair 9 = .ok (.ireturn, 1) := by decide +kernel
theorem dX11_pair_10 : decode cX11_pair 10 = .ok (.bipush (-9), 2) := by decide +kernel
theorem dX11_pair_12 : decode cX11_pair 12 = .ok (.istore_n 1, 1) := by decide +kernel
theorem dX11_pair_13 : decode cX11_pair 13 = .ok (.iconst (-1), 1) := by decide +kernel
theorem dX11_pair_14 : decode cX11_pair 14 = .ok (.istore_n 2, 1) := by decide +kernel
theorem dX11_pair_15 : decode cX11_pair 15 = .ok (.iconst 1, 1) := by decide +kernel
theorem dX11_pair_16 : decode cX11_pair 16 = .ok (.istore_n 3, 1) := by decide +kernel
theorem dX11_pair_17 : decode cX11_pair 17 = .ok (.iload_n 3, 1) := by decide +kernel
theorem dX11_pair_18 : decode cX11_pair 18 = .ok (.aload_n 0, 1) := by decide +kernel
theorem dX11_pair_19 : decode cX11_pair 19 = .ok (.getfield 178, 3) := by decide +kernel
theorem dX11_pair_22 : decode cX11_pair 22 = .ok (.if_icmp .ge 77, 3) := by decide +kernel
theorem dX11_pair_25 : decode cX11_pair 25 = .ok (.aload_n 0, 1) := by decide +kernel
theorem dX11_pair_26 : decode cX11_pair 26 = .ok (.getfield 178, 3) := by decide +kernel
theorem dX11_pair_29 : decode cX11_pair 29 = .ok (.iconst 4, 1) := by decide +kernel
theorem dX11_pair_30 : decode cX11_pair 30 = .ok (.if_icmp .ge 7, 3) := by decide +kernel
theorem dX11_pair_33 : decode cX11_pair 33 = .ok (.iconst 0, 1) := by decide +kernel
theorem dX11_pair_34 : decode cX11_pair 34 = .ok (.goto 27, 3) := by decide +kernel
theorem dX11_pair_37 : decode cX11_pair 37 = .ok (.aload_n 0, 1) := by decide +kernel
theorem dX11_pair_38 : decode cX11_pair 38 = .ok (.iload_n 3, 1) := by decide +kernel
theorem dX11_pair_39 : decode cX11_pair 39 = .ok (.iconst 1, 1) := by decide +kernel
theorem dX11_pair_40 : decode cX11_pair 40 = .ok (.if_icmp .ne 7, 3) := by decide +kernel
theorem dX11_pair_43 : decode cX11_pair 43 = .ok (.iconst 2, 1) := by decide +kernel
theorem dX11_pair_44 : decode cX11_pair 44 = .ok (.goto 4, 3) := by decide +kernel
theorem dX11_pair_47 : decode cX11_pair 47 = .ok (.iconst 1, 1) := by decide +kernel
theorem dX11_pair_48 : decode cX11_pair 48 = .ok (.iload_n 3, 1) := by decide +kernel
theorem dX11_pair_49 : decode cX11_pair 49 = .ok (.iconst 3, 1) := by decide +kernel
theorem dX11_pair_50 : decode cX11_pair 50 = .ok (.if_icmp .ne 7, 3) := by decide +kernel
theorem dX11_pair_53 : decode cX11_pair 53 = .ok (.iconst 2, 1) := by decide +kernel
theorem dX11_pair_54 : decode cX11_pair 54 = .ok (.goto 4, 3) := by decide +kernel
theorem dX11_pair_57 : decode cX11_pair 57 = .ok (.iconst 3, 1) := by decide +kernel
theorem dX11_pair_58 : decode cX11_pair 58 = .ok (.invokevirtual 326, 3) := by decide +kernel
theorem dX11_pair_61 : decode cX11_pair 61 = .ok (.istore 4, 2) := by decide +kernel
theorem dX11_pair_63 : decode cX11_pair 63 = .ok (.aload_n 0, 1) := by decide +kernel
theorem dX11_pair_64 : decode cX11_pair 64 = .ok (.iconst 0, 1) := by decide +kernel
theorem dX11_pair_65 : decode cX11_pair 65 = .ok (.iload_n 3, 1) := by decide +kernel
theorem dX11_pair_66 : decode cX11_pair 66 = .ok (.invokevirtual 326, 3) := by decide +kernel
theorem dX11_pair_69 : decode cX11_pair 69 = .ok (.iload 4, 2) := by decide +kernel
theorem dX11_pair_71 : decode cX11_pair 71 = .ok (.iadd, 1) := by decide +kernel
theorem dX11_pair_72 : decode cX11_pair 72 = .ok (.istore 5, 2) := by decide +kernel
theorem dX11_pair_74 : decode cX11_pair 74 = .ok (.iload 5, 2) := by decide +kernel
theorem dX11_pair_76 : decode cX11_pair 76 = .ok (.iload_n 2, 1) := by decide +kernel
theorem dX11_pair_77 : decode cX11_pair 77 = .ok (.if_icmp .le 7, 3) := by decide +kernel
theorem dX11_pair_80 : decode cX11_pair 80 = .ok (.iload_n 3, 1) := by decide +kernel
theorem dX11_pair_81 : decode cX11_pair 81 = .ok (.goto 4, 3) := by decide +kernel
theorem dX11_pair_84 : decode cX11_pair 84 = .ok (.iload_n 1, 1) := by decide +kernel
theorem dX11_pair_85 : decode cX11_pair 85 = .ok (.istore_n 1, 1) := by decide +kernel
theorem dX11_pair_86 : decode cX11_pair 86 = .ok (.iload_n 2, 1) := by decide +kernel
theorem dX11_pair_87 : decode cX11_pair 87 = .ok (.iload 5, 2) := by decide +kernel
theorem dX11_pair_89 : decode cX11_pair 89 = .ok (.invokestatic 290, 3) := by decide +kernel
theorem dX11_pair_92 : decode cX11_pair 92 = .ok (.istore_n 2, 1) := by decide +kernel
theorem dX11_pair_93 : decode cX11_pair 93 = .ok (.iinc 3 1, 3) := by decide +kernel
theorem dX11_pair_96 : decode cX11_pair 96 = .ok (.goto (-79), 3) := by decide +kernel
theorem dX11_pair_99 : decode cX11_pair 99 = .ok (.aload_n 0, 1) := by decide +kernel
theorem dX11_pair_100 : decode cX11_pair 100 = .ok (.getfield 178, 3) := by decide +kernel
theorem dX11_pair_103 : decode cX11_pair 103 = .ok (.iconst 3, 1) := by decide +kernel
theorem dX11_pair_104 : decode cX11_pair 104 = .ok (.if_icmp .ne 23, 3) := by decide +kernel
theorem dX11_pair_107 : decode cX11_pair 107 = .ok (.aload_n 0, 1) := by decide +kernel
theorem dX11_pair_108 : decode cX11_pair 108 = .ok (.iconst 1, 1) := by decide +kernel
theorem dX11_pair_109 : decode cX11_pair 109 = .ok (.iconst 2, 1) := by decide +kernel
theorem dX11_pair_110 : decode cX11_pair 110 = .ok (.invokevirtual 326, 3) := by decide +kernel
theorem dX11_pair_113 : decode cX11_pair 113 = .ok (.iload_n 2, 1) := by decide +kernel
theorem dX11_pair_114 : decode cX11_pair 114 = .ok (.if_icmp .le 13, 3) := by decide +kernel
theorem dX11_pair_117 : decode cX11_pair 117 = .ok (.bipush (-9), 2) := by decide +kernel
theorem dX11_pair_119 : decode cX11_pair 119 = .ok (.istore_n 1, 1) := by decide +kernel
theorem dX11_pair_120 : decode cX11_pair 120 = .ok (.aload_n 0, 1) := by decide +kernel
theorem dX11_pair_121 : decode cX11_pair 121 = .ok (.iconst 1, 1) := by decide +kernel
theorem dX11_pair_122 : decode cX11_pair 122 = .ok (.iconst 2, 1) := by decide +kernel
theorem dX11_pair_123 : decode cX11_pair 123 = .ok (.invokevirtual 326, 3) := by decide +kernel
theorem dX11_pair_126 : decode cX11_pair 126 = .ok (.istore_n 2, 1) := by decide +kernel
theorem dX11_pair_127 : decode cX11_pair 127 = .ok (.aload_n 0, 1) := by decide +kernel
theorem dX11_pair_128 : decode cX11_pair 128 = .ok (.iload_n 2, 1) := by decide +kernel
theorem dX11_pair_129 : decode cX11_pair 129 = .ok (.iconst 0, 1) := by decide +kernel
theorem dX11_pair_130 : decode cX11_pair 130 = .ok (.invokestatic 290, 3) := by decide +kernel
theorem dX11_pair_133 : decode cX11_pair 133 = .ok (.iload_n 1, 1) := by decide +kernel
theorem dX11_pair_134 : decode cX11_pair 134 = .ok (.invokevirtual 120, 3) := by decide +kernel
theorem dX11_pair_137 : decode cX11_pair 137 = .ok (.ireturn, 1) := by decide +kernel
theorem dX11_saw_0 : decode cX11_saw 0 = .ok (.aload_n 0, 1) := by decide +kernel
theorem dX11_saw_1 : decode cX11_saw 1 = .ok (.iload_n 1, 1) := by decide +kernel
theorem dX11_saw_2 : decode cX11_saw 2 = .ok (.invokevirtual 235, 3) := by decide +kernel
theorem dX11_saw_5 : decode cX11_saw 5 = .ok (.ifCond .eq 12, 3) := by decide +kernel
theorem dX11_saw_8 : decode cX11_saw 8 = .ok (.iload_n 2, 1) := by decide +kernel
theorem dX11_saw_9 : decode cX11_saw 9 = .ok (.iconst 0, 1) := by decide +kernel
theorem dX11_saw_10 : decode cX11_saw 10 = .ok (.iconst 1, 1) := by decide +kernel
theorem dX11_saw_11 : decode cX11_saw 11 = .ok (.invokestatic 98, 3) := by decide +kernel
theorem dX11_saw_14 : decode cX11_saw 14 = .ok (.ifCond .ne 5, 3) := by decide +kernel
theorem dX11_saw_17 : decode cX11_saw 17 = .ok (.iconst (-1), 1) := by decide +kernel
theorem dX11_saw_18 : decode cX11_saw 18 = .ok (.ireturn, 1) := by decide +kernel
theorem dX11_saw_19 : decode cX11_saw 19 = .ok (.aload_n 0, 1) := by decide +kernel
theorem dX11_saw_20 : decode cX11_saw 20 = .ok (.getfield 193, 3) := by decide +kernel
theorem dX11_saw_23 : decode cX11_saw 23 = .ok (.bipush 8, 2) := by decide +kernel
theorem dX11_saw_25 : decode cX11_saw 25 = .ok (.if_icmp .ne 6, 3) := by decide +kernel
theorem dX11_saw_28 : decode cX11_saw 28 = .ok (.bipush (-2), 2) := by decide +kernel
theorem dX11_saw_30 : decode cX11_saw 30 = .ok (.ireturn, 1) := by decide +kernel
theorem dX11_saw_31 : decode cX11_saw 31 = .ok (.aload_n 0, 1) := by decide +kernel
theorem dX11_saw_32 : decode cX11_saw 32 = .ok (.getfield 81, 3) := by decide +kernel
theorem dX11_saw_35 : decode cX11_saw 35 = .ok (.aload_n 0, 1) := by decide +kernel
theorem dX11_saw_36 : decode cX11_saw 36 = .ok (.getfield 193, 3) := by decide +kernel
theorem dX11_saw_39 : decode cX11_saw 39 = .ok (.iload_n 1, 1) := by decide +kernel
theorem dX11_saw_40 : decode cX11_saw 40 = .ok (.iastore, 1) := by decide +kernel
theorem dX11_saw_41 : decode cX11_saw 41 = .ok (.aload_n 0, 1) := by decide +kernel
theorem dX11_saw_42 : decode cX11_saw 42 = .ok (.getfield 84, 3) := by decide +kernel
theorem dX11_saw_45 : decode cX11_saw 45 = .ok (.aload_n 0, 1) := by decide +kernel
theorem dX11_saw_46 : decode cX11_saw 46 = .ok (.getfield 193, 3) := by decide +kernel
theorem dX11_saw_49 : decode cX11_saw 49 = .ok (.iload_n 2, 1) := by decide +kernel
theorem dX11_saw_50 : decode cX11_saw 50 = .ok (.iastore, 1) := by decide +kernel
theorem dX11_saw_51 : decode cX11_saw 51 = .ok (.aload_n 0, 1) := by decide +kernel
theorem dX11_saw_52 : decode cX11_saw 52 = .ok (.dup, 1) := by decide +kernel
theorem dX11_saw_53 : decode cX11_saw 53 = .ok (.getfield 193, 3) := by decide +kernel
theorem dX11_saw_56 : decode cX11_saw 56 = .ok (.iconst 1, 1) := by decide +kernel
theorem dX11_saw_57 : decode cX11_saw 57 = .ok (.iadd, 1) := by decide +kernel
theorem dX11_saw_58 : decode cX11_saw 58 = .ok (.putfield 193, 3) := by decide +kernel
theorem dX11_saw_61 : decode cX11_saw 61 = .ok (.aload_n 0, 1) := by decide +kernel
theorem dX11_saw_62 : decode cX11_saw 62 = .ok (.getfield 193, 3) := by decide +kernel
theorem dX11_saw_65 : decode cX11_saw 65 = .ok (.iconst 1, 1) := by decide +kernel
theorem dX11_saw_66 : decode cX11_saw 66 = .ok (.isub, 1) := by decide +kernel
theorem dX11_saw_67 : decode cX11_saw 67 = .ok (.ireturn, 1) := by decide +kernel
theorem dX11_forget_0 : decode cX11_forget 0 = .ok (.iload_n 1, 1) := by decide +kernel
theorem dX11_forget_1 : decode cX11_forget 1 = .ok (.iconst 0, 1) := by decide +kernel
theorem dX11_forget_2 : decode cX11_forget 2 = .ok (.aload_n 0, 1) := by decide +kernel
theorem dX11_forget_3 : decode cX11_forget 3 = .ok (.getfield 193, 3) := by decide +kernel
theorem dX11_forget_6 : decode cX11_forget 6 = .ok (.invokestatic 98, 3) := by decide +kernel
theorem dX11_forget_9 : decode cX11_forget 9 = .ok (.ifCond .ne 5, 3) := by decide +kernel
theorem dX11_forget_12 : decode cX11_forget 12 = .ok (.iconst (-1), 1) := by decide +kernel
theorem dX11_forget_13 : decode cX11_forget 13 = .ok (.ireturn, 1) := by decide +kernel
theorem dX11_forget_14 : decode cX11_forget 14 = .ok (.aload_n 0, 1) := by decide +kernel
theorem dX11_forget_15 : decode cX11_forget 15 = .ok (.getfield 193, 3) := by decide +kernel
theorem dX11_forget_18 : decode cX11_forget 18 = .ok (.iload_n 1, 1) := by decide +kernel
theorem dX11_forget_19 : decode cX11_forget 19 = .ok (.isub, 1) := by decide +kernel
theorem dX11_forget_20 : decode cX11_forget 20 = .ok (.istore_n 2, 1) := by decide +kernel
theorem dX11_forget_21 : decode cX11_forget 21 = .ok (.aload_n 0, 1) := by decide +kernel
theorem dX11_forget_22 : decode cX11_forget 22 = .ok (.iload_n 1, 1) := by decide +kernel
theorem dX11_forget_23 : decode cX11_forget 23 = .ok (.putfield 193, 3) := by decide +kernel
theorem dX11_forget_26 : decode cX11_forget 26 = .ok (.iload_n 2, 1) := by decide +kernel
theorem dX11_forget_27 : decode cX11_forget 27 = .ok (.ireturn, 1) := by decide +kernel
theorem dX11_fits_0 : decode cX11_fits 0 = .ok (.iconst 0, 1) := by decide +kernel
theorem dX11_fits_1 : decode cX11_fits 1 = .ok (.istore_n 2, 1) := by decide +kernel
theorem dX11_fits_2 : decode cX11_fits 2 = .ok (.iconst 0, 1) := by decide +kernel
theorem dX11_fits_3 : decode cX11_fits 3 = .ok (.istore_n 3, 1) := by decide +kernel
theorem dX11_fits_4 : decode cX11_fits 4 = .ok (.iload_n 3, 1) := by decide +kernel
theorem dX11_fits_5 : decode cX11_fits 5 = .ok (.aload_n 0, 1) := by decide +kernel
theorem dX11_fits_6 : decode cX11_fits 6 = .ok (.getfield 181, 3) := by decide +kernel
theorem dX11_fits_9 : decode cX11_fits 9 = .ok (.if_icmp .ge 33, 3) := by decide +kernel
theorem dX11_fits_12 : decode cX11_fits 12 = .ok (.iload_n 2, 1) := by decide +kernel
theorem dX11_fits_13 : decode cX11_fits 13 = .ok (.iload_n 1, 1) := by decide +kernel
theorem dX11_fits_14 : decode cX11_fits 14 = .ok (.iload_n 3, 1) := by decide +kernel
theorem dX11_fits_15 : decode cX11_fits 15 = .ok (.invokestatic 162, 3) := by decide +kernel
theorem dX11_fits_18 : decode cX11_fits 18 = .ok (.ifCond .eq 15, 3) := by decide +kernel
theorem dX11_fits_21 : decode cX11_fits 21 = .ok (.aload_n 0, 1) := by decide +kernel
theorem dX11_fits_22 : decode cX11_fits 22 = .ok (.getfield 29, 3) := by decide +kernel
theorem dX11_fits_25 : decode cX11_fits 25 = .ok (.iload_n 3, 1) := by decide +kernel
theorem dX11_fits_26 : decode cX11_fits 26 = .ok (.iaload, 1) := by decide +kernel
theorem dX11_fits_27 : decode cX11_fits 27 = .ok (.invokestatic 159, 3) := by decide +kernel
theorem dX11_fits_30 : decode cX11_fits 30 = .ok (.goto 4, 3) := by decide +kernel
theorem dX11_fits_33 : decode cX11_fits 33 = .ok (.iconst 0, 1) := by decide +kernel
theorem dX11_fits_34 : decode cX11_fits 34 = .ok (.iadd, 1) := by decide +kernel
theorem dX11_fits_35 : decode cX11_fits 35 = .ok (.istore_n 2, 1) := by decide +kernel
theorem dX11_fits_36 : decode cX11_fits 36 = .ok (.iinc 3 1, 3) := by decide +kernel
theorem dX11_fits_39 : decode cX11_fits 39 = .ok (.goto (-35), 3) := by decide +kernel
theorem dX11_fits_42 : decode cX11_fits 42 = .ok (.iload_n 2, 1) := by decide +kernel
theorem dX11_fits_43 : decode cX11_fits 43 = .ok (.aload_n 0, 1) := by decide +kernel
theorem dX11_fits_44 : decode cX11_fits 44 = .ok (.getfield 91, 3) := by decide +kernel
theorem dX11_fits_47 : decode cX11_fits 47 = .ok (.if_icmp .gt 7, 3) := by decide +kernel
theorem dX11_fits_50 : decode cX11_fits 50 = .ok (.iconst 1, 1) := by decide +kernel
theorem dX11_fits_51 : decode cX11_fits 51 = .ok (.goto 4, 3) := by decide +kernel
theorem dX11_fits_54 : decode cX11_fits 54 = .ok (.iconst 0, 1) := by decide +kernel
theorem dX11_fits_55 : decode cX11_fits 55 = .ok (.istore_n 3, 1) := by decide +kernel
theorem dX11_fits_56 : decode cX11_fits 56 = .ok (.iconst 0, 1) := by decide +kernel
theorem dX11_fits_57 : decode cX11_fits 57 = .ok (.istore 4, 2) := by decide +kernel
theorem dX11_fits_59 : decode cX11_fits 59 = .ok (.iload 4, 2) := by decide +kernel
theorem dX11_fits_61 : decode cX11_fits 61 = .ok (.aload_n 0, 1) := by decide +kernel
theorem dX11_fits_62 : decode cX11_fits 62 = .ok (.getfield 193, 3) := by decide +kernel
theorem dX11_fits_65 : decode cX11_fits 65 = .ok (.if_icmp .ge 68, 3) := by decide +kernel
theorem dX11_fits_68 : decode cX11_fits 68 = .ok (.aload_n 0, 1) := by decide +kernel
theorem dX11_fits_69 : decode cX11_fits 69 = .ok (.getfield 35, 3) := by decide +kernel
theorem dX11_fits_72 : decode cX11_fits 72 = .ok (.iconst 4, 1) := by decide +kernel
theorem dX11_fits_73 : decode cX11_fits 73 = .ok (.aload_n 0, 1) := by decide +kernel
theorem dX11_fits_74 : decode cX11_fits 74 = .ok (.getfield 81, 3) := by decide +kernel
theorem dX11_fits_77 : decode cX11_fits 77 = .ok (.iload 4, 2) := by decide +kernel
theorem dX11_fits_79 : decode cX11_fits 79 = .ok (.iaload, 1) := by decide +kernel
theorem dX11_fits_80 : decode cX11_fits 80 = .ok (.imul, 1) := by decide +kernel
theorem dX11_fits_81 : decode cX11_fits 81 = .ok (.iconst 2, 1) := by decide +kernel
theorem dX11_fits_82 : decode cX11_fits 82 = .ok (.iadd, 1) := by decide +kernel
theorem dX11_fits_83 : decode cX11_fits 83 = .ok (.iaload, 1) := by decide +kernel
theorem dX11_fits_84 : decode cX11_fits 84 = .ok (.iload_n 1, 1) := by decide +kernel
theorem dX11_fits_85 : decode cX11_fits 85 = .ok (.iand, 1) := by decide +kernel
theorem dX11_fits_86 : decode cX11_fits 86 = .ok (.ifCond .ne 7, 3) := by decide +kernel
theorem dX11_fits_89 : decode cX11_fits 89 = .ok (.iconst 1, 1) := by decide +kernel
theorem dX11_fits_90 : decode cX11_fits 90 = .ok (.goto 4, 3) := by decide +kernel
theorem dX11_fits_93 : decode cX11_fits 93 = .ok (.iconst 0, 1) := by decide +kernel
theorem dX11_fits_94 : decode cX11_fits 94 = .ok (.istore 5, 2) := by decide +kernel
theorem dX11_fits_96 : decode cX11_fits 96 = .ok (.iload_n 3, 1) := by decide +kernel
theorem dX11_fits_97 : decode cX11_fits 97 = .ok (.ifCond .eq 28, 3) := by decide +kernel
theorem dX11_fits_100 : decode cX11_fits 100 = .ok (.iload 5, 2) := by decide +kernel
theorem dX11_fits_102 : decode cX11_fits 102 = .ok (.aload_n 0, 1) := by decide +kernel
theorem dX11_fits_103 : decode cX11_fits 103 = .ok (.getfield 84, 3) := by decide +kernel
theorem dX11_fits_106 : decode cX11_fits 106 = .ok (.iload 4, 2) := by decide +kernel
theorem dX11_fits_108 : decode cX11_fits 108 = .ok (.iaload, 1) := by decide +kernel
theorem dX11_fits_109 : decode cX11_fits 109 = .ok (.iconst 1, 1) := by decide +kernel
theorem dX11_fits_110 : decode cX11_fits 110 = .ok (.if_icmp .ne 7, 3) := by decide +kernel
theorem dX11_fits_113 : decode cX11_fits 113 = .ok (.iconst 1, 1) := by decide +kernel
theorem dX11_fits_114 : decode cX11_fits 114 = .ok (.goto 4, 3) := by decide +kernel
theorem dX11_fits_117 : decode cX11_fits 117 = .ok (.iconst 0, 1) := by decide +kernel
theorem dX11_fits_118 : decode cX11_fits 118 = .ok (.if_icmp .ne 7, 3) := by decide +kernel
theorem dX11_fits_121 : decode cX11_fits 121 = .ok (.iconst 1, 1) := by decide +kernel
theorem dX11_fits_122 : decode cX11_fits 122 = .ok (.goto 4, 3) := by decide +kernel
theorem dX11_fits_125 : decode cX11_fits 125 = .ok (.iconst 0, 1) := by decide +kernel
theorem dX11_fits_126 : decode cX11_fits 126 = .ok (.istore_n 3, 1) := by decide +kernel
theorem dX11_fits_127 : decode cX11_fits 127 = .ok (.iinc 4 1, 3) := by decide +kernel
theorem dX11_fits_130 : decode cX11_fits 130 = .ok (.goto (-71), 3) := by decide +kernel
theorem dX11_fits_133 : decode cX11_fits 133 = .ok (.iload_n 3, 1) := by decide +kernel
theorem dX11_fits_134 : decode cX11_fits 134 = .ok (.ireturn, 1) := by decide +kernel
theorem dX11_drowned_0 : decode cX11_drowned 0 = .ok (.iconst 0, 1) := by decide +kernel
theorem dX11_drowned_1 : decode cX11_drowned 1 = .ok (.istore_n 1, 1) := by decide +kernel
theorem dX11_drowned_2 : decode cX11_drowned 2 = .ok (.iconst 1, 1) := by decide +kernel
theorem dX11_drowned_3 : decode cX11_drowned 3 = .ok (.aload_n 0, 1) := by decide +kernel
theorem dX11_drowned_4 : decode cX11_drowned 4 = .ok (.getfield 181, 3) := by decide +kernel
theorem dX11_drowned_7 : decode cX11_drowned 7 = .ok (.ishl, 1) := by decide +kernel
theorem dX11_drowned_8 : decode cX11_drowned 8 = .ok (.iconst 1, 1) := by decide +kernel
theorem dX11_drowned_9 : decode cX11_drowned 9 = .ok (.isub, 1) := by decide +kernel
theorem dX11_drowned_10 : decode cX11_drowned 10 = .ok (.istore_n 2, 1) := by decide +kernel
theorem dX11_drowned_11 : decode cX11_drowned 11 = .ok (.iconst 0, 1) := by decide +kernel
theorem dX11_drowned_12 : decode cX11_drowned 12 = .ok (.istore_n 3, 1) := by decide +kernel
theorem dX11_drowned_13 : decode cX11_drowned 13 = .ok (.iload_n 3, 1) := by decide +kernel
theorem dX11_drowned_14 : decode cX11_drowned 14 = .ok (.iconst 1, 1) := by decide +kernel
theorem dX11_drowned_15 : decode cX11_drowned 15 = .ok (.aload_n 0, 1) := by decide +kernel
theorem dX11_drowned_16 : decode cX11_drowned 16 = .ok (.getfield 181, 3) := by decide +kernel
theorem dX11_drowned_19 : decode cX11_drowned 19 = .ok (.ishl, 1) := by decide +kernel
theorem dX11_drowned_20 : decode cX11_drowned 20 = .ok (.if_icmp .ge 41, 3) := by decide +kernel
theorem dX11_drowned_23 : decode cX11_drowned 23 = .ok (.iload_n 1, 1) := by decide +kernel
theorem dX11_drowned_24 : decode cX11_drowned 24 = .ok (.aload_n 0, 1) := by decide +kernel
theorem dX11_drowned_25 : decode cX11_drowned 25 = .ok (.iload_n 3, 1) := by decide +kernel
theorem dX11_drowned_26 : decode cX11_drowned 26 = .ok (.invokevirtual 329, 3) := by decide +kernel
theorem dX11_drowned_29 : decode cX11_drowned 29 = .ok (.ifCond .eq 7, 3) := by decide +kernel
theorem dX11_drowned_32 : decode cX11_drowned 32 = .ok (.iconst 1, 1) := by decide +kernel
theorem dX11_drowned_33 : decode cX11_drowned 33 = .ok (.goto 4, 3) := by decide +kernel
theorem dX11_drowned_36 : decode cX11_drowned 36 = .ok (.iconst 0, 1) := by decide +kernel
theorem dX11_drowned_37 : decode cX11_drowned 37 = .ok (.iadd, 1) := by decide +kernel
theorem dX11_drowned_38 : decode cX11_drowned 38 = .ok (.istore_n 1, 1) := by decide +kernel
theorem dX11_drowned_39 : decode cX11_drowned 39 = .ok (.iload_n 2, 1) := by decide +kernel
theorem dX11_drowned_40 : decode cX11_drowned 40 = .ok (.aload_n 0, 1) := by decide +kernel
theorem dX11_drowned_41 : decode cX11_drowned 41 = .ok (.iload_n 3, 1) := by decide +kernel
theorem dX11_drowned_42 : decode cX11_drowned 42 = .ok (.invokevirtual 329, 3) := by decide +kernel
theorem dX11_drowned_45 : decode cX11_drowned 45 = .ok (.ifCond .eq 7, 3) := by decide +kernel
theorem dX11_drowned_48 : decode cX11_drowned 48 = .ok (.iload_n 3, 1) := by decide +kernel
theorem dX11_drowned_49 : decode cX11_drowned 49 = .ok (.goto 4, 3) := by decide +kernel
theorem dX11_drowned_52 : decode cX11_drowned 52 = .ok (.iload_n 2, 1) := by decide +kernel
theorem dX11_drowned_53 : decode cX11_drowned 53 = .ok (.iand, 1) := by decide +kernel
theorem dX11_drowned_54 : decode cX11_drowned 54 = .ok (.istore_n 2, 1) := by decide +kernel
theorem dX11_drowned_55 : decode cX11_drowned 55 = .ok (.iinc 3 1, 3) := by decide +kernel
theorem dX11_drowned_58 : decode cX11_drowned 58 = .ok (.goto (-45), 3) := by decide +kernel
theorem dX11_drowned_61 : decode cX11_drowned 61 = .ok (.aload_n 0, 1) := by decide +kernel
theorem dX11_drowned_62 : decode cX11_drowned 62 = .ok (.iload_n 1, 1) := by decide +kernel
theorem dX11_drowned_63 : decode cX11_drowned 63 = .ok (.ifCond .ne 7, 3) := by decide +kernel
theorem dX11_drowned_66 : decode cX11_drowned 66 = .ok (.iconst 0, 1) := by decide +kernel
theorem dX11_drowned_67 : decode cX11_drowned 67 = .ok (.goto 4, 3) := by decide +kernel
theorem dX11_drowned_70 : decode cX11_drowned 70 = .ok (.iload_n 2, 1) := by decide +kernel
theorem dX11_drowned_71 : decode cX11_drowned 71 = .ok (.iload_n 1, 1) := by decide +kernel
theorem dX11_drowned_72 : decode cX11_drowned 72 = .ok (.invokevirtual 120, 3) := by decide +kernel
theorem dX11_drowned_75 : decode cX11_drowned 75 = .ok (.ireturn, 1) := by decide +kernel
theorem dX11_odds_0 : decode cX11_odds 0 = .ok (.aload_n 0, 1) := by decide +kernel
theorem dX11_odds_1 : decode cX11_odds 1 = .ok (.iload_n 1, 1) := by decide +kernel
theorem dX11_odds_2 : decode cX11_odds 2 = .ok (.invokevirtual 220, 3) := by decide +kernel
theorem dX11_odds_5 : decode cX11_odds 5 = .ok (.ifCond .ne 5, 3) := by decide +kernel
theorem dX11_odds_8 : decode cX11_odds 8 = .ok (.iconst (-1), 1) := by decide +kernel
theorem dX11_odds_9 : decode cX11_odds 9 = .ok (.ireturn, 1) := by decide +kernel
theorem dX11_odds_10 : decode cX11_odds 10 = .ok (.iconst 0, 1) := by decide +kernel
theorem dX11_odds_11 : decode cX11_odds 11 = .ok (.istore_n 2, 1) := by decide +kernel
theorem dX11_odds_12 : decode cX11_odds 12 = .ok (.iconst 0, 1) := by decide +kernel
theorem dX11_odds_13 : decode cX11_odds 13 = .ok (.istore_n 3, 1) := by decide +kernel
theorem dX11_odds_14 : decode cX11_odds 14 = .ok (.iconst 0, 1) := by decide +kernel
theorem dX11_odds_15 : decode cX11_odds 15 = .ok (.istore 4, 2) := by decide +kernel
theorem dX11_odds_17 : decode cX11_odds 17 = .ok (.iload 4, 2) := by decide +kernel
theorem dX11_odds_19 : decode cX11_odds 19 = .ok (.iconst 1, 1) := by decide +kernel
theorem dX11_odds_20 : decode cX11_odds 20 = .ok (.aload_n 0, 1) := by decide +kernel
theorem dX11_odds_21 : decode cX11_odds 21 = .ok (.getfield 181, 3) := by decide +kernel
theorem dX11_odds_24 : decode cX11_odds 24 = .ok (.ishl, 1) := by decide +kernel
theorem dX11_odds_25 : decode cX11_odds 25 = .ok (.if_icmp .ge 52, 3) := by decide +kernel
theorem dX11_odds_28 : decode cX11_odds 28 = .ok (.iload_n 2, 1) := by decide +kernel
theorem dX11_odds_29 : decode cX11_odds 29 = .ok (.aload_n 0, 1) := by decide +kernel
theorem dX11_odds_30 : decode cX11_odds 30 = .ok (.iload 4, 2) := by decide +kernel
theorem dX11_odds_32 : decode cX11_odds 32 = .ok (.invokevirtual 329, 3) := by decide +kernel
theorem dX11_odds_35 : decode cX11_odds 35 = .ok (.ifCond .eq 7, 3) := by decide +kernel
theorem dX11_odds_38 : decode cX11_odds 38 = .ok (.iconst 1, 1) := by decide +kernel
theorem dX11_odds_39 : decode cX11_odds 39 = .ok (.goto 4, 3) := by decide +kernel
theorem dX11_odds_42 : decode cX11_odds 42 = .ok (.iconst 0, 1) := by decide +kernel
theorem dX11_odds_43 : decode cX11_odds 43 = .ok (.iadd, 1) := by decide +kernel
theorem dX11_odds_44 : decode cX11_odds 44 = .ok (.istore_n 2, 1) := by decide +kernel
theorem dX11_odds_45 : decode cX11_odds 45 = .ok (.iload_n 3, 1) := by decide +kernel
theorem dX11_odds_46 : decode cX11_odds 46 = .ok (.aload_n 0, 1) := by decide +kernel
theorem dX11_odds_47 : decode cX11_odds 47 = .ok (.iload 4, 2) := by decide +kernel
theorem dX11_odds_49 : decode cX11_odds 49 = .ok (.invokevirtual 329, 3) := by decide +kernel
theorem dX11_odds_52 : decode cX11_odds 52 = .ok (.ifCond .eq 16, 3) := by decide +kernel
theorem dX11_odds_55 : decode cX11_odds 55 = .ok (.iload 4, 2) := by decide +kernel
theorem dX11_odds_57 : decode cX11_odds 57 = .ok (.iload_n 1, 1) := by decide +kernel
theorem dX11_odds_58 : decode cX11_odds 58 = .ok (.invokestatic 162, 3) := by decide +kernel
theorem dX11_odds_61 : decode cX11_odds 61 = .ok (.ifCond .eq 7, 3) := by decide +kernel
theorem dX11_odds_64 : decode cX11_odds 64 = .ok (.iconst 1, 1) := by decide +kernel
theorem dX11_odds_65 : decode cX11_odds 65 = .ok (.goto 4, 3) := by decide +kernel
theorem dX11_odds_68 : decode cX11_odds 68 = .ok (.iconst 0, 1) := by decide +kernel
theorem dX11_odds_69 : decode cX11_odds 69 = .ok (.iadd, 1) := by decide +kernel
theorem dX11_odds_70 : decode cX11_odds 70 = .ok (.istore_n 3, 1) := by decide +kernel
theorem dX11_odds_71 : decode cX11_odds 71 = .ok (.iinc 4 1, 3) := by decide +kernel
theorem dX11_odds_74 : decode cX11_odds 74 = .ok (.goto (-57), 3) := by decide +kernel
theorem dX11_odds_77 : decode cX11_odds 77 = .ok (.iload_n 2, 1) := by decide +kernel
theorem dX11_odds_78 : decode cX11_odds 78 = .ok (.ifCond .ne 11, 3) := by decide +kernel
theorem dX11_odds_81 : decode cX11_odds 81 = .ok (.aload_n 0, 1) := by decide +kernel
theorem dX11_odds_82 : decode cX11_odds 82 = .ok (.iconst 4, 1) := by decide +kernel
theorem dX11_odds_83 : decode cX11_odds 83 = .ok (.invokevirtual 112, 3) := by decide +kernel
theorem dX11_odds_86 : decode cX11_odds 86 = .ok (.goto 12, 3) := by decide +kernel
theorem dX11_odds_89 : decode cX11_odds 89 = .ok (.aload_n 0, 1) := by decide +kernel
theorem dX11_odds_90 : decode cX11_odds 90 = .ok (.iload_n 3, 1) := by decide +kernel
theorem dX11_odds_91 : decode cX11_odds 91 = .ok (.i2l, 1) := by decide +kernel
theorem dX11_odds_92 : decode cX11_odds 92 = .ok (.iload_n 2, 1) := by decide +kernel
theorem dX11_odds_93 : decode cX11_odds 93 = .ok (.i2l, 1) := by decide +kernel
theorem dX11_odds_94 : decode cX11_odds 94 = .ok (.iload_n 3, 1) := by decide +kernel
theorem dX11_odds_95 : decode cX11_odds 95 = .ok (.invokevirtual 332, 3) := by decide +kernel
theorem dX11_odds_98 : decode cX11_odds 98 = .ok (.ireturn, 1) := by decide +kernel
theorem dX11_image_0 : decode cX11_image 0 = .ok (.iload_n 1, 1) := by decide +kernel
theorem dX11_image_1 : decode cX11_image 1 = .ok (.invokestatic 108, 3) := by decide +kernel
theorem dX11_image_4 : decode cX11_image 4 = .ok (.ifCond .ne 5, 3) := by decide +kernel
theorem dX11_image_7 : decode cX11_image 7 = .ok (.iconst (-1), 1) := by decide +kernel
theorem dX11_image_8 : decode cX11_image 8 = .ok (.ireturn, 1) := by decide +kernel
theorem dX11_image_9 : decode cX11_image 9 = .ok (.aload_n 0, 1) := by decide +kernel
theorem dX11_image_10 : decode cX11_image 10 = .ok (.getfield 13, 3) := by decide +kernel
theorem dX11_image_13 : decode cX11_image 13 = .ok (.iload_n 1, 1) := by decide +kernel
theorem dX11_image_14 : decode cX11_image 14 = .ok (.aload_n 0, 1) := by decide +kernel
theorem dX11_image_15 : decode cX11_image 15 = .ok (.getfield 181, 3) := by decide +kernel
theorem dX11_image_18 : decode cX11_image 18 = .ok (.iconst 1, 1) := by decide +kernel
theorem dX11_image_19 : decode cX11_image 19 = .ok (.iadd, 1) := by decide +kernel
theorem dX11_image_20 : decode cX11_image 20 = .ok (.iastore, 1) := by decide +kernel
theorem dX11_image_21 : decode cX11_image 21 = .ok (.iconst 0, 1) := by decide +kernel
theorem dX11_image_22 : decode cX11_image 22 = .ok (.istore_n 2, 1) := by decide +kernel
theorem dX11_image_23 : decode cX11_image 23 = .ok (.iload_n 2, 1) := by decide +kernel
theorem dX11_image_24 : decode cX11_image 24 = .ok (.bipush 60, 2) := by decide +kernel
theorem dX11_image_26 : decode cX11_image 26 = .ok (.if_icmp .ge 53, 3) := by decide +kernel
theorem dX11_image_29 : decode cX11_image 29 = .ok (.aload_n 0, 1) := by decide +kernel
theorem dX11_image_30 : decode cX11_image 30 = .ok (.getfield 16, 3) := by decide +kernel
theorem dX11_image_33 : decode cX11_image 33 = .ok (.bipush 60, 2) := by decide +kernel
theorem dX11_image_35 : decode cX11_image 35 = .ok (.iload_n 1, 1) := by decide +kernel
theorem dX11_image_36 : decode cX11_image 36 = .ok (.imul, 1) := by decide +kernel
theorem dX11_image_37 : decode cX11_image 37 = .ok (.iload_n 2, 1) := by decide +kernel
theorem dX11_image_38 : decode cX11_image 38 = .ok (.iadd, 1) := by decide +kernel
theorem dX11_image_39 : decode cX11_image 39 = .ok (.iload_n 2, 1) := by decide +kernel
theorem dX11_image_40 : decode cX11_image 40 = .ok (.aload_n 0, 1) := by decide +kernel
theorem dX11_image_41 : decode cX11_image 41 = .ok (.getfield 181, 3) := by decide +kernel
theorem dX11_image_44 : decode cX11_image 44 = .ok (.if_icmp .ge 12, 3) := by decide +kernel
theorem dX11_image_47 : decode cX11_image 47 = .ok (.aload_n 0, 1) := by decide +kernel
theorem dX11_image_48 : decode cX11_image 48 = .ok (.getfield 38, 3) := by decide +kernel
theorem dX11_image_51 : decode cX11_image 51 = .ok (.iload_n 2, 1) := by decide +kernel
theorem dX11_image_52 : decode cX11_image 52 = .ok (.iaload, 1) := by decide +kernel
theorem dX11_image_53 : decode cX11_image 53 = .ok (.goto 19, 3) := by decide +kernel
theorem dX11_image_56 : decode cX11_image 56 = .ok (.iload_n 2, 1) := by decide +kernel
theorem dX11_image_57 : decode cX11_image 57 = .ok (.aload_n 0, 1) := by decide +kernel
theorem dX11_image_58 : decode cX11_image 58 = .ok (.getfield 181, 3) := by decide +kernel
theorem dX11_image_61 : decode cX11_image 61 = .ok (.if_icmp .ne 10, 3) := by decide +kernel
theorem dX11_image_64 : decode cX11_image 64 = .ok (.aload_n 0, 1) := by decide +kernel
theorem dX11_image_65 : decode cX11_image 65 = .ok (.getfield 91, 3) := by decide +kernel
theorem dX11_image_68 : decode cX11_image 68 = .ok (.goto 4, 3) := by decide +kernel
theorem dX11_image_71 : decode cX11_image 71 = .ok (.iconst 0, 1) := by decide +kernel
theorem dX11_image_72 : decode cX11_image 72 = .ok (.iastore, 1) := by decide +kernel
theorem dX11_image_73 : decode cX11_image 73 = .ok (.iinc 2 1, 3) := by decide +kernel
theorem dX11_image_76 : decode cX11_image 76 = .ok (.goto (-53), 3) := by decide +kernel
theorem dX11_image_79 : decode cX11_image 79 = .ok (.aload_n 0, 1) := by decide +kernel
theorem dX11_image_80 : decode cX11_image 80 = .ok (.getfield 181, 3) := by decide +kernel
theorem dX11_image_83 : decode cX11_image 83 = .ok (.iconst 1, 1) := by decide +kernel
theorem dX11_image_84 : decode cX11_image 84 = .ok (.iadd, 1) := by decide +kernel
theorem dX11_image_85 : decode cX11_image 85 = .ok (.ireturn, 1) := by decide +kernel
theorem dX11_canBe_0 : decode cX11_canBe 0 = .ok (.iconst 1, 1) := by decide +kernel
theorem dX11_canBe_1 : decode cX11_canBe 1 = .ok (.istore_n 2, 1) := by decide +kernel
theorem dX11_canBe_2 : decode cX11_canBe 2 = .ok (.iconst 0, 1) := by decide +kernel
theorem dX11_canBe_3 : decode cX11_canBe 3 = .ok (.istore_n 3, 1) := by decide +kernel
theorem dX11_canBe_4 : decode cX11_canBe 4 = .ok (.iload_n 3, 1) := by decide +kernel
theorem dX11_canBe_5 : decode cX11_canBe 5 = .ok (.aload_n 0, 1) := by decide +kernel
theorem dX11_canBe_6 : decode cX11_canBe 6 = .ok (.getfield 181, 3) := by decide +kernel
theorem dX11_canBe_9 : decode cX11_canBe 9 = .ok (.if_icmp .ge 67, 3) := by decide +kernel
theorem dX11_canBe_12 : decode cX11_canBe 12 = .ok (.aload_n 0, 1) := by decide +kernel
theorem dX11_canBe_13 : decode cX11_canBe 13 = .ok (.getfield 29, 3) := by decide +kernel
theorem dX11_canBe_16 : decode cX11_canBe 16 = .ok (.iload_n 3, 1) := by decide +kernel
theorem dX11_canBe_17 : decode cX11_canBe 17 = .ok (.iaload, 1) := by decide +kernel
theorem dX11_canBe_18 : decode cX11_canBe 18 = .ok (.invokestatic 156, 3) := by decide +kernel
theorem dX11_canBe_21 : decode cX11_canBe 21 = .ok (.istore 4, 2) := by decide +kernel
theorem dX11_canBe_23 : decode cX11_canBe 23 = .ok (.iload_n 2, 1) := by decide +kernel
theorem dX11_canBe_24 : decode cX11_canBe 24 = .ok (.ifCond .eq 44, 3) := by decide +kernel
theorem dX11_canBe_27 : decode cX11_canBe 27 = .ok (.iload 4, 2) := by decide +kernel
theorem dX11_canBe_29 : decode cX11_canBe 29 = .ok (.ifCond .eq 13, 3) := by decide +kernel
theorem dX11_canBe_32 : decode cX11_canBe 32 = .ok (.aload_n 0, 1) := by decide +kernel
theorem dX11_canBe_33 : decode cX11_canBe 33 = .ok (.getfield 50, 3) := by decide +kernel
theorem dX11_canBe_36 : decode cX11_canBe 36 = .ok (.iload_n 3, 1) := by decide +kernel
theorem dX11_canBe_37 : decode cX11_canBe 37 = .ok (.iaload, 1) := by decide +kernel
theorem dX11_canBe_38 : decode cX11_canBe 38 = .ok (.iconst 4, 1) := by decide +kernel
theorem dX11_canBe_39 : decode cX11_canBe 39 = .ok (.if_icmp .ge 29, 3) := by decide +kernel
theorem dX11_canBe_42 : decode cX11_canBe 42 = .ok (.aload_n 0, 1) := by decide +kernel
theorem dX11_canBe_43 : decode cX11_canBe 43 = .ok (.getfield 29, 3) := by decide +kernel
theorem dX11_canBe_46 : decode cX11_canBe 46 = .ok (.iload_n 3, 1) := by decide +kernel
theorem dX11_canBe_47 : decode cX11_canBe 47 = .ok (.iaload, 1) := by decide +kernel
theorem dX11_canBe_48 : decode cX11_canBe 48 = .ok (.invokestatic 150, 3) := by decide +kernel

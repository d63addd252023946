theorem dL_cell_0 : decode cL_cell 0 = .ok (.iload_n 1, 1) := by decide +kernel
theorem dL_cell_1 : decode cL_cell 1 = .ok (.aload_n 0, 1) := by decide +kernel
theorem dL_cell_2 : decode cL_cell 2 = .ok (.arraylength, 1) := by decide +kernel
theorem dL_cell_3 : decode cL_cell 3 = .ok (.if_icmp .ge 12, 3) := by decide +kernel
theorem dL_cell_6 : decode cL_cell 6 = .ok (.aload_n 0, 1) := by decide +kernel
theorem dL_cell_7 : decode cL_cell 7 = .ok (.iload_n 1, 1) := by decide +kernel
theorem dL_cell_8 : decode cL_cell 8 = .ok (.iaload, 1) := by decide +kernel
theorem dL_cell_9 : decode cL_cell 9 = .ok (.ldc 7, 2) := by decide +kernel
theorem dL_cell_11 : decode cL_cell 11 = .ok (.iand, 1) := by decide +kernel
theorem dL_cell_12 : decode cL_cell 12 = .ok (.goto 14, 3) := by decide +kernel
theorem dL_cell_15 : decode cL_cell 15 = .ok (.bipush 61, 2) := by decide +kernel
theorem dL_cell_17 : decode cL_cell 17 = .ok (.iload_n 1, 1) := by decide +kernel
theorem dL_cell_18 : decode cL_cell 18 = .ok (.imul, 1) := by decide +kernel
theorem dL_cell_19 : decode cL_cell 19 = .ok (.bipush 7, 2) := by decide +kernel
theorem dL_cell_21 : decode cL_cell 21 = .ok (.iadd, 1) := by decide +kernel
theorem dL_cell_22 : decode cL_cell 22 = .ok (.iload_n 1, 1) := by decide +kernel
theorem dL_cell_23 : decode cL_cell 23 = .ok (.iconst 3, 1) := by decide +kernel
theorem dL_cell_24 : decode cL_cell 24 = .ok (.iadd, 1) := by decide +kernel
theorem dL_cell_25 : decode cL_cell 25 = .ok (.imul, 1) := by decide +kernel
theorem dL_cell_26 : decode cL_cell 26 = .ok (.ireturn, 1) := by decide +kernel
theorem dL_put_0 : decode cL_put 0 = .ok (.iload_n 1, 1) := by decide +kernel
theorem dL_put_1 : decode cL_put 1 = .ok (.ifCond .lt 22, 3) := by decide +kernel
theorem dL_put_4 : decode cL_put 4 = .ok (.aload_n 0, 1) := by decide +kernel
theorem dL_put_5 : decode cL_put 5 = .ok (.iconst 3, 1) := by decide +kernel
theorem dL_put_6 : decode cL_put 6 = .ok (.iload_n 1, 1) := by decide +kernel
theorem dL_put_7 : decode cL_put 7 = .ok (.iload_n 2, 1) := by decide +kernel
theorem dL_put_8 : decode cL_put 8 = .ok (.invokevirtual 8, 3) := by decide +kernel
theorem dL_put_11 : decode cL_put 11 = .ok (.sipush 1032, 3) := by decide +kernel
theorem dL_put_14 : decode cL_put 14 = .ok (.if_icmp .ne 9, 3) := by decide +kernel
theorem dL_put_17 : decode cL_put 17 = .ok (.iload_n 1, 1) := by decide +kernel
theorem dL_put_18 : decode cL_put 18 = .ok (.iconst 1, 1) := by decide +kernel
theorem dL_put_19 : decode cL_put 19 = .ok (.iadd, 1) := by decide +kernel
theorem dL_put_20 : decode cL_put 20 = .ok (.goto 6, 3) := by decide +kernel
theorem dL_put_23 : decode cL_put 23 = .ok (.sipush (-1000), 3) := by decide +kernel
theorem dL_put_26 : decode cL_put 26 = .ok (.ireturn, 1) := by decide +kernel
theorem dL_counts_0 : decode cL_counts 0 = .ok (.iload_n 0, 1) := by decide +kernel
theorem dL_counts_1 : decode cL_counts 1 = .ok (.iconst 3, 1) := by decide +kernel
theorem dL_counts_2 : decode cL_counts 2 = .ok (.if_icmp .eq 8, 3) := by decide +kernel
theorem dL_counts_5 : decode cL_counts 5 = .ok (.iload_n 0, 1) := by decide +kernel
theorem dL_counts_6 : decode cL_counts 6 = .ok (.iconst 5, 1) := by decide +kernel
theorem dL_counts_7 : decode cL_counts 7 = .ok (.if_icmp .ne 7, 3) := by decide +kernel
theorem dL_counts_10 : decode cL_counts 10 = .ok (.iconst 2, 1) := by decide +kernel
theorem dL_counts_11 : decode cL_counts 11 = .ok (.goto 4, 3) := by decide +kernel
theorem dL_counts_14 : decode cL_counts 14 = .ok (.iconst 1, 1) := by decide +kernel
theorem dL_counts_15 : decode cL_counts 15 = .ok (.ireturn, 1) := by decide +kernel
theorem dL_bag_0 : decode cL_bag 0 = .ok (.iload_n 0, 1) := by decide +kernel
theorem dL_bag_1 : decode cL_bag 1 = .ok (.iconst 1, 1) := by decide +kernel
theorem dL_bag_2 : decode cL_bag 2 = .ok (.if_icmp .eq 8, 3) := by decide +kernel
theorem dL_bag_5 : decode cL_bag 5 = .ok (.iload_n 0, 1) := by decide +kernel
theorem dL_bag_6 : decode cL_bag 6 = .ok (.iconst 4, 1) := by decide +kernel
theorem dL_bag_7 : decode cL_bag 7 = .ok (.if_icmp .ne 7, 3) := by decide +kernel
theorem dL_bag_10 : decode cL_bag 10 = .ok (.iconst 1, 1) := by decide +kernel
theorem dL_bag_11 : decode cL_bag 11 = .ok (.goto 4, 3) := by decide +kernel
theorem dL_bag_14 : decode cL_bag 14 = .ok (.iconst 0, 1) := by decide +kernel
theorem dL_bag_15 : decode cL_bag 15 = .ok (.ireturn, 1) := by decide +kernel
theorem dL_living_0 : decode cL_living 0 = .ok (.iload_n 0, 1) := by decide +kernel
theorem dL_living_1 : decode cL_living 1 = .ok (.iconst 2, 1) := by decide +kernel
theorem dL_living_2 : decode cL_living 2 = .ok (.if_icmp .eq 8, 3) := by decide +kernel
theorem dL_living_5 : decode cL_living 5 = .ok (.iload_n 0, 1) := by decide +kernel
theorem dL_living_6 : decode cL_living 6 = .ok (.iconst 5, 1) := by decide +kernel
theorem dL_living_7 : decode cL_living 7 = .ok (.if_icmp .ne 7, 3) := by decide +kernel
theorem dL_living_10 : decode cL_living 10 = .ok (.iconst 1, 1) := by decide +kernel
theorem dL_living_11 : decode cL_living 11 = .ok (.goto 4, 3) := by decide +kernel
theorem dL_living_14 : decode cL_living 14 = .ok (.iconst 0, 1) := by decide +kernel
theorem dL_living_15 : decode cL_living 15 = .ok (.ireturn, 1) := by decide +kernel
theorem dL_numbers_0 : decode cL_numbers 0 = .ok (.aload_n 3, 1) := by decide +kernel
theorem dL_numbers_1 : decode cL_numbers 1 = .ok (.iconst 0, 1) := by decide +kernel
theorem dL_numbers_2 : decode cL_numbers 2 = .ok (.iconst 1, 1) := by decide +kernel
theorem dL_numbers_3 : decode cL_numbers 3 = .ok (.aload_n 0, 1) := by decide +kernel
theorem dL_numbers_4 : decode cL_numbers 4 = .ok (.iload_n 1, 1) := by decide +kernel
theorem dL_numbers_5 : decode cL_numbers 5 = .ok (.invokestatic 14, 3) := by decide +kernel
theorem dL_numbers_8 : decode cL_numbers 8 = .ok (.iconst 4, 1) := by decide +kernel
theorem dL_numbers_9 : decode cL_numbers 9 = .ok (.irem, 1) := by decide +kernel
theorem dL_numbers_10 : decode cL_numbers 10 = .ok (.iadd, 1) := by decide +kernel
theorem dL_numbers_11 : decode cL_numbers 11 = .ok (.iastore, 1) := by decide +kernel
theorem dL_numbers_12 : decode cL_numbers 12 = .ok (.aload_n 3, 1) := by decide +kernel
theorem dL_numbers_13 : decode cL_numbers 13 = .ok (.iconst 1, 1) := by decide +kernel
theorem dL_numbers_14 : decode cL_numbers 14 = .ok (.iconst 0, 1) := by decide +kernel
theorem dL_numbers_15 : decode cL_numbers 15 = .ok (.iastore, 1) := by decide +kernel
theorem dL_numbers_16 : decode cL_numbers 16 = .ok (.aload_n 3, 1) := by decide +kernel
theorem dL_numbers_17 : decode cL_numbers 17 = .ok (.bipush 50, 2) := by decide +kernel
theorem dL_numbers_19 : decode cL_numbers 19 = .ok (.iconst 3, 1) := by decide +kernel
theorem dL_numbers_20 : decode cL_numbers 20 = .ok (.iastore, 1) := by decide +kernel
theorem dL_numbers_21 : decode cL_numbers 21 = .ok (.iconst 1, 1) := by decide +kernel
theorem dL_numbers_22 : decode cL_numbers 22 = .ok (.aload_n 0, 1) := by decide +kernel
theorem dL_numbers_23 : decode cL_numbers 23 = .ok (.iload_n 1, 1) := by decide +kernel
theorem dL_numbers_24 : decode cL_numbers 24 = .ok (.iconst 1, 1) := by decide +kernel
theorem dL_numbers_25 : decode cL_numbers 25 = .ok (.iadd, 1) := by decide +kernel
theorem dL_numbers_26 : decode cL_numbers 26 = .ok (.invokestatic 14, 3) := by decide +kernel
theorem dL_numbers_29 : decode cL_numbers 29 = .ok (.iload_n 2, 1) := by decide +kernel
theorem dL_numbers_30 : decode cL_numbers 30 = .ok (.irem, 1) := by decide +kernel
theorem dL_numbers_31 : decode cL_numbers 31 = .ok (.iadd, 1) := by decide +kernel
theorem dL_numbers_32 : decode cL_numbers 32 = .ok (.istore 4, 2) := by decide +kernel
theorem dL_numbers_34 : decode cL_numbers 34 = .ok (.iconst 0, 1) := by decide +kernel
theorem dL_numbers_35 : decode cL_numbers 35 = .ok (.istore 5, 2) := by decide +kernel
theorem dL_numbers_37 : decode cL_numbers 37 = .ok (.iconst 0, 1) := by decide +kernel
theorem dL_numbers_38 : decode cL_numbers 38 = .ok (.istore 6, 2) := by decide +kernel
theorem dL_numbers_40 : decode cL_numbers 40 = .ok (.iload 6, 2) := by decide +kernel
theorem dL_numbers_42 : decode cL_numbers 42 = .ok (.iload 4, 2) := by decide +kernel
theorem dL_numbers_44 : decode cL_numbers 44 = .ok (.if_icmp .ge 216, 3) := by decide +kernel
theorem dL_numbers_47 : decode cL_numbers 47 = .ok (.aload_n 0, 1) := by decide +kernel
theorem dL_numbers_48 : decode cL_numbers 48 = .ok (.iload_n 1, 1) := by decide +kernel
theorem dL_numbers_49 : decode cL_numbers 49 = .ok (.iconst 2, 1) := by decide +kernel
theorem dL_numbers_50 : decode cL_numbers 50 = .ok (.iadd, 1) := by decide +kernel
theorem dL_numbers_51 : decode cL_numbers 51 = .ok (.iload 6, 2) := by decide +kernel
theorem dL_numbers_53 : decode cL_numbers 53 = .ok (.iadd, 1) := by decide +kernel
theorem dL_numbers_54 : decode cL_numbers 54 = .ok (.invokestatic 14, 3) := by decide +kernel
theorem dL_numbers_57 : decode cL_numbers 57 = .ok (.istore 7, 2) := by decide +kernel
theorem dL_numbers_59 : decode cL_numbers 59 = .ok (.iload 7, 2) := by decide +kernel
theorem dL_numbers_61 : decode cL_numbers 61 = .ok (.bipush 8, 2) := by decide +kernel
theorem dL_numbers_63 : decode cL_numbers 63 = .ok (.irem, 1) := by decide +kernel
theorem dL_numbers_64 : decode cL_numbers 64 = .ok (.iconst 5, 1) := by decide +kernel
theorem dL_numbers_65 : decode cL_numbers 65 = .ok (.if_icmp .le 7, 3) := by decide +kernel
theorem dL_numbers_68 : decode cL_numbers 68 = .ok (.iconst 0, 1) := by decide +kernel
theorem dL_numbers_69 : decode cL_numbers 69 = .ok (.goto 8, 3) := by decide +kernel
theorem dL_numbers_72 : decode cL_numbers 72 = .ok (.iload 7, 2) := by decide +kernel
theorem dL_numbers_74 : decode cL_numbers 74 = .ok (.bipush 8, 2) := by decide +kernel
theorem dL_numbers_76 : decode cL_numbers 76 = .ok (.irem, 1) := by decide +kernel
theorem dL_numbers_77 : decode cL_numbers 77 = .ok (.istore 8, 2) := by decide +kernel
theorem dL_numbers_79 : decode cL_numbers 79 = .ok (.iload 8, 2) := by decide +kernel
theorem dL_numbers_81 : decode cL_numbers 81 = .ok (.invokestatic 20, 3) := by decide +kernel
theorem dL_numbers_84 : decode cL_numbers 84 = .ok (.ifCond .eq 13, 3) := by decide +kernel
theorem dL_numbers_87 : decode cL_numbers 87 = .ok (.iload 5, 2) := by decide +kernel
theorem dL_numbers_89 : decode cL_numbers 89 = .ok (.iconst 2, 1) := by decide +kernel
theorem dL_numbers_90 : decode cL_numbers 90 = .ok (.if_icmp .ne 7, 3) := by decide +kernel
theorem dL_numbers_93 : decode cL_numbers 93 = .ok (.iconst 0, 1) := by decide +kernel
theorem dL_numbers_94 : decode cL_numbers 94 = .ok (.goto 5, 3) := by decide +kernel
theorem dL_numbers_97 : decode cL_numbers 97 = .ok (.iload 8, 2) := by decide +kernel
theorem dL_numbers_99 : decode cL_numbers 99 = .ok (.istore 8, 2) := by decide +kernel
theorem dL_numbers_101 : decode cL_numbers 101 = .ok (.iload 7, 2) := by decide +kernel
theorem dL_numbers_103 : decode cL_numbers 103 = .ok (.bipush 8, 2) := by decide +kernel
theorem dL_numbers_105 : decode cL_numbers 105 = .ok (.idiv, 1) := by decide +kernel
theorem dL_numbers_106 : decode cL_numbers 106 = .ok (.aload_n 3, 1) := by decide +kernel
theorem dL_numbers_107 : decode cL_numbers 107 = .ok (.iconst 0, 1) := by decide +kernel
theorem dL_numbers_108 : decode cL_numbers 108 = .ok (.iaload, 1) := by decide +kernel
theorem dL_numbers_109 : decode cL_numbers 109 = .ok (.iconst 1, 1) := by decide +kernel
theorem dL_numbers_110 : decode cL_numbers 110 = .ok (.iadd, 1) := by decide +kernel
theorem dL_numbers_111 : decode cL_numbers 111 = .ok (.irem, 1) := by decide +kernel
theorem dL_numbers_112 : decode cL_numbers 112 = .ok (.istore 9, 2) := by decide +kernel
theorem dL_numbers_114 : decode cL_numbers 114 = .ok (.iload 9, 2) := by decide +kernel
theorem dL_numbers_116 : decode cL_numbers 116 = .ok (.aload_n 3, 1) := by decide +kernel
theorem dL_numbers_117 : decode cL_numbers 117 = .ok (.iconst 0, 1) := by decide +kernel
theorem dL_numbers_118 : decode cL_numbers 118 = .ok (.iaload, 1) := by decide +kernel
theorem dL_numbers_119 : decode cL_numbers 119 = .ok (.if_icmp .ne 7, 3) := by decide +kernel
theorem dL_numbers_122 : decode cL_numbers 122 = .ok (.iconst 4, 1) := by decide +kernel
theorem dL_numbers_123 : decode cL_numbers 123 = .ok (.goto 5, 3) := by decide +kernel
theorem dL_numbers_126 : decode cL_numbers 126 = .ok (.iload 9, 2) := by decide +kernel
theorem dL_numbers_128 : decode cL_numbers 128 = .ok (.istore 9, 2) := by decide +kernel
theorem dL_numbers_130 : decode cL_numbers 130 = .ok (.iload 8, 2) := by decide +kernel
theorem dL_numbers_132 : decode cL_numbers 132 = .ok (.invokestatic 24, 3) := by decide +kernel
theorem dL_numbers_135 : decode cL_numbers 135 = .ok (.istore 10, 2) := by decide +kernel
theorem dL_numbers_137 : decode cL_numbers 137 = .ok (.iconst 0, 1) := by decide +kernel
theorem dL_numbers_138 : decode cL_numbers 138 = .ok (.istore 11, 2) := by decide +kernel
theorem dL_numbers_140 : decode cL_numbers 140 = .ok (.iload 11, 2) := by decide +kernel
theorem dL_numbers_142 : decode cL_numbers 142 = .ok (.aload_n 3, 1) := by decide +kernel
theorem dL_numbers_143 : decode cL_numbers 143 = .ok (.iconst 1, 1) := by decide +kernel
theorem dL_numbers_144 : decode cL_numbers 144 = .ok (.iaload, 1) := by decide +kernel
theorem dL_numbers_145 : decode cL_numbers 145 = .ok (.if_icmp .ge 39, 3) := by decide +kernel
theorem dL_numbers_148 : decode cL_numbers 148 = .ok (.iload 10, 2) := by decide +kernel
theorem dL_numbers_150 : decode cL_numbers 150 = .ok (.aload_n 3, 1) := by decide +kernel
theorem dL_numbers_151 : decode cL_numbers 151 = .ok (.bipush 7, 2) := by decide +kernel
theorem dL_numbers_153 : decode cL_numbers 153 = .ok (.iload 11, 2) := by decide +kernel
theorem dL_numbers_155 : decode cL_numbers 155 = .ok (.iadd, 1) := by decide +kernel
theorem dL_numbers_156 : decode cL_numbers 156 = .ok (.iaload, 1) := by decide +kernel
theorem dL_numbers_157 : decode cL_numbers 157 = .ok (.iload 9, 2) := by decide +kernel
theorem dL_numbers_159 : decode cL_numbers 159 = .ok (.if_icmp .ne 15, 3) := by decide +kernel
theorem dL_numbers_162 : decode cL_numbers 162 = .ok (.aload_n 3, 1) := by decide +kernel
theorem dL_numbers_163 : decode cL_numbers 163 = .ok (.iconst 2, 1) := by decide +kernel
theorem dL_numbers_164 : decode cL_numbers 164 = .ok (.iload 11, 2) := by decide +kernel
theorem dL_numbers_166 : decode cL_numbers 166 = .ok (.iadd, 1) := by decide +kernel
theorem dL_numbers_167 : decode cL_numbers 167 = .ok (.iaload, 1) := by decide +kernel
theorem dL_numbers_168 : decode cL_numbers 168 = .ok (.invokestatic 24, 3) := by decide +kernel
theorem dL_numbers_171 : decode cL_numbers 171 = .ok (.goto 4, 3) := by decide +kernel
theorem dL_numbers_174 : decode cL_numbers 174 = .ok (.iconst 0, 1) := by decide +kernel
theorem dL_numbers_175 : decode cL_numbers 175 = .ok (.iadd, 1) := by decide +kernel
theorem dL_numbers_176 : decode cL_numbers 176 = .ok (.istore 10, 2) := by decide +kernel
theorem dL_numbers_178 : decode cL_numbers 178 = .ok (.iinc 11 1, 3) := by decide +kernel
theorem dL_numbers_181 : decode cL_numbers 181 = .ok (.goto (-41), 3) := by decide +kernel
theorem dL_numbers_184 : decode cL_numbers 184 = .ok (.iload 9, 2) := by decide +kernel
theorem dL_numbers_186 : decode cL_numbers 186 = .ok (.iconst 4, 1) := by decide +kernel
theorem dL_numbers_187 : decode cL_numbers 187 = .ok (.if_icmp .ne 11, 3) := by decide +kernel
theorem dL_numbers_190 : decode cL_numbers 190 = .ok (.iload 8, 2) := by decide +kernel
theorem dL_numbers_192 : decode cL_numbers 192 = .ok (.invokestatic 28, 3) := by decide +kernel
theorem dL_numbers_195 : decode cL_numbers 195 = .ok (.ifCond .ne 59, 3) := by decide +kernel
theorem dL_numbers_198 : decode cL_numbers 198 = .ok (.iload 9, 2) := by decide +kernel
theorem dL_numbers_200 : decode cL_numbers 200 = .ok (.iconst 4, 1) := by decide +kernel
theorem dL_numbers_201 : decode cL_numbers 201 = .ok (.if_icmp .ge 9, 3) := by decide +kernel
theorem dL_numbers_204 : decode cL_numbers 204 = .ok (.iload 10, 2) := by decide +kernel
theorem dL_numbers_206 : decode cL_numbers 206 = .ok (.iconst 3, 1) := by decide +kernel
theorem dL_numbers_207 : decode cL_numbers 207 = .ok (.if_icmp .gt 47, 3) := by decide +kernel
theorem dL_numbers_210 : decode cL_numbers 210 = .ok (.iload 5, 2) := by decide +kernel
theorem dL_numbers_212 : decode cL_numbers 212 = .ok (.iload 8, 2) := by decide +kernel
theorem dL_numbers_214 : decode cL_numbers 214 = .ok (.invokestatic 20, 3) := by decide +kernel
theorem dL_numbers_217 : decode cL_numbers 217 = .ok (.ifCond .eq 7, 3) := by decide +kernel
theorem dL_numbers_220 : decode cL_numbers 220 = .ok (.iconst 1, 1) := by decide +kernel
theorem dL_numbers_221 : decode cL_numbers 221 = .ok (.goto 4, 3) := by decide +kernel
theorem dL_numbers_224 : decode cL_numbers 224 = .ok (.iconst 0, 1) := by decide +kernel
theorem dL_numbers_225 : decode cL_numbers 225 = .ok (.iadd, 1) := by decide +kernel
theorem dL_numbers_226 : decode cL_numbers 226 = .ok (.istore 5, 2) := by decide +kernel
theorem dL_numbers_228 : decode cL_numbers 228 = .ok (.aload_n 3, 1) := by decide +kernel
theorem dL_numbers_229 : decode cL_numbers 229 = .ok (.iconst 2, 1) := by decide +kernel
theorem dL_numbers_230 : decode cL_numbers 230 = .ok (.aload_n 3, 1) := by decide +kernel
theorem dL_numbers_231 : decode cL_numbers 231 = .ok (.iconst 1, 1) := by decide +kernel
theorem dL_numbers_232 : decode cL_numbers 232 = .ok (.iaload, 1) := by decide +kernel
theorem dL_numbers_233 : decode cL_numbers 233 = .ok (.iadd, 1) := by decide +kernel
theorem dL_numbers_234 : decode cL_numbers 234 = .ok (.iload 8, 2) := by decide +kernel
theorem dL_numbers_236 : decode cL_numbers 236 = .ok (.iastore, 1) := by decide +kernel
theorem dL_numbers_237 : decode cL_numbers 237 = .ok (.aload_n 3, 1) := by decide +kernel
theorem dL_numbers_238 : decode cL_numbers 238 = .ok (.bipush 7, 2) := by decide +kernel
theorem dL_numbers_240 : decode cL_numbers 240 = .ok (.aload_n 3, 1) := by decide +kernel
theorem dL_numbers_241 : decode cL_numbers 241 = .ok (.iconst 1, 1) := by decide +kernel
theorem dL_numbers_242 : decode cL_numbers 242 = .ok (.iaload, 1) := by decide +kernel
theorem dL_numbers_243 : decode cL_numbers 243 = .ok (.iadd, 1) := by decide +kernel
theorem dL_numbers_244 : decode cL_numbers 244 = .ok (.iload 9, 2) := by decide +kernel
theorem dL_numbers_246 : decode cL_numbers 246 = .ok (.iastore, 1) := by decide +kernel
theorem dL_numbers_247 : decode cL_numbers 247 = .ok (.aload_n 3, 1) := by decide +kernel
theorem dL_numbers_248 : decode cL_numbers 248 = .ok (.iconst 1, 1) := by decide +kernel
theorem dL_numbers_249 : decode cL_numbers 249 = .ok (.dup2, 1) := by decide +kernel
theorem dL_numbers_250 : decode cL_numbers 250 = .ok (.iaload, 1) := by decide +kernel
theorem dL_numbers_251 : decode cL_numbers 251 = .ok (.iconst 1, 1) := by decide +kernel
theorem dL_numbers_252 : decode cL_numbers 252 = .ok (.iadd, 1) := by decide +kernel
theorem dL_numbers_253 : decode cL_numbers 253 = .ok (.iastore, 1) := by decide +kernel
theorem dL_numbers_254 : decode cL_numbers 254 = .ok (.iinc 6 1, 3) := by decide +kernel
theorem dL_numbers_257 : decode cL_numbers 257 = .ok (.goto (-217), 3) := by decide +kernel
theorem dL_numbers_260 : decode cL_numbers 260 = .ok (.aload_n 3, 1) := by decide +kernel
theorem dL_numbers_261 : decode cL_numbers 261 = .ok (.bipush 12, 2) := by decide +kernel
theorem dL_numbers_263 : decode cL_numbers 263 = .ok (.aload_n 3, 1) := by decide +kernel
theorem dL_numbers_264 : decode cL_numbers 264 = .ok (.iconst 1, 1) := by decide +kernel
theorem dL_numbers_265 : decode cL_numbers 265 = .ok (.iaload, 1) := by decide +kernel
theorem dL_numbers_266 : decode cL_numbers 266 = .ok (.ifCond .ne 7, 3) := by decide +kernel
theorem dL_numbers_269 : decode cL_numbers 269 = .ok (.iconst 0, 1) := by decide +kernel
theorem dL_numbers_270 : decode cL_numbers 270 = .ok (.goto 14, 3) := by decide +kernel
theorem dL_numbers_273 : decode cL_numbers 273 = .ok (.aload_n 0, 1) := by decide +kernel
theorem dL_numbers_274 : decode cL_numbers 274 = .ok (.iload_n 1, 1) := by decide +kernel
theorem dL_numbers_275 : decode cL_numbers 275 = .ok (.bipush 8, 2) := by decide +kernel
theorem dL_numbers_277 : decode cL_numbers 277 = .ok (.iadd, 1) := by decide +kernel
theorem dL_numbers_278 : decode cL_numbers 278 = .ok (.invokestatic 14, 3) := by decide +kernel
theorem dL_numbers_281 : decode cL_numbers 281 = .ok (.bipush 7, 2) := by decide +kernel
theorem dL_numbers_283 : decode cL_numbers 283 = .ok (.irem, 1) := by decide +kernel
theorem dL_numbers_284 : decode cL_numbers 284 = .ok (.iastore, 1) := by decide +kernel
theorem dL_numbers_285 : decode cL_numbers 285 = .ok (.iconst 0, 1) := by decide +kernel
theorem dL_numbers_286 : decode cL_numbers 286 = .ok (.istore 6, 2) := by decide +kernel
theorem dL_numbers_288 : decode cL_numbers 288 = .ok (.iload 6, 2) := by decide +kernel
theorem dL_numbers_290 : decode cL_numbers 290 = .ok (.aload_n 3, 1) := by decide +kernel
theorem dL_numbers_291 : decode cL_numbers 291 = .ok (.bipush 12, 2) := by decide +kernel
theorem dL_numbers_293 : decode cL_numbers 293 = .ok (.iaload, 1) := by decide +kernel
theorem dL_numbers_294 : decode cL_numbers 294 = .ok (.if_icmp .ge 98, 3) := by decide +kernel
theorem dL_numbers_297 : decode cL_numbers 297 = .ok (.aload_n 0, 1) := by decide +kernel
theorem dL_numbers_298 : decode cL_numbers 298 = .ok (.iload_n 1, 1) := by decide +kernel
theorem dL_numbers_299 : decode cL_numbers 299 = .ok (.bipush 9, 2) := by decide +kernel
theorem dL_numbers_301 : decode cL_numbers 301 = .ok (.iadd, 1) := by decide +kernel
theorem dL_numbers_302 : decode cL_numbers 302 = .ok (.iload 6, 2) := by decide +kernel
theorem dL_numbers_304 : decode cL_numbers 304 = .ok (.iadd, 1) := by decide +kernel
theorem dL_numbers_305 : decode cL_numbers 305 = .ok (.invokestatic 14, 3) := by decide +kernel
theorem dL_numbers_308 : decode cL_numbers 308 = .ok (.istore 7, 2) := by decide +kernel
theorem dL_numbers_310 : decode cL_numbers 310 = .ok (.aload_n 3, 1) := by decide +kernel
theorem dL_numbers_311 : decode cL_numbers 311 = .ok (.bipush 13, 2) := by decide +kernel
theorem dL_numbers_313 : decode cL_numbers 313 = .ok (.iconst 4, 1) := by decide +kernel
theorem dL_numbers_314 : decode cL_numbers 314 = .ok (.iload 6, 2) := by decide +kernel
theorem dL_numbers_316 : decode cL_numbers 316 = .ok (.imul, 1) := by decide +kernel
theorem dL_numbers_317 : decode cL_numbers 317 = .ok (.iadd, 1) := by decide +kernel
theorem dL_numbers_318 : decode cL_numbers 318 = .ok (.iload 7, 2) := by decide +kernel
theorem dL_numbers_320 : decode cL_numbers 320 = .ok (.bipush 6, 2) := by decide +kernel
theorem dL_numbers_322 : decode cL_numbers 322 = .ok (.irem, 1) := by decide +kernel
theorem dL_numbers_323 : decode cL_numbers 323 = .ok (.iastore, 1) := by decide +kernel
theorem dL_numbers_324 : decode cL_numbers 324 = .ok (.aload_n 3, 1) := by decide +kernel
theorem dL_numbers_325 : decode cL_numbers 325 = .ok (.bipush 14, 2) := by decide +kernel
theorem dL_numbers_327 : decode cL_numbers 327 = .ok (.iconst 4, 1) := by decide +kernel
theorem dL_numbers_328 : decode cL_numbers 328 = .ok (.iload 6, 2) := by decide +kernel
theorem dL_numbers_330 : decode cL_numbers 330 = .ok (.imul, 1) := by decide +kernel
theorem dL_numbers_331 : decode cL_numbers 331 = .ok (.iadd, 1) := by decide +kernel
theorem dL_numbers_332 : decode cL_numbers 332 = .ok (.iload 7, 2) := by decide +kernel
theorem dL_numbers_334 : decode cL_numbers 334 = .ok (.bipush 8, 2) := by decide +kernel
theorem dL_numbers_336 : decode cL_numbers 336 = .ok (.idiv, 1) := by decide +kernel
theorem dL_numbers_337 : decode cL_numbers 337 = .ok (.aload_n 3, 1) := by decide +kernel
theorem dL_numbers_338 : decode cL_numbers 338 = .ok (.iconst 0, 1) := by decide +kernel
theorem dL_numbers_339 : decode cL_numbers 339 = .ok (.iaload, 1) := by decide +kernel
theorem dL_numbers_340 : decode cL_numbers 340 = .ok (.irem, 1) := by decide +kernel
theorem dL_numbers_341 : decode cL_numbers 341 = .ok (.iastore, 1) := by decide +kernel
theorem dL_numbers_342 : decode cL_numbers 342 = .ok (.aload_n 3, 1) := by decide +kernel
theorem dL_numbers_343 : decode cL_numbers 343 = .ok (.bipush 15, 2) := by decide +kernel
theorem dL_numbers_345 : decode cL_numbers 345 = .ok (.iconst 4, 1) := by decide +kernel
theorem dL_numbers_346 : decode cL_numbers 346 = .ok (.iload 6, 2) := by decide +kernel
theorem dL_numbers_348 : decode cL_numbers 348 = .ok (.imul, 1) := by decide +kernel
theorem dL_numbers_349 : decode cL_numbers 349 = .ok (.iadd, 1) := by decide +kernel
theorem dL_numbers_350 : decode cL_numbers 350 = .ok (.iconst 1, 1) := by decide +kernel
theorem dL_numbers_351 : decode cL_numbers 351 = .ok (.iload 7, 2) := by decide +kernel
theorem dL_numbers_353 : decode cL_numbers 353 = .ok (.bipush 64, 2) := by decide +kernel
theorem dL_numbers_355 : decode cL_numbers 355 = .ok (.idiv, 1) := by decide +kernel
theorem dL_numbers_356 : decode cL_numbers 356 = .ok (.iconst 1, 1) := by decide +kernel
theorem dL_numbers_357 : decode cL_numbers 357 = .ok (.aload_n 3, 1) := by decide +kernel
theorem dL_numbers_358 : decode cL_numbers 358 = .ok (.iconst 1, 1) := by decide +kernel
theorem dL_numbers_359 : decode cL_numbers 359 = .ok (.iaload, 1) := by decide +kernel
theorem dL_numbers_360 : decode cL_numbers 360 = .ok (.ishl, 1) := by decide +kernel
theorem dL_numbers_361 : decode cL_numbers 361 = .ok (.iconst 1, 1) := by decide +kernel
theorem dL_numbers_362 : decode cL_numbers 362 = .ok (.isub, 1) := by decide +kernel
theorem dL_numbers_363 : decode cL_numbers 363 = .ok (.irem, 1) := by decide +kernel
theorem dL_numbers_364 : decode cL_numbers 364 = .ok (.iadd, 1) := by decide +kernel
theorem dL_numbers_365 : decode cL_numbers 365 = .ok (.iastore, 1) := by decide +kernel
theorem dL_numbers_366 : decode cL_numbers 366 = .ok (.aload_n 3, 1) := by decide +kernel
theorem dL_numbers_367 : decode cL_numbers 367 = .ok (.bipush 16, 2) := by decide +kernel
theorem dL_numbers_369 : decode cL_numbers 369 = .ok (.iconst 4, 1) := by decide +kernel
theorem dL_numbers_370 : decode cL_numbers 370 = .ok (.iload 6, 2) := by decide +kernel
theorem dL_numbers_372 : decode cL_numbers 372 = .ok (.imul, 1) := by decide +kernel
theorem dL_numbers_373 : decode cL_numbers 373 = .ok (.iadd, 1) := by decide +kernel
theorem dL_numbers_374 : decode cL_numbers 374 = .ok (.iconst 1, 1) := by decide +kernel
theorem dL_numbers_375 : decode cL_numbers 375 = .ok (.iload 7, 2) := by decide +kernel
theorem dL_numbers_377 : decode cL_numbers 377 = .ok (.sipush 4096, 3) := by decide +kernel
theorem dL_numbers_380 : decode cL_numbers 380 = .ok (.idiv, 1) := by decide +kernel
theorem dL_numbers_381 : decode cL_numbers 381 = .ok (.bipush 9, 2) := by decide +kernel
theorem dL_numbers_383 : decode cL_numbers 383 = .ok (.irem, 1) := by decide +kernel
theorem dL_numbers_384 : decode cL_numbers 384 = .ok (.iadd, 1) := by decide +kernel
theorem dL_numbers_385 : decode cL_numbers 385 = .ok (.iastore, 1) := by decide +kernel
theorem dL_numbers_386 : decode cL_numbers 386 = .ok (.iinc 6 1, 3) := by decide +kernel
theorem dL_numbers_389 : decode cL_numbers 389 = .ok (.goto (-101), 3) := by decide +kernel
theorem dL_numbers_392 : decode cL_numbers 392 = .ok (.return_, 1) := by decide +kernel
theorem dL_island_0 : decode cL_island 0 = .ok (.aload_n 0, 1) := by decide +kernel
theorem dL_island_1 : decode cL_island 1 = .ok (.iconst 3, 1) := by decide +kernel
theorem dL_island_2 : decode cL_island 2 = .ok (.bipush 100, 2) := by decide +kernel
theorem dL_island_4 : decode cL_island 4 = .ok (.invokevirtual 31, 3) := by decide +kernel
theorem dL_island_7 : decode cL_island 7 = .ok (.bipush 100, 2) := by decide +kernel
theorem dL_island_9 : decode cL_island 9 = .ok (.if_icmp .eq 5, 3) := by decide +kernel
theorem dL_island_12 : decode cL_island 12 = .ok (.iconst 0, 1) := by decide +kernel
theorem dL_island_13 : decode cL_island 13 = .ok (.ireturn, 1) := by decide +kernel
theorem dL_island_14 : decode cL_island 14 = .ok (.aload_n 0, 1) := by decide +kernel
theorem dL_island_15 : decode cL_island 15 = .ok (.aload_n 0, 1) := by decide +kernel
theorem dL_island_16 : decode cL_island 16 = .ok (.iconst 1, 1) := by decide +kernel
theorem dL_island_17 : decode cL_island 17 = .ok (.bipush 112, 2) := by decide +kernel
theorem dL_island_19 : decode cL_island 19 = .ok (.invokestatic 35, 3) := by decide +kernel
theorem dL_island_22 : decode cL_island 22 = .ok (.bipush 48, 2) := by decide +kernel
theorem dL_island_24 : decode cL_island 24 = .ok (.aload_n 1, 1) := by decide +kernel
theorem dL_island_25 : decode cL_island 25 = .ok (.iconst 0, 1) := by decide +kernel
theorem dL_island_26 : decode cL_island 26 = .ok (.iaload, 1) := by decide +kernel
theorem dL_island_27 : decode cL_island 27 = .ok (.iadd, 1) := by decide +kernel
theorem dL_island_28 : decode cL_island 28 = .ok (.invokestatic 35, 3) := by decide +kernel
theorem dL_island_31 : decode cL_island 31 = .ok (.istore_n 2, 1) := by decide +kernel
theorem dL_island_32 : decode cL_island 32 = .ok (.iconst 0, 1) := by decide +kernel
theorem dL_island_33 : decode cL_island 33 = .ok (.istore_n 3, 1) := by decide +kernel
theorem dL_island_34 : decode cL_island 34 = .ok (.iload_n 3, 1) := by decide +kernel
theorem dL_island_35 : decode cL_island 35 = .ok (.aload_n 1, 1) := by decide +kernel
theorem dL_island_36 : decode cL_island 36 = .ok (.iconst 1, 1) := by decide +kernel
theorem dL_island_37 : decode cL_island 37 = .ok (.iaload, 1) := by decide +kernel
theorem dL_island_38 : decode cL_island 38 = .ok (.if_icmp .ge 108, 3) := by decide +kernel
theorem dL_island_41 : decode cL_island 41 = .ok (.aload_n 1, 1) := by decide +kernel
theorem dL_island_42 : decode cL_island 42 = .ok (.iconst 2, 1) := by decide +kernel
theorem dL_island_43 : decode cL_island 43 = .ok (.iload_n 3, 1) := by decide +kernel
theorem dL_island_44 : decode cL_island 44 = .ok (.iadd, 1) := by decide +kernel
theorem dL_island_45 : decode cL_island 45 = .ok (.iaload, 1) := by decide +kernel
theorem dL_island_46 : decode cL_island 46 = .ok (.istore 4, 2) := by decide +kernel
theorem dL_island_48 : decode cL_island 48 = .ok (.aload_n 0, 1) := by decide +kernel
theorem dL_island_49 : decode cL_island 49 = .ok (.iload_n 2, 1) := by decide +kernel
theorem dL_island_50 : decode cL_island 50 = .ok (.iload 4, 2) := by decide +kernel
theorem dL_island_52 : decode cL_island 52 = .ok (.ifCond .ne 8, 3) := by decide +kernel
theorem dL_island_55 : decode cL_island 55 = .ok (.bipush 116, 2) := by decide +kernel
theorem dL_island_57 : decode cL_island 57 = .ok (.goto 49, 3) := by decide +kernel
theorem dL_island_60 : decode cL_island 60 = .ok (.iload 4, 2) := by decide +kernel
theorem dL_island_62 : decode cL_island 62 = .ok (.iconst 1, 1) := by decide +kernel
theorem dL_island_63 : decode cL_island 63 = .ok (.if_icmp .ne 8, 3) := by decide +kernel
theorem dL_island_66 : decode cL_island 66 = .ok (.bipush 98, 2) := by decide +kernel
theorem dL_island_68 : decode cL_island 68 = .ok (.goto 38, 3) := by decide +kernel
theorem dL_island_71 : decode cL_island 71 = .ok (.iload 4, 2) := by decide +kernel
theorem dL_island_73 : decode cL_island 73 = .ok (.iconst 2, 1) := by decide +kernel
theorem dL_island_74 : decode cL_island 74 = .ok (.if_icmp .ne 8, 3) := by decide +kernel
theorem dL_island_77 : decode cL_island 77 = .ok (.bipush 108, 2) := by decide +kernel
theorem dL_island_79 : decode cL_island 79 = .ok (.goto 27, 3) := by decide +kernel
theorem dL_island_82 : decode cL_island 82 = .ok (.iload 4, 2) := by decide +kernel
theorem dL_island_84 : decode cL_island 84 = .ok (.iconst 3, 1) := by decide +kernel
theorem dL_island_85 : decode cL_island 85 = .ok (.if_icmp .ne 8, 3) := by decide +kernel
theorem dL_island_88 : decode cL_island 88 = .ok (.bipush 104, 2) := by decide +kernel
theorem dL_island_90 : decode cL_island 90 = .ok (.goto 16, 3) := by decide +kernel
theorem dL_island_93 : decode cL_island 93 = .ok (.iload 4, 2) := by decide +kernel
theorem dL_island_95 : decode cL_island 95 = .ok (.iconst 4, 1) := by decide +kernel
theorem dL_island_96 : decode cL_island 96 = .ok (.if_icmp .ne 8, 3) := by decide +kernel
theorem dL_island_99 : decode cL_island 99 = .ok (.bipush 115, 2) := by decide +kernel
theorem dL_island_101 : decode cL_island 101 = .ok (.goto 5, 3) := by decide +kernel
theorem dL_island_104 : decode cL_island 104 = .ok (.bipush 101, 2) := by decide +kernel
theorem dL_island_106 : decode cL_island 106 = .ok (.invokestatic 35, 3) := by decide +kernel
theorem dL_island_109 : decode cL_island 109 = .ok (.istore_n 2, 1) := by decide +kernel
theorem dL_island_110 : decode cL_island 110 = .ok (.aload_n 0, 1) := by decide +kernel
theorem dL_island_111 : decode cL_island 111 = .ok (.iload_n 2, 1) := by decide +kernel
theorem dL_island_112 : decode cL_island 112 = .ok (.aload_n 1, 1) := by decide +kernel
theorem dL_island_113 : decode cL_island 113 = .ok (.bipush 7, 2) := by decide +kernel
theorem dL_island_115 : decode cL_island 115 = .ok (.iload_n 3, 1) := by decide +kernel
theorem dL_island_116 : decode cL_island 116 = .ok (.iadd, 1) := by decide +kernel
theorem dL_island_117 : decode cL_island 117 = .ok (.iaload, 1) := by decide +kernel
theorem dL_island_118 : decode cL_island 118 = .ok (.iconst 4, 1) := by decide +kernel
theorem dL_island_119 : decode cL_island 119 = .ok (.if_icmp .ne 8, 3) := by decide +kernel
theorem dL_island_122 : decode cL_island 122 = .ok (.bipush 122, 2) := by decide +kernel
theorem dL_island_124 : decode cL_island 124 = .ok (.goto 12, 3) := by decide +kernel
theorem dL_island_127 : decode cL_island 127 = .ok (.bipush 48, 2) := by decide +kernel
theorem dL_island_129 : decode cL_island 129 = .ok (.aload_n 1, 1) := by decide +kernel
theorem dL_island_130 : decode cL_island 130 = .ok (.bipush 7, 2) := by decide +kernel
theorem dL_island_132 : decode cL_island 132 = .ok (.iload_n 3, 1) := by decide +kernel
theorem dL_island_133 : decode cL_island 133 = .ok (.iadd, 1) := by decide +kernel
theorem dL_island_134 : decode cL_island 134 = .ok (.iaload, 1) := by decide +kernel
theorem dL_island_135 : decode cL_island 135 = .ok (.iadd, 1) := by decide +kernel
theorem dL_island_136 : decode cL_island 136 = .ok (.invokestatic 35, 3) := by decide +kernel
theorem dL_island_139 : decode cL_island 139 = .ok (.istore_n 2, 1) := by decide +kernel
theorem dL_island_140 : decode cL_island 140 = .ok (.iinc 3 1, 3) := by decide +kernel
theorem dL_island_143 : decode cL_island 143 = .ok (.goto (-109), 3) := by decide +kernel
theorem dL_island_146 : decode cL_island 146 = .ok (.iconst 0, 1) := by decide +kernel
theorem dL_island_147 : decode cL_island 147 = .ok (.istore_n 3, 1) := by decide +kernel
theorem dL_island_148 : decode cL_island 148 = .ok (.iload_n 3, 1) := by decide +kernel
theorem dL_island_149 : decode cL_island 149 = .ok (.aload_n 1, 1) := by decide +kernel
theorem dL_island_150 : decode cL_island 150 = .ok (.bipush 12, 2) := by decide +kernel
theorem dL_island_152 : decode cL_island 152 = .ok (.iaload, 1) := by decide +kernel
theorem dL_island_153 : decode cL_island 153 = .ok (.if_icmp .ge 119, 3) := by decide +kernel
theorem dL_island_156 : decode cL_island 156 = .ok (.aload_n 0, 1) := by decide +kernel
theorem dL_island_157 : decode cL_island 157 = .ok (.aload_n 0, 1) := by decide +kernel
theorem dL_island_158 : decode cL_island 158 = .ok (.aload_n 0, 1) := by decide +kernel
theorem dL_island_159 : decode cL_island 159 = .ok (.iload_n 2, 1) := by decide +kernel
theorem dL_island_160 : decode cL_island 160 = .ok (.bipush 119, 2) := by decide +kernel
theorem dL_island_162 : decode cL_island 162 = .ok (.invokestatic 35, 3) := by decide +kernel
theorem dL_island_165 : decode cL_island 165 = .ok (.bipush 48, 2) := by decide +kernel
theorem dL_island_167 : decode cL_island 167 = .ok (.aload_n 1, 1) := by decide +kernel
theorem dL_island_168 : decode cL_island 168 = .ok (.bipush 13, 2) := by decide +kernel
theorem dL_island_170 : decode cL_island 170 = .ok (.iconst 4, 1) := by decide +kernel
theorem dL_island_171 : decode cL_island 171 = .ok (.iload_n 3, 1) := by decide +kernel
theorem dL_island_172 : decode cL_island 172 = .ok (.imul, 1) := by decide +kernel
theorem dL_island_173 : decode cL_island 173 = .ok (.iadd, 1) := by decide +kernel
theorem dL_island_174 : decode cL_island 174 = .ok (.iaload, 1) := by decide +kernel
theorem dL_island_175 : decode cL_island 175 = .ok (.iadd, 1) := by decide +kernel
theorem dL_island_176 : decode cL_island 176 = .ok (.invokestatic 35, 3) := by decide +kernel
theorem dL_island_179 : decode cL_island 179 = .ok (.bipush 48, 2) := by decide +kernel
theorem dL_island_181 : decode cL_island 181 = .ok (.aload_n 1, 1) := by decide +kernel
theorem dL_island_182 : decode cL_island 182 = .ok (.bipush 14, 2) := by decide +kernel
theorem dL_island_184 : decode cL_island 184 = .ok (.iconst 4, 1) := by decide +kernel
theorem dL_island_185 : decode cL_island 185 = .ok (.iload_n 3, 1) := by decide +kernel
theorem dL_island_186 : decode cL_island 186 = .ok (.imul, 1) := by decide +kernel
theorem dL_island_187 : decode cL_island 187 = .ok (.iadd, 1) := by decide +kernel
theorem dL_island_188 : decode cL_island 188 = .ok (.iaload, 1) := by decide +kernel
theorem dL_island_189 : decode cL_island 189 = .ok (.iadd, 1) := by decide +kernel
theorem dL_island_190 : decode cL_island 190 = .ok (.invokestatic 35, 3) := by decide +kernel
theorem dL_island_193 : decode cL_island 193 = .ok (.istore_n 2, 1) := by decide +kernel
theorem dL_island_194 : decode cL_island 194 = .ok (.iconst 0, 1) := by decide +kernel
theorem dL_island_195 : decode cL_island 195 = .ok (.istore 4, 2) := by decide +kernel
theorem dL_island_197 : decode cL_island 197 = .ok (.iload 4, 2) := by decide +kernel
theorem dL_island_199 : decode cL_island 199 = .ok (.aload_n 1, 1) := by decide +kernel
theorem dL_island_200 : decode cL_island 200 = .ok (.iconst 1, 1) := by decide +kernel
theorem dL_island_201 : decode cL_island 201 = .ok (.iaload, 1) := by decide +kernel
theorem dL_island_202 : decode cL_island 202 = .ok (.if_icmp .ge 41, 3) := by decide +kernel
theorem dL_island_205 : decode cL_island 205 = .ok (.aload_n 1, 1) := by decide +kernel
theorem dL_island_206 : decode cL_island 206 = .ok (.bipush 15, 2) := by decide +kernel
theorem dL_island_208 : decode cL_island 208 = .ok (.iconst 4, 1) := by decide +kernel
theorem dL_island_209 : decode cL_island 209 = .ok (.iload_n 3, 1) := by decide +kernel
theorem dL_island_210 : decode cL_island 210 = .ok (.imul, 1) := by decide +kernel
theorem dL_island_211 : decode cL_island 211 = .ok (.iadd, 1) := by decide +kernel
theorem dL_island_212 : decode cL_island 212 = .ok (.iaload, 1) := by decide +kernel
theorem dL_island_213 : decode cL_island 213 = .ok (.iload 4, 2) := by decide +kernel
theorem dL_island_215 : decode cL_island 215 = .ok (.ishr, 1) := by decide +kernel
theorem dL_island_216 : decode cL_island 216 = .ok (.iconst 1, 1) := by decide +kernel
theorem dL_island_217 : decode cL_island 217 = .ok (.iand, 1) := by decide +kernel
theorem dL_island_218 : decode cL_island 218 = .ok (.iconst 1, 1) := by decide +kernel
theorem dL_island_219 : decode cL_island 219 = .ok (.if_icmp .ne 16, 3) := by decide +kernel
theorem dL_island_222 : decode cL_island 222 = .ok (.aload_n 0, 1) := by decide +kernel
theorem dL_island_223 : decode cL_island 223 = .ok (.iload_n 2, 1) := by decide +kernel
theorem dL_island_224 : decode cL_island 224 = .ok (.bipush 48, 2) := by decide +kernel
theorem dL_island_226 : decode cL_island 226 = .ok (.iload 4, 2) := by decide +kernel
theorem dL_island_228 : decode cL_island 228 = .ok (.iadd, 1) := by decide +kernel
theorem dL_island_229 : decode cL_island 229 = .ok (.invokestatic 35, 3) := by decide +kernel
theorem dL_island_232 : decode cL_island 232 = .ok (.goto 4, 3) := by decide +kernel
theorem dL_island_235 : decode cL_island 235 = .ok (.iload_n 2, 1) := by decide +kernel
theorem dL_island_236 : decode cL_island 236 = .ok (.istore_n 2, 1) := by decide +kernel
theorem dL_island_237 : decode cL_island 237 = .ok (.iinc 4 1, 3) := by decide +kernel
theorem dL_island_240 : decode cL_island 240 = .ok (.goto (-43), 3) := by decide +kernel
theorem dL_island_243 : decode cL_island 243 = .ok (.aload_n 0, 1) := by decide +kernel
theorem dL_island_244 : decode cL_island 244 = .ok (.aload_n 0, 1) := by decide +kernel
theorem dL_island_245 : decode cL_island 245 = .ok (.iload_n 2, 1) := by decide +kernel
theorem dL_island_246 : decode cL_island 246 = .ok (.bipush 58, 2) := by decide +kernel
theorem dL_island_248 : decode cL_island 248 = .ok (.invokestatic 35, 3) := by decide +kernel
theorem dL_island_251 : decode cL_island 251 = .ok (.bipush 48, 2) := by decide +kernel
theorem dL_island_253 : decode cL_island 253 = .ok (.aload_n 1, 1) := by decide +kernel
theorem dL_island_254 : decode cL_island 254 = .ok (.bipush 16, 2) := by decide +kernel
theorem dL_island_256 : decode cL_island 256 = .ok (.iconst 4, 1) := by decide +kernel
theorem dL_island_257 : decode cL_island 257 = .ok (.iload_n 3, 1) := by decide +kernel
theorem dL_island_258 : decode cL_island 258 = .ok (.imul, 1) := by decide +kernel
theorem dL_island_259 : decode cL_island 259 = .ok (.iadd, 1) := by decide +kernel
theorem dL_island_260 : decode cL_island 260 = .ok (.iaload, 1) := by decide +kernel
theorem dL_island_261 : decode cL_island 261 = .ok (.iadd, 1) := by decide +kernel
theorem dL_island_262 : decode cL_island 262 = .ok (.invokestatic 35, 3) := by decide +kernel
theorem dL_island_265 : decode cL_island 265 = .ok (.istore_n 2, 1) := by decide +kernel
theorem dL_island_266 : decode cL_island 266 = .ok (.iinc 3 1, 3) := by decide +kernel
theorem dL_island_269 : decode cL_island 269 = .ok (.goto (-121), 3) := by decide +kernel
theorem dL_island_272 : decode cL_island 272 = .ok (.iload_n 2, 1) := by decide +kernel
theorem dL_island_273 : decode cL_island 273 = .ok (.ifCond .le 28, 3) := by decide +kernel
theorem dL_island_276 : decode cL_island 276 = .ok (.aload_n 0, 1) := by decide +kernel
theorem dL_island_277 : decode cL_island 277 = .ok (.iconst 3, 1) := by decide +kernel
theorem dL_island_278 : decode cL_island 278 = .ok (.invokevirtual 38, 3) := by decide +kernel
theorem dL_island_281 : decode cL_island 281 = .ok (.bipush (-9), 2) := by decide +kernel
theorem dL_island_283 : decode cL_island 283 = .ok (.if_icmp .ne 18, 3) := by decide +kernel
theorem dL_island_286 : decode cL_island 286 = .ok (.aload_n 0, 1) := by decide +kernel
theorem dL_island_287 : decode cL_island 287 = .ok (.iconst 3, 1) := by decide +kernel
theorem dL_island_288 : decode cL_island 288 = .ok (.invokevirtual 41, 3) := by decide +kernel
theorem dL_island_291 : decode cL_island 291 = .ok (.aload_n 1, 1) := by decide +kernel
theorem dL_island_292 : decode cL_island 292 = .ok (.iconst 1, 1) := by decide +kernel
theorem dL_island_293 : decode cL_island 293 = .ok (.iaload, 1) := by decide +kernel
theorem dL_island_294 : decode cL_island 294 = .ok (.if_icmp .ne 7, 3) := by decide +kernel
theorem dL_island_297 : decode cL_island 297 = .ok (.iconst 1, 1) := by decide +kernel
theorem dL_island_298 : decode cL_island 298 = .ok (.goto 4, 3) := by decide +kernel
theorem dL_island_301 : decode cL_island 301 = .ok (.iconst 0, 1) := by decide +kernel
theorem dL_island_302 : decode cL_island 302 = .ok (.ireturn, 1) := by decide +kernel
theorem dL_tells_0 : decode cL_tells 0 = .ok (.iload_n 1, 1) := by decide +kernel
theorem dL_tells_1 : decode cL_tells 1 = .ok (.iconst 1, 1) := by decide +kernel
theorem dL_tells_2 : decode cL_tells 2 = .ok (.if_icmp .ne 10, 3) := by decide +kernel
theorem dL_tells_5 : decode cL_tells 5 = .ok (.aload_n 0, 1) := by decide +kernel
theorem dL_tells_6 : decode cL_tells 6 = .ok (.invokevirtual 83, 3) := by decide +kernel
theorem dL_tells_9 : decode cL_tells 9 = .ok (.goto 6, 3) := by decide +kernel
theorem dL_tells_12 : decode cL_tells 12 = .ok (.sipush (-7777), 3) := by decide +kernel
theorem dL_tells_15 : decode cL_tells 15 = .ok (.ireturn, 1) := by decide +kernel
theorem dL_law_0 : decode cL_law 0 = .ok (.new 9, 3) := by decide +kernel
theorem dL_law_3 : decode cL_law 3 = .ok (.dup, 1) := by decide +kernel
theorem dL_law_4 : decode cL_law 4 = .ok (.invokespecial 99, 3) := by decide +kernel
theorem dL_law_7 : decode cL_law 7 = .ok (.astore_n 1, 1) := by decide +kernel
theorem dL_law_8 : decode cL_law 8 = .ok (.bipush 64, 2) := by decide +kernel
theorem dL_law_10 : decode cL_law 10 = .ok (.newarray .int, 2) := by decide +kernel
theorem dL_law_12 : decode cL_law 12 = .ok (.astore_n 2, 1) := by decide +kernel
theorem dL_law_13 : decode cL_law 13 = .ok (.aload_n 0, 1) := by decide +kernel
theorem dL_law_14 : decode cL_law 14 = .ok (.bipush 10, 2) := by decide +kernel
theorem dL_law_16 : decode cL_law 16 = .ok (.iconst 4, 1) := by decide +kernel
theorem dL_law_17 : decode cL_law 17 = .ok (.aload_n 2, 1) := by decide +kernel
theorem dL_law_18 : decode cL_law 18 = .ok (.invokestatic 100, 3) := by decide +kernel
theorem dL_law_21 : decode cL_law 21 = .ok (.aload_n 1, 1) := by decide +kernel
theorem dL_law_22 : decode cL_law 22 = .ok (.aload_n 2, 1) := by decide +kernel
theorem dL_law_23 : decode cL_law 23 = .ok (.invokestatic 104, 3) := by decide +kernel
theorem dL_law_26 : decode cL_law 26 = .ok (.ifCond .ne 5, 3) := by decide +kernel
theorem dL_law_29 : decode cL_law 29 = .ok (.iconst 0, 1) := by decide +kernel
theorem dL_law_30 : decode cL_law 30 = .ok (.ireturn, 1) := by decide +kernel
theorem dL_law_31 : decode cL_law 31 = .ok (.aload_n 2, 1) := by decide +kernel
theorem dL_law_32 : decode cL_law 32 = .ok (.iconst 0, 1) := by decide +kernel
theorem dL_law_33 : decode cL_law 33 = .ok (.iaload, 1) := by decide +kernel
theorem dL_law_34 : decode cL_law 34 = .ok (.istore_n 3, 1) := by decide +kernel
theorem dL_law_35 : decode cL_law 35 = .ok (.aload_n 2, 1) := by decide +kernel
theorem dL_law_36 : decode cL_law 36 = .ok (.iconst 1, 1) := by decide +kernel
theorem dL_law_37 : decode cL_law 37 = .ok (.iaload, 1) := by decide +kernel
theorem dL_law_38 : decode cL_law 38 = .ok (.istore 4, 2) := by decide +kernel
theorem dL_law_40 : decode cL_law 40 = .ok (.iconst 3, 1) := by decide +kernel
theorem dL_law_41 : decode cL_law 41 = .ok (.istore 5, 2) := by decide +kernel
theorem dL_law_43 : decode cL_law 43 = .ok (.iconst 0, 1) := by decide +kernel
theorem dL_law_44 : decode cL_law 44 = .ok (.istore 6, 2) := by decide +kernel
theorem dL_law_46 : decode cL_law 46 = .ok (.iload 6, 2) := by decide +kernel
theorem dL_law_48 : decode cL_law 48 = .ok (.bipush 6, 2) := by decide +kernel
theorem dL_law_50 : decode cL_law 50 = .ok (.if_icmp .ge 306, 3) := by decide +kernel
theorem dL_law_53 : decode cL_law 53 = .ok (.iconst 0, 1) := by decide +kernel
theorem dL_law_54 : decode cL_law 54 = .ok (.istore 7, 2) := by decide +kernel
theorem dL_law_56 : decode cL_law 56 = .ok (.bipush (-9), 2) := by decide +kernel
theorem dL_law_58 : decode cL_law 58 = .ok (.istore 8, 2) := by decide +kernel
theorem dL_law_60 : decode cL_law 60 = .ok (.bipush 7, 2) := by decide +kernel
theorem dL_law_62 : decode cL_law 62 = .ok (.iload 4, 2) := by decide +kernel
theorem dL_law_64 : decode cL_law 64 = .ok (.imul, 1) := by decide +kernel
theorem dL_law_65 : decode cL_law 65 = .ok (.iconst 1, 1) := by decide +kernel
theorem dL_law_66 : decode cL_law 66 = .ok (.isub, 1) := by decide +kernel
theorem dL_law_67 : decode cL_law 67 = .ok (.istore 9, 2) := by decide +kernel
theorem dL_law_69 : decode cL_law 69 = .ok (.iload 9, 2) := by decide +kernel
theorem dL_law_71 : decode cL_law 71 = .ok (.ifCond .lt 56, 3) := by decide +kernel
theorem dL_law_74 : decode cL_law 74 = .ok (.aload_n 1, 1) := by decide +kernel
theorem dL_law_75 : decode cL_law 75 = .ok (.iload 9, 2) := by decide +kernel
theorem dL_law_77 : decode cL_law 77 = .ok (.bipush 7, 2) := by decide +kernel
theorem dL_law_79 : decode cL_law 79 = .ok (.idiv, 1) := by decide +kernel
theorem dL_law_80 : decode cL_law 80 = .ok (.iload 9, 2) := by decide +kernel
theorem dL_law_82 : decode cL_law 82 = .ok (.bipush 7, 2) := by decide +kernel
theorem dL_law_84 : decode cL_law 84 = .ok (.irem, 1) := by decide +kernel
theorem dL_law_85 : decode cL_law 85 = .ok (.invokevirtual 107, 3) := by decide +kernel
theorem dL_law_88 : decode cL_law 88 = .ok (.istore 10, 2) := by decide +kernel
theorem dL_law_90 : decode cL_law 90 = .ok (.iload 7, 2) := by decide +kernel
theorem dL_law_92 : decode cL_law 92 = .ok (.iload 10, 2) := by decide +kernel
theorem dL_law_94 : decode cL_law 94 = .ok (.iconst 1, 1) := by decide +kernel
theorem dL_law_95 : decode cL_law 95 = .ok (.if_icmp .ne 7, 3) := by decide +kernel
theorem dL_law_98 : decode cL_law 98 = .ok (.iconst 1, 1) := by decide +kernel
theorem dL_law_99 : decode cL_law 99 = .ok (.goto 4, 3) := by decide +kernel
theorem dL_law_102 : decode cL_law 102 = .ok (.iconst 0, 1) := by decide +kernel
theorem dL_law_103 : decode cL_law 103 = .ok (.iadd, 1) := by decide +kernel
theorem dL_law_104 : decode cL_law 104 = .ok (.istore 7, 2) := by decide +kernel
theorem dL_law_106 : decode cL_law 106 = .ok (.iload 10, 2) := by decide +kernel
theorem dL_law_108 : decode cL_law 108 = .ok (.iconst 1, 1) := by decide +kernel
theorem dL_law_109 : decode cL_law 109 = .ok (.if_icmp .ne 8, 3) := by decide +kernel
theorem dL_law_112 : decode cL_law 112 = .ok (.iload 9, 2) := by decide +kernel
theorem dL_law_114 : decode cL_law 114 = .ok (.goto 5, 3) := by decide +kernel
theorem dL_law_117 : decode cL_law 117 = .ok (.iload 8, 2) := by decide +kernel
theorem dL_law_119 : decode cL_law 119 = .ok (.istore 8, 2) := by decide +kernel
theorem dL_law_121 : decode cL_law 121 = .ok (.iinc 9 (-1), 3) := by decide +kernel
theorem dL_law_124 : decode cL_law 124 = .ok (.goto (-55), 3) := by decide +kernel
theorem dL_law_127 : decode cL_law 127 = .ok (.aload_n 1, 1) := by decide +kernel
theorem dL_law_128 : decode cL_law 128 = .ok (.invokevirtual 109, 3) := by decide +kernel
theorem dL_law_131 : decode cL_law 131 = .ok (.iload 7, 2) := by decide +kernel
theorem dL_law_133 : decode cL_law 133 = .ok (.if_icmp .ne 12, 3) := by decide +kernel
theorem dL_law_136 : decode cL_law 136 = .ok (.aload_n 1, 1) := by decide +kernel
theorem dL_law_137 : decode cL_law 137 = .ok (.invokevirtual 83, 3) := by decide +kernel
theorem dL_law_140 : decode cL_law 140 = .ok (.iload 8, 2) := by decide +kernel
theorem dL_law_142 : decode cL_law 142 = .ok (.if_icmp .eq 5, 3) := by decide +kernel
theorem dL_law_145 : decode cL_law 145 = .ok (.iconst 0, 1) := by decide +kernel
theorem dL_law_146 : decode cL_law 146 = .ok (.ireturn, 1) := by decide +kernel
theorem dL_law_147 : decode cL_law 147 = .ok (.iload 4, 2) := by decide +kernel
theorem dL_law_149 : decode cL_law 149 = .ok (.ifCond .le 21, 3) := by decide +kernel
theorem dL_law_152 : decode cL_law 152 = .ok (.aload_n 0, 1) := by decide +kernel
theorem dL_law_153 : decode cL_law 153 = .ok (.bipush 60, 2) := by decide +kernel
theorem dL_law_155 : decode cL_law 155 = .ok (.iload 6, 2) := by decide +kernel
theorem dL_law_157 : decode cL_law 157 = .ok (.iadd, 1) := by decide +kernel
theorem dL_law_158 : decode cL_law 158 = .ok (.invokestatic 14, 3) := by decide +kernel
theorem dL_law_161 : decode cL_law 161 = .ok (.bipush 7, 2) := by decide +kernel
theorem dL_law_163 : decode cL_law 163 = .ok (.iload 4, 2) := by decide +kernel
theorem dL_law_165 : decode cL_law 165 = .ok (.imul, 1) := by decide +kernel
theorem dL_law_166 : decode cL_law 166 = .ok (.irem, 1) := by decide +kernel
theorem dL_law_167 : decode cL_law 167 = .ok (.goto 4, 3) := by decide +kernel
theorem dL_law_170 : decode cL_law 170 = .ok (.iconst 0, 1) := by decide +kernel
theorem dL_law_171 : decode cL_law 171 = .ok (.istore 9, 2) := by decide +kernel
theorem dL_law_173 : decode cL_law 173 = .ok (.iload 4, 2) := by decide +kernel
theorem dL_law_175 : decode cL_law 175 = .ok (.ifCond .le 161, 3) := by decide +kernel
theorem dL_law_178 : decode cL_law 178 = .ok (.aload_n 1, 1) := by decide +kernel
theorem dL_law_179 : decode cL_law 179 = .ok (.iload 9, 2) := by decide +kernel
theorem dL_law_181 : decode cL_law 181 = .ok (.bipush 7, 2) := by decide +kernel
theorem dL_law_183 : decode cL_law 183 = .ok (.idiv, 1) := by decide +kernel
theorem dL_law_184 : decode cL_law 184 = .ok (.iload 9, 2) := by decide +kernel
theorem dL_law_186 : decode cL_law 186 = .ok (.bipush 7, 2) := by decide +kernel
theorem dL_law_188 : decode cL_law 188 = .ok (.irem, 1) := by decide +kernel
theorem dL_law_189 : decode cL_law 189 = .ok (.invokevirtual 107, 3) := by decide +kernel
theorem dL_law_192 : decode cL_law 192 = .ok (.iconst 1, 1) := by decide +kernel
theorem dL_law_193 : decode cL_law 193 = .ok (.if_icmp .ne 143, 3) := by decide +kernel
theorem dL_law_196 : decode cL_law 196 = .ok (.aload_n 1, 1) := by decide +kernel
theorem dL_law_197 : decode cL_law 197 = .ok (.invokevirtual 112, 3) := by decide +kernel
theorem dL_law_200 : decode cL_law 200 = .ok (.lstore 10, 2) := by decide +kernel
theorem dL_law_202 : decode cL_law 202 = .ok (.aload_n 1, 1) := by decide +kernel
theorem dL_law_203 : decode cL_law 203 = .ok (.aload_n 1, 1) := by decide +kernel
theorem dL_law_204 : decode cL_law 204 = .ok (.iload 9, 2) := by decide +kernel
theorem dL_law_206 : decode cL_law 206 = .ok (.bipush 7, 2) := by decide +kernel
theorem dL_law_208 : decode cL_law 208 = .ok (.idiv, 1) := by decide +kernel
theorem dL_law_209 : decode cL_law 209 = .ok (.iconst 1, 1) := by decide +kernel
theorem dL_law_210 : decode cL_law 210 = .ok (.invokevirtual 87, 3) := by decide +kernel
theorem dL_law_213 : decode cL_law 213 = .ok (.invokestatic 90, 3) := by decide +kernel
theorem dL_law_216 : decode cL_law 216 = .ok (.istore 12, 2) := by decide +kernel
theorem dL_law_218 : decode cL_law 218 = .ok (.aload_n 1, 1) := by decide +kernel
theorem dL_law_219 : decode cL_law 219 = .ok (.iconst 3, 1) := by decide +kernel
theorem dL_law_220 : decode cL_law 220 = .ok (.invokevirtual 116, 3) := by decide +kernel
theorem dL_law_223 : decode cL_law 223 = .ok (.istore 13, 2) := by decide +kernel
theorem dL_law_225 : decode cL_law 225 = .ok (.aload_n 1, 1) := by decide +kernel
theorem dL_law_226 : decode cL_law 226 = .ok (.iload 9, 2) := by decide +kernel
theorem dL_law_228 : decode cL_law 228 = .ok (.bipush 7, 2) := by decide +kernel
theorem dL_law_230 : decode cL_law 230 = .ok (.idiv, 1) := by decide +kernel
theorem dL_law_231 : decode cL_law 231 = .ok (.iload 9, 2) := by decide +kernel
theorem dL_law_233 : decode cL_law 233 = .ok (.bipush 7, 2) := by decide +kernel
theorem dL_law_235 : decode cL_law 235 = .ok (.irem, 1) := by decide +kernel
theorem dL_law_236 : decode cL_law 236 = .ok (.invokevirtual 119, 3) := by decide +kernel
theorem dL_law_239 : decode cL_law 239 = .ok (.iconst 1, 1) := by decide +kernel
theorem dL_law_240 : decode cL_law 240 = .ok (.if_icmp .ne 94, 3) := by decide +kernel
theorem dL_law_243 : decode cL_law 243 = .ok (.aload_n 1, 1) := by decide +kernel
theorem dL_law_244 : decode cL_law 244 = .ok (.aload_n 1, 1) := by decide +kernel
theorem dL_law_245 : decode cL_law 245 = .ok (.iload 9, 2) := by decide +kernel
theorem dL_law_247 : decode cL_law 247 = .ok (.bipush 7, 2) := by decide +kernel
theorem dL_law_249 : decode cL_law 249 = .ok (.idiv, 1) := by decide +kernel
theorem dL_law_250 : decode cL_law 250 = .ok (.iconst 1, 1) := by decide +kernel
theorem dL_law_251 : decode cL_law 251 = .ok (.invokevirtual 87, 3) := by decide +kernel
theorem dL_law_254 : decode cL_law 254 = .ok (.invokestatic 90, 3) := by decide +kernel
theorem dL_law_257 : decode cL_law 257 = .ok (.iload 9, 2) := by decide +kernel
theorem dL_law_259 : decode cL_law 259 = .ok (.bipush 7, 2) := by decide +kernel
theorem dL_law_261 : decode cL_law 261 = .ok (.irem, 1) := by decide +kernel
theorem dL_law_262 : decode cL_law 262 = .ok (.if_icmp .ne 72, 3) := by decide +kernel
theorem dL_law_265 : decode cL_law 265 = .ok (.aload_n 1, 1) := by decide +kernel
theorem dL_law_266 : decode cL_law 266 = .ok (.iconst 3, 1) := by decide +kernel
theorem dL_law_267 : decode cL_law 267 = .ok (.invokevirtual 116, 3) := by decide +kernel
theorem dL_law_270 : decode cL_law 270 = .ok (.iload 13, 2) := by decide +kernel
theorem dL_law_272 : decode cL_law 272 = .ok (.iconst 1, 1) := by decide +kernel
theorem dL_law_273 : decode cL_law 273 = .ok (.iadd, 1) := by decide +kernel
theorem dL_law_274 : decode cL_law 274 = .ok (.if_icmp .ne 60, 3) := by decide +kernel
theorem dL_law_277 : decode cL_law 277 = .ok (.aload_n 1, 1) := by decide +kernel
theorem dL_law_278 : decode cL_law 278 = .ok (.iload 13, 2) := by decide +kernel
theorem dL_law_280 : decode cL_law 280 = .ok (.invokevirtual 122, 3) := by decide +kernel
theorem dL_law_283 : decode cL_law 283 = .ok (.iconst 1, 1) := by decide +kernel
theorem dL_law_284 : decode cL_law 284 = .ok (.if_icmp .ne 50, 3) := by decide +kernel
theorem dL_law_287 : decode cL_law 287 = .ok (.aload_n 1, 1) := by decide +kernel
theorem dL_law_288 : decode cL_law 288 = .ok (.invokevirtual 112, 3) := by decide +kernel
theorem dL_law_291 : decode cL_law 291 = .ok (.lload 10, 2) := by decide +kernel
theorem dL_law_293 : decode cL_law 293 = .ok (.lcmp, 1) := by decide +kernel
theorem dL_law_294 : decode cL_law 294 = .ok (.ifCond .ne 40, 3) := by decide +kernel
theorem dL_law_297 : decode cL_law 297 = .ok (.aload_n 1, 1) := by decide +kernel
theorem dL_law_298 : decode cL_law 298 = .ok (.aload_n 1, 1) := by decide +kernel
theorem dL_law_299 : decode cL_law 299 = .ok (.iload 9, 2) := by decide +kernel
theorem dL_law_301 : decode cL_law 301 = .ok (.bipush 7, 2) := by decide +kernel
theorem dL_law_303 : decode cL_law 303 = .ok (.idiv, 1) := by decide +kernel
theorem dL_law_304 : decode cL_law 304 = .ok (.iconst 1, 1) := by decide +kernel
theorem dL_law_305 : decode cL_law 305 = .ok (.invokevirtual 87, 3) := by decide +kernel
theorem dL_law_308 : decode cL_law 308 = .ok (.invokestatic 90, 3) := by decide +kernel
theorem dL_law_311 : decode cL_law 311 = .ok (.iload 12, 2) := by decide +kernel
theorem dL_law_313 : decode cL_law 313 = .ok (.if_icmp .ne 21, 3) := by decide +kernel
theorem dL_law_316 : decode cL_law 316 = .ok (.aload_n 1, 1) := by decide +kernel
theorem dL_law_317 : decode cL_law 317 = .ok (.iload 9, 2) := by decide +kernel
theorem dL_law_319 : decode cL_law 319 = .ok (.bipush 7, 2) := by decide +kernel
theorem dL_law_321 : decode cL_law 321 = .ok (.idiv, 1) := by decide +kernel
theorem dL_law_322 : decode cL_law 322 = .ok (.iload 9, 2) := by decide +kernel
theorem dL_law_324 : decode cL_law 324 = .ok (.bipush 7, 2) := by decide +kernel
theorem dL_law_326 : decode cL_law 326 = .ok (.irem, 1) := by decide +kernel
theorem dL_law_327 : decode cL_law 327 = .ok (.invokevirtual 119, 3) := by decide +kernel
theorem dL_law_330 : decode cL_law 330 = .ok (.iconst 1, 1) := by decide +kernel
theorem dL_law_331 : decode cL_law 331 = .ok (.if_icmp .eq 5, 3) := by decide +kernel
theorem dL_law_334 : decode cL_law 334 = .ok (.iconst 0, 1) := by decide +kernel
theorem dL_law_335 : decode cL_law 335 = .ok (.ireturn, 1) := by decide +kernel
theorem dL_law_336 : decode cL_law 336 = .ok (.aload_n 1, 1) := by decide +kernel
theorem dL_law_337 : decode cL_law 337 = .ok (.iload_n 3, 1) := by decide +kernel
theorem dL_law_338 : decode cL_law 338 = .ok (.iload 4, 2) := by decide +kernel
theorem dL_law_340 : decode cL_law 340 = .ok (.iload 5, 2) := by decide +kernel
theorem dL_law_342 : decode cL_law 342 = .ok (.invokestatic 125, 3) := by decide +kernel
theorem dL_law_345 : decode cL_law 345 = .ok (.ifCond .ne 5, 3) := by decide +kernel
theorem dL_law_348 : decode cL_law 348 = .ok (.iconst 0, 1) := by decide +kernel
theorem dL_law_349 : decode cL_law 349 = .ok (.ireturn, 1) := by decide +kernel
theorem dL_law_350 : decode cL_law 350 = .ok (.iinc 6 1, 3) := by decide +kernel
theorem dL_law_353 : decode cL_law 353 = .ok (.goto (-307), 3) := by decide +kernel
theorem dL_law_356 : decode cL_law 356 = .ok (.aload_n 1, 1) := by decide +kernel
theorem dL_law_357 : decode cL_law 357 = .ok (.iconst 0, 1) := by decide +kernel
theorem dL_law_358 : decode cL_law 358 = .ok (.invokevirtual 129, 3) := by decide +kernel
theorem dL_law_361 : decode cL_law 361 = .ok (.ifCond .lt 15, 3) := by decide +kernel
theorem dL_law_364 : decode cL_law 364 = .ok (.aload_n 1, 1) := by decide +kernel
theorem dL_law_365 : decode cL_law 365 = .ok (.iconst 4, 1) := by decide +kernel
theorem dL_law_366 : decode cL_law 366 = .ok (.invokevirtual 132, 3) := by decide +kernel
theorem dL_law_369 : decode cL_law 369 = .ok (.iload 4, 2) := by decide +kernel
theorem dL_law_371 : decode cL_law 371 = .ok (.iconst 1, 1) := by decide +kernel
theorem dL_law_372 : decode cL_law 372 = .ok (.iadd, 1) := by decide +kernel
theorem dL_law_373 : decode cL_law 373 = .ok (.if_icmp .eq 5, 3) := by decide +kernel
theorem dL_law_376 : decode cL_law 376 = .ok (.iconst 0, 1) := by decide +kernel
theorem dL_law_377 : decode cL_law 377 = .ok (.ireturn, 1) := by decide +kernel
theorem dL_law_378 : decode cL_law 378 = .ok (.aload_n 1, 1) := by decide +kernel
theorem dL_law_379 : decode cL_law 379 = .ok (.invokevirtual 135, 3) := by decide +kernel
theorem dL_law_382 : decode cL_law 382 = .ok (.istore 6, 2) := by decide +kernel
theorem dL_law_384 : decode cL_law 384 = .ok (.aload_n 1, 1) := by decide +kernel
theorem dL_law_385 : decode cL_law 385 = .ok (.invokevirtual 83, 3) := by decide +kernel
theorem dL_law_388 : decode cL_law 388 = .ok (.istore 7, 2) := by decide +kernel
theorem dL_law_390 : decode cL_law 390 = .ok (.iload 6, 2) := by decide +kernel
theorem dL_law_392 : decode cL_law 392 = .ok (.iconst 1, 1) := by decide +kernel
theorem dL_law_393 : decode cL_law 393 = .ok (.if_icmp .lt 50, 3) := by decide +kernel
theorem dL_law_396 : decode cL_law 396 = .ok (.iload 7, 2) := by decide +kernel
theorem dL_law_398 : decode cL_law 398 = .ok (.iload 6, 2) := by decide +kernel
theorem dL_law_400 : decode cL_law 400 = .ok (.if_icmp .ge 43, 3) := by decide +kernel
theorem dL_law_403 : decode cL_law 403 = .ok (.aload_n 1, 1) := by decide +kernel
theorem dL_law_404 : decode cL_law 404 = .ok (.aload_n 0, 1) := by decide +kernel
theorem dL_law_405 : decode cL_law 405 = .ok (.iload_n 3, 1) := by decide +kernel
theorem dL_law_406 : decode cL_law 406 = .ok (.iload 4, 2) := by decide +kernel
theorem dL_law_408 : decode cL_law 408 = .ok (.iload 7, 2) := by decide +kernel
theorem dL_law_410 : decode cL_law 410 = .ok (.invokestatic 138, 3) := by decide +kernel
theorem dL_law_413 : decode cL_law 413 = .ok (.ifCond .eq 30, 3) := by decide +kernel
theorem dL_law_416 : decode cL_law 416 = .ok (.aload_n 1, 1) := by decide +kernel
theorem dL_law_417 : decode cL_law 417 = .ok (.iconst 4, 1) := by decide +kernel
theorem dL_law_418 : decode cL_law 418 = .ok (.invokevirtual 142, 3) := by decide +kernel
theorem dL_law_421 : decode cL_law 421 = .ok (.iconst 1, 1) := by decide +kernel
theorem dL_law_422 : decode cL_law 422 = .ok (.if_icmp .ne 21, 3) := by decide +kernel
theorem dL_law_425 : decode cL_law 425 = .ok (.aload_n 1, 1) := by decide +kernel
theorem dL_law_426 : decode cL_law 426 = .ok (.invokevirtual 135, 3) := by decide +kernel
theorem dL_law_429 : decode cL_law 429 = .ok (.iload 6, 2) := by decide +kernel
theorem dL_law_431 : decode cL_law 431 = .ok (.if_icmp .ne 12, 3) := by decide +kernel
theorem dL_law_434 : decode cL_law 434 = .ok (.aload_n 1, 1) := by decide +kernel
theorem dL_law_435 : decode cL_law 435 = .ok (.invokevirtual 83, 3) := by decide +kernel
theorem dL_law_438 : decode cL_law 438 = .ok (.iload 7, 2) := by decide +kernel
theorem dL_law_440 : decode cL_law 440 = .ok (.if_icmp .eq 5, 3) := by decide +kernel
theorem dL_law_443 : decode cL_law 443 = .ok (.iconst 0, 1) := by decide +kernel
theorem dL_law_444 : decode cL_law 444 = .ok (.ireturn, 1) := by decide +kernel
theorem dL_law_445 : decode cL_law 445 = .ok (.iconst 0, 1) := by decide +kernel
theorem dL_law_446 : decode cL_law 446 = .ok (.istore 8, 2) := by decide +kernel
theorem dL_law_448 : decode cL_law 448 = .ok (.iconst 0, 1) := by decide +kernel
theorem dL_law_449 : decode cL_law 449 = .ok (.istore 9, 2) := by decide +kernel
theorem dL_law_451 : decode cL_law 451 = .ok (.iload 9, 2) := by decide +kernel
theorem dL_law_453 : decode cL_law 453 = .ok (.aload_n 2, 1) := by decide +kernel
theorem dL_law_454 : decode cL_law 454 = .ok (.bipush 12, 2) := by decide +kernel
theorem dL_law_456 : decode cL_law 456 = .ok (.iaload, 1) := by decide +kernel
theorem dL_law_457 : decode cL_law 457 = .ok (.if_icmp .ge 75, 3) := by decide +kernel
theorem dL_law_460 : decode cL_law 460 = .ok (.aload_n 1, 1) := by decide +kernel
theorem dL_law_461 : decode cL_law 461 = .ok (.iload 9, 2) := by decide +kernel
theorem dL_law_463 : decode cL_law 463 = .ok (.invokevirtual 145, 3) := by decide +kernel
theorem dL_law_466 : decode cL_law 466 = .ok (.istore 10, 2) := by decide +kernel
theorem dL_law_468 : decode cL_law 468 = .ok (.iload 8, 2) := by decide +kernel
theorem dL_law_470 : decode cL_law 470 = .ok (.aload_n 2, 1) := by decide +kernel
theorem dL_law_471 : decode cL_law 471 = .ok (.bipush 16, 2) := by decide +kernel
theorem dL_law_473 : decode cL_law 473 = .ok (.iconst 4, 1) := by decide +kernel
theorem dL_law_474 : decode cL_law 474 = .ok (.iload 9, 2) := by decide +kernel
theorem dL_law_476 : decode cL_law 476 = .ok (.imul, 1) := by decide +kernel
theorem dL_law_477 : decode cL_law 477 = .ok (.iadd, 1) := by decide +kernel
theorem dL_law_478 : decode cL_law 478 = .ok (.iaload, 1) := by decide +kernel
theorem dL_law_479 : decode cL_law 479 = .ok (.iadd, 1) := by decide +kernel
theorem dL_law_480 : decode cL_law 480 = .ok (.istore 8, 2) := by decide +kernel
theorem dL_law_482 : decode cL_law 482 = .ok (.aload_n 1, 1) := by decide +kernel
theorem dL_law_483 : decode cL_law 483 = .ok (.invokevirtual 148, 3) := by decide +kernel
theorem dL_law_486 : decode cL_law 486 = .ok (.istore 11, 2) := by decide +kernel
theorem dL_law_488 : decode cL_law 488 = .ok (.iload 10, 2) := by decide +kernel
theorem dL_law_490 : decode cL_law 490 = .ok (.ifCond .ne 7, 3) := by decide +kernel
theorem dL_law_493 : decode cL_law 493 = .ok (.iconst 1, 1) := by decide +kernel
theorem dL_law_494 : decode cL_law 494 = .ok (.goto 4, 3) := by decide +kernel
theorem dL_law_497 : decode cL_law 497 = .ok (.iconst 0, 1) := by decide +kernel
theorem dL_law_498 : decode cL_law 498 = .ok (.iload 11, 2) := by decide +kernel
theorem dL_law_500 : decode cL_law 500 = .ok (.iload 9, 2) := by decide +kernel
theorem dL_law_502 : decode cL_law 502 = .ok (.ishr, 1) := by decide +kernel
theorem dL_law_503 : decode cL_law 503 = .ok (.iconst 1, 1) := by decide +kernel
theorem dL_law_504 : decode cL_law 504 = .ok (.iand, 1) := by decide +kernel
theorem dL_law_505 : decode cL_law 505 = .ok (.iconst 1, 1) := by decide +kernel
theorem dL_law_506 : decode cL_law 506 = .ok (.if_icmp .ne 7, 3) := by decide +kernel
theorem dL_law_509 : decode cL_law 509 = .ok (.iconst 1, 1) := by decide +kernel
theorem dL_law_510 : decode cL_law 510 = .ok (.goto 4, 3) := by decide +kernel
theorem dL_law_513 : decode cL_law 513 = .ok (.iconst 0, 1) := by decide +kernel
theorem dL_law_514 : decode cL_law 514 = .ok (.if_icmp .ne 10, 3) := by decide +kernel
theorem dL_law_517 : decode cL_law 517 = .ok (.iload 10, 2) := by decide +kernel
theorem dL_law_519 : decode cL_law 519 = .ok (.iload 7, 2) := by decide +kernel
theorem dL_law_521 : decode cL_law 521 = .ok (.if_icmp .le 5, 3) := by decide +kernel
theorem dL_law_524 : decode cL_law 524 = .ok (.iconst 0, 1) := by decide +kernel
theorem dL_law_525 : decode cL_law 525 = .ok (.ireturn, 1) := by decide +kernel
theorem dL_law_526 : decode cL_law 526 = .ok (.iinc 9 1, 3) := by decide +kernel
theorem dL_law_529 : decode cL_law 529 = .ok (.goto (-78), 3) := by decide +kernel
theorem dL_law_532 : decode cL_law 532 = .ok (.iconst (-1), 1) := by decide +kernel
theorem dL_law_533 : decode cL_law 533 = .ok (.istore 9, 2) := by decide +kernel
theorem dL_law_535 : decode cL_law 535 = .ok (.iconst 0, 1) := by decide +kernel
theorem dL_law_536 : decode cL_law 536 = .ok (.istore 10, 2) := by decide +kernel
theorem dL_law_538 : decode cL_law 538 = .ok (.iload 10, 2) := by decide +kernel
theorem dL_law_540 : decode cL_law 540 = .ok (.iconst 3, 1) := by decide +kernel
theorem dL_law_541 : decode cL_law 541 = .ok (.if_icmp .ge 87, 3) := by decide +kernel
theorem dL_law_544 : decode cL_law 544 = .ok (.aload_n 1, 1) := by decide +kernel
theorem dL_law_545 : decode cL_law 545 = .ok (.iload 10, 2) := by decide +kernel
theorem dL_law_547 : decode cL_law 547 = .ok (.invokevirtual 151, 3) := by decide +kernel
theorem dL_law_550 : decode cL_law 550 = .ok (.istore 11, 2) := by decide +kernel
theorem dL_law_552 : decode cL_law 552 = .ok (.aload_n 1, 1) := by decide +kernel
theorem dL_law_553 : decode cL_law 553 = .ok (.invokevirtual 83, 3) := by decide +kernel
theorem dL_law_556 : decode cL_law 556 = .ok (.iload 8, 2) := by decide +kernel
theorem dL_law_558 : decode cL_law 558 = .ok (.if_icmp .ne 58, 3) := by decide +kernel
theorem dL_law_561 : decode cL_law 561 = .ok (.iload 11, 2) := by decide +kernel
theorem dL_law_563 : decode cL_law 563 = .ok (.iload 9, 2) := by decide +kernel
theorem dL_law_565 : decode cL_law 565 = .ok (.if_icmp .lt 51, 3) := by decide +kernel
theorem dL_law_568 : decode cL_law 568 = .ok (.iload 11, 2) := by decide +kernel
theorem dL_law_570 : decode cL_law 570 = .ok (.iload 8, 2) := by decide +kernel
theorem dL_law_572 : decode cL_law 572 = .ok (.if_icmp .gt 44, 3) := by decide +kernel
theorem dL_law_575 : decode cL_law 575 = .ok (.aload_n 1, 1) := by decide +kernel
theorem dL_law_576 : decode cL_law 576 = .ok (.iload 10, 2) := by decide +kernel
theorem dL_law_578 : decode cL_law 578 = .ok (.invokevirtual 154, 3) := by decide +kernel
theorem dL_law_581 : decode cL_law 581 = .ok (.ifCond .lt 35, 3) := by decide +kernel
theorem dL_law_584 : decode cL_law 584 = .ok (.aload_n 1, 1) := by decide +kernel
theorem dL_law_585 : decode cL_law 585 = .ok (.iconst 3, 1) := by decide +kernel
theorem dL_law_586 : decode cL_law 586 = .ok (.iload 10, 2) := by decide +kernel
theorem dL_law_588 : decode cL_law 588 = .ok (.invokevirtual 157, 3) := by decide +kernel
theorem dL_law_591 : decode cL_law 591 = .ok (.iload 11, 2) := by decide +kernel
theorem dL_law_593 : decode cL_law 593 = .ok (.if_icmp .ne 23, 3) := by decide +kernel
theorem dL_law_596 : decode cL_law 596 = .ok (.aload_n 1, 1) := by decide +kernel
theorem dL_law_597 : decode cL_law 597 = .ok (.bipush 6, 2) := by decide +kernel
theorem dL_law_599 : decode cL_law 599 = .ok (.iload 10, 2) := by decide +kernel
theorem dL_law_601 : decode cL_law 601 = .ok (.invokevirtual 157, 3) := by decide +kernel
theorem dL_law_604 : decode cL_law 604 = .ok (.iload 11, 2) := by decide +kernel
theorem dL_law_606 : decode cL_law 606 = .ok (.aload_n 1, 1) := by decide +kernel
theorem dL_law_607 : decode cL_law 607 = .ok (.iload 10, 2) := by decide +kernel
theorem dL_law_609 : decode cL_law 609 = .ok (.invokevirtual 154, 3) := by decide +kernel
theorem dL_law_612 : decode cL_law 612 = .ok (.iadd, 1) := by decide +kernel
theorem dL_law_613 : decode cL_law 613 = .ok (.if_icmp .ge 5, 3) := by decide +kernel
theorem dL_law_616 : decode cL_law 616 = .ok (.iconst 0, 1) := by decide +kernel
theorem dL_law_617 : decode cL_law 617 = .ok (.ireturn, 1) := by decide +kernel
theorem dL_law_618 : decode cL_law 618 = .ok (.iload 11, 2) := by decide +kernel
theorem dL_law_620 : decode cL_law 620 = .ok (.istore 9, 2) := by decide +kernel
theorem dL_law_622 : decode cL_law 622 = .ok (.iinc 10 1, 3) := by decide +kernel
theorem dL_law_625 : decode cL_law 625 = .ok (.goto (-87), 3) := by decide +kernel
theorem dL_law_628 : decode cL_law 628 = .ok (.aload_n 1, 1) := by decide +kernel
theorem dL_law_629 : decode cL_law 629 = .ok (.iload_n 3, 1) := by decide +kernel
theorem dL_law_630 : decode cL_law 630 = .ok (.iload 4, 2) := by decide +kernel
theorem dL_law_632 : decode cL_law 632 = .ok (.invokestatic 160, 3) := by decide +kernel
theorem dL_law_635 : decode cL_law 635 = .ok (.ifCond .eq 49, 3) := by decide +kernel
theorem dL_law_638 : decode cL_law 638 = .ok (.aload_n 1, 1) := by decide +kernel
theorem dL_law_639 : decode cL_law 639 = .ok (.aload_n 0, 1) := by decide +kernel
theorem dL_law_640 : decode cL_law 640 = .ok (.iload 4, 2) := by decide +kernel
theorem dL_law_642 : decode cL_law 642 = .ok (.aload_n 2, 1) := by decide +kernel
theorem dL_law_643 : decode cL_law 643 = .ok (.bipush 12, 2) := by decide +kernel
theorem dL_law_645 : decode cL_law 645 = .ok (.iaload, 1) := by decide +kernel
theorem dL_law_646 : decode cL_law 646 = .ok (.invokestatic 164, 3) := by decide +kernel
theorem dL_law_649 : decode cL_law 649 = .ok (.ifCond .eq 35, 3) := by decide +kernel
theorem dL_law_652 : decode cL_law 652 = .ok (.aload_n 1, 1) := by decide +kernel
theorem dL_law_653 : decode cL_law 653 = .ok (.iconst 0, 1) := by decide +kernel
theorem dL_law_654 : decode cL_law 654 = .ok (.invokevirtual 168, 3) := by decide +kernel
theorem dL_law_657 : decode cL_law 657 = .ok (.iconst 1, 1) := by decide +kernel
theorem dL_law_658 : decode cL_law 658 = .ok (.if_icmp .ne 26, 3) := by decide +kernel
theorem dL_law_661 : decode cL_law 661 = .ok (.aload_n 1, 1) := by decide +kernel
theorem dL_law_662 : decode cL_law 662 = .ok (.iconst 3, 1) := by decide +kernel
theorem dL_law_663 : decode cL_law 663 = .ok (.invokevirtual 116, 3) := by decide +kernel
theorem dL_law_666 : decode cL_law 666 = .ok (.ifCond .ne 18, 3) := by decide +kernel
theorem dL_law_669 : decode cL_law 669 = .ok (.aload_n 1, 1) := by decide +kernel
theorem dL_law_670 : decode cL_law 670 = .ok (.iload_n 3, 1) := by decide +kernel
theorem dL_law_671 : decode cL_law 671 = .ok (.iload 4, 2) := by decide +kernel
theorem dL_law_673 : decode cL_law 673 = .ok (.iconst 3, 1) := by decide +kernel
theorem dL_law_674 : decode cL_law 674 = .ok (.invokestatic 125, 3) := by decide +kernel
theorem dL_law_677 : decode cL_law 677 = .ok (.ifCond .eq 7, 3) := by decide +kernel
theorem dL_law_680 : decode cL_law 680 = .ok (.iconst 1, 1) := by decide +kernel
theorem dL_law_681 : decode cL_law 681 = .ok (.goto 4, 3) := by decide +kernel
theorem dL_law_684 : decode cL_law 684 = .ok (.iconst 0, 1) := by decide +kernel
theorem dL_law_685 : decode cL_law 685 = .ok (.ireturn, 1) := by decide +kernel
theorem dL_within_0 : decode cL_within 0 = .ok (.iconst 0, 1) := by decide +kernel
theorem dL_within_1 : decode cL_within 1 = .ok (.istore 4, 2) := by decide +kernel
theorem dL_within_3 : decode cL_within 3 = .ok (.iconst 0, 1) := by decide +kernel
theorem dL_within_4 : decode cL_within 4 = .ok (.istore 5, 2) := by decide +kernel
theorem dL_within_6 : decode cL_within 6 = .ok (.iload 5, 2) := by decide +kernel
theorem dL_within_8 : decode cL_within 8 = .ok (.iload_n 1, 1) := by decide +kernel
theorem dL_within_9 : decode cL_within 9 = .ok (.if_icmp .ge 108, 3) := by decide +kernel
theorem dL_within_12 : decode cL_within 12 = .ok (.aload_n 0, 1) := by decide +kernel
theorem dL_within_13 : decode cL_within 13 = .ok (.iload 5, 2) := by decide +kernel
theorem dL_within_15 : decode cL_within 15 = .ok (.invokevirtual 94, 3) := by decide +kernel
theorem dL_within_18 : decode cL_within 18 = .ok (.istore 6, 2) := by decide +kernel
theorem dL_within_20 : decode cL_within 20 = .ok (.aload_n 0, 1) := by decide +kernel
theorem dL_within_21 : decode cL_within 21 = .ok (.invokevirtual 83, 3) := by decide +kernel
theorem dL_within_24 : decode cL_within 24 = .ok (.istore 7, 2) := by decide +kernel
theorem dL_within_26 : decode cL_within 26 = .ok (.iload 6, 2) := by decide +kernel
theorem dL_within_28 : decode cL_within 28 = .ok (.ifCond .lt 17, 3) := by decide +kernel
theorem dL_within_31 : decode cL_within 31 = .ok (.iload 6, 2) := by decide +kernel
theorem dL_within_33 : decode cL_within 33 = .ok (.iload_n 3, 1) := by decide +kernel
theorem dL_within_34 : decode cL_within 34 = .ok (.if_icmp .gt 11, 3) := by decide +kernel
theorem dL_within_37 : decode cL_within 37 = .ok (.iload 7, 2) := by decide +kernel
theorem dL_within_39 : decode cL_within 39 = .ok (.iload 4, 2) := by decide +kernel
theorem dL_within_41 : decode cL_within 41 = .ok (.iand, 1) := by decide +kernel
theorem dL_within_42 : decode cL_within 42 = .ok (.ifCond .eq 5, 3) := by decide +kernel
theorem dL_within_45 : decode cL_within 45 = .ok (.iconst 0, 1) := by decide +kernel
theorem dL_within_46 : decode cL_within 46 = .ok (.ireturn, 1) := by decide +kernel
theorem dL_within_47 : decode cL_within 47 = .ok (.iload 4, 2) := by decide +kernel
theorem dL_within_49 : decode cL_within 49 = .ok (.iload 7, 2) := by decide +kernel
theorem dL_within_51 : decode cL_within 51 = .ok (.ior, 1) := by decide +kernel
theorem dL_within_52 : decode cL_within 52 = .ok (.istore 4, 2) := by decide +kernel
theorem dL_within_54 : decode cL_within 54 = .ok (.iconst 0, 1) := by decide +kernel
theorem dL_within_55 : decode cL_within 55 = .ok (.istore 8, 2) := by decide +kernel
theorem dL_within_57 : decode cL_within 57 = .ok (.iload 8, 2) := by decide +kernel
theorem dL_within_59 : decode cL_within 59 = .ok (.iload_n 2, 1) := by decide +kernel
theorem dL_within_60 : decode cL_within 60 = .ok (.if_icmp .ge 51, 3) := by decide +kernel
theorem dL_within_63 : decode cL_within 63 = .ok (.aload_n 0, 1) := by decide +kernel
theorem dL_within_64 : decode cL_within 64 = .ok (.aload_n 0, 1) := by decide +kernel
theorem dL_within_65 : decode cL_within 65 = .ok (.iload 8, 2) := by decide +kernel
theorem dL_within_67 : decode cL_within 67 = .ok (.iconst 3, 1) := by decide +kernel
theorem dL_within_68 : decode cL_within 68 = .ok (.invokevirtual 87, 3) := by decide +kernel
theorem dL_within_71 : decode cL_within 71 = .ok (.invokestatic 90, 3) := by decide +kernel
theorem dL_within_74 : decode cL_within 74 = .ok (.iload 5, 2) := by decide +kernel
theorem dL_within_76 : decode cL_within 76 = .ok (.if_icmp .ne 7, 3) := by decide +kernel
theorem dL_within_79 : decode cL_within 79 = .ok (.iconst 1, 1) := by decide +kernel
theorem dL_within_80 : decode cL_within 80 = .ok (.goto 4, 3) := by decide +kernel
theorem dL_within_83 : decode cL_within 83 = .ok (.iconst 0, 1) := by decide +kernel
theorem dL_within_84 : decode cL_within 84 = .ok (.iload 7, 2) := by decide +kernel
theorem dL_within_86 : decode cL_within 86 = .ok (.iload 8, 2) := by decide +kernel
theorem dL_within_88 : decode cL_within 88 = .ok (.ishr, 1) := by decide +kernel
theorem dL_within_89 : decode cL_within 89 = .ok (.iconst 1, 1) := by decide +kernel
theorem dL_within_90 : decode cL_within 90 = .ok (.iand, 1) := by decide +kernel
theorem dL_within_91 : decode cL_within 91 = .ok (.iconst 1, 1) := by decide +kernel
theorem dL_within_92 : decode cL_within 92 = .ok (.if_icmp .ne 7, 3) := by decide +kernel
theorem dL_within_95 : decode cL_within 95 = .ok (.iconst 1, 1) := by decide +kernel
theorem dL_within_96 : decode cL_within 96 = .ok (.goto 4, 3) := by decide +kernel
theorem dL_within_99 : decode cL_within 99 = .ok (.iconst 0, 1) := by decide +kernel
theorem dL_within_100 : decode cL_within 100 = .ok (.if_icmp .eq 5, 3) := by decide +kernel
theorem dL_within_103 : decode cL_within 103 = .ok (.iconst 0, 1) := by decide +kernel
theorem dL_within_104 : decode cL_within 104 = .ok (.ireturn, 1) := by decide +kernel
theorem dL_within_105 : decode cL_within 105 = .ok (.iinc 8 1, 3) := by decide +kernel
theorem dL_within_108 : decode cL_within 108 = .ok (.goto (-51), 3) := by decide +kernel
theorem dL_within_111 : decode cL_within 111 = .ok (.iinc 5 1, 3) := by decide +kernel
theorem dL_within_114 : decode cL_within 114 = .ok (.goto (-108), 3) := by decide +kernel
theorem dL_within_117 : decode cL_within 117 = .ok (.iconst (-1), 1) := by decide +kernel
theorem dL_within_118 : decode cL_within 118 = .ok (.istore 5, 2) := by decide +kernel
theorem dL_within_120 : decode cL_within 120 = .ok (.iconst (-1), 1) := by decide +kernel
theorem dL_within_121 : decode cL_within 121 = .ok (.istore 6, 2) := by decide +kernel
theorem dL_within_123 : decode cL_within 123 = .ok (.iconst 0, 1) := by decide +kernel
theorem dL_within_124 : decode cL_within 124 = .ok (.istore 7, 2) := by decide +kernel
theorem dL_within_126 : decode cL_within 126 = .ok (.iload 7, 2) := by decide +kernel
theorem dL_within_128 : decode cL_within 128 = .ok (.iload_n 2, 1) := by decide +kernel
theorem dL_within_129 : decode cL_within 129 = .ok (.if_icmp .ge 71, 3) := by decide +kernel
theorem dL_within_132 : decode cL_within 132 = .ok (.aload_n 0, 1) := by decide +kernel
theorem dL_within_133 : decode cL_within 133 = .ok (.aload_n 0, 1) := by decide +kernel
theorem dL_within_134 : decode cL_within 134 = .ok (.iload 7, 2) := by decide +kernel
theorem dL_within_136 : decode cL_within 136 = .ok (.iconst 0, 1) := by decide +kernel
theorem dL_within_137 : decode cL_within 137 = .ok (.invokevirtual 87, 3) := by decide +kernel
theorem dL_within_140 : decode cL_within 140 = .ok (.invokestatic 90, 3) := by decide +kernel
theorem dL_within_143 : decode cL_within 143 = .ok (.istore 8, 2) := by decide +kernel
theorem dL_within_145 : decode cL_within 145 = .ok (.iload 8, 2) := by decide +kernel
theorem dL_within_147 : decode cL_within 147 = .ok (.invokestatic 20, 3) := by decide +kernel
theorem dL_within_150 : decode cL_within 150 = .ok (.ifCond .eq 18, 3) := by decide +kernel
theorem dL_within_153 : decode cL_within 153 = .ok (.iload 5, 2) := by decide +kernel
theorem dL_within_155 : decode cL_within 155 = .ok (.ifCond .lt 13, 3) := by decide +kernel
theorem dL_within_158 : decode cL_within 158 = .ok (.iload 6, 2) := by decide +kernel
theorem dL_within_160 : decode cL_within 160 = .ok (.ifCond .ge 8, 3) := by decide +kernel
theorem dL_within_163 : decode cL_within 163 = .ok (.iload 7, 2) := by decide +kernel
theorem dL_within_165 : decode cL_within 165 = .ok (.goto 5, 3) := by decide +kernel
theorem dL_within_168 : decode cL_within 168 = .ok (.iload 6, 2) := by decide +kernel
theorem dL_within_170 : decode cL_within 170 = .ok (.istore 6, 2) := by decide +kernel
theorem dL_within_172 : decode cL_within 172 = .ok (.iload 8, 2) := by decide +kernel
theorem dL_within_174 : decode cL_within 174 = .ok (.invokestatic 20, 3) := by decide +kernel
theorem dL_within_177 : decode cL_within 177 = .ok (.ifCond .eq 13, 3) := by decide +kernel
theorem dL_within_180 : decode cL_within 180 = .ok (.iload 5, 2) := by decide +kernel
theorem dL_within_182 : decode cL_within 182 = .ok (.ifCond .ge 8, 3) := by decide +kernel
theorem dL_within_185 : decode cL_within 185 = .ok (.iload 7, 2) := by decide +kernel
theorem dL_within_187 : decode cL_within 187 = .ok (.goto 5, 3) := by decide +kernel
theorem dL_within_190 : decode cL_within 190 = .ok (.iload 5, 2) := by decide +kernel
theorem dL_within_192 : decode cL_within 192 = .ok (.istore 5, 2) := by decide +kernel
theorem dL_within_194 : decode cL_within 194 = .ok (.iinc 7 1, 3) := by decide +kernel
theorem dL_within_197 : decode cL_within 197 = .ok (.goto (-71), 3) := by decide +kernel
theorem dL_within_200 : decode cL_within 200 = .ok (.iconst 0, 1) := by decide +kernel
theorem dL_within_201 : decode cL_within 201 = .ok (.istore 7, 2) := by decide +kernel
theorem dL_within_203 : decode cL_within 203 = .ok (.iload 7, 2) := by decide +kernel
theorem dL_within_205 : decode cL_within 205 = .ok (.iload_n 2, 1) := by decide +kernel
theorem dL_within_206 : decode cL_within 206 = .ok (.if_icmp .ge 135, 3) := by decide +kernel
theorem dL_within_209 : decode cL_within 209 = .ok (.aload_n 0, 1) := by decide +kernel
theorem dL_within_210 : decode cL_within 210 = .ok (.aload_n 0, 1) := by decide +kernel
theorem dL_within_211 : decode cL_within 211 = .ok (.iload 7, 2) := by decide +kernel
theorem dL_within_213 : decode cL_within 213 = .ok (.iconst 1, 1) := by decide +kernel
theorem dL_within_214 : decode cL_within 214 = .ok (.invokevirtual 87, 3) := by decide +kernel
theorem dL_within_217 : decode cL_within 217 = .ok (.invokestatic 90, 3) := by decide +kernel
theorem dL_within_220 : decode cL_within 220 = .ok (.istore 8, 2) := by decide +kernel
theorem dL_within_222 : decode cL_within 222 = .ok (.aload_n 0, 1) := by decide +kernel
theorem dL_within_223 : decode cL_within 223 = .ok (.aload_n 0, 1) := by decide +kernel
theorem dL_within_224 : decode cL_within 224 = .ok (.iload 7, 2) := by decide +kernel
theorem dL_within_226 : decode cL_within 226 = .ok (.iconst 3, 1) := by decide +kernel
theorem dL_within_227 : decode cL_within 227 = .ok (.invokevirtual 87, 3) := by decide +kernel
theorem dL_within_230 : decode cL_within 230 = .ok (.invokestatic 90, 3) := by decide +kernel
theorem dL_within_233 : decode cL_within 233 = .ok (.istore 9, 2) := by decide +kernel
theorem dL_within_235 : decode cL_within 235 = .ok (.iload 9, 2) := by decide +kernel
theorem dL_within_237 : decode cL_within 237 = .ok (.iconst 4, 1) := by decide +kernel
theorem dL_within_238 : decode cL_within 238 = .ok (.if_icmp .ne 14, 3) := by decide +kernel
theorem dL_within_241 : decode cL_within 241 = .ok (.iload 4, 2) := by decide +kernel
theorem dL_within_243 : decode cL_within 243 = .ok (.iload 7, 2) := by decide +kernel
theorem dL_within_245 : decode cL_within 245 = .ok (.ishr, 1) := by decide +kernel
theorem dL_within_246 : decode cL_within 246 = .ok (.iconst 1, 1) := by decide +kernel
theorem dL_within_247 : decode cL_within 247 = .ok (.iand, 1) := by decide +kernel
theorem dL_within_248 : decode cL_within 248 = .ok (.iconst 1, 1) := by decide +kernel
theorem dL_within_249 : decode cL_within 249 = .ok (.if_icmp .eq 84, 3) := by decide +kernel
theorem dL_within_252 : decode cL_within 252 = .ok (.iload 8, 2) := by decide +kernel
theorem dL_within_254 : decode cL_within 254 = .ok (.iconst 5, 1) := by decide +kernel
theorem dL_within_255 : decode cL_within 255 = .ok (.if_icmp .ge 10, 3) := by decide +kernel
theorem dL_within_258 : decode cL_within 258 = .ok (.iload 8, 2) := by decide +kernel
theorem dL_within_260 : decode cL_within 260 = .ok (.iload 9, 2) := by decide +kernel
theorem dL_within_262 : decode cL_within 262 = .ok (.if_icmp .ne 71, 3) := by decide +kernel
theorem dL_within_265 : decode cL_within 265 = .ok (.iload 8, 2) := by decide +kernel
theorem dL_within_267 : decode cL_within 267 = .ok (.iconst 5, 1) := by decide +kernel
theorem dL_within_268 : decode cL_within 268 = .ok (.if_icmp .ne 19, 3) := by decide +kernel
theorem dL_within_271 : decode cL_within 271 = .ok (.aload_n 0, 1) := by decide +kernel
theorem dL_within_272 : decode cL_within 272 = .ok (.aload_n 0, 1) := by decide +kernel
theorem dL_within_273 : decode cL_within 273 = .ok (.iload 5, 2) := by decide +kernel
theorem dL_within_275 : decode cL_within 275 = .ok (.iconst 1, 1) := by decide +kernel
theorem dL_within_276 : decode cL_within 276 = .ok (.invokevirtual 87, 3) := by decide +kernel
theorem dL_within_279 : decode cL_within 279 = .ok (.invokestatic 90, 3) := by decide +kernel
theorem dL_within_282 : decode cL_within 282 = .ok (.iload 9, 2) := by decide +kernel
theorem dL_within_284 : decode cL_within 284 = .ok (.if_icmp .ne 49, 3) := by decide +kernel
theorem dL_within_287 : decode cL_within 287 = .ok (.iload 8, 2) := by decide +kernel
theorem dL_within_289 : decode cL_within 289 = .ok (.bipush 6, 2) := by decide +kernel
theorem dL_within_291 : decode cL_within 291 = .ok (.if_icmp .ne 19, 3) := by decide +kernel
theorem dL_within_294 : decode cL_within 294 = .ok (.aload_n 0, 1) := by decide +kernel
theorem dL_within_295 : decode cL_within 295 = .ok (.aload_n 0, 1) := by decide +kernel
theorem dL_within_296 : decode cL_within 296 = .ok (.iload 6, 2) := by decide +kernel
theorem dL_within_298 : decode cL_within 298 = .ok (.iconst 1, 1) := by decide +kernel
theorem dL_within_299 : decode cL_within 299 = .ok (.invokevirtual 87, 3) := by decide +kernel
theorem dL_within_302 : decode cL_within 302 = .ok (.invokestatic 90, 3) := by decide +kernel
theorem dL_within_305 : decode cL_within 305 = .ok (.iload 9, 2) := by decide +kernel
theorem dL_within_307 : decode cL_within 307 = .ok (.if_icmp .ne 26, 3) := by decide +kernel
theorem dL_within_310 : decode cL_within 310 = .ok (.aload_n 0, 1) := by decide +kernel
theorem dL_within_311 : decode cL_within 311 = .ok (.aload_n 0, 1) := by decide +kernel
theorem dL_within_312 : decode cL_within 312 = .ok (.iload 7, 2) := by decide +kernel
theorem dL_within_314 : decode cL_within 314 = .ok (.iconst 0, 1) := by decide +kernel
theorem dL_within_315 : decode cL_within 315 = .ok (.invokevirtual 87, 3) := by decide +kernel
theorem dL_within_318 : decode cL_within 318 = .ok (.invokestatic 90, 3) := by decide +kernel
theorem dL_within_321 : decode cL_within 321 = .ok (.invokestatic 28, 3) := by decide +kernel
theorem dL_within_324 : decode cL_within 324 = .ok (.ifCond .eq 11, 3) := by decide +kernel
theorem dL_within_327 : decode cL_within 327 = .ok (.iload 8, 2) := by decide +kernel
theorem dL_within_329 : decode cL_within 329 = .ok (.iconst 3, 1) := by decide +kernel
theorem dL_within_330 : decode cL_within 330 = .ok (.if_icmp .le 5, 3) := by decide +kernel
theorem dL_within_333 : decode cL_within 333 = .ok (.iconst 0, 1) := by decide +kernel
theorem dL_within_334 : decode cL_within 334 = .ok (.ireturn, 1) := by decide +kernel
theorem dL_within_335 : decode cL_within 335 = .ok (.iinc 7 1, 3) := by decide +kernel
theorem dL_within_338 : decode cL_within 338 = .ok (.goto (-135), 3) := by decide +kernel
theorem dL_within_341 : decode cL_within 341 = .ok (.iconst 1, 1) := by decide +kernel
theorem dL_within_342 : decode cL_within 342 = .ok (.ireturn, 1) := by decide +kernel
theorem dL_wanted_0 : decode cL_wanted 0 = .ok (.aload_n 0, 1) := by decide +kernel
theorem dL_wanted_1 : decode cL_wanted 1 = .ok (.iconst 1, 1) := by decide +kernel
theorem dL_wanted_2 : decode cL_wanted 2 = .ok (.iload_n 3, 1) := by decide +kernel
theorem dL_wanted_3 : decode cL_wanted 3 = .ok (.invokevirtual 171, 3) := by decide +kernel
theorem dL_wanted_6 : decode cL_wanted 6 = .ok (.iload_n 3, 1) := by decide +kernel
theorem dL_wanted_7 : decode cL_wanted 7 = .ok (.if_icmp .eq 5, 3) := by decide +kernel
theorem dL_wanted_10 : decode cL_wanted 10 = .ok (.iconst 0, 1) := by decide +kernel
theorem dL_wanted_11 : decode cL_wanted 11 = .ok (.ireturn, 1) := by decide +kernel
theorem dL_wanted_12 : decode cL_wanted 12 = .ok (.iconst 5, 1) := by decide +kernel
theorem dL_wanted_13 : decode cL_wanted 13 = .ok (.newarray .int, 2) := by decide +kernel
theorem dL_wanted_15 : decode cL_wanted 15 = .ok (.astore 5, 2) := by decide +kernel
theorem dL_wanted_17 : decode cL_wanted 17 = .ok (.iconst 0, 1) := by decide +kernel
theorem dL_wanted_18 : decode cL_wanted 18 = .ok (.istore 6, 2) := by decide +kernel
theorem dL_wanted_20 : decode cL_wanted 20 = .ok (.iload 6, 2) := by decide +kernel
theorem dL_wanted_22 : decode cL_wanted 22 = .ok (.iload_n 3, 1) := by decide +kernel
theorem dL_wanted_23 : decode cL_wanted 23 = .ok (.if_icmp .ge 64, 3) := by decide +kernel
theorem dL_wanted_26 : decode cL_wanted 26 = .ok (.aload_n 1, 1) := by decide +kernel
theorem dL_wanted_27 : decode cL_wanted 27 = .ok (.bipush 80, 2) := by decide +kernel
theorem dL_wanted_29 : decode cL_wanted 29 = .ok (.iload 6, 2) := by decide +kernel
theorem dL_wanted_31 : decode cL_wanted 31 = .ok (.iadd, 1) := by decide +kernel
theorem dL_wanted_32 : decode cL_wanted 32 = .ok (.invokestatic 14, 3) := by decide +kernel
theorem dL_wanted_35 : decode cL_wanted 35 = .ok (.bipush 7, 2) := by decide +kernel
theorem dL_wanted_37 : decode cL_wanted 37 = .ok (.irem, 1) := by decide +kernel
theorem dL_wanted_38 : decode cL_wanted 38 = .ok (.istore 7, 2) := by decide +kernel
theorem dL_wanted_40 : decode cL_wanted 40 = .ok (.aload 5, 2) := by decide +kernel
theorem dL_wanted_42 : decode cL_wanted 42 = .ok (.iload 6, 2) := by decide +kernel
theorem dL_wanted_44 : decode cL_wanted 44 = .ok (.iload 7, 2) := by decide +kernel
theorem dL_wanted_46 : decode cL_wanted 46 = .ok (.iload_n 2, 1) := by decide +kernel
theorem dL_wanted_47 : decode cL_wanted 47 = .ok (.if_icmp .lt 9, 3) := by decide +kernel
theorem dL_wanted_50 : decode cL_wanted 50 = .ok (.iload 7, 2) := by decide +kernel
theorem dL_wanted_52 : decode cL_wanted 52 = .ok (.iconst 4, 1) := by decide +kernel
theorem dL_wanted_53 : decode cL_wanted 53 = .ok (.if_icmp .ne 8, 3) := by decide +kernel
theorem dL_wanted_56 : decode cL_wanted 56 = .ok (.iload 7, 2) := by decide +kernel
theorem dL_wanted_58 : decode cL_wanted 58 = .ok (.goto 4, 3) := by decide +kernel
theorem dL_wanted_61 : decode cL_wanted 61 = .ok (.iconst (-1), 1) := by decide +kernel
theorem dL_wanted_62 : decode cL_wanted 62 = .ok (.iastore, 1) := by decide +kernel
theorem dL_wanted_63 : decode cL_wanted 63 = .ok (.aload_n 0, 1) := by decide +kernel
theorem dL_wanted_64 : decode cL_wanted 64 = .ok (.iconst 1, 1) := by decide +kernel
theorem dL_wanted_65 : decode cL_wanted 65 = .ok (.iload 6, 2) := by decide +kernel
theorem dL_wanted_67 : decode cL_wanted 67 = .ok (.aload 5, 2) := by decide +kernel
theorem dL_wanted_69 : decode cL_wanted 69 = .ok (.iload 6, 2) := by decide +kernel
theorem dL_wanted_71 : decode cL_wanted 71 = .ok (.iaload, 1) := by decide +kernel
theorem dL_wanted_72 : decode cL_wanted 72 = .ok (.invokevirtual 174, 3) := by decide +kernel
theorem dL_wanted_75 : decode cL_wanted 75 = .ok (.iconst 1, 1) := by decide +kernel
theorem dL_wanted_76 : decode cL_wanted 76 = .ok (.if_icmp .eq 5, 3) := by decide +kernel
theorem dL_wanted_79 : decode cL_wanted 79 = .ok (.iconst 0, 1) := by decide +kernel
theorem dL_wanted_80 : decode cL_wanted 80 = .ok (.ireturn, 1) := by decide +kernel
theorem dL_wanted_81 : decode cL_wanted 81 = .ok (.iinc 6 1, 3) := by decide +kernel
theorem dL_wanted_84 : decode cL_wanted 84 = .ok (.goto (-64), 3) := by decide +kernel
theorem dL_wanted_87 : decode cL_wanted 87 = .ok (.aload_n 0, 1) := by decide +kernel
theorem dL_wanted_88 : decode cL_wanted 88 = .ok (.iconst 1, 1) := by decide +kernel
theorem dL_wanted_89 : decode cL_wanted 89 = .ok (.invokevirtual 177, 3) := by decide +kernel
theorem dL_wanted_92 : decode cL_wanted 92 = .ok (.istore 6, 2) := by decide +kernel
theorem dL_wanted_94 : decode cL_wanted 94 = .ok (.aload_n 0, 1) := by decide +kernel
theorem dL_wanted_95 : decode cL_wanted 95 = .ok (.invokevirtual 83, 3) := by decide +kernel
theorem dL_wanted_98 : decode cL_wanted 98 = .ok (.istore 7, 2) := by decide +kernel
theorem dL_wanted_100 : decode cL_wanted 100 = .ok (.aload_n 0, 1) := by decide +kernel
theorem dL_wanted_101 : decode cL_wanted 101 = .ok (.iconst 1, 1) := by decide +kernel
theorem dL_wanted_102 : decode cL_wanted 102 = .ok (.iconst 2, 1) := by decide +kernel
theorem dL_wanted_103 : decode cL_wanted 103 = .ok (.invokevirtual 180, 3) := by decide +kernel
theorem dL_wanted_106 : decode cL_wanted 106 = .ok (.iload 6, 2) := by decide +kernel
theorem dL_wanted_108 : decode cL_wanted 108 = .ok (.if_icmp .eq 5, 3) := by decide +kernel
theorem dL_wanted_111 : decode cL_wanted 111 = .ok (.iconst 0, 1) := by decide +kernel
theorem dL_wanted_112 : decode cL_wanted 112 = .ok (.ireturn, 1) := by decide +kernel
theorem dL_wanted_113 : decode cL_wanted 113 = .ok (.iload 6, 2) := by decide +kernel
theorem dL_wanted_115 : decode cL_wanted 115 = .ok (.bipush (-9), 2) := by decide +kernel
theorem dL_wanted_117 : decode cL_wanted 117 = .ok (.if_icmp .ne 5, 3) := by decide +kernel
theorem dL_wanted_120 : decode cL_wanted 120 = .ok (.iconst 1, 1) := by decide +kernel
theorem dL_wanted_121 : decode cL_wanted 121 = .ok (.ireturn, 1) := by decide +kernel
theorem dL_wanted_122 : decode cL_wanted 122 = .ok (.iload 6, 2) := by decide +kernel
theorem dL_wanted_124 : decode cL_wanted 124 = .ok (.iload 4, 2) := by decide +kernel
theorem dL_wanted_126 : decode cL_wanted 126 = .ok (.if_icmp .gt 9, 3) := by decide +kernel
theorem dL_wanted_129 : decode cL_wanted 129 = .ok (.iload 7, 2) := by decide +kernel
theorem dL_wanted_131 : decode cL_wanted 131 = .ok (.iconst 1, 1) := by decide +kernel
theorem dL_wanted_132 : decode cL_wanted 132 = .ok (.if_icmp .ge 5, 3) := by decide +kernel
theorem dL_wanted_135 : decode cL_wanted 135 = .ok (.iconst 0, 1) := by decide +kernel
theorem dL_wanted_136 : decode cL_wanted 136 = .ok (.ireturn, 1) := by decide +kernel
theorem dL_wanted_137 : decode cL_wanted 137 = .ok (.iconst 0, 1) := by decide +kernel
theorem dL_wanted_138 : decode cL_wanted 138 = .ok (.istore 8, 2) := by decide +kernel
theorem dL_wanted_140 : decode cL_wanted 140 = .ok (.iload 8, 2) := by decide +kernel
theorem dL_wanted_142 : decode cL_wanted 142 = .ok (.iload 6, 2) := by decide +kernel
theorem dL_wanted_144 : decode cL_wanted 144 = .ok (.if_icmp .ge 61, 3) := by decide +kernel
theorem dL_wanted_147 : decode cL_wanted 147 = .ok (.aload_n 0, 1) := by decide +kernel
theorem dL_wanted_148 : decode cL_wanted 148 = .ok (.iconst 1, 1) := by decide +kernel
theorem dL_wanted_149 : decode cL_wanted 149 = .ok (.invokevirtual 177, 3) := by decide +kernel
theorem dL_wanted_152 : decode cL_wanted 152 = .ok (.iload 6, 2) := by decide +kernel
theorem dL_wanted_154 : decode cL_wanted 154 = .ok (.iload 8, 2) := by decide +kernel
theorem dL_wanted_156 : decode cL_wanted 156 = .ok (.isub, 1) := by decide +kernel
theorem dL_wanted_157 : decode cL_wanted 157 = .ok (.if_icmp .ne 14, 3) := by decide +kernel
theorem dL_wanted_160 : decode cL_wanted 160 = .ok (.aload_n 0, 1) := by decide +kernel
theorem dL_wanted_161 : decode cL_wanted 161 = .ok (.iconst 2, 1) := by decide +kernel
theorem dL_wanted_162 : decode cL_wanted 162 = .ok (.iload 8, 2) := by decide +kernel
theorem dL_wanted_164 : decode cL_wanted 164 = .ok (.invokevirtual 183, 3) := by decide +kernel
theorem dL_wanted_167 : decode cL_wanted 167 = .ok (.iconst 1, 1) := by decide +kernel
theorem dL_wanted_168 : decode cL_wanted 168 = .ok (.if_icmp .eq 5, 3) := by decide +kernel
theorem dL_wanted_171 : decode cL_wanted 171 = .ok (.iconst 0, 1) := by decide +kernel
theorem dL_wanted_172 : decode cL_wanted 172 = .ok (.ireturn, 1) := by decide +kernel
theorem dL_wanted_173 : decode cL_wanted 173 = .ok (.aload_n 0, 1) := by decide +kernel
theorem dL_wanted_174 : decode cL_wanted 174 = .ok (.invokevirtual 83, 3) := by decide +kernel
theorem dL_wanted_177 : decode cL_wanted 177 = .ok (.istore 9, 2) := by decide +kernel
theorem dL_wanted_179 : decode cL_wanted 179 = .ok (.aload_n 0, 1) := by decide +kernel
theorem dL_wanted_180 : decode cL_wanted 180 = .ok (.iload 9, 2) := by decide +kernel
theorem dL_wanted_182 : decode cL_wanted 182 = .ok (.bipush 7, 2) := by decide +kernel
theorem dL_wanted_184 : decode cL_wanted 184 = .ok (.idiv, 1) := by decide +kernel
theorem dL_wanted_185 : decode cL_wanted 185 = .ok (.iload 9, 2) := by decide +kernel
theorem dL_wanted_187 : decode cL_wanted 187 = .ok (.bipush 7, 2) := by decide +kernel
theorem dL_wanted_189 : decode cL_wanted 189 = .ok (.irem, 1) := by decide +kernel
theorem dL_wanted_190 : decode cL_wanted 190 = .ok (.invokevirtual 119, 3) := by decide +kernel
theorem dL_wanted_193 : decode cL_wanted 193 = .ok (.iconst 1, 1) := by decide +kernel
theorem dL_wanted_194 : decode cL_wanted 194 = .ok (.if_icmp .eq 5, 3) := by decide +kernel
theorem dL_wanted_197 : decode cL_wanted 197 = .ok (.iconst 0, 1) := by decide +kernel
theorem dL_wanted_198 : decode cL_wanted 198 = .ok (.ireturn, 1) := by decide +kernel
theorem dL_wanted_199 : decode cL_wanted 199 = .ok (.iinc 8 1, 3) := by decide +kernel
theorem dL_wanted_202 : decode cL_wanted 202 = .ok (.goto (-62), 3) := by decide +kernel
theorem dL_wanted_205 : decode cL_wanted 205 = .ok (.aload_n 0, 1) := by decide +kernel
theorem dL_wanted_206 : decode cL_wanted 206 = .ok (.iconst 1, 1) := by decide +kernel
theorem dL_wanted_207 : decode cL_wanted 207 = .ok (.invokevirtual 177, 3) := by decide +kernel
theorem dL_wanted_210 : decode cL_wanted 210 = .ok (.ifCond .eq 5, 3) := by decide +kernel
theorem dL_wanted_213 : decode cL_wanted 213 = .ok (.iconst 0, 1) := by decide +kernel
theorem dL_wanted_214 : decode cL_wanted 214 = .ok (.ireturn, 1) := by decide +kernel
theorem dL_wanted_215 : decode cL_wanted 215 = .ok (.iconst 0, 1) := by decide +kernel
theorem dL_wanted_216 : decode cL_wanted 216 = .ok (.istore 8, 2) := by decide +kernel
theorem dL_wanted_218 : decode cL_wanted 218 = .ok (.iload 8, 2) := by decide +kernel
theorem dL_wanted_220 : decode cL_wanted 220 = .ok (.iload_n 3, 1) := by decide +kernel
theorem dL_wanted_221 : decode cL_wanted 221 = .ok (.if_icmp .ge 39, 3) := by decide +kernel
theorem dL_wanted_224 : decode cL_wanted 224 = .ok (.aload 5, 2) := by decide +kernel
theorem dL_wanted_226 : decode cL_wanted 226 = .ok (.iload 8, 2) := by decide +kernel
theorem dL_wanted_228 : decode cL_wanted 228 = .ok (.iaload, 1) := by decide +kernel
theorem dL_wanted_229 : decode cL_wanted 229 = .ok (.iconst (-1), 1) := by decide +kernel
theorem dL_wanted_230 : decode cL_wanted 230 = .ok (.if_icmp .eq 24, 3) := by decide +kernel
theorem dL_wanted_233 : decode cL_wanted 233 = .ok (.aload_n 0, 1) := by decide +kernel
theorem dL_wanted_234 : decode cL_wanted 234 = .ok (.aload_n 0, 1) := by decide +kernel
theorem dL_wanted_235 : decode cL_wanted 235 = .ok (.iload 8, 2) := by decide +kernel
theorem dL_wanted_237 : decode cL_wanted 237 = .ok (.iconst 3, 1) := by decide +kernel
theorem dL_wanted_238 : decode cL_wanted 238 = .ok (.invokevirtual 87, 3) := by decide +kernel
theorem dL_wanted_241 : decode cL_wanted 241 = .ok (.invokestatic 90, 3) := by decide +kernel
theorem dL_wanted_244 : decode cL_wanted 244 = .ok (.aload 5, 2) := by decide +kernel
theorem dL_wanted_246 : decode cL_wanted 246 = .ok (.iload 8, 2) := by decide +kernel
theorem dL_wanted_248 : decode cL_wanted 248 = .ok (.iaload, 1) := by decide +kernel
theorem dL_wanted_249 : decode cL_wanted 249 = .ok (.if_icmp .eq 5, 3) := by decide +kernel
theorem dL_wanted_252 : decode cL_wanted 252 = .ok (.iconst 0, 1) := by decide +kernel
theorem dL_wanted_253 : decode cL_wanted 253 = .ok (.ireturn, 1) := by decide +kernel
theorem dL_wanted_254 : decode cL_wanted 254 = .ok (.iinc 8 1, 3) := by decide +kernel
theorem dL_wanted_257 : decode cL_wanted 257 = .ok (.goto (-39), 3) := by decide +kernel
theorem dL_wanted_260 : decode cL_wanted 260 = .ok (.aload_n 0, 1) := by decide +kernel
theorem dL_wanted_261 : decode cL_wanted 261 = .ok (.iconst 0, 1) := by decide +kernel
theorem dL_wanted_262 : decode cL_wanted 262 = .ok (.invokevirtual 168, 3) := by decide +kernel
theorem dL_wanted_265 : decode cL_wanted 265 = .ok (.iconst 1, 1) := by decide +kernel
theorem dL_wanted_266 : decode cL_wanted 266 = .ok (.if_icmp .ne 25, 3) := by decide +kernel
theorem dL_wanted_269 : decode cL_wanted 269 = .ok (.aload_n 0, 1) := by decide +kernel
theorem dL_wanted_270 : decode cL_wanted 270 = .ok (.iconst 2, 1) := by decide +kernel
theorem dL_wanted_271 : decode cL_wanted 271 = .ok (.invokevirtual 186, 3) := by decide +kernel
theorem dL_wanted_274 : decode cL_wanted 274 = .ok (.iload 6, 2) := by decide +kernel
theorem dL_wanted_276 : decode cL_wanted 276 = .ok (.if_icmp .ne 15, 3) := by decide +kernel
theorem dL_wanted_279 : decode cL_wanted 279 = .ok (.aload_n 0, 1) := by decide +kernel
theorem dL_wanted_280 : decode cL_wanted 280 = .ok (.iconst 1, 1) := by decide +kernel
theorem dL_wanted_281 : decode cL_wanted 281 = .ok (.invokevirtual 177, 3) := by decide +kernel
theorem dL_wanted_284 : decode cL_wanted 284 = .ok (.ifCond .ne 7, 3) := by decide +kernel
theorem dL_wanted_287 : decode cL_wanted 287 = .ok (.iconst 1, 1) := by decide +kernel
theorem dL_wanted_288 : decode cL_wanted 288 = .ok (.goto 4, 3) := by decide +kernel
theorem dL_wanted_291 : decode cL_wanted 291 = .ok (.iconst 0, 1) := by decide +kernel
theorem dL_wanted_292 : decode cL_wanted 292 = .ok (.ireturn, 1) := by decide +kernel
theorem dL_thefts_0 : decode cL_thefts 0 = .ok (.iconst 0, 1) := by decide +kernel
theorem dL_thefts_1 : decode cL_thefts 1 = .ok (.istore_n 3, 1) := by decide +kernel
theorem dL_thefts_2 : decode cL_thefts 2 = .ok (.iload_n 3, 1) := by decide +kernel
theorem dL_thefts_3 : decode cL_thefts 3 = .ok (.iload_n 1, 1) := by decide +kernel
theorem dL_thefts_4 : decode cL_thefts 4 = .ok (.if_icmp .ge 275, 3) := by decide +kernel
theorem dL_thefts_7 : decode cL_thefts 7 = .ok (.aload_n 0, 1) := by decide +kernel
theorem dL_thefts_8 : decode cL_thefts 8 = .ok (.iload_n 3, 1) := by decide +kernel
theorem dL_thefts_9 : decode cL_thefts 9 = .ok (.invokevirtual 94, 3) := by decide +kernel
theorem dL_thefts_12 : decode cL_thefts 12 = .ok (.ifCond .ge 7, 3) := by decide +kernel
theorem dL_thefts_15 : decode cL_thefts 15 = .ok (.iconst (-1), 1) := by decide +kernel
theorem dL_thefts_16 : decode cL_thefts 16 = .ok (.goto 7, 3) := by decide +kernel
theorem dL_thefts_19 : decode cL_thefts 19 = .ok (.aload_n 0, 1) := by decide +kernel
theorem dL_thefts_20 : decode cL_thefts 20 = .ok (.invokevirtual 83, 3) := by decide +kernel
theorem dL_thefts_23 : decode cL_thefts 23 = .ok (.istore 4, 2) := by decide +kernel
theorem dL_thefts_25 : decode cL_thefts 25 = .ok (.iconst 0, 1) := by decide +kernel
theorem dL_thefts_26 : decode cL_thefts 26 = .ok (.istore 5, 2) := by decide +kernel
theorem dL_thefts_28 : decode cL_thefts 28 = .ok (.iconst 0, 1) := by decide +kernel
theorem dL_thefts_29 : decode cL_thefts 29 = .ok (.istore 6, 2) := by decide +kernel
theorem dL_thefts_31 : decode cL_thefts 31 = .ok (.iload 6, 2) := by decide +kernel
theorem dL_thefts_33 : decode cL_thefts 33 = .ok (.iconst 4, 1) := by decide +kernel
theorem dL_thefts_34 : decode cL_thefts 34 = .ok (.if_icmp .ge 114, 3) := by decide +kernel
theorem dL_thefts_37 : decode cL_thefts 37 = .ok (.aload_n 0, 1) := by decide +kernel
theorem dL_thefts_38 : decode cL_thefts 38 = .ok (.iload_n 3, 1) := by decide +kernel
theorem dL_thefts_39 : decode cL_thefts 39 = .ok (.iload 6, 2) := by decide +kernel
theorem dL_thefts_41 : decode cL_thefts 41 = .ok (.invokevirtual 189, 3) := by decide +kernel
theorem dL_thefts_44 : decode cL_thefts 44 = .ok (.istore 7, 2) := by decide +kernel
theorem dL_thefts_46 : decode cL_thefts 46 = .ok (.iload 6, 2) := by decide +kernel
theorem dL_thefts_48 : decode cL_thefts 48 = .ok (.ifCond .ne 10, 3) := by decide +kernel
theorem dL_thefts_51 : decode cL_thefts 51 = .ok (.iload 7, 2) := by decide +kernel
theorem dL_thefts_53 : decode cL_thefts 53 = .ok (.iload 4, 2) := by decide +kernel
theorem dL_thefts_55 : decode cL_thefts 55 = .ok (.if_icmp .ne 13, 3) := by decide +kernel
theorem dL_thefts_58 : decode cL_thefts 58 = .ok (.iload 5, 2) := by decide +kernel
theorem dL_thefts_60 : decode cL_thefts 60 = .ok (.iload 7, 2) := by decide +kernel
theorem dL_thefts_62 : decode cL_thefts 62 = .ok (.iconst (-1), 1) := by decide +kernel
theorem dL_thefts_63 : decode cL_thefts 63 = .ok (.ixor, 1) := by decide +kernel
theorem dL_thefts_64 : decode cL_thefts 64 = .ok (.iand, 1) := by decide +kernel
theorem dL_thefts_65 : decode cL_thefts 65 = .ok (.ifCond .eq 5, 3) := by decide +kernel
theorem dL_thefts_68 : decode cL_thefts 68 = .ok (.iconst 0, 1) := by decide +kernel
theorem dL_thefts_69 : decode cL_thefts 69 = .ok (.ireturn, 1) := by decide +kernel
theorem dL_thefts_70 : decode cL_thefts 70 = .ok (.iconst 0, 1) := by decide +kernel
theorem dL_thefts_71 : decode cL_thefts 71 = .ok (.istore 8, 2) := by decide +kernel
theorem dL_thefts_73 : decode cL_thefts 73 = .ok (.iload 8, 2) := by decide +kernel
theorem dL_thefts_75 : decode cL_thefts 75 = .ok (.iload_n 2, 1) := by decide +kernel
theorem dL_thefts_76 : decode cL_thefts 76 = .ok (.if_icmp .ge 62, 3) := by decide +kernel
theorem dL_thefts_79 : decode cL_thefts 79 = .ok (.aload_n 0, 1) := by decide +kernel
theorem dL_thefts_80 : decode cL_thefts 80 = .ok (.iload_n 3, 1) := by decide +kernel
theorem dL_thefts_81 : decode cL_thefts 81 = .ok (.iload 8, 2) := by decide +kernel
theorem dL_thefts_83 : decode cL_thefts 83 = .ok (.invokevirtual 191, 3) := by decide +kernel
theorem dL_thefts_86 : decode cL_thefts 86 = .ok (.istore 9, 2) := by decide +kernel
theorem dL_thefts_88 : decode cL_thefts 88 = .ok (.iload 9, 2) := by decide +kernel
theorem dL_thefts_90 : decode cL_thefts 90 = .ok (.ifCond .lt 14, 3) := by decide +kernel
theorem dL_thefts_93 : decode cL_thefts 93 = .ok (.iload 9, 2) := by decide +kernel
theorem dL_thefts_95 : decode cL_thefts 95 = .ok (.iload 6, 2) := by decide +kernel
theorem dL_thefts_97 : decode cL_thefts 97 = .ok (.if_icmp .gt 7, 3) := by decide +kernel
theorem dL_thefts_100 : decode cL_thefts 100 = .ok (.iconst 1, 1) := by decide +kernel
theorem dL_thefts_101 : decode cL_thefts 101 = .ok (.goto 4, 3) := by decide +kernel
theorem dL_thefts_104 : decode cL_thefts 104 = .ok (.iconst 0, 1) := by decide +kernel
theorem dL_thefts_105 : decode cL_thefts 105 = .ok (.iload 7, 2) := by decide +kernel
theorem dL_thefts_107 : decode cL_thefts 107 = .ok (.iload 8, 2) := by decide +kernel
theorem dL_thefts_109 : decode cL_thefts 109 = .ok (.ishr, 1) := by decide +kernel
theorem dL_thefts_110 : decode cL_thefts 110 = .ok (.iconst 1, 1) := by decide +kernel
theorem dL_thefts_111 : decode cL_thefts 111 = .ok (.iand, 1) := by decide +kernel
theorem dL_thefts_112 : decode cL_thefts 112 = .ok (.iconst 1, 1) := by decide +kernel
theorem dL_thefts_113 : decode cL_thefts 113 = .ok (.if_icmp .ne 7, 3) := by decide +kernel
theorem dL_thefts_116 : decode cL_thefts 116 = .ok (.iconst 1, 1) := by decide +kernel
theorem dL_thefts_117 : decode cL_thefts 117 = .ok (.goto 4, 3) := by decide +kernel
theorem dL_thefts_120 : decode cL_thefts 120 = .ok (.iconst 0, 1) := by decide +kernel
theorem dL_thefts_121 : decode cL_thefts 121 = .ok (.if_icmp .ne 9, 3) := by decide +kernel
theorem dL_thefts_124 : decode cL_thefts 124 = .ok (.iload 9, 2) := by decide +kernel
theorem dL_thefts_126 : decode cL_thefts 126 = .ok (.iconst 4, 1) := by decide +kernel
theorem dL_thefts_127 : decode cL_thefts 127 = .ok (.if_icmp .le 5, 3) := by decide +kernel
theorem dL_thefts_130 : decode cL_thefts 130 = .ok (.iconst 0, 1) := by decide +kernel
theorem dL_thefts_131 : decode cL_thefts 131 = .ok (.ireturn, 1) := by decide +kernel
theorem dL_thefts_132 : decode cL_thefts 132 = .ok (.iinc 8 1, 3) := by decide +kernel
theorem dL_thefts_135 : decode cL_thefts 135 = .ok (.goto (-62), 3) := by decide +kernel
theorem dL_thefts_138 : decode cL_thefts 138 = .ok (.iload 7, 2) := by decide +kernel
theorem dL_thefts_140 : decode cL_thefts 140 = .ok (.istore 5, 2) := by decide +kernel
theorem dL_thefts_142 : decode cL_thefts 142 = .ok (.iinc 6 1, 3) := by decide +kernel
theorem dL_thefts_145 : decode cL_thefts 145 = .ok (.goto (-114), 3) := by decide +kernel
theorem dL_thefts_148 : decode cL_thefts 148 = .ok (.iconst 0, 1) := by decide +kernel
theorem dL_thefts_149 : decode cL_thefts 149 = .ok (.istore 6, 2) := by decide +kernel
theorem dL_thefts_151 : decode cL_thefts 151 = .ok (.iload 6, 2) := by decide +kernel
theorem dL_thefts_153 : decode cL_thefts 153 = .ok (.iload_n 1, 1) := by decide +kernel
theorem dL_thefts_154 : decode cL_thefts 154 = .ok (.if_icmp .ge 119, 3) := by decide +kernel
theorem dL_thefts_157 : decode cL_thefts 157 = .ok (.iload 6, 2) := by decide +kernel
theorem dL_thefts_159 : decode cL_thefts 159 = .ok (.iload_n 3, 1) := by decide +kernel
theorem dL_thefts_160 : decode cL_thefts 160 = .ok (.if_icmp .eq 107, 3) := by decide +kernel
theorem dL_thefts_163 : decode cL_thefts 163 = .ok (.aload_n 0, 1) := by decide +kernel
theorem dL_thefts_164 : decode cL_thefts 164 = .ok (.iload 6, 2) := by decide +kernel
theorem dL_thefts_166 : decode cL_thefts 166 = .ok (.invokevirtual 94, 3) := by decide +kernel
theorem dL_thefts_169 : decode cL_thefts 169 = .ok (.ifCond .ge 7, 3) := by decide +kernel
theorem dL_thefts_172 : decode cL_thefts 172 = .ok (.iconst 0, 1) := by decide +kernel
theorem dL_thefts_173 : decode cL_thefts 173 = .ok (.goto 7, 3) := by decide +kernel
theorem dL_thefts_176 : decode cL_thefts 176 = .ok (.aload_n 0, 1) := by decide +kernel
theorem dL_thefts_177 : decode cL_thefts 177 = .ok (.invokevirtual 83, 3) := by decide +kernel
theorem dL_thefts_180 : decode cL_thefts 180 = .ok (.istore 7, 2) := by decide +kernel
theorem dL_thefts_182 : decode cL_thefts 182 = .ok (.aload_n 0, 1) := by decide +kernel
theorem dL_thefts_183 : decode cL_thefts 183 = .ok (.iload_n 3, 1) := by decide +kernel
theorem dL_thefts_184 : decode cL_thefts 184 = .ok (.iload 6, 2) := by decide +kernel
theorem dL_thefts_186 : decode cL_thefts 186 = .ok (.invokevirtual 194, 3) := by decide +kernel
theorem dL_thefts_189 : decode cL_thefts 189 = .ok (.istore 8, 2) := by decide +kernel
theorem dL_thefts_191 : decode cL_thefts 191 = .ok (.aload_n 0, 1) := by decide +kernel
theorem dL_thefts_192 : decode cL_thefts 192 = .ok (.invokevirtual 83, 3) := by decide +kernel
theorem dL_thefts_195 : decode cL_thefts 195 = .ok (.istore 9, 2) := by decide +kernel
theorem dL_thefts_197 : decode cL_thefts 197 = .ok (.iload 8, 2) := by decide +kernel
theorem dL_thefts_199 : decode cL_thefts 199 = .ok (.iload 7, 2) := by decide +kernel
theorem dL_thefts_201 : decode cL_thefts 201 = .ok (.iconst (-1), 1) := by decide +kernel
theorem dL_thefts_202 : decode cL_thefts 202 = .ok (.ixor, 1) := by decide +kernel
theorem dL_thefts_203 : decode cL_thefts 203 = .ok (.iand, 1) := by decide +kernel
theorem dL_thefts_204 : decode cL_thefts 204 = .ok (.ifCond .ne 61, 3) := by decide +kernel
theorem dL_thefts_207 : decode cL_thefts 207 = .ok (.iload 8, 2) := by decide +kernel
theorem dL_thefts_209 : decode cL_thefts 209 = .ok (.ifCond .ne 7, 3) := by decide +kernel
theorem dL_thefts_212 : decode cL_thefts 212 = .ok (.iconst 1, 1) := by decide +kernel
theorem dL_thefts_213 : decode cL_thefts 213 = .ok (.goto 4, 3) := by decide +kernel
theorem dL_thefts_216 : decode cL_thefts 216 = .ok (.iconst 0, 1) := by decide +kernel
theorem dL_thefts_217 : decode cL_thefts 217 = .ok (.iload 9, 2) := by decide +kernel
theorem dL_thefts_219 : decode cL_thefts 219 = .ok (.bipush (-9), 2) := by decide +kernel
theorem dL_thefts_221 : decode cL_thefts 221 = .ok (.if_icmp .ne 7, 3) := by decide +kernel
theorem dL_thefts_224 : decode cL_thefts 224 = .ok (.iconst 1, 1) := by decide +kernel
theorem dL_thefts_225 : decode cL_thefts 225 = .ok (.goto 4, 3) := by decide +kernel
theorem dL_thefts_228 : decode cL_thefts 228 = .ok (.iconst 0, 1) := by decide +kernel
theorem dL_thefts_229 : decode cL_thefts 229 = .ok (.if_icmp .ne 36, 3) := by decide +kernel
theorem dL_thefts_232 : decode cL_thefts 232 = .ok (.iload 9, 2) := by decide +kernel
theorem dL_thefts_234 : decode cL_thefts 234 = .ok (.ifCond .lt 14, 3) := by decide +kernel
theorem dL_thefts_237 : decode cL_thefts 237 = .ok (.iload 4, 2) := by decide +kernel
theorem dL_thefts_239 : decode cL_thefts 239 = .ok (.iload 9, 2) := by decide +kernel
theorem dL_thefts_241 : decode cL_thefts 241 = .ok (.ishr, 1) := by decide +kernel
theorem dL_thefts_242 : decode cL_thefts 242 = .ok (.iconst 1, 1) := by decide +kernel
theorem dL_thefts_243 : decode cL_thefts 243 = .ok (.iand, 1) := by decide +kernel
theorem dL_thefts_244 : decode cL_thefts 244 = .ok (.iconst 1, 1) := by decide +kernel
theorem dL_thefts_245 : decode cL_thefts 245 = .ok (.if_icmp .ne 20, 3) := by decide +kernel
theorem dL_thefts_248 : decode cL_thefts 248 = .ok (.aload_n 0, 1) := by decide +kernel
theorem dL_thefts_249 : decode cL_thefts 249 = .ok (.iload_n 3, 1) := by decide +kernel
theorem dL_thefts_250 : decode cL_thefts 250 = .ok (.iload 6, 2) := by decide +kernel
theorem dL_thefts_252 : decode cL_thefts 252 = .ok (.invokevirtual 197, 3) := by decide +kernel
theorem dL_thefts_255 : decode cL_thefts 255 = .ok (.aload_n 0, 1) := by decide +kernel
theorem dL_thefts_256 : decode cL_thefts 256 = .ok (.iload 6, 2) := by decide +kernel
theorem dL_thefts_258 : decode cL_thefts 258 = .ok (.iload_n 3, 1) := by decide +kernel
theorem dL_thefts_259 : decode cL_thefts 259 = .ok (.invokevirtual 197, 3) := by decide +kernel
theorem dL_thefts_262 : decode cL_thefts 262 = .ok (.if_icmp .eq 5, 3) := by decide +kernel
theorem dL_thefts_265 : decode cL_thefts 265 = .ok (.iconst 0, 1) := by decide +kernel
theorem dL_thefts_266 : decode cL_thefts 266 = .ok (.ireturn, 1) := by decide +kernel
theorem dL_thefts_267 : decode cL_thefts 267 = .ok (.iinc 6 1, 3) := by decide +kernel
theorem dL_thefts_270 : decode cL_thefts 270 = .ok (.goto (-119), 3) := by decide +kernel
theorem dL_thefts_273 : decode cL_thefts 273 = .ok (.iinc 3 1, 3) := by decide +kernel
theorem dL_thefts_276 : decode cL_thefts 276 = .ok (.goto (-274), 3) := by decide +kernel
theorem dL_thefts_279 : decode cL_thefts 279 = .ok (.aload_n 0, 1) := by decide +kernel
theorem dL_thefts_280 : decode cL_thefts 280 = .ok (.invokevirtual 200, 3) := by decide +kernel
theorem dL_thefts_283 : decode cL_thefts 283 = .ok (.bipush (-9), 2) := by decide +kernel
theorem dL_thefts_285 : decode cL_thefts 285 = .ok (.if_icmp .lt 14, 3) := by decide +kernel
theorem dL_thefts_288 : decode cL_thefts 288 = .ok (.aload_n 0, 1) := by decide +kernel
theorem dL_thefts_289 : decode cL_thefts 289 = .ok (.invokevirtual 83, 3) := by decide +kernel
theorem dL_thefts_292 : decode cL_thefts 292 = .ok (.ifCond .lt 7, 3) := by decide +kernel
theorem dL_thefts_295 : decode cL_thefts 295 = .ok (.iconst 1, 1) := by decide +kernel
theorem dL_thefts_296 : decode cL_thefts 296 = .ok (.goto 4, 3) := by decide +kernel
theorem dL_thefts_299 : decode cL_thefts 299 = .ok (.iconst 0, 1) := by decide +kernel
theorem dL_thefts_300 : decode cL_thefts 300 = .ok (.ireturn, 1) := by decide +kernel
theorem dL_drowned_0 : decode cL_drowned 0 = .ok (.aload_n 0, 1) := by decide +kernel
theorem dL_drowned_1 : decode cL_drowned 1 = .ok (.invokevirtual 203, 3) := by decide +kernel
theorem dL_drowned_4 : decode cL_drowned 4 = .ok (.istore 4, 2) := by decide +kernel
theorem dL_drowned_6 : decode cL_drowned 6 = .ok (.aload_n 0, 1) := by decide +kernel
theorem dL_drowned_7 : decode cL_drowned 7 = .ok (.invokevirtual 83, 3) := by decide +kernel
theorem dL_drowned_10 : decode cL_drowned 10 = .ok (.istore 5, 2) := by decide +kernel
theorem dL_drowned_12 : decode cL_drowned 12 = .ok (.iload 4, 2) := by decide +kernel
theorem dL_drowned_14 : decode cL_drowned 14 = .ok (.iconst 1, 1) := by decide +kernel
theorem dL_drowned_15 : decode cL_drowned 15 = .ok (.if_icmp .lt 8, 3) := by decide +kernel
theorem dL_drowned_18 : decode cL_drowned 18 = .ok (.iload 5, 2) := by decide +kernel
theorem dL_drowned_20 : decode cL_drowned 20 = .ok (.ifCond .eq 5, 3) := by decide +kernel
theorem dL_drowned_23 : decode cL_drowned 23 = .ok (.iconst 0, 1) := by decide +kernel
theorem dL_drowned_24 : decode cL_drowned 24 = .ok (.ireturn, 1) := by decide +kernel
theorem dL_drowned_25 : decode cL_drowned 25 = .ok (.iconst 0, 1) := by decide +kernel
theorem dL_drowned_26 : decode cL_drowned 26 = .ok (.istore 6, 2) := by decide +kernel
theorem dL_drowned_28 : decode cL_drowned 28 = .ok (.iload 6, 2) := by decide +kernel
theorem dL_drowned_30 : decode cL_drowned 30 = .ok (.iconst 4, 1) := by decide +kernel
theorem dL_drowned_31 : decode cL_drowned 31 = .ok (.if_icmp .ge 196, 3) := by decide +kernel
theorem dL_drowned_34 : decode cL_drowned 34 = .ok (.iload_n 3, 1) := by decide +kernel
theorem dL_drowned_35 : decode cL_drowned 35 = .ok (.ifCond .le 192, 3) := by decide +kernel
theorem dL_drowned_38 : decode cL_drowned 38 = .ok (.aload_n 1, 1) := by decide +kernel
theorem dL_drowned_39 : decode cL_drowned 39 = .ok (.bipush 90, 2) := by decide +kernel
theorem dL_drowned_41 : decode cL_drowned 41 = .ok (.iload 6, 2) := by decide +kernel
theorem dL_drowned_43 : decode cL_drowned 43 = .ok (.iadd, 1) := by decide +kernel
theorem dL_drowned_44 : decode cL_drowned 44 = .ok (.invokestatic 14, 3) := by decide +kernel
theorem dL_drowned_47 : decode cL_drowned 47 = .ok (.istore 7, 2) := by decide +kernel
theorem dL_drowned_49 : decode cL_drowned 49 = .ok (.aload_n 0, 1) := by decide +kernel
theorem dL_drowned_50 : decode cL_drowned 50 = .ok (.iload 7, 2) := by decide +kernel

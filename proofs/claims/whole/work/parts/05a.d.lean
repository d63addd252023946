theorem dX11_init_0 : decode cX11_init 0 = .ok (.aload_n 0, 1) := by decide +kernel
theorem dX11_init_1 : decode cX11_init 1 = .ok (.invokespecial 1, 3) := by decide +kernel
theorem dX11_init_4 : decode cX11_init 4 = .ok (.aload_n 0, 1) := by decide +kernel
theorem dX11_init_5 : decode cX11_init 5 = .ok (.bipush 6, 2) := by decide +kernel
theorem dX11_init_7 : decode cX11_init 7 = .ok (.newarray .int, 2) := by decide +kernel
theorem dX11_init_9 : decode cX11_init 9 = .ok (.putfield 7, 3) := by decide +kernel
theorem dX11_init_12 : decode cX11_init 12 = .ok (.aload_n 0, 1) := by decide +kernel
theorem dX11_init_13 : decode cX11_init 13 = .ok (.bipush 6, 2) := by decide +kernel
theorem dX11_init_15 : decode cX11_init 15 = .ok (.newarray .int, 2) := by decide +kernel
theorem dX11_init_17 : decode cX11_init 17 = .ok (.putfield 13, 3) := by decide +kernel
theorem dX11_init_20 : decode cX11_init 20 = .ok (.aload_n 0, 1) := by decide +kernel
theorem dX11_init_21 : decode cX11_init 21 = .ok (.sipush 360, 3) := by decide +kernel
theorem dX11_init_24 : decode cX11_init 24 = .ok (.newarray .int, 2) := by decide +kernel
theorem dX11_init_26 : decode cX11_init 26 = .ok (.putfield 16, 3) := by decide +kernel
theorem dX11_init_29 : decode cX11_init 29 = .ok (.aload_n 0, 1) := by decide +kernel
theorem dX11_init_30 : decode cX11_init 30 = .ok (.bipush 60, 2) := by decide +kernel
theorem dX11_init_32 : decode cX11_init 32 = .ok (.newarray .int, 2) := by decide +kernel
theorem dX11_init_34 : decode cX11_init 34 = .ok (.putfield 19, 3) := by decide +kernel
theorem dX11_init_37 : decode cX11_init 37 = .ok (.aload_n 0, 1) := by decide +kernel
theorem dX11_init_38 : decode cX11_init 38 = .ok (.iconst 4, 1) := by decide +kernel
theorem dX11_init_39 : decode cX11_init 39 = .ok (.newarray .int, 2) := by decide +kernel
theorem dX11_init_41 : decode cX11_init 41 = .ok (.putfield 22, 3) := by decide +kernel
theorem dX11_init_44 : decode cX11_init 44 = .ok (.aload_n 0, 1) := by decide +kernel
theorem dX11_init_45 : decode cX11_init 45 = .ok (.sipush 400, 3) := by decide +kernel
theorem dX11_init_48 : decode cX11_init 48 = .ok (.newarray .byte, 2) := by decide +kernel
theorem dX11_init_50 : decode cX11_init 50 = .ok (.putfield 25, 3) := by decide +kernel
theorem dX11_init_53 : decode cX11_init 53 = .ok (.aload_n 0, 1) := by decide +kernel
theorem dX11_init_54 : decode cX11_init 54 = .ok (.iconst 5, 1) := by decide +kernel
theorem dX11_init_55 : decode cX11_init 55 = .ok (.newarray .int, 2) := by decide +kernel
theorem dX11_init_57 : decode cX11_init 57 = .ok (.putfield 29, 3) := by decide +kernel
theorem dX11_init_60 : decode cX11_init 60 = .ok (.aload_n 0, 1) := by decide +kernel
theorem dX11_init_61 : decode cX11_init 61 = .ok (.iconst 2, 1) := by decide +kernel
theorem dX11_init_62 : decode cX11_init 62 = .ok (.newarray .int, 2) := by decide +kernel
theorem dX11_init_64 : decode cX11_init 64 = .ok (.putfield 32, 3) := by decide +kernel
theorem dX11_init_67 : decode cX11_init 67 = .ok (.aload_n 0, 1) := by decide +kernel
theorem dX11_init_68 : decode cX11_init 68 = .ok (.bipush 32, 2) := by decide +kernel
theorem dX11_init_70 : decode cX11_init 70 = .ok (.newarray .int, 2) := by decide +kernel
theorem dX11_init_72 : decode cX11_init 72 = .ok (.putfield 35, 3) := by decide +kernel
theorem dX11_init_75 : decode cX11_init 75 = .ok (.aload_n 0, 1) := by decide +kernel
theorem dX11_init_76 : decode cX11_init 76 = .ok (.iconst 5, 1) := by decide +kernel
theorem dX11_init_77 : decode cX11_init 77 = .ok (.newarray .int, 2) := by decide +kernel
theorem dX11_init_79 : decode cX11_init 79 = .ok (.putfield 38, 3) := by decide +kernel
theorem dX11_init_82 : decode cX11_init 82 = .ok (.aload_n 0, 1) := by decide +kernel
theorem dX11_init_83 : decode cX11_init 83 = .ok (.iconst 5, 1) := by decide +kernel
theorem dX11_init_84 : decode cX11_init 84 = .ok (.newarray .int, 2) := by decide +kernel
theorem dX11_init_86 : decode cX11_init 86 = .ok (.putfield 41, 3) := by decide +kernel
theorem dX11_init_89 : decode cX11_init 89 = .ok (.aload_n 0, 1) := by decide +kernel
theorem dX11_init_90 : decode cX11_init 90 = .ok (.iconst 5, 1) := by decide +kernel
theorem dX11_init_91 : decode cX11_init 91 = .ok (.newarray .int, 2) := by decide +kernel
theorem dX11_init_93 : decode cX11_init 93 = .ok (.putfield 44, 3) := by decide +kernel
theorem dX11_init_96 : decode cX11_init 96 = .ok (.aload_n 0, 1) := by decide +kernel
theorem dX11_init_97 : decode cX11_init 97 = .ok (.bipush 32, 2) := by decide +kernel
theorem dX11_init_99 : decode cX11_init 99 = .ok (.newarray .int, 2) := by decide +kernel
theorem dX11_init_101 : decode cX11_init 101 = .ok (.putfield 47, 3) := by decide +kernel
theorem dX11_init_104 : decode cX11_init 104 = .ok (.aload_n 0, 1) := by decide +kernel
theorem dX11_init_105 : decode cX11_init 105 = .ok (.iconst 5, 1) := by decide +kernel
theorem dX11_init_106 : decode cX11_init 106 = .ok (.newarray .int, 2) := by decide +kernel
theorem dX11_init_108 : decode cX11_init 108 = .ok (.putfield 50, 3) := by decide +kernel
theorem dX11_init_111 : decode cX11_init 111 = .ok (.aload_n 0, 1) := by decide +kernel
theorem dX11_init_112 : decode cX11_init 112 = .ok (.bipush 40, 2) := by decide +kernel
theorem dX11_init_114 : decode cX11_init 114 = .ok (.newarray .int, 2) := by decide +kernel
theorem dX11_init_116 : decode cX11_init 116 = .ok (.putfield 53, 3) := by decide +kernel
theorem dX11_init_119 : decode cX11_init 119 = .ok (.aload_n 0, 1) := by decide +kernel
theorem dX11_init_120 : decode cX11_init 120 = .ok (.bipush 40, 2) := by decide +kernel
theorem dX11_init_122 : decode cX11_init 122 = .ok (.newarray .int, 2) := by decide +kernel
theorem dX11_init_124 : decode cX11_init 124 = .ok (.putfield 56, 3) := by decide +kernel
theorem dX11_init_127 : decode cX11_init 127 = .ok (.aload_n 0, 1) := by decide +kernel
theorem dX11_init_128 : decode cX11_init 128 = .ok (.iconst 3, 1) := by decide +kernel
theorem dX11_init_129 : decode cX11_init 129 = .ok (.newarray .int, 2) := by decide +kernel
theorem dX11_init_131 : decode cX11_init 131 = .ok (.putfield 59, 3) := by decide +kernel
theorem dX11_init_134 : decode cX11_init 134 = .ok (.aload_n 0, 1) := by decide +kernel
theorem dX11_init_135 : decode cX11_init 135 = .ok (.iconst 3, 1) := by decide +kernel
theorem dX11_init_136 : decode cX11_init 136 = .ok (.newarray .int, 2) := by decide +kernel
theorem dX11_init_138 : decode cX11_init 138 = .ok (.putfield 62, 3) := by decide +kernel
theorem dX11_init_141 : decode cX11_init 141 = .ok (.aload_n 0, 1) := by decide +kernel
theorem dX11_init_142 : decode cX11_init 142 = .ok (.sipush 16807, 3) := by decide +kernel
theorem dX11_init_145 : decode cX11_init 145 = .ok (.newarray .int, 2) := by decide +kernel
theorem dX11_init_147 : decode cX11_init 147 = .ok (.putfield 65, 3) := by decide +kernel
theorem dX11_init_150 : decode cX11_init 150 = .ok (.aload_n 0, 1) := by decide +kernel
theorem dX11_init_151 : decode cX11_init 151 = .ok (.sipush 16807, 3) := by decide +kernel
theorem dX11_init_154 : decode cX11_init 154 = .ok (.newarray .int, 2) := by decide +kernel
theorem dX11_init_156 : decode cX11_init 156 = .ok (.putfield 68, 3) := by decide +kernel
theorem dX11_init_159 : decode cX11_init 159 = .ok (.aload_n 0, 1) := by decide +kernel
theorem dX11_init_160 : decode cX11_init 160 = .ok (.sipush 16807, 3) := by decide +kernel
theorem dX11_init_163 : decode cX11_init 163 = .ok (.newarray .boolean, 2) := by decide +kernel
theorem dX11_init_165 : decode cX11_init 165 = .ok (.putfield 71, 3) := by decide +kernel
theorem dX11_init_168 : decode cX11_init 168 = .ok (.aload_n 0, 1) := by decide +kernel
theorem dX11_init_169 : decode cX11_init 169 = .ok (.sipush 16807, 3) := by decide +kernel
theorem dX11_init_172 : decode cX11_init 172 = .ok (.newarray .int, 2) := by decide +kernel
theorem dX11_init_174 : decode cX11_init 174 = .ok (.putfield 75, 3) := by decide +kernel
theorem dX11_init_177 : decode cX11_init 177 = .ok (.aload_n 0, 1) := by decide +kernel
theorem dX11_init_178 : decode cX11_init 178 = .ok (.sipush 16807, 3) := by decide +kernel
theorem dX11_init_181 : decode cX11_init 181 = .ok (.newarray .int, 2) := by decide +kernel
theorem dX11_init_183 : decode cX11_init 183 = .ok (.putfield 78, 3) := by decide +kernel
theorem dX11_init_186 : decode cX11_init 186 = .ok (.aload_n 0, 1) := by decide +kernel
theorem dX11_init_187 : decode cX11_init 187 = .ok (.bipush 8, 2) := by decide +kernel
theorem dX11_init_189 : decode cX11_init 189 = .ok (.newarray .int, 2) := by decide +kernel
theorem dX11_init_191 : decode cX11_init 191 = .ok (.putfield 81, 3) := by decide +kernel
theorem dX11_init_194 : decode cX11_init 194 = .ok (.aload_n 0, 1) := by decide +kernel
theorem dX11_init_195 : decode cX11_init 195 = .ok (.bipush 8, 2) := by decide +kernel
theorem dX11_init_197 : decode cX11_init 197 = .ok (.newarray .int, 2) := by decide +kernel
theorem dX11_init_199 : decode cX11_init 199 = .ok (.putfield 84, 3) := by decide +kernel
theorem dX11_init_202 : decode cX11_init 202 = .ok (.aload_n 0, 1) := by decide +kernel
theorem dX11_init_203 : decode cX11_init 203 = .ok (.lconst 1, 1) := by decide +kernel
theorem dX11_init_204 : decode cX11_init 204 = .ok (.putfield 87, 3) := by decide +kernel
theorem dX11_init_207 : decode cX11_init 207 = .ok (.aload_n 0, 1) := by decide +kernel
theorem dX11_init_208 : decode cX11_init 208 = .ok (.iconst 3, 1) := by decide +kernel
theorem dX11_init_209 : decode cX11_init 209 = .ok (.putfield 91, 3) := by decide +kernel
theorem dX11_init_212 : decode cX11_init 212 = .ok (.iconst 0, 1) := by decide +kernel
theorem dX11_init_213 : decode cX11_init 213 = .ok (.istore_n 1, 1) := by decide +kernel
theorem dX11_init_214 : decode cX11_init 214 = .ok (.iload_n 1, 1) := by decide +kernel
theorem dX11_init_215 : decode cX11_init 215 = .ok (.bipush 6, 2) := by decide +kernel
theorem dX11_init_217 : decode cX11_init 217 = .ok (.if_icmp .ge 16, 3) := by decide +kernel
theorem dX11_init_220 : decode cX11_init 220 = .ok (.aload_n 0, 1) := by decide +kernel
theorem dX11_init_221 : decode cX11_init 221 = .ok (.getfield 13, 3) := by decide +kernel
theorem dX11_init_224 : decode cX11_init 224 = .ok (.iload_n 1, 1) := by decide +kernel
theorem dX11_init_225 : decode cX11_init 225 = .ok (.iconst (-1), 1) := by decide +kernel
theorem dX11_init_226 : decode cX11_init 226 = .ok (.iastore, 1) := by decide +kernel
theorem dX11_init_227 : decode cX11_init 227 = .ok (.iinc 1 1, 3) := by decide +kernel
theorem dX11_init_230 : decode cX11_init 230 = .ok (.goto (-16), 3) := by decide +kernel
theorem dX11_init_233 : decode cX11_init 233 = .ok (.iconst 0, 1) := by decide +kernel
theorem dX11_init_234 : decode cX11_init 234 = .ok (.istore_n 1, 1) := by decide +kernel
theorem dX11_init_235 : decode cX11_init 235 = .ok (.iload_n 1, 1) := by decide +kernel
theorem dX11_init_236 : decode cX11_init 236 = .ok (.iconst 4, 1) := by decide +kernel
theorem dX11_init_237 : decode cX11_init 237 = .ok (.if_icmp .ge 16, 3) := by decide +kernel
theorem dX11_init_240 : decode cX11_init 240 = .ok (.aload_n 0, 1) := by decide +kernel
theorem dX11_init_241 : decode cX11_init 241 = .ok (.getfield 22, 3) := by decide +kernel
theorem dX11_init_244 : decode cX11_init 244 = .ok (.iload_n 1, 1) := by decide +kernel
theorem dX11_init_245 : decode cX11_init 245 = .ok (.iconst (-1), 1) := by decide +kernel
theorem dX11_init_246 : decode cX11_init 246 = .ok (.iastore, 1) := by decide +kernel
theorem dX11_init_247 : decode cX11_init 247 = .ok (.iinc 1 1, 3) := by decide +kernel
theorem dX11_init_250 : decode cX11_init 250 = .ok (.goto (-15), 3) := by decide +kernel
theorem dX11_init_253 : decode cX11_init 253 = .ok (.iconst 0, 1) := by decide +kernel
theorem dX11_init_254 : decode cX11_init 254 = .ok (.istore_n 1, 1) := by decide +kernel
theorem dX11_init_255 : decode cX11_init 255 = .ok (.iload_n 1, 1) := by decide +kernel
theorem dX11_init_256 : decode cX11_init 256 = .ok (.iconst 3, 1) := by decide +kernel
theorem dX11_init_257 : decode cX11_init 257 = .ok (.if_icmp .ge 16, 3) := by decide +kernel
theorem dX11_init_260 : decode cX11_init 260 = .ok (.aload_n 0, 1) := by decide +kernel
theorem dX11_init_261 : decode cX11_init 261 = .ok (.getfield 59, 3) := by decide +kernel
theorem dX11_init_264 : decode cX11_init 264 = .ok (.iload_n 1, 1) := by decide +kernel
theorem dX11_init_265 : decode cX11_init 265 = .ok (.iconst (-1), 1) := by decide +kernel
theorem dX11_init_266 : decode cX11_init 266 = .ok (.iastore, 1) := by decide +kernel
theorem dX11_init_267 : decode cX11_init 267 = .ok (.iinc 1 1, 3) := by decide +kernel
theorem dX11_init_270 : decode cX11_init 270 = .ok (.goto (-15), 3) := by decide +kernel
theorem dX11_init_273 : decode cX11_init 273 = .ok (.return_, 1) := by decide +kernel
theorem dX11_in_0 : decode cX11_in 0 = .ok (.iload_n 0, 1) := by decide +kernel
theorem dX11_in_1 : decode cX11_in 1 = .ok (.iload_n 1, 1) := by decide +kernel
theorem dX11_in_2 : decode cX11_in 2 = .ok (.if_icmp .lt 12, 3) := by decide +kernel
theorem dX11_in_5 : decode cX11_in 5 = .ok (.iload_n 0, 1) := by decide +kernel
theorem dX11_in_6 : decode cX11_in 6 = .ok (.iload_n 2, 1) := by decide +kernel
theorem dX11_in_7 : decode cX11_in 7 = .ok (.if_icmp .gt 7, 3) := by decide +kernel
theorem dX11_in_10 : decode cX11_in 10 = .ok (.iconst 1, 1) := by decide +kernel
theorem dX11_in_11 : decode cX11_in 11 = .ok (.goto 4, 3) := by decide +kernel
theorem dX11_in_14 : decode cX11_in 14 = .ok (.iconst 0, 1) := by decide +kernel
theorem dX11_in_15 : decode cX11_in 15 = .ok (.ireturn, 1) := by decide +kernel
theorem dX11_has_0 : decode cX11_has 0 = .ok (.iload_n 0, 1) := by decide +kernel
theorem dX11_has_1 : decode cX11_has 1 = .ok (.iload_n 1, 1) := by decide +kernel
theorem dX11_has_2 : decode cX11_has 2 = .ok (.ishr, 1) := by decide +kernel
theorem dX11_has_3 : decode cX11_has 3 = .ok (.iconst 1, 1) := by decide +kernel
theorem dX11_has_4 : decode cX11_has 4 = .ok (.iand, 1) := by decide +kernel
theorem dX11_has_5 : decode cX11_has 5 = .ok (.iconst 1, 1) := by decide +kernel
theorem dX11_has_6 : decode cX11_has 6 = .ok (.if_icmp .ne 7, 3) := by decide +kernel
theorem dX11_has_9 : decode cX11_has 9 = .ok (.iconst 1, 1) := by decide +kernel
theorem dX11_has_10 : decode cX11_has 10 = .ok (.goto 4, 3) := by decide +kernel
theorem dX11_has_13 : decode cX11_has 13 = .ok (.iconst 0, 1) := by decide +kernel
theorem dX11_has_14 : decode cX11_has 14 = .ok (.ireturn, 1) := by decide +kernel
theorem dX11_bits_0 : decode cX11_bits 0 = .ok (.iconst 0, 1) := by decide +kernel
theorem dX11_bits_1 : decode cX11_bits 1 = .ok (.istore_n 1, 1) := by decide +kernel
theorem dX11_bits_2 : decode cX11_bits 2 = .ok (.iload_n 0, 1) := by decide +kernel
theorem dX11_bits_3 : decode cX11_bits 3 = .ok (.istore_n 2, 1) := by decide +kernel
theorem dX11_bits_4 : decode cX11_bits 4 = .ok (.iload_n 2, 1) := by decide +kernel
theorem dX11_bits_5 : decode cX11_bits 5 = .ok (.ifCond .eq 15, 3) := by decide +kernel
theorem dX11_bits_8 : decode cX11_bits 8 = .ok (.iinc 1 1, 3) := by decide +kernel
theorem dX11_bits_11 : decode cX11_bits 11 = .ok (.iload_n 2, 1) := by decide +kernel
theorem dX11_bits_12 : decode cX11_bits 12 = .ok (.iload_n 2, 1) := by decide +kernel
theorem dX11_bits_13 : decode cX11_bits 13 = .ok (.iconst 1, 1) := by decide +kernel
theorem dX11_bits_14 : decode cX11_bits 14 = .ok (.isub, 1) := by decide +kernel
theorem dX11_bits_15 : decode cX11_bits 15 = .ok (.iand, 1) := by decide +kernel
theorem dX11_bits_16 : decode cX11_bits 16 = .ok (.istore_n 2, 1) := by decide +kernel
theorem dX11_bits_17 : decode cX11_bits 17 = .ok (.goto (-13), 3) := by decide +kernel
theorem dX11_bits_20 : decode cX11_bits 20 = .ok (.iload_n 1, 1) := by decide +kernel
theorem dX11_bits_21 : decode cX11_bits 21 = .ok (.ireturn, 1) := by decide +kernel
theorem dX11_greater_0 : decode cX11_greater 0 = .ok (.iload_n 0, 1) := by decide +kernel
theorem dX11_greater_1 : decode cX11_greater 1 = .ok (.iload_n 1, 1) := by decide +kernel
theorem dX11_greater_2 : decode cX11_greater 2 = .ok (.if_icmp .le 7, 3) := by decide +kernel
theorem dX11_greater_5 : decode cX11_greater 5 = .ok (.iload_n 0, 1) := by decide +kernel
theorem dX11_greater_6 : decode cX11_greater 6 = .ok (.goto 4, 3) := by decide +kernel
theorem dX11_greater_9 : decode cX11_greater 9 = .ok (.iload_n 1, 1) := by decide +kernel
theorem dX11_greater_10 : decode cX11_greater 10 = .ok (.ireturn, 1) := by decide +kernel
theorem dX11_meets_0 : decode cX11_meets 0 = .ok (.aload_n 0, 1) := by decide +kernel
theorem dX11_meets_1 : decode cX11_meets 1 = .ok (.iload_n 1, 1) := by decide +kernel
theorem dX11_meets_2 : decode cX11_meets 2 = .ok (.putfield 95, 3) := by decide +kernel
theorem dX11_meets_5 : decode cX11_meets 5 = .ok (.aload_n 0, 1) := by decide +kernel
theorem dX11_meets_6 : decode cX11_meets 6 = .ok (.getfield 7, 3) := by decide +kernel
theorem dX11_meets_9 : decode cX11_meets 9 = .ok (.iload_n 1, 1) := by decide +kernel
theorem dX11_meets_10 : decode cX11_meets 10 = .ok (.dup2, 1) := by decide +kernel
theorem dX11_meets_11 : decode cX11_meets 11 = .ok (.iaload, 1) := by decide +kernel
theorem dX11_meets_12 : decode cX11_meets 12 = .ok (.iconst 1, 1) := by decide +kernel
theorem dX11_meets_13 : decode cX11_meets 13 = .ok (.iadd, 1) := by decide +kernel
theorem dX11_meets_14 : decode cX11_meets 14 = .ok (.iastore, 1) := by decide +kernel
theorem dX11_meets_15 : decode cX11_meets 15 = .ok (.bipush (-3), 2) := by decide +kernel
theorem dX11_meets_17 : decode cX11_meets 17 = .ok (.ireturn, 1) := by decide +kernel
theorem dX11_finding_0 : decode cX11_finding 0 = .ok (.aload_n 0, 1) := by decide +kernel
theorem dX11_finding_1 : decode cX11_finding 1 = .ok (.getfield 95, 3) := by decide +kernel
theorem dX11_finding_4 : decode cX11_finding 4 = .ok (.ireturn, 1) := by decide +kernel
theorem dX11_findings_0 : decode cX11_findings 0 = .ok (.iload_n 1, 1) := by decide +kernel
theorem dX11_findings_1 : decode cX11_findings 1 = .ok (.iconst 1, 1) := by decide +kernel
theorem dX11_findings_2 : decode cX11_findings 2 = .ok (.iconst 5, 1) := by decide +kernel
theorem dX11_findings_3 : decode cX11_findings 3 = .ok (.invokestatic 98, 3) := by decide +kernel
theorem dX11_findings_6 : decode cX11_findings 6 = .ok (.ifCond .eq 12, 3) := by decide +kernel
theorem dX11_findings_9 : decode cX11_findings 9 = .ok (.aload_n 0, 1) := by decide +kernel
theorem dX11_findings_10 : decode cX11_findings 10 = .ok (.getfield 7, 3) := by decide +kernel
theorem dX11_findings_13 : decode cX11_findings 13 = .ok (.iload_n 1, 1) := by decide +kernel
theorem dX11_findings_14 : decode cX11_findings 14 = .ok (.iaload, 1) := by decide +kernel
theorem dX11_findings_15 : decode cX11_findings 15 = .ok (.goto 4, 3) := by decide +kernel
theorem dX11_findings_18 : decode cX11_findings 18 = .ok (.iconst (-1), 1) := by decide +kernel
theorem dX11_findings_19 : decode cX11_findings 19 = .ok (.ireturn, 1) := by decide +kernel
theorem dX11_tells_0 : decode cX11_tells 0 = .ok (.aload_n 0, 1) := by decide +kernel
theorem dX11_tells_1 : decode cX11_tells 1 = .ok (.iload_n 1, 1) := by decide +kernel
theorem dX11_tells_2 : decode cX11_tells 2 = .ok (.putfield 102, 3) := by decide +kernel
theorem dX11_tells_5 : decode cX11_tells 5 = .ok (.iload_n 2, 1) := by decide +kernel
theorem dX11_tells_6 : decode cX11_tells 6 = .ok (.ireturn, 1) := by decide +kernel
theorem dX11_asked_0 : decode cX11_asked 0 = .ok (.aload_n 0, 1) := by decide +kernel
theorem dX11_asked_1 : decode cX11_asked 1 = .ok (.getfield 102, 3) := by decide +kernel
theorem dX11_asked_4 : decode cX11_asked 4 = .ok (.ireturn, 1) := by decide +kernel
theorem dX11_fraction_0 : decode cX11_fraction 0 = .ok (.lload_n 1, 1) := by decide +kernel
theorem dX11_fraction_1 : decode cX11_fraction 1 = .ok (.lstore 6, 2) := by decide +kernel
theorem dX11_fraction_3 : decode cX11_fraction 3 = .ok (.lload_n 3, 1) := by decide +kernel
theorem dX11_fraction_4 : decode cX11_fraction 4 = .ok (.lstore 8, 2) := by decide +kernel
theorem dX11_fraction_6 : decode cX11_fraction 6 = .ok (.lload 8, 2) := by decide +kernel
theorem dX11_fraction_8 : decode cX11_fraction 8 = .ok (.lconst 0, 1) := by decide +kernel
theorem dX11_fraction_9 : decode cX11_fraction 9 = .ok (.lcmp, 1) := by decide +kernel
theorem dX11_fraction_10 : decode cX11_fraction 10 = .ok (.ifCond .eq 21, 3) := by decide +kernel
theorem dX11_fraction_13 : decode cX11_fraction 13 = .ok (.lload 6, 2) := by decide +kernel
theorem dX11_fraction_15 : decode cX11_fraction 15 = .ok (.lload 8, 2) := by decide +kernel
theorem dX11_fraction_17 : decode cX11_fraction 17 = .ok (.lrem, 1) := by decide +kernel
theorem dX11_fraction_18 : decode cX11_fraction 18 = .ok (.lstore 10, 2) := by decide +kernel
theorem dX11_fraction_20 : decode cX11_fraction 20 = .ok (.lload 8, 2) := by decide +kernel
theorem dX11_fraction_22 : decode cX11_fraction 22 = .ok (.lstore 6, 2) := by decide +kernel
theorem dX11_fraction_24 : decode cX11_fraction 24 = .ok (.lload 10, 2) := by decide +kernel
theorem dX11_fraction_26 : decode cX11_fraction 26 = .ok (.lstore 8, 2) := by decide +kernel
theorem dX11_fraction_28 : decode cX11_fraction 28 = .ok (.goto (-22), 3) := by decide +kernel
theorem dX11_fraction_31 : decode cX11_fraction 31 = .ok (.aload_n 0, 1) := by decide +kernel
theorem dX11_fraction_32 : decode cX11_fraction 32 = .ok (.lload_n 1, 1) := by decide +kernel
theorem dX11_fraction_33 : decode cX11_fraction 33 = .ok (.lload 6, 2) := by decide +kernel
theorem dX11_fraction_35 : decode cX11_fraction 35 = .ok (.ldiv, 1) := by decide +kernel
theorem dX11_fraction_36 : decode cX11_fraction 36 = .ok (.putfield 105, 3) := by decide +kernel
theorem dX11_fraction_39 : decode cX11_fraction 39 = .ok (.aload_n 0, 1) := by decide +kernel
theorem dX11_fraction_40 : decode cX11_fraction 40 = .ok (.lload_n 3, 1) := by decide +kernel
theorem dX11_fraction_41 : decode cX11_fraction 41 = .ok (.lload 6, 2) := by decide +kernel
theorem dX11_fraction_43 : decode cX11_fraction 43 = .ok (.ldiv, 1) := by decide +kernel
theorem dX11_fraction_44 : decode cX11_fraction 44 = .ok (.putfield 87, 3) := by decide +kernel
theorem dX11_fraction_47 : decode cX11_fraction 47 = .ok (.iload 5, 2) := by decide +kernel
theorem dX11_fraction_49 : decode cX11_fraction 49 = .ok (.ireturn, 1) := by decide +kernel
theorem dX11_upper_0 : decode cX11_upper 0 = .ok (.aload_n 0, 1) := by decide +kernel
theorem dX11_upper_1 : decode cX11_upper 1 = .ok (.getfield 105, 3) := by decide +kernel
theorem dX11_upper_4 : decode cX11_upper 4 = .ok (.lreturn, 1) := by decide +kernel
theorem dX11_lower_0 : decode cX11_lower 0 = .ok (.aload_n 0, 1) := by decide +kernel
theorem dX11_lower_1 : decode cX11_lower 1 = .ok (.getfield 87, 3) := by decide +kernel
theorem dX11_lower_4 : decode cX11_lower 4 = .ok (.lreturn, 1) := by decide +kernel
theorem dX11_isRow_0 : decode cX11_isRow 0 = .ok (.iload_n 0, 1) := by decide +kernel
theorem dX11_isRow_1 : decode cX11_isRow 1 = .ok (.iconst 0, 1) := by decide +kernel
theorem dX11_isRow_2 : decode cX11_isRow 2 = .ok (.iconst 5, 1) := by decide +kernel
theorem dX11_isRow_3 : decode cX11_isRow 3 = .ok (.invokestatic 98, 3) := by decide +kernel
theorem dX11_isRow_6 : decode cX11_isRow 6 = .ok (.ireturn, 1) := by decide +kernel
theorem dX11_rowAt_0 : decode cX11_rowAt 0 = .ok (.aload_n 0, 1) := by decide +kernel
theorem dX11_rowAt_1 : decode cX11_rowAt 1 = .ok (.getfield 16, 3) := by decide +kernel
theorem dX11_rowAt_4 : decode cX11_rowAt 4 = .ok (.bipush 60, 2) := by decide +kernel
theorem dX11_rowAt_6 : decode cX11_rowAt 6 = .ok (.iload_n 1, 1) := by decide +kernel
theorem dX11_rowAt_7 : decode cX11_rowAt 7 = .ok (.imul, 1) := by decide +kernel
theorem dX11_rowAt_8 : decode cX11_rowAt 8 = .ok (.iload_n 2, 1) := by decide +kernel
theorem dX11_rowAt_9 : decode cX11_rowAt 9 = .ok (.iadd, 1) := by decide +kernel
theorem dX11_rowAt_10 : decode cX11_rowAt 10 = .ok (.iaload, 1) := by decide +kernel
theorem dX11_rowAt_11 : decode cX11_rowAt 11 = .ok (.ireturn, 1) := by decide +kernel
theorem dX11_row_0 : decode cX11_row 0 = .ok (.iload_n 1, 1) := by decide +kernel
theorem dX11_row_1 : decode cX11_row 1 = .ok (.invokestatic 108, 3) := by decide +kernel
theorem dX11_row_4 : decode cX11_row 4 = .ok (.ifCond .eq 9, 3) := by decide +kernel
theorem dX11_row_7 : decode cX11_row 7 = .ok (.iload_n 2, 1) := by decide +kernel
theorem dX11_row_8 : decode cX11_row 8 = .ok (.bipush 60, 2) := by decide +kernel
theorem dX11_row_10 : decode cX11_row 10 = .ok (.if_icmp .le 5, 3) := by decide +kernel
theorem dX11_row_13 : decode cX11_row 13 = .ok (.iconst (-1), 1) := by decide +kernel
theorem dX11_row_14 : decode cX11_row 14 = .ok (.ireturn, 1) := by decide +kernel
theorem dX11_row_15 : decode cX11_row 15 = .ok (.iload_n 2, 1) := by decide +kernel
theorem dX11_row_16 : decode cX11_row 16 = .ok (.ifCond .ge 9, 3) := by decide +kernel
theorem dX11_row_19 : decode cX11_row 19 = .ok (.aload_n 0, 1) := by decide +kernel
theorem dX11_row_20 : decode cX11_row 20 = .ok (.iconst 5, 1) := by decide +kernel
theorem dX11_row_21 : decode cX11_row 21 = .ok (.invokevirtual 112, 3) := by decide +kernel
theorem dX11_row_24 : decode cX11_row 24 = .ok (.ireturn, 1) := by decide +kernel
theorem dX11_row_25 : decode cX11_row 25 = .ok (.aload_n 0, 1) := by decide +kernel
theorem dX11_row_26 : decode cX11_row 26 = .ok (.getfield 13, 3) := by decide +kernel
theorem dX11_row_29 : decode cX11_row 29 = .ok (.iload_n 1, 1) := by decide +kernel
theorem dX11_row_30 : decode cX11_row 30 = .ok (.iload_n 2, 1) := by decide +kernel
theorem dX11_row_31 : decode cX11_row 31 = .ok (.iastore, 1) := by decide +kernel
theorem dX11_row_32 : decode cX11_row 32 = .ok (.iconst 0, 1) := by decide +kernel
theorem dX11_row_33 : decode cX11_row 33 = .ok (.istore_n 3, 1) := by decide +kernel
theorem dX11_row_34 : decode cX11_row 34 = .ok (.iload_n 3, 1) := by decide +kernel
theorem dX11_row_35 : decode cX11_row 35 = .ok (.bipush 60, 2) := by decide +kernel
theorem dX11_row_37 : decode cX11_row 37 = .ok (.if_icmp .ge 21, 3) := by decide +kernel
theorem dX11_row_40 : decode cX11_row 40 = .ok (.aload_n 0, 1) := by decide +kernel
theorem dX11_row_41 : decode cX11_row 41 = .ok (.getfield 16, 3) := by decide +kernel
theorem dX11_row_44 : decode cX11_row 44 = .ok (.bipush 60, 2) := by decide +kernel
theorem dX11_row_46 : decode cX11_row 46 = .ok (.iload_n 1, 1) := by decide +kernel
theorem dX11_row_47 : decode cX11_row 47 = .ok (.imul, 1) := by decide +kernel
theorem dX11_row_48 : decode cX11_row 48 = .ok (.iload_n 3, 1) := by decide +kernel
theorem dX11_row_49 : decode cX11_row 49 = .ok (.iadd, 1) := by decide +kernel
theorem dX11_row_50 : decode cX11_row 50 = .ok (.iconst 0, 1) := by decide +kernel
theorem dX11_row_51 : decode cX11_row 51 = .ok (.iastore, 1) := by decide +kernel
theorem dX11_row_52 : decode cX11_row 52 = .ok (.iinc 3 1, 3) := by decide +kernel
theorem dX11_row_55 : decode cX11_row 55 = .ok (.goto (-21), 3) := by decide +kernel
theorem dX11_row_58 : decode cX11_row 58 = .ok (.iload_n 2, 1) := by decide +kernel
theorem dX11_row_59 : decode cX11_row 59 = .ok (.ireturn, 1) := by decide +kernel
theorem dX11_lay_0 : decode cX11_lay 0 = .ok (.iload_n 1, 1) := by decide +kernel
theorem dX11_lay_1 : decode cX11_lay 1 = .ok (.invokestatic 108, 3) := by decide +kernel
theorem dX11_lay_4 : decode cX11_lay 4 = .ok (.ifCond .ne 5, 3) := by decide +kernel
theorem dX11_lay_7 : decode cX11_lay 7 = .ok (.iconst (-1), 1) := by decide +kernel
theorem dX11_lay_8 : decode cX11_lay 8 = .ok (.ireturn, 1) := by decide +kernel
theorem dX11_lay_9 : decode cX11_lay 9 = .ok (.aload_n 0, 1) := by decide +kernel
theorem dX11_lay_10 : decode cX11_lay 10 = .ok (.getfield 13, 3) := by decide +kernel
theorem dX11_lay_13 : decode cX11_lay 13 = .ok (.iload_n 1, 1) := by decide +kernel
theorem dX11_lay_14 : decode cX11_lay 14 = .ok (.iaload, 1) := by decide +kernel
theorem dX11_lay_15 : decode cX11_lay 15 = .ok (.ifCond .ge 9, 3) := by decide +kernel
theorem dX11_lay_18 : decode cX11_lay 18 = .ok (.aload_n 0, 1) := by decide +kernel
theorem dX11_lay_19 : decode cX11_lay 19 = .ok (.iconst 1, 1) := by decide +kernel
theorem dX11_lay_20 : decode cX11_lay 20 = .ok (.invokevirtual 112, 3) := by decide +kernel
theorem dX11_lay_23 : decode cX11_lay 23 = .ok (.ireturn, 1) := by decide +kernel
theorem dX11_lay_24 : decode cX11_lay 24 = .ok (.iload_n 2, 1) := by decide +kernel
theorem dX11_lay_25 : decode cX11_lay 25 = .ok (.iconst 0, 1) := by decide +kernel
theorem dX11_lay_26 : decode cX11_lay 26 = .ok (.aload_n 0, 1) := by decide +kernel
theorem dX11_lay_27 : decode cX11_lay 27 = .ok (.getfield 13, 3) := by decide +kernel
theorem dX11_lay_30 : decode cX11_lay 30 = .ok (.iload_n 1, 1) := by decide +kernel
theorem dX11_lay_31 : decode cX11_lay 31 = .ok (.iaload, 1) := by decide +kernel
theorem dX11_lay_32 : decode cX11_lay 32 = .ok (.iconst 1, 1) := by decide +kernel
theorem dX11_lay_33 : decode cX11_lay 33 = .ok (.isub, 1) := by decide +kernel
theorem dX11_lay_34 : decode cX11_lay 34 = .ok (.invokestatic 98, 3) := by decide +kernel
theorem dX11_lay_37 : decode cX11_lay 37 = .ok (.ifCond .ne 9, 3) := by decide +kernel
theorem dX11_lay_40 : decode cX11_lay 40 = .ok (.aload_n 0, 1) := by decide +kernel
theorem dX11_lay_41 : decode cX11_lay 41 = .ok (.iconst 2, 1) := by decide +kernel
theorem dX11_lay_42 : decode cX11_lay 42 = .ok (.invokevirtual 112, 3) := by decide +kernel
theorem dX11_lay_45 : decode cX11_lay 45 = .ok (.ireturn, 1) := by decide +kernel
theorem dX11_lay_46 : decode cX11_lay 46 = .ok (.aload_n 0, 1) := by decide +kernel
theorem dX11_lay_47 : decode cX11_lay 47 = .ok (.iload_n 1, 1) := by decide +kernel
theorem dX11_lay_48 : decode cX11_lay 48 = .ok (.iload_n 2, 1) := by decide +kernel
theorem dX11_lay_49 : decode cX11_lay 49 = .ok (.invokevirtual 116, 3) := by decide +kernel
theorem dX11_lay_52 : decode cX11_lay 52 = .ok (.istore 4, 2) := by decide +kernel
theorem dX11_lay_54 : decode cX11_lay 54 = .ok (.aload_n 0, 1) := by decide +kernel
theorem dX11_lay_55 : decode cX11_lay 55 = .ok (.getfield 16, 3) := by decide +kernel
theorem dX11_lay_58 : decode cX11_lay 58 = .ok (.bipush 60, 2) := by decide +kernel
theorem dX11_lay_60 : decode cX11_lay 60 = .ok (.iload_n 1, 1) := by decide +kernel
theorem dX11_lay_61 : decode cX11_lay 61 = .ok (.imul, 1) := by decide +kernel
theorem dX11_lay_62 : decode cX11_lay 62 = .ok (.iload_n 2, 1) := by decide +kernel
theorem dX11_lay_63 : decode cX11_lay 63 = .ok (.iadd, 1) := by decide +kernel
theorem dX11_lay_64 : decode cX11_lay 64 = .ok (.iload_n 3, 1) := by decide +kernel
theorem dX11_lay_65 : decode cX11_lay 65 = .ok (.iastore, 1) := by decide +kernel
theorem dX11_lay_66 : decode cX11_lay 66 = .ok (.aload_n 0, 1) := by decide +kernel
theorem dX11_lay_67 : decode cX11_lay 67 = .ok (.iload 4, 2) := by decide +kernel
theorem dX11_lay_69 : decode cX11_lay 69 = .ok (.iconst 1, 1) := by decide +kernel
theorem dX11_lay_70 : decode cX11_lay 70 = .ok (.invokevirtual 120, 3) := by decide +kernel
theorem dX11_lay_73 : decode cX11_lay 73 = .ok (.ireturn, 1) := by decide +kernel
theorem dX11_at_0 : decode cX11_at 0 = .ok (.iload_n 1, 1) := by decide +kernel
theorem dX11_at_1 : decode cX11_at 1 = .ok (.invokestatic 108, 3) := by decide +kernel
theorem dX11_at_4 : decode cX11_at 4 = .ok (.ifCond .ne 5, 3) := by decide +kernel
theorem dX11_at_7 : decode cX11_at 7 = .ok (.iconst (-1), 1) := by decide +kernel
theorem dX11_at_8 : decode cX11_at 8 = .ok (.ireturn, 1) := by decide +kernel
theorem dX11_at_9 : decode cX11_at 9 = .ok (.aload_n 0, 1) := by decide +kernel
theorem dX11_at_10 : decode cX11_at 10 = .ok (.getfield 13, 3) := by decide +kernel
theorem dX11_at_13 : decode cX11_at 13 = .ok (.iload_n 1, 1) := by decide +kernel
theorem dX11_at_14 : decode cX11_at 14 = .ok (.iaload, 1) := by decide +kernel
theorem dX11_at_15 : decode cX11_at 15 = .ok (.ifCond .ge 9, 3) := by decide +kernel
theorem dX11_at_18 : decode cX11_at 18 = .ok (.aload_n 0, 1) := by decide +kernel
theorem dX11_at_19 : decode cX11_at 19 = .ok (.iconst 1, 1) := by decide +kernel
theorem dX11_at_20 : decode cX11_at 20 = .ok (.invokevirtual 112, 3) := by decide +kernel
theorem dX11_at_23 : decode cX11_at 23 = .ok (.ireturn, 1) := by decide +kernel
theorem dX11_at_24 : decode cX11_at 24 = .ok (.iload_n 2, 1) := by decide +kernel
theorem dX11_at_25 : decode cX11_at 25 = .ok (.iconst 0, 1) := by decide +kernel
theorem dX11_at_26 : decode cX11_at 26 = .ok (.aload_n 0, 1) := by decide +kernel
theorem dX11_at_27 : decode cX11_at 27 = .ok (.getfield 13, 3) := by decide +kernel
theorem dX11_at_30 : decode cX11_at 30 = .ok (.iload_n 1, 1) := by decide +kernel
theorem dX11_at_31 : decode cX11_at 31 = .ok (.iaload, 1) := by decide +kernel
theorem dX11_at_32 : decode cX11_at 32 = .ok (.iconst 1, 1) := by decide +kernel
theorem dX11_at_33 : decode cX11_at 33 = .ok (.isub, 1) := by decide +kernel
theorem dX11_at_34 : decode cX11_at 34 = .ok (.invokestatic 98, 3) := by decide +kernel
theorem dX11_at_37 : decode cX11_at 37 = .ok (.ifCond .eq 17, 3) := by decide +kernel
theorem dX11_at_40 : decode cX11_at 40 = .ok (.aload_n 0, 1) := by decide +kernel
theorem dX11_at_41 : decode cX11_at 41 = .ok (.aload_n 0, 1) := by decide +kernel
theorem dX11_at_42 : decode cX11_at 42 = .ok (.iload_n 1, 1) := by decide +kernel
theorem dX11_at_43 : decode cX11_at 43 = .ok (.iload_n 2, 1) := by decide +kernel
theorem dX11_at_44 : decode cX11_at 44 = .ok (.invokevirtual 116, 3) := by decide +kernel
theorem dX11_at_47 : decode cX11_at 47 = .ok (.iconst 1, 1) := by decide +kernel
theorem dX11_at_48 : decode cX11_at 48 = .ok (.invokevirtual 120, 3) := by decide +kernel
theorem dX11_at_51 : decode cX11_at 51 = .ok (.goto 8, 3) := by decide +kernel
theorem dX11_at_54 : decode cX11_at 54 = .ok (.aload_n 0, 1) := by decide +kernel
theorem dX11_at_55 : decode cX11_at 55 = .ok (.iconst 2, 1) := by decide +kernel
theorem dX11_at_56 : decode cX11_at 56 = .ok (.invokevirtual 112, 3) := by decide +kernel
theorem dX11_at_59 : decode cX11_at 59 = .ok (.ireturn, 1) := by decide +kernel
theorem dX11_tear_0 : decode cX11_tear 0 = .ok (.iload_n 1, 1) := by decide +kernel
theorem dX11_tear_1 : decode cX11_tear 1 = .ok (.invokestatic 108, 3) := by decide +kernel
theorem dX11_tear_4 : decode cX11_tear 4 = .ok (.ifCond .ne 5, 3) := by decide +kernel
theorem dX11_tear_7 : decode cX11_tear 7 = .ok (.iconst (-1), 1) := by decide +kernel
theorem dX11_tear_8 : decode cX11_tear 8 = .ok (.ireturn, 1) := by decide +kernel
theorem dX11_tear_9 : decode cX11_tear 9 = .ok (.aload_n 0, 1) := by decide +kernel
theorem dX11_tear_10 : decode cX11_tear 10 = .ok (.getfield 13, 3) := by decide +kernel
theorem dX11_tear_13 : decode cX11_tear 13 = .ok (.iload_n 1, 1) := by decide +kernel
theorem dX11_tear_14 : decode cX11_tear 14 = .ok (.iaload, 1) := by decide +kernel
theorem dX11_tear_15 : decode cX11_tear 15 = .ok (.ifCond .ge 9, 3) := by decide +kernel
theorem dX11_tear_18 : decode cX11_tear 18 = .ok (.aload_n 0, 1) := by decide +kernel
theorem dX11_tear_19 : decode cX11_tear 19 = .ok (.iconst 1, 1) := by decide +kernel
theorem dX11_tear_20 : decode cX11_tear 20 = .ok (.invokevirtual 112, 3) := by decide +kernel
theorem dX11_tear_23 : decode cX11_tear 23 = .ok (.ireturn, 1) := by decide +kernel
theorem dX11_tear_24 : decode cX11_tear 24 = .ok (.aload_n 0, 1) := by decide +kernel
theorem dX11_tear_25 : decode cX11_tear 25 = .ok (.getfield 13, 3) := by decide +kernel
theorem dX11_tear_28 : decode cX11_tear 28 = .ok (.iload_n 1, 1) := by decide +kernel
theorem dX11_tear_29 : decode cX11_tear 29 = .ok (.iconst (-1), 1) := by decide +kernel
theorem dX11_tear_30 : decode cX11_tear 30 = .ok (.iastore, 1) := by decide +kernel
theorem dX11_tear_31 : decode cX11_tear 31 = .ok (.iconst 1, 1) := by decide +kernel
theorem dX11_tear_32 : decode cX11_tear 32 = .ok (.ireturn, 1) := by decide +kernel
theorem dX11_copy_0 : decode cX11_copy 0 = .ok (.iload_n 1, 1) := by decide +kernel
theorem dX11_copy_1 : decode cX11_copy 1 = .ok (.invokestatic 108, 3) := by decide +kernel
theorem dX11_copy_4 : decode cX11_copy 4 = .ok (.ifCond .eq 10, 3) := by decide +kernel
theorem dX11_copy_7 : decode cX11_copy 7 = .ok (.iload_n 3, 1) := by decide +kernel
theorem dX11_copy_8 : decode cX11_copy 8 = .ok (.invokestatic 108, 3) := by decide +kernel
theorem dX11_copy_11 : decode cX11_copy 11 = .ok (.ifCond .ne 5, 3) := by decide +kernel
theorem dX11_copy_14 : decode cX11_copy 14 = .ok (.iconst (-1), 1) := by decide +kernel
theorem dX11_copy_15 : decode cX11_copy 15 = .ok (.ireturn, 1) := by decide +kernel
theorem dX11_copy_16 : decode cX11_copy 16 = .ok (.iload 5, 2) := by decide +kernel
theorem dX11_copy_18 : decode cX11_copy 18 = .ok (.ifCond .ge 9, 3) := by decide +kernel
theorem dX11_copy_21 : decode cX11_copy 21 = .ok (.aload_n 0, 1) := by decide +kernel
theorem dX11_copy_22 : decode cX11_copy 22 = .ok (.iconst 5, 1) := by decide +kernel
theorem dX11_copy_23 : decode cX11_copy 23 = .ok (.invokevirtual 112, 3) := by decide +kernel
theorem dX11_copy_26 : decode cX11_copy 26 = .ok (.ireturn, 1) := by decide +kernel
theorem dX11_copy_27 : decode cX11_copy 27 = .ok (.aload_n 0, 1) := by decide +kernel
theorem dX11_copy_28 : decode cX11_copy 28 = .ok (.getfield 13, 3) := by decide +kernel
theorem dX11_copy_31 : decode cX11_copy 31 = .ok (.iload_n 1, 1) := by decide +kernel
theorem dX11_copy_32 : decode cX11_copy 32 = .ok (.iaload, 1) := by decide +kernel
theorem dX11_copy_33 : decode cX11_copy 33 = .ok (.ifCond .lt 12, 3) := by decide +kernel
theorem dX11_copy_36 : decode cX11_copy 36 = .ok (.aload_n 0, 1) := by decide +kernel
theorem dX11_copy_37 : decode cX11_copy 37 = .ok (.getfield 13, 3) := by decide +kernel
theorem dX11_copy_40 : decode cX11_copy 40 = .ok (.iload_n 3, 1) := by decide +kernel
theorem dX11_copy_41 : decode cX11_copy 41 = .ok (.iaload, 1) := by decide +kernel
theorem dX11_copy_42 : decode cX11_copy 42 = .ok (.ifCond .ge 9, 3) := by decide +kernel
theorem dX11_copy_45 : decode cX11_copy 45 = .ok (.aload_n 0, 1) := by decide +kernel
theorem dX11_copy_46 : decode cX11_copy 46 = .ok (.iconst 1, 1) := by decide +kernel
theorem dX11_copy_47 : decode cX11_copy 47 = .ok (.invokevirtual 112, 3) := by decide +kernel
theorem dX11_copy_50 : decode cX11_copy 50 = .ok (.ireturn, 1) := by decide +kernel
theorem dX11_copy_51 : decode cX11_copy 51 = .ok (.iload_n 2, 1) := by decide +kernel
theorem dX11_copy_52 : decode cX11_copy 52 = .ok (.ifCond .lt 43, 3) := by decide +kernel
theorem dX11_copy_55 : decode cX11_copy 55 = .ok (.iload 4, 2) := by decide +kernel
theorem dX11_copy_57 : decode cX11_copy 57 = .ok (.ifCond .lt 38, 3) := by decide +kernel
theorem dX11_copy_60 : decode cX11_copy 60 = .ok (.iload_n 2, 1) := by decide +kernel
theorem dX11_copy_61 : decode cX11_copy 61 = .ok (.i2l, 1) := by decide +kernel
theorem dX11_copy_62 : decode cX11_copy 62 = .ok (.iload 5, 2) := by decide +kernel
theorem dX11_copy_64 : decode cX11_copy 64 = .ok (.i2l, 1) := by decide +kernel
theorem dX11_copy_65 : decode cX11_copy 65 = .ok (.ladd, 1) := by decide +kernel
theorem dX11_copy_66 : decode cX11_copy 66 = .ok (.aload_n 0, 1) := by decide +kernel
theorem dX11_copy_67 : decode cX11_copy 67 = .ok (.getfield 13, 3) := by decide +kernel
theorem dX11_copy_70 : decode cX11_copy 70 = .ok (.iload_n 1, 1) := by decide +kernel
theorem dX11_copy_71 : decode cX11_copy 71 = .ok (.iaload, 1) := by decide +kernel
theorem dX11_copy_72 : decode cX11_copy 72 = .ok (.i2l, 1) := by decide +kernel
theorem dX11_copy_73 : decode cX11_copy 73 = .ok (.lcmp, 1) := by decide +kernel
theorem dX11_copy_74 : decode cX11_copy 74 = .ok (.ifCond .gt 21, 3) := by decide +kernel
theorem dX11_copy_77 : decode cX11_copy 77 = .ok (.iload 4, 2) := by decide +kernel
theorem dX11_copy_79 : decode cX11_copy 79 = .ok (.i2l, 1) := by decide +kernel
theorem dX11_copy_80 : decode cX11_copy 80 = .ok (.iload 5, 2) := by decide +kernel
theorem dX11_copy_82 : decode cX11_copy 82 = .ok (.i2l, 1) := by decide +kernel
theorem dX11_copy_83 : decode cX11_copy 83 = .ok (.ladd, 1) := by decide +kernel
theorem dX11_copy_84 : decode cX11_copy 84 = .ok (.aload_n 0, 1) := by decide +kernel
theorem dX11_copy_85 : decode cX11_copy 85 = .ok (.getfield 13, 3) := by decide +kernel
theorem dX11_copy_88 : decode cX11_copy 88 = .ok (.iload_n 3, 1) := by decide +kernel
theorem dX11_copy_89 : decode cX11_copy 89 = .ok (.iaload, 1) := by decide +kernel
theorem dX11_copy_90 : decode cX11_copy 90 = .ok (.i2l, 1) := by decide +kernel
theorem dX11_copy_91 : decode cX11_copy 91 = .ok (.lcmp, 1) := by decide +kernel
theorem dX11_copy_92 : decode cX11_copy 92 = .ok (.ifCond .le 9, 3) := by decide +kernel
theorem dX11_copy_95 : decode cX11_copy 95 = .ok (.aload_n 0, 1) := by decide +kernel
theorem dX11_copy_96 : decode cX11_copy 96 = .ok (.iconst 2, 1) := by decide +kernel
theorem dX11_copy_97 : decode cX11_copy 97 = .ok (.invokevirtual 112, 3) := by decide +kernel
theorem dX11_copy_100 : decode cX11_copy 100 = .ok (.ireturn, 1) := by decide +kernel
theorem dX11_copy_101 : decode cX11_copy 101 = .ok (.iconst 0, 1) := by decide +kernel
theorem dX11_copy_102 : decode cX11_copy 102 = .ok (.istore 6, 2) := by decide +kernel
theorem dX11_copy_104 : decode cX11_copy 104 = .ok (.iload 6, 2) := by decide +kernel
theorem dX11_copy_106 : decode cX11_copy 106 = .ok (.iload 5, 2) := by decide +kernel
theorem dX11_copy_108 : decode cX11_copy 108 = .ok (.if_icmp .ge 25, 3) := by decide +kernel
theorem dX11_copy_111 : decode cX11_copy 111 = .ok (.aload_n 0, 1) := by decide +kernel
theorem dX11_copy_112 : decode cX11_copy 112 = .ok (.getfield 19, 3) := by decide +kernel
theorem dX11_copy_115 : decode cX11_copy 115 = .ok (.iload 6, 2) := by decide +kernel
theorem dX11_copy_117 : decode cX11_copy 117 = .ok (.aload_n 0, 1) := by decide +kernel
theorem dX11_copy_118 : decode cX11_copy 118 = .ok (.iload_n 1, 1) := by decide +kernel
theorem dX11_copy_119 : decode cX11_copy 119 = .ok (.iload_n 2, 1) := by decide +kernel
theorem dX11_copy_120 : decode cX11_copy 120 = .ok (.iload 6, 2) := by decide +kernel
theorem dX11_copy_122 : decode cX11_copy 122 = .ok (.iadd, 1) := by decide +kernel
theorem dX11_copy_123 : decode cX11_copy 123 = .ok (.invokevirtual 116, 3) := by decide +kernel
theorem dX11_copy_126 : decode cX11_copy 126 = .ok (.iastore, 1) := by decide +kernel
theorem dX11_copy_127 : decode cX11_copy 127 = .ok (.iinc 6 1, 3) := by decide +kernel
theorem dX11_copy_130 : decode cX11_copy 130 = .ok (.goto (-26), 3) := by decide +kernel
theorem dX11_copy_133 : decode cX11_copy 133 = .ok (.iconst 0, 1) := by decide +kernel
theorem dX11_copy_134 : decode cX11_copy 134 = .ok (.istore 6, 2) := by decide +kernel
theorem dX11_copy_136 : decode cX11_copy 136 = .ok (.iload 6, 2) := by decide +kernel
theorem dX11_copy_138 : decode cX11_copy 138 = .ok (.iload 5, 2) := by decide +kernel
theorem dX11_copy_140 : decode cX11_copy 140 = .ok (.if_icmp .ge 31, 3) := by decide +kernel
theorem dX11_copy_143 : decode cX11_copy 143 = .ok (.aload_n 0, 1) := by decide +kernel
theorem dX11_copy_144 : decode cX11_copy 144 = .ok (.getfield 16, 3) := by decide +kernel
theorem dX11_copy_147 : decode cX11_copy 147 = .ok (.bipush 60, 2) := by decide +kernel
theorem dX11_copy_149 : decode cX11_copy 149 = .ok (.iload_n 3, 1) := by decide +kernel
theorem dX11_copy_150 : decode cX11_copy 150 = .ok (.imul, 1) := by decide +kernel
theorem dX11_copy_151 : decode cX11_copy 151 = .ok (.iload 4, 2) := by decide +kernel
theorem dX11_copy_153 : decode cX11_copy 153 = .ok (.iadd, 1) := by decide +kernel
theorem dX11_copy_154 : decode cX11_copy 154 = .ok (.iload 6, 2) := by decide +kernel
theorem dX11_copy_156 : decode cX11_copy 156 = .ok (.iadd, 1) := by decide +kernel
theorem dX11_copy_157 : decode cX11_copy 157 = .ok (.aload_n 0, 1) := by decide +kernel
theorem dX11_copy_158 : decode cX11_copy 158 = .ok (.getfield 19, 3) := by decide +kernel
theorem dX11_copy_161 : decode cX11_copy 161 = .ok (.iload 6, 2) := by decide +kernel
theorem dX11_copy_163 : decode cX11_copy 163 = .ok (.iaload, 1) := by decide +kernel
theorem dX11_copy_164 : decode cX11_copy 164 = .ok (.iastore, 1) := by decide +kernel
theorem dX11_copy_165 : decode cX11_copy 165 = .ok (.iinc 6 1, 3) := by decide +kernel
theorem dX11_copy_168 : decode cX11_copy 168 = .ok (.goto (-32), 3) := by decide +kernel
theorem dX11_copy_171 : decode cX11_copy 171 = .ok (.iconst 1, 1) := by decide +kernel
theorem dX11_copy_172 : decode cX11_copy 172 = .ok (.ireturn, 1) := by decide +kernel
theorem dX11_mean_0 : decode cX11_mean 0 = .ok (.iload_n 1, 1) := by decide +kernel
theorem dX11_mean_1 : decode cX11_mean 1 = .ok (.invokestatic 108, 3) := by decide +kernel
theorem dX11_mean_4 : decode cX11_mean 4 = .ok (.ifCond .ne 5, 3) := by decide +kernel
theorem dX11_mean_7 : decode cX11_mean 7 = .ok (.iconst (-1), 1) := by decide +kernel
theorem dX11_mean_8 : decode cX11_mean 8 = .ok (.ireturn, 1) := by decide +kernel
theorem dX11_mean_9 : decode cX11_mean 9 = .ok (.aload_n 0, 1) := by decide +kernel
theorem dX11_mean_10 : decode cX11_mean 10 = .ok (.getfield 13, 3) := by decide +kernel
theorem dX11_mean_13 : decode cX11_mean 13 = .ok (.iload_n 1, 1) := by decide +kernel
theorem dX11_mean_14 : decode cX11_mean 14 = .ok (.iaload, 1) := by decide +kernel
theorem dX11_mean_15 : decode cX11_mean 15 = .ok (.ifCond .ge 9, 3) := by decide +kernel
theorem dX11_mean_18 : decode cX11_mean 18 = .ok (.aload_n 0, 1) := by decide +kernel
theorem dX11_mean_19 : decode cX11_mean 19 = .ok (.iconst 1, 1) := by decide +kernel
theorem dX11_mean_20 : decode cX11_mean 20 = .ok (.invokevirtual 112, 3) := by decide +kernel
theorem dX11_mean_23 : decode cX11_mean 23 = .ok (.ireturn, 1) := by decide +kernel
theorem dX11_mean_24 : decode cX11_mean 24 = .ok (.aload_n 0, 1) := by decide +kernel
theorem dX11_mean_25 : decode cX11_mean 25 = .ok (.getfield 13, 3) := by decide +kernel
theorem dX11_mean_28 : decode cX11_mean 28 = .ok (.iload_n 1, 1) := by decide +kernel
theorem dX11_mean_29 : decode cX11_mean 29 = .ok (.iaload, 1) := by decide +kernel
theorem dX11_mean_30 : decode cX11_mean 30 = .ok (.ifCond .ne 9, 3) := by decide +kernel
theorem dX11_mean_33 : decode cX11_mean 33 = .ok (.aload_n 0, 1) := by decide +kernel
theorem dX11_mean_34 : decode cX11_mean 34 = .ok (.iconst 4, 1) := by decide +kernel
theorem dX11_mean_35 : decode cX11_mean 35 = .ok (.invokevirtual 112, 3) := by decide +kernel
theorem dX11_mean_38 : decode cX11_mean 38 = .ok (.ireturn, 1) := by decide +kernel
theorem dX11_mean_39 : decode cX11_mean 39 = .ok (.lconst 0, 1) := by decide +kernel
theorem dX11_mean_40 : decode cX11_mean 40 = .ok (.lstore_n 2, 1) := by decide +kernel
theorem dX11_mean_41 : decode cX11_mean 41 = .ok (.iconst 0, 1) := by decide +kernel
theorem dX11_mean_42 : decode cX11_mean 42 = .ok (.istore 4, 2) := by decide +kernel
theorem dX11_mean_44 : decode cX11_mean 44 = .ok (.iload 4, 2) := by decide +kernel
theorem dX11_mean_46 : decode cX11_mean 46 = .ok (.aload_n 0, 1) := by decide +kernel
theorem dX11_mean_47 : decode cX11_mean 47 = .ok (.getfield 13, 3) := by decide +kernel
theorem dX11_mean_50 : decode cX11_mean 50 = .ok (.iload_n 1, 1) := by decide +kernel
theorem dX11_mean_51 : decode cX11_mean 51 = .ok (.iaload, 1) := by decide +kernel
theorem dX11_mean_52 : decode cX11_mean 52 = .ok (.if_icmp .ge 20, 3) := by decide +kernel
theorem dX11_mean_55 : decode cX11_mean 55 = .ok (.lload_n 2, 1) := by decide +kernel
theorem dX11_mean_56 : decode cX11_mean 56 = .ok (.aload_n 0, 1) := by decide +kernel
theorem dX11_mean_57 : decode cX11_mean 57 = .ok (.iload_n 1, 1) := by decide +kernel
theorem dX11_mean_58 : decode cX11_mean 58 = .ok (.iload 4, 2) := by decide +kernel
theorem dX11_mean_60 : decode cX11_mean 60 = .ok (.invokevirtual 116, 3) := by decide +kernel
theorem dX11_mean_63 : decode cX11_mean 63 = .ok (.i2l, 1) := by decide +kernel
theorem dX11_mean_64 : decode cX11_mean 64 = .ok (.ladd, 1) := by decide +kernel
theorem dX11_mean_65 : decode cX11_mean 65 = .ok (.lstore_n 2, 1) := by decide +kernel
theorem dX11_mean_66 : decode cX11_mean 66 = .ok (.iinc 4 1, 3) := by decide +kernel
theorem dX11_mean_69 : decode cX11_mean 69 = .ok (.goto (-25), 3) := by decide +kernel
theorem dX11_mean_72 : decode cX11_mean 72 = .ok (.aload_n 0, 1) := by decide +kernel
theorem dX11_mean_73 : decode cX11_mean 73 = .ok (.lload_n 2, 1) := by decide +kernel
theorem dX11_mean_74 : decode cX11_mean 74 = .ok (.aload_n 0, 1) := by decide +kernel
theorem dX11_mean_75 : decode cX11_mean 75 = .ok (.getfield 13, 3) := by decide +kernel
theorem dX11_mean_78 : decode cX11_mean 78 = .ok (.iload_n 1, 1) := by decide +kernel
theorem dX11_mean_79 : decode cX11_mean 79 = .ok (.iaload, 1) := by decide +kernel
theorem dX11_mean_80 : decode cX11_mean 80 = .ok (.i2l, 1) := by decide +kernel
theorem dX11_mean_81 : decode cX11_mean 81 = .ok (.ldiv, 1) := by decide +kernel
theorem dX11_mean_82 : decode cX11_mean 82 = .ok (.l2i, 1) := by decide +kernel
theorem dX11_mean_83 : decode cX11_mean 83 = .ok (.iconst 1, 1) := by decide +kernel
theorem dX11_mean_84 : decode cX11_mean 84 = .ok (.invokevirtual 120, 3) := by decide +kernel
theorem dX11_mean_87 : decode cX11_mean 87 = .ok (.ireturn, 1) := by decide +kernel
theorem dX11_isText_0 : decode cX11_isText 0 = .ok (.iload_n 0, 1) := by decide +kernel
theorem dX11_isText_1 : decode cX11_isText 1 = .ok (.iconst 0, 1) := by decide +kernel
theorem dX11_isText_2 : decode cX11_isText 2 = .ok (.iconst 3, 1) := by decide +kernel
theorem dX11_isText_3 : decode cX11_isText 3 = .ok (.invokestatic 98, 3) := by decide +kernel
theorem dX11_isText_6 : decode cX11_isText 6 = .ok (.ireturn, 1) := by decide +kernel
theorem dX11_text_0 : decode cX11_text 0 = .ok (.iload_n 1, 1) := by decide +kernel
theorem dX11_text_1 : decode cX11_text 1 = .ok (.invokestatic 123, 3) := by decide +kernel
theorem dX11_text_4 : decode cX11_text 4 = .ok (.ifCond .eq 9, 3) := by decide +kernel
theorem dX11_text_7 : decode cX11_text 7 = .ok (.iload_n 2, 1) := by decide +kernel
theorem dX11_text_8 : decode cX11_text 8 = .ok (.bipush 100, 2) := by decide +kernel
theorem dX11_text_10 : decode cX11_text 10 = .ok (.if_icmp .le 5, 3) := by decide +kernel
theorem dX11_text_13 : decode cX11_text 13 = .ok (.iconst (-1), 1) := by decide +kernel
theorem dX11_text_14 : decode cX11_text 14 = .ok (.ireturn, 1) := by decide +kernel
theorem dX11_text_15 : decode cX11_text 15 = .ok (.iload_n 2, 1) := by decide +kernel
theorem dX11_text_16 : decode cX11_text 16 = .ok (.ifCond .ge 9, 3) := by decide +kernel
theorem dX11_text_19 : decode cX11_text 19 = .ok (.aload_n 0, 1) := by decide +kernel
theorem dX11_text_20 : decode cX11_text 20 = .ok (.iconst 5, 1) := by decide +kernel
theorem dX11_text_21 : decode cX11_text 21 = .ok (.invokevirtual 112, 3) := by decide +kernel
theorem dX11_text_24 : decode cX11_text 24 = .ok (.ireturn, 1) := by decide +kernel
theorem dX11_text_25 : decode cX11_text 25 = .ok (.aload_n 0, 1) := by decide +kernel
theorem dX11_text_26 : decode cX11_text 26 = .ok (.getfield 22, 3) := by decide +kernel
theorem dX11_text_29 : decode cX11_text 29 = .ok (.iload_n 1, 1) := by decide +kernel
theorem dX11_text_30 : decode cX11_text 30 = .ok (.iload_n 2, 1) := by decide +kernel
theorem dX11_text_31 : decode cX11_text 31 = .ok (.iastore, 1) := by decide +kernel
theorem dX11_text_32 : decode cX11_text 32 = .ok (.iconst 0, 1) := by decide +kernel
theorem dX11_text_33 : decode cX11_text 33 = .ok (.istore_n 3, 1) := by decide +kernel
theorem dX11_text_34 : decode cX11_text 34 = .ok (.iload_n 3, 1) := by decide +kernel
theorem dX11_text_35 : decode cX11_text 35 = .ok (.bipush 100, 2) := by decide +kernel
theorem dX11_text_37 : decode cX11_text 37 = .ok (.if_icmp .ge 22, 3) := by decide +kernel
theorem dX11_text_40 : decode cX11_text 40 = .ok (.aload_n 0, 1) := by decide +kernel
theorem dX11_text_41 : decode cX11_text 41 = .ok (.getfield 25, 3) := by decide +kernel
theorem dX11_text_44 : decode cX11_text 44 = .ok (.bipush 100, 2) := by decide +kernel
theorem dX11_text_46 : decode cX11_text 46 = .ok (.iload_n 1, 1) := by decide +kernel
theorem dX11_text_47 : decode cX11_text 47 = .ok (.imul, 1) := by decide +kernel
theorem dX11_text_48 : decode cX11_text 48 = .ok (.iload_n 3, 1) := by decide +kernel
theorem dX11_text_49 : decode cX11_text 49 = .ok (.iadd, 1) := by decide +kernel
theorem dX11_text_50 : decode cX11_text 50 = .ok (.bipush 32, 2) := by decide +kernel
theorem dX11_text_52 : decode cX11_text 52 = .ok (.bastore, 1) := by decide +kernel
theorem dX11_text_53 : decode cX11_text 53 = .ok (.iinc 3 1, 3) := by decide +kernel
theorem dX11_text_56 : decode cX11_text 56 = .ok (.goto (-22), 3) := by decide +kernel
theorem dX11_text_59 : decode cX11_text 59 = .ok (.iload_n 2, 1) := by decide +kernel
theorem dX11_text_60 : decode cX11_text 60 = .ok (.ireturn, 1) := by decide +kernel
theorem dX11_put_0 : decode cX11_put 0 = .ok (.iload_n 1, 1) := by decide +kernel
theorem dX11_put_1 : decode cX11_put 1 = .ok (.invokestatic 123, 3) := by decide +kernel
theorem dX11_put_4 : decode cX11_put 4 = .ok (.ifCond .ne 5, 3) := by decide +kernel
theorem dX11_put_7 : decode cX11_put 7 = .ok (.iconst (-1), 1) := by decide +kernel
theorem dX11_put_8 : decode cX11_put 8 = .ok (.ireturn, 1) := by decide +kernel
theorem dX11_put_9 : decode cX11_put 9 = .ok (.aload_n 0, 1) := by decide +kernel
theorem dX11_put_10 : decode cX11_put 10 = .ok (.getfield 22, 3) := by decide +kernel
theorem dX11_put_13 : decode cX11_put 13 = .ok (.iload_n 1, 1) := by decide +kernel
theorem dX11_put_14 : decode cX11_put 14 = .ok (.iaload, 1) := by decide +kernel
theorem dX11_put_15 : decode cX11_put 15 = .ok (.ifCond .ge 9, 3) := by decide +kernel
theorem dX11_put_18 : decode cX11_put 18 = .ok (.aload_n 0, 1) := by decide +kernel
theorem dX11_put_19 : decode cX11_put 19 = .ok (.iconst 1, 1) := by decide +kernel
theorem dX11_put_20 : decode cX11_put 20 = .ok (.invokevirtual 112, 3) := by decide +kernel
theorem dX11_put_23 : decode cX11_put 23 = .ok (.ireturn, 1) := by decide +kernel
theorem dX11_put_24 : decode cX11_put 24 = .ok (.iload_n 2, 1) := by decide +kernel
theorem dX11_put_25 : decode cX11_put 25 = .ok (.iconst 0, 1) := by decide +kernel
theorem dX11_put_26 : decode cX11_put 26 = .ok (.aload_n 0, 1) := by decide +kernel
theorem dX11_put_27 : decode cX11_put 27 = .ok (.getfield 22, 3) := by decide +kernel
theorem dX11_put_30 : decode cX11_put 30 = .ok (.iload_n 1, 1) := by decide +kernel
theorem dX11_put_31 : decode cX11_put 31 = .ok (.iaload, 1) := by decide +kernel
theorem dX11_put_32 : decode cX11_put 32 = .ok (.iconst 1, 1) := by decide +kernel
theorem dX11_put_33 : decode cX11_put 33 = .ok (.isub, 1) := by decide +kernel
theorem dX11_put_34 : decode cX11_put 34 = .ok (.invokestatic 98, 3) := by decide +kernel
theorem dX11_put_37 : decode cX11_put 37 = .ok (.ifCond .ne 9, 3) := by decide +kernel
theorem dX11_put_40 : decode cX11_put 40 = .ok (.aload_n 0, 1) := by decide +kernel
theorem dX11_put_41 : decode cX11_put 41 = .ok (.iconst 2, 1) := by decide +kernel
theorem dX11_put_42 : decode cX11_put 42 = .ok (.invokevirtual 112, 3) := by decide +kernel
theorem dX11_put_45 : decode cX11_put 45 = .ok (.ireturn, 1) := by decide +kernel
theorem dX11_put_46 : decode cX11_put 46 = .ok (.aload_n 0, 1) := by decide +kernel
theorem dX11_put_47 : decode cX11_put 47 = .ok (.getfield 25, 3) := by decide +kernel
theorem dX11_put_50 : decode cX11_put 50 = .ok (.bipush 100, 2) := by decide +kernel
theorem dX11_put_52 : decode cX11_put 52 = .ok (.iload_n 1, 1) := by decide +kernel
theorem dX11_put_53 : decode cX11_put 53 = .ok (.imul, 1) := by decide +kernel
theorem dX11_put_54 : decode cX11_put 54 = .ok (.iload_n 2, 1) := by decide +kernel
theorem dX11_put_55 : decode cX11_put 55 = .ok (.iadd, 1) := by decide +kernel
theorem dX11_put_56 : decode cX11_put 56 = .ok (.baload, 1) := by decide +kernel
theorem dX11_put_57 : decode cX11_put 57 = .ok (.istore 4, 2) := by decide +kernel
theorem dX11_put_59 : decode cX11_put 59 = .ok (.aload_n 0, 1) := by decide +kernel
theorem dX11_put_60 : decode cX11_put 60 = .ok (.getfield 25, 3) := by decide +kernel
theorem dX11_put_63 : decode cX11_put 63 = .ok (.bipush 100, 2) := by decide +kernel
theorem dX11_put_65 : decode cX11_put 65 = .ok (.iload_n 1, 1) := by decide +kernel
theorem dX11_put_66 : decode cX11_put 66 = .ok (.imul, 1) := by decide +kernel
theorem dX11_put_67 : decode cX11_put 67 = .ok (.iload_n 2, 1) := by decide +kernel
theorem dX11_put_68 : decode cX11_put 68 = .ok (.iadd, 1) := by decide +kernel
theorem dX11_put_69 : decode cX11_put 69 = .ok (.iload_n 3, 1) := by decide +kernel
theorem dX11_put_70 : decode cX11_put 70 = .ok (.i2b, 1) := by decide +kernel
theorem dX11_put_71 : decode cX11_put 71 = .ok (.bastore, 1) := by decide +kernel
theorem dX11_put_72 : decode cX11_put 72 = .ok (.sipush 1000, 3) := by decide +kernel
theorem dX11_put_75 : decode cX11_put 75 = .ok (.iload 4, 2) := by decide +kernel
theorem dX11_put_77 : decode cX11_put 77 = .ok (.iadd, 1) := by decide +kernel
theorem dX11_put_78 : decode cX11_put 78 = .ok (.ireturn, 1) := by decide +kernel
theorem dX11_byteAt_0 : decode cX11_byteAt 0 = .ok (.iload_n 2, 1) := by decide +kernel
theorem dX11_byteAt_1 : decode cX11_byteAt 1 = .ok (.aload_n 0, 1) := by decide +kernel
theorem dX11_byteAt_2 : decode cX11_byteAt 2 = .ok (.getfield 22, 3) := by decide +kernel
theorem dX11_byteAt_5 : decode cX11_byteAt 5 = .ok (.iload_n 1, 1) := by decide +kernel
theorem dX11_byteAt_6 : decode cX11_byteAt 6 = .ok (.iaload, 1) := by decide +kernel
theorem dX11_byteAt_7 : decode cX11_byteAt 7 = .ok (.if_icmp .ge 17, 3) := by decide +kernel
theorem dX11_byteAt_10 : decode cX11_byteAt 10 = .ok (.aload_n 0, 1) := by decide +kernel
theorem dX11_byteAt_11 : decode cX11_byteAt 11 = .ok (.getfield 25, 3) := by decide +kernel
theorem dX11_byteAt_14 : decode cX11_byteAt 14 = .ok (.bipush 100, 2) := by decide +kernel
theorem dX11_byteAt_16 : decode cX11_byteAt 16 = .ok (.iload_n 1, 1) := by decide +kernel
theorem dX11_byteAt_17 : decode cX11_byteAt 17 = .ok (.imul, 1) := by decide +kernel
theorem dX11_byteAt_18 : decode cX11_byteAt 18 = .ok (.iload_n 2, 1) := by decide +kernel
theorem dX11_byteAt_19 : decode cX11_byteAt 19 = .ok (.iadd, 1) := by decide +kernel
theorem dX11_byteAt_20 : decode cX11_byteAt 20 = .ok (.baload, 1) := by decide +kernel
theorem dX11_byteAt_21 : decode cX11_byteAt 21 = .ok (.goto 4, 3) := by decide +kernel
theorem dX11_byteAt_24 : decode cX11_byteAt 24 = .ok (.iconst 0, 1) := by decide +kernel
theorem dX11_byteAt_25 : decode cX11_byteAt 25 = .ok (.ireturn, 1) := by decide +kernel
theorem dX11_kindOf_0 : decode cX11_kindOf 0 = .ok (.iload_n 0, 1) := by decide +kernel
theorem dX11_kindOf_1 : decode cX11_kindOf 1 = .ok (.tableswitch 103 98 116 #[93, 103, 103, 101, 103, 103, 97, 103, 103, 103, 95, 103, 103, 103, 103, 103, 103, 99, 91], 91) := by decide +kernel
theorem dX11_kindOf_92 : decode cX11_kindOf 92 = .ok (.iconst 0, 1) := by decide +kernel
theorem dX11_kindOf_93 : decode cX11_kindOf 93 = .ok (.ireturn, 1) := by decide +kernel
theorem dX11_kindOf_94 : decode cX11_kindOf 94 = .ok (.iconst 1, 1) := by decide +kernel
theorem dX11_kindOf_95 : decode cX11_kindOf 95 = .ok (.ireturn, 1) := by decide +kernel
theorem dX11_kindOf_96 : decode cX11_kindOf 96 = .ok (.iconst 2, 1) := by decide +kernel
theorem dX11_kindOf_97 : decode cX11_kindOf 97 = .ok (.ireturn, 1) := by decide +kernel
theorem dX11_kindOf_98 : decode cX11_kindOf 98 = .ok (.iconst 3, 1) := by decide +kernel
theorem dX11_kindOf_99 : decode cX11_kindOf 99 = .ok (.ireturn, 1) := by decide +kernel
theorem dX11_kindOf_100 : decode cX11_kindOf 100 = .ok (.iconst 4, 1) := by decide +kernel
theorem dX11_kindOf_101 : decode cX11_kindOf 101 = .ok (.ireturn, 1) := by decide +kernel
theorem dX11_kindOf_102 : decode cX11_kindOf 102 = .ok (.iconst 5, 1) := by decide +kernel
theorem dX11_kindOf_103 : decode cX11_kindOf 103 = .ok (.ireturn, 1) := by decide +kernel
theorem dX11_kindOf_104 : decode cX11_kindOf 104 = .ok (.bipush (-9), 2) := by decide +kernel
theorem dX11_kindOf_106 : decode cX11_kindOf 106 = .ok (.ireturn, 1) := by decide +kernel
theorem dX11_isBagKind_0 : decode cX11_isBagKind 0 = .ok (.iload_n 0, 1) := by decide +kernel
theorem dX11_isBagKind_1 : decode cX11_isBagKind 1 = .ok (.iconst 1, 1) := by decide +kernel
theorem dX11_isBagKind_2 : decode cX11_isBagKind 2 = .ok (.if_icmp .eq 8, 3) := by decide +kernel
theorem dX11_isBagKind_5 : decode cX11_isBagKind 5 = .ok (.iload_n 0, 1) := by decide +kernel
theorem dX11_isBagKind_6 : decode cX11_isBagKind 6 = .ok (.iconst 4, 1) := by decide +kernel
theorem dX11_isBagKind_7 : decode cX11_isBagKind 7 = .ok (.if_icmp .ne 7, 3) := by decide +kernel
theorem dX11_isBagKind_10 : decode cX11_isBagKind 10 = .ok (.iconst 1, 1) := by decide +kernel
theorem dX11_isBagKind_11 : decode cX11_isBagKind 11 = .ok (.goto 4, 3) := by decide +kernel
theorem dX11_isBagKind_14 : decode cX11_isBagKind 14 = .ok (.iconst 0, 1) := by decide +kernel
theorem dX11_isBagKind_15 : decode cX11_isBagKind 15 = .ok (.ireturn, 1) := by decide +kernel
theorem dX11_isLivingKind_0 : decode cX11_isLivingKind 0 = .ok (.iload_n 0, 1) := by decide +kernel
theorem dX11_isLivingKind_1 : decode cX11_isLivingKind 1 = .ok (.iconst 2, 1) := by decide +kernel
theorem dX11_isLivingKind_2 : decode cX11_isLivingKind 2 = .ok (.if_icmp .eq 8, 3) := by decide +kernel
theorem dX11_isLivingKind_5 : decode cX11_isLivingKind 5 = .ok (.iload_n 0, 1) := by decide +kernel
theorem dX11_isLivingKind_6 : decode cX11_isLivingKind 6 = .ok (.iconst 5, 1) := by decide +kernel
theorem dX11_isLivingKind_7 : decode cX11_isLivingKind 7 = .ok (.if_icmp .ne 7, 3) := by decide +kernel
theorem dX11_isLivingKind_10 : decode cX11_isLivingKind 10 = .ok (.iconst 1, 1) := by decide +kernel
theorem dX11_isLivingKind_11 : decode cX11_isLivingKind 11 = .ok (.goto 4, 3) := by decide +kernel
theorem dX11_isLivingKind_14 : decode cX11_isLivingKind 14 = .ok (.iconst 0, 1) := by decide +kernel
theorem dX11_isLivingKind_15 : decode cX11_isLivingKind 15 = .ok (.ireturn, 1) := by decide +kernel
theorem dX11_counts_0 : decode cX11_counts 0 = .ok (.iload_n 0, 1) := by decide +kernel
theorem dX11_counts_1 : decode cX11_counts 1 = .ok (.iconst 3, 1) := by decide +kernel
theorem dX11_counts_2 : decode cX11_counts 2 = .ok (.if_icmp .eq 8, 3) := by decide +kernel
theorem dX11_counts_5 : decode cX11_counts 5 = .ok (.iload_n 0, 1) := by decide +kernel
theorem dX11_counts_6 : decode cX11_counts 6 = .ok (.iconst 5, 1) := by decide +kernel
theorem dX11_counts_7 : decode cX11_counts 7 = .ok (.if_icmp .ne 7, 3) := by decide +kernel
theorem dX11_counts_10 : decode cX11_counts 10 = .ok (.iconst 2, 1) := by decide +kernel
theorem dX11_counts_11 : decode cX11_counts 11 = .ok (.goto 4, 3) := by decide +kernel
theorem dX11_counts_14 : decode cX11_counts 14 = .ok (.iconst 1, 1) := by decide +kernel
theorem dX11_counts_15 : decode cX11_counts 15 = .ok (.ireturn, 1) := by decide +kernel
theorem dX11_figure_0 : decode cX11_figure 0 = .ok (.aload_n 0, 1) := by decide +kernel
theorem dX11_figure_1 : decode cX11_figure 1 = .ok (.aload_n 0, 1) := by decide +kernel
theorem dX11_figure_2 : decode cX11_figure 2 = .ok (.iload_n 1, 1) := by decide +kernel
theorem dX11_figure_3 : decode cX11_figure 3 = .ok (.aload_n 0, 1) := by decide +kernel
theorem dX11_figure_4 : decode cX11_figure 4 = .ok (.getfield 126, 3) := by decide +kernel
theorem dX11_figure_7 : decode cX11_figure 7 = .ok (.invokevirtual 129, 3) := by decide +kernel
theorem dX11_figure_10 : decode cX11_figure 10 = .ok (.bipush 48, 2) := by decide +kernel
theorem dX11_figure_12 : decode cX11_figure 12 = .ok (.isub, 1) := by decide +kernel
theorem dX11_figure_13 : decode cX11_figure 13 = .ok (.putfield 132, 3) := by decide +kernel
theorem dX11_figure_16 : decode cX11_figure 16 = .ok (.aload_n 0, 1) := by decide +kernel
theorem dX11_figure_17 : decode cX11_figure 17 = .ok (.getfield 132, 3) := by decide +kernel
theorem dX11_figure_20 : decode cX11_figure 20 = .ok (.iload_n 2, 1) := by decide +kernel
theorem dX11_figure_21 : decode cX11_figure 21 = .ok (.iload_n 3, 1) := by decide +kernel
theorem dX11_figure_22 : decode cX11_figure 22 = .ok (.invokestatic 98, 3) := by decide +kernel
theorem dX11_figure_25 : decode cX11_figure 25 = .ok (.istore 4, 2) := by decide +kernel
theorem dX11_figure_27 : decode cX11_figure 27 = .ok (.aload_n 0, 1) := by decide +kernel
theorem dX11_figure_28 : decode cX11_figure 28 = .ok (.dup, 1) := by decide +kernel
theorem dX11_figure_29 : decode cX11_figure 29 = .ok (.getfield 126, 3) := by decide +kernel
theorem dX11_figure_32 : decode cX11_figure 32 = .ok (.iload 4, 2) := by decide +kernel
theorem dX11_figure_34 : decode cX11_figure 34 = .ok (.ifCond .eq 7, 3) := by decide +kernel
theorem dX11_figure_37 : decode cX11_figure 37 = .ok (.iconst 1, 1) := by decide +kernel
theorem dX11_figure_38 : decode cX11_figure 38 = .ok (.goto 4, 3) := by decide +kernel
theorem dX11_figure_41 : decode cX11_figure 41 = .ok (.iconst 0, 1) := by decide +kernel
theorem dX11_figure_42 : decode cX11_figure 42 = .ok (.iadd, 1) := by decide +kernel
theorem dX11_figure_43 : decode cX11_figure 43 = .ok (.putfield 126, 3) := by decide +kernel
theorem dX11_figure_46 : decode cX11_figure 46 = .ok (.iload 4, 2) := by decide +kernel
theorem dX11_figure_48 : decode cX11_figure 48 = .ok (.ireturn, 1) := by decide +kernel
theorem dX11_readsPeople_0 : decode cX11_readsPeople 0 = .ok (.aload_n 0, 1) := by decide +kernel
theorem dX11_readsPeople_1 : decode cX11_readsPeople 1 = .ok (.iload_n 1, 1) := by decide +kernel
theorem dX11_readsPeople_2 : decode cX11_readsPeople 2 = .ok (.aload_n 0, 1) := by decide +kernel
theorem dX11_readsPeople_3 : decode cX11_readsPeople 3 = .ok (.getfield 126, 3) := by decide +kernel
theorem dX11_readsPeople_6 : decode cX11_readsPeople 6 = .ok (.invokevirtual 129, 3) := by decide +kernel
theorem dX11_readsPeople_9 : decode cX11_readsPeople 9 = .ok (.bipush 112, 2) := by decide +kernel
theorem dX11_readsPeople_11 : decode cX11_readsPeople 11 = .ok (.if_icmp .eq 5, 3) := by decide +kernel
theorem dX11_readsPeople_14 : decode cX11_readsPeople 14 = .ok (.iconst 0, 1) := by decide +kernel
theorem dX11_readsPeople_15 : decode cX11_readsPeople 15 = .ok (.ireturn, 1) := by decide +kernel
theorem dX11_readsPeople_16 : decode cX11_readsPeople 16 = .ok (.aload_n 0, 1) := by decide +kernel
theorem dX11_readsPeople_17 : decode cX11_readsPeople 17 = .ok (.dup, 1) := by decide +kernel
theorem dX11_readsPeople_18 : decode cX11_readsPeople 18 = .ok (.getfield 126, 3) := by decide +kernel
theorem dX11_readsPeople_21 : decode cX11_readsPeople 21 = .ok (.iconst 1, 1) := by decide +kernel
theorem dX11_readsPeople_22 : decode cX11_readsPeople 22 = .ok (.iadd, 1) := by decide +kernel
theorem dX11_readsPeople_23 : decode cX11_readsPeople 23 = .ok (.putfield 126, 3) := by decide +kernel
theorem dX11_readsPeople_26 : decode cX11_readsPeople 26 = .ok (.aload_n 0, 1) := by decide +kernel
theorem dX11_readsPeople_27 : decode cX11_readsPeople 27 = .ok (.iload_n 1, 1) := by decide +kernel
theorem dX11_readsPeople_28 : decode cX11_readsPeople 28 = .ok (.iconst 1, 1) := by decide +kernel
theorem dX11_readsPeople_29 : decode cX11_readsPeople 29 = .ok (.iconst 4, 1) := by decide +kernel
theorem dX11_readsPeople_30 : decode cX11_readsPeople 30 = .ok (.invokevirtual 135, 3) := by decide +kernel
theorem dX11_readsPeople_33 : decode cX11_readsPeople 33 = .ok (.ifCond .ne 5, 3) := by decide +kernel
theorem dX11_readsPeople_36 : decode cX11_readsPeople 36 = .ok (.iconst 0, 1) := by decide +kernel
theorem dX11_readsPeople_37 : decode cX11_readsPeople 37 = .ok (.ireturn, 1) := by decide +kernel
theorem dX11_readsPeople_38 : decode cX11_readsPeople 38 = .ok (.aload_n 0, 1) := by decide +kernel
theorem dX11_readsPeople_39 : decode cX11_readsPeople 39 = .ok (.aload_n 0, 1) := by decide +kernel
theorem dX11_readsPeople_40 : decode cX11_readsPeople 40 = .ok (.getfield 132, 3) := by decide +kernel
theorem dX11_readsPeople_43 : decode cX11_readsPeople 43 = .ok (.putfield 138, 3) := by decide +kernel
theorem dX11_readsPeople_46 : decode cX11_readsPeople 46 = .ok (.iconst 1, 1) := by decide +kernel
theorem dX11_readsPeople_47 : decode cX11_readsPeople 47 = .ok (.ireturn, 1) := by decide +kernel
theorem dX11_readsThing_0 : decode cX11_readsThing 0 = .ok (.aload_n 0, 1) := by decide +kernel
theorem dX11_readsThing_1 : decode cX11_readsThing 1 = .ok (.iload_n 1, 1) := by decide +kernel
theorem dX11_readsThing_2 : decode cX11_readsThing 2 = .ok (.aload_n 0, 1) := by decide +kernel
theorem dX11_readsThing_3 : decode cX11_readsThing 3 = .ok (.getfield 126, 3) := by decide +kernel
theorem dX11_readsThing_6 : decode cX11_readsThing 6 = .ok (.invokevirtual 129, 3) := by decide +kernel
theorem dX11_readsThing_9 : decode cX11_readsThing 9 = .ok (.invokestatic 141, 3) := by decide +kernel
theorem dX11_readsThing_12 : decode cX11_readsThing 12 = .ok (.istore_n 2, 1) := by decide +kernel
theorem dX11_readsThing_13 : decode cX11_readsThing 13 = .ok (.iload_n 2, 1) := by decide +kernel
theorem dX11_readsThing_14 : decode cX11_readsThing 14 = .ok (.bipush (-9), 2) := by decide +kernel
theorem dX11_readsThing_16 : decode cX11_readsThing 16 = .ok (.if_icmp .eq 33, 3) := by decide +kernel
theorem dX11_readsThing_19 : decode cX11_readsThing 19 = .ok (.aload_n 0, 1) := by decide +kernel
theorem dX11_readsThing_20 : decode cX11_readsThing 20 = .ok (.getfield 144, 3) := by decide +kernel
theorem dX11_readsThing_23 : decode cX11_readsThing 23 = .ok (.iconst 5, 1) := by decide +kernel
theorem dX11_readsThing_24 : decode cX11_readsThing 24 = .ok (.if_icmp .eq 25, 3) := by decide +kernel
theorem dX11_readsThing_27 : decode cX11_readsThing 27 = .ok (.aload_n 0, 1) := by decide +kernel
theorem dX11_readsThing_28 : decode cX11_readsThing 28 = .ok (.getfield 147, 3) := by decide +kernel
theorem dX11_readsThing_31 : decode cX11_readsThing 31 = .ok (.ifCond .gt 18, 3) := by decide +kernel
theorem dX11_readsThing_34 : decode cX11_readsThing 34 = .ok (.iload_n 2, 1) := by decide +kernel
theorem dX11_readsThing_35 : decode cX11_readsThing 35 = .ok (.invokestatic 150, 3) := by decide +kernel
theorem dX11_readsThing_38 : decode cX11_readsThing 38 = .ok (.ifCond .eq 13, 3) := by decide +kernel
theorem dX11_readsThing_41 : decode cX11_readsThing 41 = .ok (.aload_n 0, 1) := by decide +kernel
theorem dX11_readsThing_42 : decode cX11_readsThing 42 = .ok (.getfield 153, 3) := by decide +kernel
theorem dX11_readsThing_45 : decode cX11_readsThing 45 = .ok (.iconst 2, 1) := by decide +kernel
theorem dX11_readsThing_46 : decode cX11_readsThing 46 = .ok (.if_icmp .ne 5, 3) := by decide +kernel
theorem dX11_readsThing_49 : decode cX11_readsThing 49 = .ok (.iconst 0, 1) := by decide +kernel
theorem dX11_readsThing_50 : decode cX11_readsThing 50 = .ok (.ireturn, 1) := by decide +kernel
theorem dX11_readsThing_51 : decode cX11_readsThing 51 = .ok (.aload_n 0, 1) := by decide +kernel
theorem dX11_readsThing_52 : decode cX11_readsThing 52 = .ok (.dup, 1) := by decide +kernel
theorem dX11_readsThing_53 : decode cX11_readsThing 53 = .ok (.getfield 126, 3) := by decide +kernel
theorem dX11_readsThing_56 : decode cX11_readsThing 56 = .ok (.iconst 1, 1) := by decide +kernel
theorem dX11_readsThing_57 : decode cX11_readsThing 57 = .ok (.iadd, 1) := by decide +kernel
theorem dX11_readsThing_58 : decode cX11_readsThing 58 = .ok (.putfield 126, 3) := by decide +kernel
theorem dX11_readsThing_61 : decode cX11_readsThing 61 = .ok (.aload_n 0, 1) := by decide +kernel
theorem dX11_readsThing_62 : decode cX11_readsThing 62 = .ok (.iload_n 1, 1) := by decide +kernel
theorem dX11_readsThing_63 : decode cX11_readsThing 63 = .ok (.aload_n 0, 1) := by decide +kernel
theorem dX11_readsThing_64 : decode cX11_readsThing 64 = .ok (.getfield 126, 3) := by decide +kernel
theorem dX11_readsThing_67 : decode cX11_readsThing 67 = .ok (.invokevirtual 129, 3) := by decide +kernel
theorem dX11_readsThing_70 : decode cX11_readsThing 70 = .ok (.istore_n 3, 1) := by decide +kernel
theorem dX11_readsThing_71 : decode cX11_readsThing 71 = .ok (.iload_n 3, 1) := by decide +kernel
theorem dX11_readsThing_72 : decode cX11_readsThing 72 = .ok (.bipush 122, 2) := by decide +kernel
theorem dX11_readsThing_74 : decode cX11_readsThing 74 = .ok (.if_icmp .ne 7, 3) := by decide +kernel
theorem dX11_readsThing_77 : decode cX11_readsThing 77 = .ok (.iconst 4, 1) := by decide +kernel
theorem dX11_readsThing_78 : decode cX11_readsThing 78 = .ok (.goto 7, 3) := by decide +kernel
theorem dX11_readsThing_81 : decode cX11_readsThing 81 = .ok (.iload_n 3, 1) := by decide +kernel
theorem dX11_readsThing_82 : decode cX11_readsThing 82 = .ok (.bipush 48, 2) := by decide +kernel
theorem dX11_readsThing_84 : decode cX11_readsThing 84 = .ok (.isub, 1) := by decide +kernel
theorem dX11_readsThing_85 : decode cX11_readsThing 85 = .ok (.istore 4, 2) := by decide +kernel
theorem dX11_readsThing_87 : decode cX11_readsThing 87 = .ok (.iload_n 3, 1) := by decide +kernel
theorem dX11_readsThing_88 : decode cX11_readsThing 88 = .ok (.bipush 122, 2) := by decide +kernel
theorem dX11_readsThing_90 : decode cX11_readsThing 90 = .ok (.if_icmp .ne 18, 3) := by decide +kernel
theorem dX11_readsThing_93 : decode cX11_readsThing 93 = .ok (.iload_n 2, 1) := by decide +kernel
theorem dX11_readsThing_94 : decode cX11_readsThing 94 = .ok (.invokestatic 156, 3) := by decide +kernel
theorem dX11_readsThing_97 : decode cX11_readsThing 97 = .ok (.ifCond .ne 7, 3) := by decide +kernel
theorem dX11_readsThing_100 : decode cX11_readsThing 100 = .ok (.iconst 1, 1) := by decide +kernel
theorem dX11_readsThing_101 : decode cX11_readsThing 101 = .ok (.goto 19, 3) := by decide +kernel
theorem dX11_readsThing_104 : decode cX11_readsThing 104 = .ok (.iconst 0, 1) := by decide +kernel
theorem dX11_readsThing_105 : decode cX11_readsThing 105 = .ok (.goto 15, 3) := by decide +kernel
theorem dX11_readsThing_108 : decode cX11_readsThing 108 = .ok (.iload 4, 2) := by decide +kernel
theorem dX11_readsThing_110 : decode cX11_readsThing 110 = .ok (.iconst 0, 1) := by decide +kernel
theorem dX11_readsThing_111 : decode cX11_readsThing 111 = .ok (.aload_n 0, 1) := by decide +kernel
theorem dX11_readsThing_112 : decode cX11_readsThing 112 = .ok (.getfield 138, 3) := by decide +kernel
theorem dX11_readsThing_115 : decode cX11_readsThing 115 = .ok (.iconst 1, 1) := by decide +kernel
theorem dX11_readsThing_116 : decode cX11_readsThing 116 = .ok (.isub, 1) := by decide +kernel
theorem dX11_readsThing_117 : decode cX11_readsThing 117 = .ok (.invokestatic 98, 3) := by decide +kernel
theorem dX11_readsThing_120 : decode cX11_readsThing 120 = .ok (.istore 5, 2) := by decide +kernel
theorem dX11_readsThing_122 : decode cX11_readsThing 122 = .ok (.iload_n 2, 1) := by decide +kernel
theorem dX11_readsThing_123 : decode cX11_readsThing 123 = .ok (.invokestatic 159, 3) := by decide +kernel
theorem dX11_readsThing_126 : decode cX11_readsThing 126 = .ok (.istore 6, 2) := by decide +kernel
theorem dX11_readsThing_128 : decode cX11_readsThing 128 = .ok (.iconst 0, 1) := by decide +kernel
theorem dX11_readsThing_129 : decode cX11_readsThing 129 = .ok (.istore 7, 2) := by decide +kernel
theorem dX11_readsThing_131 : decode cX11_readsThing 131 = .ok (.iload 7, 2) := by decide +kernel
theorem dX11_readsThing_133 : decode cX11_readsThing 133 = .ok (.aload_n 0, 1) := by decide +kernel
theorem dX11_readsThing_134 : decode cX11_readsThing 134 = .ok (.getfield 144, 3) := by decide +kernel
theorem dX11_readsThing_137 : decode cX11_readsThing 137 = .ok (.if_icmp .ge 40, 3) := by decide +kernel
theorem dX11_readsThing_140 : decode cX11_readsThing 140 = .ok (.iload 6, 2) := by decide +kernel
theorem dX11_readsThing_142 : decode cX11_readsThing 142 = .ok (.aload_n 0, 1) := by decide +kernel
theorem dX11_readsThing_143 : decode cX11_readsThing 143 = .ok (.getfield 44, 3) := by decide +kernel
theorem dX11_readsThing_146 : decode cX11_readsThing 146 = .ok (.iload 7, 2) := by decide +kernel
theorem dX11_readsThing_148 : decode cX11_readsThing 148 = .ok (.iaload, 1) := by decide +kernel
theorem dX11_readsThing_149 : decode cX11_readsThing 149 = .ok (.iload 4, 2) := by decide +kernel
theorem dX11_readsThing_151 : decode cX11_readsThing 151 = .ok (.if_icmp .ne 16, 3) := by decide +kernel
theorem dX11_readsThing_154 : decode cX11_readsThing 154 = .ok (.aload_n 0, 1) := by decide +kernel
theorem dX11_readsThing_155 : decode cX11_readsThing 155 = .ok (.getfield 41, 3) := by decide +kernel
theorem dX11_readsThing_158 : decode cX11_readsThing 158 = .ok (.iload 7, 2) := by decide +kernel
theorem dX11_readsThing_160 : decode cX11_readsThing 160 = .ok (.iaload, 1) := by decide +kernel
theorem dX11_readsThing_161 : decode cX11_readsThing 161 = .ok (.invokestatic 159, 3) := by decide +kernel
theorem dX11_readsThing_164 : decode cX11_readsThing 164 = .ok (.goto 4, 3) := by decide +kernel
theorem dX11_readsThing_167 : decode cX11_readsThing 167 = .ok (.iconst 0, 1) := by decide +kernel
theorem dX11_readsThing_168 : decode cX11_readsThing 168 = .ok (.iadd, 1) := by decide +kernel
theorem dX11_readsThing_169 : decode cX11_readsThing 169 = .ok (.istore 6, 2) := by decide +kernel
theorem dX11_readsThing_171 : decode cX11_readsThing 171 = .ok (.iinc 7 1, 3) := by decide +kernel
theorem dX11_readsThing_174 : decode cX11_readsThing 174 = .ok (.goto (-43), 3) := by decide +kernel
theorem dX11_readsThing_177 : decode cX11_readsThing 177 = .ok (.iload 5, 2) := by decide +kernel
theorem dX11_readsThing_179 : decode cX11_readsThing 179 = .ok (.ifCond .eq 15, 3) := by decide +kernel
theorem dX11_readsThing_182 : decode cX11_readsThing 182 = .ok (.iload 4, 2) := by decide +kernel
theorem dX11_readsThing_184 : decode cX11_readsThing 184 = .ok (.iconst 4, 1) := by decide +kernel
theorem dX11_readsThing_185 : decode cX11_readsThing 185 = .ok (.if_icmp .eq 11, 3) := by decide +kernel
theorem dX11_readsThing_188 : decode cX11_readsThing 188 = .ok (.iload 6, 2) := by decide +kernel
theorem dX11_readsThing_190 : decode cX11_readsThing 190 = .ok (.iconst 3, 1) := by decide +kernel
theorem dX11_readsThing_191 : decode cX11_readsThing 191 = .ok (.if_icmp .le 5, 3) := by decide +kernel
theorem dX11_readsThing_194 : decode cX11_readsThing 194 = .ok (.iconst 0, 1) := by decide +kernel
theorem dX11_readsThing_195 : decode cX11_readsThing 195 = .ok (.ireturn, 1) := by decide +kernel
theorem dX11_readsThing_196 : decode cX11_readsThing 196 = .ok (.aload_n 0, 1) := by decide +kernel
theorem dX11_readsThing_197 : decode cX11_readsThing 197 = .ok (.dup, 1) := by decide +kernel
theorem dX11_readsThing_198 : decode cX11_readsThing 198 = .ok (.getfield 126, 3) := by decide +kernel
theorem dX11_readsThing_201 : decode cX11_readsThing 201 = .ok (.iconst 1, 1) := by decide +kernel
theorem dX11_readsThing_202 : decode cX11_readsThing 202 = .ok (.iadd, 1) := by decide +kernel
theorem dX11_readsThing_203 : decode cX11_readsThing 203 = .ok (.putfield 126, 3) := by decide +kernel
theorem dX11_readsThing_206 : decode cX11_readsThing 206 = .ok (.aload_n 0, 1) := by decide +kernel
theorem dX11_readsThing_207 : decode cX11_readsThing 207 = .ok (.getfield 41, 3) := by decide +kernel
theorem dX11_readsThing_210 : decode cX11_readsThing 210 = .ok (.aload_n 0, 1) := by decide +kernel
theorem dX11_readsThing_211 : decode cX11_readsThing 211 = .ok (.getfield 144, 3) := by decide +kernel
theorem dX11_readsThing_214 : decode cX11_readsThing 214 = .ok (.iload_n 2, 1) := by decide +kernel
theorem dX11_readsThing_215 : decode cX11_readsThing 215 = .ok (.iastore, 1) := by decide +kernel
theorem dX11_readsThing_216 : decode cX11_readsThing 216 = .ok (.aload_n 0, 1) := by decide +kernel
theorem dX11_readsThing_217 : decode cX11_readsThing 217 = .ok (.getfield 44, 3) := by decide +kernel
theorem dX11_readsThing_220 : decode cX11_readsThing 220 = .ok (.aload_n 0, 1) := by decide +kernel
theorem dX11_readsThing_221 : decode cX11_readsThing 221 = .ok (.getfield 144, 3) := by decide +kernel
theorem dX11_readsThing_224 : decode cX11_readsThing 224 = .ok (.iload 4, 2) := by decide +kernel
theorem dX11_readsThing_226 : decode cX11_readsThing 226 = .ok (.iastore, 1) := by decide +kernel
theorem dX11_readsThing_227 : decode cX11_readsThing 227 = .ok (.aload_n 0, 1) := by decide +kernel
theorem dX11_readsThing_228 : decode cX11_readsThing 228 = .ok (.dup, 1) := by decide +kernel
theorem dX11_readsThing_229 : decode cX11_readsThing 229 = .ok (.getfield 153, 3) := by decide +kernel
theorem dX11_readsThing_232 : decode cX11_readsThing 232 = .ok (.iload_n 2, 1) := by decide +kernel
theorem dX11_readsThing_233 : decode cX11_readsThing 233 = .ok (.invokestatic 150, 3) := by decide +kernel
theorem dX11_readsThing_236 : decode cX11_readsThing 236 = .ok (.ifCond .eq 7, 3) := by decide +kernel
theorem dX11_readsThing_239 : decode cX11_readsThing 239 = .ok (.iconst 1, 1) := by decide +kernel
theorem dX11_readsThing_240 : decode cX11_readsThing 240 = .ok (.goto 4, 3) := by decide +kernel
theorem dX11_readsThing_243 : decode cX11_readsThing 243 = .ok (.iconst 0, 1) := by decide +kernel
theorem dX11_readsThing_244 : decode cX11_readsThing 244 = .ok (.iadd, 1) := by decide +kernel
theorem dX11_readsThing_245 : decode cX11_readsThing 245 = .ok (.putfield 153, 3) := by decide +kernel
theorem dX11_readsThing_248 : decode cX11_readsThing 248 = .ok (.aload_n 0, 1) := by decide +kernel
theorem dX11_readsThing_249 : decode cX11_readsThing 249 = .ok (.dup, 1) := by decide +kernel
theorem dX11_readsThing_250 : decode cX11_readsThing 250 = .ok (.getfield 144, 3) := by decide +kernel
theorem dX11_readsThing_253 : decode cX11_readsThing 253 = .ok (.iconst 1, 1) := by decide +kernel
theorem dX11_readsThing_254 : decode cX11_readsThing 254 = .ok (.iadd, 1) := by decide +kernel
theorem dX11_readsThing_255 : decode cX11_readsThing 255 = .ok (.putfield 144, 3) := by decide +kernel
theorem dX11_readsThing_258 : decode cX11_readsThing 258 = .ok (.iconst 1, 1) := by decide +kernel
theorem dX11_readsThing_259 : decode cX11_readsThing 259 = .ok (.ireturn, 1) := by decide +kernel
theorem dX11_readsWork_0 : decode cX11_readsWork 0 = .ok (.aload_n 0, 1) := by decide +kernel
theorem dX11_readsWork_1 : decode cX11_readsWork 1 = .ok (.getfield 147, 3) := by decide +kernel
theorem dX11_readsWork_4 : decode cX11_readsWork 4 = .ok (.bipush 8, 2) := by decide +kernel
theorem dX11_readsWork_6 : decode cX11_readsWork 6 = .ok (.if_icmp .ne 5, 3) := by decide +kernel
theorem dX11_readsWork_9 : decode cX11_readsWork 9 = .ok (.iconst 0, 1) := by decide +kernel
theorem dX11_readsWork_10 : decode cX11_readsWork 10 = .ok (.ireturn, 1) := by decide +kernel
theorem dX11_readsWork_11 : decode cX11_readsWork 11 = .ok (.aload_n 0, 1) := by decide +kernel
theorem dX11_readsWork_12 : decode cX11_readsWork 12 = .ok (.dup, 1) := by decide +kernel
theorem dX11_readsWork_13 : decode cX11_readsWork 13 = .ok (.getfield 126, 3) := by decide +kernel
theorem dX11_readsWork_16 : decode cX11_readsWork 16 = .ok (.iconst 1, 1) := by decide +kernel
theorem dX11_readsWork_17 : decode cX11_readsWork 17 = .ok (.iadd, 1) := by decide +kernel
theorem dX11_readsWork_18 : decode cX11_readsWork 18 = .ok (.putfield 126, 3) := by decide +kernel
theorem dX11_readsWork_21 : decode cX11_readsWork 21 = .ok (.aload_n 0, 1) := by decide +kernel
theorem dX11_readsWork_22 : decode cX11_readsWork 22 = .ok (.iload_n 1, 1) := by decide +kernel
theorem dX11_readsWork_23 : decode cX11_readsWork 23 = .ok (.iconst 0, 1) := by decide +kernel
theorem dX11_readsWork_24 : decode cX11_readsWork 24 = .ok (.iconst 5, 1) := by decide +kernel
theorem dX11_readsWork_25 : decode cX11_readsWork 25 = .ok (.invokevirtual 135, 3) := by decide +kernel
theorem dX11_readsWork_28 : decode cX11_readsWork 28 = .ok (.ifCond .ne 5, 3) := by decide +kernel
theorem dX11_readsWork_31 : decode cX11_readsWork 31 = .ok (.iconst 0, 1) := by decide +kernel
theorem dX11_readsWork_32 : decode cX11_readsWork 32 = .ok (.ireturn, 1) := by decide +kernel
theorem dX11_readsWork_33 : decode cX11_readsWork 33 = .ok (.aload_n 0, 1) := by decide +kernel
theorem dX11_readsWork_34 : decode cX11_readsWork 34 = .ok (.getfield 132, 3) := by decide +kernel
theorem dX11_readsWork_37 : decode cX11_readsWork 37 = .ok (.istore_n 2, 1) := by decide +kernel
theorem dX11_readsWork_38 : decode cX11_readsWork 38 = .ok (.aload_n 0, 1) := by decide +kernel
theorem dX11_readsWork_39 : decode cX11_readsWork 39 = .ok (.iload_n 1, 1) := by decide +kernel
theorem dX11_readsWork_40 : decode cX11_readsWork 40 = .ok (.iconst 0, 1) := by decide +kernel
theorem dX11_readsWork_41 : decode cX11_readsWork 41 = .ok (.aload_n 0, 1) := by decide +kernel
theorem dX11_readsWork_42 : decode cX11_readsWork 42 = .ok (.getfield 138, 3) := by decide +kernel
theorem dX11_readsWork_45 : decode cX11_readsWork 45 = .ok (.iconst 1, 1) := by decide +kernel
theorem dX11_readsWork_46 : decode cX11_readsWork 46 = .ok (.isub, 1) := by decide +kernel
theorem dX11_readsWork_47 : decode cX11_readsWork 47 = .ok (.invokevirtual 135, 3) := by decide +kernel
theorem dX11_readsWork_50 : decode cX11_readsWork 50 = .ok (.ifCond .ne 5, 3) := by decide +kernel
theorem dX11_readsWork_53 : decode cX11_readsWork 53 = .ok (.iconst 0, 1) := by decide +kernel
theorem dX11_readsWork_54 : decode cX11_readsWork 54 = .ok (.ireturn, 1) := by decide +kernel
theorem dX11_readsWork_55 : decode cX11_readsWork 55 = .ok (.aload_n 0, 1) := by decide +kernel
theorem dX11_readsWork_56 : decode cX11_readsWork 56 = .ok (.getfield 132, 3) := by decide +kernel
theorem dX11_readsWork_59 : decode cX11_readsWork 59 = .ok (.istore_n 3, 1) := by decide +kernel
theorem dX11_readsWork_60 : decode cX11_readsWork 60 = .ok (.iconst 0, 1) := by decide +kernel
theorem dX11_readsWork_61 : decode cX11_readsWork 61 = .ok (.istore 4, 2) := by decide +kernel
theorem dX11_readsWork_63 : decode cX11_readsWork 63 = .ok (.aload_n 0, 1) := by decide +kernel
theorem dX11_readsWork_64 : decode cX11_readsWork 64 = .ok (.iload_n 1, 1) := by decide +kernel
theorem dX11_readsWork_65 : decode cX11_readsWork 65 = .ok (.aload_n 0, 1) := by decide +kernel
theorem dX11_readsWork_66 : decode cX11_readsWork 66 = .ok (.getfield 126, 3) := by decide +kernel
theorem dX11_readsWork_69 : decode cX11_readsWork 69 = .ok (.invokevirtual 129, 3) := by decide +kernel
theorem dX11_readsWork_72 : decode cX11_readsWork 72 = .ok (.bipush 58, 2) := by decide +kernel
theorem dX11_readsWork_74 : decode cX11_readsWork 74 = .ok (.if_icmp .ne 8, 3) := by decide +kernel
theorem dX11_readsWork_77 : decode cX11_readsWork 77 = .ok (.iload 4, 2) := by decide +kernel
theorem dX11_readsWork_79 : decode cX11_readsWork 79 = .ok (.ifCond .ne 66, 3) := by decide +kernel
theorem dX11_readsWork_82 : decode cX11_readsWork 82 = .ok (.aload_n 0, 1) := by decide +kernel
theorem dX11_readsWork_83 : decode cX11_readsWork 83 = .ok (.iload_n 1, 1) := by decide +kernel
theorem dX11_readsWork_84 : decode cX11_readsWork 84 = .ok (.aload_n 0, 1) := by decide +kernel
theorem dX11_readsWork_85 : decode cX11_readsWork 85 = .ok (.getfield 126, 3) := by decide +kernel
theorem dX11_readsWork_88 : decode cX11_readsWork 88 = .ok (.invokevirtual 129, 3) := by decide +kernel
theorem dX11_readsWork_91 : decode cX11_readsWork 91 = .ok (.bipush 48, 2) := by decide +kernel
theorem dX11_readsWork_93 : decode cX11_readsWork 93 = .ok (.isub, 1) := by decide +kernel
theorem dX11_readsWork_94 : decode cX11_readsWork 94 = .ok (.istore 5, 2) := by decide +kernel
theorem dX11_readsWork_96 : decode cX11_readsWork 96 = .ok (.iload 5, 2) := by decide +kernel
theorem dX11_readsWork_98 : decode cX11_readsWork 98 = .ok (.iconst 0, 1) := by decide +kernel
theorem dX11_readsWork_99 : decode cX11_readsWork 99 = .ok (.aload_n 0, 1) := by decide +kernel
theorem dX11_readsWork_100 : decode cX11_readsWork 100 = .ok (.getfield 144, 3) := by decide +kernel
theorem dX11_readsWork_103 : decode cX11_readsWork 103 = .ok (.iconst 1, 1) := by decide +kernel
theorem dX11_readsWork_104 : decode cX11_readsWork 104 = .ok (.isub, 1) := by decide +kernel
theorem dX11_readsWork_105 : decode cX11_readsWork 105 = .ok (.invokestatic 98, 3) := by decide +kernel
theorem dX11_readsWork_108 : decode cX11_readsWork 108 = .ok (.ifCond .eq 13, 3) := by decide +kernel
theorem dX11_readsWork_111 : decode cX11_readsWork 111 = .ok (.iload 4, 2) := by decide +kernel
theorem dX11_readsWork_113 : decode cX11_readsWork 113 = .ok (.iload 5, 2) := by decide +kernel
theorem dX11_readsWork_115 : decode cX11_readsWork 115 = .ok (.invokestatic 162, 3) := by decide +kernel
theorem dX11_readsWork_118 : decode cX11_readsWork 118 = .ok (.ifCond .eq 5, 3) := by decide +kernel
theorem dX11_readsWork_121 : decode cX11_readsWork 121 = .ok (.iconst 0, 1) := by decide +kernel
theorem dX11_readsWork_122 : decode cX11_readsWork 122 = .ok (.ireturn, 1) := by decide +kernel
theorem dX11_readsWork_123 : decode cX11_readsWork 123 = .ok (.iload 4, 2) := by decide +kernel
theorem dX11_readsWork_125 : decode cX11_readsWork 125 = .ok (.iconst 1, 1) := by decide +kernel
theorem dX11_readsWork_126 : decode cX11_readsWork 126 = .ok (.iload 5, 2) := by decide +kernel
theorem dX11_readsWork_128 : decode cX11_readsWork 128 = .ok (.ishl, 1) := by decide +kernel
theorem dX11_readsWork_129 : decode cX11_readsWork 129 = .ok (.ior, 1) := by decide +kernel
theorem dX11_readsWork_130 : decode cX11_readsWork 130 = .ok (.istore 4, 2) := by decide +kernel
theorem dX11_readsWork_132 : decode cX11_readsWork 132 = .ok (.aload_n 0, 1) := by decide +kernel
theorem dX11_readsWork_133 : decode cX11_readsWork 133 = .ok (.dup, 1) := by decide +kernel
theorem dX11_readsWork_134 : decode cX11_readsWork 134 = .ok (.getfield 126, 3) := by decide +kernel
theorem dX11_readsWork_137 : decode cX11_readsWork 137 = .ok (.iconst 1, 1) := by decide +kernel
theorem dX11_readsWork_138 : decode cX11_readsWork 138 = .ok (.iadd, 1) := by decide +kernel
theorem dX11_readsWork_139 : decode cX11_readsWork 139 = .ok (.putfield 126, 3) := by decide +kernel
theorem dX11_readsWork_142 : decode cX11_readsWork 142 = .ok (.goto (-79), 3) := by decide +kernel
theorem dX11_readsWork_145 : decode cX11_readsWork 145 = .ok (.aload_n 0, 1) := by decide +kernel
theorem dX11_readsWork_146 : decode cX11_readsWork 146 = .ok (.dup, 1) := by decide +kernel
theorem dX11_readsWork_147 : decode cX11_readsWork 147 = .ok (.getfield 126, 3) := by decide +kernel
theorem dX11_readsWork_150 : decode cX11_readsWork 150 = .ok (.iconst 1, 1) := by decide +kernel
theorem dX11_readsWork_151 : decode cX11_readsWork 151 = .ok (.iadd, 1) := by decide +kernel
theorem dX11_readsWork_152 : decode cX11_readsWork 152 = .ok (.putfield 126, 3) := by decide +kernel
theorem dX11_readsWork_155 : decode cX11_readsWork 155 = .ok (.aload_n 0, 1) := by decide +kernel
theorem dX11_readsWork_156 : decode cX11_readsWork 156 = .ok (.iload_n 1, 1) := by decide +kernel
theorem dX11_readsWork_157 : decode cX11_readsWork 157 = .ok (.iconst 1, 1) := by decide +kernel
theorem dX11_readsWork_158 : decode cX11_readsWork 158 = .ok (.bipush 9, 2) := by decide +kernel
theorem dX11_readsWork_160 : decode cX11_readsWork 160 = .ok (.invokevirtual 135, 3) := by decide +kernel
theorem dX11_readsWork_163 : decode cX11_readsWork 163 = .ok (.ifCond .ne 5, 3) := by decide +kernel
theorem dX11_readsWork_166 : decode cX11_readsWork 166 = .ok (.iconst 0, 1) := by decide +kernel
theorem dX11_readsWork_167 : decode cX11_readsWork 167 = .ok (.ireturn, 1) := by decide +kernel
theorem dX11_readsWork_168 : decode cX11_readsWork 168 = .ok (.aload_n 0, 1) := by decide +kernel
theorem dX11_readsWork_169 : decode cX11_readsWork 169 = .ok (.getfield 47, 3) := by decide +kernel
theorem dX11_readsWork_172 : decode cX11_readsWork 172 = .ok (.iconst 4, 1) := by decide +kernel
theorem dX11_readsWork_173 : decode cX11_readsWork 173 = .ok (.aload_n 0, 1) := by decide +kernel
theorem dX11_readsWork_174 : decode cX11_readsWork 174 = .ok (.getfield 147, 3) := by decide +kernel
theorem dX11_readsWork_177 : decode cX11_readsWork 177 = .ok (.imul, 1) := by decide +kernel
theorem dX11_readsWork_178 : decode cX11_readsWork 178 = .ok (.iload_n 2, 1) := by decide +kernel
theorem dX11_readsWork_179 : decode cX11_readsWork 179 = .ok (.iastore, 1) := by decide +kernel
theorem dX11_readsWork_180 : decode cX11_readsWork 180 = .ok (.aload_n 0, 1) := by decide +kernel
theorem dX11_readsWork_181 : decode cX11_readsWork 181 = .ok (.getfield 47, 3) := by decide +kernel
theorem dX11_readsWork_184 : decode cX11_readsWork 184 = .ok (.iconst 4, 1) := by decide +kernel
theorem dX11_readsWork_185 : decode cX11_readsWork 185 = .ok (.aload_n 0, 1) := by decide +kernel
theorem dX11_readsWork_186 : decode cX11_readsWork 186 = .ok (.getfield 147, 3) := by decide +kernel
theorem dX11_readsWork_189 : decode cX11_readsWork 189 = .ok (.imul, 1) := by decide +kernel
theorem dX11_readsWork_190 : decode cX11_readsWork 190 = .ok (.iconst 1, 1) := by decide +kernel
theorem dX11_readsWork_191 : decode cX11_readsWork 191 = .ok (.iadd, 1) := by decide +kernel
theorem dX11_readsWork_192 : decode cX11_readsWork 192 = .ok (.iload_n 3, 1) := by decide +kernel
theorem dX11_readsWork_193 : decode cX11_readsWork 193 = .ok (.iastore, 1) := by decide +kernel
theorem dX11_readsWork_194 : decode cX11_readsWork 194 = .ok (.aload_n 0, 1) := by decide +kernel
theorem dX11_readsWork_195 : decode cX11_readsWork 195 = .ok (.getfield 47, 3) := by decide +kernel
theorem dX11_readsWork_198 : decode cX11_readsWork 198 = .ok (.iconst 4, 1) := by decide +kernel
theorem dX11_readsWork_199 : decode cX11_readsWork 199 = .ok (.aload_n 0, 1) := by decide +kernel
theorem dX11_readsWork_200 : decode cX11_readsWork 200 = .ok (.getfield 147, 3) := by decide +kernel
theorem dX11_readsWork_203 : decode cX11_readsWork 203 = .ok (.imul, 1) := by decide +kernel
theorem dX11_readsWork_204 : decode cX11_readsWork 204 = .ok (.iconst 2, 1) := by decide +kernel
theorem dX11_readsWork_205 : decode cX11_readsWork 205 = .ok (.iadd, 1) := by decide +kernel
theorem dX11_readsWork_206 : decode cX11_readsWork 206 = .ok (.iload 4, 2) := by decide +kernel
theorem dX11_readsWork_208 : decode cX11_readsWork 208 = .ok (.iastore, 1) := by decide +kernel
theorem dX11_readsWork_209 : decode cX11_readsWork 209 = .ok (.aload_n 0, 1) := by decide +kernel
theorem dX11_readsWork_210 : decode cX11_readsWork 210 = .ok (.getfield 47, 3) := by decide +kernel
theorem dX11_readsWork_213 : decode cX11_readsWork 213 = .ok (.iconst 4, 1) := by decide +kernel
theorem dX11_readsWork_214 : decode cX11_readsWork 214 = .ok (.aload_n 0, 1) := by decide +kernel
theorem dX11_readsWork_215 : decode cX11_readsWork 215 = .ok (.getfield 147, 3) := by decide +kernel
theorem dX11_readsWork_218 : decode cX11_readsWork 218 = .ok (.imul, 1) := by decide +kernel
theorem dX11_readsWork_219 : decode cX11_readsWork 219 = .ok (.iconst 3, 1) := by decide +kernel
theorem dX11_readsWork_220 : decode cX11_readsWork 220 = .ok (.iadd, 1) := by decide +kernel
theorem dX11_readsWork_221 : decode cX11_readsWork 221 = .ok (.aload_n 0, 1) := by decide +kernel
theorem dX11_readsWork_222 : decode cX11_readsWork 222 = .ok (.getfield 132, 3) := by decide +kernel
theorem dX11_readsWork_225 : decode cX11_readsWork 225 = .ok (.iastore, 1) := by decide +kernel
theorem dX11_readsWork_226 : decode cX11_readsWork 226 = .ok (.aload_n 0, 1) := by decide +kernel
theorem dX11_readsWork_227 : decode cX11_readsWork 227 = .ok (.dup, 1) := by decide +kernel
theorem dX11_readsWork_228 : decode cX11_readsWork 228 = .ok (.getfield 147, 3) := by decide +kernel
theorem dX11_readsWork_231 : decode cX11_readsWork 231 = .ok (.iconst 1, 1) := by decide +kernel
theorem dX11_readsWork_232 : decode cX11_readsWork 232 = .ok (.iadd, 1) := by decide +kernel
theorem dX11_readsWork_233 : decode cX11_readsWork 233 = .ok (.putfield 147, 3) := by decide +kernel
theorem dX11_readsWork_236 : decode cX11_readsWork 236 = .ok (.iconst 1, 1) := by decide +kernel
theorem dX11_readsWork_237 : decode cX11_readsWork 237 = .ok (.ireturn, 1) := by decide +kernel
theorem dX11_faultOf_0 : decode cX11_faultOf 0 = .ok (.aload_n 0, 1) := by decide +kernel
theorem dX11_faultOf_1 : decode cX11_faultOf 1 = .ok (.iconst 0, 1) := by decide +kernel
theorem dX11_faultOf_2 : decode cX11_faultOf 2 = .ok (.putfield 126, 3) := by decide +kernel
theorem dX11_faultOf_5 : decode cX11_faultOf 5 = .ok (.aload_n 0, 1) := by decide +kernel
theorem dX11_faultOf_6 : decode cX11_faultOf 6 = .ok (.iconst 0, 1) := by decide +kernel
theorem dX11_faultOf_7 : decode cX11_faultOf 7 = .ok (.putfield 138, 3) := by decide +kernel
theorem dX11_faultOf_10 : decode cX11_faultOf 10 = .ok (.aload_n 0, 1) := by decide +kernel
theorem dX11_faultOf_11 : decode cX11_faultOf 11 = .ok (.iconst 0, 1) := by decide +kernel
theorem dX11_faultOf_12 : decode cX11_faultOf 12 = .ok (.putfield 144, 3) := by decide +kernel
theorem dX11_faultOf_15 : decode cX11_faultOf 15 = .ok (.aload_n 0, 1) := by decide +kernel
theorem dX11_faultOf_16 : decode cX11_faultOf 16 = .ok (.iconst 0, 1) := by decide +kernel
theorem dX11_faultOf_17 : decode cX11_faultOf 17 = .ok (.putfield 153, 3) := by decide +kernel
theorem dX11_faultOf_20 : decode cX11_faultOf 20 = .ok (.aload_n 0, 1) := by decide +kernel
theorem dX11_faultOf_21 : decode cX11_faultOf 21 = .ok (.iconst 0, 1) := by decide +kernel
theorem dX11_faultOf_22 : decode cX11_faultOf 22 = .ok (.putfield 147, 3) := by decide +kernel
theorem dX11_faultOf_25 : decode cX11_faultOf 25 = .ok (.aload_n 0, 1) := by decide +kernel
theorem dX11_faultOf_26 : decode cX11_faultOf 26 = .ok (.getfield 126, 3) := by decide +kernel
theorem dX11_faultOf_29 : decode cX11_faultOf 29 = .ok (.aload_n 0, 1) := by decide +kernel
theorem dX11_faultOf_30 : decode cX11_faultOf 30 = .ok (.getfield 22, 3) := by decide +kernel
theorem dX11_faultOf_33 : decode cX11_faultOf 33 = .ok (.iload_n 1, 1) := by decide +kernel
theorem dX11_faultOf_34 : decode cX11_faultOf 34 = .ok (.iaload, 1) := by decide +kernel
theorem dX11_faultOf_35 : decode cX11_faultOf 35 = .ok (.if_icmp .ge 83, 3) := by decide +kernel
theorem dX11_faultOf_38 : decode cX11_faultOf 38 = .ok (.aload_n 0, 1) := by decide +kernel
theorem dX11_faultOf_39 : decode cX11_faultOf 39 = .ok (.iload_n 1, 1) := by decide +kernel
theorem dX11_faultOf_40 : decode cX11_faultOf 40 = .ok (.aload_n 0, 1) := by decide +kernel
theorem dX11_faultOf_41 : decode cX11_faultOf 41 = .ok (.getfield 126, 3) := by decide +kernel
theorem dX11_faultOf_44 : decode cX11_faultOf 44 = .ok (.invokevirtual 129, 3) := by decide +kernel
theorem dX11_faultOf_47 : decode cX11_faultOf 47 = .ok (.istore_n 2, 1) := by decide +kernel
theorem dX11_faultOf_48 : decode cX11_faultOf 48 = .ok (.iload_n 2, 1) := by decide +kernel
theorem dX11_faultOf_49 : decode cX11_faultOf 49 = .ok (.bipush 32, 2) := by decide +kernel
theorem dX11_faultOf_51 : decode cX11_faultOf 51 = .ok (.if_icmp .ne 16, 3) := by decide +kernel
theorem dX11_faultOf_54 : decode cX11_faultOf 54 = .ok (.aload_n 0, 1) := by decide +kernel
theorem dX11_faultOf_55 : decode cX11_faultOf 55 = .ok (.dup, 1) := by decide +kernel
theorem dX11_faultOf_56 : decode cX11_faultOf 56 = .ok (.getfield 126, 3) := by decide +kernel
theorem dX11_faultOf_59 : decode cX11_faultOf 59 = .ok (.iconst 1, 1) := by decide +kernel
theorem dX11_faultOf_60 : decode cX11_faultOf 60 = .ok (.iadd, 1) := by decide +kernel
theorem dX11_faultOf_61 : decode cX11_faultOf 61 = .ok (.putfield 126, 3) := by decide +kernel
theorem dX11_faultOf_64 : decode cX11_faultOf 64 = .ok (.goto 51, 3) := by decide +kernel
theorem dX11_faultOf_67 : decode cX11_faultOf 67 = .ok (.aload_n 0, 1) := by decide +kernel
theorem dX11_faultOf_68 : decode cX11_faultOf 68 = .ok (.getfield 138, 3) := by decide +kernel
theorem dX11_faultOf_71 : decode cX11_faultOf 71 = .ok (.ifCond .ne 14, 3) := by decide +kernel
theorem dX11_faultOf_74 : decode cX11_faultOf 74 = .ok (.aload_n 0, 1) := by decide +kernel
theorem dX11_faultOf_75 : decode cX11_faultOf 75 = .ok (.iload_n 1, 1) := by decide +kernel
theorem dX11_faultOf_76 : decode cX11_faultOf 76 = .ok (.invokevirtual 166, 3) := by decide +kernel
theorem dX11_faultOf_79 : decode cX11_faultOf 79 = .ok (.ifCond .eq 31, 3) := by decide +kernel
theorem dX11_faultOf_82 : decode cX11_faultOf 82 = .ok (.goto 33, 3) := by decide +kernel
theorem dX11_faultOf_85 : decode cX11_faultOf 85 = .ok (.iload_n 2, 1) := by decide +kernel
theorem dX11_faultOf_86 : decode cX11_faultOf 86 = .ok (.bipush 119, 2) := by decide +kernel
theorem dX11_faultOf_88 : decode cX11_faultOf 88 = .ok (.if_icmp .ne 14, 3) := by decide +kernel
theorem dX11_faultOf_91 : decode cX11_faultOf 91 = .ok (.aload_n 0, 1) := by decide +kernel
theorem dX11_faultOf_92 : decode cX11_faultOf 92 = .ok (.iload_n 1, 1) := by decide +kernel
theorem dX11_faultOf_93 : decode cX11_faultOf 93 = .ok (.invokevirtual 169, 3) := by decide +kernel
theorem dX11_faultOf_96 : decode cX11_faultOf 96 = .ok (.ifCond .eq 14, 3) := by decide +kernel
theorem dX11_faultOf_99 : decode cX11_faultOf 99 = .ok (.goto 16, 3) := by decide +kernel
theorem dX11_faultOf_102 : decode cX11_faultOf 102 = .ok (.aload_n 0, 1) := by decide +kernel
theorem dX11_faultOf_103 : decode cX11_faultOf 103 = .ok (.iload_n 1, 1) := by decide +kernel
theorem dX11_faultOf_104 : decode cX11_faultOf 104 = .ok (.invokevirtual 172, 3) := by decide +kernel
theorem dX11_faultOf_107 : decode cX11_faultOf 107 = .ok (.ifCond .ne 8, 3) := by decide +kernel
theorem dX11_faultOf_110 : decode cX11_faultOf 110 = .ok (.aload_n 0, 1) := by decide +kernel
theorem dX11_faultOf_111 : decode cX11_faultOf 111 = .ok (.getfield 126, 3) := by decide +kernel
theorem dX11_faultOf_114 : decode cX11_faultOf 114 = .ok (.ireturn, 1) := by decide +kernel
theorem dX11_faultOf_115 : decode cX11_faultOf 115 = .ok (.goto (-90), 3) := by decide +kernel
theorem dX11_faultOf_118 : decode cX11_faultOf 118 = .ok (.aload_n 0, 1) := by decide +kernel
theorem dX11_faultOf_119 : decode cX11_faultOf 119 = .ok (.getfield 138, 3) := by decide +kernel
theorem dX11_faultOf_122 : decode cX11_faultOf 122 = .ok (.ifCond .ne 12, 3) := by decide +kernel
theorem dX11_faultOf_125 : decode cX11_faultOf 125 = .ok (.aload_n 0, 1) := by decide +kernel
theorem dX11_faultOf_126 : decode cX11_faultOf 126 = .ok (.getfield 22, 3) := by decide +kernel
theorem dX11_faultOf_129 : decode cX11_faultOf 129 = .ok (.iload_n 1, 1) := by decide +kernel
theorem dX11_faultOf_130 : decode cX11_faultOf 130 = .ok (.iaload, 1) := by decide +kernel
theorem dX11_faultOf_131 : decode cX11_faultOf 131 = .ok (.goto 5, 3) := by decide +kernel
theorem dX11_faultOf_134 : decode cX11_faultOf 134 = .ok (.bipush (-9), 2) := by decide +kernel
theorem dX11_faultOf_136 : decode cX11_faultOf 136 = .ok (.ireturn, 1) := by decide +kernel
theorem dX11_fault_0 : decode cX11_fault 0 = .ok (.iload_n 1, 1) := by decide +kernel
theorem dX11_fault_1 : decode cX11_fault 1 = .ok (.invokestatic 123, 3) := by decide +kernel
theorem dX11_fault_4 : decode cX11_fault 4 = .ok (.ifCond .ne 5, 3) := by decide +kernel
theorem dX11_fault_7 : decode cX11_fault 7 = .ok (.iconst (-1), 1) := by decide +kernel
theorem dX11_fault_8 : decode cX11_fault 8 = .ok (.ireturn, 1) := by decide +kernel
theorem dX11_fault_9 : decode cX11_fault 9 = .ok (.aload_n 0, 1) := by decide +kernel
theorem dX11_fault_10 : decode cX11_fault 10 = .ok (.getfield 22, 3) := by decide +kernel
theorem dX11_fault_13 : decode cX11_fault 13 = .ok (.iload_n 1, 1) := by decide +kernel
theorem dX11_fault_14 : decode cX11_fault 14 = .ok (.iaload, 1) := by decide +kernel
theorem dX11_fault_15 : decode cX11_fault 15 = .ok (.ifCond .ge 11, 3) := by decide +kernel
theorem dX11_fault_18 : decode cX11_fault 18 = .ok (.aload_n 0, 1) := by decide +kernel
theorem dX11_fault_19 : decode cX11_fault 19 = .ok (.iconst 1, 1) := by decide +kernel
theorem dX11_fault_20 : decode cX11_fault 20 = .ok (.invokevirtual 112, 3) := by decide +kernel
theorem dX11_fault_23 : decode cX11_fault 23 = .ok (.goto 8, 3) := by decide +kernel
theorem dX11_fault_26 : decode cX11_fault 26 = .ok (.aload_n 0, 1) := by decide +kernel
theorem dX11_fault_27 : decode cX11_fault 27 = .ok (.iload_n 1, 1) := by decide +kernel
theorem dX11_fault_28 : decode cX11_fault 28 = .ok (.invokevirtual 175, 3) := by decide +kernel
theorem dX11_fault_31 : decode cX11_fault 31 = .ok (.ireturn, 1) := by decide +kernel
theorem dX11_island_0 : decode cX11_island 0 = .ok (.iload_n 1, 1) := by decide +kernel
theorem dX11_island_1 : decode cX11_island 1 = .ok (.invokestatic 123, 3) := by decide +kernel
theorem dX11_island_4 : decode cX11_island 4 = .ok (.ifCond .ne 5, 3) := by decide +kernel
theorem dX11_island_7 : decode cX11_island 7 = .ok (.iconst (-1), 1) := by decide +kernel
theorem dX11_island_8 : decode cX11_island 8 = .ok (.ireturn, 1) := by decide +kernel
theorem dX11_island_9 : decode cX11_island 9 = .ok (.aload_n 0, 1) := by decide +kernel
theorem dX11_island_10 : decode cX11_island 10 = .ok (.getfield 22, 3) := by decide +kernel
theorem dX11_island_13 : decode cX11_island 13 = .ok (.iload_n 1, 1) := by decide +kernel
theorem dX11_island_14 : decode cX11_island 14 = .ok (.iaload, 1) := by decide +kernel
theorem dX11_island_15 : decode cX11_island 15 = .ok (.ifCond .ge 9, 3) := by decide +kernel
theorem dX11_island_18 : decode cX11_island 18 = .ok (.aload_n 0, 1) := by decide +kernel
theorem dX11_island_19 : decode cX11_island 19 = .ok (.iconst 1, 1) := by decide +kernel
theorem dX11_island_20 : decode cX11_island 20 = .ok (.invokevirtual 112, 3) := by decide +kernel
theorem dX11_island_23 : decode cX11_island 23 = .ok (.ireturn, 1) := by decide +kernel
theorem dX11_island_24 : decode cX11_island 24 = .ok (.aload_n 0, 1) := by decide +kernel
theorem dX11_island_25 : decode cX11_island 25 = .ok (.iload_n 1, 1) := by decide +kernel
theorem dX11_island_26 : decode cX11_island 26 = .ok (.invokevirtual 175, 3) := by decide +kernel
theorem dX11_island_29 : decode cX11_island 29 = .ok (.bipush (-9), 2) := by decide +kernel
theorem dX11_island_31 : decode cX11_island 31 = .ok (.if_icmp .eq 6, 3) := by decide +kernel
theorem dX11_island_34 : decode cX11_island 34 = .ok (.bipush (-4), 2) := by decide +kernel
theorem dX11_island_36 : decode cX11_island 36 = .ok (.ireturn, 1) := by decide +kernel
theorem dX11_island_37 : decode cX11_island 37 = .ok (.aload_n 0, 1) := by decide +kernel
theorem dX11_island_38 : decode cX11_island 38 = .ok (.aload_n 0, 1) := by decide +kernel
theorem dX11_island_39 : decode cX11_island 39 = .ok (.getfield 138, 3) := by decide +kernel
theorem dX11_island_42 : decode cX11_island 42 = .ok (.putfield 178, 3) := by decide +kernel
theorem dX11_island_45 : decode cX11_island 45 = .ok (.aload_n 0, 1) := by decide +kernel
theorem dX11_island_46 : decode cX11_island 46 = .ok (.aload_n 0, 1) := by decide +kernel
theorem dX11_island_47 : decode cX11_island 47 = .ok (.getfield 144, 3) := by decide +kernel
theorem dX11_island_50 : decode cX11_island 50 = .ok (.putfield 181, 3) := by decide +kernel
theorem dX11_island_53 : decode cX11_island 53 = .ok (.aload_n 0, 1) := by decide +kernel
theorem dX11_island_54 : decode cX11_island 54 = .ok (.aload_n 0, 1) := by decide +kernel
theorem dX11_island_55 : decode cX11_island 55 = .ok (.getfield 147, 3) := by decide +kernel
theorem dX11_island_58 : decode cX11_island 58 = .ok (.putfield 184, 3) := by decide +kernel
theorem dX11_island_61 : decode cX11_island 61 = .ok (.aload_n 0, 1) := by decide +kernel
theorem dX11_island_62 : decode cX11_island 62 = .ok (.iconst 0, 1) := by decide +kernel
theorem dX11_island_63 : decode cX11_island 63 = .ok (.putfield 187, 3) := by decide +kernel
theorem dX11_island_66 : decode cX11_island 66 = .ok (.iconst 0, 1) := by decide +kernel
theorem dX11_island_67 : decode cX11_island 67 = .ok (.istore_n 2, 1) := by decide +kernel
theorem dX11_island_68 : decode cX11_island 68 = .ok (.iload_n 2, 1) := by decide +kernel
theorem dX11_island_69 : decode cX11_island 69 = .ok (.aload_n 0, 1) := by decide +kernel
theorem dX11_island_70 : decode cX11_island 70 = .ok (.getfield 181, 3) := by decide +kernel
theorem dX11_island_73 : decode cX11_island 73 = .ok (.if_icmp .ge 65, 3) := by decide +kernel
theorem dX11_island_76 : decode cX11_island 76 = .ok (.aload_n 0, 1) := by decide +kernel
theorem dX11_island_77 : decode cX11_island 77 = .ok (.getfield 29, 3) := by decide +kernel
theorem dX11_island_80 : decode cX11_island 80 = .ok (.iload_n 2, 1) := by decide +kernel
theorem dX11_island_81 : decode cX11_island 81 = .ok (.aload_n 0, 1) := by decide +kernel
theorem dX11_island_82 : decode cX11_island 82 = .ok (.getfield 41, 3) := by decide +kernel
theorem dX11_island_85 : decode cX11_island 85 = .ok (.iload_n 2, 1) := by decide +kernel
theorem dX11_island_86 : decode cX11_island 86 = .ok (.iaload, 1) := by decide +kernel
theorem dX11_island_87 : decode cX11_island 87 = .ok (.iastore, 1) := by decide +kernel
theorem dX11_island_88 : decode cX11_island 88 = .ok (.aload_n 0, 1) := by decide +kernel
theorem dX11_island_89 : decode cX11_island 89 = .ok (.getfield 38, 3) := by decide +kernel
theorem dX11_island_92 : decode cX11_island 92 = .ok (.iload_n 2, 1) := by decide +kernel
theorem dX11_island_93 : decode cX11_island 93 = .ok (.aload_n 0, 1) := by decide +kernel
theorem dX11_island_94 : decode cX11_island 94 = .ok (.getfield 44, 3) := by decide +kernel
theorem dX11_island_97 : decode cX11_island 97 = .ok (.iload_n 2, 1) := by decide +kernel
theorem dX11_island_98 : decode cX11_island 98 = .ok (.iaload, 1) := by decide +kernel
theorem dX11_island_99 : decode cX11_island 99 = .ok (.iastore, 1) := by decide +kernel
theorem dX11_island_100 : decode cX11_island 100 = .ok (.aload_n 0, 1) := by decide +kernel
theorem dX11_island_101 : decode cX11_island 101 = .ok (.getfield 29, 3) := by decide +kernel
theorem dX11_island_104 : decode cX11_island 104 = .ok (.iload_n 2, 1) := by decide +kernel
theorem dX11_island_105 : decode cX11_island 105 = .ok (.iaload, 1) := by decide +kernel
theorem dX11_island_106 : decode cX11_island 106 = .ok (.invokestatic 150, 3) := by decide +kernel
theorem dX11_island_109 : decode cX11_island 109 = .ok (.ifCond .eq 23, 3) := by decide +kernel
theorem dX11_island_112 : decode cX11_island 112 = .ok (.aload_n 0, 1) := by decide +kernel
theorem dX11_island_113 : decode cX11_island 113 = .ok (.getfield 32, 3) := by decide +kernel
theorem dX11_island_116 : decode cX11_island 116 = .ok (.aload_n 0, 1) := by decide +kernel
theorem dX11_island_117 : decode cX11_island 117 = .ok (.getfield 187, 3) := by decide +kernel
theorem dX11_island_120 : decode cX11_island 120 = .ok (.iload_n 2, 1) := by decide +kernel
theorem dX11_island_121 : decode cX11_island 121 = .ok (.iastore, 1) := by decide +kernel
theorem dX11_island_122 : decode cX11_island 122 = .ok (.aload_n 0, 1) := by decide +kernel
theorem dX11_island_123 : decode cX11_island 123 = .ok (.dup, 1) := by decide +kernel
theorem dX11_island_124 : decode cX11_island 124 = .ok (.getfield 187, 3) := by decide +kernel
theorem dX11_island_127 : decode cX11_island 127 = .ok (.iconst 1, 1) := by decide +kernel
theorem dX11_island_128 : decode cX11_island 128 = .ok (.iadd, 1) := by decide +kernel
theorem dX11_island_129 : decode cX11_island 129 = .ok (.putfield 187, 3) := by decide +kernel
theorem dX11_island_132 : decode cX11_island 132 = .ok (.iinc 2 1, 3) := by decide +kernel
theorem dX11_island_135 : decode cX11_island 135 = .ok (.goto (-67), 3) := by decide +kernel
theorem dX11_island_138 : decode cX11_island 138 = .ok (.iconst 0, 1) := by decide +kernel
theorem dX11_island_139 : decode cX11_island 139 = .ok (.istore_n 2, 1) := by decide +kernel
theorem dX11_island_140 : decode cX11_island 140 = .ok (.iload_n 2, 1) := by decide +kernel
theorem dX11_island_141 : decode cX11_island 141 = .ok (.iconst 4, 1) := by decide +kernel
theorem dX11_island_142 : decode cX11_island 142 = .ok (.aload_n 0, 1) := by decide +kernel
theorem dX11_island_143 : decode cX11_island 143 = .ok (.getfield 184, 3) := by decide +kernel
theorem dX11_island_146 : decode cX11_island 146 = .ok (.imul, 1) := by decide +kernel
theorem dX11_island_147 : decode cX11_island 147 = .ok (.if_icmp .ge 21, 3) := by decide +kernel
theorem dX11_island_150 : decode cX11_island 150 = .ok (.aload_n 0, 1) := by decide +kernel
theorem dX11_island_151 : decode cX11_island 151 = .ok (.getfield 35, 3) := by decide +kernel
theorem dX11_island_154 : decode cX11_island 154 = .ok (.iload_n 2, 1) := by decide +kernel
theorem dX11_island_155 : decode cX11_island 155 = .ok (.aload_n 0, 1) := by decide +kernel
theorem dX11_island_156 : decode cX11_island 156 = .ok (.getfield 47, 3) := by decide +kernel
theorem dX11_island_159 : decode cX11_island 159 = .ok (.iload_n 2, 1) := by decide +kernel
theorem dX11_island_160 : decode cX11_island 160 = .ok (.iaload, 1) := by decide +kernel
theorem dX11_island_161 : decode cX11_island 161 = .ok (.iastore, 1) := by decide +kernel
theorem dX11_island_162 : decode cX11_island 162 = .ok (.iinc 2 1, 3) := by decide +kernel
theorem dX11_island_165 : decode cX11_island 165 = .ok (.goto (-25), 3) := by decide +kernel
theorem dX11_island_168 : decode cX11_island 168 = .ok (.aload_n 0, 1) := by decide +kernel
theorem dX11_island_169 : decode cX11_island 169 = .ok (.iconst 3, 1) := by decide +kernel
theorem dX11_island_170 : decode cX11_island 170 = .ok (.putfield 91, 3) := by decide +kernel
theorem dX11_island_173 : decode cX11_island 173 = .ok (.aload_n 0, 1) := by decide +kernel
theorem dX11_island_174 : decode cX11_island 174 = .ok (.iconst 0, 1) := by decide +kernel
theorem dX11_island_175 : decode cX11_island 175 = .ok (.putfield 190, 3) := by decide +kernel
theorem dX11_island_178 : decode cX11_island 178 = .ok (.aload_n 0, 1) := by decide +kernel
theorem dX11_island_179 : decode cX11_island 179 = .ok (.iconst 0, 1) := by decide +kernel
theorem dX11_island_180 : decode cX11_island 180 = .ok (.putfield 193, 3) := by decide +kernel
theorem dX11_island_183 : decode cX11_island 183 = .ok (.iconst 0, 1) := by decide +kernel
theorem dX11_island_184 : decode cX11_island 184 = .ok (.istore_n 2, 1) := by decide +kernel
theorem dX11_island_185 : decode cX11_island 185 = .ok (.iload_n 2, 1) := by decide +kernel
theorem dX11_island_186 : decode cX11_island 186 = .ok (.iconst 3, 1) := by decide +kernel
theorem dX11_island_187 : decode cX11_island 187 = .ok (.if_icmp .ge 16, 3) := by decide +kernel
theorem dX11_island_190 : decode cX11_island 190 = .ok (.aload_n 0, 1) := by decide +kernel
theorem dX11_island_191 : decode cX11_island 191 = .ok (.getfield 59, 3) := by decide +kernel
theorem dX11_island_194 : decode cX11_island 194 = .ok (.iload_n 2, 1) := by decide +kernel
theorem dX11_island_195 : decode cX11_island 195 = .ok (.iconst (-1), 1) := by decide +kernel
theorem dX11_island_196 : decode cX11_island 196 = .ok (.iastore, 1) := by decide +kernel
theorem dX11_island_197 : decode cX11_island 197 = .ok (.iinc 2 1, 3) := by decide +kernel
theorem dX11_island_200 : decode cX11_island 200 = .ok (.goto (-15), 3) := by decide +kernel
theorem dX11_island_203 : decode cX11_island 203 = .ok (.aload_n 0, 1) := by decide +kernel
theorem dX11_island_204 : decode cX11_island 204 = .ok (.getfield 181, 3) := by decide +kernel
theorem dX11_island_207 : decode cX11_island 207 = .ok (.ireturn, 1) := by decide +kernel
theorem dX11_isOne_0 : decode cX11_isOne 0 = .ok (.iload_n 1, 1) := by decide +kernel
theorem dX11_isOne_1 : decode cX11_isOne 1 = .ok (.iconst 0, 1) := by decide +kernel
theorem dX11_isOne_2 : decode cX11_isOne 2 = .ok (.aload_n 0, 1) := by decide +kernel
theorem dX11_isOne_3 : decode cX11_isOne 3 = .ok (.getfield 178, 3) := by decide +kernel
theorem dX11_isOne_6 : decode cX11_isOne 6 = .ok (.iconst 1, 1) := by decide +kernel
theorem dX11_isOne_7 : decode cX11_isOne 7 = .ok (.isub, 1) := by decide +kernel
theorem dX11_isOne_8 : decode cX11_isOne 8 = .ok (.invokestatic 98, 3) := by decide +kernel
theorem dX11_isOne_11 : decode cX11_isOne 11 = .ok (.ireturn, 1) := by decide +kernel
theorem dX11_isThing_0 : decode cX11_isThing 0 = .ok (.iload_n 1, 1) := by decide +kernel
theorem dX11_isThing_1 : decode cX11_isThing 1 = .ok (.iconst 0, 1) := by decide +kernel
theorem dX11_isThing_2 : decode cX11_isThing 2 = .ok (.aload_n 0, 1) := by decide +kernel
theorem dX11_isThing_3 : decode cX11_isThing 3 = .ok (.getfield 181, 3) := by decide +kernel
theorem dX11_isThing_6 : decode cX11_isThing 6 = .ok (.iconst 1, 1) := by decide +kernel
theorem dX11_isThing_7 : decode cX11_isThing 7 = .ok (.isub, 1) := by decide +kernel
theorem dX11_isThing_8 : decode cX11_isThing 8 = .ok (.invokestatic 98, 3) := by decide +kernel
theorem dX11_isThing_11 : decode cX11_isThing 11 = .ok (.ireturn, 1) := by decide +kernel
theorem dX11_isWork_0 : decode cX11_isWork 0 = .ok (.iload_n 1, 1) := by decide +kernel
theorem dX11_isWork_1 : decode cX11_isWork 1 = .ok (.iconst 0, 1) := by decide +kernel
theorem dX11_isWork_2 : decode cX11_isWork 2 = .ok (.aload_n 0, 1) := by decide +kernel
theorem dX11_isWork_3 : decode cX11_isWork 3 = .ok (.getfield 184, 3) := by decide +kernel
theorem dX11_isWork_6 : decode cX11_isWork 6 = .ok (.iconst 1, 1) := by decide +kernel
theorem dX11_isWork_7 : decode cX11_isWork 7 = .ok (.isub, 1) := by decide +kernel
theorem dX11_isWork_8 : decode cX11_isWork 8 = .ok (.invokestatic 98, 3) := by decide +kernel
theorem dX11_isWork_11 : decode cX11_isWork 11 = .ok (.ireturn, 1) := by decide +kernel
theorem dX11_isPlace_0 : decode cX11_isPlace 0 = .ok (.aload_n 0, 1) := by decide +kernel
theorem dX11_isPlace_1 : decode cX11_isPlace 1 = .ok (.iload_n 1, 1) := by decide +kernel
theorem dX11_isPlace_2 : decode cX11_isPlace 2 = .ok (.invokevirtual 196, 3) := by decide +kernel
theorem dX11_isPlace_5 : decode cX11_isPlace 5 = .ok (.ifCond .ne 24, 3) := by decide +kernel
theorem dX11_isPlace_8 : decode cX11_isPlace 8 = .ok (.iload_n 1, 1) := by decide +kernel
theorem dX11_isPlace_9 : decode cX11_isPlace 9 = .ok (.iconst 4, 1) := by decide +kernel
theorem dX11_isPlace_10 : decode cX11_isPlace 10 = .ok (.if_icmp .eq 19, 3) := by decide +kernel
theorem dX11_isPlace_13 : decode cX11_isPlace 13 = .ok (.iload_n 1, 1) := by decide +kernel
theorem dX11_isPlace_14 : decode cX11_isPlace 14 = .ok (.iconst 5, 1) := by decide +kernel
theorem dX11_isPlace_15 : decode cX11_isPlace 15 = .ok (.iconst 5, 1) := by decide +kernel
theorem dX11_isPlace_16 : decode cX11_isPlace 16 = .ok (.aload_n 0, 1) := by decide +kernel
theorem dX11_isPlace_17 : decode cX11_isPlace 17 = .ok (.getfield 187, 3) := by decide +kernel
theorem dX11_isPlace_20 : decode cX11_isPlace 20 = .ok (.iadd, 1) := by decide +kernel
theorem dX11_isPlace_21 : decode cX11_isPlace 21 = .ok (.iconst 1, 1) := by decide +kernel
theorem dX11_isPlace_22 : decode cX11_isPlace 22 = .ok (.isub, 1) := by decide +kernel
theorem dX11_isPlace_23 : decode cX11_isPlace 23 = .ok (.invokestatic 98, 3) := by decide +kernel
theorem dX11_isPlace_26 : decode cX11_isPlace 26 = .ok (.ifCond .eq 7, 3) := by decide +kernel
theorem dX11_isPlace_29 : decode cX11_isPlace 29 = .ok (.iconst 1, 1) := by decide +kernel
theorem dX11_isPlace_30 : decode cX11_isPlace 30 = .ok (.goto 4, 3) := by decide +kernel
theorem dX11_isPlace_33 : decode cX11_isPlace 33 = .ok (.iconst 0, 1) := by decide +kernel
theorem dX11_isPlace_34 : decode cX11_isPlace 34 = .ok (.ireturn, 1) := by decide +kernel
theorem dX11_lookNow_0 : decode cX11_lookNow 0 = .ok (.iconst 0, 1) := by decide +kernel
theorem dX11_lookNow_1 : decode cX11_lookNow 1 = .ok (.istore_n 1, 1) := by decide +kernel
theorem dX11_lookNow_2 : decode cX11_lookNow 2 = .ok (.iload_n 1, 1) := by decide +kernel
theorem dX11_lookNow_3 : decode cX11_lookNow 3 = .ok (.aload_n 0, 1) := by decide +kernel
theorem dX11_lookNow_4 : decode cX11_lookNow 4 = .ok (.getfield 181, 3) := by decide +kernel
theorem dX11_lookNow_7 : decode cX11_lookNow 7 = .ok (.if_icmp .ge 21, 3) := by decide +kernel
theorem dX11_lookNow_10 : decode cX11_lookNow 10 = .ok (.aload_n 0, 1) := by decide +kernel
theorem dX11_lookNow_11 : decode cX11_lookNow 11 = .ok (.getfield 50, 3) := by decide +kernel
theorem dX11_lookNow_14 : decode cX11_lookNow 14 = .ok (.iload_n 1, 1) := by decide +kernel
theorem dX11_lookNow_15 : decode cX11_lookNow 15 = .ok (.aload_n 0, 1) := by decide +kernel
theorem dX11_lookNow_16 : decode cX11_lookNow 16 = .ok (.getfield 38, 3) := by decide +kernel
theorem dX11_lookNow_19 : decode cX11_lookNow 19 = .ok (.iload_n 1, 1) := by decide +kernel
theorem dX11_lookNow_20 : decode cX11_lookNow 20 = .ok (.iaload, 1) := by decide +kernel
theorem dX11_lookNow_21 : decode cX11_lookNow 21 = .ok (.iastore, 1) := by decide +kernel
theorem dX11_lookNow_22 : decode cX11_lookNow 22 = .ok (.iinc 1 1, 3) := by decide +kernel
theorem dX11_lookNow_25 : decode cX11_lookNow 25 = .ok (.goto (-23), 3) := by decide +kernel
theorem dX11_lookNow_28 : decode cX11_lookNow 28 = .ok (.return_, 1) := by decide +kernel
theorem dX11_look_0 : decode cX11_look 0 = .ok (.iload_n 1, 1) := by decide +kernel
theorem dX11_look_1 : decode cX11_look 1 = .ok (.istore_n 2, 1) := by decide +kernel
theorem dX11_look_2 : decode cX11_look 2 = .ok (.iconst 0, 1) := by decide +kernel
theorem dX11_look_3 : decode cX11_look 3 = .ok (.istore_n 3, 1) := by decide +kernel
theorem dX11_look_4 : decode cX11_look 4 = .ok (.iload_n 3, 1) := by decide +kernel
theorem dX11_look_5 : decode cX11_look 5 = .ok (.aload_n 0, 1) := by decide +kernel
theorem dX11_look_6 : decode cX11_look 6 = .ok (.getfield 181, 3) := by decide +kernel
theorem dX11_look_9 : decode cX11_look 9 = .ok (.if_icmp .ge 24, 3) := by decide +kernel
theorem dX11_look_12 : decode cX11_look 12 = .ok (.aload_n 0, 1) := by decide +kernel
theorem dX11_look_13 : decode cX11_look 13 = .ok (.getfield 50, 3) := by decide +kernel
theorem dX11_look_16 : decode cX11_look 16 = .ok (.iload_n 3, 1) := by decide +kernel
theorem dX11_look_17 : decode cX11_look 17 = .ok (.iload_n 2, 1) := by decide +kernel
theorem dX11_look_18 : decode cX11_look 18 = .ok (.bipush 7, 2) := by decide +kernel
theorem dX11_look_20 : decode cX11_look 20 = .ok (.irem, 1) := by decide +kernel
theorem dX11_look_21 : decode cX11_look 21 = .ok (.iastore, 1) := by decide +kernel
theorem dX11_look_22 : decode cX11_look 22 = .ok (.iload_n 2, 1) := by decide +kernel
theorem dX11_look_23 : decode cX11_look 23 = .ok (.bipush 7, 2) := by decide +kernel
theorem dX11_look_25 : decode cX11_look 25 = .ok (.idiv, 1) := by decide +kernel
theorem dX11_look_26 : decode cX11_look 26 = .ok (.istore_n 2, 1) := by decide +kernel
theorem dX11_look_27 : decode cX11_look 27 = .ok (.iinc 3 1, 3) := by decide +kernel
theorem dX11_look_30 : decode cX11_look 30 = .ok (.goto (-26), 3) := by decide +kernel
theorem dX11_look_33 : decode cX11_look 33 = .ok (.return_, 1) := by decide +kernel
theorem dX11_code_0 : decode cX11_code 0 = .ok (.iconst 0, 1) := by decide +kernel
theorem dX11_code_1 : decode cX11_code 1 = .ok (.istore_n 1, 1) := by decide +kernel
theorem dX11_code_2 : decode cX11_code 2 = .ok (.aload_n 0, 1) := by decide +kernel
theorem dX11_code_3 : decode cX11_code 3 = .ok (.getfield 181, 3) := by decide +kernel
theorem dX11_code_6 : decode cX11_code 6 = .ok (.iconst 1, 1) := by decide +kernel
theorem dX11_code_7 : decode cX11_code 7 = .ok (.isub, 1) := by decide +kernel
theorem dX11_code_8 : decode cX11_code 8 = .ok (.istore_n 2, 1) := by decide +kernel
theorem dX11_code_9 : decode cX11_code 9 = .ok (.iload_n 2, 1) := by decide +kernel
theorem dX11_code_10 : decode cX11_code 10 = .ok (.ifCond .lt 21, 3) := by decide +kernel
theorem dX11_code_13 : decode cX11_code 13 = .ok (.bipush 7, 2) := by decide +kernel
theorem dX11_code_15 : decode cX11_code 15 = .ok (.iload_n 1, 1) := by decide +kernel
theorem dX11_code_16 : decode cX11_code 16 = .ok (.imul, 1) := by decide +kernel
theorem dX11_code_17 : decode cX11_code 17 = .ok (.aload_n 0, 1) := by decide +kernel
theorem dX11_code_18 : decode cX11_code 18 = .ok (.getfield 50, 3) := by decide +kernel
theorem dX11_code_21 : decode cX11_code 21 = .ok (.iload_n 2, 1) := by decide +kernel
theorem dX11_code_22 : decode cX11_code 22 = .ok (.iaload, 1) := by decide +kernel
theorem dX11_code_23 : decode cX11_code 23 = .ok (.iadd, 1) := by decide +kernel
theorem dX11_code_24 : decode cX11_code 24 = .ok (.istore_n 1, 1) := by decide +kernel
theorem dX11_code_25 : decode cX11_code 25 = .ok (.iinc 2 (-1), 3) := by decide +kernel
theorem dX11_code_28 : decode cX11_code 28 = .ok (.goto (-19), 3) := by decide +kernel
theorem dX11_code_31 : decode cX11_code 31 = .ok (.iload_n 1, 1) := by decide +kernel
theorem dX11_code_32 : decode cX11_code 32 = .ok (.ireturn, 1) := by decide +kernel
theorem dX11_stateMany_0 : decode cX11_stateMany 0 = .ok (.iconst 1, 1) := by decide +kernel
theorem dX11_stateMany_1 : decode cX11_stateMany 1 = .ok (.istore_n 1, 1) := by decide +kernel
theorem dX11_stateMany_2 : decode cX11_stateMany 2 = .ok (.iconst 0, 1) := by decide +kernel
theorem dX11_stateMany_3 : decode cX11_stateMany 3 = .ok (.istore_n 2, 1) := by decide +kernel
theorem dX11_stateMany_4 : decode cX11_stateMany 4 = .ok (.iload_n 2, 1) := by decide +kernel
theorem dX11_stateMany_5 : decode cX11_stateMany 5 = .ok (.aload_n 0, 1) := by decide +kernel
theorem dX11_stateMany_6 : decode cX11_stateMany 6 = .ok (.getfield 181, 3) := by decide +kernel
theorem dX11_stateMany_9 : decode cX11_stateMany 9 = .ok (.if_icmp .ge 14, 3) := by decide +kernel
theorem dX11_stateMany_12 : decode cX11_stateMany 12 = .ok (.iload_n 1, 1) := by decide +kernel
theorem dX11_stateMany_13 : decode cX11_stateMany 13 = .ok (.bipush 7, 2) := by decide +kernel
theorem dX11_stateMany_15 : decode cX11_stateMany 15 = .ok (.imul, 1) := by decide +kernel
theorem dX11_stateMany_16 : decode cX11_stateMany 16 = .ok (.istore_n 1, 1) := by decide +kernel
theorem dX11_stateMany_17 : decode cX11_stateMany 17 = .ok (.iinc 2 1, 3) := by decide +kernel
theorem dX11_stateMany_20 : decode cX11_stateMany 20 = .ok (.goto (-16), 3) := by decide +kernel
theorem dX11_stateMany_23 : decode cX11_stateMany 23 = .ok (.iload_n 1, 1) := by decide +kernel
theorem dX11_stateMany_24 : decode cX11_stateMany 24 = .ok (.ireturn, 1) := by decide +kernel
theorem dX11_with_0 : decode cX11_with 0 = .ok (.aload_n 0, 1) := by decide +kernel
theorem dX11_with_1 : decode cX11_with 1 = .ok (.getfield 50, 3) := by decide +kernel
theorem dX11_with_4 : decode cX11_with 4 = .ok (.iload_n 1, 1) := by decide +kernel

theorem dL_drowned_52 : decode cL_drowned 52 = .ok (.iload_n 3, 1) := by decide +kernel
theorem dL_drowned_53 : decode cL_drowned 53 = .ok (.irem, 1) := by decide +kernel
theorem dL_drowned_54 : decode cL_drowned 54 = .ok (.iload 7, 2) := by decide +kernel
theorem dL_drowned_56 : decode cL_drowned 56 = .ok (.bipush 8, 2) := by decide +kernel
theorem dL_drowned_58 : decode cL_drowned 58 = .ok (.idiv, 1) := by decide +kernel
theorem dL_drowned_59 : decode cL_drowned 59 = .ok (.iconst 2, 1) := by decide +kernel
theorem dL_drowned_60 : decode cL_drowned 60 = .ok (.irem, 1) := by decide +kernel
theorem dL_drowned_61 : decode cL_drowned 61 = .ok (.invokevirtual 205, 3) := by decide +kernel
theorem dL_drowned_64 : decode cL_drowned 64 = .ok (.iload 6, 2) := by decide +kernel
theorem dL_drowned_66 : decode cL_drowned 66 = .ok (.if_icmp .eq 5, 3) := by decide +kernel
theorem dL_drowned_69 : decode cL_drowned 69 = .ok (.iconst 0, 1) := by decide +kernel
theorem dL_drowned_70 : decode cL_drowned 70 = .ok (.ireturn, 1) := by decide +kernel
theorem dL_drowned_71 : decode cL_drowned 71 = .ok (.aload_n 0, 1) := by decide +kernel
theorem dL_drowned_72 : decode cL_drowned 72 = .ok (.invokevirtual 203, 3) := by decide +kernel
theorem dL_drowned_75 : decode cL_drowned 75 = .ok (.istore 8, 2) := by decide +kernel
theorem dL_drowned_77 : decode cL_drowned 77 = .ok (.aload_n 0, 1) := by decide +kernel
theorem dL_drowned_78 : decode cL_drowned 78 = .ok (.invokevirtual 83, 3) := by decide +kernel
theorem dL_drowned_81 : decode cL_drowned 81 = .ok (.istore 9, 2) := by decide +kernel
theorem dL_drowned_83 : decode cL_drowned 83 = .ok (.iload 8, 2) := by decide +kernel
theorem dL_drowned_85 : decode cL_drowned 85 = .ok (.iload 4, 2) := by decide +kernel
theorem dL_drowned_87 : decode cL_drowned 87 = .ok (.if_icmp .gt 8, 3) := by decide +kernel
theorem dL_drowned_90 : decode cL_drowned 90 = .ok (.iload 8, 2) := by decide +kernel
theorem dL_drowned_92 : decode cL_drowned 92 = .ok (.ifCond .ge 5, 3) := by decide +kernel
theorem dL_drowned_95 : decode cL_drowned 95 = .ok (.iconst 0, 1) := by decide +kernel
theorem dL_drowned_96 : decode cL_drowned 96 = .ok (.ireturn, 1) := by decide +kernel
theorem dL_drowned_97 : decode cL_drowned 97 = .ok (.iconst 0, 1) := by decide +kernel
theorem dL_drowned_98 : decode cL_drowned 98 = .ok (.istore 10, 2) := by decide +kernel
theorem dL_drowned_100 : decode cL_drowned 100 = .ok (.iconst 0, 1) := by decide +kernel
theorem dL_drowned_101 : decode cL_drowned 101 = .ok (.istore 11, 2) := by decide +kernel
theorem dL_drowned_103 : decode cL_drowned 103 = .ok (.iload 11, 2) := by decide +kernel
theorem dL_drowned_105 : decode cL_drowned 105 = .ok (.iload_n 2, 1) := by decide +kernel
theorem dL_drowned_106 : decode cL_drowned 106 = .ok (.if_icmp .ge 94, 3) := by decide +kernel
theorem dL_drowned_109 : decode cL_drowned 109 = .ok (.iload 8, 2) := by decide +kernel
theorem dL_drowned_111 : decode cL_drowned 111 = .ok (.ifCond .le 89, 3) := by decide +kernel
theorem dL_drowned_114 : decode cL_drowned 114 = .ok (.aload_n 0, 1) := by decide +kernel
theorem dL_drowned_115 : decode cL_drowned 115 = .ok (.iload 11, 2) := by decide +kernel
theorem dL_drowned_117 : decode cL_drowned 117 = .ok (.invokevirtual 208, 3) := by decide +kernel
theorem dL_drowned_120 : decode cL_drowned 120 = .ok (.istore 12, 2) := by decide +kernel
theorem dL_drowned_122 : decode cL_drowned 122 = .ok (.iload 10, 2) := by decide +kernel
theorem dL_drowned_124 : decode cL_drowned 124 = .ok (.iload 12, 2) := by decide +kernel
theorem dL_drowned_126 : decode cL_drowned 126 = .ok (.iadd, 1) := by decide +kernel
theorem dL_drowned_127 : decode cL_drowned 127 = .ok (.istore 10, 2) := by decide +kernel
theorem dL_drowned_129 : decode cL_drowned 129 = .ok (.iload 12, 2) := by decide +kernel
theorem dL_drowned_131 : decode cL_drowned 131 = .ok (.ifCond .lt 61, 3) := by decide +kernel
theorem dL_drowned_134 : decode cL_drowned 134 = .ok (.iload 12, 2) := by decide +kernel
theorem dL_drowned_136 : decode cL_drowned 136 = .ok (.iload 8, 2) := by decide +kernel
theorem dL_drowned_138 : decode cL_drowned 138 = .ok (.if_icmp .gt 54, 3) := by decide +kernel
theorem dL_drowned_141 : decode cL_drowned 141 = .ok (.aload_n 0, 1) := by decide +kernel
theorem dL_drowned_142 : decode cL_drowned 142 = .ok (.invokevirtual 211, 3) := by decide +kernel
theorem dL_drowned_145 : decode cL_drowned 145 = .ok (.iload 8, 2) := by decide +kernel
theorem dL_drowned_147 : decode cL_drowned 147 = .ok (.i2l, 1) := by decide +kernel
theorem dL_drowned_148 : decode cL_drowned 148 = .ok (.lmul, 1) := by decide +kernel
theorem dL_drowned_149 : decode cL_drowned 149 = .ok (.iload 12, 2) := by decide +kernel
theorem dL_drowned_151 : decode cL_drowned 151 = .ok (.i2l, 1) := by decide +kernel
theorem dL_drowned_152 : decode cL_drowned 152 = .ok (.aload_n 0, 1) := by decide +kernel
theorem dL_drowned_153 : decode cL_drowned 153 = .ok (.invokevirtual 214, 3) := by decide +kernel
theorem dL_drowned_156 : decode cL_drowned 156 = .ok (.lmul, 1) := by decide +kernel
theorem dL_drowned_157 : decode cL_drowned 157 = .ok (.lcmp, 1) := by decide +kernel
theorem dL_drowned_158 : decode cL_drowned 158 = .ok (.ifCond .ne 34, 3) := by decide +kernel
theorem dL_drowned_161 : decode cL_drowned 161 = .ok (.iload 9, 2) := by decide +kernel
theorem dL_drowned_163 : decode cL_drowned 163 = .ok (.iload 11, 2) := by decide +kernel
theorem dL_drowned_165 : decode cL_drowned 165 = .ok (.ishr, 1) := by decide +kernel
theorem dL_drowned_166 : decode cL_drowned 166 = .ok (.iconst 1, 1) := by decide +kernel
theorem dL_drowned_167 : decode cL_drowned 167 = .ok (.iand, 1) := by decide +kernel
theorem dL_drowned_168 : decode cL_drowned 168 = .ok (.iconst 1, 1) := by decide +kernel
theorem dL_drowned_169 : decode cL_drowned 169 = .ok (.if_icmp .ne 7, 3) := by decide +kernel
theorem dL_drowned_172 : decode cL_drowned 172 = .ok (.iconst 1, 1) := by decide +kernel
theorem dL_drowned_173 : decode cL_drowned 173 = .ok (.goto 4, 3) := by decide +kernel
theorem dL_drowned_176 : decode cL_drowned 176 = .ok (.iconst 0, 1) := by decide +kernel
theorem dL_drowned_177 : decode cL_drowned 177 = .ok (.iload 12, 2) := by decide +kernel
theorem dL_drowned_179 : decode cL_drowned 179 = .ok (.iload 8, 2) := by decide +kernel
theorem dL_drowned_181 : decode cL_drowned 181 = .ok (.if_icmp .ne 7, 3) := by decide +kernel
theorem dL_drowned_184 : decode cL_drowned 184 = .ok (.iconst 1, 1) := by decide +kernel
theorem dL_drowned_185 : decode cL_drowned 185 = .ok (.goto 4, 3) := by decide +kernel
theorem dL_drowned_188 : decode cL_drowned 188 = .ok (.iconst 0, 1) := by decide +kernel
theorem dL_drowned_189 : decode cL_drowned 189 = .ok (.if_icmp .eq 5, 3) := by decide +kernel
theorem dL_drowned_192 : decode cL_drowned 192 = .ok (.iconst 0, 1) := by decide +kernel
theorem dL_drowned_193 : decode cL_drowned 193 = .ok (.ireturn, 1) := by decide +kernel
theorem dL_drowned_194 : decode cL_drowned 194 = .ok (.iinc 11 1, 3) := by decide +kernel
theorem dL_drowned_197 : decode cL_drowned 197 = .ok (.goto (-94), 3) := by decide +kernel
theorem dL_drowned_200 : decode cL_drowned 200 = .ok (.iload 8, 2) := by decide +kernel
theorem dL_drowned_202 : decode cL_drowned 202 = .ok (.ifCond .le 15, 3) := by decide +kernel
theorem dL_drowned_205 : decode cL_drowned 205 = .ok (.iload 10, 2) := by decide +kernel
theorem dL_drowned_207 : decode cL_drowned 207 = .ok (.bipush 6, 2) := by decide +kernel
theorem dL_drowned_209 : decode cL_drowned 209 = .ok (.iload 8, 2) := by decide +kernel
theorem dL_drowned_211 : decode cL_drowned 211 = .ok (.imul, 1) := by decide +kernel
theorem dL_drowned_212 : decode cL_drowned 212 = .ok (.if_icmp .le 5, 3) := by decide +kernel
theorem dL_drowned_215 : decode cL_drowned 215 = .ok (.iconst 0, 1) := by decide +kernel
theorem dL_drowned_216 : decode cL_drowned 216 = .ok (.ireturn, 1) := by decide +kernel
theorem dL_drowned_217 : decode cL_drowned 217 = .ok (.iload 8, 2) := by decide +kernel
theorem dL_drowned_219 : decode cL_drowned 219 = .ok (.istore 4, 2) := by decide +kernel
theorem dL_drowned_221 : decode cL_drowned 221 = .ok (.iinc 6 1, 3) := by decide +kernel
theorem dL_drowned_224 : decode cL_drowned 224 = .ok (.goto (-196), 3) := by decide +kernel
theorem dL_drowned_227 : decode cL_drowned 227 = .ok (.aload_n 0, 1) := by decide +kernel
theorem dL_drowned_228 : decode cL_drowned 228 = .ok (.iconst 0, 1) := by decide +kernel
theorem dL_drowned_229 : decode cL_drowned 229 = .ok (.invokevirtual 217, 3) := by decide +kernel
theorem dL_drowned_232 : decode cL_drowned 232 = .ok (.ifCond .lt 7, 3) := by decide +kernel
theorem dL_drowned_235 : decode cL_drowned 235 = .ok (.iconst 1, 1) := by decide +kernel
theorem dL_drowned_236 : decode cL_drowned 236 = .ok (.goto 4, 3) := by decide +kernel
theorem dL_drowned_239 : decode cL_drowned 239 = .ok (.iconst 0, 1) := by decide +kernel
theorem dL_drowned_240 : decode cL_drowned 240 = .ok (.ireturn, 1) := by decide +kernel

theorem dX8_give_68 : decode cX8_give 68 = .ok (.aload_n 0, 1) := by decide +kernel
theorem dX8_give_69 : decode cX8_give 69 = .ok (.iload 6, 2) := by decide +kernel
theorem dX8_give_71 : decode cX8_give 71 = .ok (.iconst 4, 1) := by decide +kernel
theorem dX8_give_72 : decode cX8_give 72 = .ok (.invokevirtual 96, 3) := by decide +kernel
theorem dX8_give_75 : decode cX8_give 75 = .ok (.iadd, 1) := by decide +kernel
theorem dX8_give_76 : decode cX8_give 76 = .ok (.istore 5, 2) := by decide +kernel
theorem dX8_give_78 : decode cX8_give 78 = .ok (.iinc 6 1, 3) := by decide +kernel
theorem dX8_give_81 : decode cX8_give 81 = .ok (.goto (-37), 3) := by decide +kernel
theorem dX8_give_84 : decode cX8_give 84 = .ok (.aload_n 0, 1) := by decide +kernel
theorem dX8_give_85 : decode cX8_give 85 = .ok (.iload_n 1, 1) := by decide +kernel
theorem dX8_give_86 : decode cX8_give 86 = .ok (.iload 5, 2) := by decide +kernel
theorem dX8_give_88 : decode cX8_give 88 = .ok (.invokevirtual 100, 3) := by decide +kernel
theorem dX8_give_91 : decode cX8_give 91 = .ok (.return_, 1) := by decide +kernel
theorem dX8_shift_0 : decode cX8_shift 0 = .ok (.iload_n 2, 1) := by decide +kernel
theorem dX8_shift_1 : decode cX8_shift 1 = .ok (.aload_n 0, 1) := by decide +kernel
theorem dX8_shift_2 : decode cX8_shift 2 = .ok (.getfield 28, 3) := by decide +kernel
theorem dX8_shift_5 : decode cX8_shift 5 = .ok (.getfield 82, 3) := by decide +kernel
theorem dX8_shift_8 : decode cX8_shift 8 = .ok (.iload_n 1, 1) := by decide +kernel
theorem dX8_shift_9 : decode cX8_shift 9 = .ok (.iaload, 1) := by decide +kernel
theorem dX8_shift_10 : decode cX8_shift 10 = .ok (.isub, 1) := by decide +kernel
theorem dX8_shift_11 : decode cX8_shift 11 = .ok (.getstatic 110, 3) := by decide +kernel
theorem dX8_shift_14 : decode cX8_shift 14 = .ok (.iload_n 1, 1) := by decide +kernel
theorem dX8_shift_15 : decode cX8_shift 15 = .ok (.iaload, 1) := by decide +kernel
theorem dX8_shift_16 : decode cX8_shift 16 = .ok (.imul, 1) := by decide +kernel
theorem dX8_shift_17 : decode cX8_shift 17 = .ok (.ireturn, 1) := by decide +kernel
theorem dX8_reach_0 : decode cX8_reach 0 = .ok (.aload_n 0, 1) := by decide +kernel
theorem dX8_reach_1 : decode cX8_reach 1 = .ok (.getfield 15, 3) := by decide +kernel
theorem dX8_reach_4 : decode cX8_reach 4 = .ok (.aload_n 0, 1) := by decide +kernel
theorem dX8_reach_5 : decode cX8_reach 5 = .ok (.getfield 15, 3) := by decide +kernel
theorem dX8_reach_8 : decode cX8_reach 8 = .ok (.getfield 42, 3) := by decide +kernel
theorem dX8_reach_11 : decode cX8_reach 11 = .ok (.iload_n 1, 1) := by decide +kernel
theorem dX8_reach_12 : decode cX8_reach 12 = .ok (.iaload, 1) := by decide +kernel
theorem dX8_reach_13 : decode cX8_reach 13 = .ok (.iload_n 2, 1) := by decide +kernel
theorem dX8_reach_14 : decode cX8_reach 14 = .ok (.iadd, 1) := by decide +kernel
theorem dX8_reach_15 : decode cX8_reach 15 = .ok (.iload_n 1, 1) := by decide +kernel
theorem dX8_reach_16 : decode cX8_reach 16 = .ok (.iconst 0, 1) := by decide +kernel
theorem dX8_reach_17 : decode cX8_reach 17 = .ok (.aload_n 0, 1) := by decide +kernel
theorem dX8_reach_18 : decode cX8_reach 18 = .ok (.getfield 15, 3) := by decide +kernel
theorem dX8_reach_21 : decode cX8_reach 21 = .ok (.getfield 54, 3) := by decide +kernel
theorem dX8_reach_24 : decode cX8_reach 24 = .ok (.iload_n 1, 1) := by decide +kernel
theorem dX8_reach_25 : decode cX8_reach 25 = .ok (.iaload, 1) := by decide +kernel
theorem dX8_reach_26 : decode cX8_reach 26 = .ok (.iconst 1, 1) := by decide +kernel
theorem dX8_reach_27 : decode cX8_reach 27 = .ok (.iadd, 1) := by decide +kernel
theorem dX8_reach_28 : decode cX8_reach 28 = .ok (.invokevirtual 113, 3) := by decide +kernel
theorem dX8_reach_31 : decode cX8_reach 31 = .ok (.pop, 1) := by decide +kernel
theorem dX8_reach_32 : decode cX8_reach 32 = .ok (.return_, 1) := by decide +kernel
theorem dX9_init_0 : decode cX9_init 0 = .ok (.aload_n 0, 1) := by decide +kernel
theorem dX9_init_1 : decode cX9_init 1 = .ok (.invokespecial 3, 3) := by decide +kernel
theorem dX9_init_4 : decode cX9_init 4 = .ok (.aload_n 0, 1) := by decide +kernel
theorem dX9_init_5 : decode cX9_init 5 = .ok (.lconst 1, 1) := by decide +kernel
theorem dX9_init_6 : decode cX9_init 6 = .ok (.putfield 9, 3) := by decide +kernel
theorem dX9_init_9 : decode cX9_init 9 = .ok (.aload_n 0, 1) := by decide +kernel
theorem dX9_init_10 : decode cX9_init 10 = .ok (.bipush 6, 2) := by decide +kernel
theorem dX9_init_12 : decode cX9_init 12 = .ok (.newarray .int, 2) := by decide +kernel
theorem dX9_init_14 : decode cX9_init 14 = .ok (.putfield 15, 3) := by decide +kernel
theorem dX9_init_17 : decode cX9_init 17 = .ok (.return_, 1) := by decide +kernel
theorem dX9_tell_0 : decode cX9_tell 0 = .ok (.aload_n 0, 1) := by decide +kernel
theorem dX9_tell_1 : decode cX9_tell 1 = .ok (.iload_n 1, 1) := by decide +kernel
theorem dX9_tell_2 : decode cX9_tell 2 = .ok (.putfield 19, 3) := by decide +kernel
theorem dX9_tell_5 : decode cX9_tell 5 = .ok (.iconst 1, 1) := by decide +kernel
theorem dX9_tell_6 : decode cX9_tell 6 = .ok (.ireturn, 1) := by decide +kernel
theorem dX9_find_0 : decode cX9_find 0 = .ok (.iload_n 1, 1) := by decide +kernel
theorem dX9_find_1 : decode cX9_find 1 = .ok (.iconst 1, 1) := by decide +kernel
theorem dX9_find_2 : decode cX9_find 2 = .ok (.if_icmp .lt 8, 3) := by decide +kernel
theorem dX9_find_5 : decode cX9_find 5 = .ok (.iload_n 1, 1) := by decide +kernel
theorem dX9_find_6 : decode cX9_find 6 = .ok (.iconst 5, 1) := by decide +kernel
theorem dX9_find_7 : decode cX9_find 7 = .ok (.if_icmp .le 6, 3) := by decide +kernel
theorem dX9_find_10 : decode cX9_find 10 = .ok (.bipush (-3), 2) := by decide +kernel
theorem dX9_find_12 : decode cX9_find 12 = .ok (.ireturn, 1) := by decide +kernel
theorem dX9_find_13 : decode cX9_find 13 = .ok (.aload_n 0, 1) := by decide +kernel
theorem dX9_find_14 : decode cX9_find 14 = .ok (.iload_n 1, 1) := by decide +kernel
theorem dX9_find_15 : decode cX9_find 15 = .ok (.putfield 23, 3) := by decide +kernel
theorem dX9_find_18 : decode cX9_find 18 = .ok (.aload_n 0, 1) := by decide +kernel
theorem dX9_find_19 : decode cX9_find 19 = .ok (.getfield 15, 3) := by decide +kernel
theorem dX9_find_22 : decode cX9_find 22 = .ok (.iload_n 1, 1) := by decide +kernel
theorem dX9_find_23 : decode cX9_find 23 = .ok (.dup2, 1) := by decide +kernel
theorem dX9_find_24 : decode cX9_find 24 = .ok (.iaload, 1) := by decide +kernel
theorem dX9_find_25 : decode cX9_find 25 = .ok (.iconst 1, 1) := by decide +kernel
theorem dX9_find_26 : decode cX9_find 26 = .ok (.iadd, 1) := by decide +kernel
theorem dX9_find_27 : decode cX9_find 27 = .ok (.iastore, 1) := by decide +kernel
theorem dX9_find_28 : decode cX9_find 28 = .ok (.bipush (-3), 2) := by decide +kernel
theorem dX9_find_30 : decode cX9_find 30 = .ok (.ireturn, 1) := by decide +kernel
theorem dX9_tellFraction_0 : decode cX9_tellFraction 0 = .ok (.iload_n 2, 1) := by decide +kernel
theorem dX9_tellFraction_1 : decode cX9_tellFraction 1 = .ok (.istore_n 3, 1) := by decide +kernel
theorem dX9_tellFraction_2 : decode cX9_tellFraction 2 = .ok (.iload_n 1, 1) := by decide +kernel
theorem dX9_tellFraction_3 : decode cX9_tellFraction 3 = .ok (.istore 4, 2) := by decide +kernel
theorem dX9_tellFraction_5 : decode cX9_tellFraction 5 = .ok (.iconst 0, 1) := by decide +kernel
theorem dX9_tellFraction_6 : decode cX9_tellFraction 6 = .ok (.istore 5, 2) := by decide +kernel
theorem dX9_tellFraction_8 : decode cX9_tellFraction 8 = .ok (.iload 5, 2) := by decide +kernel
theorem dX9_tellFraction_10 : decode cX9_tellFraction 10 = .ok (.bipush 64, 2) := by decide +kernel
theorem dX9_tellFraction_12 : decode cX9_tellFraction 12 = .ok (.if_icmp .ge 27, 3) := by decide +kernel
theorem dX9_tellFraction_15 : decode cX9_tellFraction 15 = .ok (.iload 4, 2) := by decide +kernel
theorem dX9_tellFraction_17 : decode cX9_tellFraction 17 = .ok (.ifCond .eq 22, 3) := by decide +kernel
theorem dX9_tellFraction_20 : decode cX9_tellFraction 20 = .ok (.iload_n 3, 1) := by decide +kernel
theorem dX9_tellFraction_21 : decode cX9_tellFraction 21 = .ok (.iload 4, 2) := by decide +kernel
theorem dX9_tellFraction_23 : decode cX9_tellFraction 23 = .ok (.irem, 1) := by decide +kernel
theorem dX9_tellFraction_24 : decode cX9_tellFraction 24 = .ok (.istore 6, 2) := by decide +kernel
theorem dX9_tellFraction_26 : decode cX9_tellFraction 26 = .ok (.iload 4, 2) := by decide +kernel
theorem dX9_tellFraction_28 : decode cX9_tellFraction 28 = .ok (.istore_n 3, 1) := by decide +kernel
theorem dX9_tellFraction_29 : decode cX9_tellFraction 29 = .ok (.iload 6, 2) := by decide +kernel
theorem dX9_tellFraction_31 : decode cX9_tellFraction 31 = .ok (.istore 4, 2) := by decide +kernel
theorem dX9_tellFraction_33 : decode cX9_tellFraction 33 = .ok (.iinc 5 1, 3) := by decide +kernel
theorem dX9_tellFraction_36 : decode cX9_tellFraction 36 = .ok (.goto (-28), 3) := by decide +kernel
theorem dX9_tellFraction_39 : decode cX9_tellFraction 39 = .ok (.iload_n 3, 1) := by decide +kernel
theorem dX9_tellFraction_40 : decode cX9_tellFraction 40 = .ok (.ifCond .ne 4, 3) := by decide +kernel
theorem dX9_tellFraction_43 : decode cX9_tellFraction 43 = .ok (.return_, 1) := by decide +kernel
theorem dX9_tellFraction_44 : decode cX9_tellFraction 44 = .ok (.aload_n 0, 1) := by decide +kernel
theorem dX9_tellFraction_45 : decode cX9_tellFraction 45 = .ok (.iload_n 1, 1) := by decide +kernel
theorem dX9_tellFraction_46 : decode cX9_tellFraction 46 = .ok (.iload_n 3, 1) := by decide +kernel
theorem dX9_tellFraction_47 : decode cX9_tellFraction 47 = .ok (.idiv, 1) := by decide +kernel
theorem dX9_tellFraction_48 : decode cX9_tellFraction 48 = .ok (.i2l, 1) := by decide +kernel
theorem dX9_tellFraction_49 : decode cX9_tellFraction 49 = .ok (.putfield 26, 3) := by decide +kernel
theorem dX9_tellFraction_52 : decode cX9_tellFraction 52 = .ok (.aload_n 0, 1) := by decide +kernel
theorem dX9_tellFraction_53 : decode cX9_tellFraction 53 = .ok (.iload_n 2, 1) := by decide +kernel
theorem dX9_tellFraction_54 : decode cX9_tellFraction 54 = .ok (.iload_n 3, 1) := by decide +kernel
theorem dX9_tellFraction_55 : decode cX9_tellFraction 55 = .ok (.idiv, 1) := by decide +kernel
theorem dX9_tellFraction_56 : decode cX9_tellFraction 56 = .ok (.i2l, 1) := by decide +kernel
theorem dX9_tellFraction_57 : decode cX9_tellFraction 57 = .ok (.putfield 9, 3) := by decide +kernel
theorem dX9_tellFraction_60 : decode cX9_tellFraction 60 = .ok (.return_, 1) := by decide +kernel
theorem dX10_init_0 : decode cX10_init 0 = .ok (.aload_n 0, 1) := by decide +kernel
theorem dX10_init_1 : decode cX10_init 1 = .ok (.invokespecial 1, 3) := by decide +kernel
theorem dX10_init_4 : decode cX10_init 4 = .ok (.aload_n 0, 1) := by decide +kernel
theorem dX10_init_5 : decode cX10_init 5 = .ok (.new 7, 3) := by decide +kernel
theorem dX10_init_8 : decode cX10_init 8 = .ok (.dup, 1) := by decide +kernel
theorem dX10_init_9 : decode cX10_init 9 = .ok (.invokespecial 9, 3) := by decide +kernel
theorem dX10_init_12 : decode cX10_init 12 = .ok (.putfield 10, 3) := by decide +kernel
theorem dX10_init_15 : decode cX10_init 15 = .ok (.aload_n 0, 1) := by decide +kernel
theorem dX10_init_16 : decode cX10_init 16 = .ok (.new 16, 3) := by decide +kernel
theorem dX10_init_19 : decode cX10_init 19 = .ok (.dup, 1) := by decide +kernel
theorem dX10_init_20 : decode cX10_init 20 = .ok (.bipush 6, 2) := by decide +kernel
theorem dX10_init_22 : decode cX10_init 22 = .ok (.bipush 60, 2) := by decide +kernel
theorem dX10_init_24 : decode cX10_init 24 = .ok (.invokespecial 18, 3) := by decide +kernel
theorem dX10_init_27 : decode cX10_init 27 = .ok (.putfield 21, 3) := by decide +kernel
theorem dX10_init_30 : decode cX10_init 30 = .ok (.aload_n 0, 1) := by decide +kernel
theorem dX10_init_31 : decode cX10_init 31 = .ok (.new 16, 3) := by decide +kernel
theorem dX10_init_34 : decode cX10_init 34 = .ok (.dup, 1) := by decide +kernel
theorem dX10_init_35 : decode cX10_init 35 = .ok (.iconst 4, 1) := by decide +kernel
theorem dX10_init_36 : decode cX10_init 36 = .ok (.bipush 100, 2) := by decide +kernel
theorem dX10_init_38 : decode cX10_init 38 = .ok (.invokespecial 18, 3) := by decide +kernel
theorem dX10_init_41 : decode cX10_init 41 = .ok (.putfield 25, 3) := by decide +kernel
theorem dX10_init_44 : decode cX10_init 44 = .ok (.aload_n 0, 1) := by decide +kernel
theorem dX10_init_45 : decode cX10_init 45 = .ok (.new 28, 3) := by decide +kernel
theorem dX10_init_48 : decode cX10_init 48 = .ok (.dup, 1) := by decide +kernel
theorem dX10_init_49 : decode cX10_init 49 = .ok (.aload_n 0, 1) := by decide +kernel
theorem dX10_init_50 : decode cX10_init 50 = .ok (.getfield 25, 3) := by decide +kernel
theorem dX10_init_53 : decode cX10_init 53 = .ok (.invokespecial 30, 3) := by decide +kernel
theorem dX10_init_56 : decode cX10_init 56 = .ok (.putfield 33, 3) := by decide +kernel
theorem dX10_init_59 : decode cX10_init 59 = .ok (.aload_n 0, 1) := by decide +kernel
theorem dX10_init_60 : decode cX10_init 60 = .ok (.new 37, 3) := by decide +kernel
theorem dX10_init_63 : decode cX10_init 63 = .ok (.dup, 1) := by decide +kernel
theorem dX10_init_64 : decode cX10_init 64 = .ok (.invokespecial 39, 3) := by decide +kernel
theorem dX10_init_67 : decode cX10_init 67 = .ok (.putfield 40, 3) := by decide +kernel
theorem dX10_init_70 : decode cX10_init 70 = .ok (.aload_n 0, 1) := by decide +kernel
theorem dX10_init_71 : decode cX10_init 71 = .ok (.new 44, 3) := by decide +kernel
theorem dX10_init_74 : decode cX10_init 74 = .ok (.dup, 1) := by decide +kernel
theorem dX10_init_75 : decode cX10_init 75 = .ok (.aload_n 0, 1) := by decide +kernel
theorem dX10_init_76 : decode cX10_init 76 = .ok (.getfield 40, 3) := by decide +kernel
theorem dX10_init_79 : decode cX10_init 79 = .ok (.invokespecial 46, 3) := by decide +kernel
theorem dX10_init_82 : decode cX10_init 82 = .ok (.putfield 49, 3) := by decide +kernel
theorem dX10_init_85 : decode cX10_init 85 = .ok (.aload_n 0, 1) := by decide +kernel
theorem dX10_init_86 : decode cX10_init 86 = .ok (.new 44, 3) := by decide +kernel
theorem dX10_init_89 : decode cX10_init 89 = .ok (.dup, 1) := by decide +kernel
theorem dX10_init_90 : decode cX10_init 90 = .ok (.aload_n 0, 1) := by decide +kernel
theorem dX10_init_91 : decode cX10_init 91 = .ok (.getfield 40, 3) := by decide +kernel
theorem dX10_init_94 : decode cX10_init 94 = .ok (.invokespecial 46, 3) := by decide +kernel
theorem dX10_init_97 : decode cX10_init 97 = .ok (.putfield 53, 3) := by decide +kernel
theorem dX10_init_100 : decode cX10_init 100 = .ok (.aload_n 0, 1) := by decide +kernel
theorem dX10_init_101 : decode cX10_init 101 = .ok (.new 56, 3) := by decide +kernel
theorem dX10_init_104 : decode cX10_init 104 = .ok (.dup, 1) := by decide +kernel
theorem dX10_init_105 : decode cX10_init 105 = .ok (.bipush 40, 2) := by decide +kernel
theorem dX10_init_107 : decode cX10_init 107 = .ok (.invokespecial 58, 3) := by decide +kernel
theorem dX10_init_110 : decode cX10_init 110 = .ok (.putfield 61, 3) := by decide +kernel
theorem dX10_init_113 : decode cX10_init 113 = .ok (.aload_n 0, 1) := by decide +kernel
theorem dX10_init_114 : decode cX10_init 114 = .ok (.new 56, 3) := by decide +kernel
theorem dX10_init_117 : decode cX10_init 117 = .ok (.dup, 1) := by decide +kernel
theorem dX10_init_118 : decode cX10_init 118 = .ok (.bipush 8, 2) := by decide +kernel
theorem dX10_init_120 : decode cX10_init 120 = .ok (.invokespecial 58, 3) := by decide +kernel
theorem dX10_init_123 : decode cX10_init 123 = .ok (.putfield 65, 3) := by decide +kernel
theorem dX10_init_126 : decode cX10_init 126 = .ok (.aload_n 0, 1) := by decide +kernel
theorem dX10_init_127 : decode cX10_init 127 = .ok (.iconst 3, 1) := by decide +kernel
theorem dX10_init_128 : decode cX10_init 128 = .ok (.newarray .int, 2) := by decide +kernel
theorem dX10_init_130 : decode cX10_init 130 = .ok (.putfield 68, 3) := by decide +kernel
theorem dX10_init_133 : decode cX10_init 133 = .ok (.aload_n 0, 1) := by decide +kernel
theorem dX10_init_134 : decode cX10_init 134 = .ok (.iconst 3, 1) := by decide +kernel
theorem dX10_init_135 : decode cX10_init 135 = .ok (.newarray .int, 2) := by decide +kernel
theorem dX10_init_137 : decode cX10_init 137 = .ok (.putfield 72, 3) := by decide +kernel
theorem dX10_init_140 : decode cX10_init 140 = .ok (.new 75, 3) := by decide +kernel
theorem dX10_init_143 : decode cX10_init 143 = .ok (.dup, 1) := by decide +kernel
theorem dX10_init_144 : decode cX10_init 144 = .ok (.invokespecial 77, 3) := by decide +kernel
theorem dX10_init_147 : decode cX10_init 147 = .ok (.astore_n 1, 1) := by decide +kernel
theorem dX10_init_148 : decode cX10_init 148 = .ok (.aload_n 0, 1) := by decide +kernel
theorem dX10_init_149 : decode cX10_init 149 = .ok (.new 78, 3) := by decide +kernel
theorem dX10_init_152 : decode cX10_init 152 = .ok (.dup, 1) := by decide +kernel
theorem dX10_init_153 : decode cX10_init 153 = .ok (.aload_n 0, 1) := by decide +kernel
theorem dX10_init_154 : decode cX10_init 154 = .ok (.getfield 40, 3) := by decide +kernel
theorem dX10_init_157 : decode cX10_init 157 = .ok (.aload_n 1, 1) := by decide +kernel
theorem dX10_init_158 : decode cX10_init 158 = .ok (.invokespecial 80, 3) := by decide +kernel
theorem dX10_init_161 : decode cX10_init 161 = .ok (.putfield 83, 3) := by decide +kernel
theorem dX10_init_164 : decode cX10_init 164 = .ok (.aload_n 0, 1) := by decide +kernel
theorem dX10_init_165 : decode cX10_init 165 = .ok (.new 87, 3) := by decide +kernel
theorem dX10_init_168 : decode cX10_init 168 = .ok (.dup, 1) := by decide +kernel
theorem dX10_init_169 : decode cX10_init 169 = .ok (.aload_n 0, 1) := by decide +kernel
theorem dX10_init_170 : decode cX10_init 170 = .ok (.getfield 40, 3) := by decide +kernel
theorem dX10_init_173 : decode cX10_init 173 = .ok (.aload_n 0, 1) := by decide +kernel
theorem dX10_init_174 : decode cX10_init 174 = .ok (.getfield 83, 3) := by decide +kernel
theorem dX10_init_177 : decode cX10_init 177 = .ok (.invokespecial 89, 3) := by decide +kernel
theorem dX10_init_180 : decode cX10_init 180 = .ok (.putfield 92, 3) := by decide +kernel
theorem dX10_init_183 : decode cX10_init 183 = .ok (.aload_n 0, 1) := by decide +kernel
theorem dX10_init_184 : decode cX10_init 184 = .ok (.new 96, 3) := by decide +kernel
theorem dX10_init_187 : decode cX10_init 187 = .ok (.dup, 1) := by decide +kernel
theorem dX10_init_188 : decode cX10_init 188 = .ok (.aload_n 0, 1) := by decide +kernel
theorem dX10_init_189 : decode cX10_init 189 = .ok (.getfield 40, 3) := by decide +kernel
theorem dX10_init_192 : decode cX10_init 192 = .ok (.aload_n 1, 1) := by decide +kernel
theorem dX10_init_193 : decode cX10_init 193 = .ok (.aload_n 0, 1) := by decide +kernel
theorem dX10_init_194 : decode cX10_init 194 = .ok (.getfield 83, 3) := by decide +kernel
theorem dX10_init_197 : decode cX10_init 197 = .ok (.invokespecial 98, 3) := by decide +kernel
theorem dX10_init_200 : decode cX10_init 200 = .ok (.putfield 101, 3) := by decide +kernel
theorem dX10_init_203 : decode cX10_init 203 = .ok (.return_, 1) := by decide +kernel
theorem dX10_row_0 : decode cX10_row 0 = .ok (.aload_n 0, 1) := by decide +kernel
theorem dX10_row_1 : decode cX10_row 1 = .ok (.getfield 21, 3) := by decide +kernel
theorem dX10_row_4 : decode cX10_row 4 = .ok (.iload_n 1, 1) := by decide +kernel
theorem dX10_row_5 : decode cX10_row 5 = .ok (.invokevirtual 105, 3) := by decide +kernel
theorem dX10_row_8 : decode cX10_row 8 = .ok (.ifCond .eq 9, 3) := by decide +kernel
theorem dX10_row_11 : decode cX10_row 11 = .ok (.iload_n 2, 1) := by decide +kernel
theorem dX10_row_12 : decode cX10_row 12 = .ok (.bipush 60, 2) := by decide +kernel
theorem dX10_row_14 : decode cX10_row 14 = .ok (.if_icmp .le 5, 3) := by decide +kernel
theorem dX10_row_17 : decode cX10_row 17 = .ok (.iconst (-1), 1) := by decide +kernel
theorem dX10_row_18 : decode cX10_row 18 = .ok (.ireturn, 1) := by decide +kernel
theorem dX10_row_19 : decode cX10_row 19 = .ok (.iload_n 2, 1) := by decide +kernel
theorem dX10_row_20 : decode cX10_row 20 = .ok (.ifCond .ge 12, 3) := by decide +kernel
theorem dX10_row_23 : decode cX10_row 23 = .ok (.aload_n 0, 1) := by decide +kernel
theorem dX10_row_24 : decode cX10_row 24 = .ok (.getfield 10, 3) := by decide +kernel
theorem dX10_row_27 : decode cX10_row 27 = .ok (.iconst 5, 1) := by decide +kernel
theorem dX10_row_28 : decode cX10_row 28 = .ok (.invokevirtual 109, 3) := by decide +kernel
theorem dX10_row_31 : decode cX10_row 31 = .ok (.ireturn, 1) := by decide +kernel
theorem dX10_row_32 : decode cX10_row 32 = .ok (.aload_n 0, 1) := by decide +kernel
theorem dX10_row_33 : decode cX10_row 33 = .ok (.getfield 21, 3) := by decide +kernel
theorem dX10_row_36 : decode cX10_row 36 = .ok (.iload_n 1, 1) := by decide +kernel
theorem dX10_row_37 : decode cX10_row 37 = .ok (.iload_n 2, 1) := by decide +kernel
theorem dX10_row_38 : decode cX10_row 38 = .ok (.iconst 0, 1) := by decide +kernel
theorem dX10_row_39 : decode cX10_row 39 = .ok (.invokevirtual 113, 3) := by decide +kernel
theorem dX10_row_42 : decode cX10_row 42 = .ok (.iload_n 2, 1) := by decide +kernel
theorem dX10_row_43 : decode cX10_row 43 = .ok (.ireturn, 1) := by decide +kernel
theorem dX10_lay_0 : decode cX10_lay 0 = .ok (.aload_n 0, 1) := by decide +kernel
theorem dX10_lay_1 : decode cX10_lay 1 = .ok (.getfield 21, 3) := by decide +kernel
theorem dX10_lay_4 : decode cX10_lay 4 = .ok (.iload_n 1, 1) := by decide +kernel
theorem dX10_lay_5 : decode cX10_lay 5 = .ok (.invokevirtual 105, 3) := by decide +kernel
theorem dX10_lay_8 : decode cX10_lay 8 = .ok (.ifCond .ne 5, 3) := by decide +kernel
theorem dX10_lay_11 : decode cX10_lay 11 = .ok (.iconst (-1), 1) := by decide +kernel
theorem dX10_lay_12 : decode cX10_lay 12 = .ok (.ireturn, 1) := by decide +kernel
theorem dX10_lay_13 : decode cX10_lay 13 = .ok (.aload_n 0, 1) := by decide +kernel
theorem dX10_lay_14 : decode cX10_lay 14 = .ok (.getfield 21, 3) := by decide +kernel
theorem dX10_lay_17 : decode cX10_lay 17 = .ok (.iload_n 1, 1) := by decide +kernel
theorem dX10_lay_18 : decode cX10_lay 18 = .ok (.invokevirtual 117, 3) := by decide +kernel
theorem dX10_lay_21 : decode cX10_lay 21 = .ok (.ifCond .eq 12, 3) := by decide +kernel
theorem dX10_lay_24 : decode cX10_lay 24 = .ok (.aload_n 0, 1) := by decide +kernel
theorem dX10_lay_25 : decode cX10_lay 25 = .ok (.getfield 10, 3) := by decide +kernel
theorem dX10_lay_28 : decode cX10_lay 28 = .ok (.iconst 1, 1) := by decide +kernel
theorem dX10_lay_29 : decode cX10_lay 29 = .ok (.invokevirtual 109, 3) := by decide +kernel
theorem dX10_lay_32 : decode cX10_lay 32 = .ok (.ireturn, 1) := by decide +kernel
theorem dX10_lay_33 : decode cX10_lay 33 = .ok (.aload_n 0, 1) := by decide +kernel
theorem dX10_lay_34 : decode cX10_lay 34 = .ok (.getfield 21, 3) := by decide +kernel
theorem dX10_lay_37 : decode cX10_lay 37 = .ok (.iload_n 1, 1) := by decide +kernel
theorem dX10_lay_38 : decode cX10_lay 38 = .ok (.iload_n 2, 1) := by decide +kernel
theorem dX10_lay_39 : decode cX10_lay 39 = .ok (.iconst 1, 1) := by decide +kernel
theorem dX10_lay_40 : decode cX10_lay 40 = .ok (.invokevirtual 120, 3) := by decide +kernel
theorem dX10_lay_43 : decode cX10_lay 43 = .ok (.ifCond .ne 12, 3) := by decide +kernel
theorem dX10_lay_46 : decode cX10_lay 46 = .ok (.aload_n 0, 1) := by decide +kernel
theorem dX10_lay_47 : decode cX10_lay 47 = .ok (.getfield 10, 3) := by decide +kernel
theorem dX10_lay_50 : decode cX10_lay 50 = .ok (.iconst 2, 1) := by decide +kernel
theorem dX10_lay_51 : decode cX10_lay 51 = .ok (.invokevirtual 109, 3) := by decide +kernel
theorem dX10_lay_54 : decode cX10_lay 54 = .ok (.ireturn, 1) := by decide +kernel
theorem dX10_lay_55 : decode cX10_lay 55 = .ok (.aload_n 0, 1) := by decide +kernel
theorem dX10_lay_56 : decode cX10_lay 56 = .ok (.getfield 21, 3) := by decide +kernel
theorem dX10_lay_59 : decode cX10_lay 59 = .ok (.iload_n 1, 1) := by decide +kernel
theorem dX10_lay_60 : decode cX10_lay 60 = .ok (.iload_n 2, 1) := by decide +kernel
theorem dX10_lay_61 : decode cX10_lay 61 = .ok (.invokevirtual 124, 3) := by decide +kernel
theorem dX10_lay_64 : decode cX10_lay 64 = .ok (.istore 4, 2) := by decide +kernel
theorem dX10_lay_66 : decode cX10_lay 66 = .ok (.aload_n 0, 1) := by decide +kernel
theorem dX10_lay_67 : decode cX10_lay 67 = .ok (.getfield 21, 3) := by decide +kernel
theorem dX10_lay_70 : decode cX10_lay 70 = .ok (.iload_n 1, 1) := by decide +kernel
theorem dX10_lay_71 : decode cX10_lay 71 = .ok (.iload_n 2, 1) := by decide +kernel
theorem dX10_lay_72 : decode cX10_lay 72 = .ok (.iload_n 3, 1) := by decide +kernel
theorem dX10_lay_73 : decode cX10_lay 73 = .ok (.invokevirtual 128, 3) := by decide +kernel
theorem dX10_lay_76 : decode cX10_lay 76 = .ok (.aload_n 0, 1) := by decide +kernel
theorem dX10_lay_77 : decode cX10_lay 77 = .ok (.getfield 10, 3) := by decide +kernel
theorem dX10_lay_80 : decode cX10_lay 80 = .ok (.iload 4, 2) := by decide +kernel
theorem dX10_lay_82 : decode cX10_lay 82 = .ok (.invokevirtual 131, 3) := by decide +kernel
theorem dX10_lay_85 : decode cX10_lay 85 = .ok (.ireturn, 1) := by decide +kernel
theorem dX10_at_0 : decode cX10_at 0 = .ok (.aload_n 0, 1) := by decide +kernel
theorem dX10_at_1 : decode cX10_at 1 = .ok (.getfield 21, 3) := by decide +kernel
theorem dX10_at_4 : decode cX10_at 4 = .ok (.iload_n 1, 1) := by decide +kernel
theorem dX10_at_5 : decode cX10_at 5 = .ok (.invokevirtual 105, 3) := by decide +kernel
theorem dX10_at_8 : decode cX10_at 8 = .ok (.ifCond .ne 5, 3) := by decide +kernel
theorem dX10_at_11 : decode cX10_at 11 = .ok (.iconst (-1), 1) := by decide +kernel
theorem dX10_at_12 : decode cX10_at 12 = .ok (.ireturn, 1) := by decide +kernel
theorem dX10_at_13 : decode cX10_at 13 = .ok (.aload_n 0, 1) := by decide +kernel
theorem dX10_at_14 : decode cX10_at 14 = .ok (.getfield 21, 3) := by decide +kernel
theorem dX10_at_17 : decode cX10_at 17 = .ok (.iload_n 1, 1) := by decide +kernel
theorem dX10_at_18 : decode cX10_at 18 = .ok (.invokevirtual 117, 3) := by decide +kernel
theorem dX10_at_21 : decode cX10_at 21 = .ok (.ifCond .eq 12, 3) := by decide +kernel
theorem dX10_at_24 : decode cX10_at 24 = .ok (.aload_n 0, 1) := by decide +kernel
theorem dX10_at_25 : decode cX10_at 25 = .ok (.getfield 10, 3) := by decide +kernel
theorem dX10_at_28 : decode cX10_at 28 = .ok (.iconst 1, 1) := by decide +kernel
theorem dX10_at_29 : decode cX10_at 29 = .ok (.invokevirtual 109, 3) := by decide +kernel
theorem dX10_at_32 : decode cX10_at 32 = .ok (.ireturn, 1) := by decide +kernel
theorem dX10_at_33 : decode cX10_at 33 = .ok (.aload_n 0, 1) := by decide +kernel
theorem dX10_at_34 : decode cX10_at 34 = .ok (.getfield 21, 3) := by decide +kernel
theorem dX10_at_37 : decode cX10_at 37 = .ok (.iload_n 1, 1) := by decide +kernel
theorem dX10_at_38 : decode cX10_at 38 = .ok (.iload_n 2, 1) := by decide +kernel
theorem dX10_at_39 : decode cX10_at 39 = .ok (.iconst 1, 1) := by decide +kernel
theorem dX10_at_40 : decode cX10_at 40 = .ok (.invokevirtual 120, 3) := by decide +kernel
theorem dX10_at_43 : decode cX10_at 43 = .ok (.ifCond .ne 12, 3) := by decide +kernel
theorem dX10_at_46 : decode cX10_at 46 = .ok (.aload_n 0, 1) := by decide +kernel
theorem dX10_at_47 : decode cX10_at 47 = .ok (.getfield 10, 3) := by decide +kernel
theorem dX10_at_50 : decode cX10_at 50 = .ok (.iconst 2, 1) := by decide +kernel
theorem dX10_at_51 : decode cX10_at 51 = .ok (.invokevirtual 109, 3) := by decide +kernel
theorem dX10_at_54 : decode cX10_at 54 = .ok (.ireturn, 1) := by decide +kernel
theorem dX10_at_55 : decode cX10_at 55 = .ok (.aload_n 0, 1) := by decide +kernel
theorem dX10_at_56 : decode cX10_at 56 = .ok (.getfield 10, 3) := by decide +kernel
theorem dX10_at_59 : decode cX10_at 59 = .ok (.aload_n 0, 1) := by decide +kernel
theorem dX10_at_60 : decode cX10_at 60 = .ok (.getfield 21, 3) := by decide +kernel
theorem dX10_at_63 : decode cX10_at 63 = .ok (.iload_n 1, 1) := by decide +kernel
theorem dX10_at_64 : decode cX10_at 64 = .ok (.iload_n 2, 1) := by decide +kernel
theorem dX10_at_65 : decode cX10_at 65 = .ok (.invokevirtual 124, 3) := by decide +kernel
theorem dX10_at_68 : decode cX10_at 68 = .ok (.invokevirtual 131, 3) := by decide +kernel
theorem dX10_at_71 : decode cX10_at 71 = .ok (.ireturn, 1) := by decide +kernel
theorem dX10_text_0 : decode cX10_text 0 = .ok (.aload_n 0, 1) := by decide +kernel
theorem dX10_text_1 : decode cX10_text 1 = .ok (.getfield 25, 3) := by decide +kernel
theorem dX10_text_4 : decode cX10_text 4 = .ok (.iload_n 1, 1) := by decide +kernel
theorem dX10_text_5 : decode cX10_text 5 = .ok (.invokevirtual 105, 3) := by decide +kernel
theorem dX10_text_8 : decode cX10_text 8 = .ok (.ifCond .eq 9, 3) := by decide +kernel
theorem dX10_text_11 : decode cX10_text 11 = .ok (.iload_n 2, 1) := by decide +kernel
theorem dX10_text_12 : decode cX10_text 12 = .ok (.bipush 100, 2) := by decide +kernel
theorem dX10_text_14 : decode cX10_text 14 = .ok (.if_icmp .le 5, 3) := by decide +kernel
theorem dX10_text_17 : decode cX10_text 17 = .ok (.iconst (-1), 1) := by decide +kernel
theorem dX10_text_18 : decode cX10_text 18 = .ok (.ireturn, 1) := by decide +kernel
theorem dX10_text_19 : decode cX10_text 19 = .ok (.iload_n 2, 1) := by decide +kernel
theorem dX10_text_20 : decode cX10_text 20 = .ok (.ifCond .ge 12, 3) := by decide +kernel
theorem dX10_text_23 : decode cX10_text 23 = .ok (.aload_n 0, 1) := by decide +kernel
theorem dX10_text_24 : decode cX10_text 24 = .ok (.getfield 10, 3) := by decide +kernel
theorem dX10_text_27 : decode cX10_text 27 = .ok (.iconst 5, 1) := by decide +kernel
theorem dX10_text_28 : decode cX10_text 28 = .ok (.invokevirtual 109, 3) := by decide +kernel
theorem dX10_text_31 : decode cX10_text 31 = .ok (.ireturn, 1) := by decide +kernel
theorem dX10_text_32 : decode cX10_text 32 = .ok (.aload_n 0, 1) := by decide +kernel
theorem dX10_text_33 : decode cX10_text 33 = .ok (.getfield 25, 3) := by decide +kernel
theorem dX10_text_36 : decode cX10_text 36 = .ok (.iload_n 1, 1) := by decide +kernel
theorem dX10_text_37 : decode cX10_text 37 = .ok (.iload_n 2, 1) := by decide +kernel
theorem dX10_text_38 : decode cX10_text 38 = .ok (.bipush 32, 2) := by decide +kernel
theorem dX10_text_40 : decode cX10_text 40 = .ok (.invokevirtual 113, 3) := by decide +kernel
theorem dX10_text_43 : decode cX10_text 43 = .ok (.iload_n 2, 1) := by decide +kernel
theorem dX10_text_44 : decode cX10_text 44 = .ok (.ireturn, 1) := by decide +kernel
theorem dX10_put_0 : decode cX10_put 0 = .ok (.aload_n 0, 1) := by decide +kernel
theorem dX10_put_1 : decode cX10_put 1 = .ok (.getfield 25, 3) := by decide +kernel
theorem dX10_put_4 : decode cX10_put 4 = .ok (.iload_n 1, 1) := by decide +kernel
theorem dX10_put_5 : decode cX10_put 5 = .ok (.invokevirtual 105, 3) := by decide +kernel
theorem dX10_put_8 : decode cX10_put 8 = .ok (.ifCond .ne 5, 3) := by decide +kernel
theorem dX10_put_11 : decode cX10_put 11 = .ok (.iconst (-1), 1) := by decide +kernel
theorem dX10_put_12 : decode cX10_put 12 = .ok (.ireturn, 1) := by decide +kernel
theorem dX10_put_13 : decode cX10_put 13 = .ok (.aload_n 0, 1) := by decide +kernel
theorem dX10_put_14 : decode cX10_put 14 = .ok (.getfield 25, 3) := by decide +kernel
theorem dX10_put_17 : decode cX10_put 17 = .ok (.iload_n 1, 1) := by decide +kernel
theorem dX10_put_18 : decode cX10_put 18 = .ok (.invokevirtual 117, 3) := by decide +kernel
theorem dX10_put_21 : decode cX10_put 21 = .ok (.ifCond .eq 12, 3) := by decide +kernel
theorem dX10_put_24 : decode cX10_put 24 = .ok (.aload_n 0, 1) := by decide +kernel
theorem dX10_put_25 : decode cX10_put 25 = .ok (.getfield 10, 3) := by decide +kernel
theorem dX10_put_28 : decode cX10_put 28 = .ok (.iconst 1, 1) := by decide +kernel
theorem dX10_put_29 : decode cX10_put 29 = .ok (.invokevirtual 109, 3) := by decide +kernel
theorem dX10_put_32 : decode cX10_put 32 = .ok (.ireturn, 1) := by decide +kernel
theorem dX10_put_33 : decode cX10_put 33 = .ok (.aload_n 0, 1) := by decide +kernel
theorem dX10_put_34 : decode cX10_put 34 = .ok (.getfield 25, 3) := by decide +kernel
theorem dX10_put_37 : decode cX10_put 37 = .ok (.iload_n 1, 1) := by decide +kernel
theorem dX10_put_38 : decode cX10_put 38 = .ok (.iload_n 2, 1) := by decide +kernel
theorem dX10_put_39 : decode cX10_put 39 = .ok (.iconst 1, 1) := by decide +kernel
theorem dX10_put_40 : decode cX10_put 40 = .ok (.invokevirtual 120, 3) := by decide +kernel
theorem dX10_put_43 : decode cX10_put 43 = .ok (.ifCond .ne 12, 3) := by decide +kernel
theorem dX10_put_46 : decode cX10_put 46 = .ok (.aload_n 0, 1) := by decide +kernel
theorem dX10_put_47 : decode cX10_put 47 = .ok (.getfield 10, 3) := by decide +kernel
theorem dX10_put_50 : decode cX10_put 50 = .ok (.iconst 2, 1) := by decide +kernel
theorem dX10_put_51 : decode cX10_put 51 = .ok (.invokevirtual 109, 3) := by decide +kernel
theorem dX10_put_54 : decode cX10_put 54 = .ok (.ireturn, 1) := by decide +kernel
theorem dX10_put_55 : decode cX10_put 55 = .ok (.aload_n 0, 1) := by decide +kernel
theorem dX10_put_56 : decode cX10_put 56 = .ok (.getfield 25, 3) := by decide +kernel
theorem dX10_put_59 : decode cX10_put 59 = .ok (.iload_n 1, 1) := by decide +kernel
theorem dX10_put_60 : decode cX10_put 60 = .ok (.iload_n 2, 1) := by decide +kernel
theorem dX10_put_61 : decode cX10_put 61 = .ok (.invokevirtual 124, 3) := by decide +kernel
theorem dX10_put_64 : decode cX10_put 64 = .ok (.istore 4, 2) := by decide +kernel
theorem dX10_put_66 : decode cX10_put 66 = .ok (.aload_n 0, 1) := by decide +kernel
theorem dX10_put_67 : decode cX10_put 67 = .ok (.getfield 25, 3) := by decide +kernel
theorem dX10_put_70 : decode cX10_put 70 = .ok (.iload_n 1, 1) := by decide +kernel
theorem dX10_put_71 : decode cX10_put 71 = .ok (.iload_n 2, 1) := by decide +kernel
theorem dX10_put_72 : decode cX10_put 72 = .ok (.iload_n 3, 1) := by decide +kernel
theorem dX10_put_73 : decode cX10_put 73 = .ok (.i2b, 1) := by decide +kernel
theorem dX10_put_74 : decode cX10_put 74 = .ok (.invokevirtual 128, 3) := by decide +kernel
theorem dX10_put_77 : decode cX10_put 77 = .ok (.iload 4, 2) := by decide +kernel
theorem dX10_put_79 : decode cX10_put 79 = .ok (.sipush 1000, 3) := by decide +kernel
theorem dX10_put_82 : decode cX10_put 82 = .ok (.iadd, 1) := by decide +kernel
theorem dX10_put_83 : decode cX10_put 83 = .ok (.ireturn, 1) := by decide +kernel
theorem dX10_fault_0 : decode cX10_fault 0 = .ok (.aload_n 0, 1) := by decide +kernel
theorem dX10_fault_1 : decode cX10_fault 1 = .ok (.getfield 25, 3) := by decide +kernel
theorem dX10_fault_4 : decode cX10_fault 4 = .ok (.iload_n 1, 1) := by decide +kernel
theorem dX10_fault_5 : decode cX10_fault 5 = .ok (.invokevirtual 105, 3) := by decide +kernel
theorem dX10_fault_8 : decode cX10_fault 8 = .ok (.ifCond .ne 5, 3) := by decide +kernel
theorem dX10_fault_11 : decode cX10_fault 11 = .ok (.iconst (-1), 1) := by decide +kernel
theorem dX10_fault_12 : decode cX10_fault 12 = .ok (.ireturn, 1) := by decide +kernel
theorem dX10_fault_13 : decode cX10_fault 13 = .ok (.aload_n 0, 1) := by decide +kernel
theorem dX10_fault_14 : decode cX10_fault 14 = .ok (.getfield 25, 3) := by decide +kernel
theorem dX10_fault_17 : decode cX10_fault 17 = .ok (.iload_n 1, 1) := by decide +kernel
theorem dX10_fault_18 : decode cX10_fault 18 = .ok (.invokevirtual 117, 3) := by decide +kernel
theorem dX10_fault_21 : decode cX10_fault 21 = .ok (.ifCond .eq 12, 3) := by decide +kernel
theorem dX10_fault_24 : decode cX10_fault 24 = .ok (.aload_n 0, 1) := by decide +kernel
theorem dX10_fault_25 : decode cX10_fault 25 = .ok (.getfield 10, 3) := by decide +kernel
theorem dX10_fault_28 : decode cX10_fault 28 = .ok (.iconst 1, 1) := by decide +kernel
theorem dX10_fault_29 : decode cX10_fault 29 = .ok (.invokevirtual 109, 3) := by decide +kernel
theorem dX10_fault_32 : decode cX10_fault 32 = .ok (.ireturn, 1) := by decide +kernel
theorem dX10_fault_33 : decode cX10_fault 33 = .ok (.aload_n 0, 1) := by decide +kernel
theorem dX10_fault_34 : decode cX10_fault 34 = .ok (.getfield 33, 3) := by decide +kernel
theorem dX10_fault_37 : decode cX10_fault 37 = .ok (.iload_n 1, 1) := by decide +kernel
theorem dX10_fault_38 : decode cX10_fault 38 = .ok (.invokevirtual 148, 3) := by decide +kernel
theorem dX10_fault_41 : decode cX10_fault 41 = .ok (.ireturn, 1) := by decide +kernel
theorem dX10_island_0 : decode cX10_island 0 = .ok (.aload_n 0, 1) := by decide +kernel
theorem dX10_island_1 : decode cX10_island 1 = .ok (.getfield 25, 3) := by decide +kernel
theorem dX10_island_4 : decode cX10_island 4 = .ok (.iload_n 1, 1) := by decide +kernel
theorem dX10_island_5 : decode cX10_island 5 = .ok (.invokevirtual 105, 3) := by decide +kernel
theorem dX10_island_8 : decode cX10_island 8 = .ok (.ifCond .ne 5, 3) := by decide +kernel
theorem dX10_island_11 : decode cX10_island 11 = .ok (.iconst (-1), 1) := by decide +kernel
theorem dX10_island_12 : decode cX10_island 12 = .ok (.ireturn, 1) := by decide +kernel
theorem dX10_island_13 : decode cX10_island 13 = .ok (.aload_n 0, 1) := by decide +kernel
theorem dX10_island_14 : decode cX10_island 14 = .ok (.getfield 25, 3) := by decide +kernel
theorem dX10_island_17 : decode cX10_island 17 = .ok (.iload_n 1, 1) := by decide +kernel
theorem dX10_island_18 : decode cX10_island 18 = .ok (.invokevirtual 117, 3) := by decide +kernel
theorem dX10_island_21 : decode cX10_island 21 = .ok (.ifCond .eq 12, 3) := by decide +kernel
theorem dX10_island_24 : decode cX10_island 24 = .ok (.aload_n 0, 1) := by decide +kernel
theorem dX10_island_25 : decode cX10_island 25 = .ok (.getfield 10, 3) := by decide +kernel
theorem dX10_island_28 : decode cX10_island 28 = .ok (.iconst 1, 1) := by decide +kernel
theorem dX10_island_29 : decode cX10_island 29 = .ok (.invokevirtual 109, 3) := by decide +kernel
theorem dX10_island_32 : decode cX10_island 32 = .ok (.ireturn, 1) := by decide +kernel
theorem dX10_island_33 : decode cX10_island 33 = .ok (.aload_n 0, 1) := by decide +kernel
theorem dX10_island_34 : decode cX10_island 34 = .ok (.getfield 33, 3) := by decide +kernel
theorem dX10_island_37 : decode cX10_island 37 = .ok (.iload_n 1, 1) := by decide +kernel
theorem dX10_island_38 : decode cX10_island 38 = .ok (.invokevirtual 148, 3) := by decide +kernel
theorem dX10_island_41 : decode cX10_island 41 = .ok (.bipush (-9), 2) := by decide +kernel
theorem dX10_island_43 : decode cX10_island 43 = .ok (.if_icmp .eq 6, 3) := by decide +kernel
theorem dX10_island_46 : decode cX10_island 46 = .ok (.bipush (-4), 2) := by decide +kernel
theorem dX10_island_48 : decode cX10_island 48 = .ok (.ireturn, 1) := by decide +kernel
theorem dX10_island_49 : decode cX10_island 49 = .ok (.aload_n 0, 1) := by decide +kernel
theorem dX10_island_50 : decode cX10_island 50 = .ok (.getfield 40, 3) := by decide +kernel
theorem dX10_island_53 : decode cX10_island 53 = .ok (.aload_n 0, 1) := by decide +kernel
theorem dX10_island_54 : decode cX10_island 54 = .ok (.getfield 33, 3) := by decide +kernel
theorem dX10_island_57 : decode cX10_island 57 = .ok (.getfield 151, 3) := by decide +kernel
theorem dX10_island_60 : decode cX10_island 60 = .ok (.invokevirtual 154, 3) := by decide +kernel
theorem dX10_island_63 : decode cX10_island 63 = .ok (.aload_n 0, 1) := by decide +kernel
theorem dX10_island_64 : decode cX10_island 64 = .ok (.getfield 83, 3) := by decide +kernel
theorem dX10_island_67 : decode cX10_island 67 = .ok (.invokevirtual 157, 3) := by decide +kernel
theorem dX10_island_70 : decode cX10_island 70 = .ok (.aload_n 0, 1) := by decide +kernel
theorem dX10_island_71 : decode cX10_island 71 = .ok (.getfield 49, 3) := by decide +kernel
theorem dX10_island_74 : decode cX10_island 74 = .ok (.invokevirtual 160, 3) := by decide +kernel
theorem dX10_island_77 : decode cX10_island 77 = .ok (.aload_n 0, 1) := by decide +kernel
theorem dX10_island_78 : decode cX10_island 78 = .ok (.getfield 61, 3) := by decide +kernel
theorem dX10_island_81 : decode cX10_island 81 = .ok (.iconst 0, 1) := by decide +kernel
theorem dX10_island_82 : decode cX10_island 82 = .ok (.putfield 163, 3) := by decide +kernel
theorem dX10_island_85 : decode cX10_island 85 = .ok (.aload_n 0, 1) := by decide +kernel
theorem dX10_island_86 : decode cX10_island 86 = .ok (.getfield 65, 3) := by decide +kernel
theorem dX10_island_89 : decode cX10_island 89 = .ok (.iconst 0, 1) := by decide +kernel
theorem dX10_island_90 : decode cX10_island 90 = .ok (.putfield 163, 3) := by decide +kernel
theorem dX10_island_93 : decode cX10_island 93 = .ok (.aload_n 0, 1) := by decide +kernel
theorem dX10_island_94 : decode cX10_island 94 = .ok (.getfield 72, 3) := by decide +kernel
theorem dX10_island_97 : decode cX10_island 97 = .ok (.iconst 0, 1) := by decide +kernel
theorem dX10_island_98 : decode cX10_island 98 = .ok (.invokestatic 167, 3) := by decide +kernel
theorem dX10_island_101 : decode cX10_island 101 = .ok (.aload_n 0, 1) := by decide +kernel
theorem dX10_island_102 : decode cX10_island 102 = .ok (.getfield 40, 3) := by decide +kernel
theorem dX10_island_105 : decode cX10_island 105 = .ok (.getfield 173, 3) := by decide +kernel
theorem dX10_island_108 : decode cX10_island 108 = .ok (.ireturn, 1) := by decide +kernel
theorem dX10_thing_0 : decode cX10_thing 0 = .ok (.aload_n 0, 1) := by decide +kernel
theorem dX10_thing_1 : decode cX10_thing 1 = .ok (.getfield 40, 3) := by decide +kernel
theorem dX10_thing_4 : decode cX10_thing 4 = .ok (.iload_n 1, 1) := by decide +kernel
theorem dX10_thing_5 : decode cX10_thing 5 = .ok (.invokevirtual 176, 3) := by decide +kernel
theorem dX10_thing_8 : decode cX10_thing 8 = .ok (.ifCond .eq 12, 3) := by decide +kernel
theorem dX10_thing_11 : decode cX10_thing 11 = .ok (.iload_n 2, 1) := by decide +kernel
theorem dX10_thing_12 : decode cX10_thing 12 = .ok (.ifCond .lt 8, 3) := by decide +kernel
theorem dX10_thing_15 : decode cX10_thing 15 = .ok (.iload_n 2, 1) := by decide +kernel
theorem dX10_thing_16 : decode cX10_thing 16 = .ok (.iconst 3, 1) := by decide +kernel
theorem dX10_thing_17 : decode cX10_thing 17 = .ok (.if_icmp .le 5, 3) := by decide +kernel
theorem dX10_thing_20 : decode cX10_thing 20 = .ok (.iconst (-1), 1) := by decide +kernel
theorem dX10_thing_21 : decode cX10_thing 21 = .ok (.ireturn, 1) := by decide +kernel
theorem dX10_thing_22 : decode cX10_thing 22 = .ok (.aload_n 0, 1) := by decide +kernel
theorem dX10_thing_23 : decode cX10_thing 23 = .ok (.getfield 10, 3) := by decide +kernel
theorem dX10_thing_26 : decode cX10_thing 26 = .ok (.aload_n 0, 1) := by decide +kernel
theorem dX10_thing_27 : decode cX10_thing 27 = .ok (.iload_n 1, 1) := by decide +kernel
theorem dX10_thing_28 : decode cX10_thing 28 = .ok (.iload_n 2, 1) := by decide +kernel
theorem dX10_thing_29 : decode cX10_thing 29 = .ok (.invokevirtual 179, 3) := by decide +kernel
theorem dX10_thing_32 : decode cX10_thing 32 = .ok (.invokevirtual 131, 3) := by decide +kernel
theorem dX10_thing_35 : decode cX10_thing 35 = .ok (.ireturn, 1) := by decide +kernel
theorem dX10_ofThing_0 : decode cX10_ofThing 0 = .ok (.iload_n 2, 1) := by decide +kernel
theorem dX10_ofThing_1 : decode cX10_ofThing 1 = .ok (.tableswitch 57 0 2 #[27, 37, 47], 27) := by decide +kernel
theorem dX10_ofThing_28 : decode cX10_ofThing 28 = .ok (.aload_n 0, 1) := by decide +kernel
theorem dX10_ofThing_29 : decode cX10_ofThing 29 = .ok (.getfield 40, 3) := by decide +kernel
theorem dX10_ofThing_32 : decode cX10_ofThing 32 = .ok (.getfield 182, 3) := by decide +kernel
theorem dX10_ofThing_35 : decode cX10_ofThing 35 = .ok (.iload_n 1, 1) := by decide +kernel
theorem dX10_ofThing_36 : decode cX10_ofThing 36 = .ok (.iaload, 1) := by decide +kernel
theorem dX10_ofThing_37 : decode cX10_ofThing 37 = .ok (.ireturn, 1) := by decide +kernel
theorem dX10_ofThing_38 : decode cX10_ofThing 38 = .ok (.aload_n 0, 1) := by decide +kernel
theorem dX10_ofThing_39 : decode cX10_ofThing 39 = .ok (.getfield 49, 3) := by decide +kernel
theorem dX10_ofThing_42 : decode cX10_ofThing 42 = .ok (.getfield 185, 3) := by decide +kernel
theorem dX10_ofThing_45 : decode cX10_ofThing 45 = .ok (.iload_n 1, 1) := by decide +kernel
theorem dX10_ofThing_46 : decode cX10_ofThing 46 = .ok (.iaload, 1) := by decide +kernel
theorem dX10_ofThing_47 : decode cX10_ofThing 47 = .ok (.ireturn, 1) := by decide +kernel
theorem dX10_ofThing_48 : decode cX10_ofThing 48 = .ok (.aload_n 0, 1) := by decide +kernel
theorem dX10_ofThing_49 : decode cX10_ofThing 49 = .ok (.getfield 40, 3) := by decide +kernel
theorem dX10_ofThing_52 : decode cX10_ofThing 52 = .ok (.getfield 188, 3) := by decide +kernel
theorem dX10_ofThing_55 : decode cX10_ofThing 55 = .ok (.iload_n 1, 1) := by decide +kernel
theorem dX10_ofThing_56 : decode cX10_ofThing 56 = .ok (.iaload, 1) := by decide +kernel
theorem dX10_ofThing_57 : decode cX10_ofThing 57 = .ok (.ireturn, 1) := by decide +kernel
theorem dX10_ofThing_58 : decode cX10_ofThing 58 = .ok (.aload_n 0, 1) := by decide +kernel
theorem dX10_ofThing_59 : decode cX10_ofThing 59 = .ok (.getfield 49, 3) := by decide +kernel
theorem dX10_ofThing_62 : decode cX10_ofThing 62 = .ok (.iload_n 1, 1) := by decide +kernel
theorem dX10_ofThing_63 : decode cX10_ofThing 63 = .ok (.invokevirtual 191, 3) := by decide +kernel
theorem dX10_ofThing_66 : decode cX10_ofThing 66 = .ok (.ireturn, 1) := by decide +kernel
theorem dX10_load_0 : decode cX10_load 0 = .ok (.aload_n 0, 1) := by decide +kernel
theorem dX10_load_1 : decode cX10_load 1 = .ok (.getfield 40, 3) := by decide +kernel
theorem dX10_load_4 : decode cX10_load 4 = .ok (.iload_n 1, 1) := by decide +kernel
theorem dX10_load_5 : decode cX10_load 5 = .ok (.invokevirtual 224, 3) := by decide +kernel
theorem dX10_load_8 : decode cX10_load 8 = .ok (.ifCond .ne 5, 3) := by decide +kernel
theorem dX10_load_11 : decode cX10_load 11 = .ok (.iconst (-1), 1) := by decide +kernel
theorem dX10_load_12 : decode cX10_load 12 = .ok (.ireturn, 1) := by decide +kernel
theorem dX10_load_13 : decode cX10_load 13 = .ok (.aload_n 0, 1) := by decide +kernel
theorem dX10_load_14 : decode cX10_load 14 = .ok (.getfield 10, 3) := by decide +kernel
theorem dX10_load_17 : decode cX10_load 17 = .ok (.aload_n 0, 1) := by decide +kernel
theorem dX10_load_18 : decode cX10_load 18 = .ok (.getfield 49, 3) := by decide +kernel
theorem dX10_load_21 : decode cX10_load 21 = .ok (.iload_n 1, 1) := by decide +kernel
theorem dX10_load_22 : decode cX10_load 22 = .ok (.invokevirtual 210, 3) := by decide +kernel
theorem dX10_load_25 : decode cX10_load 25 = .ok (.invokevirtual 131, 3) := by decide +kernel
theorem dX10_load_28 : decode cX10_load 28 = .ok (.pop, 1) := by decide +kernel
theorem dX10_load_29 : decode cX10_load 29 = .ok (.aload_n 0, 1) := by decide +kernel
theorem dX10_load_30 : decode cX10_load 30 = .ok (.getfield 49, 3) := by decide +kernel
theorem dX10_load_33 : decode cX10_load 33 = .ok (.iload_n 1, 1) := by decide +kernel
theorem dX10_load_34 : decode cX10_load 34 = .ok (.invokevirtual 201, 3) := by decide +kernel
theorem dX10_load_37 : decode cX10_load 37 = .ok (.ireturn, 1) := by decide +kernel
theorem dX10_step_0 : decode cX10_step 0 = .ok (.aload_n 0, 1) := by decide +kernel
theorem dX10_step_1 : decode cX10_step 1 = .ok (.getfield 40, 3) := by decide +kernel
theorem dX10_step_4 : decode cX10_step 4 = .ok (.iload_n 1, 1) := by decide +kernel
theorem dX10_step_5 : decode cX10_step 5 = .ok (.iload_n 2, 1) := by decide +kernel
theorem dX10_step_6 : decode cX10_step 6 = .ok (.invokevirtual 234, 3) := by decide +kernel
theorem dX10_step_9 : decode cX10_step 9 = .ok (.ifCond .ne 5, 3) := by decide +kernel
theorem dX10_step_12 : decode cX10_step 12 = .ok (.iconst (-1), 1) := by decide +kernel
theorem dX10_step_13 : decode cX10_step 13 = .ok (.ireturn, 1) := by decide +kernel
theorem dX10_step_14 : decode cX10_step 14 = .ok (.aload_n 0, 1) := by decide +kernel
theorem dX10_step_15 : decode cX10_step 15 = .ok (.getfield 49, 3) := by decide +kernel
theorem dX10_step_18 : decode cX10_step 18 = .ok (.iload_n 1, 1) := by decide +kernel
theorem dX10_step_19 : decode cX10_step 19 = .ok (.iload_n 2, 1) := by decide +kernel
theorem dX10_step_20 : decode cX10_step 20 = .ok (.invokevirtual 237, 3) := by decide +kernel
theorem dX10_step_23 : decode cX10_step 23 = .ok (.ifCond .ne 6, 3) := by decide +kernel
theorem dX10_step_26 : decode cX10_step 26 = .ok (.bipush (-4), 2) := by decide +kernel
theorem dX10_step_28 : decode cX10_step 28 = .ok (.ireturn, 1) := by decide +kernel
theorem dX10_step_29 : decode cX10_step 29 = .ok (.aload_n 0, 1) := by decide +kernel
theorem dX10_step_30 : decode cX10_step 30 = .ok (.getfield 61, 3) := by decide +kernel
theorem dX10_step_33 : decode cX10_step 33 = .ok (.invokevirtual 240, 3) := by decide +kernel
theorem dX10_step_36 : decode cX10_step 36 = .ok (.ifCond .eq 6, 3) := by decide +kernel
theorem dX10_step_39 : decode cX10_step 39 = .ok (.bipush (-2), 2) := by decide +kernel
theorem dX10_step_41 : decode cX10_step 41 = .ok (.ireturn, 1) := by decide +kernel
theorem dX10_step_42 : decode cX10_step 42 = .ok (.aload_n 0, 1) := by decide +kernel
theorem dX10_step_43 : decode cX10_step 43 = .ok (.iload_n 1, 1) := by decide +kernel
theorem dX10_step_44 : decode cX10_step 44 = .ok (.iload_n 2, 1) := by decide +kernel
theorem dX10_step_45 : decode cX10_step 45 = .ok (.invokevirtual 244, 3) := by decide +kernel
theorem dX10_step_48 : decode cX10_step 48 = .ok (.iconst 1, 1) := by decide +kernel
theorem dX10_step_49 : decode cX10_step 49 = .ok (.ireturn, 1) := by decide +kernel
theorem dX10_doStep_0 : decode cX10_doStep 0 = .ok (.aload_n 0, 1) := by decide +kernel
theorem dX10_doStep_1 : decode cX10_doStep 1 = .ok (.getfield 61, 3) := by decide +kernel
theorem dX10_doStep_4 : decode cX10_doStep 4 = .ok (.iload_n 1, 1) := by decide +kernel
theorem dX10_doStep_5 : decode cX10_doStep 5 = .ok (.aload_n 0, 1) := by decide +kernel
theorem dX10_doStep_6 : decode cX10_doStep 6 = .ok (.getfield 49, 3) := by decide +kernel
theorem dX10_doStep_9 : decode cX10_doStep 9 = .ok (.getfield 185, 3) := by decide +kernel
theorem dX10_doStep_12 : decode cX10_doStep 12 = .ok (.iload_n 1, 1) := by decide +kernel
theorem dX10_doStep_13 : decode cX10_doStep 13 = .ok (.iaload, 1) := by decide +kernel
theorem dX10_doStep_14 : decode cX10_doStep 14 = .ok (.invokevirtual 247, 3) := by decide +kernel
theorem dX10_doStep_17 : decode cX10_doStep 17 = .ok (.aload_n 0, 1) := by decide +kernel
theorem dX10_doStep_18 : decode cX10_doStep 18 = .ok (.getfield 49, 3) := by decide +kernel
theorem dX10_doStep_21 : decode cX10_doStep 21 = .ok (.iload_n 1, 1) := by decide +kernel
theorem dX10_doStep_22 : decode cX10_doStep 22 = .ok (.iload_n 2, 1) := by decide +kernel
theorem dX10_doStep_23 : decode cX10_doStep 23 = .ok (.invokevirtual 250, 3) := by decide +kernel
theorem dX10_doStep_26 : decode cX10_doStep 26 = .ok (.return_, 1) := by decide +kernel
theorem dX10_may_0 : decode cX10_may 0 = .ok (.aload_n 0, 1) := by decide +kernel
theorem dX10_may_1 : decode cX10_may 1 = .ok (.getfield 40, 3) := by decide +kernel
theorem dX10_may_4 : decode cX10_may 4 = .ok (.iload_n 1, 1) := by decide +kernel
theorem dX10_may_5 : decode cX10_may 5 = .ok (.iload_n 2, 1) := by decide +kernel
theorem dX10_may_6 : decode cX10_may 6 = .ok (.invokevirtual 234, 3) := by decide +kernel
theorem dX10_may_9 : decode cX10_may 9 = .ok (.ifCond .ne 5, 3) := by decide +kernel
theorem dX10_may_12 : decode cX10_may 12 = .ok (.iconst (-1), 1) := by decide +kernel
theorem dX10_may_13 : decode cX10_may 13 = .ok (.ireturn, 1) := by decide +kernel
theorem dX10_may_14 : decode cX10_may 14 = .ok (.aload_n 0, 1) := by decide +kernel
theorem dX10_may_15 : decode cX10_may 15 = .ok (.getfield 49, 3) := by decide +kernel
theorem dX10_may_18 : decode cX10_may 18 = .ok (.iload_n 1, 1) := by decide +kernel
theorem dX10_may_19 : decode cX10_may 19 = .ok (.iload_n 2, 1) := by decide +kernel
theorem dX10_may_20 : decode cX10_may 20 = .ok (.invokevirtual 237, 3) := by decide +kernel
theorem dX10_may_23 : decode cX10_may 23 = .ok (.ifCond .eq 7, 3) := by decide +kernel
theorem dX10_may_26 : decode cX10_may 26 = .ok (.iconst 1, 1) := by decide +kernel
theorem dX10_may_27 : decode cX10_may 27 = .ok (.goto 4, 3) := by decide +kernel
theorem dX10_may_30 : decode cX10_may 30 = .ok (.iconst 0, 1) := by decide +kernel
theorem dX10_may_31 : decode cX10_may 31 = .ok (.ireturn, 1) := by decide +kernel
theorem dX10_steps_0 : decode cX10_steps 0 = .ok (.iconst 0, 1) := by decide +kernel
theorem dX10_steps_1 : decode cX10_steps 1 = .ok (.istore_n 1, 1) := by decide +kernel
theorem dX10_steps_2 : decode cX10_steps 2 = .ok (.bipush (-9), 2) := by decide +kernel
theorem dX10_steps_4 : decode cX10_steps 4 = .ok (.istore_n 2, 1) := by decide +kernel
theorem dX10_steps_5 : decode cX10_steps 5 = .ok (.iconst 0, 1) := by decide +kernel
theorem dX10_steps_6 : decode cX10_steps 6 = .ok (.istore_n 3, 1) := by decide +kernel
theorem dX10_steps_7 : decode cX10_steps 7 = .ok (.iload_n 3, 1) := by decide +kernel
theorem dX10_steps_8 : decode cX10_steps 8 = .ok (.aload_n 0, 1) := by decide +kernel
theorem dX10_steps_9 : decode cX10_steps 9 = .ok (.getfield 40, 3) := by decide +kernel
theorem dX10_steps_12 : decode cX10_steps 12 = .ok (.getfield 173, 3) := by decide +kernel
theorem dX10_steps_15 : decode cX10_steps 15 = .ok (.if_icmp .ge 49, 3) := by decide +kernel
theorem dX10_steps_18 : decode cX10_steps 18 = .ok (.aload_n 0, 1) := by decide +kernel
theorem dX10_steps_19 : decode cX10_steps 19 = .ok (.getfield 49, 3) := by decide +kernel
theorem dX10_steps_22 : decode cX10_steps 22 = .ok (.iload_n 3, 1) := by decide +kernel
theorem dX10_steps_23 : decode cX10_steps 23 = .ok (.invokevirtual 253, 3) := by decide +kernel
theorem dX10_steps_26 : decode cX10_steps 26 = .ok (.istore 4, 2) := by decide +kernel
theorem dX10_steps_28 : decode cX10_steps 28 = .ok (.iload_n 1, 1) := by decide +kernel
theorem dX10_steps_29 : decode cX10_steps 29 = .ok (.iload 4, 2) := by decide +kernel
theorem dX10_steps_31 : decode cX10_steps 31 = .ok (.invokestatic 213, 3) := by decide +kernel
theorem dX10_steps_34 : decode cX10_steps 34 = .ok (.iadd, 1) := by decide +kernel
theorem dX10_steps_35 : decode cX10_steps 35 = .ok (.istore_n 1, 1) := by decide +kernel
theorem dX10_steps_36 : decode cX10_steps 36 = .ok (.iload_n 2, 1) := by decide +kernel
theorem dX10_steps_37 : decode cX10_steps 37 = .ok (.bipush (-9), 2) := by decide +kernel
theorem dX10_steps_39 : decode cX10_steps 39 = .ok (.if_icmp .ne 19, 3) := by decide +kernel
theorem dX10_steps_42 : decode cX10_steps 42 = .ok (.iload 4, 2) := by decide +kernel
theorem dX10_steps_44 : decode cX10_steps 44 = .ok (.ifCond .eq 14, 3) := by decide +kernel
theorem dX10_steps_47 : decode cX10_steps 47 = .ok (.bipush 7, 2) := by decide +kernel
theorem dX10_steps_49 : decode cX10_steps 49 = .ok (.iload_n 3, 1) := by decide +kernel
theorem dX10_steps_50 : decode cX10_steps 50 = .ok (.imul, 1) := by decide +kernel
theorem dX10_steps_51 : decode cX10_steps 51 = .ok (.iload 4, 2) := by decide +kernel
theorem dX10_steps_53 : decode cX10_steps 53 = .ok (.invokestatic 256, 3) := by decide +kernel
theorem dX10_steps_56 : decode cX10_steps 56 = .ok (.iadd, 1) := by decide +kernel
theorem dX10_steps_57 : decode cX10_steps 57 = .ok (.istore_n 2, 1) := by decide +kernel
theorem dX10_steps_58 : decode cX10_steps 58 = .ok (.iinc 3 1, 3) := by decide +kernel
theorem dX10_steps_61 : decode cX10_steps 61 = .ok (.goto (-54), 3) := by decide +kernel
theorem dX10_steps_64 : decode cX10_steps 64 = .ok (.aload_n 0, 1) := by decide +kernel
theorem dX10_steps_65 : decode cX10_steps 65 = .ok (.getfield 10, 3) := by decide +kernel
theorem dX10_steps_68 : decode cX10_steps 68 = .ok (.iload_n 2, 1) := by decide +kernel
theorem dX10_steps_69 : decode cX10_steps 69 = .ok (.invokevirtual 131, 3) := by decide +kernel
theorem dX10_steps_72 : decode cX10_steps 72 = .ok (.pop, 1) := by decide +kernel
theorem dX10_steps_73 : decode cX10_steps 73 = .ok (.iload_n 1, 1) := by decide +kernel
theorem dX10_steps_74 : decode cX10_steps 74 = .ok (.ireturn, 1) := by decide +kernel
theorem dX10_lowest_0 : decode cX10_lowest 0 = .ok (.iconst 0, 1) := by decide +kernel
theorem dX10_lowest_1 : decode cX10_lowest 1 = .ok (.istore_n 1, 1) := by decide +kernel
theorem dX10_lowest_2 : decode cX10_lowest 2 = .ok (.iload_n 1, 1) := by decide +kernel
theorem dX10_lowest_3 : decode cX10_lowest 3 = .ok (.bipush 7, 2) := by decide +kernel
theorem dX10_lowest_5 : decode cX10_lowest 5 = .ok (.if_icmp .ge 19, 3) := by decide +kernel
theorem dX10_lowest_8 : decode cX10_lowest 8 = .ok (.iload_n 0, 1) := by decide +kernel
theorem dX10_lowest_9 : decode cX10_lowest 9 = .ok (.iload_n 1, 1) := by decide +kernel
theorem dX10_lowest_10 : decode cX10_lowest 10 = .ok (.ishr, 1) := by decide +kernel
theorem dX10_lowest_11 : decode cX10_lowest 11 = .ok (.iconst 1, 1) := by decide +kernel
theorem dX10_lowest_12 : decode cX10_lowest 12 = .ok (.iand, 1) := by decide +kernel
theorem dX10_lowest_13 : decode cX10_lowest 13 = .ok (.ifCond .eq 5, 3) := by decide +kernel
theorem dX10_lowest_16 : decode cX10_lowest 16 = .ok (.iload_n 1, 1) := by decide +kernel
theorem dX10_lowest_17 : decode cX10_lowest 17 = .ok (.ireturn, 1) := by decide +kernel
theorem dX10_lowest_18 : decode cX10_lowest 18 = .ok (.iinc 1 1, 3) := by decide +kernel
theorem dX10_lowest_21 : decode cX10_lowest 21 = .ok (.goto (-19), 3) := by decide +kernel
theorem dX10_lowest_24 : decode cX10_lowest 24 = .ok (.bipush (-9), 2) := by decide +kernel
theorem dX10_lowest_26 : decode cX10_lowest 26 = .ok (.ireturn, 1) := by decide +kernel
theorem dX10_undo_0 : decode cX10_undo 0 = .ok (.iload_n 1, 1) := by decide +kernel
theorem dX10_undo_1 : decode cX10_undo 1 = .ok (.ifCond .lt 14, 3) := by decide +kernel
theorem dX10_undo_4 : decode cX10_undo 4 = .ok (.iload_n 1, 1) := by decide +kernel
theorem dX10_undo_5 : decode cX10_undo 5 = .ok (.aload_n 0, 1) := by decide +kernel
theorem dX10_undo_6 : decode cX10_undo 6 = .ok (.getfield 61, 3) := by decide +kernel
theorem dX10_undo_9 : decode cX10_undo 9 = .ok (.getfield 163, 3) := by decide +kernel
theorem dX10_undo_12 : decode cX10_undo 12 = .ok (.if_icmp .le 5, 3) := by decide +kernel
theorem dX10_undo_15 : decode cX10_undo 15 = .ok (.iconst (-1), 1) := by decide +kernel
theorem dX10_undo_16 : decode cX10_undo 16 = .ok (.ireturn, 1) := by decide +kernel
theorem dX10_undo_17 : decode cX10_undo 17 = .ok (.aload_n 0, 1) := by decide +kernel
theorem dX10_undo_18 : decode cX10_undo 18 = .ok (.getfield 61, 3) := by decide +kernel
theorem dX10_undo_21 : decode cX10_undo 21 = .ok (.getfield 163, 3) := by decide +kernel
theorem dX10_undo_24 : decode cX10_undo 24 = .ok (.iload_n 1, 1) := by decide +kernel
theorem dX10_undo_25 : decode cX10_undo 25 = .ok (.isub, 1) := by decide +kernel
theorem dX10_undo_26 : decode cX10_undo 26 = .ok (.istore_n 2, 1) := by decide +kernel
theorem dX10_undo_27 : decode cX10_undo 27 = .ok (.aload_n 0, 1) := by decide +kernel
theorem dX10_undo_28 : decode cX10_undo 28 = .ok (.getfield 61, 3) := by decide +kernel
theorem dX10_undo_31 : decode cX10_undo 31 = .ok (.getfield 163, 3) := by decide +kernel
theorem dX10_undo_34 : decode cX10_undo 34 = .ok (.iconst 1, 1) := by decide +kernel
theorem dX10_undo_35 : decode cX10_undo 35 = .ok (.isub, 1) := by decide +kernel
theorem dX10_undo_36 : decode cX10_undo 36 = .ok (.istore_n 3, 1) := by decide +kernel
theorem dX10_undo_37 : decode cX10_undo 37 = .ok (.iload_n 3, 1) := by decide +kernel
theorem dX10_undo_38 : decode cX10_undo 38 = .ok (.iload_n 1, 1) := by decide +kernel
theorem dX10_undo_39 : decode cX10_undo 39 = .ok (.if_icmp .lt 32, 3) := by decide +kernel
theorem dX10_undo_42 : decode cX10_undo 42 = .ok (.aload_n 0, 1) := by decide +kernel
theorem dX10_undo_43 : decode cX10_undo 43 = .ok (.getfield 49, 3) := by decide +kernel
theorem dX10_undo_46 : decode cX10_undo 46 = .ok (.aload_n 0, 1) := by decide +kernel
theorem dX10_undo_47 : decode cX10_undo 47 = .ok (.getfield 61, 3) := by decide +kernel
theorem dX10_undo_50 : decode cX10_undo 50 = .ok (.iload_n 3, 1) := by decide +kernel
theorem dX10_undo_51 : decode cX10_undo 51 = .ok (.invokevirtual 259, 3) := by decide +kernel
theorem dX10_undo_54 : decode cX10_undo 54 = .ok (.aload_n 0, 1) := by decide +kernel
theorem dX10_undo_55 : decode cX10_undo 55 = .ok (.getfield 61, 3) := by decide +kernel
theorem dX10_undo_58 : decode cX10_undo 58 = .ok (.iload_n 3, 1) := by decide +kernel
theorem dX10_undo_59 : decode cX10_undo 59 = .ok (.invokevirtual 262, 3) := by decide +kernel
theorem dX10_undo_62 : decode cX10_undo 62 = .ok (.invokevirtual 250, 3) := by decide +kernel
theorem dX10_undo_65 : decode cX10_undo 65 = .ok (.iinc 3 (-1), 3) := by decide +kernel
theorem dX10_undo_68 : decode cX10_undo 68 = .ok (.goto (-31), 3) := by decide +kernel
theorem dX10_undo_71 : decode cX10_undo 71 = .ok (.aload_n 0, 1) := by decide +kernel
theorem dX10_undo_72 : decode cX10_undo 72 = .ok (.getfield 61, 3) := by decide +kernel
theorem dX10_undo_75 : decode cX10_undo 75 = .ok (.iload_n 1, 1) := by decide +kernel
theorem dX10_undo_76 : decode cX10_undo 76 = .ok (.putfield 163, 3) := by decide +kernel
theorem dX10_undo_79 : decode cX10_undo 79 = .ok (.iload_n 2, 1) := by decide +kernel
theorem dX10_undo_80 : decode cX10_undo 80 = .ok (.ireturn, 1) := by decide +kernel
theorem dX10_does_0 : decode cX10_does 0 = .ok (.aload_n 0, 1) := by decide +kernel
theorem dX10_does_1 : decode cX10_does 1 = .ok (.getfield 21, 3) := by decide +kernel
theorem dX10_does_4 : decode cX10_does 4 = .ok (.iload_n 1, 1) := by decide +kernel
theorem dX10_does_5 : decode cX10_does 5 = .ok (.invokevirtual 105, 3) := by decide +kernel
theorem dX10_does_8 : decode cX10_does 8 = .ok (.ifCond .ne 5, 3) := by decide +kernel
theorem dX10_does_11 : decode cX10_does 11 = .ok (.iconst (-1), 1) := by decide +kernel
theorem dX10_does_12 : decode cX10_does 12 = .ok (.ireturn, 1) := by decide +kernel
theorem dX10_does_13 : decode cX10_does 13 = .ok (.aload_n 0, 1) := by decide +kernel
theorem dX10_does_14 : decode cX10_does 14 = .ok (.getfield 21, 3) := by decide +kernel
theorem dX10_does_17 : decode cX10_does 17 = .ok (.iload_n 1, 1) := by decide +kernel
theorem dX10_does_18 : decode cX10_does 18 = .ok (.invokevirtual 117, 3) := by decide +kernel
theorem dX10_does_21 : decode cX10_does 21 = .ok (.ifCond .eq 12, 3) := by decide +kernel
theorem dX10_does_24 : decode cX10_does 24 = .ok (.aload_n 0, 1) := by decide +kernel
theorem dX10_does_25 : decode cX10_does 25 = .ok (.getfield 10, 3) := by decide +kernel
theorem dX10_does_28 : decode cX10_does 28 = .ok (.iconst 1, 1) := by decide +kernel
theorem dX10_does_29 : decode cX10_does 29 = .ok (.invokevirtual 109, 3) := by decide +kernel
theorem dX10_does_32 : decode cX10_does 32 = .ok (.ireturn, 1) := by decide +kernel
theorem dX10_does_33 : decode cX10_does 33 = .ok (.aload_n 0, 1) := by decide +kernel
theorem dX10_does_34 : decode cX10_does 34 = .ok (.getfield 21, 3) := by decide +kernel
theorem dX10_does_37 : decode cX10_does 37 = .ok (.iload_n 1, 1) := by decide +kernel
theorem dX10_does_38 : decode cX10_does 38 = .ok (.invokevirtual 141, 3) := by decide +kernel
theorem dX10_does_41 : decode cX10_does 41 = .ok (.istore_n 2, 1) := by decide +kernel
theorem dX10_does_42 : decode cX10_does 42 = .ok (.iconst 0, 1) := by decide +kernel
theorem dX10_does_43 : decode cX10_does 43 = .ok (.istore_n 3, 1) := by decide +kernel
theorem dX10_does_44 : decode cX10_does 44 = .ok (.iload_n 3, 1) := by decide +kernel
theorem dX10_does_45 : decode cX10_does 45 = .ok (.iload_n 2, 1) := by decide +kernel
theorem dX10_does_46 : decode cX10_does 46 = .ok (.if_icmp .ge 37, 3) := by decide +kernel
theorem dX10_does_49 : decode cX10_does 49 = .ok (.aload_n 0, 1) := by decide +kernel
theorem dX10_does_50 : decode cX10_does 50 = .ok (.getfield 40, 3) := by decide +kernel
theorem dX10_does_53 : decode cX10_does 53 = .ok (.aload_n 0, 1) := by decide +kernel
theorem dX10_does_54 : decode cX10_does 54 = .ok (.getfield 21, 3) := by decide +kernel
theorem dX10_does_57 : decode cX10_does 57 = .ok (.iload_n 1, 1) := by decide +kernel
theorem dX10_does_58 : decode cX10_does 58 = .ok (.iload_n 3, 1) := by decide +kernel
theorem dX10_does_59 : decode cX10_does 59 = .ok (.invokevirtual 124, 3) := by decide +kernel
theorem dX10_does_62 : decode cX10_does 62 = .ok (.invokevirtual 265, 3) := by decide +kernel
theorem dX10_does_65 : decode cX10_does 65 = .ok (.ifCond .ne 12, 3) := by decide +kernel
theorem dX10_does_68 : decode cX10_does 68 = .ok (.aload_n 0, 1) := by decide +kernel
theorem dX10_does_69 : decode cX10_does 69 = .ok (.getfield 10, 3) := by decide +kernel
theorem dX10_does_72 : decode cX10_does 72 = .ok (.iconst 3, 1) := by decide +kernel
theorem dX10_does_73 : decode cX10_does 73 = .ok (.invokevirtual 109, 3) := by decide +kernel
theorem dX10_does_76 : decode cX10_does 76 = .ok (.ireturn, 1) := by decide +kernel
theorem dX10_does_77 : decode cX10_does 77 = .ok (.iinc 3 1, 3) := by decide +kernel
theorem dX10_does_80 : decode cX10_does 80 = .ok (.goto (-36), 3) := by decide +kernel
theorem dX10_does_83 : decode cX10_does 83 = .ok (.aload_n 0, 1) := by decide +kernel
theorem dX10_does_84 : decode cX10_does 84 = .ok (.getfield 61, 3) := by decide +kernel
theorem dX10_does_87 : decode cX10_does 87 = .ok (.getfield 163, 3) := by decide +kernel
theorem dX10_does_90 : decode cX10_does 90 = .ok (.iload_n 2, 1) := by decide +kernel
theorem dX10_does_91 : decode cX10_does 91 = .ok (.iadd, 1) := by decide +kernel
theorem dX10_does_92 : decode cX10_does 92 = .ok (.bipush 40, 2) := by decide +kernel
theorem dX10_does_94 : decode cX10_does 94 = .ok (.if_icmp .le 6, 3) := by decide +kernel
theorem dX10_does_97 : decode cX10_does 97 = .ok (.bipush (-2), 2) := by decide +kernel
theorem dX10_does_99 : decode cX10_does 99 = .ok (.ireturn, 1) := by decide +kernel
theorem dX10_does_100 : decode cX10_does 100 = .ok (.iconst 0, 1) := by decide +kernel
theorem dX10_does_101 : decode cX10_does 101 = .ok (.istore_n 3, 1) := by decide +kernel
theorem dX10_does_102 : decode cX10_does 102 = .ok (.iload_n 3, 1) := by decide +kernel
theorem dX10_does_103 : decode cX10_does 103 = .ok (.iload_n 2, 1) := by decide +kernel
theorem dX10_does_104 : decode cX10_does 104 = .ok (.if_icmp .ge 56, 3) := by decide +kernel
theorem dX10_does_107 : decode cX10_does 107 = .ok (.aload_n 0, 1) := by decide +kernel
theorem dX10_does_108 : decode cX10_does 108 = .ok (.getfield 21, 3) := by decide +kernel
theorem dX10_does_111 : decode cX10_does 111 = .ok (.iload_n 1, 1) := by decide +kernel
theorem dX10_does_112 : decode cX10_does 112 = .ok (.iload_n 3, 1) := by decide +kernel
theorem dX10_does_113 : decode cX10_does 113 = .ok (.invokevirtual 124, 3) := by decide +kernel
theorem dX10_does_116 : decode cX10_does 116 = .ok (.istore 4, 2) := by decide +kernel
theorem dX10_does_118 : decode cX10_does 118 = .ok (.aload_n 0, 1) := by decide +kernel
theorem dX10_does_119 : decode cX10_does 119 = .ok (.getfield 49, 3) := by decide +kernel
theorem dX10_does_122 : decode cX10_does 122 = .ok (.iload 4, 2) := by decide +kernel
theorem dX10_does_124 : decode cX10_does 124 = .ok (.bipush 7, 2) := by decide +kernel
theorem dX10_does_126 : decode cX10_does 126 = .ok (.idiv, 1) := by decide +kernel
theorem dX10_does_127 : decode cX10_does 127 = .ok (.iload 4, 2) := by decide +kernel
theorem dX10_does_129 : decode cX10_does 129 = .ok (.bipush 7, 2) := by decide +kernel
theorem dX10_does_131 : decode cX10_does 131 = .ok (.irem, 1) := by decide +kernel
theorem dX10_does_132 : decode cX10_does 132 = .ok (.invokevirtual 237, 3) := by decide +kernel
theorem dX10_does_135 : decode cX10_does 135 = .ok (.ifCond .ne 5, 3) := by decide +kernel
theorem dX10_does_138 : decode cX10_does 138 = .ok (.iload_n 3, 1) := by decide +kernel
theorem dX10_does_139 : decode cX10_does 139 = .ok (.ireturn, 1) := by decide +kernel
theorem dX10_does_140 : decode cX10_does 140 = .ok (.aload_n 0, 1) := by decide +kernel
theorem dX10_does_141 : decode cX10_does 141 = .ok (.iload 4, 2) := by decide +kernel
theorem dX10_does_143 : decode cX10_does 143 = .ok (.bipush 7, 2) := by decide +kernel
theorem dX10_does_145 : decode cX10_does 145 = .ok (.idiv, 1) := by decide +kernel
theorem dX10_does_146 : decode cX10_does 146 = .ok (.iload 4, 2) := by decide +kernel
theorem dX10_does_148 : decode cX10_does 148 = .ok (.bipush 7, 2) := by decide +kernel
theorem dX10_does_150 : decode cX10_does 150 = .ok (.irem, 1) := by decide +kernel
theorem dX10_does_151 : decode cX10_does 151 = .ok (.invokevirtual 244, 3) := by decide +kernel
theorem dX10_does_154 : decode cX10_does 154 = .ok (.iinc 3 1, 3) := by decide +kernel
theorem dX10_does_157 : decode cX10_does 157 = .ok (.goto (-55), 3) := by decide +kernel
theorem dX10_does_160 : decode cX10_does 160 = .ok (.iload_n 2, 1) := by decide +kernel
theorem dX10_does_161 : decode cX10_does 161 = .ok (.ireturn, 1) := by decide +kernel
theorem dX10_keep_0 : decode cX10_keep 0 = .ok (.iload_n 1, 1) := by decide +kernel
theorem dX10_keep_1 : decode cX10_keep 1 = .ok (.invokestatic 268, 3) := by decide +kernel
theorem dX10_keep_4 : decode cX10_keep 4 = .ok (.ifCond .ne 5, 3) := by decide +kernel
theorem dX10_keep_7 : decode cX10_keep 7 = .ok (.iconst (-1), 1) := by decide +kernel
theorem dX10_keep_8 : decode cX10_keep 8 = .ok (.ireturn, 1) := by decide +kernel
theorem dX10_keep_9 : decode cX10_keep 9 = .ok (.aload_n 0, 1) := by decide +kernel
theorem dX10_keep_10 : decode cX10_keep 10 = .ok (.getfield 40, 3) := by decide +kernel
theorem dX10_keep_13 : decode cX10_keep 13 = .ok (.getfield 271, 3) := by decide +kernel
theorem dX10_keep_16 : decode cX10_keep 16 = .ok (.ifCond .ne 6, 3) := by decide +kernel
theorem dX10_keep_19 : decode cX10_keep 19 = .ok (.bipush (-4), 2) := by decide +kernel
theorem dX10_keep_21 : decode cX10_keep 21 = .ok (.ireturn, 1) := by decide +kernel
theorem dX10_keep_22 : decode cX10_keep 22 = .ok (.aload_n 0, 1) := by decide +kernel
theorem dX10_keep_23 : decode cX10_keep 23 = .ok (.getfield 68, 3) := by decide +kernel
theorem dX10_keep_26 : decode cX10_keep 26 = .ok (.iload_n 1, 1) := by decide +kernel
theorem dX10_keep_27 : decode cX10_keep 27 = .ok (.aload_n 0, 1) := by decide +kernel
theorem dX10_keep_28 : decode cX10_keep 28 = .ok (.getfield 49, 3) := by decide +kernel
theorem dX10_keep_31 : decode cX10_keep 31 = .ok (.invokevirtual 274, 3) := by decide +kernel
theorem dX10_keep_34 : decode cX10_keep 34 = .ok (.iastore, 1) := by decide +kernel
theorem dX10_keep_35 : decode cX10_keep 35 = .ok (.aload_n 0, 1) := by decide +kernel
theorem dX10_keep_36 : decode cX10_keep 36 = .ok (.getfield 72, 3) := by decide +kernel
theorem dX10_keep_39 : decode cX10_keep 39 = .ok (.iload_n 1, 1) := by decide +kernel
theorem dX10_keep_40 : decode cX10_keep 40 = .ok (.aload_n 0, 1) := by decide +kernel
theorem dX10_keep_41 : decode cX10_keep 41 = .ok (.getfield 49, 3) := by decide +kernel
theorem dX10_keep_44 : decode cX10_keep 44 = .ok (.getfield 231, 3) := by decide +kernel
theorem dX10_keep_47 : decode cX10_keep 47 = .ok (.iastore, 1) := by decide +kernel
theorem dX10_keep_48 : decode cX10_keep 48 = .ok (.aload_n 0, 1) := by decide +kernel
theorem dX10_keep_49 : decode cX10_keep 49 = .ok (.getfield 61, 3) := by decide +kernel
theorem dX10_keep_52 : decode cX10_keep 52 = .ok (.getfield 163, 3) := by decide +kernel
theorem dX10_keep_55 : decode cX10_keep 55 = .ok (.ireturn, 1) := by decide +kernel
theorem dX10_isKeep_0 : decode cX10_isKeep 0 = .ok (.iload_n 0, 1) := by decide +kernel
theorem dX10_isKeep_1 : decode cX10_isKeep 1 = .ok (.ifCond .lt 12, 3) := by decide +kernel
theorem dX10_isKeep_4 : decode cX10_isKeep 4 = .ok (.iload_n 0, 1) := by decide +kernel
theorem dX10_isKeep_5 : decode cX10_isKeep 5 = .ok (.iconst 3, 1) := by decide +kernel
theorem dX10_isKeep_6 : decode cX10_isKeep 6 = .ok (.if_icmp .ge 7, 3) := by decide +kernel
theorem dX10_isKeep_9 : decode cX10_isKeep 9 = .ok (.iconst 1, 1) := by decide +kernel
theorem dX10_isKeep_10 : decode cX10_isKeep 10 = .ok (.goto 4, 3) := by decide +kernel
theorem dX10_isKeep_13 : decode cX10_isKeep 13 = .ok (.iconst 0, 1) := by decide +kernel
theorem dX10_isKeep_14 : decode cX10_isKeep 14 = .ok (.ireturn, 1) := by decide +kernel
theorem dX10_on_0 : decode cX10_on 0 = .ok (.iload_n 1, 1) := by decide +kernel
theorem dX10_on_1 : decode cX10_on 1 = .ok (.invokestatic 268, 3) := by decide +kernel
theorem dX10_on_4 : decode cX10_on 4 = .ok (.ifCond .ne 5, 3) := by decide +kernel
theorem dX10_on_7 : decode cX10_on 7 = .ok (.iconst (-1), 1) := by decide +kernel
theorem dX10_on_8 : decode cX10_on 8 = .ok (.ireturn, 1) := by decide +kernel
theorem dX10_on_9 : decode cX10_on 9 = .ok (.aload_n 0, 1) := by decide +kernel
theorem dX10_on_10 : decode cX10_on 10 = .ok (.getfield 72, 3) := by decide +kernel
theorem dX10_on_13 : decode cX10_on 13 = .ok (.iload_n 1, 1) := by decide +kernel
theorem dX10_on_14 : decode cX10_on 14 = .ok (.iaload, 1) := by decide +kernel
theorem dX10_on_15 : decode cX10_on 15 = .ok (.ifCond .ne 12, 3) := by decide +kernel
theorem dX10_on_18 : decode cX10_on 18 = .ok (.aload_n 0, 1) := by decide +kernel
theorem dX10_on_19 : decode cX10_on 19 = .ok (.getfield 10, 3) := by decide +kernel
theorem dX10_on_22 : decode cX10_on 22 = .ok (.iconst 1, 1) := by decide +kernel
theorem dX10_on_23 : decode cX10_on 23 = .ok (.invokevirtual 109, 3) := by decide +kernel
theorem dX10_on_26 : decode cX10_on 26 = .ok (.ireturn, 1) := by decide +kernel
theorem dX10_on_27 : decode cX10_on 27 = .ok (.aload_n 0, 1) := by decide +kernel
theorem dX10_on_28 : decode cX10_on 28 = .ok (.aload_n 0, 1) := by decide +kernel
theorem dX10_on_29 : decode cX10_on 29 = .ok (.getfield 68, 3) := by decide +kernel
theorem dX10_on_32 : decode cX10_on 32 = .ok (.iload_n 1, 1) := by decide +kernel
theorem dX10_on_33 : decode cX10_on 33 = .ok (.iaload, 1) := by decide +kernel
theorem dX10_on_34 : decode cX10_on 34 = .ok (.aload_n 0, 1) := by decide +kernel
theorem dX10_on_35 : decode cX10_on 35 = .ok (.getfield 72, 3) := by decide +kernel
theorem dX10_on_38 : decode cX10_on 38 = .ok (.iload_n 1, 1) := by decide +kernel
theorem dX10_on_39 : decode cX10_on 39 = .ok (.iaload, 1) := by decide +kernel
theorem dX10_on_40 : decode cX10_on 40 = .ok (.invokevirtual 277, 3) := by decide +kernel
theorem dX10_on_43 : decode cX10_on 43 = .ok (.iconst 1, 1) := by decide +kernel
theorem dX10_on_44 : decode cX10_on 44 = .ok (.ireturn, 1) := by decide +kernel
theorem dX10_goOnFrom_0 : decode cX10_goOnFrom 0 = .ok (.aload_n 0, 1) := by decide +kernel
theorem dX10_goOnFrom_1 : decode cX10_goOnFrom 1 = .ok (.getfield 49, 3) := by decide +kernel
theorem dX10_goOnFrom_4 : decode cX10_goOnFrom 4 = .ok (.iload_n 1, 1) := by decide +kernel
theorem dX10_goOnFrom_5 : decode cX10_goOnFrom 5 = .ok (.invokevirtual 280, 3) := by decide +kernel
theorem dX10_goOnFrom_8 : decode cX10_goOnFrom 8 = .ok (.aload_n 0, 1) := by decide +kernel
theorem dX10_goOnFrom_9 : decode cX10_goOnFrom 9 = .ok (.getfield 49, 3) := by decide +kernel
theorem dX10_goOnFrom_12 : decode cX10_goOnFrom 12 = .ok (.iload_n 2, 1) := by decide +kernel
theorem dX10_goOnFrom_13 : decode cX10_goOnFrom 13 = .ok (.putfield 231, 3) := by decide +kernel
theorem dX10_goOnFrom_16 : decode cX10_goOnFrom 16 = .ok (.aload_n 0, 1) := by decide +kernel
theorem dX10_goOnFrom_17 : decode cX10_goOnFrom 17 = .ok (.getfield 61, 3) := by decide +kernel
theorem dX10_goOnFrom_20 : decode cX10_goOnFrom 20 = .ok (.iconst 0, 1) := by decide +kernel
theorem dX10_goOnFrom_21 : decode cX10_goOnFrom 21 = .ok (.putfield 163, 3) := by decide +kernel
theorem dX10_goOnFrom_24 : decode cX10_goOnFrom 24 = .ok (.return_, 1) := by decide +kernel
theorem dX10_can_0 : decode cX10_can 0 = .ok (.aload_n 0, 1) := by decide +kernel
theorem dX10_can_1 : decode cX10_can 1 = .ok (.getfield 49, 3) := by decide +kernel
theorem dX10_can_4 : decode cX10_can 4 = .ok (.invokevirtual 283, 3) := by decide +kernel
theorem dX10_can_7 : decode cX10_can 7 = .ok (.istore_n 1, 1) := by decide +kernel
theorem dX10_can_8 : decode cX10_can 8 = .ok (.aload_n 0, 1) := by decide +kernel
theorem dX10_can_9 : decode cX10_can 9 = .ok (.getfield 10, 3) := by decide +kernel
theorem dX10_can_12 : decode cX10_can 12 = .ok (.aload_n 0, 1) := by decide +kernel
theorem dX10_can_13 : decode cX10_can 13 = .ok (.getfield 40, 3) := by decide +kernel
theorem dX10_can_16 : decode cX10_can 16 = .ok (.iload_n 1, 1) := by decide +kernel
theorem dX10_can_17 : decode cX10_can 17 = .ok (.invokevirtual 286, 3) := by decide +kernel
theorem dX10_can_20 : decode cX10_can 20 = .ok (.invokevirtual 131, 3) := by decide +kernel
theorem dX10_can_23 : decode cX10_can 23 = .ok (.pop, 1) := by decide +kernel
theorem dX10_can_24 : decode cX10_can 24 = .ok (.iload_n 1, 1) := by decide +kernel
theorem dX10_can_25 : decode cX10_can 25 = .ok (.ireturn, 1) := by decide +kernel
theorem dX10_fewest_0 : decode cX10_fewest 0 = .ok (.aload_n 0, 1) := by decide +kernel
theorem dX10_fewest_1 : decode cX10_fewest 1 = .ok (.iload_n 1, 1) := by decide +kernel
theorem dX10_fewest_2 : decode cX10_fewest 2 = .ok (.invokevirtual 298, 3) := by decide +kernel
theorem dX10_fewest_5 : decode cX10_fewest 5 = .ok (.istore_n 2, 1) := by decide +kernel
theorem dX10_fewest_6 : decode cX10_fewest 6 = .ok (.iload_n 2, 1) := by decide +kernel
theorem dX10_fewest_7 : decode cX10_fewest 7 = .ok (.ifCond .eq 5, 3) := by decide +kernel
theorem dX10_fewest_10 : decode cX10_fewest 10 = .ok (.iload_n 2, 1) := by decide +kernel
theorem dX10_fewest_11 : decode cX10_fewest 11 = .ok (.ireturn, 1) := by decide +kernel
theorem dX10_fewest_12 : decode cX10_fewest 12 = .ok (.aload_n 0, 1) := by decide +kernel
theorem dX10_fewest_13 : decode cX10_fewest 13 = .ok (.getfield 83, 3) := by decide +kernel
theorem dX10_fewest_16 : decode cX10_fewest 16 = .ok (.invokevirtual 301, 3) := by decide +kernel
theorem dX10_fewest_19 : decode cX10_fewest 19 = .ok (.istore_n 3, 1) := by decide +kernel
theorem dX10_fewest_20 : decode cX10_fewest 20 = .ok (.iload_n 3, 1) := by decide +kernel
theorem dX10_fewest_21 : decode cX10_fewest 21 = .ok (.bipush (-9), 2) := by decide +kernel
theorem dX10_fewest_23 : decode cX10_fewest 23 = .ok (.if_icmp .ne 6, 3) := by decide +kernel
theorem dX10_fewest_26 : decode cX10_fewest 26 = .ok (.bipush (-9), 2) := by decide +kernel
theorem dX10_fewest_28 : decode cX10_fewest 28 = .ok (.ireturn, 1) := by decide +kernel
theorem dX10_fewest_29 : decode cX10_fewest 29 = .ok (.aload_n 0, 1) := by decide +kernel
theorem dX10_fewest_30 : decode cX10_fewest 30 = .ok (.getfield 10, 3) := by decide +kernel
theorem dX10_fewest_33 : decode cX10_fewest 33 = .ok (.aload_n 0, 1) := by decide +kernel
theorem dX10_fewest_34 : decode cX10_fewest 34 = .ok (.getfield 83, 3) := by decide +kernel
theorem dX10_fewest_37 : decode cX10_fewest 37 = .ok (.iload_n 3, 1) := by decide +kernel
theorem dX10_fewest_38 : decode cX10_fewest 38 = .ok (.invokevirtual 304, 3) := by decide +kernel
theorem dX10_fewest_41 : decode cX10_fewest 41 = .ok (.invokevirtual 131, 3) := by decide +kernel
theorem dX10_fewest_44 : decode cX10_fewest 44 = .ok (.pop, 1) := by decide +kernel
theorem dX10_fewest_45 : decode cX10_fewest 45 = .ok (.aload_n 0, 1) := by decide +kernel
theorem dX10_fewest_46 : decode cX10_fewest 46 = .ok (.getfield 83, 3) := by decide +kernel
theorem dX10_fewest_49 : decode cX10_fewest 49 = .ok (.iload_n 3, 1) := by decide +kernel
theorem dX10_fewest_50 : decode cX10_fewest 50 = .ok (.invokevirtual 307, 3) := by decide +kernel
theorem dX10_fewest_53 : decode cX10_fewest 53 = .ok (.ireturn, 1) := by decide +kernel
theorem dX10_wanted_0 : decode cX10_wanted 0 = .ok (.aload_n 0, 1) := by decide +kernel
theorem dX10_wanted_1 : decode cX10_wanted 1 = .ok (.getfield 21, 3) := by decide +kernel
theorem dX10_wanted_4 : decode cX10_wanted 4 = .ok (.iload_n 1, 1) := by decide +kernel
theorem dX10_wanted_5 : decode cX10_wanted 5 = .ok (.invokevirtual 105, 3) := by decide +kernel
theorem dX10_wanted_8 : decode cX10_wanted 8 = .ok (.ifCond .ne 5, 3) := by decide +kernel
theorem dX10_wanted_11 : decode cX10_wanted 11 = .ok (.iconst (-1), 1) := by decide +kernel
theorem dX10_wanted_12 : decode cX10_wanted 12 = .ok (.ireturn, 1) := by decide +kernel
theorem dX10_wanted_13 : decode cX10_wanted 13 = .ok (.aload_n 0, 1) := by decide +kernel
theorem dX10_wanted_14 : decode cX10_wanted 14 = .ok (.getfield 21, 3) := by decide +kernel
theorem dX10_wanted_17 : decode cX10_wanted 17 = .ok (.iload_n 1, 1) := by decide +kernel
theorem dX10_wanted_18 : decode cX10_wanted 18 = .ok (.invokevirtual 117, 3) := by decide +kernel
theorem dX10_wanted_21 : decode cX10_wanted 21 = .ok (.ifCond .eq 12, 3) := by decide +kernel
theorem dX10_wanted_24 : decode cX10_wanted 24 = .ok (.aload_n 0, 1) := by decide +kernel
theorem dX10_wanted_25 : decode cX10_wanted 25 = .ok (.getfield 10, 3) := by decide +kernel
theorem dX10_wanted_28 : decode cX10_wanted 28 = .ok (.iconst 1, 1) := by decide +kernel
theorem dX10_wanted_29 : decode cX10_wanted 29 = .ok (.invokevirtual 109, 3) := by decide +kernel
theorem dX10_wanted_32 : decode cX10_wanted 32 = .ok (.ireturn, 1) := by decide +kernel
theorem dX10_wanted_33 : decode cX10_wanted 33 = .ok (.aload_n 0, 1) := by decide +kernel
theorem dX10_wanted_34 : decode cX10_wanted 34 = .ok (.getfield 21, 3) := by decide +kernel
theorem dX10_wanted_37 : decode cX10_wanted 37 = .ok (.iload_n 1, 1) := by decide +kernel
theorem dX10_wanted_38 : decode cX10_wanted 38 = .ok (.invokevirtual 141, 3) := by decide +kernel
theorem dX10_wanted_41 : decode cX10_wanted 41 = .ok (.aload_n 0, 1) := by decide +kernel
theorem dX10_wanted_42 : decode cX10_wanted 42 = .ok (.getfield 40, 3) := by decide +kernel
theorem dX10_wanted_45 : decode cX10_wanted 45 = .ok (.getfield 173, 3) := by decide +kernel
theorem dX10_wanted_48 : decode cX10_wanted 48 = .ok (.if_icmp .eq 12, 3) := by decide +kernel
theorem dX10_wanted_51 : decode cX10_wanted 51 = .ok (.aload_n 0, 1) := by decide +kernel
theorem dX10_wanted_52 : decode cX10_wanted 52 = .ok (.getfield 10, 3) := by decide +kernel
theorem dX10_wanted_55 : decode cX10_wanted 55 = .ok (.iconst 5, 1) := by decide +kernel
theorem dX10_wanted_56 : decode cX10_wanted 56 = .ok (.invokevirtual 109, 3) := by decide +kernel
theorem dX10_wanted_59 : decode cX10_wanted 59 = .ok (.ireturn, 1) := by decide +kernel
theorem dX10_wanted_60 : decode cX10_wanted 60 = .ok (.iconst 0, 1) := by decide +kernel
theorem dX10_wanted_61 : decode cX10_wanted 61 = .ok (.istore_n 2, 1) := by decide +kernel
theorem dX10_wanted_62 : decode cX10_wanted 62 = .ok (.iload_n 2, 1) := by decide +kernel
theorem dX10_wanted_63 : decode cX10_wanted 63 = .ok (.aload_n 0, 1) := by decide +kernel
theorem dX10_wanted_64 : decode cX10_wanted 64 = .ok (.getfield 40, 3) := by decide +kernel
theorem dX10_wanted_67 : decode cX10_wanted 67 = .ok (.getfield 173, 3) := by decide +kernel
theorem dX10_wanted_70 : decode cX10_wanted 70 = .ok (.if_icmp .ge 49, 3) := by decide +kernel
theorem dX10_wanted_73 : decode cX10_wanted 73 = .ok (.aload_n 0, 1) := by decide +kernel
theorem dX10_wanted_74 : decode cX10_wanted 74 = .ok (.getfield 21, 3) := by decide +kernel
theorem dX10_wanted_77 : decode cX10_wanted 77 = .ok (.iload_n 1, 1) := by decide +kernel
theorem dX10_wanted_78 : decode cX10_wanted 78 = .ok (.iload_n 2, 1) := by decide +kernel
theorem dX10_wanted_79 : decode cX10_wanted 79 = .ok (.invokevirtual 124, 3) := by decide +kernel
theorem dX10_wanted_82 : decode cX10_wanted 82 = .ok (.istore_n 3, 1) := by decide +kernel
theorem dX10_wanted_83 : decode cX10_wanted 83 = .ok (.iload_n 3, 1) := by decide +kernel
theorem dX10_wanted_84 : decode cX10_wanted 84 = .ok (.iconst (-1), 1) := by decide +kernel
theorem dX10_wanted_85 : decode cX10_wanted 85 = .ok (.if_icmp .eq 28, 3) := by decide +kernel
theorem dX10_wanted_88 : decode cX10_wanted 88 = .ok (.iload_n 3, 1) := by decide +kernel
theorem dX10_wanted_89 : decode cX10_wanted 89 = .ok (.iconst 4, 1) := by decide +kernel
theorem dX10_wanted_90 : decode cX10_wanted 90 = .ok (.if_icmp .eq 23, 3) := by decide +kernel
theorem dX10_wanted_93 : decode cX10_wanted 93 = .ok (.aload_n 0, 1) := by decide +kernel
theorem dX10_wanted_94 : decode cX10_wanted 94 = .ok (.getfield 40, 3) := by decide +kernel
theorem dX10_wanted_97 : decode cX10_wanted 97 = .ok (.iload_n 3, 1) := by decide +kernel
theorem dX10_wanted_98 : decode cX10_wanted 98 = .ok (.invokevirtual 224, 3) := by decide +kernel
theorem dX10_wanted_101 : decode cX10_wanted 101 = .ok (.ifCond .ne 12, 3) := by decide +kernel
theorem dX10_wanted_104 : decode cX10_wanted 104 = .ok (.aload_n 0, 1) := by decide +kernel
theorem dX10_wanted_105 : decode cX10_wanted 105 = .ok (.getfield 10, 3) := by decide +kernel
theorem dX10_wanted_108 : decode cX10_wanted 108 = .ok (.iconst 3, 1) := by decide +kernel
theorem dX10_wanted_109 : decode cX10_wanted 109 = .ok (.invokevirtual 109, 3) := by decide +kernel
theorem dX10_wanted_112 : decode cX10_wanted 112 = .ok (.ireturn, 1) := by decide +kernel
theorem dX10_wanted_113 : decode cX10_wanted 113 = .ok (.iinc 2 1, 3) := by decide +kernel
theorem dX10_wanted_116 : decode cX10_wanted 116 = .ok (.goto (-54), 3) := by decide +kernel
theorem dX10_wanted_119 : decode cX10_wanted 119 = .ok (.aload_n 0, 1) := by decide +kernel
theorem dX10_wanted_120 : decode cX10_wanted 120 = .ok (.getfield 83, 3) := by decide +kernel
theorem dX10_wanted_123 : decode cX10_wanted 123 = .ok (.aload_n 0, 1) := by decide +kernel
theorem dX10_wanted_124 : decode cX10_wanted 124 = .ok (.getfield 49, 3) := by decide +kernel
theorem dX10_wanted_127 : decode cX10_wanted 127 = .ok (.invokevirtual 274, 3) := by decide +kernel
theorem dX10_wanted_130 : decode cX10_wanted 130 = .ok (.aload_n 0, 1) := by decide +kernel
theorem dX10_wanted_131 : decode cX10_wanted 131 = .ok (.getfield 49, 3) := by decide +kernel
theorem dX10_wanted_134 : decode cX10_wanted 134 = .ok (.getfield 231, 3) := by decide +kernel
theorem dX10_wanted_137 : decode cX10_wanted 137 = .ok (.invokevirtual 310, 3) := by decide +kernel
theorem dX10_wanted_140 : decode cX10_wanted 140 = .ok (.iconst 0, 1) := by decide +kernel
theorem dX10_wanted_141 : decode cX10_wanted 141 = .ok (.istore_n 2, 1) := by decide +kernel
theorem dX10_wanted_142 : decode cX10_wanted 142 = .ok (.iload_n 2, 1) := by decide +kernel
theorem dX10_wanted_143 : decode cX10_wanted 143 = .ok (.aload_n 0, 1) := by decide +kernel
theorem dX10_wanted_144 : decode cX10_wanted 144 = .ok (.getfield 40, 3) := by decide +kernel
theorem dX10_wanted_147 : decode cX10_wanted 147 = .ok (.getfield 173, 3) := by decide +kernel
theorem dX10_wanted_150 : decode cX10_wanted 150 = .ok (.if_icmp .ge 26, 3) := by decide +kernel
theorem dX10_wanted_153 : decode cX10_wanted 153 = .ok (.aload_n 0, 1) := by decide +kernel
theorem dX10_wanted_154 : decode cX10_wanted 154 = .ok (.getfield 83, 3) := by decide +kernel
theorem dX10_wanted_157 : decode cX10_wanted 157 = .ok (.iload_n 2, 1) := by decide +kernel
theorem dX10_wanted_158 : decode cX10_wanted 158 = .ok (.aload_n 0, 1) := by decide +kernel
theorem dX10_wanted_159 : decode cX10_wanted 159 = .ok (.getfield 21, 3) := by decide +kernel
theorem dX10_wanted_162 : decode cX10_wanted 162 = .ok (.iload_n 1, 1) := by decide +kernel
theorem dX10_wanted_163 : decode cX10_wanted 163 = .ok (.iload_n 2, 1) := by decide +kernel
theorem dX10_wanted_164 : decode cX10_wanted 164 = .ok (.invokevirtual 124, 3) := by decide +kernel
theorem dX10_wanted_167 : decode cX10_wanted 167 = .ok (.invokevirtual 312, 3) := by decide +kernel
theorem dX10_wanted_170 : decode cX10_wanted 170 = .ok (.iinc 2 1, 3) := by decide +kernel
theorem dX10_wanted_173 : decode cX10_wanted 173 = .ok (.goto (-31), 3) := by decide +kernel
theorem dX10_wanted_176 : decode cX10_wanted 176 = .ok (.iconst 0, 1) := by decide +kernel
theorem dX10_wanted_177 : decode cX10_wanted 177 = .ok (.ireturn, 1) := by decide +kernel
theorem dX10_way_0 : decode cX10_way 0 = .ok (.aload_n 0, 1) := by decide +kernel
theorem dX10_way_1 : decode cX10_way 1 = .ok (.getfield 21, 3) := by decide +kernel
theorem dX10_way_4 : decode cX10_way 4 = .ok (.iload_n 1, 1) := by decide +kernel
theorem dX10_way_5 : decode cX10_way 5 = .ok (.invokevirtual 105, 3) := by decide +kernel
theorem dX10_way_8 : decode cX10_way 8 = .ok (.ifCond .eq 14, 3) := by decide +kernel
theorem dX10_way_11 : decode cX10_way 11 = .ok (.aload_n 0, 1) := by decide +kernel
theorem dX10_way_12 : decode cX10_way 12 = .ok (.getfield 21, 3) := by decide +kernel
theorem dX10_way_15 : decode cX10_way 15 = .ok (.iload_n 2, 1) := by decide +kernel
theorem dX10_way_16 : decode cX10_way 16 = .ok (.invokevirtual 105, 3) := by decide +kernel
theorem dX10_way_19 : decode cX10_way 19 = .ok (.ifCond .ne 5, 3) := by decide +kernel
theorem dX10_way_22 : decode cX10_way 22 = .ok (.iconst (-1), 1) := by decide +kernel
theorem dX10_way_23 : decode cX10_way 23 = .ok (.ireturn, 1) := by decide +kernel
theorem dX10_way_24 : decode cX10_way 24 = .ok (.aload_n 0, 1) := by decide +kernel
theorem dX10_way_25 : decode cX10_way 25 = .ok (.iload_n 1, 1) := by decide +kernel
theorem dX10_way_26 : decode cX10_way 26 = .ok (.invokevirtual 298, 3) := by decide +kernel
theorem dX10_way_29 : decode cX10_way 29 = .ok (.istore_n 3, 1) := by decide +kernel
theorem dX10_way_30 : decode cX10_way 30 = .ok (.iload_n 3, 1) := by decide +kernel
theorem dX10_way_31 : decode cX10_way 31 = .ok (.ifCond .eq 5, 3) := by decide +kernel
theorem dX10_way_34 : decode cX10_way 34 = .ok (.iload_n 3, 1) := by decide +kernel
theorem dX10_way_35 : decode cX10_way 35 = .ok (.ireturn, 1) := by decide +kernel
theorem dX10_way_36 : decode cX10_way 36 = .ok (.aload_n 0, 1) := by decide +kernel
theorem dX10_way_37 : decode cX10_way 37 = .ok (.getfield 83, 3) := by decide +kernel
theorem dX10_way_40 : decode cX10_way 40 = .ok (.invokevirtual 301, 3) := by decide +kernel
theorem dX10_way_43 : decode cX10_way 43 = .ok (.istore 4, 2) := by decide +kernel
theorem dX10_way_45 : decode cX10_way 45 = .ok (.iload 4, 2) := by decide +kernel
theorem dX10_way_47 : decode cX10_way 47 = .ok (.bipush (-9), 2) := by decide +kernel
theorem dX10_way_49 : decode cX10_way 49 = .ok (.if_icmp .ne 6, 3) := by decide +kernel
theorem dX10_way_52 : decode cX10_way 52 = .ok (.bipush (-9), 2) := by decide +kernel
theorem dX10_way_54 : decode cX10_way 54 = .ok (.ireturn, 1) := by decide +kernel
theorem dX10_way_55 : decode cX10_way 55 = .ok (.aload_n 0, 1) := by decide +kernel
theorem dX10_way_56 : decode cX10_way 56 = .ok (.getfield 83, 3) := by decide +kernel
theorem dX10_way_59 : decode cX10_way 59 = .ok (.iload 4, 2) := by decide +kernel
theorem dX10_way_61 : decode cX10_way 61 = .ok (.invokevirtual 307, 3) := by decide +kernel
theorem dX10_way_64 : decode cX10_way 64 = .ok (.istore 5, 2) := by decide +kernel
theorem dX10_way_66 : decode cX10_way 66 = .ok (.iload 5, 2) := by decide +kernel
theorem dX10_way_68 : decode cX10_way 68 = .ok (.bipush 60, 2) := by decide +kernel
theorem dX10_way_70 : decode cX10_way 70 = .ok (.if_icmp .le 6, 3) := by decide +kernel
theorem dX10_way_73 : decode cX10_way 73 = .ok (.bipush (-9), 2) := by decide +kernel
theorem dX10_way_75 : decode cX10_way 75 = .ok (.ireturn, 1) := by decide +kernel
theorem dX10_way_76 : decode cX10_way 76 = .ok (.aload_n 0, 1) := by decide +kernel
theorem dX10_way_77 : decode cX10_way 77 = .ok (.getfield 21, 3) := by decide +kernel
theorem dX10_way_80 : decode cX10_way 80 = .ok (.iload_n 2, 1) := by decide +kernel
theorem dX10_way_81 : decode cX10_way 81 = .ok (.iload 5, 2) := by decide +kernel
theorem dX10_way_83 : decode cX10_way 83 = .ok (.iconst 0, 1) := by decide +kernel
theorem dX10_way_84 : decode cX10_way 84 = .ok (.invokevirtual 113, 3) := by decide +kernel
theorem dX10_way_87 : decode cX10_way 87 = .ok (.iload 5, 2) := by decide +kernel
theorem dX10_way_89 : decode cX10_way 89 = .ok (.iconst 1, 1) := by decide +kernel
theorem dX10_way_90 : decode cX10_way 90 = .ok (.isub, 1) := by decide +kernel
theorem dX10_way_91 : decode cX10_way 91 = .ok (.istore 6, 2) := by decide +kernel
theorem dX10_way_93 : decode cX10_way 93 = .ok (.iload 6, 2) := by decide +kernel
theorem dX10_way_95 : decode cX10_way 95 = .ok (.ifCond .lt 39, 3) := by decide +kernel
theorem dX10_way_98 : decode cX10_way 98 = .ok (.aload_n 0, 1) := by decide +kernel
theorem dX10_way_99 : decode cX10_way 99 = .ok (.getfield 21, 3) := by decide +kernel
theorem dX10_way_102 : decode cX10_way 102 = .ok (.iload_n 2, 1) := by decide +kernel
theorem dX10_way_103 : decode cX10_way 103 = .ok (.iload 6, 2) := by decide +kernel
theorem dX10_way_105 : decode cX10_way 105 = .ok (.aload_n 0, 1) := by decide +kernel
theorem dX10_way_106 : decode cX10_way 106 = .ok (.getfield 83, 3) := by decide +kernel
theorem dX10_way_109 : decode cX10_way 109 = .ok (.iload 4, 2) := by decide +kernel
theorem dX10_way_111 : decode cX10_way 111 = .ok (.invokevirtual 315, 3) := by decide +kernel
theorem dX10_way_114 : decode cX10_way 114 = .ok (.invokevirtual 128, 3) := by decide +kernel
theorem dX10_way_117 : decode cX10_way 117 = .ok (.aload_n 0, 1) := by decide +kernel
theorem dX10_way_118 : decode cX10_way 118 = .ok (.getfield 83, 3) := by decide +kernel
theorem dX10_way_121 : decode cX10_way 121 = .ok (.iload 4, 2) := by decide +kernel
theorem dX10_way_123 : decode cX10_way 123 = .ok (.invokevirtual 318, 3) := by decide +kernel
theorem dX10_way_126 : decode cX10_way 126 = .ok (.istore 4, 2) := by decide +kernel
theorem dX10_way_128 : decode cX10_way 128 = .ok (.iinc 6 (-1), 3) := by decide +kernel
theorem dX10_way_131 : decode cX10_way 131 = .ok (.goto (-38), 3) := by decide +kernel
theorem dX10_way_134 : decode cX10_way 134 = .ok (.iload 5, 2) := by decide +kernel
theorem dX10_way_136 : decode cX10_way 136 = .ok (.ireturn, 1) := by decide +kernel
theorem dX10_all_0 : decode cX10_all 0 = .ok (.aload_n 0, 1) := by decide +kernel
theorem dX10_all_1 : decode cX10_all 1 = .ok (.getfield 83, 3) := by decide +kernel
theorem dX10_all_4 : decode cX10_all 4 = .ok (.aload_n 0, 1) := by decide +kernel
theorem dX10_all_5 : decode cX10_all 5 = .ok (.getfield 49, 3) := by decide +kernel
theorem dX10_all_8 : decode cX10_all 8 = .ok (.invokevirtual 274, 3) := by decide +kernel
theorem dX10_all_11 : decode cX10_all 11 = .ok (.aload_n 0, 1) := by decide +kernel
theorem dX10_all_12 : decode cX10_all 12 = .ok (.getfield 49, 3) := by decide +kernel
theorem dX10_all_15 : decode cX10_all 15 = .ok (.getfield 231, 3) := by decide +kernel
theorem dX10_all_18 : decode cX10_all 18 = .ok (.invokevirtual 310, 3) := by decide +kernel
theorem dX10_all_21 : decode cX10_all 21 = .ok (.aload_n 0, 1) := by decide +kernel
theorem dX10_all_22 : decode cX10_all 22 = .ok (.getfield 83, 3) := by decide +kernel
theorem dX10_all_25 : decode cX10_all 25 = .ok (.sipush 8525, 3) := by decide +kernel
theorem dX10_all_28 : decode cX10_all 28 = .ok (.invokevirtual 321, 3) := by decide +kernel
theorem dX10_all_31 : decode cX10_all 31 = .ok (.aload_n 0, 1) := by decide +kernel
theorem dX10_all_32 : decode cX10_all 32 = .ok (.getfield 83, 3) := by decide +kernel
theorem dX10_all_35 : decode cX10_all 35 = .ok (.invokevirtual 324, 3) := by decide +kernel
theorem dX10_all_38 : decode cX10_all 38 = .ok (.istore_n 1, 1) := by decide +kernel
theorem dX10_all_39 : decode cX10_all 39 = .ok (.aload_n 0, 1) := by decide +kernel
theorem dX10_all_40 : decode cX10_all 40 = .ok (.getfield 10, 3) := by decide +kernel
theorem dX10_all_43 : decode cX10_all 43 = .ok (.aload_n 0, 1) := by decide +kernel
theorem dX10_all_44 : decode cX10_all 44 = .ok (.getfield 83, 3) := by decide +kernel
theorem dX10_all_47 : decode cX10_all 47 = .ok (.iload_n 1, 1) := by decide +kernel
theorem dX10_all_48 : decode cX10_all 48 = .ok (.iconst 1, 1) := by decide +kernel
theorem dX10_all_49 : decode cX10_all 49 = .ok (.isub, 1) := by decide +kernel
theorem dX10_all_50 : decode cX10_all 50 = .ok (.invokevirtual 307, 3) := by decide +kernel
theorem dX10_all_53 : decode cX10_all 53 = .ok (.invokevirtual 131, 3) := by decide +kernel
theorem dX10_all_56 : decode cX10_all 56 = .ok (.pop, 1) := by decide +kernel
theorem dX10_all_57 : decode cX10_all 57 = .ok (.iload_n 1, 1) := by decide +kernel
theorem dX10_all_58 : decode cX10_all 58 = .ok (.ireturn, 1) := by decide +kernel
theorem dX10_till_0 : decode cX10_till 0 = .ok (.aload_n 0, 1) := by decide +kernel
theorem dX10_till_1 : decode cX10_till 1 = .ok (.getfield 40, 3) := by decide +kernel
theorem dX10_till_4 : decode cX10_till 4 = .ok (.iload_n 1, 1) := by decide +kernel
theorem dX10_till_5 : decode cX10_till 5 = .ok (.invokevirtual 218, 3) := by decide +kernel
theorem dX10_till_8 : decode cX10_till 8 = .ok (.ifCond .ne 5, 3) := by decide +kernel
theorem dX10_till_11 : decode cX10_till 11 = .ok (.iconst (-1), 1) := by decide +kernel
theorem dX10_till_12 : decode cX10_till 12 = .ok (.ireturn, 1) := by decide +kernel
theorem dX10_till_13 : decode cX10_till 13 = .ok (.aload_n 0, 1) := by decide +kernel
theorem dX10_till_14 : decode cX10_till 14 = .ok (.getfield 83, 3) := by decide +kernel
theorem dX10_till_17 : decode cX10_till 17 = .ok (.aload_n 0, 1) := by decide +kernel
theorem dX10_till_18 : decode cX10_till 18 = .ok (.getfield 49, 3) := by decide +kernel
theorem dX10_till_21 : decode cX10_till 21 = .ok (.invokevirtual 274, 3) := by decide +kernel
theorem dX10_till_24 : decode cX10_till 24 = .ok (.aload_n 0, 1) := by decide +kernel
theorem dX10_till_25 : decode cX10_till 25 = .ok (.getfield 49, 3) := by decide +kernel
theorem dX10_till_28 : decode cX10_till 28 = .ok (.getfield 231, 3) := by decide +kernel
theorem dX10_till_31 : decode cX10_till 31 = .ok (.invokevirtual 310, 3) := by decide +kernel
theorem dX10_till_34 : decode cX10_till 34 = .ok (.aload_n 0, 1) := by decide +kernel
theorem dX10_till_35 : decode cX10_till 35 = .ok (.getfield 83, 3) := by decide +kernel
theorem dX10_till_38 : decode cX10_till 38 = .ok (.iload_n 1, 1) := by decide +kernel
theorem dX10_till_39 : decode cX10_till 39 = .ok (.invokevirtual 327, 3) := by decide +kernel
theorem dX10_till_42 : decode cX10_till 42 = .ok (.istore_n 2, 1) := by decide +kernel
theorem dX10_till_43 : decode cX10_till 43 = .ok (.iload_n 2, 1) := by decide +kernel
theorem dX10_till_44 : decode cX10_till 44 = .ok (.bipush (-9), 2) := by decide +kernel
theorem dX10_till_46 : decode cX10_till 46 = .ok (.if_icmp .ne 8, 3) := by decide +kernel
theorem dX10_till_49 : decode cX10_till 49 = .ok (.bipush (-9), 2) := by decide +kernel
theorem dX10_till_51 : decode cX10_till 51 = .ok (.goto 11, 3) := by decide +kernel
theorem dX10_till_54 : decode cX10_till 54 = .ok (.aload_n 0, 1) := by decide +kernel
theorem dX10_till_55 : decode cX10_till 55 = .ok (.getfield 83, 3) := by decide +kernel
theorem dX10_till_58 : decode cX10_till 58 = .ok (.iload_n 2, 1) := by decide +kernel
theorem dX10_till_59 : decode cX10_till 59 = .ok (.invokevirtual 307, 3) := by decide +kernel
theorem dX10_till_62 : decode cX10_till 62 = .ok (.ireturn, 1) := by decide +kernel
theorem dX10_most_0 : decode cX10_most 0 = .ok (.iload_n 1, 1) := by decide +kernel
theorem dX10_most_1 : decode cX10_most 1 = .ok (.ifCond .lt 8, 3) := by decide +kernel
theorem dX10_most_4 : decode cX10_most 4 = .ok (.iload_n 1, 1) := by decide +kernel
theorem dX10_most_5 : decode cX10_most 5 = .ok (.iconst 2, 1) := by decide +kernel
theorem dX10_most_6 : decode cX10_most 6 = .ok (.if_icmp .le 5, 3) := by decide +kernel
theorem dX10_most_9 : decode cX10_most 9 = .ok (.iconst (-1), 1) := by decide +kernel
theorem dX10_most_10 : decode cX10_most 10 = .ok (.ireturn, 1) := by decide +kernel
theorem dX10_most_11 : decode cX10_most 11 = .ok (.aload_n 0, 1) := by decide +kernel
theorem dX10_most_12 : decode cX10_most 12 = .ok (.getfield 10, 3) := by decide +kernel
theorem dX10_most_15 : decode cX10_most 15 = .ok (.aload_n 0, 1) := by decide +kernel
theorem dX10_most_16 : decode cX10_most 16 = .ok (.getfield 40, 3) := by decide +kernel
theorem dX10_most_19 : decode cX10_most 19 = .ok (.invokevirtual 330, 3) := by decide +kernel
theorem dX10_most_22 : decode cX10_most 22 = .ok (.invokevirtual 131, 3) := by decide +kernel
theorem dX10_most_25 : decode cX10_most 25 = .ok (.pop, 1) := by decide +kernel
theorem dX10_most_26 : decode cX10_most 26 = .ok (.aload_n 0, 1) := by decide +kernel
theorem dX10_most_27 : decode cX10_most 27 = .ok (.getfield 92, 3) := by decide +kernel
theorem dX10_most_30 : decode cX10_most 30 = .ok (.aload_n 0, 1) := by decide +kernel
theorem dX10_most_31 : decode cX10_most 31 = .ok (.getfield 49, 3) := by decide +kernel
theorem dX10_most_34 : decode cX10_most 34 = .ok (.invokevirtual 274, 3) := by decide +kernel
theorem dX10_most_37 : decode cX10_most 37 = .ok (.aload_n 0, 1) := by decide +kernel
theorem dX10_most_38 : decode cX10_most 38 = .ok (.getfield 49, 3) := by decide +kernel
theorem dX10_most_41 : decode cX10_most 41 = .ok (.getfield 231, 3) := by decide +kernel
theorem dX10_most_44 : decode cX10_most 44 = .ok (.iload_n 1, 1) := by decide +kernel
theorem dX10_most_45 : decode cX10_most 45 = .ok (.invokevirtual 333, 3) := by decide +kernel
theorem dX10_most_48 : decode cX10_most 48 = .ok (.ireturn, 1) := by decide +kernel
theorem dX10_hand_0 : decode cX10_hand 0 = .ok (.iload_n 1, 1) := by decide +kernel
theorem dX10_hand_1 : decode cX10_hand 1 = .ok (.ifCond .lt 8, 3) := by decide +kernel
theorem dX10_hand_4 : decode cX10_hand 4 = .ok (.iload_n 1, 1) := by decide +kernel
theorem dX10_hand_5 : decode cX10_hand 5 = .ok (.iconst 2, 1) := by decide +kernel
theorem dX10_hand_6 : decode cX10_hand 6 = .ok (.if_icmp .le 5, 3) := by decide +kernel
theorem dX10_hand_9 : decode cX10_hand 9 = .ok (.iconst (-1), 1) := by decide +kernel
theorem dX10_hand_10 : decode cX10_hand 10 = .ok (.ireturn, 1) := by decide +kernel
theorem dX10_hand_11 : decode cX10_hand 11 = .ok (.aload_n 0, 1) := by decide +kernel
theorem dX10_hand_12 : decode cX10_hand 12 = .ok (.getfield 49, 3) := by decide +kernel
theorem dX10_hand_15 : decode cX10_hand 15 = .ok (.getfield 231, 3) := by decide +kernel
theorem dX10_hand_18 : decode cX10_hand 18 = .ok (.bipush 6, 2) := by decide +kernel
theorem dX10_hand_20 : decode cX10_hand 20 = .ok (.if_icmp .lt 5, 3) := by decide +kernel
theorem dX10_hand_23 : decode cX10_hand 23 = .ok (.iconst 0, 1) := by decide +kernel
theorem dX10_hand_24 : decode cX10_hand 24 = .ok (.ireturn, 1) := by decide +kernel
theorem dX10_hand_25 : decode cX10_hand 25 = .ok (.aload_n 0, 1) := by decide +kernel
theorem dX10_hand_26 : decode cX10_hand 26 = .ok (.getfield 92, 3) := by decide +kernel
theorem dX10_hand_29 : decode cX10_hand 29 = .ok (.aload_n 0, 1) := by decide +kernel
theorem dX10_hand_30 : decode cX10_hand 30 = .ok (.getfield 49, 3) := by decide +kernel
theorem dX10_hand_33 : decode cX10_hand 33 = .ok (.invokevirtual 274, 3) := by decide +kernel
theorem dX10_hand_36 : decode cX10_hand 36 = .ok (.aload_n 0, 1) := by decide +kernel
theorem dX10_hand_37 : decode cX10_hand 37 = .ok (.getfield 49, 3) := by decide +kernel
theorem dX10_hand_40 : decode cX10_hand 40 = .ok (.getfield 231, 3) := by decide +kernel
theorem dX10_hand_43 : decode cX10_hand 43 = .ok (.iload_n 1, 1) := by decide +kernel
theorem dX10_hand_44 : decode cX10_hand 44 = .ok (.invokevirtual 333, 3) := by decide +kernel
theorem dX10_hand_47 : decode cX10_hand 47 = .ok (.istore_n 2, 1) := by decide +kernel
theorem dX10_hand_48 : decode cX10_hand 48 = .ok (.aload_n 0, 1) := by decide +kernel
theorem dX10_hand_49 : decode cX10_hand 49 = .ok (.getfield 92, 3) := by decide +kernel
theorem dX10_hand_52 : decode cX10_hand 52 = .ok (.aload_n 0, 1) := by decide +kernel
theorem dX10_hand_53 : decode cX10_hand 53 = .ok (.getfield 49, 3) := by decide +kernel
theorem dX10_hand_56 : decode cX10_hand 56 = .ok (.invokevirtual 274, 3) := by decide +kernel
theorem dX10_hand_59 : decode cX10_hand 59 = .ok (.aload_n 0, 1) := by decide +kernel
theorem dX10_hand_60 : decode cX10_hand 60 = .ok (.getfield 49, 3) := by decide +kernel
theorem dX10_hand_63 : decode cX10_hand 63 = .ok (.getfield 231, 3) := by decide +kernel
theorem dX10_hand_66 : decode cX10_hand 66 = .ok (.iconst 1, 1) := by decide +kernel
theorem dX10_hand_67 : decode cX10_hand 67 = .ok (.iadd, 1) := by decide +kernel
theorem dX10_hand_68 : decode cX10_hand 68 = .ok (.iload_n 1, 1) := by decide +kernel
theorem dX10_hand_69 : decode cX10_hand 69 = .ok (.invokevirtual 333, 3) := by decide +kernel
theorem dX10_hand_72 : decode cX10_hand 72 = .ok (.iload_n 2, 1) := by decide +kernel
theorem dX10_hand_73 : decode cX10_hand 73 = .ok (.isub, 1) := by decide +kernel
theorem dX10_hand_74 : decode cX10_hand 74 = .ok (.ireturn, 1) := by decide +kernel
theorem dX10_creed_0 : decode cX10_creed 0 = .ok (.iload_n 1, 1) := by decide +kernel
theorem dX10_creed_1 : decode cX10_creed 1 = .ok (.iconst 1, 1) := by decide +kernel
theorem dX10_creed_2 : decode cX10_creed 2 = .ok (.if_icmp .lt 18, 3) := by decide +kernel
theorem dX10_creed_5 : decode cX10_creed 5 = .ok (.iload_n 1, 1) := by decide +kernel
theorem dX10_creed_6 : decode cX10_creed 6 = .ok (.bipush 6, 2) := by decide +kernel
theorem dX10_creed_8 : decode cX10_creed 8 = .ok (.if_icmp .gt 12, 3) := by decide +kernel
theorem dX10_creed_11 : decode cX10_creed 11 = .ok (.iload_n 2, 1) := by decide +kernel
theorem dX10_creed_12 : decode cX10_creed 12 = .ok (.ifCond .lt 8, 3) := by decide +kernel
theorem dX10_creed_15 : decode cX10_creed 15 = .ok (.iload_n 2, 1) := by decide +kernel
theorem dX10_creed_16 : decode cX10_creed 16 = .ok (.iconst 2, 1) := by decide +kernel
theorem dX10_creed_17 : decode cX10_creed 17 = .ok (.if_icmp .le 5, 3) := by decide +kernel
theorem dX10_creed_20 : decode cX10_creed 20 = .ok (.iconst (-1), 1) := by decide +kernel
theorem dX10_creed_21 : decode cX10_creed 21 = .ok (.ireturn, 1) := by decide +kernel
theorem dX10_creed_22 : decode cX10_creed 22 = .ok (.aload_n 0, 1) := by decide +kernel
theorem dX10_creed_23 : decode cX10_creed 23 = .ok (.getfield 49, 3) := by decide +kernel
theorem dX10_creed_26 : decode cX10_creed 26 = .ok (.invokevirtual 227, 3) := by decide +kernel
theorem dX10_creed_29 : decode cX10_creed 29 = .ok (.iload_n 1, 1) := by decide +kernel
theorem dX10_creed_30 : decode cX10_creed 30 = .ok (.if_icmp .le 6, 3) := by decide +kernel
theorem dX10_creed_33 : decode cX10_creed 33 = .ok (.bipush (-4), 2) := by decide +kernel
theorem dX10_creed_35 : decode cX10_creed 35 = .ok (.ireturn, 1) := by decide +kernel
theorem dX10_creed_36 : decode cX10_creed 36 = .ok (.aload_n 0, 1) := by decide +kernel
theorem dX10_creed_37 : decode cX10_creed 37 = .ok (.getfield 92, 3) := by decide +kernel
theorem dX10_creed_40 : decode cX10_creed 40 = .ok (.aload_n 0, 1) := by decide +kernel
theorem dX10_creed_41 : decode cX10_creed 41 = .ok (.getfield 49, 3) := by decide +kernel
theorem dX10_creed_44 : decode cX10_creed 44 = .ok (.invokevirtual 274, 3) := by decide +kernel
theorem dX10_creed_47 : decode cX10_creed 47 = .ok (.iload_n 1, 1) := by decide +kernel
theorem dX10_creed_48 : decode cX10_creed 48 = .ok (.iload_n 2, 1) := by decide +kernel
theorem dX10_creed_49 : decode cX10_creed 49 = .ok (.invokevirtual 333, 3) := by decide +kernel
theorem dX10_creed_52 : decode cX10_creed 52 = .ok (.ireturn, 1) := by decide +kernel
theorem dX10_theft_0 : decode cX10_theft 0 = .ok (.aload_n 0, 1) := by decide +kernel
theorem dX10_theft_1 : decode cX10_theft 1 = .ok (.getfield 40, 3) := by decide +kernel
theorem dX10_theft_4 : decode cX10_theft 4 = .ok (.iload_n 1, 1) := by decide +kernel
theorem dX10_theft_5 : decode cX10_theft 5 = .ok (.invokevirtual 224, 3) := by decide +kernel
theorem dX10_theft_8 : decode cX10_theft 8 = .ok (.ifCond .eq 14, 3) := by decide +kernel
theorem dX10_theft_11 : decode cX10_theft 11 = .ok (.aload_n 0, 1) := by decide +kernel
theorem dX10_theft_12 : decode cX10_theft 12 = .ok (.getfield 40, 3) := by decide +kernel
theorem dX10_theft_15 : decode cX10_theft 15 = .ok (.iload_n 2, 1) := by decide +kernel
theorem dX10_theft_16 : decode cX10_theft 16 = .ok (.invokevirtual 176, 3) := by decide +kernel
theorem dX10_theft_19 : decode cX10_theft 19 = .ok (.ifCond .ne 5, 3) := by decide +kernel
theorem dX10_theft_22 : decode cX10_theft 22 = .ok (.iconst (-1), 1) := by decide +kernel
theorem dX10_theft_23 : decode cX10_theft 23 = .ok (.ireturn, 1) := by decide +kernel
theorem dX10_theft_24 : decode cX10_theft 24 = .ok (.aload_n 0, 1) := by decide +kernel
theorem dX10_theft_25 : decode cX10_theft 25 = .ok (.getfield 101, 3) := by decide +kernel
theorem dX10_theft_28 : decode cX10_theft 28 = .ok (.aload_n 0, 1) := by decide +kernel
theorem dX10_theft_29 : decode cX10_theft 29 = .ok (.getfield 49, 3) := by decide +kernel
theorem dX10_theft_32 : decode cX10_theft 32 = .ok (.iload_n 1, 1) := by decide +kernel
theorem dX10_theft_33 : decode cX10_theft 33 = .ok (.iload_n 2, 1) := by decide +kernel
theorem dX10_theft_34 : decode cX10_theft 34 = .ok (.invokevirtual 337, 3) := by decide +kernel
theorem dX10_theft_37 : decode cX10_theft 37 = .ok (.ireturn, 1) := by decide +kernel
theorem dX10_thefts_0 : decode cX10_thefts 0 = .ok (.aload_n 0, 1) := by decide +kernel
theorem dX10_thefts_1 : decode cX10_thefts 1 = .ok (.getfield 40, 3) := by decide +kernel
theorem dX10_thefts_4 : decode cX10_thefts 4 = .ok (.iload_n 1, 1) := by decide +kernel
theorem dX10_thefts_5 : decode cX10_thefts 5 = .ok (.invokevirtual 224, 3) := by decide +kernel
theorem dX10_thefts_8 : decode cX10_thefts 8 = .ok (.ifCond .eq 12, 3) := by decide +kernel
theorem dX10_thefts_11 : decode cX10_thefts 11 = .ok (.iload_n 2, 1) := by decide +kernel
theorem dX10_thefts_12 : decode cX10_thefts 12 = .ok (.ifCond .lt 8, 3) := by decide +kernel
theorem dX10_thefts_15 : decode cX10_thefts 15 = .ok (.iload_n 2, 1) := by decide +kernel
theorem dX10_thefts_16 : decode cX10_thefts 16 = .ok (.iconst 3, 1) := by decide +kernel
theorem dX10_thefts_17 : decode cX10_thefts 17 = .ok (.if_icmp .le 5, 3) := by decide +kernel
theorem dX10_thefts_20 : decode cX10_thefts 20 = .ok (.iconst (-1), 1) := by decide +kernel
theorem dX10_thefts_21 : decode cX10_thefts 21 = .ok (.ireturn, 1) := by decide +kernel
theorem dX10_thefts_22 : decode cX10_thefts 22 = .ok (.aload_n 0, 1) := by decide +kernel
theorem dX10_thefts_23 : decode cX10_thefts 23 = .ok (.getfield 101, 3) := by decide +kernel
theorem dX10_thefts_26 : decode cX10_thefts 26 = .ok (.aload_n 0, 1) := by decide +kernel
theorem dX10_thefts_27 : decode cX10_thefts 27 = .ok (.getfield 49, 3) := by decide +kernel
theorem dX10_thefts_30 : decode cX10_thefts 30 = .ok (.iload_n 1, 1) := by decide +kernel
theorem dX10_thefts_31 : decode cX10_thefts 31 = .ok (.iload_n 2, 1) := by decide +kernel
theorem dX10_thefts_32 : decode cX10_thefts 32 = .ok (.invokevirtual 341, 3) := by decide +kernel
theorem dX10_thefts_35 : decode cX10_thefts 35 = .ok (.ireturn, 1) := by decide +kernel
theorem dX10_drops_0 : decode cX10_drops 0 = .ok (.aload_n 0, 1) := by decide +kernel
theorem dX10_drops_1 : decode cX10_drops 1 = .ok (.getfield 40, 3) := by decide +kernel
theorem dX10_drops_4 : decode cX10_drops 4 = .ok (.iload_n 1, 1) := by decide +kernel
theorem dX10_drops_5 : decode cX10_drops 5 = .ok (.invokevirtual 224, 3) := by decide +kernel
theorem dX10_drops_8 : decode cX10_drops 8 = .ok (.ifCond .eq 19, 3) := by decide +kernel
theorem dX10_drops_11 : decode cX10_drops 11 = .ok (.aload_n 0, 1) := by decide +kernel
theorem dX10_drops_12 : decode cX10_drops 12 = .ok (.getfield 40, 3) := by decide +kernel
theorem dX10_drops_15 : decode cX10_drops 15 = .ok (.iload_n 2, 1) := by decide +kernel
theorem dX10_drops_16 : decode cX10_drops 16 = .ok (.invokevirtual 224, 3) := by decide +kernel
theorem dX10_drops_19 : decode cX10_drops 19 = .ok (.ifCond .eq 8, 3) := by decide +kernel
theorem dX10_drops_22 : decode cX10_drops 22 = .ok (.iload_n 1, 1) := by decide +kernel
theorem dX10_drops_23 : decode cX10_drops 23 = .ok (.iload_n 2, 1) := by decide +kernel
theorem dX10_drops_24 : decode cX10_drops 24 = .ok (.if_icmp .ne 5, 3) := by decide +kernel
theorem dX10_drops_27 : decode cX10_drops 27 = .ok (.iconst (-1), 1) := by decide +kernel
theorem dX10_drops_28 : decode cX10_drops 28 = .ok (.ireturn, 1) := by decide +kernel
theorem dX10_drops_29 : decode cX10_drops 29 = .ok (.iconst 0, 1) := by decide +kernel
theorem dX10_drops_30 : decode cX10_drops 30 = .ok (.istore_n 3, 1) := by decide +kernel
theorem dX10_drops_31 : decode cX10_drops 31 = .ok (.bipush (-9), 2) := by decide +kernel
theorem dX10_drops_33 : decode cX10_drops 33 = .ok (.istore 4, 2) := by decide +kernel
theorem dX10_drops_35 : decode cX10_drops 35 = .ok (.iconst 0, 1) := by decide +kernel
theorem dX10_drops_36 : decode cX10_drops 36 = .ok (.istore 5, 2) := by decide +kernel
theorem dX10_drops_38 : decode cX10_drops 38 = .ok (.iload 5, 2) := by decide +kernel
theorem dX10_drops_40 : decode cX10_drops 40 = .ok (.aload_n 0, 1) := by decide +kernel
theorem dX10_drops_41 : decode cX10_drops 41 = .ok (.getfield 40, 3) := by decide +kernel
theorem dX10_drops_44 : decode cX10_drops 44 = .ok (.getfield 173, 3) := by decide +kernel
theorem dX10_drops_47 : decode cX10_drops 47 = .ok (.if_icmp .ge 64, 3) := by decide +kernel
theorem dX10_drops_50 : decode cX10_drops 50 = .ok (.aload_n 0, 1) := by decide +kernel
theorem dX10_drops_51 : decode cX10_drops 51 = .ok (.getfield 49, 3) := by decide +kernel
theorem dX10_drops_54 : decode cX10_drops 54 = .ok (.getfield 185, 3) := by decide +kernel
theorem dX10_drops_57 : decode cX10_drops 57 = .ok (.iload 5, 2) := by decide +kernel
theorem dX10_drops_59 : decode cX10_drops 59 = .ok (.iaload, 1) := by decide +kernel
theorem dX10_drops_60 : decode cX10_drops 60 = .ok (.iload_n 1, 1) := by decide +kernel
theorem dX10_drops_61 : decode cX10_drops 61 = .ok (.if_icmp .eq 6, 3) := by decide +kernel
theorem dX10_drops_64 : decode cX10_drops 64 = .ok (.goto 41, 3) := by decide +kernel
theorem dX10_drops_67 : decode cX10_drops 67 = .ok (.aload_n 0, 1) := by decide +kernel
theorem dX10_drops_68 : decode cX10_drops 68 = .ok (.getfield 49, 3) := by decide +kernel
theorem dX10_drops_71 : decode cX10_drops 71 = .ok (.iload 5, 2) := by decide +kernel
theorem dX10_drops_73 : decode cX10_drops 73 = .ok (.iload_n 2, 1) := by decide +kernel
theorem dX10_drops_74 : decode cX10_drops 74 = .ok (.invokevirtual 344, 3) := by decide +kernel
theorem dX10_drops_77 : decode cX10_drops 77 = .ok (.istore 6, 2) := by decide +kernel
theorem dX10_drops_79 : decode cX10_drops 79 = .ok (.iload 6, 2) := by decide +kernel
theorem dX10_drops_81 : decode cX10_drops 81 = .ok (.bipush (-9), 2) := by decide +kernel
theorem dX10_drops_83 : decode cX10_drops 83 = .ok (.if_icmp .eq 22, 3) := by decide +kernel
theorem dX10_drops_86 : decode cX10_drops 86 = .ok (.iload 6, 2) := by decide +kernel
theorem dX10_drops_88 : decode cX10_drops 88 = .ok (.invokestatic 213, 3) := by decide +kernel
theorem dX10_drops_91 : decode cX10_drops 91 = .ok (.iload_n 3, 1) := by decide +kernel
theorem dX10_drops_92 : decode cX10_drops 92 = .ok (.invokestatic 213, 3) := by decide +kernel
theorem dX10_drops_95 : decode cX10_drops 95 = .ok (.if_icmp .le 10, 3) := by decide +kernel
theorem dX10_drops_98 : decode cX10_drops 98 = .ok (.iload 6, 2) := by decide +kernel
theorem dX10_drops_100 : decode cX10_drops 100 = .ok (.istore_n 3, 1) := by decide +kernel
theorem dX10_drops_101 : decode cX10_drops 101 = .ok (.iload 5, 2) := by decide +kernel
theorem dX10_drops_103 : decode cX10_drops 103 = .ok (.istore 4, 2) := by decide +kernel
theorem dX10_drops_105 : decode cX10_drops 105 = .ok (.iinc 5 1, 3) := by decide +kernel
theorem dX10_drops_108 : decode cX10_drops 108 = .ok (.goto (-70), 3) := by decide +kernel
theorem dX10_drops_111 : decode cX10_drops 111 = .ok (.aload_n 0, 1) := by decide +kernel
theorem dX10_drops_112 : decode cX10_drops 112 = .ok (.getfield 10, 3) := by decide +kernel
theorem dX10_drops_115 : decode cX10_drops 115 = .ok (.iload 4, 2) := by decide +kernel
theorem dX10_drops_117 : decode cX10_drops 117 = .ok (.invokevirtual 131, 3) := by decide +kernel
theorem dX10_drops_120 : decode cX10_drops 120 = .ok (.pop, 1) := by decide +kernel
theorem dX10_drops_121 : decode cX10_drops 121 = .ok (.iload_n 3, 1) := by decide +kernel
theorem dX10_drops_122 : decode cX10_drops 122 = .ok (.ireturn, 1) := by decide +kernel
theorem dX10_beside_0 : decode cX10_beside 0 = .ok (.aload_n 0, 1) := by decide +kernel
theorem dX10_beside_1 : decode cX10_beside 1 = .ok (.getfield 40, 3) := by decide +kernel
theorem dX10_beside_4 : decode cX10_beside 4 = .ok (.iload_n 1, 1) := by decide +kernel
theorem dX10_beside_5 : decode cX10_beside 5 = .ok (.invokevirtual 224, 3) := by decide +kernel
theorem dX10_beside_8 : decode cX10_beside 8 = .ok (.ifCond .eq 19, 3) := by decide +kernel
theorem dX10_beside_11 : decode cX10_beside 11 = .ok (.aload_n 0, 1) := by decide +kernel
theorem dX10_beside_12 : decode cX10_beside 12 = .ok (.getfield 40, 3) := by decide +kernel
theorem dX10_beside_15 : decode cX10_beside 15 = .ok (.iload_n 2, 1) := by decide +kernel
theorem dX10_beside_16 : decode cX10_beside 16 = .ok (.invokevirtual 224, 3) := by decide +kernel
theorem dX10_beside_19 : decode cX10_beside 19 = .ok (.ifCond .eq 8, 3) := by decide +kernel
theorem dX10_beside_22 : decode cX10_beside 22 = .ok (.iload_n 1, 1) := by decide +kernel
theorem dX10_beside_23 : decode cX10_beside 23 = .ok (.iload_n 2, 1) := by decide +kernel
theorem dX10_beside_24 : decode cX10_beside 24 = .ok (.if_icmp .ne 5, 3) := by decide +kernel
theorem dX10_beside_27 : decode cX10_beside 27 = .ok (.iconst (-1), 1) := by decide +kernel
theorem dX10_beside_28 : decode cX10_beside 28 = .ok (.ireturn, 1) := by decide +kernel
theorem dX10_beside_29 : decode cX10_beside 29 = .ok (.aload_n 0, 1) := by decide +kernel
theorem dX10_beside_30 : decode cX10_beside 30 = .ok (.iload_n 1, 1) := by decide +kernel
theorem dX10_beside_31 : decode cX10_beside 31 = .ok (.iload_n 2, 1) := by decide +kernel
theorem dX10_beside_32 : decode cX10_beside 32 = .ok (.invokevirtual 347, 3) := by decide +kernel
theorem dX10_beside_35 : decode cX10_beside 35 = .ok (.ireturn, 1) := by decide +kernel
theorem dX10_needs_0 : decode cX10_needs 0 = .ok (.aload_n 0, 1) := by decide +kernel
theorem dX10_needs_1 : decode cX10_needs 1 = .ok (.getfield 40, 3) := by decide +kernel
theorem dX10_needs_4 : decode cX10_needs 4 = .ok (.iload_n 1, 1) := by decide +kernel
theorem dX10_needs_5 : decode cX10_needs 5 = .ok (.invokevirtual 350, 3) := by decide +kernel
theorem dX10_needs_8 : decode cX10_needs 8 = .ok (.aload_n 0, 1) := by decide +kernel
theorem dX10_needs_9 : decode cX10_needs 9 = .ok (.getfield 49, 3) := by decide +kernel
theorem dX10_needs_12 : decode cX10_needs 12 = .ok (.iload_n 2, 1) := by decide +kernel
theorem dX10_needs_13 : decode cX10_needs 13 = .ok (.invokevirtual 210, 3) := by decide +kernel
theorem dX10_needs_16 : decode cX10_needs 16 = .ok (.iand, 1) := by decide +kernel
theorem dX10_needs_17 : decode cX10_needs 17 = .ok (.istore_n 3, 1) := by decide +kernel
theorem dX10_needs_18 : decode cX10_needs 18 = .ok (.aload_n 0, 1) := by decide +kernel
theorem dX10_needs_19 : decode cX10_needs 19 = .ok (.getfield 40, 3) := by decide +kernel
theorem dX10_needs_22 : decode cX10_needs 22 = .ok (.iload_n 2, 1) := by decide +kernel
theorem dX10_needs_23 : decode cX10_needs 23 = .ok (.invokevirtual 350, 3) := by decide +kernel
theorem dX10_needs_26 : decode cX10_needs 26 = .ok (.aload_n 0, 1) := by decide +kernel
theorem dX10_needs_27 : decode cX10_needs 27 = .ok (.getfield 49, 3) := by decide +kernel
theorem dX10_needs_30 : decode cX10_needs 30 = .ok (.iload_n 1, 1) := by decide +kernel
theorem dX10_needs_31 : decode cX10_needs 31 = .ok (.invokevirtual 210, 3) := by decide +kernel
theorem dX10_needs_34 : decode cX10_needs 34 = .ok (.iand, 1) := by decide +kernel
theorem dX10_needs_35 : decode cX10_needs 35 = .ok (.istore 4, 2) := by decide +kernel
theorem dX10_needs_37 : decode cX10_needs 37 = .ok (.iload_n 3, 1) := by decide +kernel
theorem dX10_needs_38 : decode cX10_needs 38 = .ok (.invokestatic 213, 3) := by decide +kernel
theorem dX10_needs_41 : decode cX10_needs 41 = .ok (.iload 4, 2) := by decide +kernel
theorem dX10_needs_43 : decode cX10_needs 43 = .ok (.invokestatic 213, 3) := by decide +kernel
theorem dX10_needs_46 : decode cX10_needs 46 = .ok (.iadd, 1) := by decide +kernel
theorem dX10_needs_47 : decode cX10_needs 47 = .ok (.ireturn, 1) := by decide +kernel
theorem dX10_pair_0 : decode cX10_pair 0 = .ok (.aload_n 0, 1) := by decide +kernel
theorem dX10_pair_1 : decode cX10_pair 1 = .ok (.getfield 40, 3) := by decide +kernel
theorem dX10_pair_4 : decode cX10_pair 4 = .ok (.getfield 271, 3) := by decide +kernel
theorem dX10_pair_7 : decode cX10_pair 7 = .ok (.istore_n 1, 1) := by decide +kernel
theorem dX10_pair_8 : decode cX10_pair 8 = .ok (.iload_n 1, 1) := by decide +kernel
theorem dX10_pair_9 : decode cX10_pair 9 = .ok (.ifCond .ne 6, 3) := by decide +kernel
theorem dX10_pair_12 : decode cX10_pair 12 = .ok (.bipush (-4), 2) := by decide +kernel
theorem dX10_pair_14 : decode cX10_pair 14 = .ok (.ireturn, 1) := by decide +kernel
theorem dX10_pair_15 : decode cX10_pair 15 = .ok (.bipush (-9), 2) := by decide +kernel
theorem dX10_pair_17 : decode cX10_pair 17 = .ok (.istore_n 2, 1) := by decide +kernel
theorem dX10_pair_18 : decode cX10_pair 18 = .ok (.iconst (-1), 1) := by decide +kernel
theorem dX10_pair_19 : decode cX10_pair 19 = .ok (.istore_n 3, 1) := by decide +kernel
theorem dX10_pair_20 : decode cX10_pair 20 = .ok (.iconst 1, 1) := by decide +kernel
theorem dX10_pair_21 : decode cX10_pair 21 = .ok (.istore 4, 2) := by decide +kernel
theorem dX10_pair_23 : decode cX10_pair 23 = .ok (.iload 4, 2) := by decide +kernel
theorem dX10_pair_25 : decode cX10_pair 25 = .ok (.iload_n 1, 1) := by decide +kernel
theorem dX10_pair_26 : decode cX10_pair 26 = .ok (.if_icmp .ge 67, 3) := by decide +kernel
theorem dX10_pair_29 : decode cX10_pair 29 = .ok (.iload 4, 2) := by decide +kernel
theorem dX10_pair_31 : decode cX10_pair 31 = .ok (.iconst 1, 1) := by decide +kernel
theorem dX10_pair_32 : decode cX10_pair 32 = .ok (.if_icmp .ne 7, 3) := by decide +kernel
theorem dX10_pair_35 : decode cX10_pair 35 = .ok (.iconst 2, 1) := by decide +kernel
theorem dX10_pair_36 : decode cX10_pair 36 = .ok (.goto 4, 3) := by decide +kernel
theorem dX10_pair_39 : decode cX10_pair 39 = .ok (.iconst 1, 1) := by decide +kernel
theorem dX10_pair_40 : decode cX10_pair 40 = .ok (.istore 5, 2) := by decide +kernel
theorem dX10_pair_42 : decode cX10_pair 42 = .ok (.aload_n 0, 1) := by decide +kernel
theorem dX10_pair_43 : decode cX10_pair 43 = .ok (.iconst 0, 1) := by decide +kernel
theorem dX10_pair_44 : decode cX10_pair 44 = .ok (.iload 4, 2) := by decide +kernel
theorem dX10_pair_46 : decode cX10_pair 46 = .ok (.invokevirtual 347, 3) := by decide +kernel
theorem dX10_pair_49 : decode cX10_pair 49 = .ok (.iload_n 1, 1) := by decide +kernel
theorem dX10_pair_50 : decode cX10_pair 50 = .ok (.iconst 4, 1) := by decide +kernel

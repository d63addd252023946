theorem dX10_worksOfDay_94 : decode cX10_worksOfDay 94 = .ok (.iload 8, 2) := by decide +kernel
theorem dX10_worksOfDay_96 : decode cX10_worksOfDay 96 = .ok (.invokevirtual 250, 3) := by decide +kernel
theorem dX10_worksOfDay_99 : decode cX10_worksOfDay 99 = .ok (.iinc 5 1, 3) := by decide +kernel
theorem dX10_worksOfDay_102 : decode cX10_worksOfDay 102 = .ok (.goto (-73), 3) := by decide +kernel
theorem dX10_worksOfDay_105 : decode cX10_worksOfDay 105 = .ok (.iload_n 3, 1) := by decide +kernel
theorem dX10_worksOfDay_106 : decode cX10_worksOfDay 106 = .ok (.aload_n 0, 1) := by decide +kernel
theorem dX10_worksOfDay_107 : decode cX10_worksOfDay 107 = .ok (.getfield 53, 3) := by decide +kernel
theorem dX10_worksOfDay_110 : decode cX10_worksOfDay 110 = .ok (.invokevirtual 283, 3) := by decide +kernel
theorem dX10_worksOfDay_113 : decode cX10_worksOfDay 113 = .ok (.aload_n 0, 1) := by decide +kernel
theorem dX10_worksOfDay_114 : decode cX10_worksOfDay 114 = .ok (.getfield 40, 3) := by decide +kernel
theorem dX10_worksOfDay_117 : decode cX10_worksOfDay 117 = .ok (.getfield 295, 3) := by decide +kernel
theorem dX10_worksOfDay_120 : decode cX10_worksOfDay 120 = .ok (.iload 4, 2) := by decide +kernel
theorem dX10_worksOfDay_122 : decode cX10_worksOfDay 122 = .ok (.iaload, 1) := by decide +kernel
theorem dX10_worksOfDay_123 : decode cX10_worksOfDay 123 = .ok (.iand, 1) := by decide +kernel
theorem dX10_worksOfDay_124 : decode cX10_worksOfDay 124 = .ok (.ior, 1) := by decide +kernel
theorem dX10_worksOfDay_125 : decode cX10_worksOfDay 125 = .ok (.istore_n 3, 1) := by decide +kernel
theorem dX10_worksOfDay_126 : decode cX10_worksOfDay 126 = .ok (.iinc 4 1, 3) := by decide +kernel
theorem dX10_worksOfDay_129 : decode cX10_worksOfDay 129 = .ok (.goto (-113), 3) := by decide +kernel
theorem dX10_worksOfDay_132 : decode cX10_worksOfDay 132 = .ok (.iload_n 3, 1) := by decide +kernel
theorem dX10_worksOfDay_133 : decode cX10_worksOfDay 133 = .ok (.ireturn, 1) := by decide +kernel
theorem dX10_fewest_0 : decode cX10_fewest 0 = .ok (.aload_n 0, 1) := by decide +kernel
theorem dX10_fewest_1 : decode cX10_fewest 1 = .ok (.iload_n 1, 1) := by decide +kernel
theorem dX10_fewest_2 : decode cX10_fewest 2 = .ok (.invokevirtual 298, 3) := by decide +kernel
theorem dX10_fewest_5 : decode cX10_fewest 5 = .ok (.istore_n 2, 1) := by decide +kernel
theorem dX10_fewest_6 : decode cX10_fewest 6 = .ok (.iload_n 2, 1) := by decide +kernel
theorem dX10_fewest_7 : decode cX10_fewest 7 = .ok (.ifCond .eq 5, 3) := by decide +kernel
theorem dX10_fewest_10 : decode cX10_fewest 10 = .ok (.iload_n 2, 1) := by decide +kernel
theorem dX10_fewest_11 : decode cX10_fewest 11 = .ok (.ireturn, 1) := by decide +kernel
theorem dX10_fewest_12 : decode cX10_fewest 12 = .ok (.aload_n 0, 1) := by decide +kernel
theorem dX10_fewest_13 : decode cX10_fewest 13 = .ok (.getfield 83, 3) := by decide +kernel
theorem dX10_fewest_16 : decode cX10_fewest 16 = .ok (.invokevirtual 301, 3) := by decide +kernel
theorem dX10_fewest_19 : decode cX10_fewest 19 = .ok (.istore_n 3, 1) := by decide +kernel
theorem dX10_fewest_20 : decode cX10_fewest 20 = .ok (.iload_n 3, 1) := by decide +kernel
theorem dX10_fewest_21 : decode cX10_fewest 21 = .ok (.bipush (-9), 2) := by decide +kernel
theorem dX10_fewest_23 : decode cX10_fewest 23 = .ok (.if_icmp .ne 6, 3) := by decide +kernel
theorem dX10_fewest_26 : decode cX10_fewest 26 = .ok (.bipush (-9), 2) := by decide +kernel
theorem dX10_fewest_28 : decode cX10_fewest 28 = .ok (.ireturn, 1) := by decide +kernel
theorem dX10_fewest_29 : decode cX10_fewest 29 = .ok (.aload_n 0, 1) := by decide +kernel
theorem dX10_fewest_30 : decode cX10_fewest 30 = .ok (.getfield 10, 3) := by decide +kernel
theorem dX10_fewest_33 : decode cX10_fewest 33 = .ok (.aload_n 0, 1) := by decide +kernel
theorem dX10_fewest_34 : decode cX10_fewest 34 = .ok (.getfield 83, 3) := by decide +kernel
theorem dX10_fewest_37 : decode cX10_fewest 37 = .ok (.iload_n 3, 1) := by decide +kernel
theorem dX10_fewest_38 : decode cX10_fewest 38 = .ok (.invokevirtual 304, 3) := by decide +kernel
theorem dX10_fewest_41 : decode cX10_fewest 41 = .ok (.invokevirtual 131, 3) := by decide +kernel
theorem dX10_fewest_44 : decode cX10_fewest 44 = .ok (.pop, 1) := by decide +kernel
theorem dX10_fewest_45 : decode cX10_fewest 45 = .ok (.aload_n 0, 1) := by decide +kernel
theorem dX10_fewest_46 : decode cX10_fewest 46 = .ok (.getfield 83, 3) := by decide +kernel
theorem dX10_fewest_49 : decode cX10_fewest 49 = .ok (.iload_n 3, 1) := by decide +kernel
theorem dX10_fewest_50 : decode cX10_fewest 50 = .ok (.invokevirtual 307, 3) := by decide +kernel
theorem dX10_fewest_53 : decode cX10_fewest 53 = .ok (.ireturn, 1) := by decide +kernel
theorem dX10_wanted_0 : decode cX10_wanted 0 = .ok (.aload_n 0, 1) := by decide +kernel
theorem dX10_wanted_1 : decode cX10_wanted 1 = .ok (.getfield 21, 3) := by decide +kernel
theorem dX10_wanted_4 : decode cX10_wanted 4 = .ok (.iload_n 1, 1) := by decide +kernel
theorem dX10_wanted_5 : decode cX10_wanted 5 = .ok (.invokevirtual 105, 3) := by decide +kernel
theorem dX10_wanted_8 : decode cX10_wanted 8 = .ok (.ifCond .ne 5, 3) := by decide +kernel
theorem dX10_wanted_11 : decode cX10_wanted 11 = .ok (.iconst (-1), 1) := by decide +kernel
theorem dX10_wanted_12 : decode cX10_wanted 12 = .ok (.ireturn, 1) := by decide +kernel
theorem dX10_wanted_13 : decode cX10_wanted 13 = .ok (.aload_n 0, 1) := by decide +kernel
theorem dX10_wanted_14 : decode cX10_wanted 14 = .ok (.getfield 21, 3) := by decide +kernel
theorem dX10_wanted_17 : decode cX10_wanted 17 = .ok (.iload_n 1, 1) := by decide +kernel
theorem dX10_wanted_18 : decode cX10_wanted 18 = .ok (.invokevirtual 117, 3) := by decide +kernel
theorem dX10_wanted_21 : decode cX10_wanted 21 = .ok (.ifCond .eq 12, 3) := by decide +kernel
theorem dX10_wanted_24 : decode cX10_wanted 24 = .ok (.aload_n 0, 1) := by decide +kernel
theorem dX10_wanted_25 : decode cX10_wanted 25 = .ok (.getfield 10, 3) := by decide +kernel
theorem dX10_wanted_28 : decode cX10_wanted 28 = .ok (.iconst 1, 1) := by decide +kernel
theorem dX10_wanted_29 : decode cX10_wanted 29 = .ok (.invokevirtual 109, 3) := by decide +kernel
theorem dX10_wanted_32 : decode cX10_wanted 32 = .ok (.ireturn, 1) := by decide +kernel
theorem dX10_wanted_33 : decode cX10_wanted 33 = .ok (.aload_n 0, 1) := by decide +kernel
theorem dX10_wanted_34 : decode cX10_wanted 34 = .ok (.getfield 21, 3) := by decide +kernel
theorem dX10_wanted_37 : decode cX10_wanted 37 = .ok (.iload_n 1, 1) := by decide +kernel
theorem dX10_wanted_38 : decode cX10_wanted 38 = .ok (.invokevirtual 141, 3) := by decide +kernel
theorem dX10_wanted_41 : decode cX10_wanted 41 = .ok (.aload_n 0, 1) := by decide +kernel
theorem dX10_wanted_42 : decode cX10_wanted 42 = .ok (.getfield 40, 3) := by decide +kernel
theorem dX10_wanted_45 : decode cX10_wanted 45 = .ok (.getfield 173, 3) := by decide +kernel
theorem dX10_wanted_48 : decode cX10_wanted 48 = .ok (.if_icmp .eq 12, 3) := by decide +kernel
theorem dX10_wanted_51 : decode cX10_wanted 51 = .ok (.aload_n 0, 1) := by decide +kernel
theorem dX10_wanted_52 : decode cX10_wanted 52 = .ok (.getfield 10, 3) := by decide +kernel
theorem dX10_wanted_55 : decode cX10_wanted 55 = .ok (.iconst 5, 1) := by decide +kernel
theorem dX10_wanted_56 : decode cX10_wanted 56 = .ok (.invokevirtual 109, 3) := by decide +kernel
theorem dX10_wanted_59 : decode cX10_wanted 59 = .ok (.ireturn, 1) := by decide +kernel
theorem dX10_wanted_60 : decode cX10_wanted 60 = .ok (.iconst 0, 1) := by decide +kernel
theorem dX10_wanted_61 : decode cX10_wanted 61 = .ok (.istore_n 2, 1) := by decide +kernel
theorem dX10_wanted_62 : decode cX10_wanted 62 = .ok (.iload_n 2, 1) := by decide +kernel
theorem dX10_wanted_63 : decode cX10_wanted 63 = .ok (.aload_n 0, 1) := by decide +kernel
theorem dX10_wanted_64 : decode cX10_wanted 64 = .ok (.getfield 40, 3) := by decide +kernel
theorem dX10_wanted_67 : decode cX10_wanted 67 = .ok (.getfield 173, 3) := by decide +kernel
theorem dX10_wanted_70 : decode cX10_wanted 70 = .ok (.if_icmp .ge 49, 3) := by decide +kernel
theorem dX10_wanted_73 : decode cX10_wanted 73 = .ok (.aload_n 0, 1) := by decide +kernel
theorem dX10_wanted_74 : decode cX10_wanted 74 = .ok (.getfield 21, 3) := by decide +kernel
theorem dX10_wanted_77 : decode cX10_wanted 77 = .ok (.iload_n 1, 1) := by decide +kernel
theorem dX10_wanted_78 : decode cX10_wanted 78 = .ok (.iload_n 2, 1) := by decide +kernel
theorem dX10_wanted_79 : decode cX10_wanted 79 = .ok (.invokevirtual 124, 3) := by decide +kernel
theorem dX10_wanted_82 : decode cX10_wanted 82 = .ok (.istore_n 3, 1) := by decide +kernel
theorem dX10_wanted_83 : decode cX10_wanted 83 = .ok (.iload_n 3, 1) := by decide +kernel
theorem dX10_wanted_84 : decode cX10_wanted 84 = .ok (.iconst (-1), 1) := by decide +kernel
theorem dX10_wanted_85 : decode cX10_wanted 85 = .ok (.if_icmp .eq 28, 3) := by decide +kernel
theorem dX10_wanted_88 : decode cX10_wanted 88 = .ok (.iload_n 3, 1) := by decide +kernel
theorem dX10_wanted_89 : decode cX10_wanted 89 = .ok (.iconst 4, 1) := by decide +kernel
theorem dX10_wanted_90 : decode cX10_wanted 90 = .ok (.if_icmp .eq 23, 3) := by decide +kernel
theorem dX10_wanted_93 : decode cX10_wanted 93 = .ok (.aload_n 0, 1) := by decide +kernel
theorem dX10_wanted_94 : decode cX10_wanted 94 = .ok (.getfield 40, 3) := by decide +kernel
theorem dX10_wanted_97 : decode cX10_wanted 97 = .ok (.iload_n 3, 1) := by decide +kernel
theorem dX10_wanted_98 : decode cX10_wanted 98 = .ok (.invokevirtual 224, 3) := by decide +kernel
theorem dX10_wanted_101 : decode cX10_wanted 101 = .ok (.ifCond .ne 12, 3) := by decide +kernel
theorem dX10_wanted_104 : decode cX10_wanted 104 = .ok (.aload_n 0, 1) := by decide +kernel
theorem dX10_wanted_105 : decode cX10_wanted 105 = .ok (.getfield 10, 3) := by decide +kernel
theorem dX10_wanted_108 : decode cX10_wanted 108 = .ok (.iconst 3, 1) := by decide +kernel
theorem dX10_wanted_109 : decode cX10_wanted 109 = .ok (.invokevirtual 109, 3) := by decide +kernel
theorem dX10_wanted_112 : decode cX10_wanted 112 = .ok (.ireturn, 1) := by decide +kernel
theorem dX10_wanted_113 : decode cX10_wanted 113 = .ok (.iinc 2 1, 3) := by decide +kernel
theorem dX10_wanted_116 : decode cX10_wanted 116 = .ok (.goto (-54), 3) := by decide +kernel
theorem dX10_wanted_119 : decode cX10_wanted 119 = .ok (.aload_n 0, 1) := by decide +kernel
theorem dX10_wanted_120 : decode cX10_wanted 120 = .ok (.getfield 83, 3) := by decide +kernel
theorem dX10_wanted_123 : decode cX10_wanted 123 = .ok (.aload_n 0, 1) := by decide +kernel
theorem dX10_wanted_124 : decode cX10_wanted 124 = .ok (.getfield 49, 3) := by decide +kernel
theorem dX10_wanted_127 : decode cX10_wanted 127 = .ok (.invokevirtual 274, 3) := by decide +kernel
theorem dX10_wanted_130 : decode cX10_wanted 130 = .ok (.aload_n 0, 1) := by decide +kernel
theorem dX10_wanted_131 : decode cX10_wanted 131 = .ok (.getfield 49, 3) := by decide +kernel
theorem dX10_wanted_134 : decode cX10_wanted 134 = .ok (.getfield 231, 3) := by decide +kernel
theorem dX10_wanted_137 : decode cX10_wanted 137 = .ok (.invokevirtual 310, 3) := by decide +kernel
theorem dX10_wanted_140 : decode cX10_wanted 140 = .ok (.iconst 0, 1) := by decide +kernel
theorem dX10_wanted_141 : decode cX10_wanted 141 = .ok (.istore_n 2, 1) := by decide +kernel
theorem dX10_wanted_142 : decode cX10_wanted 142 = .ok (.iload_n 2, 1) := by decide +kernel
theorem dX10_wanted_143 : decode cX10_wanted 143 = .ok (.aload_n 0, 1) := by decide +kernel
theorem dX10_wanted_144 : decode cX10_wanted 144 = .ok (.getfield 40, 3) := by decide +kernel
theorem dX10_wanted_147 : decode cX10_wanted 147 = .ok (.getfield 173, 3) := by decide +kernel
theorem dX10_wanted_150 : decode cX10_wanted 150 = .ok (.if_icmp .ge 26, 3) := by decide +kernel
theorem dX10_wanted_153 : decode cX10_wanted 153 = .ok (.aload_n 0, 1) := by decide +kernel
theorem dX10_wanted_154 : decode cX10_wanted 154 = .ok (.getfield 83, 3) := by decide +kernel
theorem dX10_wanted_157 : decode cX10_wanted 157 = .ok (.iload_n 2, 1) := by decide +kernel
theorem dX10_wanted_158 : decode cX10_wanted 158 = .ok (.aload_n 0, 1) := by decide +kernel
theorem dX10_wanted_159 : decode cX10_wanted 159 = .ok (.getfield 21, 3) := by decide +kernel
theorem dX10_wanted_162 : decode cX10_wanted 162 = .ok (.iload_n 1, 1) := by decide +kernel
theorem dX10_wanted_163 : decode cX10_wanted 163 = .ok (.iload_n 2, 1) := by decide +kernel
theorem dX10_wanted_164 : decode cX10_wanted 164 = .ok (.invokevirtual 124, 3) := by decide +kernel
theorem dX10_wanted_167 : decode cX10_wanted 167 = .ok (.invokevirtual 312, 3) := by decide +kernel
theorem dX10_wanted_170 : decode cX10_wanted 170 = .ok (.iinc 2 1, 3) := by decide +kernel
theorem dX10_wanted_173 : decode cX10_wanted 173 = .ok (.goto (-31), 3) := by decide +kernel
theorem dX10_wanted_176 : decode cX10_wanted 176 = .ok (.iconst 0, 1) := by decide +kernel
theorem dX10_wanted_177 : decode cX10_wanted 177 = .ok (.ireturn, 1) := by decide +kernel
theorem dX10_way_0 : decode cX10_way 0 = .ok (.aload_n 0, 1) := by decide +kernel
theorem dX10_way_1 : decode cX10_way 1 = .ok (.getfield 21, 3) := by decide +kernel
theorem dX10_way_4 : decode cX10_way 4 = .ok (.iload_n 1, 1) := by decide +kernel
theorem dX10_way_5 : decode cX10_way 5 = .ok (.invokevirtual 105, 3) := by decide +kernel
theorem dX10_way_8 : decode cX10_way 8 = .ok (.ifCond .eq 14, 3) := by decide +kernel
theorem dX10_way_11 : decode cX10_way 11 = .ok (.aload_n 0, 1) := by decide +kernel
theorem dX10_way_12 : decode cX10_way 12 = .ok (.getfield 21, 3) := by decide +kernel
theorem dX10_way_15 : decode cX10_way 15 = .ok (.iload_n 2, 1) := by decide +kernel
theorem dX10_way_16 : decode cX10_way 16 = .ok (.invokevirtual 105, 3) := by decide +kernel
theorem dX10_way_19 : decode cX10_way 19 = .ok (.ifCond .ne 5, 3) := by decide +kernel
theorem dX10_way_22 : decode cX10_way 22 = .ok (.iconst (-1), 1) := by decide +kernel
theorem dX10_way_23 : decode cX10_way 23 = .ok (.ireturn, 1) := by decide +kernel
theorem dX10_way_24 : decode cX10_way 24 = .ok (.aload_n 0, 1) := by decide +kernel
theorem dX10_way_25 : decode cX10_way 25 = .ok (.iload_n 1, 1) := by decide +kernel
theorem dX10_way_26 : decode cX10_way 26 = .ok (.invokevirtual 298, 3) := by decide +kernel
theorem dX10_way_29 : decode cX10_way 29 = .ok (.istore_n 3, 1) := by decide +kernel
theorem dX10_way_30 : decode cX10_way 30 = .ok (.iload_n 3, 1) := by decide +kernel
theorem dX10_way_31 : decode cX10_way 31 = .ok (.ifCond .eq 5, 3) := by decide +kernel
theorem dX10_way_34 : decode cX10_way 34 = .ok (.iload_n 3, 1) := by decide +kernel
theorem dX10_way_35 : decode cX10_way 35 = .ok (.ireturn, 1) := by decide +kernel
theorem dX10_way_36 : decode cX10_way 36 = .ok (.aload_n 0, 1) := by decide +kernel
theorem dX10_way_37 : decode cX10_way 37 = .ok (.getfield 83, 3) := by decide +kernel
theorem dX10_way_40 : decode cX10_way 40 = .ok (.invokevirtual 301, 3) := by decide +kernel
theorem dX10_way_43 : decode cX10_way 43 = .ok (.istore 4, 2) := by decide +kernel
theorem dX10_way_45 : decode cX10_way 45 = .ok (.iload 4, 2) := by decide +kernel
theorem dX10_way_47 : decode cX10_way 47 = .ok (.bipush (-9), 2) := by decide +kernel
theorem dX10_way_49 : decode cX10_way 49 = .ok (.if_icmp .ne 6, 3) := by decide +kernel
theorem dX10_way_52 : decode cX10_way 52 = .ok (.bipush (-9), 2) := by decide +kernel
theorem dX10_way_54 : decode cX10_way 54 = .ok (.ireturn, 1) := by decide +kernel
theorem dX10_way_55 : decode cX10_way 55 = .ok (.aload_n 0, 1) := by decide +kernel
theorem dX10_way_56 : decode cX10_way 56 = .ok (.getfield 83, 3) := by decide +kernel
theorem dX10_way_59 : decode cX10_way 59 = .ok (.iload 4, 2) := by decide +kernel
theorem dX10_way_61 : decode cX10_way 61 = .ok (.invokevirtual 307, 3) := by decide +kernel
theorem dX10_way_64 : decode cX10_way 64 = .ok (.istore 5, 2) := by decide +kernel
theorem dX10_way_66 : decode cX10_way 66 = .ok (.iload 5, 2) := by decide +kernel
theorem dX10_way_68 : decode cX10_way 68 = .ok (.bipush 60, 2) := by decide +kernel
theorem dX10_way_70 : decode cX10_way 70 = .ok (.if_icmp .le 6, 3) := by decide +kernel
theorem dX10_way_73 : decode cX10_way 73 = .ok (.bipush (-9), 2) := by decide +kernel
theorem dX10_way_75 : decode cX10_way 75 = .ok (.ireturn, 1) := by decide +kernel
theorem dX10_way_76 : decode cX10_way 76 = .ok (.aload_n 0, 1) := by decide +kernel
theorem dX10_way_77 : decode cX10_way 77 = .ok (.getfield 21, 3) := by decide +kernel
theorem dX10_way_80 : decode cX10_way 80 = .ok (.iload_n 2, 1) := by decide +kernel
theorem dX10_way_81 : decode cX10_way 81 = .ok (.iload 5, 2) := by decide +kernel
theorem dX10_way_83 : decode cX10_way 83 = .ok (.iconst 0, 1) := by decide +kernel
theorem dX10_way_84 : decode cX10_way 84 = .ok (.invokevirtual 113, 3) := by decide +kernel
theorem dX10_way_87 : decode cX10_way 87 = .ok (.iload 5, 2) := by decide +kernel
theorem dX10_way_89 : decode cX10_way 89 = .ok (.iconst 1, 1) := by decide +kernel
theorem dX10_way_90 : decode cX10_way 90 = .ok (.isub, 1) := by decide +kernel
theorem dX10_way_91 : decode cX10_way 91 = .ok (.istore 6, 2) := by decide +kernel
theorem dX10_way_93 : decode cX10_way 93 = .ok (.iload 6, 2) := by decide +kernel
theorem dX10_way_95 : decode cX10_way 95 = .ok (.ifCond .lt 39, 3) := by decide +kernel
theorem dX10_way_98 : decode cX10_way 98 = .ok (.aload_n 0, 1) := by decide +kernel
theorem dX10_way_99 : decode cX10_way 99 = .ok (.getfield 21, 3) := by decide +kernel
theorem dX10_way_102 : decode cX10_way 102 = .ok (.iload_n 2, 1) := by decide +kernel
theorem dX10_way_103 : decode cX10_way 103 = .ok (.iload 6, 2) := by decide +kernel
theorem dX10_way_105 : decode cX10_way 105 = .ok (.aload_n 0, 1) := by decide +kernel
theorem dX10_way_106 : decode cX10_way 106 = .ok (.getfield 83, 3) := by decide +kernel
theorem dX10_way_109 : decode cX10_way 109 = .ok (.iload 4, 2) := by decide +kernel
theorem dX10_way_111 : decode cX10_way 111 = .ok (.invokevirtual 315, 3) := by decide +kernel
theorem dX10_way_114 : decode cX10_way 114 = .ok (.invokevirtual 128, 3) := by decide +kernel
theorem dX10_way_117 : decode cX10_way 117 = .ok (.aload_n 0, 1) := by decide +kernel
theorem dX10_way_118 : decode cX10_way 118 = .ok (.getfield 83, 3) := by decide +kernel
theorem dX10_way_121 : decode cX10_way 121 = .ok (.iload 4, 2) := by decide +kernel
theorem dX10_way_123 : decode cX10_way 123 = .ok (.invokevirtual 318, 3) := by decide +kernel
theorem dX10_way_126 : decode cX10_way 126 = .ok (.istore 4, 2) := by decide +kernel
theorem dX10_way_128 : decode cX10_way 128 = .ok (.iinc 6 (-1), 3) := by decide +kernel
theorem dX10_way_131 : decode cX10_way 131 = .ok (.goto (-38), 3) := by decide +kernel
theorem dX10_way_134 : decode cX10_way 134 = .ok (.iload 5, 2) := by decide +kernel
theorem dX10_way_136 : decode cX10_way 136 = .ok (.ireturn, 1) := by decide +kernel
theorem dX10_all_0 : decode cX10_all 0 = .ok (.aload_n 0, 1) := by decide +kernel
theorem dX10_all_1 : decode cX10_all 1 = .ok (.getfield 83, 3) := by decide +kernel
theorem dX10_all_4 : decode cX10_all 4 = .ok (.aload_n 0, 1) := by decide +kernel
theorem dX10_all_5 : decode cX10_all 5 = .ok (.getfield 49, 3) := by decide +kernel
theorem dX10_all_8 : decode cX10_all 8 = .ok (.invokevirtual 274, 3) := by decide +kernel
theorem dX10_all_11 : decode cX10_all 11 = .ok (.aload_n 0, 1) := by decide +kernel
theorem dX10_all_12 : decode cX10_all 12 = .ok (.getfield 49, 3) := by decide +kernel
theorem dX10_all_15 : decode cX10_all 15 = .ok (.getfield 231, 3) := by decide +kernel
theorem dX10_all_18 : decode cX10_all 18 = .ok (.invokevirtual 310, 3) := by decide +kernel
theorem dX10_all_21 : decode cX10_all 21 = .ok (.aload_n 0, 1) := by decide +kernel
theorem dX10_all_22 : decode cX10_all 22 = .ok (.getfield 83, 3) := by decide +kernel
theorem dX10_all_25 : decode cX10_all 25 = .ok (.sipush 8525, 3) := by decide +kernel
theorem dX10_all_28 : decode cX10_all 28 = .ok (.invokevirtual 321, 3) := by decide +kernel
theorem dX10_all_31 : decode cX10_all 31 = .ok (.aload_n 0, 1) := by decide +kernel
theorem dX10_all_32 : decode cX10_all 32 = .ok (.getfield 83, 3) := by decide +kernel
theorem dX10_all_35 : decode cX10_all 35 = .ok (.invokevirtual 324, 3) := by decide +kernel
theorem dX10_all_38 : decode cX10_all 38 = .ok (.istore_n 1, 1) := by decide +kernel
theorem dX10_all_39 : decode cX10_all 39 = .ok (.aload_n 0, 1) := by decide +kernel
theorem dX10_all_40 : decode cX10_all 40 = .ok (.getfield 10, 3) := by decide +kernel
theorem dX10_all_43 : decode cX10_all 43 = .ok (.aload_n 0, 1) := by decide +kernel
theorem dX10_all_44 : decode cX10_all 44 = .ok (.getfield 83, 3) := by decide +kernel
theorem dX10_all_47 : decode cX10_all 47 = .ok (.iload_n 1, 1) := by decide +kernel
theorem dX10_all_48 : decode cX10_all 48 = .ok (.iconst 1, 1) := by decide +kernel
theorem dX10_all_49 : decode cX10_all 49 = .ok (.isub, 1) := by decide +kernel
theorem dX10_all_50 : decode cX10_all 50 = .ok (.invokevirtual 307, 3) := by decide +kernel
theorem dX10_all_53 : decode cX10_all 53 = .ok (.invokevirtual 131, 3) := by decide +kernel
theorem dX10_all_56 : decode cX10_all 56 = .ok (.pop, 1) := by decide +kernel
theorem dX10_all_57 : decode cX10_all 57 = .ok (.iload_n 1, 1) := by decide +kernel
theorem dX10_all_58 : decode cX10_all 58 = .ok (.ireturn, 1) := by decide +kernel
theorem dX10_till_0 : decode cX10_till 0 = .ok (.aload_n 0, 1) := by decide +kernel
theorem dX10_till_1 : decode cX10_till 1 = .ok (.getfield 40, 3) := by decide +kernel
theorem dX10_till_4 : decode cX10_till 4 = .ok (.iload_n 1, 1) := by decide +kernel
theorem dX10_till_5 : decode cX10_till 5 = .ok (.invokevirtual 218, 3) := by decide +kernel
theorem dX10_till_8 : decode cX10_till 8 = .ok (.ifCond .ne 5, 3) := by decide +kernel
theorem dX10_till_11 : decode cX10_till 11 = .ok (.iconst (-1), 1) := by decide +kernel
theorem dX10_till_12 : decode cX10_till 12 = .ok (.ireturn, 1) := by decide +kernel
theorem dX10_till_13 : decode cX10_till 13 = .ok (.aload_n 0, 1) := by decide +kernel
theorem dX10_till_14 : decode cX10_till 14 = .ok (.getfield 83, 3) := by decide +kernel
theorem dX10_till_17 : decode cX10_till 17 = .ok (.aload_n 0, 1) := by decide +kernel
theorem dX10_till_18 : decode cX10_till 18 = .ok (.getfield 49, 3) := by decide +kernel
theorem dX10_till_21 : decode cX10_till 21 = .ok (.invokevirtual 274, 3) := by decide +kernel
theorem dX10_till_24 : decode cX10_till 24 = .ok (.aload_n 0, 1) := by decide +kernel
theorem dX10_till_25 : decode cX10_till 25 = .ok (.getfield 49, 3) := by decide +kernel
theorem dX10_till_28 : decode cX10_till 28 = .ok (.getfield 231, 3) := by decide +kernel
theorem dX10_till_31 : decode cX10_till 31 = .ok (.invokevirtual 310, 3) := by decide +kernel
theorem dX10_till_34 : decode cX10_till 34 = .ok (.aload_n 0, 1) := by decide +kernel
theorem dX10_till_35 : decode cX10_till 35 = .ok (.getfield 83, 3) := by decide +kernel
theorem dX10_till_38 : decode cX10_till 38 = .ok (.iload_n 1, 1) := by decide +kernel
theorem dX10_till_39 : decode cX10_till 39 = .ok (.invokevirtual 327, 3) := by decide +kernel
theorem dX10_till_42 : decode cX10_till 42 = .ok (.istore_n 2, 1) := by decide +kernel
theorem dX10_till_43 : decode cX10_till 43 = .ok (.iload_n 2, 1) := by decide +kernel
theorem dX10_till_44 : decode cX10_till 44 = .ok (.bipush (-9), 2) := by decide +kernel
theorem dX10_till_46 : decode cX10_till 46 = .ok (.if_icmp .ne 8, 3) := by decide +kernel
theorem dX10_till_49 : decode cX10_till 49 = .ok (.bipush (-9), 2) := by decide +kernel
theorem dX10_till_51 : decode cX10_till 51 = .ok (.goto 11, 3) := by decide +kernel
theorem dX10_till_54 : decode cX10_till 54 = .ok (.aload_n 0, 1) := by decide +kernel
theorem dX10_till_55 : decode cX10_till 55 = .ok (.getfield 83, 3) := by decide +kernel
theorem dX10_till_58 : decode cX10_till 58 = .ok (.iload_n 2, 1) := by decide +kernel
theorem dX10_till_59 : decode cX10_till 59 = .ok (.invokevirtual 307, 3) := by decide +kernel
theorem dX10_till_62 : decode cX10_till 62 = .ok (.ireturn, 1) := by decide +kernel
theorem dX10_most_0 : decode cX10_most 0 = .ok (.iload_n 1, 1) := by decide +kernel
theorem dX10_most_1 : decode cX10_most 1 = .ok (.ifCond .lt 8, 3) := by decide +kernel
theorem dX10_most_4 : decode cX10_most 4 = .ok (.iload_n 1, 1) := by decide +kernel
theorem dX10_most_5 : decode cX10_most 5 = .ok (.iconst 2, 1) := by decide +kernel
theorem dX10_most_6 : decode cX10_most 6 = .ok (.if_icmp .le 5, 3) := by decide +kernel
theorem dX10_most_9 : decode cX10_most 9 = .ok (.iconst (-1), 1) := by decide +kernel
theorem dX10_most_10 : decode cX10_most 10 = .ok (.ireturn, 1) := by decide +kernel
theorem dX10_most_11 : decode cX10_most 11 = .ok (.aload_n 0, 1) := by decide +kernel
theorem dX10_most_12 : decode cX10_most 12 = .ok (.getfield 10, 3) := by decide +kernel
theorem dX10_most_15 : decode cX10_most 15 = .ok (.aload_n 0, 1) := by decide +kernel
theorem dX10_most_16 : decode cX10_most 16 = .ok (.getfield 40, 3) := by decide +kernel
theorem dX10_most_19 : decode cX10_most 19 = .ok (.invokevirtual 330, 3) := by decide +kernel
theorem dX10_most_22 : decode cX10_most 22 = .ok (.invokevirtual 131, 3) := by decide +kernel
theorem dX10_most_25 : decode cX10_most 25 = .ok (.pop, 1) := by decide +kernel
theorem dX10_most_26 : decode cX10_most 26 = .ok (.aload_n 0, 1) := by decide +kernel
theorem dX10_most_27 : decode cX10_most 27 = .ok (.getfield 92, 3) := by decide +kernel
theorem dX10_most_30 : decode cX10_most 30 = .ok (.aload_n 0, 1) := by decide +kernel
theorem dX10_most_31 : decode cX10_most 31 = .ok (.getfield 49, 3) := by decide +kernel
theorem dX10_most_34 : decode cX10_most 34 = .ok (.invokevirtual 274, 3) := by decide +kernel
theorem dX10_most_37 : decode cX10_most 37 = .ok (.aload_n 0, 1) := by decide +kernel
theorem dX10_most_38 : decode cX10_most 38 = .ok (.getfield 49, 3) := by decide +kernel
theorem dX10_most_41 : decode cX10_most 41 = .ok (.getfield 231, 3) := by decide +kernel
theorem dX10_most_44 : decode cX10_most 44 = .ok (.iload_n 1, 1) := by decide +kernel
theorem dX10_most_45 : decode cX10_most 45 = .ok (.invokevirtual 333, 3) := by decide +kernel
theorem dX10_most_48 : decode cX10_most 48 = .ok (.ireturn, 1) := by decide +kernel
theorem dX10_hand_0 : decode cX10_hand 0 = .ok (.iload_n 1, 1) := by decide +kernel
theorem dX10_hand_1 : decode cX10_hand 1 = .ok (.ifCond .lt 8, 3) := by decide +kernel
theorem dX10_hand_4 : decode cX10_hand 4 = .ok (.iload_n 1, 1) := by decide +kernel
theorem dX10_hand_5 : decode cX10_hand 5 = .ok (.iconst 2, 1) := by decide +kernel
theorem dX10_hand_6 : decode cX10_hand 6 = .ok (.if_icmp .le 5, 3) := by decide +kernel
theorem dX10_hand_9 : decode cX10_hand 9 = .ok (.iconst (-1), 1) := by decide +kernel
theorem dX10_hand_10 : decode cX10_hand 10 = .ok (.ireturn, 1) := by decide +kernel
theorem dX10_hand_11 : decode cX10_hand 11 = .ok (.aload_n 0, 1) := by decide +kernel
theorem dX10_hand_12 : decode cX10_hand 12 = .ok (.getfield 49, 3) := by decide +kernel
theorem dX10_hand_15 : decode cX10_hand 15 = .ok (.getfield 231, 3) := by decide +kernel
theorem dX10_hand_18 : decode cX10_hand 18 = .ok (.bipush 6, 2) := by decide +kernel
theorem dX10_hand_20 : decode cX10_hand 20 = .ok (.if_icmp .lt 5, 3) := by decide +kernel
theorem dX10_hand_23 : decode cX10_hand 23 = .ok (.iconst 0, 1) := by decide +kernel
theorem dX10_hand_24 : decode cX10_hand 24 = .ok (.ireturn, 1) := by decide +kernel
theorem dX10_hand_25 : decode cX10_hand 25 = .ok (.aload_n 0, 1) := by decide +kernel
theorem dX10_hand_26 : decode cX10_hand 26 = .ok (.getfield 92, 3) := by decide +kernel
theorem dX10_hand_29 : decode cX10_hand 29 = .ok (.aload_n 0, 1) := by decide +kernel
theorem dX10_hand_30 : decode cX10_hand 30 = .ok (.getfield 49, 3) := by decide +kernel
theorem dX10_hand_33 : decode cX10_hand 33 = .ok (.invokevirtual 274, 3) := by decide +kernel
theorem dX10_hand_36 : decode cX10_hand 36 = .ok (.aload_n 0, 1) := by decide +kernel
theorem dX10_hand_37 : decode cX10_hand 37 = .ok (.getfield 49, 3) := by decide +kernel
theorem dX10_hand_40 : decode cX10_hand 40 = .ok (.getfield 231, 3) := by decide +kernel
theorem dX10_hand_43 : decode cX10_hand 43 = .ok (.iload_n 1, 1) := by decide +kernel
theorem dX10_hand_44 : decode cX10_hand 44 = .ok (.invokevirtual 333, 3) := by decide +kernel
theorem dX10_hand_47 : decode cX10_hand 47 = .ok (.istore_n 2, 1) := by decide +kernel
theorem dX10_hand_48 : decode cX10_hand 48 = .ok (.aload_n 0, 1) := by decide +kernel
theorem dX10_hand_49 : decode cX10_hand 49 = .ok (.getfield 92, 3) := by decide +kernel
theorem dX10_hand_52 : decode cX10_hand 52 = .ok (.aload_n 0, 1) := by decide +kernel
theorem dX10_hand_53 : decode cX10_hand 53 = .ok (.getfield 49, 3) := by decide +kernel
theorem dX10_hand_56 : decode cX10_hand 56 = .ok (.invokevirtual 274, 3) := by decide +kernel
theorem dX10_hand_59 : decode cX10_hand 59 = .ok (.aload_n 0, 1) := by decide +kernel
theorem dX10_hand_60 : decode cX10_hand 60 = .ok (.getfield 49, 3) := by decide +kernel
theorem dX10_hand_63 : decode cX10_hand 63 = .ok (.getfield 231, 3) := by decide +kernel
theorem dX10_hand_66 : decode cX10_hand 66 = .ok (.iconst 1, 1) := by decide +kernel
theorem dX10_hand_67 : decode cX10_hand 67 = .ok (.iadd, 1) := by decide +kernel
theorem dX10_hand_68 : decode cX10_hand 68 = .ok (.iload_n 1, 1) := by decide +kernel
theorem dX10_hand_69 : decode cX10_hand 69 = .ok (.invokevirtual 333, 3) := by decide +kernel
theorem dX10_hand_72 : decode cX10_hand 72 = .ok (.iload_n 2, 1) := by decide +kernel
theorem dX10_hand_73 : decode cX10_hand 73 = .ok (.isub, 1) := by decide +kernel
theorem dX10_hand_74 : decode cX10_hand 74 = .ok (.ireturn, 1) := by decide +kernel
theorem dX10_creed_0 : decode cX10_creed 0 = .ok (.iload_n 1, 1) := by decide +kernel
theorem dX10_creed_1 : decode cX10_creed 1 = .ok (.iconst 1, 1) := by decide +kernel
theorem dX10_creed_2 : decode cX10_creed 2 = .ok (.if_icmp .lt 18, 3) := by decide +kernel
theorem dX10_creed_5 : decode cX10_creed 5 = .ok (.iload_n 1, 1) := by decide +kernel
theorem dX10_creed_6 : decode cX10_creed 6 = .ok (.bipush 6, 2) := by decide +kernel
theorem dX10_creed_8 : decode cX10_creed 8 = .ok (.if_icmp .gt 12, 3) := by decide +kernel
theorem dX10_creed_11 : decode cX10_creed 11 = .ok (.iload_n 2, 1) := by decide +kernel
theorem dX10_creed_12 : decode cX10_creed 12 = .ok (.ifCond .lt 8, 3) := by decide +kernel
theorem dX10_creed_15 : decode cX10_creed 15 = .ok (.iload_n 2, 1) := by decide +kernel
theorem dX10_creed_16 : decode cX10_creed 16 = .ok (.iconst 2, 1) := by decide +kernel
theorem dX10_creed_17 : decode cX10_creed 17 = .ok (.if_icmp .le 5, 3) := by decide +kernel
theorem dX10_creed_20 : decode cX10_creed 20 = .ok (.iconst (-1), 1) := by decide +kernel
theorem dX10_creed_21 : decode cX10_creed 21 = .ok (.ireturn, 1) := by decide +kernel
theorem dX10_creed_22 : decode cX10_creed 22 = .ok (.aload_n 0, 1) := by decide +kernel
theorem dX10_creed_23 : decode cX10_creed 23 = .ok (.getfield 49, 3) := by decide +kernel
theorem dX10_creed_26 : decode cX10_creed 26 = .ok (.invokevirtual 227, 3) := by decide +kernel
theorem dX10_creed_29 : decode cX10_creed 29 = .ok (.iload_n 1, 1) := by decide +kernel
theorem dX10_creed_30 : decode cX10_creed 30 = .ok (.if_icmp .le 6, 3) := by decide +kernel
theorem dX10_creed_33 : decode cX10_creed 33 = .ok (.bipush (-4), 2) := by decide +kernel
theorem dX10_creed_35 : decode cX10_creed 35 = .ok (.ireturn, 1) := by decide +kernel
theorem dX10_creed_36 : decode cX10_creed 36 = .ok (.aload_n 0, 1) := by decide +kernel
theorem dX10_creed_37 : decode cX10_creed 37 = .ok (.getfield 92, 3) := by decide +kernel
theorem dX10_creed_40 : decode cX10_creed 40 = .ok (.aload_n 0, 1) := by decide +kernel
theorem dX10_creed_41 : decode cX10_creed 41 = .ok (.getfield 49, 3) := by decide +kernel
theorem dX10_creed_44 : decode cX10_creed 44 = .ok (.invokevirtual 274, 3) := by decide +kernel
theorem dX10_creed_47 : decode cX10_creed 47 = .ok (.iload_n 1, 1) := by decide +kernel
theorem dX10_creed_48 : decode cX10_creed 48 = .ok (.iload_n 2, 1) := by decide +kernel
theorem dX10_creed_49 : decode cX10_creed 49 = .ok (.invokevirtual 333, 3) := by decide +kernel
theorem dX10_creed_52 : decode cX10_creed 52 = .ok (.ireturn, 1) := by decide +kernel
theorem dX10_theft_0 : decode cX10_theft 0 = .ok (.aload_n 0, 1) := by decide +kernel
theorem dX10_theft_1 : decode cX10_theft 1 = .ok (.getfield 40, 3) := by decide +kernel
theorem dX10_theft_4 : decode cX10_theft 4 = .ok (.iload_n 1, 1) := by decide +kernel
theorem dX10_theft_5 : decode cX10_theft 5 = .ok (.invokevirtual 224, 3) := by decide +kernel
theorem dX10_theft_8 : decode cX10_theft 8 = .ok (.ifCond .eq 14, 3) := by decide +kernel
theorem dX10_theft_11 : decode cX10_theft 11 = .ok (.aload_n 0, 1) := by decide +kernel
theorem dX10_theft_12 : decode cX10_theft 12 = .ok (.getfield 40, 3) := by decide +kernel
theorem dX10_theft_15 : decode cX10_theft 15 = .ok (.iload_n 2, 1) := by decide +kernel
theorem dX10_theft_16 : decode cX10_theft 16 = .ok (.invokevirtual 176, 3) := by decide +kernel
theorem dX10_theft_19 : decode cX10_theft 19 = .ok (.ifCond .ne 5, 3) := by decide +kernel
theorem dX10_theft_22 : decode cX10_theft 22 = .ok (.iconst (-1), 1) := by decide +kernel
theorem dX10_theft_23 : decode cX10_theft 23 = .ok (.ireturn, 1) := by decide +kernel
theorem dX10_theft_24 : decode cX10_theft 24 = .ok (.aload_n 0, 1) := by decide +kernel
theorem dX10_theft_25 : decode cX10_theft 25 = .ok (.getfield 101, 3) := by decide +kernel
theorem dX10_theft_28 : decode cX10_theft 28 = .ok (.aload_n 0, 1) := by decide +kernel
theorem dX10_theft_29 : decode cX10_theft 29 = .ok (.getfield 49, 3) := by decide +kernel
theorem dX10_theft_32 : decode cX10_theft 32 = .ok (.iload_n 1, 1) := by decide +kernel
theorem dX10_theft_33 : decode cX10_theft 33 = .ok (.iload_n 2, 1) := by decide +kernel
theorem dX10_theft_34 : decode cX10_theft 34 = .ok (.invokevirtual 337, 3) := by decide +kernel
theorem dX10_theft_37 : decode cX10_theft 37 = .ok (.ireturn, 1) := by decide +kernel
theorem dX10_thefts_0 : decode cX10_thefts 0 = .ok (.aload_n 0, 1) := by decide +kernel
theorem dX10_thefts_1 : decode cX10_thefts 1 = .ok (.getfield 40, 3) := by decide +kernel
theorem dX10_thefts_4 : decode cX10_thefts 4 = .ok (.iload_n 1, 1) := by decide +kernel
theorem dX10_thefts_5 : decode cX10_thefts 5 = .ok (.invokevirtual 224, 3) := by decide +kernel
theorem dX10_thefts_8 : decode cX10_thefts 8 = .ok (.ifCond .eq 12, 3) := by decide +kernel
theorem dX10_thefts_11 : decode cX10_thefts 11 = .ok (.iload_n 2, 1) := by decide +kernel
theorem dX10_thefts_12 : decode cX10_thefts 12 = .ok (.ifCond .lt 8, 3) := by decide +kernel
theorem dX10_thefts_15 : decode cX10_thefts 15 = .ok (.iload_n 2, 1) := by decide +kernel
theorem dX10_thefts_16 : decode cX10_thefts 16 = .ok (.iconst 3, 1) := by decide +kernel
theorem dX10_thefts_17 : decode cX10_thefts 17 = .ok (.if_icmp .le 5, 3) := by decide +kernel
theorem dX10_thefts_20 : decode cX10_thefts 20 = .ok (.iconst (-1), 1) := by decide +kernel
theorem dX10_thefts_21 : decode cX10_thefts 21 = .ok (.ireturn, 1) := by decide +kernel
theorem dX10_thefts_22 : decode cX10_thefts 22 = .ok (.aload_n 0, 1) := by decide +kernel
theorem dX10_thefts_23 : decode cX10_thefts 23 = .ok (.getfield 101, 3) := by decide +kernel
theorem dX10_thefts_26 : decode cX10_thefts 26 = .ok (.aload_n 0, 1) := by decide +kernel
theorem dX10_thefts_27 : decode cX10_thefts 27 = .ok (.getfield 49, 3) := by decide +kernel
theorem dX10_thefts_30 : decode cX10_thefts 30 = .ok (.iload_n 1, 1) := by decide +kernel
theorem dX10_thefts_31 : decode cX10_thefts 31 = .ok (.iload_n 2, 1) := by decide +kernel
theorem dX10_thefts_32 : decode cX10_thefts 32 = .ok (.invokevirtual 341, 3) := by decide +kernel
theorem dX10_thefts_35 : decode cX10_thefts 35 = .ok (.ireturn, 1) := by decide +kernel
theorem dX10_drops_0 : decode cX10_drops 0 = .ok (.aload_n 0, 1) := by decide +kernel
theorem dX10_drops_1 : decode cX10_drops 1 = .ok (.getfield 40, 3) := by decide +kernel
theorem dX10_drops_4 : decode cX10_drops 4 = .ok (.iload_n 1, 1) := by decide +kernel
theorem dX10_drops_5 : decode cX10_drops 5 = .ok (.invokevirtual 224, 3) := by decide +kernel
theorem dX10_drops_8 : decode cX10_drops 8 = .ok (.ifCond .eq 19, 3) := by decide +kernel
theorem dX10_drops_11 : decode cX10_drops 11 = .ok (.aload_n 0, 1) := by decide +kernel
theorem dX10_drops_12 : decode cX10_drops 12 = .ok (.getfield 40, 3) := by decide +kernel
theorem dX10_drops_15 : decode cX10_drops 15 = .ok (.iload_n 2, 1) := by decide +kernel
theorem dX10_drops_16 : decode cX10_drops 16 = .ok (.invokevirtual 224, 3) := by decide +kernel
theorem dX10_drops_19 : decode cX10_drops 19 = .ok (.ifCond .eq 8, 3) := by decide +kernel
theorem dX10_drops_22 : decode cX10_drops 22 = .ok (.iload_n 1, 1) := by decide +kernel
theorem dX10_drops_23 : decode cX10_drops 23 = .ok (.iload_n 2, 1) := by decide +kernel
theorem dX10_drops_24 : decode cX10_drops 24 = .ok (.if_icmp .ne 5, 3) := by decide +kernel
theorem dX10_drops_27 : decode cX10_drops 27 = .ok (.iconst (-1), 1) := by decide +kernel
theorem dX10_drops_28 : decode cX10_drops 28 = .ok (.ireturn, 1) := by decide +kernel
theorem dX10_drops_29 : decode cX10_drops 29 = .ok (.iconst 0, 1) := by decide +kernel
theorem dX10_drops_30 : decode cX10_drops 30 = .ok (.istore_n 3, 1) := by decide +kernel
theorem dX10_drops_31 : decode cX10_drops 31 = .ok (.bipush (-9), 2) := by decide +kernel
theorem dX10_drops_33 : decode cX10_drops 33 = .ok (.istore 4, 2) := by decide +kernel
theorem dX10_drops_35 : decode cX10_drops 35 = .ok (.iconst 0, 1) := by decide +kernel
theorem dX10_drops_36 : decode cX10_drops 36 = .ok (.istore 5, 2) := by decide +kernel
theorem dX10_drops_38 : decode cX10_drops 38 = .ok (.iload 5, 2) := by decide +kernel
theorem dX10_drops_40 : decode cX10_drops 40 = .ok (.aload_n 0, 1) := by decide +kernel
theorem dX10_drops_41 : decode cX10_drops 41 = .ok (.getfield 40, 3) := by decide +kernel
theorem dX10_drops_44 : decode cX10_drops 44 = .ok (.getfield 173, 3) := by decide +kernel
theorem dX10_drops_47 : decode cX10_drops 47 = .ok (.if_icmp .ge 64, 3) := by decide +kernel
theorem dX10_drops_50 : decode cX10_drops 50 = .ok (.aload_n 0, 1) := by decide +kernel
theorem dX10_drops_51 : decode cX10_drops 51 = .ok (.getfield 49, 3) := by decide +kernel
theorem dX10_drops_54 : decode cX10_drops 54 = .ok (.getfield 185, 3) := by decide +kernel
theorem dX10_drops_57 : decode cX10_drops 57 = .ok (.iload 5, 2) := by decide +kernel
theorem dX10_drops_59 : decode cX10_drops 59 = .ok (.iaload, 1) := by decide +kernel
theorem dX10_drops_60 : decode cX10_drops 60 = .ok (.iload_n 1, 1) := by decide +kernel
theorem dX10_drops_61 : decode cX10_drops 61 = .ok (.if_icmp .eq 6, 3) := by decide +kernel
theorem dX10_drops_64 : decode cX10_drops 64 = .ok (.goto 41, 3) := by decide +kernel
theorem dX10_drops_67 : decode cX10_drops 67 = .ok (.aload_n 0, 1) := by decide +kernel
theorem dX10_drops_68 : decode cX10_drops 68 = .ok (.getfield 49, 3) := by decide +kernel
theorem dX10_drops_71 : decode cX10_drops 71 = .ok (.iload 5, 2) := by decide +kernel
theorem dX10_drops_73 : decode cX10_drops 73 = .ok (.iload_n 2, 1) := by decide +kernel
theorem dX10_drops_74 : decode cX10_drops 74 = .ok (.invokevirtual 344, 3) := by decide +kernel
theorem dX10_drops_77 : decode cX10_drops 77 = .ok (.istore 6, 2) := by decide +kernel
theorem dX10_drops_79 : decode cX10_drops 79 = .ok (.iload 6, 2) := by decide +kernel
theorem dX10_drops_81 : decode cX10_drops 81 = .ok (.bipush (-9), 2) := by decide +kernel
theorem dX10_drops_83 : decode cX10_drops 83 = .ok (.if_icmp .eq 22, 3) := by decide +kernel
theorem dX10_drops_86 : decode cX10_drops 86 = .ok (.iload 6, 2) := by decide +kernel
theorem dX10_drops_88 : decode cX10_drops 88 = .ok (.invokestatic 213, 3) := by decide +kernel
theorem dX10_drops_91 : decode cX10_drops 91 = .ok (.iload_n 3, 1) := by decide +kernel
theorem dX10_drops_92 : decode cX10_drops 92 = .ok (.invokestatic 213, 3) := by decide +kernel
theorem dX10_drops_95 : decode cX10_drops 95 = .ok (.if_icmp .le 10, 3) := by decide +kernel
theorem dX10_drops_98 : decode cX10_drops 98 = .ok (.iload 6, 2) := by decide +kernel
theorem dX10_drops_100 : decode cX10_drops 100 = .ok (.istore_n 3, 1) := by decide +kernel
theorem dX10_drops_101 : decode cX10_drops 101 = .ok (.iload 5, 2) := by decide +kernel
theorem dX10_drops_103 : decode cX10_drops 103 = .ok (.istore 4, 2) := by decide +kernel
theorem dX10_drops_105 : decode cX10_drops 105 = .ok (.iinc 5 1, 3) := by decide +kernel
theorem dX10_drops_108 : decode cX10_drops 108 = .ok (.goto (-70), 3) := by decide +kernel
theorem dX10_drops_111 : decode cX10_drops 111 = .ok (.aload_n 0, 1) := by decide +kernel
theorem dX10_drops_112 : decode cX10_drops 112 = .ok (.getfield 10, 3) := by decide +kernel
theorem dX10_drops_115 : decode cX10_drops 115 = .ok (.iload 4, 2) := by decide +kernel
theorem dX10_drops_117 : decode cX10_drops 117 = .ok (.invokevirtual 131, 3) := by decide +kernel
theorem dX10_drops_120 : decode cX10_drops 120 = .ok (.pop, 1) := by decide +kernel
theorem dX10_drops_121 : decode cX10_drops 121 = .ok (.iload_n 3, 1) := by decide +kernel
theorem dX10_drops_122 : decode cX10_drops 122 = .ok (.ireturn, 1) := by decide +kernel
theorem dX10_beside_0 : decode cX10_beside 0 = .ok (.aload_n 0, 1) := by decide +kernel
theorem dX10_beside_1 : decode cX10_beside 1 = .ok (.getfield 40, 3) := by decide +kernel
theorem dX10_beside_4 : decode cX10_beside 4 = .ok (.iload_n 1, 1) := by decide +kernel
theorem dX10_beside_5 : decode cX10_beside 5 = .ok (.invokevirtual 224, 3) := by decide +kernel
theorem dX10_beside_8 : decode cX10_beside 8 = .ok (.ifCond .eq 19, 3) := by decide +kernel
theorem dX10_beside_11 : decode cX10_beside 11 = .ok (.aload_n 0, 1) := by decide +kernel
theorem dX10_beside_12 : decode cX10_beside 12 = .ok (.getfield 40, 3) := by decide +kernel
theorem dX10_beside_15 : decode cX10_beside 15 = .ok (.iload_n 2, 1) := by decide +kernel
theorem dX10_beside_16 : decode cX10_beside 16 = .ok (.invokevirtual 224, 3) := by decide +kernel
theorem dX10_beside_19 : decode cX10_beside 19 = .ok (.ifCond .eq 8, 3) := by decide +kernel
theorem dX10_beside_22 : decode cX10_beside 22 = .ok (.iload_n 1, 1) := by decide +kernel
theorem dX10_beside_23 : decode cX10_beside 23 = .ok (.iload_n 2, 1) := by decide +kernel
theorem dX10_beside_24 : decode cX10_beside 24 = .ok (.if_icmp .ne 5, 3) := by decide +kernel
theorem dX10_beside_27 : decode cX10_beside 27 = .ok (.iconst (-1), 1) := by decide +kernel
theorem dX10_beside_28 : decode cX10_beside 28 = .ok (.ireturn, 1) := by decide +kernel
theorem dX10_beside_29 : decode cX10_beside 29 = .ok (.aload_n 0, 1) := by decide +kernel
theorem dX10_beside_30 : decode cX10_beside 30 = .ok (.iload_n 1, 1) := by decide +kernel
theorem dX10_beside_31 : decode cX10_beside 31 = .ok (.iload_n 2, 1) := by decide +kernel
theorem dX10_beside_32 : decode cX10_beside 32 = .ok (.invokevirtual 347, 3) := by decide +kernel
theorem dX10_beside_35 : decode cX10_beside 35 = .ok (.ireturn, 1) := by decide +kernel
theorem dX10_needs_0 : decode cX10_needs 0 = .ok (.aload_n 0, 1) := by decide +kernel
theorem dX10_needs_1 : decode cX10_needs 1 = .ok (.getfield 40, 3) := by decide +kernel
theorem dX10_needs_4 : decode cX10_needs 4 = .ok (.iload_n 1, 1) := by decide +kernel
theorem dX10_needs_5 : decode cX10_needs 5 = .ok (.invokevirtual 350, 3) := by decide +kernel
theorem dX10_needs_8 : decode cX10_needs 8 = .ok (.aload_n 0, 1) := by decide +kernel
theorem dX10_needs_9 : decode cX10_needs 9 = .ok (.getfield 49, 3) := by decide +kernel
theorem dX10_needs_12 : decode cX10_needs 12 = .ok (.iload_n 2, 1) := by decide +kernel
theorem dX10_needs_13 : decode cX10_needs 13 = .ok (.invokevirtual 210, 3) := by decide +kernel
theorem dX10_needs_16 : decode cX10_needs 16 = .ok (.iand, 1) := by decide +kernel
theorem dX10_needs_17 : decode cX10_needs 17 = .ok (.istore_n 3, 1) := by decide +kernel
theorem dX10_needs_18 : decode cX10_needs 18 = .ok (.aload_n 0, 1) := by decide +kernel
theorem dX10_needs_19 : decode cX10_needs 19 = .ok (.getfield 40, 3) := by decide +kernel
theorem dX10_needs_22 : decode cX10_needs 22 = .ok (.iload_n 2, 1) := by decide +kernel
theorem dX10_needs_23 : decode cX10_needs 23 = .ok (.invokevirtual 350, 3) := by decide +kernel
theorem dX10_needs_26 : decode cX10_needs 26 = .ok (.aload_n 0, 1) := by decide +kernel
theorem dX10_needs_27 : decode cX10_needs 27 = .ok (.getfield 49, 3) := by decide +kernel
theorem dX10_needs_30 : decode cX10_needs 30 = .ok (.iload_n 1, 1) := by decide +kernel
theorem dX10_needs_31 : decode cX10_needs 31 = .ok (.invokevirtual 210, 3) := by decide +kernel
theorem dX10_needs_34 : decode cX10_needs 34 = .ok (.iand, 1) := by decide +kernel
theorem dX10_needs_35 : decode cX10_needs 35 = .ok (.istore 4, 2) := by decide +kernel
theorem dX10_needs_37 : decode cX10_needs 37 = .ok (.iload_n 3, 1) := by decide +kernel
theorem dX10_needs_38 : decode cX10_needs 38 = .ok (.invokestatic 213, 3) := by decide +kernel
theorem dX10_needs_41 : decode cX10_needs 41 = .ok (.iload 4, 2) := by decide +kernel
theorem dX10_needs_43 : decode cX10_needs 43 = .ok (.invokestatic 213, 3) := by decide +kernel
theorem dX10_needs_46 : decode cX10_needs 46 = .ok (.iadd, 1) := by decide +kernel
theorem dX10_needs_47 : decode cX10_needs 47 = .ok (.ireturn, 1) := by decide +kernel
theorem dX10_pair_0 : decode cX10_pair 0 = .ok (.aload_n 0, 1) := by decide +kernel
theorem dX10_pair_1 : decode cX10_pair 1 = .ok (.getfield 40, 3) := by decide +kernel
theorem dX10_pair_4 : decode cX10_pair 4 = .ok (.getfield 271, 3) := by decide +kernel
theorem dX10_pair_7 : decode cX10_pair 7 = .ok (.istore_n 1, 1) := by decide +kernel
theorem dX10_pair_8 : decode cX10_pair 8 = .ok (.iload_n 1, 1) := by decide +kernel
theorem dX10_pair_9 : decode cX10_pair 9 = .ok (.ifCond .ne 6, 3) := by decide +kernel
theorem dX10_pair_12 : decode cX10_pair 12 = .ok (.bipush (-4), 2) := by decide +kernel
theorem dX10_pair_14 : decode cX10_pair 14 = .ok (.ireturn, 1) := by decide +kernel
theorem dX10_pair_15 : decode cX10_pair 15 = .ok (.bipush (-9), 2) := by decide +kernel
theorem dX10_pair_17 : decode cX10_pair 17 = .ok (.istore_n 2, 1) := by decide +kernel
theorem dX10_pair_18 : decode cX10_pair 18 = .ok (.iconst (-1), 1) := by decide +kernel
theorem dX10_pair_19 : decode cX10_pair 19 = .ok (.istore_n 3, 1) := by decide +kernel
theorem dX10_pair_20 : decode cX10_pair 20 = .ok (.iconst 1, 1) := by decide +kernel
theorem dX10_pair_21 : decode cX10_pair 21 = .ok (.istore 4, 2) := by decide +kernel
theorem dX10_pair_23 : decode cX10_pair 23 = .ok (.iload 4, 2) := by decide +kernel
theorem dX10_pair_25 : decode cX10_pair 25 = .ok (.iload_n 1, 1) := by decide +kernel
theorem dX10_pair_26 : decode cX10_pair 26 = .ok (.if_icmp .ge 67, 3) := by decide +kernel
theorem dX10_pair_29 : decode cX10_pair 29 = .ok (.iload 4, 2) := by decide +kernel
theorem dX10_pair_31 : decode cX10_pair 31 = .ok (.iconst 1, 1) := by decide +kernel
theorem dX10_pair_32 : decode cX10_pair 32 = .ok (.if_icmp .ne 7, 3) := by decide +kernel
theorem dX10_pair_35 : decode cX10_pair 35 = .ok (.iconst 2, 1) := by decide +kernel
theorem dX10_pair_36 : decode cX10_pair 36 = .ok (.goto 4, 3) := by decide +kernel
theorem dX10_pair_39 : decode cX10_pair 39 = .ok (.iconst 1, 1) := by decide +kernel
theorem dX10_pair_40 : decode cX10_pair 40 = .ok (.istore 5, 2) := by decide +kernel
theorem dX10_pair_42 : decode cX10_pair 42 = .ok (.aload_n 0, 1) := by decide +kernel
theorem dX10_pair_43 : decode cX10_pair 43 = .ok (.iconst 0, 1) := by decide +kernel
theorem dX10_pair_44 : decode cX10_pair 44 = .ok (.iload 4, 2) := by decide +kernel
theorem dX10_pair_46 : decode cX10_pair 46 = .ok (.invokevirtual 347, 3) := by decide +kernel
theorem dX10_pair_49 : decode cX10_pair 49 = .ok (.iload_n 1, 1) := by decide +kernel
theorem dX10_pair_50 : decode cX10_pair 50 = .ok (.iconst 4, 1) := by decide +kernel
theorem dX10_pair_51 : decode cX10_pair 51 = .ok (.if_icmp .ne 20, 3) := by decide +kernel
theorem dX10_pair_54 : decode cX10_pair 54 = .ok (.aload_n 0, 1) := by decide +kernel
theorem dX10_pair_55 : decode cX10_pair 55 = .ok (.iload 5, 2) := by decide +kernel
theorem dX10_pair_57 : decode cX10_pair 57 = .ok (.bipush 6, 2) := by decide +kernel
theorem dX10_pair_59 : decode cX10_pair 59 = .ok (.iload 4, 2) := by decide +kernel
theorem dX10_pair_61 : decode cX10_pair 61 = .ok (.isub, 1) := by decide +kernel
theorem dX10_pair_62 : decode cX10_pair 62 = .ok (.iload 5, 2) := by decide +kernel
theorem dX10_pair_64 : decode cX10_pair 64 = .ok (.isub, 1) := by decide +kernel
theorem dX10_pair_65 : decode cX10_pair 65 = .ok (.invokevirtual 347, 3) := by decide +kernel
theorem dX10_pair_68 : decode cX10_pair 68 = .ok (.goto 4, 3) := by decide +kernel
theorem dX10_pair_71 : decode cX10_pair 71 = .ok (.iconst 0, 1) := by decide +kernel
theorem dX10_pair_72 : decode cX10_pair 72 = .ok (.iadd, 1) := by decide +kernel
theorem dX10_pair_73 : decode cX10_pair 73 = .ok (.istore 6, 2) := by decide +kernel
theorem dX10_pair_75 : decode cX10_pair 75 = .ok (.iload 6, 2) := by decide +kernel
theorem dX10_pair_77 : decode cX10_pair 77 = .ok (.iload_n 3, 1) := by decide +kernel
theorem dX10_pair_78 : decode cX10_pair 78 = .ok (.if_icmp .le 9, 3) := by decide +kernel
theorem dX10_pair_81 : decode cX10_pair 81 = .ok (.iload 6, 2) := by decide +kernel
theorem dX10_pair_83 : decode cX10_pair 83 = .ok (.istore_n 3, 1) := by decide +kernel
theorem dX10_pair_84 : decode cX10_pair 84 = .ok (.iload 4, 2) := by decide +kernel
theorem dX10_pair_86 : decode cX10_pair 86 = .ok (.istore_n 2, 1) := by decide +kernel
theorem dX10_pair_87 : decode cX10_pair 87 = .ok (.iinc 4 1, 3) := by decide +kernel
theorem dX10_pair_90 : decode cX10_pair 90 = .ok (.goto (-67), 3) := by decide +kernel
theorem dX10_pair_93 : decode cX10_pair 93 = .ok (.iload_n 1, 1) := by decide +kernel
theorem dX10_pair_94 : decode cX10_pair 94 = .ok (.iconst 3, 1) := by decide +kernel
theorem dX10_pair_95 : decode cX10_pair 95 = .ok (.if_icmp .ne 23, 3) := by decide +kernel
theorem dX10_pair_98 : decode cX10_pair 98 = .ok (.aload_n 0, 1) := by decide +kernel
theorem dX10_pair_99 : decode cX10_pair 99 = .ok (.iconst 1, 1) := by decide +kernel
theorem dX10_pair_100 : decode cX10_pair 100 = .ok (.iconst 2, 1) := by decide +kernel
theorem dX10_pair_101 : decode cX10_pair 101 = .ok (.invokevirtual 347, 3) := by decide +kernel
theorem dX10_pair_104 : decode cX10_pair 104 = .ok (.iload_n 3, 1) := by decide +kernel
theorem dX10_pair_105 : decode cX10_pair 105 = .ok (.if_icmp .le 13, 3) := by decide +kernel
theorem dX10_pair_108 : decode cX10_pair 108 = .ok (.aload_n 0, 1) := by decide +kernel
theorem dX10_pair_109 : decode cX10_pair 109 = .ok (.iconst 1, 1) := by decide +kernel
theorem dX10_pair_110 : decode cX10_pair 110 = .ok (.iconst 2, 1) := by decide +kernel
theorem dX10_pair_111 : decode cX10_pair 111 = .ok (.invokevirtual 347, 3) := by decide +kernel
theorem dX10_pair_114 : decode cX10_pair 114 = .ok (.istore_n 3, 1) := by decide +kernel
theorem dX10_pair_115 : decode cX10_pair 115 = .ok (.bipush (-9), 2) := by decide +kernel
theorem dX10_pair_117 : decode cX10_pair 117 = .ok (.istore_n 2, 1) := by decide +kernel
theorem dX10_pair_118 : decode cX10_pair 118 = .ok (.aload_n 0, 1) := by decide +kernel
theorem dX10_pair_119 : decode cX10_pair 119 = .ok (.getfield 10, 3) := by decide +kernel
theorem dX10_pair_122 : decode cX10_pair 122 = .ok (.iload_n 3, 1) := by decide +kernel
theorem dX10_pair_123 : decode cX10_pair 123 = .ok (.iconst 0, 1) := by decide +kernel
theorem dX10_pair_124 : decode cX10_pair 124 = .ok (.invokestatic 353, 3) := by decide +kernel
theorem dX10_pair_127 : decode cX10_pair 127 = .ok (.invokevirtual 131, 3) := by decide +kernel
theorem dX10_pair_130 : decode cX10_pair 130 = .ok (.pop, 1) := by decide +kernel
theorem dX10_pair_131 : decode cX10_pair 131 = .ok (.iload_n 2, 1) := by decide +kernel
theorem dX10_pair_132 : decode cX10_pair 132 = .ok (.ireturn, 1) := by decide +kernel
theorem dX10_saw_0 : decode cX10_saw 0 = .ok (.aload_n 0, 1) := by decide +kernel
theorem dX10_saw_1 : decode cX10_saw 1 = .ok (.getfield 40, 3) := by decide +kernel
theorem dX10_saw_4 : decode cX10_saw 4 = .ok (.iload_n 1, 1) := by decide +kernel
theorem dX10_saw_5 : decode cX10_saw 5 = .ok (.invokevirtual 218, 3) := by decide +kernel
theorem dX10_saw_8 : decode cX10_saw 8 = .ok (.ifCond .eq 12, 3) := by decide +kernel
theorem dX10_saw_11 : decode cX10_saw 11 = .ok (.iload_n 2, 1) := by decide +kernel
theorem dX10_saw_12 : decode cX10_saw 12 = .ok (.ifCond .lt 8, 3) := by decide +kernel
theorem dX10_saw_15 : decode cX10_saw 15 = .ok (.iload_n 2, 1) := by decide +kernel
theorem dX10_saw_16 : decode cX10_saw 16 = .ok (.iconst 1, 1) := by decide +kernel
theorem dX10_saw_17 : decode cX10_saw 17 = .ok (.if_icmp .le 5, 3) := by decide +kernel
theorem dX10_saw_20 : decode cX10_saw 20 = .ok (.iconst (-1), 1) := by decide +kernel
theorem dX10_saw_21 : decode cX10_saw 21 = .ok (.ireturn, 1) := by decide +kernel
theorem dX10_saw_22 : decode cX10_saw 22 = .ok (.aload_n 0, 1) := by decide +kernel
theorem dX10_saw_23 : decode cX10_saw 23 = .ok (.getfield 65, 3) := by decide +kernel
theorem dX10_saw_26 : decode cX10_saw 26 = .ok (.invokevirtual 240, 3) := by decide +kernel
theorem dX10_saw_29 : decode cX10_saw 29 = .ok (.ifCond .eq 6, 3) := by decide +kernel
theorem dX10_saw_32 : decode cX10_saw 32 = .ok (.bipush (-2), 2) := by decide +kernel
theorem dX10_saw_34 : decode cX10_saw 34 = .ok (.ireturn, 1) := by decide +kernel
theorem dX10_saw_35 : decode cX10_saw 35 = .ok (.aload_n 0, 1) := by decide +kernel
theorem dX10_saw_36 : decode cX10_saw 36 = .ok (.getfield 65, 3) := by decide +kernel
theorem dX10_saw_39 : decode cX10_saw 39 = .ok (.iload_n 1, 1) := by decide +kernel
theorem dX10_saw_40 : decode cX10_saw 40 = .ok (.iload_n 2, 1) := by decide +kernel
theorem dX10_saw_41 : decode cX10_saw 41 = .ok (.invokevirtual 247, 3) := by decide +kernel
theorem dX10_saw_44 : decode cX10_saw 44 = .ok (.aload_n 0, 1) := by decide +kernel
theorem dX10_saw_45 : decode cX10_saw 45 = .ok (.getfield 65, 3) := by decide +kernel
theorem dX10_saw_48 : decode cX10_saw 48 = .ok (.getfield 163, 3) := by decide +kernel
theorem dX10_saw_51 : decode cX10_saw 51 = .ok (.iconst 1, 1) := by decide +kernel
theorem dX10_saw_52 : decode cX10_saw 52 = .ok (.isub, 1) := by decide +kernel
theorem dX10_saw_53 : decode cX10_saw 53 = .ok (.ireturn, 1) := by decide +kernel
theorem dX10_forget_0 : decode cX10_forget 0 = .ok (.iload_n 1, 1) := by decide +kernel
theorem dX10_forget_1 : decode cX10_forget 1 = .ok (.ifCond .lt 14, 3) := by decide +kernel
theorem dX10_forget_4 : decode cX10_forget 4 = .ok (.iload_n 1, 1) := by decide +kernel
theorem dX10_forget_5 : decode cX10_forget 5 = .ok (.aload_n 0, 1) := by decide +kernel
theorem dX10_forget_6 : decode cX10_forget 6 = .ok (.getfield 65, 3) := by decide +kernel
theorem dX10_forget_9 : decode cX10_forget 9 = .ok (.getfield 163, 3) := by decide +kernel
theorem dX10_forget_12 : decode cX10_forget 12 = .ok (.if_icmp .le 5, 3) := by decide +kernel
theorem dX10_forget_15 : decode cX10_forget 15 = .ok (.iconst (-1), 1) := by decide +kernel
theorem dX10_forget_16 : decode cX10_forget 16 = .ok (.ireturn, 1) := by decide +kernel
theorem dX10_forget_17 : decode cX10_forget 17 = .ok (.aload_n 0, 1) := by decide +kernel
theorem dX10_forget_18 : decode cX10_forget 18 = .ok (.getfield 65, 3) := by decide +kernel
theorem dX10_forget_21 : decode cX10_forget 21 = .ok (.getfield 163, 3) := by decide +kernel
theorem dX10_forget_24 : decode cX10_forget 24 = .ok (.iload_n 1, 1) := by decide +kernel
theorem dX10_forget_25 : decode cX10_forget 25 = .ok (.isub, 1) := by decide +kernel
theorem dX10_forget_26 : decode cX10_forget 26 = .ok (.istore_n 2, 1) := by decide +kernel
theorem dX10_forget_27 : decode cX10_forget 27 = .ok (.aload_n 0, 1) := by decide +kernel
theorem dX10_forget_28 : decode cX10_forget 28 = .ok (.getfield 65, 3) := by decide +kernel
theorem dX10_forget_31 : decode cX10_forget 31 = .ok (.iload_n 1, 1) := by decide +kernel
theorem dX10_forget_32 : decode cX10_forget 32 = .ok (.putfield 163, 3) := by decide +kernel
theorem dX10_forget_35 : decode cX10_forget 35 = .ok (.iload_n 2, 1) := by decide +kernel
theorem dX10_forget_36 : decode cX10_forget 36 = .ok (.ireturn, 1) := by decide +kernel
theorem dX10_drowned_0 : decode cX10_drowned 0 = .ok (.iconst 1, 1) := by decide +kernel
theorem dX10_drowned_1 : decode cX10_drowned 1 = .ok (.aload_n 0, 1) := by decide +kernel
theorem dX10_drowned_2 : decode cX10_drowned 2 = .ok (.getfield 40, 3) := by decide +kernel
theorem dX10_drowned_5 : decode cX10_drowned 5 = .ok (.getfield 173, 3) := by decide +kernel
theorem dX10_drowned_8 : decode cX10_drowned 8 = .ok (.ishl, 1) := by decide +kernel
theorem dX10_drowned_9 : decode cX10_drowned 9 = .ok (.iconst 1, 1) := by decide +kernel
theorem dX10_drowned_10 : decode cX10_drowned 10 = .ok (.isub, 1) := by decide +kernel
theorem dX10_drowned_11 : decode cX10_drowned 11 = .ok (.istore_n 1, 1) := by decide +kernel
theorem dX10_drowned_12 : decode cX10_drowned 12 = .ok (.iconst 0, 1) := by decide +kernel
theorem dX10_drowned_13 : decode cX10_drowned 13 = .ok (.istore_n 2, 1) := by decide +kernel
theorem dX10_drowned_14 : decode cX10_drowned 14 = .ok (.iconst 0, 1) := by decide +kernel
theorem dX10_drowned_15 : decode cX10_drowned 15 = .ok (.istore_n 3, 1) := by decide +kernel
theorem dX10_drowned_16 : decode cX10_drowned 16 = .ok (.iload_n 3, 1) := by decide +kernel
theorem dX10_drowned_17 : decode cX10_drowned 17 = .ok (.iconst 1, 1) := by decide +kernel
theorem dX10_drowned_18 : decode cX10_drowned 18 = .ok (.aload_n 0, 1) := by decide +kernel
theorem dX10_drowned_19 : decode cX10_drowned 19 = .ok (.getfield 40, 3) := by decide +kernel
theorem dX10_drowned_22 : decode cX10_drowned 22 = .ok (.getfield 173, 3) := by decide +kernel
theorem dX10_drowned_25 : decode cX10_drowned 25 = .ok (.ishl, 1) := by decide +kernel
theorem dX10_drowned_26 : decode cX10_drowned 26 = .ok (.if_icmp .ge 27, 3) := by decide +kernel
theorem dX10_drowned_29 : decode cX10_drowned 29 = .ok (.aload_n 0, 1) := by decide +kernel
theorem dX10_drowned_30 : decode cX10_drowned 30 = .ok (.iload_n 3, 1) := by decide +kernel
theorem dX10_drowned_31 : decode cX10_drowned 31 = .ok (.invokevirtual 358, 3) := by decide +kernel
theorem dX10_drowned_34 : decode cX10_drowned 34 = .ok (.ifCond .ne 6, 3) := by decide +kernel
theorem dX10_drowned_37 : decode cX10_drowned 37 = .ok (.goto 10, 3) := by decide +kernel
theorem dX10_drowned_40 : decode cX10_drowned 40 = .ok (.iinc 2 1, 3) := by decide +kernel
theorem dX10_drowned_43 : decode cX10_drowned 43 = .ok (.iload_n 1, 1) := by decide +kernel
theorem dX10_drowned_44 : decode cX10_drowned 44 = .ok (.iload_n 3, 1) := by decide +kernel
theorem dX10_drowned_45 : decode cX10_drowned 45 = .ok (.iand, 1) := by decide +kernel
theorem dX10_drowned_46 : decode cX10_drowned 46 = .ok (.istore_n 1, 1) := by decide +kernel
theorem dX10_drowned_47 : decode cX10_drowned 47 = .ok (.iinc 3 1, 3) := by decide +kernel
theorem dX10_drowned_50 : decode cX10_drowned 50 = .ok (.goto (-34), 3) := by decide +kernel
theorem dX10_drowned_53 : decode cX10_drowned 53 = .ok (.aload_n 0, 1) := by decide +kernel
theorem dX10_drowned_54 : decode cX10_drowned 54 = .ok (.getfield 10, 3) := by decide +kernel
theorem dX10_drowned_57 : decode cX10_drowned 57 = .ok (.iload_n 2, 1) := by decide +kernel
theorem dX10_drowned_58 : decode cX10_drowned 58 = .ok (.ifCond .ne 7, 3) := by decide +kernel
theorem dX10_drowned_61 : decode cX10_drowned 61 = .ok (.iconst 0, 1) := by decide +kernel
theorem dX10_drowned_62 : decode cX10_drowned 62 = .ok (.goto 4, 3) := by decide +kernel
theorem dX10_drowned_65 : decode cX10_drowned 65 = .ok (.iload_n 1, 1) := by decide +kernel
theorem dX10_drowned_66 : decode cX10_drowned 66 = .ok (.invokevirtual 131, 3) := by decide +kernel
theorem dX10_drowned_69 : decode cX10_drowned 69 = .ok (.pop, 1) := by decide +kernel
theorem dX10_drowned_70 : decode cX10_drowned 70 = .ok (.iload_n 2, 1) := by decide +kernel
theorem dX10_drowned_71 : decode cX10_drowned 71 = .ok (.ireturn, 1) := by decide +kernel
theorem dX10_canHaveHad_0 : decode cX10_canHaveHad 0 = .ok (.iconst 0, 1) := by decide +kernel
theorem dX10_canHaveHad_1 : decode cX10_canHaveHad 1 = .ok (.istore_n 2, 1) := by decide +kernel
theorem dX10_canHaveHad_2 : decode cX10_canHaveHad 2 = .ok (.iconst 0, 1) := by decide +kernel
theorem dX10_canHaveHad_3 : decode cX10_canHaveHad 3 = .ok (.istore_n 3, 1) := by decide +kernel
theorem dX10_canHaveHad_4 : decode cX10_canHaveHad 4 = .ok (.iload_n 3, 1) := by decide +kernel
theorem dX10_canHaveHad_5 : decode cX10_canHaveHad 5 = .ok (.aload_n 0, 1) := by decide +kernel
theorem dX10_canHaveHad_6 : decode cX10_canHaveHad 6 = .ok (.getfield 40, 3) := by decide +kernel
theorem dX10_canHaveHad_9 : decode cX10_canHaveHad 9 = .ok (.getfield 173, 3) := by decide +kernel
theorem dX10_canHaveHad_12 : decode cX10_canHaveHad 12 = .ok (.if_icmp .ge 29, 3) := by decide +kernel
theorem dX10_canHaveHad_15 : decode cX10_canHaveHad 15 = .ok (.iload_n 1, 1) := by decide +kernel
theorem dX10_canHaveHad_16 : decode cX10_canHaveHad 16 = .ok (.iload_n 3, 1) := by decide +kernel
theorem dX10_canHaveHad_17 : decode cX10_canHaveHad 17 = .ok (.ishr, 1) := by decide +kernel
theorem dX10_canHaveHad_18 : decode cX10_canHaveHad 18 = .ok (.iconst 1, 1) := by decide +kernel
theorem dX10_canHaveHad_19 : decode cX10_canHaveHad 19 = .ok (.iand, 1) := by decide +kernel
theorem dX10_canHaveHad_20 : decode cX10_canHaveHad 20 = .ok (.ifCond .eq 15, 3) := by decide +kernel
theorem dX10_canHaveHad_23 : decode cX10_canHaveHad 23 = .ok (.iload_n 2, 1) := by decide +kernel
theorem dX10_canHaveHad_24 : decode cX10_canHaveHad 24 = .ok (.aload_n 0, 1) := by decide +kernel
theorem dX10_canHaveHad_25 : decode cX10_canHaveHad 25 = .ok (.getfield 40, 3) := by decide +kernel
theorem dX10_canHaveHad_28 : decode cX10_canHaveHad 28 = .ok (.getfield 188, 3) := by decide +kernel
theorem dX10_canHaveHad_31 : decode cX10_canHaveHad 31 = .ok (.iload_n 3, 1) := by decide +kernel
theorem dX10_canHaveHad_32 : decode cX10_canHaveHad 32 = .ok (.iaload, 1) := by decide +kernel
theorem dX10_canHaveHad_33 : decode cX10_canHaveHad 33 = .ok (.iadd, 1) := by decide +kernel
theorem dX10_canHaveHad_34 : decode cX10_canHaveHad 34 = .ok (.istore_n 2, 1) := by decide +kernel
theorem dX10_canHaveHad_35 : decode cX10_canHaveHad 35 = .ok (.iinc 3 1, 3) := by decide +kernel
theorem dX10_canHaveHad_38 : decode cX10_canHaveHad 38 = .ok (.goto (-34), 3) := by decide +kernel
theorem dX10_canHaveHad_41 : decode cX10_canHaveHad 41 = .ok (.iload_n 2, 1) := by decide +kernel
theorem dX10_canHaveHad_42 : decode cX10_canHaveHad 42 = .ok (.aload_n 0, 1) := by decide +kernel
theorem dX10_canHaveHad_43 : decode cX10_canHaveHad 43 = .ok (.getfield 49, 3) := by decide +kernel
theorem dX10_canHaveHad_46 : decode cX10_canHaveHad 46 = .ok (.getfield 231, 3) := by decide +kernel
theorem dX10_canHaveHad_49 : decode cX10_canHaveHad 49 = .ok (.if_icmp .le 5, 3) := by decide +kernel
theorem dX10_canHaveHad_52 : decode cX10_canHaveHad 52 = .ok (.iconst 0, 1) := by decide +kernel
theorem dX10_canHaveHad_53 : decode cX10_canHaveHad 53 = .ok (.ireturn, 1) := by decide +kernel
theorem dX10_canHaveHad_54 : decode cX10_canHaveHad 54 = .ok (.iconst 0, 1) := by decide +kernel
theorem dX10_canHaveHad_55 : decode cX10_canHaveHad 55 = .ok (.istore_n 3, 1) := by decide +kernel
theorem dX10_canHaveHad_56 : decode cX10_canHaveHad 56 = .ok (.iload_n 3, 1) := by decide +kernel
theorem dX10_canHaveHad_57 : decode cX10_canHaveHad 57 = .ok (.aload_n 0, 1) := by decide +kernel
theorem dX10_canHaveHad_58 : decode cX10_canHaveHad 58 = .ok (.getfield 65, 3) := by decide +kernel
theorem dX10_canHaveHad_61 : decode cX10_canHaveHad 61 = .ok (.getfield 163, 3) := by decide +kernel
theorem dX10_canHaveHad_64 : decode cX10_canHaveHad 64 = .ok (.if_icmp .ge 61, 3) := by decide +kernel
theorem dX10_canHaveHad_67 : decode cX10_canHaveHad 67 = .ok (.aload_n 0, 1) := by decide +kernel
theorem dX10_canHaveHad_68 : decode cX10_canHaveHad 68 = .ok (.getfield 40, 3) := by decide +kernel
theorem dX10_canHaveHad_71 : decode cX10_canHaveHad 71 = .ok (.getfield 361, 3) := by decide +kernel
theorem dX10_canHaveHad_74 : decode cX10_canHaveHad 74 = .ok (.aload_n 0, 1) := by decide +kernel
theorem dX10_canHaveHad_75 : decode cX10_canHaveHad 75 = .ok (.getfield 65, 3) := by decide +kernel
theorem dX10_canHaveHad_78 : decode cX10_canHaveHad 78 = .ok (.iload_n 3, 1) := by decide +kernel
theorem dX10_canHaveHad_79 : decode cX10_canHaveHad 79 = .ok (.invokevirtual 259, 3) := by decide +kernel
theorem dX10_canHaveHad_82 : decode cX10_canHaveHad 82 = .ok (.iaload, 1) := by decide +kernel
theorem dX10_canHaveHad_83 : decode cX10_canHaveHad 83 = .ok (.iload_n 1, 1) := by decide +kernel
theorem dX10_canHaveHad_84 : decode cX10_canHaveHad 84 = .ok (.iand, 1) := by decide +kernel
theorem dX10_canHaveHad_85 : decode cX10_canHaveHad 85 = .ok (.ifCond .ne 7, 3) := by decide +kernel
theorem dX10_canHaveHad_88 : decode cX10_canHaveHad 88 = .ok (.iconst 1, 1) := by decide +kernel
theorem dX10_canHaveHad_89 : decode cX10_canHaveHad 89 = .ok (.goto 4, 3) := by decide +kernel
theorem dX10_canHaveHad_92 : decode cX10_canHaveHad 92 = .ok (.iconst 0, 1) := by decide +kernel
theorem dX10_canHaveHad_93 : decode cX10_canHaveHad 93 = .ok (.istore 4, 2) := by decide +kernel
theorem dX10_canHaveHad_95 : decode cX10_canHaveHad 95 = .ok (.iload 4, 2) := by decide +kernel
theorem dX10_canHaveHad_97 : decode cX10_canHaveHad 97 = .ok (.aload_n 0, 1) := by decide +kernel
theorem dX10_canHaveHad_98 : decode cX10_canHaveHad 98 = .ok (.getfield 65, 3) := by decide +kernel
theorem dX10_canHaveHad_101 : decode cX10_canHaveHad 101 = .ok (.iload_n 3, 1) := by decide +kernel
theorem dX10_canHaveHad_102 : decode cX10_canHaveHad 102 = .ok (.invokevirtual 262, 3) := by decide +kernel
theorem dX10_canHaveHad_105 : decode cX10_canHaveHad 105 = .ok (.iconst 1, 1) := by decide +kernel
theorem dX10_canHaveHad_106 : decode cX10_canHaveHad 106 = .ok (.if_icmp .ne 7, 3) := by decide +kernel
theorem dX10_canHaveHad_109 : decode cX10_canHaveHad 109 = .ok (.iconst 1, 1) := by decide +kernel
theorem dX10_canHaveHad_110 : decode cX10_canHaveHad 110 = .ok (.goto 4, 3) := by decide +kernel
theorem dX10_canHaveHad_113 : decode cX10_canHaveHad 113 = .ok (.iconst 0, 1) := by decide +kernel
theorem dX10_canHaveHad_114 : decode cX10_canHaveHad 114 = .ok (.if_icmp .eq 5, 3) := by decide +kernel
theorem dX10_canHaveHad_117 : decode cX10_canHaveHad 117 = .ok (.iconst 0, 1) := by decide +kernel
theorem dX10_canHaveHad_118 : decode cX10_canHaveHad 118 = .ok (.ireturn, 1) := by decide +kernel
theorem dX10_canHaveHad_119 : decode cX10_canHaveHad 119 = .ok (.iinc 3 1, 3) := by decide +kernel
theorem dX10_canHaveHad_122 : decode cX10_canHaveHad 122 = .ok (.goto (-66), 3) := by decide +kernel
theorem dX10_canHaveHad_125 : decode cX10_canHaveHad 125 = .ok (.iconst 1, 1) := by decide +kernel
theorem dX10_canHaveHad_126 : decode cX10_canHaveHad 126 = .ok (.ireturn, 1) := by decide +kernel
theorem dX10_odds_0 : decode cX10_odds 0 = .ok (.aload_n 0, 1) := by decide +kernel
theorem dX10_odds_1 : decode cX10_odds 1 = .ok (.getfield 40, 3) := by decide +kernel
theorem dX10_odds_4 : decode cX10_odds 4 = .ok (.iload_n 1, 1) := by decide +kernel
theorem dX10_odds_5 : decode cX10_odds 5 = .ok (.invokevirtual 176, 3) := by decide +kernel
theorem dX10_odds_8 : decode cX10_odds 8 = .ok (.ifCond .ne 5, 3) := by decide +kernel
theorem dX10_odds_11 : decode cX10_odds 11 = .ok (.iconst (-1), 1) := by decide +kernel
theorem dX10_odds_12 : decode cX10_odds 12 = .ok (.ireturn, 1) := by decide +kernel
theorem dX10_odds_13 : decode cX10_odds 13 = .ok (.iconst 0, 1) := by decide +kernel
theorem dX10_odds_14 : decode cX10_odds 14 = .ok (.istore_n 2, 1) := by decide +kernel
theorem dX10_odds_15 : decode cX10_odds 15 = .ok (.iconst 0, 1) := by decide +kernel
theorem dX10_odds_16 : decode cX10_odds 16 = .ok (.istore_n 3, 1) := by decide +kernel
theorem dX10_odds_17 : decode cX10_odds 17 = .ok (.iconst 0, 1) := by decide +kernel
theorem dX10_odds_18 : decode cX10_odds 18 = .ok (.istore 4, 2) := by decide +kernel
theorem dX10_odds_20 : decode cX10_odds 20 = .ok (.iload 4, 2) := by decide +kernel
theorem dX10_odds_22 : decode cX10_odds 22 = .ok (.iconst 1, 1) := by decide +kernel
theorem dX10_odds_23 : decode cX10_odds 23 = .ok (.aload_n 0, 1) := by decide +kernel
theorem dX10_odds_24 : decode cX10_odds 24 = .ok (.getfield 40, 3) := by decide +kernel
theorem dX10_odds_27 : decode cX10_odds 27 = .ok (.getfield 173, 3) := by decide +kernel
theorem dX10_odds_30 : decode cX10_odds 30 = .ok (.ishl, 1) := by decide +kernel
theorem dX10_odds_31 : decode cX10_odds 31 = .ok (.if_icmp .ge 33, 3) := by decide +kernel
theorem dX10_odds_34 : decode cX10_odds 34 = .ok (.aload_n 0, 1) := by decide +kernel
theorem dX10_odds_35 : decode cX10_odds 35 = .ok (.iload 4, 2) := by decide +kernel
theorem dX10_odds_37 : decode cX10_odds 37 = .ok (.invokevirtual 358, 3) := by decide +kernel
theorem dX10_odds_40 : decode cX10_odds 40 = .ok (.ifCond .ne 6, 3) := by decide +kernel
theorem dX10_odds_43 : decode cX10_odds 43 = .ok (.goto 15, 3) := by decide +kernel
theorem dX10_odds_46 : decode cX10_odds 46 = .ok (.iinc 2 1, 3) := by decide +kernel
theorem dX10_odds_49 : decode cX10_odds 49 = .ok (.iload_n 3, 1) := by decide +kernel
theorem dX10_odds_50 : decode cX10_odds 50 = .ok (.iload 4, 2) := by decide +kernel
theorem dX10_odds_52 : decode cX10_odds 52 = .ok (.iload_n 1, 1) := by decide +kernel
theorem dX10_odds_53 : decode cX10_odds 53 = .ok (.ishr, 1) := by decide +kernel
theorem dX10_odds_54 : decode cX10_odds 54 = .ok (.iconst 1, 1) := by decide +kernel
theorem dX10_odds_55 : decode cX10_odds 55 = .ok (.iand, 1) := by decide +kernel
theorem dX10_odds_56 : decode cX10_odds 56 = .ok (.iadd, 1) := by decide +kernel
theorem dX10_odds_57 : decode cX10_odds 57 = .ok (.istore_n 3, 1) := by decide +kernel
theorem dX10_odds_58 : decode cX10_odds 58 = .ok (.iinc 4 1, 3) := by decide +kernel
theorem dX10_odds_61 : decode cX10_odds 61 = .ok (.goto (-41), 3) := by decide +kernel
theorem dX10_odds_64 : decode cX10_odds 64 = .ok (.iload_n 2, 1) := by decide +kernel
theorem dX10_odds_65 : decode cX10_odds 65 = .ok (.ifCond .ne 12, 3) := by decide +kernel
theorem dX10_odds_68 : decode cX10_odds 68 = .ok (.aload_n 0, 1) := by decide +kernel
theorem dX10_odds_69 : decode cX10_odds 69 = .ok (.getfield 10, 3) := by decide +kernel
theorem dX10_odds_72 : decode cX10_odds 72 = .ok (.iconst 4, 1) := by decide +kernel
theorem dX10_odds_73 : decode cX10_odds 73 = .ok (.invokevirtual 109, 3) := by decide +kernel
theorem dX10_odds_76 : decode cX10_odds 76 = .ok (.ireturn, 1) := by decide +kernel
theorem dX10_odds_77 : decode cX10_odds 77 = .ok (.aload_n 0, 1) := by decide +kernel
theorem dX10_odds_78 : decode cX10_odds 78 = .ok (.getfield 10, 3) := by decide +kernel
theorem dX10_odds_81 : decode cX10_odds 81 = .ok (.iload_n 3, 1) := by decide +kernel
theorem dX10_odds_82 : decode cX10_odds 82 = .ok (.iload_n 2, 1) := by decide +kernel
theorem dX10_odds_83 : decode cX10_odds 83 = .ok (.invokevirtual 364, 3) := by decide +kernel
theorem dX10_odds_86 : decode cX10_odds 86 = .ok (.iload_n 3, 1) := by decide +kernel
theorem dX10_odds_87 : decode cX10_odds 87 = .ok (.ireturn, 1) := by decide +kernel
theorem dX10_image_0 : decode cX10_image 0 = .ok (.aload_n 0, 1) := by decide +kernel
theorem dX10_image_1 : decode cX10_image 1 = .ok (.getfield 21, 3) := by decide +kernel
theorem dX10_image_4 : decode cX10_image 4 = .ok (.iload_n 1, 1) := by decide +kernel
theorem dX10_image_5 : decode cX10_image 5 = .ok (.invokevirtual 105, 3) := by decide +kernel
theorem dX10_image_8 : decode cX10_image 8 = .ok (.ifCond .ne 5, 3) := by decide +kernel
theorem dX10_image_11 : decode cX10_image 11 = .ok (.iconst (-1), 1) := by decide +kernel
theorem dX10_image_12 : decode cX10_image 12 = .ok (.ireturn, 1) := by decide +kernel
theorem dX10_image_13 : decode cX10_image 13 = .ok (.aload_n 0, 1) := by decide +kernel
theorem dX10_image_14 : decode cX10_image 14 = .ok (.getfield 21, 3) := by decide +kernel
theorem dX10_image_17 : decode cX10_image 17 = .ok (.iload_n 1, 1) := by decide +kernel
theorem dX10_image_18 : decode cX10_image 18 = .ok (.aload_n 0, 1) := by decide +kernel
theorem dX10_image_19 : decode cX10_image 19 = .ok (.getfield 40, 3) := by decide +kernel
theorem dX10_image_22 : decode cX10_image 22 = .ok (.getfield 173, 3) := by decide +kernel
theorem dX10_image_25 : decode cX10_image 25 = .ok (.iconst 1, 1) := by decide +kernel
theorem dX10_image_26 : decode cX10_image 26 = .ok (.iadd, 1) := by decide +kernel
theorem dX10_image_27 : decode cX10_image 27 = .ok (.iconst 0, 1) := by decide +kernel
theorem dX10_image_28 : decode cX10_image 28 = .ok (.invokevirtual 113, 3) := by decide +kernel
theorem dX10_image_31 : decode cX10_image 31 = .ok (.iconst 0, 1) := by decide +kernel
theorem dX10_image_32 : decode cX10_image 32 = .ok (.istore_n 2, 1) := by decide +kernel
theorem dX10_image_33 : decode cX10_image 33 = .ok (.iload_n 2, 1) := by decide +kernel
theorem dX10_image_34 : decode cX10_image 34 = .ok (.aload_n 0, 1) := by decide +kernel
theorem dX10_image_35 : decode cX10_image 35 = .ok (.getfield 40, 3) := by decide +kernel
theorem dX10_image_38 : decode cX10_image 38 = .ok (.getfield 173, 3) := by decide +kernel
theorem dX10_image_41 : decode cX10_image 41 = .ok (.if_icmp .ge 27, 3) := by decide +kernel
theorem dX10_image_44 : decode cX10_image 44 = .ok (.aload_n 0, 1) := by decide +kernel
theorem dX10_image_45 : decode cX10_image 45 = .ok (.getfield 21, 3) := by decide +kernel
theorem dX10_image_48 : decode cX10_image 48 = .ok (.iload_n 1, 1) := by decide +kernel
theorem dX10_image_49 : decode cX10_image 49 = .ok (.iload_n 2, 1) := by decide +kernel
theorem dX10_image_50 : decode cX10_image 50 = .ok (.aload_n 0, 1) := by decide +kernel
theorem dX10_image_51 : decode cX10_image 51 = .ok (.getfield 49, 3) := by decide +kernel
theorem dX10_image_54 : decode cX10_image 54 = .ok (.getfield 185, 3) := by decide +kernel
theorem dX10_image_57 : decode cX10_image 57 = .ok (.iload_n 2, 1) := by decide +kernel
theorem dX10_image_58 : decode cX10_image 58 = .ok (.iaload, 1) := by decide +kernel
theorem dX10_image_59 : decode cX10_image 59 = .ok (.invokevirtual 128, 3) := by decide +kernel
theorem dX10_image_62 : decode cX10_image 62 = .ok (.iinc 2 1, 3) := by decide +kernel
theorem dX10_image_65 : decode cX10_image 65 = .ok (.goto (-32), 3) := by decide +kernel
theorem dX10_image_68 : decode cX10_image 68 = .ok (.aload_n 0, 1) := by decide +kernel
theorem dX10_image_69 : decode cX10_image 69 = .ok (.getfield 21, 3) := by decide +kernel
theorem dX10_image_72 : decode cX10_image 72 = .ok (.iload_n 1, 1) := by decide +kernel
theorem dX10_image_73 : decode cX10_image 73 = .ok (.aload_n 0, 1) := by decide +kernel
theorem dX10_image_74 : decode cX10_image 74 = .ok (.getfield 40, 3) := by decide +kernel
theorem dX10_image_77 : decode cX10_image 77 = .ok (.getfield 173, 3) := by decide +kernel
theorem dX10_image_80 : decode cX10_image 80 = .ok (.aload_n 0, 1) := by decide +kernel
theorem dX10_image_81 : decode cX10_image 81 = .ok (.getfield 49, 3) := by decide +kernel
theorem dX10_image_84 : decode cX10_image 84 = .ok (.getfield 231, 3) := by decide +kernel
theorem dX10_image_87 : decode cX10_image 87 = .ok (.invokevirtual 128, 3) := by decide +kernel
theorem dX10_image_90 : decode cX10_image 90 = .ok (.aload_n 0, 1) := by decide +kernel
theorem dX10_image_91 : decode cX10_image 91 = .ok (.getfield 40, 3) := by decide +kernel
theorem dX10_image_94 : decode cX10_image 94 = .ok (.getfield 173, 3) := by decide +kernel
theorem dX10_image_97 : decode cX10_image 97 = .ok (.iconst 1, 1) := by decide +kernel
theorem dX10_image_98 : decode cX10_image 98 = .ok (.iadd, 1) := by decide +kernel
theorem dX10_image_99 : decode cX10_image 99 = .ok (.ireturn, 1) := by decide +kernel
theorem dX10_gone_0 : decode cX10_gone 0 = .ok (.aload_n 0, 1) := by decide +kernel
theorem dX10_gone_1 : decode cX10_gone 1 = .ok (.getfield 21, 3) := by decide +kernel
theorem dX10_gone_4 : decode cX10_gone 4 = .ok (.iload_n 1, 1) := by decide +kernel
theorem dX10_gone_5 : decode cX10_gone 5 = .ok (.invokevirtual 105, 3) := by decide +kernel
theorem dX10_gone_8 : decode cX10_gone 8 = .ok (.ifCond .ne 5, 3) := by decide +kernel
theorem dX10_gone_11 : decode cX10_gone 11 = .ok (.iconst (-1), 1) := by decide +kernel
theorem dX10_gone_12 : decode cX10_gone 12 = .ok (.ireturn, 1) := by decide +kernel
theorem dX10_gone_13 : decode cX10_gone 13 = .ok (.aload_n 0, 1) := by decide +kernel
theorem dX10_gone_14 : decode cX10_gone 14 = .ok (.getfield 21, 3) := by decide +kernel
theorem dX10_gone_17 : decode cX10_gone 17 = .ok (.iload_n 1, 1) := by decide +kernel
theorem dX10_gone_18 : decode cX10_gone 18 = .ok (.invokevirtual 117, 3) := by decide +kernel
theorem dX10_gone_21 : decode cX10_gone 21 = .ok (.ifCond .eq 12, 3) := by decide +kernel
theorem dX10_gone_24 : decode cX10_gone 24 = .ok (.aload_n 0, 1) := by decide +kernel
theorem dX10_gone_25 : decode cX10_gone 25 = .ok (.getfield 10, 3) := by decide +kernel
theorem dX10_gone_28 : decode cX10_gone 28 = .ok (.iconst 1, 1) := by decide +kernel
theorem dX10_gone_29 : decode cX10_gone 29 = .ok (.invokevirtual 109, 3) := by decide +kernel
theorem dX10_gone_32 : decode cX10_gone 32 = .ok (.ireturn, 1) := by decide +kernel
theorem dX10_gone_33 : decode cX10_gone 33 = .ok (.aload_n 0, 1) := by decide +kernel
theorem dX10_gone_34 : decode cX10_gone 34 = .ok (.getfield 21, 3) := by decide +kernel
theorem dX10_gone_37 : decode cX10_gone 37 = .ok (.iload_n 1, 1) := by decide +kernel
theorem dX10_gone_38 : decode cX10_gone 38 = .ok (.invokevirtual 141, 3) := by decide +kernel
theorem dX10_gone_41 : decode cX10_gone 41 = .ok (.aload_n 0, 1) := by decide +kernel
theorem dX10_gone_42 : decode cX10_gone 42 = .ok (.getfield 40, 3) := by decide +kernel
theorem dX10_gone_45 : decode cX10_gone 45 = .ok (.getfield 173, 3) := by decide +kernel
theorem dX10_gone_48 : decode cX10_gone 48 = .ok (.iconst 1, 1) := by decide +kernel
theorem dX10_gone_49 : decode cX10_gone 49 = .ok (.iadd, 1) := by decide +kernel
theorem dX10_gone_50 : decode cX10_gone 50 = .ok (.if_icmp .eq 12, 3) := by decide +kernel
theorem dX10_gone_53 : decode cX10_gone 53 = .ok (.aload_n 0, 1) := by decide +kernel
theorem dX10_gone_54 : decode cX10_gone 54 = .ok (.getfield 10, 3) := by decide +kernel
theorem dX10_gone_57 : decode cX10_gone 57 = .ok (.iconst 5, 1) := by decide +kernel
theorem dX10_gone_58 : decode cX10_gone 58 = .ok (.invokevirtual 109, 3) := by decide +kernel
theorem dX10_gone_61 : decode cX10_gone 61 = .ok (.ireturn, 1) := by decide +kernel
theorem dX10_gone_62 : decode cX10_gone 62 = .ok (.aload_n 0, 1) := by decide +kernel
theorem dX10_gone_63 : decode cX10_gone 63 = .ok (.getfield 21, 3) := by decide +kernel
theorem dX10_gone_66 : decode cX10_gone 66 = .ok (.iload_n 1, 1) := by decide +kernel
theorem dX10_gone_67 : decode cX10_gone 67 = .ok (.aload_n 0, 1) := by decide +kernel
theorem dX10_gone_68 : decode cX10_gone 68 = .ok (.getfield 40, 3) := by decide +kernel
theorem dX10_gone_71 : decode cX10_gone 71 = .ok (.getfield 173, 3) := by decide +kernel
theorem dX10_gone_74 : decode cX10_gone 74 = .ok (.invokevirtual 124, 3) := by decide +kernel
theorem dX10_gone_77 : decode cX10_gone 77 = .ok (.istore_n 2, 1) := by decide +kernel
theorem dX10_gone_78 : decode cX10_gone 78 = .ok (.iload_n 2, 1) := by decide +kernel
theorem dX10_gone_79 : decode cX10_gone 79 = .ok (.iconst 1, 1) := by decide +kernel
theorem dX10_gone_80 : decode cX10_gone 80 = .ok (.if_icmp .lt 9, 3) := by decide +kernel
theorem dX10_gone_83 : decode cX10_gone 83 = .ok (.iload_n 2, 1) := by decide +kernel
theorem dX10_gone_84 : decode cX10_gone 84 = .ok (.bipush 6, 2) := by decide +kernel
theorem dX10_gone_86 : decode cX10_gone 86 = .ok (.if_icmp .le 12, 3) := by decide +kernel
theorem dX10_gone_89 : decode cX10_gone 89 = .ok (.aload_n 0, 1) := by decide +kernel
theorem dX10_gone_90 : decode cX10_gone 90 = .ok (.getfield 10, 3) := by decide +kernel
theorem dX10_gone_93 : decode cX10_gone 93 = .ok (.iconst 3, 1) := by decide +kernel
theorem dX10_gone_94 : decode cX10_gone 94 = .ok (.invokevirtual 109, 3) := by decide +kernel
theorem dX10_gone_97 : decode cX10_gone 97 = .ok (.ireturn, 1) := by decide +kernel
theorem dX10_gone_98 : decode cX10_gone 98 = .ok (.iconst 0, 1) := by decide +kernel
theorem dX10_gone_99 : decode cX10_gone 99 = .ok (.istore_n 3, 1) := by decide +kernel
theorem dX10_gone_100 : decode cX10_gone 100 = .ok (.iload_n 3, 1) := by decide +kernel
theorem dX10_gone_101 : decode cX10_gone 101 = .ok (.aload_n 0, 1) := by decide +kernel
theorem dX10_gone_102 : decode cX10_gone 102 = .ok (.getfield 40, 3) := by decide +kernel
theorem dX10_gone_105 : decode cX10_gone 105 = .ok (.getfield 173, 3) := by decide +kernel
theorem dX10_gone_108 : decode cX10_gone 108 = .ok (.if_icmp .ge 55, 3) := by decide +kernel
theorem dX10_gone_111 : decode cX10_gone 111 = .ok (.aload_n 0, 1) := by decide +kernel
theorem dX10_gone_112 : decode cX10_gone 112 = .ok (.getfield 40, 3) := by decide +kernel
theorem dX10_gone_115 : decode cX10_gone 115 = .ok (.aload_n 0, 1) := by decide +kernel
theorem dX10_gone_116 : decode cX10_gone 116 = .ok (.getfield 21, 3) := by decide +kernel
theorem dX10_gone_119 : decode cX10_gone 119 = .ok (.iload_n 1, 1) := by decide +kernel
theorem dX10_gone_120 : decode cX10_gone 120 = .ok (.iload_n 3, 1) := by decide +kernel
theorem dX10_gone_121 : decode cX10_gone 121 = .ok (.invokevirtual 124, 3) := by decide +kernel
theorem dX10_gone_124 : decode cX10_gone 124 = .ok (.invokevirtual 367, 3) := by decide +kernel
theorem dX10_gone_127 : decode cX10_gone 127 = .ok (.ifCond .ne 12, 3) := by decide +kernel
theorem dX10_gone_130 : decode cX10_gone 130 = .ok (.aload_n 0, 1) := by decide +kernel
theorem dX10_gone_131 : decode cX10_gone 131 = .ok (.getfield 10, 3) := by decide +kernel
theorem dX10_gone_134 : decode cX10_gone 134 = .ok (.iconst 3, 1) := by decide +kernel
theorem dX10_gone_135 : decode cX10_gone 135 = .ok (.invokevirtual 109, 3) := by decide +kernel
theorem dX10_gone_138 : decode cX10_gone 138 = .ok (.ireturn, 1) := by decide +kernel
theorem dX10_gone_139 : decode cX10_gone 139 = .ok (.aload_n 0, 1) := by decide +kernel
theorem dX10_gone_140 : decode cX10_gone 140 = .ok (.getfield 53, 3) := by decide +kernel
theorem dX10_gone_143 : decode cX10_gone 143 = .ok (.getfield 185, 3) := by decide +kernel
theorem dX10_gone_146 : decode cX10_gone 146 = .ok (.iload_n 3, 1) := by decide +kernel
theorem dX10_gone_147 : decode cX10_gone 147 = .ok (.aload_n 0, 1) := by decide +kernel
theorem dX10_gone_148 : decode cX10_gone 148 = .ok (.getfield 21, 3) := by decide +kernel
theorem dX10_gone_151 : decode cX10_gone 151 = .ok (.iload_n 1, 1) := by decide +kernel
theorem dX10_gone_152 : decode cX10_gone 152 = .ok (.iload_n 3, 1) := by decide +kernel
theorem dX10_gone_153 : decode cX10_gone 153 = .ok (.invokevirtual 124, 3) := by decide +kernel
theorem dX10_gone_156 : decode cX10_gone 156 = .ok (.iastore, 1) := by decide +kernel
theorem dX10_gone_157 : decode cX10_gone 157 = .ok (.iinc 3 1, 3) := by decide +kernel
theorem dX10_gone_160 : decode cX10_gone 160 = .ok (.goto (-60), 3) := by decide +kernel
theorem dX10_gone_163 : decode cX10_gone 163 = .ok (.aload_n 0, 1) := by decide +kernel
theorem dX10_gone_164 : decode cX10_gone 164 = .ok (.getfield 53, 3) := by decide +kernel
theorem dX10_gone_167 : decode cX10_gone 167 = .ok (.iload_n 2, 1) := by decide +kernel
theorem dX10_gone_168 : decode cX10_gone 168 = .ok (.putfield 231, 3) := by decide +kernel
theorem dX10_gone_171 : decode cX10_gone 171 = .ok (.aload_n 0, 1) := by decide +kernel
theorem dX10_gone_172 : decode cX10_gone 172 = .ok (.getfield 53, 3) := by decide +kernel
theorem dX10_gone_175 : decode cX10_gone 175 = .ok (.invokevirtual 370, 3) := by decide +kernel
theorem dX10_gone_178 : decode cX10_gone 178 = .ok (.ifCond .ne 12, 3) := by decide +kernel
theorem dX10_gone_181 : decode cX10_gone 181 = .ok (.aload_n 0, 1) := by decide +kernel
theorem dX10_gone_182 : decode cX10_gone 182 = .ok (.getfield 10, 3) := by decide +kernel
theorem dX10_gone_185 : decode cX10_gone 185 = .ok (.iconst 3, 1) := by decide +kernel
theorem dX10_gone_186 : decode cX10_gone 186 = .ok (.invokevirtual 109, 3) := by decide +kernel
theorem dX10_gone_189 : decode cX10_gone 189 = .ok (.ireturn, 1) := by decide +kernel
theorem dX10_gone_190 : decode cX10_gone 190 = .ok (.aload_n 0, 1) := by decide +kernel
theorem dX10_gone_191 : decode cX10_gone 191 = .ok (.aload_n 0, 1) := by decide +kernel
theorem dX10_gone_192 : decode cX10_gone 192 = .ok (.getfield 53, 3) := by decide +kernel
theorem dX10_gone_195 : decode cX10_gone 195 = .ok (.invokevirtual 274, 3) := by decide +kernel
theorem dX10_gone_198 : decode cX10_gone 198 = .ok (.iload_n 2, 1) := by decide +kernel
theorem dX10_gone_199 : decode cX10_gone 199 = .ok (.invokevirtual 277, 3) := by decide +kernel
theorem dX10_gone_202 : decode cX10_gone 202 = .ok (.iconst 1, 1) := by decide +kernel
theorem dX10_gone_203 : decode cX10_gone 203 = .ok (.ireturn, 1) := by decide +kernel
theorem dX10_asked_0 : decode cX10_asked 0 = .ok (.aload_n 0, 1) := by decide +kernel
theorem dX10_asked_1 : decode cX10_asked 1 = .ok (.getfield 10, 3) := by decide +kernel
theorem dX10_asked_4 : decode cX10_asked 4 = .ok (.getfield 373, 3) := by decide +kernel
theorem dX10_asked_7 : decode cX10_asked 7 = .ok (.ireturn, 1) := by decide +kernel
theorem dX10_upper_0 : decode cX10_upper 0 = .ok (.aload_n 0, 1) := by decide +kernel
theorem dX10_upper_1 : decode cX10_upper 1 = .ok (.getfield 10, 3) := by decide +kernel
theorem dX10_upper_4 : decode cX10_upper 4 = .ok (.getfield 376, 3) := by decide +kernel
theorem dX10_upper_7 : decode cX10_upper 7 = .ok (.lreturn, 1) := by decide +kernel
theorem dX10_lower_0 : decode cX10_lower 0 = .ok (.aload_n 0, 1) := by decide +kernel
theorem dX10_lower_1 : decode cX10_lower 1 = .ok (.getfield 10, 3) := by decide +kernel
theorem dX10_lower_4 : decode cX10_lower 4 = .ok (.getfield 380, 3) := by decide +kernel
theorem dX10_lower_7 : decode cX10_lower 7 = .ok (.lreturn, 1) := by decide +kernel
theorem dX10_count_0 : decode cX10_count 0 = .ok (.iload_n 1, 1) := by decide +kernel
theorem dX10_count_1 : decode cX10_count 1 = .ok (.ifCond .lt 9, 3) := by decide +kernel
theorem dX10_count_4 : decode cX10_count 4 = .ok (.iload_n 1, 1) := by decide +kernel
theorem dX10_count_5 : decode cX10_count 5 = .ok (.bipush 8, 2) := by decide +kernel
theorem dX10_count_7 : decode cX10_count 7 = .ok (.if_icmp .lt 5, 3) := by decide +kernel
theorem dX10_count_10 : decode cX10_count 10 = .ok (.iconst (-1), 1) := by decide +kernel
theorem dX10_count_11 : decode cX10_count 11 = .ok (.ireturn, 1) := by decide +kernel
theorem dX10_count_12 : decode cX10_count 12 = .ok (.aload_n 0, 1) := by decide +kernel
theorem dX10_count_13 : decode cX10_count 13 = .ok (.iload_n 1, 1) := by decide +kernel
theorem dX10_count_14 : decode cX10_count 14 = .ok (.invokevirtual 383, 3) := by decide +kernel
theorem dX10_count_17 : decode cX10_count 17 = .ok (.ireturn, 1) := by decide +kernel
theorem dX10_countOf_0 : decode cX10_countOf 0 = .ok (.iload_n 1, 1) := by decide +kernel
theorem dX10_countOf_1 : decode cX10_countOf 1 = .ok (.tableswitch 99 0 6 #[43, 51, 59, 67, 75, 83, 91], 43) := by decide +kernel
theorem dX10_countOf_44 : decode cX10_countOf 44 = .ok (.aload_n 0, 1) := by decide +kernel
theorem dX10_countOf_45 : decode cX10_countOf 45 = .ok (.getfield 40, 3) := by decide +kernel
theorem dX10_countOf_48 : decode cX10_countOf 48 = .ok (.getfield 271, 3) := by decide +kernel
theorem dX10_countOf_51 : decode cX10_countOf 51 = .ok (.ireturn, 1) := by decide +kernel
theorem dX10_countOf_52 : decode cX10_countOf 52 = .ok (.aload_n 0, 1) := by decide +kernel
theorem dX10_countOf_53 : decode cX10_countOf 53 = .ok (.getfield 40, 3) := by decide +kernel
theorem dX10_countOf_56 : decode cX10_countOf 56 = .ok (.getfield 173, 3) := by decide +kernel
theorem dX10_countOf_59 : decode cX10_countOf 59 = .ok (.ireturn, 1) := by decide +kernel
theorem dX10_countOf_60 : decode cX10_countOf 60 = .ok (.aload_n 0, 1) := by decide +kernel
theorem dX10_countOf_61 : decode cX10_countOf 61 = .ok (.getfield 40, 3) := by decide +kernel
theorem dX10_countOf_64 : decode cX10_countOf 64 = .ok (.getfield 386, 3) := by decide +kernel
theorem dX10_countOf_67 : decode cX10_countOf 67 = .ok (.ireturn, 1) := by decide +kernel
theorem dX10_countOf_68 : decode cX10_countOf 68 = .ok (.aload_n 0, 1) := by decide +kernel
theorem dX10_countOf_69 : decode cX10_countOf 69 = .ok (.getfield 61, 3) := by decide +kernel
theorem dX10_countOf_72 : decode cX10_countOf 72 = .ok (.getfield 163, 3) := by decide +kernel
theorem dX10_countOf_75 : decode cX10_countOf 75 = .ok (.ireturn, 1) := by decide +kernel
theorem dX10_countOf_76 : decode cX10_countOf 76 = .ok (.aload_n 0, 1) := by decide +kernel
theorem dX10_countOf_77 : decode cX10_countOf 77 = .ok (.getfield 40, 3) := by decide +kernel
theorem dX10_countOf_80 : decode cX10_countOf 80 = .ok (.getfield 389, 3) := by decide +kernel
theorem dX10_countOf_83 : decode cX10_countOf 83 = .ok (.ireturn, 1) := by decide +kernel
theorem dX10_countOf_84 : decode cX10_countOf 84 = .ok (.aload_n 0, 1) := by decide +kernel
theorem dX10_countOf_85 : decode cX10_countOf 85 = .ok (.getfield 65, 3) := by decide +kernel
theorem dX10_countOf_88 : decode cX10_countOf 88 = .ok (.getfield 163, 3) := by decide +kernel
theorem dX10_countOf_91 : decode cX10_countOf 91 = .ok (.ireturn, 1) := by decide +kernel
theorem dX10_countOf_92 : decode cX10_countOf 92 = .ok (.aload_n 0, 1) := by decide +kernel
theorem dX10_countOf_93 : decode cX10_countOf 93 = .ok (.getfield 21, 3) := by decide +kernel
theorem dX10_countOf_96 : decode cX10_countOf 96 = .ok (.invokevirtual 392, 3) := by decide +kernel
theorem dX10_countOf_99 : decode cX10_countOf 99 = .ok (.ireturn, 1) := by decide +kernel
theorem dX10_countOf_100 : decode cX10_countOf 100 = .ok (.aload_n 0, 1) := by decide +kernel
theorem dX10_countOf_101 : decode cX10_countOf 101 = .ok (.getfield 25, 3) := by decide +kernel
theorem dX10_countOf_104 : decode cX10_countOf 104 = .ok (.invokevirtual 392, 3) := by decide +kernel
theorem dX10_countOf_107 : decode cX10_countOf 107 = .ok (.ireturn, 1) := by decide +kernel
theorem dX10_finding_0 : decode cX10_finding 0 = .ok (.aload_n 0, 1) := by decide +kernel
theorem dX10_finding_1 : decode cX10_finding 1 = .ok (.getfield 10, 3) := by decide +kernel
theorem dX10_finding_4 : decode cX10_finding 4 = .ok (.getfield 395, 3) := by decide +kernel
theorem dX10_finding_7 : decode cX10_finding 7 = .ok (.ireturn, 1) := by decide +kernel
theorem dX10_findings_0 : decode cX10_findings 0 = .ok (.iload_n 1, 1) := by decide +kernel
theorem dX10_findings_1 : decode cX10_findings 1 = .ok (.iconst 1, 1) := by decide +kernel
theorem dX10_findings_2 : decode cX10_findings 2 = .ok (.if_icmp .lt 8, 3) := by decide +kernel
theorem dX10_findings_5 : decode cX10_findings 5 = .ok (.iload_n 1, 1) := by decide +kernel
theorem dX10_findings_6 : decode cX10_findings 6 = .ok (.iconst 5, 1) := by decide +kernel
theorem dX10_findings_7 : decode cX10_findings 7 = .ok (.if_icmp .le 5, 3) := by decide +kernel
theorem dX10_findings_10 : decode cX10_findings 10 = .ok (.iconst (-1), 1) := by decide +kernel
theorem dX10_findings_11 : decode cX10_findings 11 = .ok (.ireturn, 1) := by decide +kernel
theorem dX10_findings_12 : decode cX10_findings 12 = .ok (.aload_n 0, 1) := by decide +kernel
theorem dX10_findings_13 : decode cX10_findings 13 = .ok (.getfield 10, 3) := by decide +kernel
theorem dX10_findings_16 : decode cX10_findings 16 = .ok (.getfield 398, 3) := by decide +kernel
theorem dX10_findings_19 : decode cX10_findings 19 = .ok (.iload_n 1, 1) := by decide +kernel
theorem dX10_findings_20 : decode cX10_findings 20 = .ok (.iaload, 1) := by decide +kernel
theorem dX10_findings_21 : decode cX10_findings 21 = .ok (.ireturn, 1) := by decide +kernel
theorem dX10_digest_0 : decode cX10_digest 0 = .ok (.ldc2_w 400, 3) := by decide +kernel
theorem dX10_digest_3 : decode cX10_digest 3 = .ok (.lstore_n 1, 1) := by decide +kernel
theorem dX10_digest_4 : decode cX10_digest 4 = .ok (.iconst 0, 1) := by decide +kernel
theorem dX10_digest_5 : decode cX10_digest 5 = .ok (.istore_n 3, 1) := by decide +kernel
theorem dX10_digest_6 : decode cX10_digest 6 = .ok (.iload_n 3, 1) := by decide +kernel
theorem dX10_digest_7 : decode cX10_digest 7 = .ok (.bipush 8, 2) := by decide +kernel
theorem dX10_digest_9 : decode cX10_digest 9 = .ok (.if_icmp .ge 22, 3) := by decide +kernel
theorem dX10_digest_12 : decode cX10_digest 12 = .ok (.ldc2_w 402, 3) := by decide +kernel
theorem dX10_digest_15 : decode cX10_digest 15 = .ok (.lload_n 1, 1) := by decide +kernel
theorem dX10_digest_16 : decode cX10_digest 16 = .ok (.lmul, 1) := by decide +kernel
theorem dX10_digest_17 : decode cX10_digest 17 = .ok (.aload_n 0, 1) := by decide +kernel
theorem dX10_digest_18 : decode cX10_digest 18 = .ok (.iload_n 3, 1) := by decide +kernel
theorem dX10_digest_19 : decode cX10_digest 19 = .ok (.invokevirtual 383, 3) := by decide +kernel
theorem dX10_digest_22 : decode cX10_digest 22 = .ok (.i2l, 1) := by decide +kernel
theorem dX10_digest_23 : decode cX10_digest 23 = .ok (.ladd, 1) := by decide +kernel
theorem dX10_digest_24 : decode cX10_digest 24 = .ok (.lstore_n 1, 1) := by decide +kernel
theorem dX10_digest_25 : decode cX10_digest 25 = .ok (.iinc 3 1, 3) := by decide +kernel
theorem dX10_digest_28 : decode cX10_digest 28 = .ok (.goto (-22), 3) := by decide +kernel
theorem dX10_digest_31 : decode cX10_digest 31 = .ok (.ldc2_w 402, 3) := by decide +kernel
theorem dX10_digest_34 : decode cX10_digest 34 = .ok (.lload_n 1, 1) := by decide +kernel
theorem dX10_digest_35 : decode cX10_digest 35 = .ok (.lmul, 1) := by decide +kernel
theorem dX10_digest_36 : decode cX10_digest 36 = .ok (.aload_n 0, 1) := by decide +kernel
theorem dX10_digest_37 : decode cX10_digest 37 = .ok (.getfield 49, 3) := by decide +kernel
theorem dX10_digest_40 : decode cX10_digest 40 = .ok (.getfield 231, 3) := by decide +kernel
theorem dX10_digest_43 : decode cX10_digest 43 = .ok (.i2l, 1) := by decide +kernel
theorem dX10_digest_44 : decode cX10_digest 44 = .ok (.ladd, 1) := by decide +kernel
theorem dX10_digest_45 : decode cX10_digest 45 = .ok (.lstore_n 1, 1) := by decide +kernel
theorem dX10_digest_46 : decode cX10_digest 46 = .ok (.aload_n 0, 1) := by decide +kernel
theorem dX10_digest_47 : decode cX10_digest 47 = .ok (.lload_n 1, 1) := by decide +kernel
theorem dX10_digest_48 : decode cX10_digest 48 = .ok (.invokevirtual 404, 3) := by decide +kernel
theorem dX10_digest_51 : decode cX10_digest 51 = .ok (.lstore_n 1, 1) := by decide +kernel
theorem dX10_digest_52 : decode cX10_digest 52 = .ok (.aload_n 0, 1) := by decide +kernel
theorem dX10_digest_53 : decode cX10_digest 53 = .ok (.lload_n 1, 1) := by decide +kernel
theorem dX10_digest_54 : decode cX10_digest 54 = .ok (.invokevirtual 408, 3) := by decide +kernel
theorem dX10_digest_57 : decode cX10_digest 57 = .ok (.lstore_n 1, 1) := by decide +kernel
theorem dX10_digest_58 : decode cX10_digest 58 = .ok (.aload_n 0, 1) := by decide +kernel
theorem dX10_digest_59 : decode cX10_digest 59 = .ok (.lload_n 1, 1) := by decide +kernel
theorem dX10_digest_60 : decode cX10_digest 60 = .ok (.invokevirtual 411, 3) := by decide +kernel
theorem dX10_digest_63 : decode cX10_digest 63 = .ok (.lstore_n 1, 1) := by decide +kernel
theorem dX10_digest_64 : decode cX10_digest 64 = .ok (.aload_n 0, 1) := by decide +kernel
theorem dX10_digest_65 : decode cX10_digest 65 = .ok (.getfield 25, 3) := by decide +kernel
theorem dX10_digest_68 : decode cX10_digest 68 = .ok (.aload_n 0, 1) := by decide +kernel
theorem dX10_digest_69 : decode cX10_digest 69 = .ok (.getfield 21, 3) := by decide +kernel
theorem dX10_digest_72 : decode cX10_digest 72 = .ok (.lload_n 1, 1) := by decide +kernel
theorem dX10_digest_73 : decode cX10_digest 73 = .ok (.invokevirtual 414, 3) := by decide +kernel
theorem dX10_digest_76 : decode cX10_digest 76 = .ok (.invokevirtual 414, 3) := by decide +kernel
theorem dX10_digest_79 : decode cX10_digest 79 = .ok (.lreturn, 1) := by decide +kernel
theorem dX10_mixIsland_0 : decode cX10_mixIsland 0 = .ok (.iconst 0, 1) := by decide +kernel
theorem dX10_mixIsland_1 : decode cX10_mixIsland 1 = .ok (.istore_n 3, 1) := by decide +kernel
theorem dX10_mixIsland_2 : decode cX10_mixIsland 2 = .ok (.iload_n 3, 1) := by decide +kernel
theorem dX10_mixIsland_3 : decode cX10_mixIsland 3 = .ok (.aload_n 0, 1) := by decide +kernel
theorem dX10_mixIsland_4 : decode cX10_mixIsland 4 = .ok (.getfield 40, 3) := by decide +kernel
theorem dX10_mixIsland_7 : decode cX10_mixIsland 7 = .ok (.getfield 173, 3) := by decide +kernel
theorem dX10_mixIsland_10 : decode cX10_mixIsland 10 = .ok (.if_icmp .ge 39, 3) := by decide +kernel
theorem dX10_mixIsland_13 : decode cX10_mixIsland 13 = .ok (.iconst 0, 1) := by decide +kernel
theorem dX10_mixIsland_14 : decode cX10_mixIsland 14 = .ok (.istore 4, 2) := by decide +kernel
theorem dX10_mixIsland_16 : decode cX10_mixIsland 16 = .ok (.iload 4, 2) := by decide +kernel
theorem dX10_mixIsland_18 : decode cX10_mixIsland 18 = .ok (.iconst 4, 1) := by decide +kernel
theorem dX10_mixIsland_19 : decode cX10_mixIsland 19 = .ok (.if_icmp .ge 24, 3) := by decide +kernel
theorem dX10_mixIsland_22 : decode cX10_mixIsland 22 = .ok (.ldc2_w 402, 3) := by decide +kernel
theorem dX10_mixIsland_25 : decode cX10_mixIsland 25 = .ok (.lload_n 1, 1) := by decide +kernel
theorem dX10_mixIsland_26 : decode cX10_mixIsland 26 = .ok (.lmul, 1) := by decide +kernel
theorem dX10_mixIsland_27 : decode cX10_mixIsland 27 = .ok (.aload_n 0, 1) := by decide +kernel
theorem dX10_mixIsland_28 : decode cX10_mixIsland 28 = .ok (.iload_n 3, 1) := by decide +kernel
theorem dX10_mixIsland_29 : decode cX10_mixIsland 29 = .ok (.iload 4, 2) := by decide +kernel
theorem dX10_mixIsland_31 : decode cX10_mixIsland 31 = .ok (.invokevirtual 179, 3) := by decide +kernel
theorem dX10_mixIsland_34 : decode cX10_mixIsland 34 = .ok (.i2l, 1) := by decide +kernel
theorem dX10_mixIsland_35 : decode cX10_mixIsland 35 = .ok (.ladd, 1) := by decide +kernel
theorem dX10_mixIsland_36 : decode cX10_mixIsland 36 = .ok (.lstore_n 1, 1) := by decide +kernel
theorem dX10_mixIsland_37 : decode cX10_mixIsland 37 = .ok (.iinc 4 1, 3) := by decide +kernel
theorem dX10_mixIsland_40 : decode cX10_mixIsland 40 = .ok (.goto (-24), 3) := by decide +kernel
theorem dX10_mixIsland_43 : decode cX10_mixIsland 43 = .ok (.iinc 3 1, 3) := by decide +kernel
theorem dX10_mixIsland_46 : decode cX10_mixIsland 46 = .ok (.goto (-44), 3) := by decide +kernel
theorem dX10_mixIsland_49 : decode cX10_mixIsland 49 = .ok (.iconst 0, 1) := by decide +kernel
theorem dX10_mixIsland_50 : decode cX10_mixIsland 50 = .ok (.istore_n 3, 1) := by decide +kernel
theorem dX10_mixIsland_51 : decode cX10_mixIsland 51 = .ok (.iload_n 3, 1) := by decide +kernel
theorem dX10_mixIsland_52 : decode cX10_mixIsland 52 = .ok (.aload_n 0, 1) := by decide +kernel
theorem dX10_mixIsland_53 : decode cX10_mixIsland 53 = .ok (.getfield 40, 3) := by decide +kernel
theorem dX10_mixIsland_56 : decode cX10_mixIsland 56 = .ok (.getfield 386, 3) := by decide +kernel
theorem dX10_mixIsland_59 : decode cX10_mixIsland 59 = .ok (.if_icmp .ge 42, 3) := by decide +kernel
theorem dX10_mixIsland_62 : decode cX10_mixIsland 62 = .ok (.iconst 0, 1) := by decide +kernel
theorem dX10_mixIsland_63 : decode cX10_mixIsland 63 = .ok (.istore 4, 2) := by decide +kernel
theorem dX10_mixIsland_65 : decode cX10_mixIsland 65 = .ok (.iload 4, 2) := by decide +kernel
theorem dX10_mixIsland_67 : decode cX10_mixIsland 67 = .ok (.iconst 4, 1) := by decide +kernel
theorem dX10_mixIsland_68 : decode cX10_mixIsland 68 = .ok (.if_icmp .ge 27, 3) := by decide +kernel
theorem dX10_mixIsland_71 : decode cX10_mixIsland 71 = .ok (.ldc2_w 402, 3) := by decide +kernel
theorem dX10_mixIsland_74 : decode cX10_mixIsland 74 = .ok (.lload_n 1, 1) := by decide +kernel
theorem dX10_mixIsland_75 : decode cX10_mixIsland 75 = .ok (.lmul, 1) := by decide +kernel
theorem dX10_mixIsland_76 : decode cX10_mixIsland 76 = .ok (.aload_n 0, 1) := by decide +kernel
theorem dX10_mixIsland_77 : decode cX10_mixIsland 77 = .ok (.getfield 40, 3) := by decide +kernel
theorem dX10_mixIsland_80 : decode cX10_mixIsland 80 = .ok (.iload_n 3, 1) := by decide +kernel
theorem dX10_mixIsland_81 : decode cX10_mixIsland 81 = .ok (.iload 4, 2) := by decide +kernel
theorem dX10_mixIsland_83 : decode cX10_mixIsland 83 = .ok (.invokevirtual 221, 3) := by decide +kernel
theorem dX10_mixIsland_86 : decode cX10_mixIsland 86 = .ok (.i2l, 1) := by decide +kernel
theorem dX10_mixIsland_87 : decode cX10_mixIsland 87 = .ok (.ladd, 1) := by decide +kernel
theorem dX10_mixIsland_88 : decode cX10_mixIsland 88 = .ok (.lstore_n 1, 1) := by decide +kernel
theorem dX10_mixIsland_89 : decode cX10_mixIsland 89 = .ok (.iinc 4 1, 3) := by decide +kernel
theorem dX10_mixIsland_92 : decode cX10_mixIsland 92 = .ok (.goto (-27), 3) := by decide +kernel
theorem dX10_mixIsland_95 : decode cX10_mixIsland 95 = .ok (.iinc 3 1, 3) := by decide +kernel
theorem dX10_mixIsland_98 : decode cX10_mixIsland 98 = .ok (.goto (-47), 3) := by decide +kernel
theorem dX10_mixIsland_101 : decode cX10_mixIsland 101 = .ok (.lload_n 1, 1) := by decide +kernel
theorem dX10_mixIsland_102 : decode cX10_mixIsland 102 = .ok (.lreturn, 1) := by decide +kernel
theorem dX10_mixSeen_0 : decode cX10_mixSeen 0 = .ok (.iconst 0, 1) := by decide +kernel
theorem dX10_mixSeen_1 : decode cX10_mixSeen 1 = .ok (.istore_n 3, 1) := by decide +kernel
theorem dX10_mixSeen_2 : decode cX10_mixSeen 2 = .ok (.iload_n 3, 1) := by decide +kernel
theorem dX10_mixSeen_3 : decode cX10_mixSeen 3 = .ok (.aload_n 0, 1) := by decide +kernel
theorem dX10_mixSeen_4 : decode cX10_mixSeen 4 = .ok (.getfield 65, 3) := by decide +kernel
theorem dX10_mixSeen_7 : decode cX10_mixSeen 7 = .ok (.getfield 163, 3) := by decide +kernel
theorem dX10_mixSeen_10 : decode cX10_mixSeen 10 = .ok (.if_icmp .ge 41, 3) := by decide +kernel
theorem dX10_mixSeen_13 : decode cX10_mixSeen 13 = .ok (.ldc2_w 402, 3) := by decide +kernel
theorem dX10_mixSeen_16 : decode cX10_mixSeen 16 = .ok (.lload_n 1, 1) := by decide +kernel
theorem dX10_mixSeen_17 : decode cX10_mixSeen 17 = .ok (.lmul, 1) := by decide +kernel
theorem dX10_mixSeen_18 : decode cX10_mixSeen 18 = .ok (.aload_n 0, 1) := by decide +kernel
theorem dX10_mixSeen_19 : decode cX10_mixSeen 19 = .ok (.getfield 65, 3) := by decide +kernel
theorem dX10_mixSeen_22 : decode cX10_mixSeen 22 = .ok (.iload_n 3, 1) := by decide +kernel
theorem dX10_mixSeen_23 : decode cX10_mixSeen 23 = .ok (.invokevirtual 259, 3) := by decide +kernel
theorem dX10_mixSeen_26 : decode cX10_mixSeen 26 = .ok (.i2l, 1) := by decide +kernel
theorem dX10_mixSeen_27 : decode cX10_mixSeen 27 = .ok (.ladd, 1) := by decide +kernel
theorem dX10_mixSeen_28 : decode cX10_mixSeen 28 = .ok (.lstore_n 1, 1) := by decide +kernel
theorem dX10_mixSeen_29 : decode cX10_mixSeen 29 = .ok (.ldc2_w 402, 3) := by decide +kernel
theorem dX10_mixSeen_32 : decode cX10_mixSeen 32 = .ok (.lload_n 1, 1) := by decide +kernel
theorem dX10_mixSeen_33 : decode cX10_mixSeen 33 = .ok (.lmul, 1) := by decide +kernel
theorem dX10_mixSeen_34 : decode cX10_mixSeen 34 = .ok (.aload_n 0, 1) := by decide +kernel
theorem dX10_mixSeen_35 : decode cX10_mixSeen 35 = .ok (.getfield 65, 3) := by decide +kernel
theorem dX10_mixSeen_38 : decode cX10_mixSeen 38 = .ok (.iload_n 3, 1) := by decide +kernel
theorem dX10_mixSeen_39 : decode cX10_mixSeen 39 = .ok (.invokevirtual 262, 3) := by decide +kernel
theorem dX10_mixSeen_42 : decode cX10_mixSeen 42 = .ok (.i2l, 1) := by decide +kernel
theorem dX10_mixSeen_43 : decode cX10_mixSeen 43 = .ok (.ladd, 1) := by decide +kernel
theorem dX10_mixSeen_44 : decode cX10_mixSeen 44 = .ok (.lstore_n 1, 1) := by decide +kernel
theorem dX10_mixSeen_45 : decode cX10_mixSeen 45 = .ok (.iinc 3 1, 3) := by decide +kernel
theorem dX10_mixSeen_48 : decode cX10_mixSeen 48 = .ok (.goto (-46), 3) := by decide +kernel
theorem dX10_mixSeen_51 : decode cX10_mixSeen 51 = .ok (.lload_n 1, 1) := by decide +kernel
theorem dX10_mixSeen_52 : decode cX10_mixSeen 52 = .ok (.lreturn, 1) := by decide +kernel
theorem dX10_mixKept_0 : decode cX10_mixKept 0 = .ok (.iconst 0, 1) := by decide +kernel
theorem dX10_mixKept_1 : decode cX10_mixKept 1 = .ok (.istore_n 3, 1) := by decide +kernel
theorem dX10_mixKept_2 : decode cX10_mixKept 2 = .ok (.iload_n 3, 1) := by decide +kernel
theorem dX10_mixKept_3 : decode cX10_mixKept 3 = .ok (.iconst 3, 1) := by decide +kernel
theorem dX10_mixKept_4 : decode cX10_mixKept 4 = .ok (.if_icmp .ge 95, 3) := by decide +kernel
theorem dX10_mixKept_7 : decode cX10_mixKept 7 = .ok (.aload_n 0, 1) := by decide +kernel
theorem dX10_mixKept_8 : decode cX10_mixKept 8 = .ok (.getfield 72, 3) := by decide +kernel
theorem dX10_mixKept_11 : decode cX10_mixKept 11 = .ok (.iload_n 3, 1) := by decide +kernel
theorem dX10_mixKept_12 : decode cX10_mixKept 12 = .ok (.iaload, 1) := by decide +kernel
theorem dX10_mixKept_13 : decode cX10_mixKept 13 = .ok (.ifCond .ne 14, 3) := by decide +kernel
theorem dX10_mixKept_16 : decode cX10_mixKept 16 = .ok (.ldc2_w 402, 3) := by decide +kernel
theorem dX10_mixKept_19 : decode cX10_mixKept 19 = .ok (.lload_n 1, 1) := by decide +kernel
theorem dX10_mixKept_20 : decode cX10_mixKept 20 = .ok (.lmul, 1) := by decide +kernel
theorem dX10_mixKept_21 : decode cX10_mixKept 21 = .ok (.lconst 1, 1) := by decide +kernel
theorem dX10_mixKept_22 : decode cX10_mixKept 22 = .ok (.lsub, 1) := by decide +kernel
theorem dX10_mixKept_23 : decode cX10_mixKept 23 = .ok (.lstore_n 1, 1) := by decide +kernel
theorem dX10_mixKept_24 : decode cX10_mixKept 24 = .ok (.goto 69, 3) := by decide +kernel
theorem dX10_mixKept_27 : decode cX10_mixKept 27 = .ok (.aload_n 0, 1) := by decide +kernel
theorem dX10_mixKept_28 : decode cX10_mixKept 28 = .ok (.getfield 53, 3) := by decide +kernel
theorem dX10_mixKept_31 : decode cX10_mixKept 31 = .ok (.aload_n 0, 1) := by decide +kernel
theorem dX10_mixKept_32 : decode cX10_mixKept 32 = .ok (.getfield 68, 3) := by decide +kernel
theorem dX10_mixKept_35 : decode cX10_mixKept 35 = .ok (.iload_n 3, 1) := by decide +kernel
theorem dX10_mixKept_36 : decode cX10_mixKept 36 = .ok (.iaload, 1) := by decide +kernel
theorem dX10_mixKept_37 : decode cX10_mixKept 37 = .ok (.invokevirtual 280, 3) := by decide +kernel
theorem dX10_mixKept_40 : decode cX10_mixKept 40 = .ok (.iconst 0, 1) := by decide +kernel
theorem dX10_mixKept_41 : decode cX10_mixKept 41 = .ok (.istore 4, 2) := by decide +kernel
theorem dX10_mixKept_43 : decode cX10_mixKept 43 = .ok (.iload 4, 2) := by decide +kernel
theorem dX10_mixKept_45 : decode cX10_mixKept 45 = .ok (.aload_n 0, 1) := by decide +kernel
theorem dX10_mixKept_46 : decode cX10_mixKept 46 = .ok (.getfield 40, 3) := by decide +kernel
theorem dX10_mixKept_49 : decode cX10_mixKept 49 = .ok (.getfield 173, 3) := by decide +kernel
theorem dX10_mixKept_52 : decode cX10_mixKept 52 = .ok (.if_icmp .ge 27, 3) := by decide +kernel
theorem dX10_mixKept_55 : decode cX10_mixKept 55 = .ok (.ldc2_w 402, 3) := by decide +kernel
theorem dX10_mixKept_58 : decode cX10_mixKept 58 = .ok (.lload_n 1, 1) := by decide +kernel
theorem dX10_mixKept_59 : decode cX10_mixKept 59 = .ok (.lmul, 1) := by decide +kernel
theorem dX10_mixKept_60 : decode cX10_mixKept 60 = .ok (.aload_n 0, 1) := by decide +kernel
theorem dX10_mixKept_61 : decode cX10_mixKept 61 = .ok (.getfield 53, 3) := by decide +kernel
theorem dX10_mixKept_64 : decode cX10_mixKept 64 = .ok (.getfield 185, 3) := by decide +kernel
theorem dX10_mixKept_67 : decode cX10_mixKept 67 = .ok (.iload 4, 2) := by decide +kernel
theorem dX10_mixKept_69 : decode cX10_mixKept 69 = .ok (.iaload, 1) := by decide +kernel
theorem dX10_mixKept_70 : decode cX10_mixKept 70 = .ok (.i2l, 1) := by decide +kernel
theorem dX10_mixKept_71 : decode cX10_mixKept 71 = .ok (.ladd, 1) := by decide +kernel
theorem dX10_mixKept_72 : decode cX10_mixKept 72 = .ok (.lstore_n 1, 1) := by decide +kernel
theorem dX10_mixKept_73 : decode cX10_mixKept 73 = .ok (.iinc 4 1, 3) := by decide +kernel
theorem dX10_mixKept_76 : decode cX10_mixKept 76 = .ok (.goto (-33), 3) := by decide +kernel
theorem dX10_mixKept_79 : decode cX10_mixKept 79 = .ok (.ldc2_w 402, 3) := by decide +kernel
theorem dX10_mixKept_82 : decode cX10_mixKept 82 = .ok (.lload_n 1, 1) := by decide +kernel
theorem dX10_mixKept_83 : decode cX10_mixKept 83 = .ok (.lmul, 1) := by decide +kernel
theorem dX10_mixKept_84 : decode cX10_mixKept 84 = .ok (.aload_n 0, 1) := by decide +kernel
theorem dX10_mixKept_85 : decode cX10_mixKept 85 = .ok (.getfield 72, 3) := by decide +kernel
theorem dX10_mixKept_88 : decode cX10_mixKept 88 = .ok (.iload_n 3, 1) := by decide +kernel
theorem dX10_mixKept_89 : decode cX10_mixKept 89 = .ok (.iaload, 1) := by decide +kernel
theorem dX10_mixKept_90 : decode cX10_mixKept 90 = .ok (.i2l, 1) := by decide +kernel
theorem dX10_mixKept_91 : decode cX10_mixKept 91 = .ok (.ladd, 1) := by decide +kernel
theorem dX10_mixKept_92 : decode cX10_mixKept 92 = .ok (.lstore_n 1, 1) := by decide +kernel
theorem dX10_mixKept_93 : decode cX10_mixKept 93 = .ok (.iinc 3 1, 3) := by decide +kernel
theorem dX10_mixKept_96 : decode cX10_mixKept 96 = .ok (.goto (-94), 3) := by decide +kernel
theorem dX10_mixKept_99 : decode cX10_mixKept 99 = .ok (.lload_n 1, 1) := by decide +kernel
theorem dX10_mixKept_100 : decode cX10_mixKept 100 = .ok (.lreturn, 1) := by decide +kernel
theorem dJ6_bitCount_0f7a4_0 : decode cJ6_bitCount_0f7a4 0 = .ok (.iload_n 0, 1) := by decide +kernel
theorem dJ6_bitCount_0f7a4_1 : decode cJ6_bitCount_0f7a4 1 = .ok (.iload_n 0, 1) := by decide +kernel
theorem dJ6_bitCount_0f7a4_2 : decode cJ6_bitCount_0f7a4 2 = .ok (.iconst 1, 1) := by decide +kernel
theorem dJ6_bitCount_0f7a4_3 : decode cJ6_bitCount_0f7a4 3 = .ok (.iushr, 1) := by decide +kernel
theorem dJ6_bitCount_0f7a4_4 : decode cJ6_bitCount_0f7a4 4 = .ok (.ldc_w 265, 3) := by decide +kernel
theorem dJ6_bitCount_0f7a4_7 : decode cJ6_bitCount_0f7a4 7 = .ok (.iand, 1) := by decide +kernel
theorem dJ6_bitCount_0f7a4_8 : decode cJ6_bitCount_0f7a4 8 = .ok (.isub, 1) := by decide +kernel
theorem dJ6_bitCount_0f7a4_9 : decode cJ6_bitCount_0f7a4 9 = .ok (.istore_n 0, 1) := by decide +kernel
theorem dJ6_bitCount_0f7a4_10 : decode cJ6_bitCount_0f7a4 10 = .ok (.iload_n 0, 1) := by decide +kernel
theorem dJ6_bitCount_0f7a4_11 : decode cJ6_bitCount_0f7a4 11 = .ok (.ldc_w 266, 3) := by decide +kernel
theorem dJ6_bitCount_0f7a4_14 : decode cJ6_bitCount_0f7a4 14 = .ok (.iand, 1) := by decide +kernel
theorem dJ6_bitCount_0f7a4_15 : decode cJ6_bitCount_0f7a4 15 = .ok (.iload_n 0, 1) := by decide +kernel
theorem dJ6_bitCount_0f7a4_16 : decode cJ6_bitCount_0f7a4 16 = .ok (.iconst 2, 1) := by decide +kernel
theorem dJ6_bitCount_0f7a4_17 : decode cJ6_bitCount_0f7a4 17 = .ok (.iushr, 1) := by decide +kernel
theorem dJ6_bitCount_0f7a4_18 : decode cJ6_bitCount_0f7a4 18 = .ok (.ldc_w 266, 3) := by decide +kernel
theorem dJ6_bitCount_0f7a4_21 : decode cJ6_bitCount_0f7a4 21 = .ok (.iand, 1) := by decide +kernel
theorem dJ6_bitCount_0f7a4_22 : decode cJ6_bitCount_0f7a4 22 = .ok (.iadd, 1) := by decide +kernel
theorem dJ6_bitCount_0f7a4_23 : decode cJ6_bitCount_0f7a4 23 = .ok (.istore_n 0, 1) := by decide +kernel
theorem dJ6_bitCount_0f7a4_24 : decode cJ6_bitCount_0f7a4 24 = .ok (.iload_n 0, 1) := by decide +kernel
theorem dJ6_bitCount_0f7a4_25 : decode cJ6_bitCount_0f7a4 25 = .ok (.iload_n 0, 1) := by decide +kernel
theorem dJ6_bitCount_0f7a4_26 : decode cJ6_bitCount_0f7a4 26 = .ok (.iconst 4, 1) := by decide +kernel
theorem dJ6_bitCount_0f7a4_27 : decode cJ6_bitCount_0f7a4 27 = .ok (.iushr, 1) := by decide +kernel
theorem dJ6_bitCount_0f7a4_28 : decode cJ6_bitCount_0f7a4 28 = .ok (.iadd, 1) := by decide +kernel
theorem dJ6_bitCount_0f7a4_29 : decode cJ6_bitCount_0f7a4 29 = .ok (.ldc_w 267, 3) := by decide +kernel
theorem dJ6_bitCount_0f7a4_32 : decode cJ6_bitCount_0f7a4 32 = .ok (.iand, 1) := by decide +kernel
theorem dJ6_bitCount_0f7a4_33 : decode cJ6_bitCount_0f7a4 33 = .ok (.istore_n 0, 1) := by decide +kernel
theorem dJ6_bitCount_0f7a4_34 : decode cJ6_bitCount_0f7a4 34 = .ok (.iload_n 0, 1) := by decide +kernel
theorem dJ6_bitCount_0f7a4_35 : decode cJ6_bitCount_0f7a4 35 = .ok (.iload_n 0, 1) := by decide +kernel
theorem dJ6_bitCount_0f7a4_36 : decode cJ6_bitCount_0f7a4 36 = .ok (.bipush 8, 2) := by decide +kernel
theorem dJ6_bitCount_0f7a4_38 : decode cJ6_bitCount_0f7a4 38 = .ok (.iushr, 1) := by decide +kernel
theorem dJ6_bitCount_0f7a4_39 : decode cJ6_bitCount_0f7a4 39 = .ok (.iadd, 1) := by decide +kernel
theorem dJ6_bitCount_0f7a4_40 : decode cJ6_bitCount_0f7a4 40 = .ok (.istore_n 0, 1) := by decide +kernel
theorem dJ6_bitCount_0f7a4_41 : decode cJ6_bitCount_0f7a4 41 = .ok (.iload_n 0, 1) := by decide +kernel
theorem dJ6_bitCount_0f7a4_42 : decode cJ6_bitCount_0f7a4 42 = .ok (.iload_n 0, 1) := by decide +kernel
theorem dJ6_bitCount_0f7a4_43 : decode cJ6_bitCount_0f7a4 43 = .ok (.bipush 16, 2) := by decide +kernel
theorem dJ6_bitCount_0f7a4_45 : decode cJ6_bitCount_0f7a4 45 = .ok (.iushr, 1) := by decide +kernel
theorem dJ6_bitCount_0f7a4_46 : decode cJ6_bitCount_0f7a4 46 = .ok (.iadd, 1) := by decide +kernel
theorem dJ6_bitCount_0f7a4_47 : decode cJ6_bitCount_0f7a4 47 = .ok (.istore_n 0, 1) := by decide +kernel
theorem dJ6_bitCount_0f7a4_48 : decode cJ6_bitCount_0f7a4 48 = .ok (.iload_n 0, 1) := by decide +kernel
theorem dJ6_bitCount_0f7a4_49 : decode cJ6_bitCount_0f7a4 49 = .ok (.bipush 63, 2) := by decide +kernel
theorem dJ6_bitCount_0f7a4_51 : decode cJ6_bitCount_0f7a4 51 = .ok (.iand, 1) := by decide +kernel
theorem dJ6_bitCount_0f7a4_52 : decode cJ6_bitCount_0f7a4 52 = .ok (.ireturn, 1) := by decide +kernel
theorem dJ9_max_7cf53_0 : decode cJ9_max_7cf53 0 = .ok (.iload_n 0, 1) := by decide +kernel
theorem dJ9_max_7cf53_1 : decode cJ9_max_7cf53 1 = .ok (.iload_n 1, 1) := by decide +kernel
theorem dJ9_max_7cf53_2 : decode cJ9_max_7cf53 2 = .ok (.if_icmp .lt 7, 3) := by decide +kernel
theorem dJ9_max_7cf53_5 : decode cJ9_max_7cf53 5 = .ok (.iload_n 0, 1) := by decide +kernel
theorem dJ9_max_7cf53_6 : decode cJ9_max_7cf53 6 = .ok (.goto 4, 3) := by decide +kernel
theorem dJ9_max_7cf53_9 : decode cJ9_max_7cf53 9 = .ok (.iload_n 1, 1) := by decide +kernel
theorem dJ9_max_7cf53_10 : decode cJ9_max_7cf53 10 = .ok (.ireturn, 1) := by decide +kernel
theorem dJ7_rangeCheck_23922_0 : decode cJ7_rangeCheck_23922 0 = .ok (.iload_n 1, 1) := by decide +kernel
theorem dJ7_rangeCheck_23922_1 : decode cJ7_rangeCheck_23922 1 = .ok (.iload_n 2, 1) := by decide +kernel
theorem dJ7_rangeCheck_23922_2 : decode cJ7_rangeCheck_23922 2 = .ok (.if_icmp .le 44, 3) := by decide +kernel
theorem dJ7_rangeCheck_23922_5 : decode cJ7_rangeCheck_23922 5 = .ok (.new 43, 3) := by decide +kernel
theorem dJ7_rangeCheck_23922_8 : decode cJ7_rangeCheck_23922 8 = .ok (.dup, 1) := by decide +kernel
theorem dJ7_rangeCheck_23922_9 : decode cJ7_rangeCheck_23922 9 = .ok (.new 45, 3) := by decide +kernel
theorem dJ7_rangeCheck_23922_12 : decode cJ7_rangeCheck_23922 12 = .ok (.dup, 1) := by decide +kernel
theorem dJ7_rangeCheck_23922_13 : decode cJ7_rangeCheck_23922 13 = .ok (.invokespecial 47, 3) := by decide +kernel
theorem dJ7_rangeCheck_23922_16 : decode cJ7_rangeCheck_23922 16 = .ok (.ldc 48, 2) := by decide +kernel
theorem dJ7_rangeCheck_23922_18 : decode cJ7_rangeCheck_23922 18 = .ok (.invokevirtual 50, 3) := by decide +kernel
theorem dJ7_rangeCheck_23922_21 : decode cJ7_rangeCheck_23922 21 = .ok (.iload_n 1, 1) := by decide +kernel
theorem dJ7_rangeCheck_23922_22 : decode cJ7_rangeCheck_23922 22 = .ok (.invokevirtual 54, 3) := by decide +kernel
theorem dJ7_rangeCheck_23922_25 : decode cJ7_rangeCheck_23922 25 = .ok (.ldc 57, 2) := by decide +kernel
theorem dJ7_rangeCheck_23922_27 : decode cJ7_rangeCheck_23922 27 = .ok (.invokevirtual 50, 3) := by decide +kernel
theorem dJ7_rangeCheck_23922_30 : decode cJ7_rangeCheck_23922 30 = .ok (.iload_n 2, 1) := by decide +kernel
theorem dJ7_rangeCheck_23922_31 : decode cJ7_rangeCheck_23922 31 = .ok (.invokevirtual 54, 3) := by decide +kernel
theorem dJ7_rangeCheck_23922_34 : decode cJ7_rangeCheck_23922 34 = .ok (.ldc 59, 2) := by decide +kernel
theorem dJ7_rangeCheck_23922_36 : decode cJ7_rangeCheck_23922 36 = .ok (.invokevirtual 50, 3) := by decide +kernel
theorem dJ7_rangeCheck_23922_39 : decode cJ7_rangeCheck_23922 39 = .ok (.invokevirtual 61, 3) := by decide +kernel
theorem dJ7_rangeCheck_23922_42 : decode cJ7_rangeCheck_23922 42 = .ok (.invokespecial 65, 3) := by decide +kernel
theorem dJ7_rangeCheck_23922_45 : decode cJ7_rangeCheck_23922 45 = .ok (.athrow, 1) := by decide +kernel
theorem dJ7_rangeCheck_23922_46 : decode cJ7_rangeCheck_23922 46 = .ok (.iload_n 1, 1) := by decide +kernel
theorem dJ7_rangeCheck_23922_47 : decode cJ7_rangeCheck_23922 47 = .ok (.ifCond .ge 12, 3) := by decide +kernel
theorem dJ7_rangeCheck_23922_50 : decode cJ7_rangeCheck_23922 50 = .ok (.new 68, 3) := by decide +kernel
theorem dJ7_rangeCheck_23922_53 : decode cJ7_rangeCheck_23922 53 = .ok (.dup, 1) := by decide +kernel
theorem dJ7_rangeCheck_23922_54 : decode cJ7_rangeCheck_23922 54 = .ok (.iload_n 1, 1) := by decide +kernel
theorem dJ7_rangeCheck_23922_55 : decode cJ7_rangeCheck_23922 55 = .ok (.invokespecial 70, 3) := by decide +kernel
theorem dJ7_rangeCheck_23922_58 : decode cJ7_rangeCheck_23922 58 = .ok (.athrow, 1) := by decide +kernel
theorem dJ7_rangeCheck_23922_59 : decode cJ7_rangeCheck_23922 59 = .ok (.iload_n 2, 1) := by decide +kernel
theorem dJ7_rangeCheck_23922_60 : decode cJ7_rangeCheck_23922 60 = .ok (.iload_n 0, 1) := by decide +kernel
theorem dJ7_rangeCheck_23922_61 : decode cJ7_rangeCheck_23922 61 = .ok (.if_icmp .le 12, 3) := by decide +kernel
theorem dJ7_rangeCheck_23922_64 : decode cJ7_rangeCheck_23922 64 = .ok (.new 68, 3) := by decide +kernel
theorem dJ7_rangeCheck_23922_67 : decode cJ7_rangeCheck_23922 67 = .ok (.dup, 1) := by decide +kernel
theorem dJ7_rangeCheck_23922_68 : decode cJ7_rangeCheck_23922 68 = .ok (.iload_n 2, 1) := by decide +kernel
theorem dJ7_rangeCheck_23922_69 : decode cJ7_rangeCheck_23922 69 = .ok (.invokespecial 70, 3) := by decide +kernel
theorem dJ7_rangeCheck_23922_72 : decode cJ7_rangeCheck_23922 72 = .ok (.athrow, 1) := by decide +kernel
theorem dJ7_rangeCheck_23922_73 : decode cJ7_rangeCheck_23922 73 = .ok (.return_, 1) := by decide +kernel
theorem dJ7_fill_53178_0 : decode cJ7_fill_53178 0 = .ok (.iconst 0, 1) := by decide +kernel
theorem dJ7_fill_53178_1 : decode cJ7_fill_53178 1 = .ok (.istore_n 2, 1) := by decide +kernel
theorem dJ7_fill_53178_2 : decode cJ7_fill_53178 2 = .ok (.aload_n 0, 1) := by decide +kernel
theorem dJ7_fill_53178_3 : decode cJ7_fill_53178 3 = .ok (.arraylength, 1) := by decide +kernel
theorem dJ7_fill_53178_4 : decode cJ7_fill_53178 4 = .ok (.istore_n 3, 1) := by decide +kernel
theorem dJ7_fill_53178_5 : decode cJ7_fill_53178 5 = .ok (.iload_n 2, 1) := by decide +kernel
theorem dJ7_fill_53178_6 : decode cJ7_fill_53178 6 = .ok (.iload_n 3, 1) := by decide +kernel
theorem dJ7_fill_53178_7 : decode cJ7_fill_53178 7 = .ok (.if_icmp .ge 13, 3) := by decide +kernel
theorem dJ7_fill_53178_10 : decode cJ7_fill_53178 10 = .ok (.aload_n 0, 1) := by decide +kernel
theorem dJ7_fill_53178_11 : decode cJ7_fill_53178 11 = .ok (.iload_n 2, 1) := by decide +kernel
theorem dJ7_fill_53178_12 : decode cJ7_fill_53178 12 = .ok (.iload_n 1, 1) := by decide +kernel
theorem dJ7_fill_53178_13 : decode cJ7_fill_53178 13 = .ok (.iastore, 1) := by decide +kernel
theorem dJ7_fill_53178_14 : decode cJ7_fill_53178 14 = .ok (.iinc 2 1, 3) := by decide +kernel
theorem dJ7_fill_53178_17 : decode cJ7_fill_53178 17 = .ok (.goto (-12), 3) := by decide +kernel
theorem dJ7_fill_53178_20 : decode cJ7_fill_53178 20 = .ok (.return_, 1) := by decide +kernel
theorem dJ7_fill_fda19_0 : decode cJ7_fill_fda19 0 = .ok (.aload_n 0, 1) := by decide +kernel
theorem dJ7_fill_fda19_1 : decode cJ7_fill_fda19 1 = .ok (.arraylength, 1) := by decide +kernel
theorem dJ7_fill_fda19_2 : decode cJ7_fill_fda19 2 = .ok (.iload_n 1, 1) := by decide +kernel
theorem dJ7_fill_fda19_3 : decode cJ7_fill_fda19 3 = .ok (.iload_n 2, 1) := by decide +kernel
theorem dJ7_fill_fda19_4 : decode cJ7_fill_fda19 4 = .ok (.invokestatic 13, 3) := by decide +kernel
theorem dJ7_fill_fda19_7 : decode cJ7_fill_fda19 7 = .ok (.iload_n 1, 1) := by decide +kernel
theorem dJ7_fill_fda19_8 : decode cJ7_fill_fda19 8 = .ok (.istore 4, 2) := by decide +kernel
theorem dJ7_fill_fda19_10 : decode cJ7_fill_fda19 10 = .ok (.iload 4, 2) := by decide +kernel
theorem dJ7_fill_fda19_12 : decode cJ7_fill_fda19 12 = .ok (.iload_n 2, 1) := by decide +kernel
theorem dJ7_fill_fda19_13 : decode cJ7_fill_fda19 13 = .ok (.if_icmp .ge 14, 3) := by decide +kernel
theorem dJ7_fill_fda19_16 : decode cJ7_fill_fda19 16 = .ok (.aload_n 0, 1) := by decide +kernel
theorem dJ7_fill_fda19_17 : decode cJ7_fill_fda19 17 = .ok (.iload 4, 2) := by decide +kernel
theorem dJ7_fill_fda19_19 : decode cJ7_fill_fda19 19 = .ok (.iload_n 3, 1) := by decide +kernel
theorem dJ7_fill_fda19_20 : decode cJ7_fill_fda19 20 = .ok (.iastore, 1) := by decide +kernel
theorem dJ7_fill_fda19_21 : decode cJ7_fill_fda19 21 = .ok (.iinc 4 1, 3) := by decide +kernel
theorem dJ7_fill_fda19_24 : decode cJ7_fill_fda19 24 = .ok (.goto (-14), 3) := by decide +kernel
theorem dJ7_fill_fda19_27 : decode cJ7_fill_fda19 27 = .ok (.return_, 1) := by decide +kernel

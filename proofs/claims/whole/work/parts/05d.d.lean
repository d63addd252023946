theorem dX11_canBe_51 : decode cX11_canBe 51 = .ok (.ifCond .eq 13, 3) := by decide +kernel
theorem dX11_canBe_54 : decode cX11_canBe 54 = .ok (.aload_n 0, 1) := by decide +kernel
theorem dX11_canBe_55 : decode cX11_canBe 55 = .ok (.getfield 50, 3) := by decide +kernel
theorem dX11_canBe_58 : decode cX11_canBe 58 = .ok (.iload_n 3, 1) := by decide +kernel
theorem dX11_canBe_59 : decode cX11_canBe 59 = .ok (.iaload, 1) := by decide +kernel
theorem dX11_canBe_60 : decode cX11_canBe 60 = .ok (.iconst 5, 1) := by decide +kernel
theorem dX11_canBe_61 : decode cX11_canBe 61 = .ok (.if_icmp .ge 7, 3) := by decide +kernel
theorem dX11_canBe_64 : decode cX11_canBe 64 = .ok (.iconst 1, 1) := by decide +kernel
theorem dX11_canBe_65 : decode cX11_canBe 65 = .ok (.goto 4, 3) := by decide +kernel
theorem dX11_canBe_68 : decode cX11_canBe 68 = .ok (.iconst 0, 1) := by decide +kernel
theorem dX11_canBe_69 : decode cX11_canBe 69 = .ok (.istore_n 2, 1) := by decide +kernel
theorem dX11_canBe_70 : decode cX11_canBe 70 = .ok (.iinc 3 1, 3) := by decide +kernel
theorem dX11_canBe_73 : decode cX11_canBe 73 = .ok (.goto (-69), 3) := by decide +kernel
theorem dX11_canBe_76 : decode cX11_canBe 76 = .ok (.iconst 0, 1) := by decide +kernel
theorem dX11_canBe_77 : decode cX11_canBe 77 = .ok (.istore_n 3, 1) := by decide +kernel
theorem dX11_canBe_78 : decode cX11_canBe 78 = .ok (.iload_n 3, 1) := by decide +kernel
theorem dX11_canBe_79 : decode cX11_canBe 79 = .ok (.aload_n 0, 1) := by decide +kernel
theorem dX11_canBe_80 : decode cX11_canBe 80 = .ok (.getfield 187, 3) := by decide +kernel
theorem dX11_canBe_83 : decode cX11_canBe 83 = .ok (.if_icmp .ge 32, 3) := by decide +kernel
theorem dX11_canBe_86 : decode cX11_canBe 86 = .ok (.iload_n 2, 1) := by decide +kernel
theorem dX11_canBe_87 : decode cX11_canBe 87 = .ok (.ifCond .eq 28, 3) := by decide +kernel
theorem dX11_canBe_90 : decode cX11_canBe 90 = .ok (.aload_n 0, 1) := by decide +kernel
theorem dX11_canBe_91 : decode cX11_canBe 91 = .ok (.aload_n 0, 1) := by decide +kernel
theorem dX11_canBe_92 : decode cX11_canBe 92 = .ok (.getfield 32, 3) := by decide +kernel
theorem dX11_canBe_95 : decode cX11_canBe 95 = .ok (.iload_n 3, 1) := by decide +kernel
theorem dX11_canBe_96 : decode cX11_canBe 96 = .ok (.iaload, 1) := by decide +kernel
theorem dX11_canBe_97 : decode cX11_canBe 97 = .ok (.invokevirtual 214, 3) := by decide +kernel
theorem dX11_canBe_100 : decode cX11_canBe 100 = .ok (.ifCond .lt 7, 3) := by decide +kernel
theorem dX11_canBe_103 : decode cX11_canBe 103 = .ok (.iconst 1, 1) := by decide +kernel
theorem dX11_canBe_104 : decode cX11_canBe 104 = .ok (.goto 4, 3) := by decide +kernel
theorem dX11_canBe_107 : decode cX11_canBe 107 = .ok (.iconst 0, 1) := by decide +kernel
theorem dX11_canBe_108 : decode cX11_canBe 108 = .ok (.istore_n 2, 1) := by decide +kernel
theorem dX11_canBe_109 : decode cX11_canBe 109 = .ok (.iinc 3 1, 3) := by decide +kernel
theorem dX11_canBe_112 : decode cX11_canBe 112 = .ok (.goto (-34), 3) := by decide +kernel
theorem dX11_canBe_115 : decode cX11_canBe 115 = .ok (.iconst 0, 1) := by decide +kernel
theorem dX11_canBe_116 : decode cX11_canBe 116 = .ok (.istore_n 3, 1) := by decide +kernel
theorem dX11_canBe_117 : decode cX11_canBe 117 = .ok (.iload_n 3, 1) := by decide +kernel
theorem dX11_canBe_118 : decode cX11_canBe 118 = .ok (.aload_n 0, 1) := by decide +kernel
theorem dX11_canBe_119 : decode cX11_canBe 119 = .ok (.getfield 178, 3) := by decide +kernel
theorem dX11_canBe_122 : decode cX11_canBe 122 = .ok (.if_icmp .ge 28, 3) := by decide +kernel
theorem dX11_canBe_125 : decode cX11_canBe 125 = .ok (.iload_n 2, 1) := by decide +kernel
theorem dX11_canBe_126 : decode cX11_canBe 126 = .ok (.ifCond .eq 24, 3) := by decide +kernel
theorem dX11_canBe_129 : decode cX11_canBe 129 = .ok (.aload_n 0, 1) := by decide +kernel
theorem dX11_canBe_130 : decode cX11_canBe 130 = .ok (.iload_n 3, 1) := by decide +kernel
theorem dX11_canBe_131 : decode cX11_canBe 131 = .ok (.invokevirtual 205, 3) := by decide +kernel
theorem dX11_canBe_134 : decode cX11_canBe 134 = .ok (.iload_n 1, 1) := by decide +kernel
theorem dX11_canBe_135 : decode cX11_canBe 135 = .ok (.if_icmp .gt 7, 3) := by decide +kernel
theorem dX11_canBe_138 : decode cX11_canBe 138 = .ok (.iconst 1, 1) := by decide +kernel
theorem dX11_canBe_139 : decode cX11_canBe 139 = .ok (.goto 4, 3) := by decide +kernel
theorem dX11_canBe_142 : decode cX11_canBe 142 = .ok (.iconst 0, 1) := by decide +kernel
theorem dX11_canBe_143 : decode cX11_canBe 143 = .ok (.istore_n 2, 1) := by decide +kernel
theorem dX11_canBe_144 : decode cX11_canBe 144 = .ok (.iinc 3 1, 3) := by decide +kernel
theorem dX11_canBe_147 : decode cX11_canBe 147 = .ok (.goto (-30), 3) := by decide +kernel
theorem dX11_canBe_150 : decode cX11_canBe 150 = .ok (.iload_n 2, 1) := by decide +kernel
theorem dX11_canBe_151 : decode cX11_canBe 151 = .ok (.ireturn, 1) := by decide +kernel
theorem dX11_gone_0 : decode cX11_gone 0 = .ok (.iload_n 1, 1) := by decide +kernel
theorem dX11_gone_1 : decode cX11_gone 1 = .ok (.invokestatic 108, 3) := by decide +kernel
theorem dX11_gone_4 : decode cX11_gone 4 = .ok (.ifCond .ne 5, 3) := by decide +kernel
theorem dX11_gone_7 : decode cX11_gone 7 = .ok (.iconst (-1), 1) := by decide +kernel
theorem dX11_gone_8 : decode cX11_gone 8 = .ok (.ireturn, 1) := by decide +kernel
theorem dX11_gone_9 : decode cX11_gone 9 = .ok (.aload_n 0, 1) := by decide +kernel
theorem dX11_gone_10 : decode cX11_gone 10 = .ok (.getfield 13, 3) := by decide +kernel
theorem dX11_gone_13 : decode cX11_gone 13 = .ok (.iload_n 1, 1) := by decide +kernel
theorem dX11_gone_14 : decode cX11_gone 14 = .ok (.iaload, 1) := by decide +kernel
theorem dX11_gone_15 : decode cX11_gone 15 = .ok (.ifCond .ge 9, 3) := by decide +kernel
theorem dX11_gone_18 : decode cX11_gone 18 = .ok (.aload_n 0, 1) := by decide +kernel
theorem dX11_gone_19 : decode cX11_gone 19 = .ok (.iconst 1, 1) := by decide +kernel
theorem dX11_gone_20 : decode cX11_gone 20 = .ok (.invokevirtual 112, 3) := by decide +kernel
theorem dX11_gone_23 : decode cX11_gone 23 = .ok (.ireturn, 1) := by decide +kernel
theorem dX11_gone_24 : decode cX11_gone 24 = .ok (.aload_n 0, 1) := by decide +kernel
theorem dX11_gone_25 : decode cX11_gone 25 = .ok (.getfield 13, 3) := by decide +kernel
theorem dX11_gone_28 : decode cX11_gone 28 = .ok (.iload_n 1, 1) := by decide +kernel
theorem dX11_gone_29 : decode cX11_gone 29 = .ok (.iaload, 1) := by decide +kernel
theorem dX11_gone_30 : decode cX11_gone 30 = .ok (.aload_n 0, 1) := by decide +kernel
theorem dX11_gone_31 : decode cX11_gone 31 = .ok (.getfield 181, 3) := by decide +kernel
theorem dX11_gone_34 : decode cX11_gone 34 = .ok (.iconst 1, 1) := by decide +kernel
theorem dX11_gone_35 : decode cX11_gone 35 = .ok (.iadd, 1) := by decide +kernel
theorem dX11_gone_36 : decode cX11_gone 36 = .ok (.if_icmp .eq 9, 3) := by decide +kernel
theorem dX11_gone_39 : decode cX11_gone 39 = .ok (.aload_n 0, 1) := by decide +kernel
theorem dX11_gone_40 : decode cX11_gone 40 = .ok (.iconst 5, 1) := by decide +kernel
theorem dX11_gone_41 : decode cX11_gone 41 = .ok (.invokevirtual 112, 3) := by decide +kernel
theorem dX11_gone_44 : decode cX11_gone 44 = .ok (.ireturn, 1) := by decide +kernel
theorem dX11_gone_45 : decode cX11_gone 45 = .ok (.aload_n 0, 1) := by decide +kernel
theorem dX11_gone_46 : decode cX11_gone 46 = .ok (.iload_n 1, 1) := by decide +kernel
theorem dX11_gone_47 : decode cX11_gone 47 = .ok (.aload_n 0, 1) := by decide +kernel
theorem dX11_gone_48 : decode cX11_gone 48 = .ok (.getfield 181, 3) := by decide +kernel
theorem dX11_gone_51 : decode cX11_gone 51 = .ok (.invokevirtual 116, 3) := by decide +kernel
theorem dX11_gone_54 : decode cX11_gone 54 = .ok (.iconst 1, 1) := by decide +kernel
theorem dX11_gone_55 : decode cX11_gone 55 = .ok (.bipush 6, 2) := by decide +kernel
theorem dX11_gone_57 : decode cX11_gone 57 = .ok (.invokestatic 98, 3) := by decide +kernel
theorem dX11_gone_60 : decode cX11_gone 60 = .ok (.istore_n 2, 1) := by decide +kernel
theorem dX11_gone_61 : decode cX11_gone 61 = .ok (.iconst 0, 1) := by decide +kernel
theorem dX11_gone_62 : decode cX11_gone 62 = .ok (.istore_n 3, 1) := by decide +kernel
theorem dX11_gone_63 : decode cX11_gone 63 = .ok (.iload_n 3, 1) := by decide +kernel
theorem dX11_gone_64 : decode cX11_gone 64 = .ok (.aload_n 0, 1) := by decide +kernel
theorem dX11_gone_65 : decode cX11_gone 65 = .ok (.getfield 181, 3) := by decide +kernel
theorem dX11_gone_68 : decode cX11_gone 68 = .ok (.if_icmp .ge 24, 3) := by decide +kernel
theorem dX11_gone_71 : decode cX11_gone 71 = .ok (.iload_n 2, 1) := by decide +kernel
theorem dX11_gone_72 : decode cX11_gone 72 = .ok (.ifCond .eq 20, 3) := by decide +kernel
theorem dX11_gone_75 : decode cX11_gone 75 = .ok (.aload_n 0, 1) := by decide +kernel
theorem dX11_gone_76 : decode cX11_gone 76 = .ok (.aload_n 0, 1) := by decide +kernel
theorem dX11_gone_77 : decode cX11_gone 77 = .ok (.iload_n 1, 1) := by decide +kernel
theorem dX11_gone_78 : decode cX11_gone 78 = .ok (.iload_n 3, 1) := by decide +kernel
theorem dX11_gone_79 : decode cX11_gone 79 = .ok (.invokevirtual 116, 3) := by decide +kernel
theorem dX11_gone_82 : decode cX11_gone 82 = .ok (.invokevirtual 208, 3) := by decide +kernel
theorem dX11_gone_85 : decode cX11_gone 85 = .ok (.istore_n 2, 1) := by decide +kernel
theorem dX11_gone_86 : decode cX11_gone 86 = .ok (.iinc 3 1, 3) := by decide +kernel
theorem dX11_gone_89 : decode cX11_gone 89 = .ok (.goto (-26), 3) := by decide +kernel
theorem dX11_gone_92 : decode cX11_gone 92 = .ok (.iconst 0, 1) := by decide +kernel
theorem dX11_gone_93 : decode cX11_gone 93 = .ok (.istore_n 3, 1) := by decide +kernel
theorem dX11_gone_94 : decode cX11_gone 94 = .ok (.iload_n 3, 1) := by decide +kernel
theorem dX11_gone_95 : decode cX11_gone 95 = .ok (.aload_n 0, 1) := by decide +kernel
theorem dX11_gone_96 : decode cX11_gone 96 = .ok (.getfield 181, 3) := by decide +kernel
theorem dX11_gone_99 : decode cX11_gone 99 = .ok (.if_icmp .ge 25, 3) := by decide +kernel
theorem dX11_gone_102 : decode cX11_gone 102 = .ok (.iload_n 2, 1) := by decide +kernel
theorem dX11_gone_103 : decode cX11_gone 103 = .ok (.ifCond .eq 21, 3) := by decide +kernel
theorem dX11_gone_106 : decode cX11_gone 106 = .ok (.aload_n 0, 1) := by decide +kernel
theorem dX11_gone_107 : decode cX11_gone 107 = .ok (.getfield 50, 3) := by decide +kernel
theorem dX11_gone_110 : decode cX11_gone 110 = .ok (.iload_n 3, 1) := by decide +kernel
theorem dX11_gone_111 : decode cX11_gone 111 = .ok (.aload_n 0, 1) := by decide +kernel
theorem dX11_gone_112 : decode cX11_gone 112 = .ok (.iload_n 1, 1) := by decide +kernel
theorem dX11_gone_113 : decode cX11_gone 113 = .ok (.iload_n 3, 1) := by decide +kernel
theorem dX11_gone_114 : decode cX11_gone 114 = .ok (.invokevirtual 116, 3) := by decide +kernel
theorem dX11_gone_117 : decode cX11_gone 117 = .ok (.iastore, 1) := by decide +kernel
theorem dX11_gone_118 : decode cX11_gone 118 = .ok (.iinc 3 1, 3) := by decide +kernel
theorem dX11_gone_121 : decode cX11_gone 121 = .ok (.goto (-27), 3) := by decide +kernel
theorem dX11_gone_124 : decode cX11_gone 124 = .ok (.iload_n 2, 1) := by decide +kernel
theorem dX11_gone_125 : decode cX11_gone 125 = .ok (.ifCond .eq 19, 3) := by decide +kernel
theorem dX11_gone_128 : decode cX11_gone 128 = .ok (.aload_n 0, 1) := by decide +kernel
theorem dX11_gone_129 : decode cX11_gone 129 = .ok (.aload_n 0, 1) := by decide +kernel
theorem dX11_gone_130 : decode cX11_gone 130 = .ok (.iload_n 1, 1) := by decide +kernel
theorem dX11_gone_131 : decode cX11_gone 131 = .ok (.aload_n 0, 1) := by decide +kernel
theorem dX11_gone_132 : decode cX11_gone 132 = .ok (.getfield 181, 3) := by decide +kernel
theorem dX11_gone_135 : decode cX11_gone 135 = .ok (.invokevirtual 116, 3) := by decide +kernel
theorem dX11_gone_138 : decode cX11_gone 138 = .ok (.invokevirtual 336, 3) := by decide +kernel
theorem dX11_gone_141 : decode cX11_gone 141 = .ok (.ifCond .ne 9, 3) := by decide +kernel
theorem dX11_gone_144 : decode cX11_gone 144 = .ok (.aload_n 0, 1) := by decide +kernel
theorem dX11_gone_145 : decode cX11_gone 145 = .ok (.iconst 3, 1) := by decide +kernel
theorem dX11_gone_146 : decode cX11_gone 146 = .ok (.invokevirtual 112, 3) := by decide +kernel
theorem dX11_gone_149 : decode cX11_gone 149 = .ok (.ireturn, 1) := by decide +kernel
theorem dX11_gone_150 : decode cX11_gone 150 = .ok (.aload_n 0, 1) := by decide +kernel
theorem dX11_gone_151 : decode cX11_gone 151 = .ok (.invokevirtual 259, 3) := by decide +kernel
theorem dX11_gone_154 : decode cX11_gone 154 = .ok (.aload_n 0, 1) := by decide +kernel
theorem dX11_gone_155 : decode cX11_gone 155 = .ok (.aload_n 0, 1) := by decide +kernel
theorem dX11_gone_156 : decode cX11_gone 156 = .ok (.iload_n 1, 1) := by decide +kernel
theorem dX11_gone_157 : decode cX11_gone 157 = .ok (.aload_n 0, 1) := by decide +kernel
theorem dX11_gone_158 : decode cX11_gone 158 = .ok (.getfield 181, 3) := by decide +kernel
theorem dX11_gone_161 : decode cX11_gone 161 = .ok (.invokevirtual 116, 3) := by decide +kernel
theorem dX11_gone_164 : decode cX11_gone 164 = .ok (.putfield 91, 3) := by decide +kernel
theorem dX11_gone_167 : decode cX11_gone 167 = .ok (.iconst 1, 1) := by decide +kernel
theorem dX11_gone_168 : decode cX11_gone 168 = .ok (.ireturn, 1) := by decide +kernel
theorem dX11_counted_0 : decode cX11_counted 0 = .ok (.iconst 0, 1) := by decide +kernel
theorem dX11_counted_1 : decode cX11_counted 1 = .ok (.istore_n 2, 1) := by decide +kernel
theorem dX11_counted_2 : decode cX11_counted 2 = .ok (.iconst 0, 1) := by decide +kernel
theorem dX11_counted_3 : decode cX11_counted 3 = .ok (.istore_n 3, 1) := by decide +kernel
theorem dX11_counted_4 : decode cX11_counted 4 = .ok (.iload_n 3, 1) := by decide +kernel
theorem dX11_counted_5 : decode cX11_counted 5 = .ok (.bipush 6, 2) := by decide +kernel
theorem dX11_counted_7 : decode cX11_counted 7 = .ok (.if_icmp .ge 32, 3) := by decide +kernel
theorem dX11_counted_10 : decode cX11_counted 10 = .ok (.iload_n 2, 1) := by decide +kernel
theorem dX11_counted_11 : decode cX11_counted 11 = .ok (.iload_n 1, 1) := by decide +kernel
theorem dX11_counted_12 : decode cX11_counted 12 = .ok (.bipush 6, 2) := by decide +kernel
theorem dX11_counted_14 : decode cX11_counted 14 = .ok (.if_icmp .ne 16, 3) := by decide +kernel
theorem dX11_counted_17 : decode cX11_counted 17 = .ok (.aload_n 0, 1) := by decide +kernel
theorem dX11_counted_18 : decode cX11_counted 18 = .ok (.getfield 13, 3) := by decide +kernel
theorem dX11_counted_21 : decode cX11_counted 21 = .ok (.iload_n 3, 1) := by decide +kernel
theorem dX11_counted_22 : decode cX11_counted 22 = .ok (.iaload, 1) := by decide +kernel
theorem dX11_counted_23 : decode cX11_counted 23 = .ok (.ifCond .lt 7, 3) := by decide +kernel
theorem dX11_counted_26 : decode cX11_counted 26 = .ok (.iconst 1, 1) := by decide +kernel
theorem dX11_counted_27 : decode cX11_counted 27 = .ok (.goto 4, 3) := by decide +kernel
theorem dX11_counted_30 : decode cX11_counted 30 = .ok (.iconst 0, 1) := by decide +kernel
theorem dX11_counted_31 : decode cX11_counted 31 = .ok (.iadd, 1) := by decide +kernel
theorem dX11_counted_32 : decode cX11_counted 32 = .ok (.istore_n 2, 1) := by decide +kernel
theorem dX11_counted_33 : decode cX11_counted 33 = .ok (.iinc 3 1, 3) := by decide +kernel
theorem dX11_counted_36 : decode cX11_counted 36 = .ok (.goto (-32), 3) := by decide +kernel
theorem dX11_counted_39 : decode cX11_counted 39 = .ok (.iconst 0, 1) := by decide +kernel
theorem dX11_counted_40 : decode cX11_counted 40 = .ok (.istore_n 3, 1) := by decide +kernel
theorem dX11_counted_41 : decode cX11_counted 41 = .ok (.iload_n 3, 1) := by decide +kernel
theorem dX11_counted_42 : decode cX11_counted 42 = .ok (.iconst 4, 1) := by decide +kernel
theorem dX11_counted_43 : decode cX11_counted 43 = .ok (.if_icmp .ge 32, 3) := by decide +kernel
theorem dX11_counted_46 : decode cX11_counted 46 = .ok (.iload_n 2, 1) := by decide +kernel
theorem dX11_counted_47 : decode cX11_counted 47 = .ok (.iload_n 1, 1) := by decide +kernel
theorem dX11_counted_48 : decode cX11_counted 48 = .ok (.bipush 7, 2) := by decide +kernel
theorem dX11_counted_50 : decode cX11_counted 50 = .ok (.if_icmp .ne 16, 3) := by decide +kernel
theorem dX11_counted_53 : decode cX11_counted 53 = .ok (.aload_n 0, 1) := by decide +kernel
theorem dX11_counted_54 : decode cX11_counted 54 = .ok (.getfield 22, 3) := by decide +kernel
theorem dX11_counted_57 : decode cX11_counted 57 = .ok (.iload_n 3, 1) := by decide +kernel
theorem dX11_counted_58 : decode cX11_counted 58 = .ok (.iaload, 1) := by decide +kernel
theorem dX11_counted_59 : decode cX11_counted 59 = .ok (.ifCond .lt 7, 3) := by decide +kernel
theorem dX11_counted_62 : decode cX11_counted 62 = .ok (.iconst 1, 1) := by decide +kernel
theorem dX11_counted_63 : decode cX11_counted 63 = .ok (.goto 4, 3) := by decide +kernel
theorem dX11_counted_66 : decode cX11_counted 66 = .ok (.iconst 0, 1) := by decide +kernel
theorem dX11_counted_67 : decode cX11_counted 67 = .ok (.iadd, 1) := by decide +kernel
theorem dX11_counted_68 : decode cX11_counted 68 = .ok (.istore_n 2, 1) := by decide +kernel
theorem dX11_counted_69 : decode cX11_counted 69 = .ok (.iinc 3 1, 3) := by decide +kernel
theorem dX11_counted_72 : decode cX11_counted 72 = .ok (.goto (-31), 3) := by decide +kernel
theorem dX11_counted_75 : decode cX11_counted 75 = .ok (.iload_n 1, 1) := by decide +kernel
theorem dX11_counted_76 : decode cX11_counted 76 = .ok (.tableswitch 70 0 5 #[40, 45, 50, 55, 60, 65], 40) := by decide +kernel
theorem dX11_counted_116 : decode cX11_counted 116 = .ok (.aload_n 0, 1) := by decide +kernel
theorem dX11_counted_117 : decode cX11_counted 117 = .ok (.getfield 178, 3) := by decide +kernel
theorem dX11_counted_120 : decode cX11_counted 120 = .ok (.ireturn, 1) := by decide +kernel
theorem dX11_counted_121 : decode cX11_counted 121 = .ok (.aload_n 0, 1) := by decide +kernel
theorem dX11_counted_122 : decode cX11_counted 122 = .ok (.getfield 181, 3) := by decide +kernel
theorem dX11_counted_125 : decode cX11_counted 125 = .ok (.ireturn, 1) := by decide +kernel
theorem dX11_counted_126 : decode cX11_counted 126 = .ok (.aload_n 0, 1) := by decide +kernel
theorem dX11_counted_127 : decode cX11_counted 127 = .ok (.getfield 184, 3) := by decide +kernel
theorem dX11_counted_130 : decode cX11_counted 130 = .ok (.ireturn, 1) := by decide +kernel
theorem dX11_counted_131 : decode cX11_counted 131 = .ok (.aload_n 0, 1) := by decide +kernel
theorem dX11_counted_132 : decode cX11_counted 132 = .ok (.getfield 190, 3) := by decide +kernel
theorem dX11_counted_135 : decode cX11_counted 135 = .ok (.ireturn, 1) := by decide +kernel
theorem dX11_counted_136 : decode cX11_counted 136 = .ok (.aload_n 0, 1) := by decide +kernel
theorem dX11_counted_137 : decode cX11_counted 137 = .ok (.getfield 187, 3) := by decide +kernel
theorem dX11_counted_140 : decode cX11_counted 140 = .ok (.ireturn, 1) := by decide +kernel
theorem dX11_counted_141 : decode cX11_counted 141 = .ok (.aload_n 0, 1) := by decide +kernel
theorem dX11_counted_142 : decode cX11_counted 142 = .ok (.getfield 193, 3) := by decide +kernel
theorem dX11_counted_145 : decode cX11_counted 145 = .ok (.ireturn, 1) := by decide +kernel
theorem dX11_counted_146 : decode cX11_counted 146 = .ok (.iload_n 2, 1) := by decide +kernel
theorem dX11_counted_147 : decode cX11_counted 147 = .ok (.ireturn, 1) := by decide +kernel
theorem dX11_count_0 : decode cX11_count 0 = .ok (.iload_n 1, 1) := by decide +kernel
theorem dX11_count_1 : decode cX11_count 1 = .ok (.iconst 0, 1) := by decide +kernel
theorem dX11_count_2 : decode cX11_count 2 = .ok (.bipush 7, 2) := by decide +kernel
theorem dX11_count_4 : decode cX11_count 4 = .ok (.invokestatic 98, 3) := by decide +kernel
theorem dX11_count_7 : decode cX11_count 7 = .ok (.ifCond .eq 11, 3) := by decide +kernel
theorem dX11_count_10 : decode cX11_count 10 = .ok (.aload_n 0, 1) := by decide +kernel
theorem dX11_count_11 : decode cX11_count 11 = .ok (.iload_n 1, 1) := by decide +kernel
theorem dX11_count_12 : decode cX11_count 12 = .ok (.invokevirtual 339, 3) := by decide +kernel
theorem dX11_count_15 : decode cX11_count 15 = .ok (.goto 4, 3) := by decide +kernel
theorem dX11_count_18 : decode cX11_count 18 = .ok (.iconst (-1), 1) := by decide +kernel
theorem dX11_count_19 : decode cX11_count 19 = .ok (.ireturn, 1) := by decide +kernel
theorem dX11_mix_0 : decode cX11_mix 0 = .ok (.aload_n 0, 1) := by decide +kernel
theorem dX11_mix_1 : decode cX11_mix 1 = .ok (.ldc2_w 342, 3) := by decide +kernel
theorem dX11_mix_4 : decode cX11_mix 4 = .ok (.aload_n 0, 1) := by decide +kernel
theorem dX11_mix_5 : decode cX11_mix 5 = .ok (.getfield 344, 3) := by decide +kernel
theorem dX11_mix_8 : decode cX11_mix 8 = .ok (.lmul, 1) := by decide +kernel
theorem dX11_mix_9 : decode cX11_mix 9 = .ok (.lload_n 1, 1) := by decide +kernel
theorem dX11_mix_10 : decode cX11_mix 10 = .ok (.ladd, 1) := by decide +kernel
theorem dX11_mix_11 : decode cX11_mix 11 = .ok (.putfield 344, 3) := by decide +kernel
theorem dX11_mix_14 : decode cX11_mix 14 = .ok (.return_, 1) := by decide +kernel
theorem dX11_mixIsland_0 : decode cX11_mixIsland 0 = .ok (.aload_n 0, 1) := by decide +kernel
theorem dX11_mixIsland_1 : decode cX11_mixIsland 1 = .ok (.aload_n 0, 1) := by decide +kernel
theorem dX11_mixIsland_2 : decode cX11_mixIsland 2 = .ok (.getfield 91, 3) := by decide +kernel
theorem dX11_mixIsland_5 : decode cX11_mixIsland 5 = .ok (.i2l, 1) := by decide +kernel
theorem dX11_mixIsland_6 : decode cX11_mixIsland 6 = .ok (.invokevirtual 347, 3) := by decide +kernel
theorem dX11_mixIsland_9 : decode cX11_mixIsland 9 = .ok (.aload_n 0, 1) := by decide +kernel
theorem dX11_mixIsland_10 : decode cX11_mixIsland 10 = .ok (.invokevirtual 217, 3) := by decide +kernel
theorem dX11_mixIsland_13 : decode cX11_mixIsland 13 = .ok (.iconst 0, 1) := by decide +kernel
theorem dX11_mixIsland_14 : decode cX11_mixIsland 14 = .ok (.istore_n 1, 1) := by decide +kernel
theorem dX11_mixIsland_15 : decode cX11_mixIsland 15 = .ok (.iload_n 1, 1) := by decide +kernel
theorem dX11_mixIsland_16 : decode cX11_mixIsland 16 = .ok (.aload_n 0, 1) := by decide +kernel
theorem dX11_mixIsland_17 : decode cX11_mixIsland 17 = .ok (.getfield 181, 3) := by decide +kernel
theorem dX11_mixIsland_20 : decode cX11_mixIsland 20 = .ok (.if_icmp .ge 33, 3) := by decide +kernel
theorem dX11_mixIsland_23 : decode cX11_mixIsland 23 = .ok (.iconst 0, 1) := by decide +kernel
theorem dX11_mixIsland_24 : decode cX11_mixIsland 24 = .ok (.istore_n 2, 1) := by decide +kernel
theorem dX11_mixIsland_25 : decode cX11_mixIsland 25 = .ok (.iload_n 2, 1) := by decide +kernel
theorem dX11_mixIsland_26 : decode cX11_mixIsland 26 = .ok (.iconst 4, 1) := by decide +kernel
theorem dX11_mixIsland_27 : decode cX11_mixIsland 27 = .ok (.if_icmp .ge 20, 3) := by decide +kernel
theorem dX11_mixIsland_30 : decode cX11_mixIsland 30 = .ok (.aload_n 0, 1) := by decide +kernel
theorem dX11_mixIsland_31 : decode cX11_mixIsland 31 = .ok (.aload_n 0, 1) := by decide +kernel
theorem dX11_mixIsland_32 : decode cX11_mixIsland 32 = .ok (.iload_n 1, 1) := by decide +kernel
theorem dX11_mixIsland_33 : decode cX11_mixIsland 33 = .ok (.iload_n 2, 1) := by decide +kernel
theorem dX11_mixIsland_34 : decode cX11_mixIsland 34 = .ok (.invokevirtual 223, 3) := by decide +kernel
theorem dX11_mixIsland_37 : decode cX11_mixIsland 37 = .ok (.i2l, 1) := by decide +kernel
theorem dX11_mixIsland_38 : decode cX11_mixIsland 38 = .ok (.invokevirtual 347, 3) := by decide +kernel
theorem dX11_mixIsland_41 : decode cX11_mixIsland 41 = .ok (.iinc 2 1, 3) := by decide +kernel
theorem dX11_mixIsland_44 : decode cX11_mixIsland 44 = .ok (.goto (-19), 3) := by decide +kernel
theorem dX11_mixIsland_47 : decode cX11_mixIsland 47 = .ok (.iinc 1 1, 3) := by decide +kernel
theorem dX11_mixIsland_50 : decode cX11_mixIsland 50 = .ok (.goto (-35), 3) := by decide +kernel
theorem dX11_mixIsland_53 : decode cX11_mixIsland 53 = .ok (.iconst 0, 1) := by decide +kernel
theorem dX11_mixIsland_54 : decode cX11_mixIsland 54 = .ok (.istore_n 1, 1) := by decide +kernel
theorem dX11_mixIsland_55 : decode cX11_mixIsland 55 = .ok (.iload_n 1, 1) := by decide +kernel
theorem dX11_mixIsland_56 : decode cX11_mixIsland 56 = .ok (.iconst 4, 1) := by decide +kernel
theorem dX11_mixIsland_57 : decode cX11_mixIsland 57 = .ok (.aload_n 0, 1) := by decide +kernel
theorem dX11_mixIsland_58 : decode cX11_mixIsland 58 = .ok (.getfield 184, 3) := by decide +kernel
theorem dX11_mixIsland_61 : decode cX11_mixIsland 61 = .ok (.imul, 1) := by decide +kernel
theorem dX11_mixIsland_62 : decode cX11_mixIsland 62 = .ok (.if_icmp .ge 20, 3) := by decide +kernel
theorem dX11_mixIsland_65 : decode cX11_mixIsland 65 = .ok (.aload_n 0, 1) := by decide +kernel
theorem dX11_mixIsland_66 : decode cX11_mixIsland 66 = .ok (.aload_n 0, 1) := by decide +kernel
theorem dX11_mixIsland_67 : decode cX11_mixIsland 67 = .ok (.getfield 35, 3) := by decide +kernel
theorem dX11_mixIsland_70 : decode cX11_mixIsland 70 = .ok (.iload_n 1, 1) := by decide +kernel
theorem dX11_mixIsland_71 : decode cX11_mixIsland 71 = .ok (.iaload, 1) := by decide +kernel
theorem dX11_mixIsland_72 : decode cX11_mixIsland 72 = .ok (.i2l, 1) := by decide +kernel
theorem dX11_mixIsland_73 : decode cX11_mixIsland 73 = .ok (.invokevirtual 347, 3) := by decide +kernel
theorem dX11_mixIsland_76 : decode cX11_mixIsland 76 = .ok (.iinc 1 1, 3) := by decide +kernel
theorem dX11_mixIsland_79 : decode cX11_mixIsland 79 = .ok (.goto (-24), 3) := by decide +kernel
theorem dX11_mixIsland_82 : decode cX11_mixIsland 82 = .ok (.iconst 0, 1) := by decide +kernel
theorem dX11_mixIsland_83 : decode cX11_mixIsland 83 = .ok (.istore_n 1, 1) := by decide +kernel
theorem dX11_mixIsland_84 : decode cX11_mixIsland 84 = .ok (.iload_n 1, 1) := by decide +kernel
theorem dX11_mixIsland_85 : decode cX11_mixIsland 85 = .ok (.aload_n 0, 1) := by decide +kernel
theorem dX11_mixIsland_86 : decode cX11_mixIsland 86 = .ok (.getfield 193, 3) := by decide +kernel
theorem dX11_mixIsland_89 : decode cX11_mixIsland 89 = .ok (.if_icmp .ge 31, 3) := by decide +kernel
theorem dX11_mixIsland_92 : decode cX11_mixIsland 92 = .ok (.aload_n 0, 1) := by decide +kernel
theorem dX11_mixIsland_93 : decode cX11_mixIsland 93 = .ok (.aload_n 0, 1) := by decide +kernel
theorem dX11_mixIsland_94 : decode cX11_mixIsland 94 = .ok (.getfield 81, 3) := by decide +kernel
theorem dX11_mixIsland_97 : decode cX11_mixIsland 97 = .ok (.iload_n 1, 1) := by decide +kernel
theorem dX11_mixIsland_98 : decode cX11_mixIsland 98 = .ok (.iaload, 1) := by decide +kernel
theorem dX11_mixIsland_99 : decode cX11_mixIsland 99 = .ok (.i2l, 1) := by decide +kernel
theorem dX11_mixIsland_100 : decode cX11_mixIsland 100 = .ok (.invokevirtual 347, 3) := by decide +kernel
theorem dX11_mixIsland_103 : decode cX11_mixIsland 103 = .ok (.aload_n 0, 1) := by decide +kernel
theorem dX11_mixIsland_104 : decode cX11_mixIsland 104 = .ok (.aload_n 0, 1) := by decide +kernel
theorem dX11_mixIsland_105 : decode cX11_mixIsland 105 = .ok (.getfield 84, 3) := by decide +kernel
theorem dX11_mixIsland_108 : decode cX11_mixIsland 108 = .ok (.iload_n 1, 1) := by decide +kernel
theorem dX11_mixIsland_109 : decode cX11_mixIsland 109 = .ok (.iaload, 1) := by decide +kernel
theorem dX11_mixIsland_110 : decode cX11_mixIsland 110 = .ok (.i2l, 1) := by decide +kernel
theorem dX11_mixIsland_111 : decode cX11_mixIsland 111 = .ok (.invokevirtual 347, 3) := by decide +kernel
theorem dX11_mixIsland_114 : decode cX11_mixIsland 114 = .ok (.iinc 1 1, 3) := by decide +kernel
theorem dX11_mixIsland_117 : decode cX11_mixIsland 117 = .ok (.goto (-33), 3) := by decide +kernel
theorem dX11_mixIsland_120 : decode cX11_mixIsland 120 = .ok (.iconst 0, 1) := by decide +kernel
theorem dX11_mixIsland_121 : decode cX11_mixIsland 121 = .ok (.istore_n 1, 1) := by decide +kernel
theorem dX11_mixIsland_122 : decode cX11_mixIsland 122 = .ok (.iload_n 1, 1) := by decide +kernel
theorem dX11_mixIsland_123 : decode cX11_mixIsland 123 = .ok (.iconst 3, 1) := by decide +kernel
theorem dX11_mixIsland_124 : decode cX11_mixIsland 124 = .ok (.if_icmp .ge 76, 3) := by decide +kernel
theorem dX11_mixIsland_127 : decode cX11_mixIsland 127 = .ok (.aload_n 0, 1) := by decide +kernel
theorem dX11_mixIsland_128 : decode cX11_mixIsland 128 = .ok (.getfield 59, 3) := by decide +kernel
theorem dX11_mixIsland_131 : decode cX11_mixIsland 131 = .ok (.iload_n 1, 1) := by decide +kernel
theorem dX11_mixIsland_132 : decode cX11_mixIsland 132 = .ok (.iaload, 1) := by decide +kernel
theorem dX11_mixIsland_133 : decode cX11_mixIsland 133 = .ok (.ifCond .ge 13, 3) := by decide +kernel
theorem dX11_mixIsland_136 : decode cX11_mixIsland 136 = .ok (.aload_n 0, 1) := by decide +kernel
theorem dX11_mixIsland_137 : decode cX11_mixIsland 137 = .ok (.ldc2_w 351, 3) := by decide +kernel
theorem dX11_mixIsland_140 : decode cX11_mixIsland 140 = .ok (.invokevirtual 347, 3) := by decide +kernel
theorem dX11_mixIsland_143 : decode cX11_mixIsland 143 = .ok (.goto 51, 3) := by decide +kernel
theorem dX11_mixIsland_146 : decode cX11_mixIsland 146 = .ok (.aload_n 0, 1) := by decide +kernel
theorem dX11_mixIsland_147 : decode cX11_mixIsland 147 = .ok (.aload_n 0, 1) := by decide +kernel
theorem dX11_mixIsland_148 : decode cX11_mixIsland 148 = .ok (.getfield 59, 3) := by decide +kernel
theorem dX11_mixIsland_151 : decode cX11_mixIsland 151 = .ok (.iload_n 1, 1) := by decide +kernel
theorem dX11_mixIsland_152 : decode cX11_mixIsland 152 = .ok (.iaload, 1) := by decide +kernel
theorem dX11_mixIsland_153 : decode cX11_mixIsland 153 = .ok (.invokevirtual 255, 3) := by decide +kernel
theorem dX11_mixIsland_156 : decode cX11_mixIsland 156 = .ok (.iconst 0, 1) := by decide +kernel
theorem dX11_mixIsland_157 : decode cX11_mixIsland 157 = .ok (.istore_n 2, 1) := by decide +kernel
theorem dX11_mixIsland_158 : decode cX11_mixIsland 158 = .ok (.iload_n 2, 1) := by decide +kernel
theorem dX11_mixIsland_159 : decode cX11_mixIsland 159 = .ok (.aload_n 0, 1) := by decide +kernel
theorem dX11_mixIsland_160 : decode cX11_mixIsland 160 = .ok (.getfield 181, 3) := by decide +kernel
theorem dX11_mixIsland_163 : decode cX11_mixIsland 163 = .ok (.if_icmp .ge 20, 3) := by decide +kernel
theorem dX11_mixIsland_166 : decode cX11_mixIsland 166 = .ok (.aload_n 0, 1) := by decide +kernel
theorem dX11_mixIsland_167 : decode cX11_mixIsland 167 = .ok (.aload_n 0, 1) := by decide +kernel
theorem dX11_mixIsland_168 : decode cX11_mixIsland 168 = .ok (.getfield 50, 3) := by decide +kernel
theorem dX11_mixIsland_171 : decode cX11_mixIsland 171 = .ok (.iload_n 2, 1) := by decide +kernel
theorem dX11_mixIsland_172 : decode cX11_mixIsland 172 = .ok (.iaload, 1) := by decide +kernel
theorem dX11_mixIsland_173 : decode cX11_mixIsland 173 = .ok (.i2l, 1) := by decide +kernel
theorem dX11_mixIsland_174 : decode cX11_mixIsland 174 = .ok (.invokevirtual 347, 3) := by decide +kernel
theorem dX11_mixIsland_177 : decode cX11_mixIsland 177 = .ok (.iinc 2 1, 3) := by decide +kernel
theorem dX11_mixIsland_180 : decode cX11_mixIsland 180 = .ok (.goto (-22), 3) := by decide +kernel
theorem dX11_mixIsland_183 : decode cX11_mixIsland 183 = .ok (.aload_n 0, 1) := by decide +kernel
theorem dX11_mixIsland_184 : decode cX11_mixIsland 184 = .ok (.aload_n 0, 1) := by decide +kernel
theorem dX11_mixIsland_185 : decode cX11_mixIsland 185 = .ok (.getfield 62, 3) := by decide +kernel
theorem dX11_mixIsland_188 : decode cX11_mixIsland 188 = .ok (.iload_n 1, 1) := by decide +kernel
theorem dX11_mixIsland_189 : decode cX11_mixIsland 189 = .ok (.iaload, 1) := by decide +kernel
theorem dX11_mixIsland_190 : decode cX11_mixIsland 190 = .ok (.i2l, 1) := by decide +kernel
theorem dX11_mixIsland_191 : decode cX11_mixIsland 191 = .ok (.invokevirtual 347, 3) := by decide +kernel
theorem dX11_mixIsland_194 : decode cX11_mixIsland 194 = .ok (.iinc 1 1, 3) := by decide +kernel
theorem dX11_mixIsland_197 : decode cX11_mixIsland 197 = .ok (.goto (-75), 3) := by decide +kernel
theorem dX11_mixIsland_200 : decode cX11_mixIsland 200 = .ok (.return_, 1) := by decide +kernel
theorem dX11_digest_0 : decode cX11_digest 0 = .ok (.aload_n 0, 1) := by decide +kernel
theorem dX11_digest_1 : decode cX11_digest 1 = .ok (.ldc2_w 353, 3) := by decide +kernel
theorem dX11_digest_4 : decode cX11_digest 4 = .ok (.putfield 344, 3) := by decide +kernel
theorem dX11_digest_7 : decode cX11_digest 7 = .ok (.iconst 0, 1) := by decide +kernel
theorem dX11_digest_8 : decode cX11_digest 8 = .ok (.istore_n 1, 1) := by decide +kernel
theorem dX11_digest_9 : decode cX11_digest 9 = .ok (.iload_n 1, 1) := by decide +kernel
theorem dX11_digest_10 : decode cX11_digest 10 = .ok (.bipush 8, 2) := by decide +kernel
theorem dX11_digest_12 : decode cX11_digest 12 = .ok (.if_icmp .ge 19, 3) := by decide +kernel
theorem dX11_digest_15 : decode cX11_digest 15 = .ok (.aload_n 0, 1) := by decide +kernel
theorem dX11_digest_16 : decode cX11_digest 16 = .ok (.aload_n 0, 1) := by decide +kernel
theorem dX11_digest_17 : decode cX11_digest 17 = .ok (.iload_n 1, 1) := by decide +kernel
theorem dX11_digest_18 : decode cX11_digest 18 = .ok (.invokevirtual 339, 3) := by decide +kernel
theorem dX11_digest_21 : decode cX11_digest 21 = .ok (.i2l, 1) := by decide +kernel
theorem dX11_digest_22 : decode cX11_digest 22 = .ok (.invokevirtual 347, 3) := by decide +kernel
theorem dX11_digest_25 : decode cX11_digest 25 = .ok (.iinc 1 1, 3) := by decide +kernel
theorem dX11_digest_28 : decode cX11_digest 28 = .ok (.goto (-19), 3) := by decide +kernel
theorem dX11_digest_31 : decode cX11_digest 31 = .ok (.aload_n 0, 1) := by decide +kernel
theorem dX11_digest_32 : decode cX11_digest 32 = .ok (.invokevirtual 355, 3) := by decide +kernel
theorem dX11_digest_35 : decode cX11_digest 35 = .ok (.iconst 0, 1) := by decide +kernel
theorem dX11_digest_36 : decode cX11_digest 36 = .ok (.istore_n 1, 1) := by decide +kernel
theorem dX11_digest_37 : decode cX11_digest 37 = .ok (.iload_n 1, 1) := by decide +kernel
theorem dX11_digest_38 : decode cX11_digest 38 = .ok (.bipush 6, 2) := by decide +kernel
theorem dX11_digest_40 : decode cX11_digest 40 = .ok (.if_icmp .ge 49, 3) := by decide +kernel
theorem dX11_digest_43 : decode cX11_digest 43 = .ok (.aload_n 0, 1) := by decide +kernel
theorem dX11_digest_44 : decode cX11_digest 44 = .ok (.aload_n 0, 1) := by decide +kernel
theorem dX11_digest_45 : decode cX11_digest 45 = .ok (.getfield 13, 3) := by decide +kernel
theorem dX11_digest_48 : decode cX11_digest 48 = .ok (.iload_n 1, 1) := by decide +kernel
theorem dX11_digest_49 : decode cX11_digest 49 = .ok (.iaload, 1) := by decide +kernel
theorem dX11_digest_50 : decode cX11_digest 50 = .ok (.i2l, 1) := by decide +kernel
theorem dX11_digest_51 : decode cX11_digest 51 = .ok (.invokevirtual 347, 3) := by decide +kernel
theorem dX11_digest_54 : decode cX11_digest 54 = .ok (.iconst 0, 1) := by decide +kernel
theorem dX11_digest_55 : decode cX11_digest 55 = .ok (.istore_n 2, 1) := by decide +kernel
theorem dX11_digest_56 : decode cX11_digest 56 = .ok (.iload_n 2, 1) := by decide +kernel
theorem dX11_digest_57 : decode cX11_digest 57 = .ok (.aload_n 0, 1) := by decide +kernel
theorem dX11_digest_58 : decode cX11_digest 58 = .ok (.getfield 13, 3) := by decide +kernel
theorem dX11_digest_61 : decode cX11_digest 61 = .ok (.iload_n 1, 1) := by decide +kernel
theorem dX11_digest_62 : decode cX11_digest 62 = .ok (.iaload, 1) := by decide +kernel
theorem dX11_digest_63 : decode cX11_digest 63 = .ok (.if_icmp .ge 20, 3) := by decide +kernel
theorem dX11_digest_66 : decode cX11_digest 66 = .ok (.aload_n 0, 1) := by decide +kernel
theorem dX11_digest_67 : decode cX11_digest 67 = .ok (.aload_n 0, 1) := by decide +kernel
theorem dX11_digest_68 : decode cX11_digest 68 = .ok (.iload_n 1, 1) := by decide +kernel
theorem dX11_digest_69 : decode cX11_digest 69 = .ok (.iload_n 2, 1) := by decide +kernel
theorem dX11_digest_70 : decode cX11_digest 70 = .ok (.invokevirtual 116, 3) := by decide +kernel
theorem dX11_digest_73 : decode cX11_digest 73 = .ok (.i2l, 1) := by decide +kernel
theorem dX11_digest_74 : decode cX11_digest 74 = .ok (.invokevirtual 347, 3) := by decide +kernel
theorem dX11_digest_77 : decode cX11_digest 77 = .ok (.iinc 2 1, 3) := by decide +kernel
theorem dX11_digest_80 : decode cX11_digest 80 = .ok (.goto (-24), 3) := by decide +kernel
theorem dX11_digest_83 : decode cX11_digest 83 = .ok (.iinc 1 1, 3) := by decide +kernel
theorem dX11_digest_86 : decode cX11_digest 86 = .ok (.goto (-49), 3) := by decide +kernel
theorem dX11_digest_89 : decode cX11_digest 89 = .ok (.iconst 0, 1) := by decide +kernel
theorem dX11_digest_90 : decode cX11_digest 90 = .ok (.istore_n 1, 1) := by decide +kernel
theorem dX11_digest_91 : decode cX11_digest 91 = .ok (.iload_n 1, 1) := by decide +kernel
theorem dX11_digest_92 : decode cX11_digest 92 = .ok (.iconst 4, 1) := by decide +kernel
theorem dX11_digest_93 : decode cX11_digest 93 = .ok (.if_icmp .ge 49, 3) := by decide +kernel
theorem dX11_digest_96 : decode cX11_digest 96 = .ok (.aload_n 0, 1) := by decide +kernel
theorem dX11_digest_97 : decode cX11_digest 97 = .ok (.aload_n 0, 1) := by decide +kernel
theorem dX11_digest_98 : decode cX11_digest 98 = .ok (.getfield 22, 3) := by decide +kernel
theorem dX11_digest_101 : decode cX11_digest 101 = .ok (.iload_n 1, 1) := by decide +kernel
theorem dX11_digest_102 : decode cX11_digest 102 = .ok (.iaload, 1) := by decide +kernel
theorem dX11_digest_103 : decode cX11_digest 103 = .ok (.i2l, 1) := by decide +kernel
theorem dX11_digest_104 : decode cX11_digest 104 = .ok (.invokevirtual 347, 3) := by decide +kernel
theorem dX11_digest_107 : decode cX11_digest 107 = .ok (.iconst 0, 1) := by decide +kernel
theorem dX11_digest_108 : decode cX11_digest 108 = .ok (.istore_n 2, 1) := by decide +kernel
theorem dX11_digest_109 : decode cX11_digest 109 = .ok (.iload_n 2, 1) := by decide +kernel
theorem dX11_digest_110 : decode cX11_digest 110 = .ok (.aload_n 0, 1) := by decide +kernel
theorem dX11_digest_111 : decode cX11_digest 111 = .ok (.getfield 22, 3) := by decide +kernel
theorem dX11_digest_114 : decode cX11_digest 114 = .ok (.iload_n 1, 1) := by decide +kernel
theorem dX11_digest_115 : decode cX11_digest 115 = .ok (.iaload, 1) := by decide +kernel
theorem dX11_digest_116 : decode cX11_digest 116 = .ok (.if_icmp .ge 20, 3) := by decide +kernel
theorem dX11_digest_119 : decode cX11_digest 119 = .ok (.aload_n 0, 1) := by decide +kernel
theorem dX11_digest_120 : decode cX11_digest 120 = .ok (.aload_n 0, 1) := by decide +kernel
theorem dX11_digest_121 : decode cX11_digest 121 = .ok (.iload_n 1, 1) := by decide +kernel
theorem dX11_digest_122 : decode cX11_digest 122 = .ok (.iload_n 2, 1) := by decide +kernel
theorem dX11_digest_123 : decode cX11_digest 123 = .ok (.invokevirtual 129, 3) := by decide +kernel
theorem dX11_digest_126 : decode cX11_digest 126 = .ok (.i2l, 1) := by decide +kernel
theorem dX11_digest_127 : decode cX11_digest 127 = .ok (.invokevirtual 347, 3) := by decide +kernel
theorem dX11_digest_130 : decode cX11_digest 130 = .ok (.iinc 2 1, 3) := by decide +kernel
theorem dX11_digest_133 : decode cX11_digest 133 = .ok (.goto (-24), 3) := by decide +kernel
theorem dX11_digest_136 : decode cX11_digest 136 = .ok (.iinc 1 1, 3) := by decide +kernel
theorem dX11_digest_139 : decode cX11_digest 139 = .ok (.goto (-48), 3) := by decide +kernel
theorem dX11_digest_142 : decode cX11_digest 142 = .ok (.aload_n 0, 1) := by decide +kernel
theorem dX11_digest_143 : decode cX11_digest 143 = .ok (.getfield 344, 3) := by decide +kernel
theorem dX11_digest_146 : decode cX11_digest 146 = .ok (.lreturn, 1) := by decide +kernel

theorem dX0_init_0 : decode cX0_init 0 = .ok (.aload_n 0, 1) := by decide +kernel
theorem dX0_init_1 : decode cX0_init 1 = .ok (.invokespecial 3, 3) := by decide +kernel
theorem dX0_init_4 : decode cX0_init 4 = .ok (.aload_n 0, 1) := by decide +kernel
theorem dX0_init_5 : decode cX0_init 5 = .ok (.sipush 8525, 3) := by decide +kernel
theorem dX0_init_8 : decode cX0_init 8 = .ok (.newarray .int, 2) := by decide +kernel
theorem dX0_init_10 : decode cX0_init 10 = .ok (.putfield 9, 3) := by decide +kernel
theorem dX0_init_13 : decode cX0_init 13 = .ok (.aload_n 0, 1) := by decide +kernel
theorem dX0_init_14 : decode cX0_init 14 = .ok (.sipush 8525, 3) := by decide +kernel
theorem dX0_init_17 : decode cX0_init 17 = .ok (.newarray .int, 2) := by decide +kernel
theorem dX0_init_19 : decode cX0_init 19 = .ok (.putfield 15, 3) := by decide +kernel
theorem dX0_init_22 : decode cX0_init 22 = .ok (.aload_n 0, 1) := by decide +kernel
theorem dX0_init_23 : decode cX0_init 23 = .ok (.sipush 8525, 3) := by decide +kernel
theorem dX0_init_26 : decode cX0_init 26 = .ok (.newarray .int, 2) := by decide +kernel
theorem dX0_init_28 : decode cX0_init 28 = .ok (.putfield 18, 3) := by decide +kernel
theorem dX0_init_31 : decode cX0_init 31 = .ok (.aload_n 0, 1) := by decide +kernel
theorem dX0_init_32 : decode cX0_init 32 = .ok (.aload_n 1, 1) := by decide +kernel
theorem dX0_init_33 : decode cX0_init 33 = .ok (.putfield 21, 3) := by decide +kernel
theorem dX0_init_36 : decode cX0_init 36 = .ok (.aload_n 0, 1) := by decide +kernel
theorem dX0_init_37 : decode cX0_init 37 = .ok (.aload_n 2, 1) := by decide +kernel
theorem dX0_init_38 : decode cX0_init 38 = .ok (.putfield 25, 3) := by decide +kernel
theorem dX0_init_41 : decode cX0_init 41 = .ok (.aload_n 0, 1) := by decide +kernel
theorem dX0_init_42 : decode cX0_init 42 = .ok (.new 29, 3) := by decide +kernel
theorem dX0_init_45 : decode cX0_init 45 = .ok (.dup, 1) := by decide +kernel
theorem dX0_init_46 : decode cX0_init 46 = .ok (.aload_n 1, 1) := by decide +kernel
theorem dX0_init_47 : decode cX0_init 47 = .ok (.invokespecial 31, 3) := by decide +kernel
theorem dX0_init_50 : decode cX0_init 50 = .ok (.putfield 34, 3) := by decide +kernel
theorem dX0_init_53 : decode cX0_init 53 = .ok (.return_, 1) := by decide +kernel
theorem dX0_best_0 : decode cX0_best 0 = .ok (.aload_n 0, 1) := by decide +kernel
theorem dX0_best_1 : decode cX0_best 1 = .ok (.getfield 21, 3) := by decide +kernel
theorem dX0_best_4 : decode cX0_best 4 = .ok (.invokevirtual 38, 3) := by decide +kernel
theorem dX0_best_7 : decode cX0_best 7 = .ok (.istore 4, 2) := by decide +kernel
theorem dX0_best_9 : decode cX0_best 9 = .ok (.iload 4, 2) := by decide +kernel
theorem dX0_best_11 : decode cX0_best 11 = .ok (.ifCond .ge 5, 3) := by decide +kernel
theorem dX0_best_14 : decode cX0_best 14 = .ok (.iconst 0, 1) := by decide +kernel
theorem dX0_best_15 : decode cX0_best 15 = .ok (.ireturn, 1) := by decide +kernel
theorem dX0_best_16 : decode cX0_best 16 = .ok (.aload_n 0, 1) := by decide +kernel
theorem dX0_best_17 : decode cX0_best 17 = .ok (.getfield 25, 3) := by decide +kernel
theorem dX0_best_20 : decode cX0_best 20 = .ok (.iload_n 1, 1) := by decide +kernel
theorem dX0_best_21 : decode cX0_best 21 = .ok (.iload_n 2, 1) := by decide +kernel
theorem dX0_best_22 : decode cX0_best 22 = .ok (.invokevirtual 44, 3) := by decide +kernel
theorem dX0_best_25 : decode cX0_best 25 = .ok (.aload_n 0, 1) := by decide +kernel
theorem dX0_best_26 : decode cX0_best 26 = .ok (.getfield 25, 3) := by decide +kernel
theorem dX0_best_29 : decode cX0_best 29 = .ok (.iload_n 3, 1) := by decide +kernel
theorem dX0_best_30 : decode cX0_best 30 = .ok (.iload 4, 2) := by decide +kernel
theorem dX0_best_32 : decode cX0_best 32 = .ok (.iconst 1, 1) := by decide +kernel
theorem dX0_best_33 : decode cX0_best 33 = .ok (.iadd, 1) := by decide +kernel
theorem dX0_best_34 : decode cX0_best 34 = .ok (.imul, 1) := by decide +kernel
theorem dX0_best_35 : decode cX0_best 35 = .ok (.invokevirtual 50, 3) := by decide +kernel
theorem dX0_best_38 : decode cX0_best 38 = .ok (.aload_n 0, 1) := by decide +kernel
theorem dX0_best_39 : decode cX0_best 39 = .ok (.getfield 9, 3) := by decide +kernel
theorem dX0_best_42 : decode cX0_best 42 = .ok (.iconst 0, 1) := by decide +kernel
theorem dX0_best_43 : decode cX0_best 43 = .ok (.iconst 0, 1) := by decide +kernel
theorem dX0_best_44 : decode cX0_best 44 = .ok (.iastore, 1) := by decide +kernel
theorem dX0_best_45 : decode cX0_best 45 = .ok (.aload_n 0, 1) := by decide +kernel
theorem dX0_best_46 : decode cX0_best 46 = .ok (.iconst 0, 1) := by decide +kernel
theorem dX0_best_47 : decode cX0_best 47 = .ok (.iconst 0, 1) := by decide +kernel
theorem dX0_best_48 : decode cX0_best 48 = .ok (.invokevirtual 54, 3) := by decide +kernel
theorem dX0_best_51 : decode cX0_best 51 = .ok (.istore 5, 2) := by decide +kernel
theorem dX0_best_53 : decode cX0_best 53 = .ok (.iconst 0, 1) := by decide +kernel
theorem dX0_best_54 : decode cX0_best 54 = .ok (.istore 6, 2) := by decide +kernel
theorem dX0_best_56 : decode cX0_best 56 = .ok (.iload 6, 2) := by decide +kernel
theorem dX0_best_58 : decode cX0_best 58 = .ok (.iload 4, 2) := by decide +kernel
theorem dX0_best_60 : decode cX0_best 60 = .ok (.if_icmp .gt 61, 3) := by decide +kernel
theorem dX0_best_63 : decode cX0_best 63 = .ok (.iconst 1, 1) := by decide +kernel
theorem dX0_best_64 : decode cX0_best 64 = .ok (.istore 7, 2) := by decide +kernel
theorem dX0_best_66 : decode cX0_best 66 = .ok (.iload 7, 2) := by decide +kernel
theorem dX0_best_68 : decode cX0_best 68 = .ok (.iload_n 3, 1) := by decide +kernel
theorem dX0_best_69 : decode cX0_best 69 = .ok (.if_icmp .gt 30, 3) := by decide +kernel
theorem dX0_best_72 : decode cX0_best 72 = .ok (.aload_n 0, 1) := by decide +kernel
theorem dX0_best_73 : decode cX0_best 73 = .ok (.iload 5, 2) := by decide +kernel
theorem dX0_best_75 : decode cX0_best 75 = .ok (.iload 6, 2) := by decide +kernel
theorem dX0_best_77 : decode cX0_best 77 = .ok (.iload_n 3, 1) := by decide +kernel
theorem dX0_best_78 : decode cX0_best 78 = .ok (.imul, 1) := by decide +kernel
theorem dX0_best_79 : decode cX0_best 79 = .ok (.iload 7, 2) := by decide +kernel
theorem dX0_best_81 : decode cX0_best 81 = .ok (.iadd, 1) := by decide +kernel
theorem dX0_best_82 : decode cX0_best 82 = .ok (.invokevirtual 54, 3) := by decide +kernel
theorem dX0_best_85 : decode cX0_best 85 = .ok (.istore 5, 2) := by decide +kernel
theorem dX0_best_87 : decode cX0_best 87 = .ok (.aload_n 0, 1) := by decide +kernel
theorem dX0_best_88 : decode cX0_best 88 = .ok (.iload 5, 2) := by decide +kernel
theorem dX0_best_90 : decode cX0_best 90 = .ok (.invokevirtual 58, 3) := by decide +kernel
theorem dX0_best_93 : decode cX0_best 93 = .ok (.iinc 7 1, 3) := by decide +kernel
theorem dX0_best_96 : decode cX0_best 96 = .ok (.goto (-30), 3) := by decide +kernel
theorem dX0_best_99 : decode cX0_best 99 = .ok (.aload_n 0, 1) := by decide +kernel
theorem dX0_best_100 : decode cX0_best 100 = .ok (.aload_n 0, 1) := by decide +kernel
theorem dX0_best_101 : decode cX0_best 101 = .ok (.getfield 21, 3) := by decide +kernel
theorem dX0_best_104 : decode cX0_best 104 = .ok (.getfield 61, 3) := by decide +kernel
theorem dX0_best_107 : decode cX0_best 107 = .ok (.iload 6, 2) := by decide +kernel
theorem dX0_best_109 : decode cX0_best 109 = .ok (.iaload, 1) := by decide +kernel
theorem dX0_best_110 : decode cX0_best 110 = .ok (.iload 5, 2) := by decide +kernel
theorem dX0_best_112 : decode cX0_best 112 = .ok (.invokevirtual 64, 3) := by decide +kernel
theorem dX0_best_115 : decode cX0_best 115 = .ok (.iinc 6 1, 3) := by decide +kernel
theorem dX0_best_118 : decode cX0_best 118 = .ok (.goto (-62), 3) := by decide +kernel
theorem dX0_best_121 : decode cX0_best 121 = .ok (.iconst 0, 1) := by decide +kernel
theorem dX0_best_122 : decode cX0_best 122 = .ok (.istore 6, 2) := by decide +kernel
theorem dX0_best_124 : decode cX0_best 124 = .ok (.iconst 0, 1) := by decide +kernel
theorem dX0_best_125 : decode cX0_best 125 = .ok (.istore 7, 2) := by decide +kernel
theorem dX0_best_127 : decode cX0_best 127 = .ok (.iload 7, 2) := by decide +kernel
theorem dX0_best_129 : decode cX0_best 129 = .ok (.iload 5, 2) := by decide +kernel
theorem dX0_best_131 : decode cX0_best 131 = .ok (.if_icmp .ge 23, 3) := by decide +kernel
theorem dX0_best_134 : decode cX0_best 134 = .ok (.iload 6, 2) := by decide +kernel
theorem dX0_best_136 : decode cX0_best 136 = .ok (.aload_n 0, 1) := by decide +kernel
theorem dX0_best_137 : decode cX0_best 137 = .ok (.getfield 9, 3) := by decide +kernel
theorem dX0_best_140 : decode cX0_best 140 = .ok (.iload 7, 2) := by decide +kernel
theorem dX0_best_142 : decode cX0_best 142 = .ok (.iaload, 1) := by decide +kernel
theorem dX0_best_143 : decode cX0_best 143 = .ok (.invokestatic 67, 3) := by decide +kernel
theorem dX0_best_146 : decode cX0_best 146 = .ok (.istore 6, 2) := by decide +kernel
theorem dX0_best_148 : decode cX0_best 148 = .ok (.iinc 7 1, 3) := by decide +kernel
theorem dX0_best_151 : decode cX0_best 151 = .ok (.goto (-24), 3) := by decide +kernel
theorem dX0_best_154 : decode cX0_best 154 = .ok (.iload 6, 2) := by decide +kernel
theorem dX0_best_156 : decode cX0_best 156 = .ok (.ireturn, 1) := by decide +kernel
theorem dX0_takeOn_0 : decode cX0_takeOn 0 = .ok (.iload_n 1, 1) := by decide +kernel
theorem dX0_takeOn_1 : decode cX0_takeOn 1 = .ok (.istore_n 3, 1) := by decide +kernel
theorem dX0_takeOn_2 : decode cX0_takeOn 2 = .ok (.iload_n 3, 1) := by decide +kernel
theorem dX0_takeOn_3 : decode cX0_takeOn 3 = .ok (.sipush 8525, 3) := by decide +kernel
theorem dX0_takeOn_6 : decode cX0_takeOn 6 = .ok (.if_icmp .ge 73, 3) := by decide +kernel
theorem dX0_takeOn_9 : decode cX0_takeOn 9 = .ok (.iload_n 3, 1) := by decide +kernel
theorem dX0_takeOn_10 : decode cX0_takeOn 10 = .ok (.aload_n 0, 1) := by decide +kernel
theorem dX0_takeOn_11 : decode cX0_takeOn 11 = .ok (.getfield 25, 3) := by decide +kernel
theorem dX0_takeOn_14 : decode cX0_takeOn 14 = .ok (.invokevirtual 72, 3) := by decide +kernel
theorem dX0_takeOn_17 : decode cX0_takeOn 17 = .ok (.if_icmp .ge 15, 3) := by decide +kernel
theorem dX0_takeOn_20 : decode cX0_takeOn 20 = .ok (.aload_n 0, 1) := by decide +kernel
theorem dX0_takeOn_21 : decode cX0_takeOn 21 = .ok (.getfield 25, 3) := by decide +kernel
theorem dX0_takeOn_24 : decode cX0_takeOn 24 = .ok (.iload_n 3, 1) := by decide +kernel
theorem dX0_takeOn_25 : decode cX0_takeOn 25 = .ok (.invokevirtual 75, 3) := by decide +kernel
theorem dX0_takeOn_28 : decode cX0_takeOn 28 = .ok (.iload_n 2, 1) := by decide +kernel
theorem dX0_takeOn_29 : decode cX0_takeOn 29 = .ok (.if_icmp .le 5, 3) := by decide +kernel
theorem dX0_takeOn_32 : decode cX0_takeOn 32 = .ok (.iload_n 3, 1) := by decide +kernel
theorem dX0_takeOn_33 : decode cX0_takeOn 33 = .ok (.ireturn, 1) := by decide +kernel
theorem dX0_takeOn_34 : decode cX0_takeOn 34 = .ok (.iload_n 3, 1) := by decide +kernel
theorem dX0_takeOn_35 : decode cX0_takeOn 35 = .ok (.ifCond .le 10, 3) := by decide +kernel
theorem dX0_takeOn_38 : decode cX0_takeOn 38 = .ok (.aload_n 0, 1) := by decide +kernel
theorem dX0_takeOn_39 : decode cX0_takeOn 39 = .ok (.getfield 9, 3) := by decide +kernel
theorem dX0_takeOn_42 : decode cX0_takeOn 42 = .ok (.iload_n 3, 1) := by decide +kernel
theorem dX0_takeOn_43 : decode cX0_takeOn 43 = .ok (.iconst (-1), 1) := by decide +kernel
theorem dX0_takeOn_44 : decode cX0_takeOn 44 = .ok (.iastore, 1) := by decide +kernel
theorem dX0_takeOn_45 : decode cX0_takeOn 45 = .ok (.aload_n 0, 1) := by decide +kernel
theorem dX0_takeOn_46 : decode cX0_takeOn 46 = .ok (.getfield 34, 3) := by decide +kernel
theorem dX0_takeOn_49 : decode cX0_takeOn 49 = .ok (.aload_n 0, 1) := by decide +kernel
theorem dX0_takeOn_50 : decode cX0_takeOn 50 = .ok (.getfield 25, 3) := by decide +kernel
theorem dX0_takeOn_53 : decode cX0_takeOn 53 = .ok (.iload_n 3, 1) := by decide +kernel
theorem dX0_takeOn_54 : decode cX0_takeOn 54 = .ok (.invokevirtual 79, 3) := by decide +kernel
theorem dX0_takeOn_57 : decode cX0_takeOn 57 = .ok (.invokevirtual 82, 3) := by decide +kernel
theorem dX0_takeOn_60 : decode cX0_takeOn 60 = .ok (.aload_n 0, 1) := by decide +kernel
theorem dX0_takeOn_61 : decode cX0_takeOn 61 = .ok (.getfield 18, 3) := by decide +kernel
theorem dX0_takeOn_64 : decode cX0_takeOn 64 = .ok (.iload_n 3, 1) := by decide +kernel
theorem dX0_takeOn_65 : decode cX0_takeOn 65 = .ok (.aload_n 0, 1) := by decide +kernel
theorem dX0_takeOn_66 : decode cX0_takeOn 66 = .ok (.getfield 34, 3) := by decide +kernel
theorem dX0_takeOn_69 : decode cX0_takeOn 69 = .ok (.invokevirtual 85, 3) := by decide +kernel
theorem dX0_takeOn_72 : decode cX0_takeOn 72 = .ok (.iastore, 1) := by decide +kernel
theorem dX0_takeOn_73 : decode cX0_takeOn 73 = .ok (.iinc 3 1, 3) := by decide +kernel
theorem dX0_takeOn_76 : decode cX0_takeOn 76 = .ok (.goto (-74), 3) := by decide +kernel
theorem dX0_takeOn_79 : decode cX0_takeOn 79 = .ok (.sipush 8525, 3) := by decide +kernel
theorem dX0_takeOn_82 : decode cX0_takeOn 82 = .ok (.ireturn, 1) := by decide +kernel
theorem dX0_spread_0 : decode cX0_spread 0 = .ok (.aload_n 0, 1) := by decide +kernel
theorem dX0_spread_1 : decode cX0_spread 1 = .ok (.getfield 9, 3) := by decide +kernel
theorem dX0_spread_4 : decode cX0_spread 4 = .ok (.iconst 0, 1) := by decide +kernel
theorem dX0_spread_5 : decode cX0_spread 5 = .ok (.aload_n 0, 1) := by decide +kernel
theorem dX0_spread_6 : decode cX0_spread 6 = .ok (.getfield 15, 3) := by decide +kernel
theorem dX0_spread_9 : decode cX0_spread 9 = .ok (.iconst 0, 1) := by decide +kernel
theorem dX0_spread_10 : decode cX0_spread 10 = .ok (.iload_n 1, 1) := by decide +kernel
theorem dX0_spread_11 : decode cX0_spread 11 = .ok (.invokestatic 87, 3) := by decide +kernel
theorem dX0_spread_14 : decode cX0_spread 14 = .ok (.iconst 0, 1) := by decide +kernel
theorem dX0_spread_15 : decode cX0_spread 15 = .ok (.istore_n 2, 1) := by decide +kernel
theorem dX0_spread_16 : decode cX0_spread 16 = .ok (.iconst 0, 1) := by decide +kernel
theorem dX0_spread_17 : decode cX0_spread 17 = .ok (.istore_n 3, 1) := by decide +kernel
theorem dX0_spread_18 : decode cX0_spread 18 = .ok (.iload_n 3, 1) := by decide +kernel
theorem dX0_spread_19 : decode cX0_spread 19 = .ok (.iload_n 1, 1) := by decide +kernel
theorem dX0_spread_20 : decode cX0_spread 20 = .ok (.if_icmp .ge 105, 3) := by decide +kernel
theorem dX0_spread_23 : decode cX0_spread 23 = .ok (.aload_n 0, 1) := by decide +kernel
theorem dX0_spread_24 : decode cX0_spread 24 = .ok (.getfield 9, 3) := by decide +kernel
theorem dX0_spread_27 : decode cX0_spread 27 = .ok (.iload_n 3, 1) := by decide +kernel
theorem dX0_spread_28 : decode cX0_spread 28 = .ok (.iaload, 1) := by decide +kernel
theorem dX0_spread_29 : decode cX0_spread 29 = .ok (.istore 4, 2) := by decide +kernel
theorem dX0_spread_31 : decode cX0_spread 31 = .ok (.aload_n 0, 1) := by decide +kernel
theorem dX0_spread_32 : decode cX0_spread 32 = .ok (.getfield 15, 3) := by decide +kernel
theorem dX0_spread_35 : decode cX0_spread 35 = .ok (.iload_n 3, 1) := by decide +kernel
theorem dX0_spread_36 : decode cX0_spread 36 = .ok (.iaload, 1) := by decide +kernel
theorem dX0_spread_37 : decode cX0_spread 37 = .ok (.istore 5, 2) := by decide +kernel
theorem dX0_spread_39 : decode cX0_spread 39 = .ok (.iload_n 2, 1) := by decide +kernel
theorem dX0_spread_40 : decode cX0_spread 40 = .ok (.aload_n 0, 1) := by decide +kernel
theorem dX0_spread_41 : decode cX0_spread 41 = .ok (.getfield 25, 3) := by decide +kernel
theorem dX0_spread_44 : decode cX0_spread 44 = .ok (.getfield 93, 3) := by decide +kernel
theorem dX0_spread_47 : decode cX0_spread 47 = .ok (.iload_n 3, 1) := by decide +kernel
theorem dX0_spread_48 : decode cX0_spread 48 = .ok (.iaload, 1) := by decide +kernel
theorem dX0_spread_49 : decode cX0_spread 49 = .ok (.if_icmp .ge 62, 3) := by decide +kernel
theorem dX0_spread_52 : decode cX0_spread 52 = .ok (.aload_n 0, 1) := by decide +kernel
theorem dX0_spread_53 : decode cX0_spread 53 = .ok (.getfield 25, 3) := by decide +kernel
theorem dX0_spread_56 : decode cX0_spread 56 = .ok (.getfield 96, 3) := by decide +kernel
theorem dX0_spread_59 : decode cX0_spread 59 = .ok (.iload_n 2, 1) := by decide +kernel
theorem dX0_spread_60 : decode cX0_spread 60 = .ok (.iaload, 1) := by decide +kernel
theorem dX0_spread_61 : decode cX0_spread 61 = .ok (.istore 6, 2) := by decide +kernel
theorem dX0_spread_63 : decode cX0_spread 63 = .ok (.aload_n 0, 1) := by decide +kernel
theorem dX0_spread_64 : decode cX0_spread 64 = .ok (.getfield 9, 3) := by decide +kernel
theorem dX0_spread_67 : decode cX0_spread 67 = .ok (.iload 6, 2) := by decide +kernel
theorem dX0_spread_69 : decode cX0_spread 69 = .ok (.iaload, 1) := by decide +kernel
theorem dX0_spread_70 : decode cX0_spread 70 = .ok (.iload 5, 2) := by decide +kernel
theorem dX0_spread_72 : decode cX0_spread 72 = .ok (.if_icmp .le 12, 3) := by decide +kernel
theorem dX0_spread_75 : decode cX0_spread 75 = .ok (.aload_n 0, 1) := by decide +kernel
theorem dX0_spread_76 : decode cX0_spread 76 = .ok (.getfield 9, 3) := by decide +kernel
theorem dX0_spread_79 : decode cX0_spread 79 = .ok (.iload 6, 2) := by decide +kernel
theorem dX0_spread_81 : decode cX0_spread 81 = .ok (.iaload, 1) := by decide +kernel
theorem dX0_spread_82 : decode cX0_spread 82 = .ok (.istore 5, 2) := by decide +kernel
theorem dX0_spread_84 : decode cX0_spread 84 = .ok (.iload 4, 2) := by decide +kernel
theorem dX0_spread_86 : decode cX0_spread 86 = .ok (.aload_n 0, 1) := by decide +kernel
theorem dX0_spread_87 : decode cX0_spread 87 = .ok (.getfield 15, 3) := by decide +kernel
theorem dX0_spread_90 : decode cX0_spread 90 = .ok (.iload 6, 2) := by decide +kernel
theorem dX0_spread_92 : decode cX0_spread 92 = .ok (.iaload, 1) := by decide +kernel
theorem dX0_spread_93 : decode cX0_spread 93 = .ok (.if_icmp .le 12, 3) := by decide +kernel
theorem dX0_spread_96 : decode cX0_spread 96 = .ok (.aload_n 0, 1) := by decide +kernel
theorem dX0_spread_97 : decode cX0_spread 97 = .ok (.getfield 15, 3) := by decide +kernel
theorem dX0_spread_100 : decode cX0_spread 100 = .ok (.iload 6, 2) := by decide +kernel
theorem dX0_spread_102 : decode cX0_spread 102 = .ok (.iload 4, 2) := by decide +kernel
theorem dX0_spread_104 : decode cX0_spread 104 = .ok (.iastore, 1) := by decide +kernel
theorem dX0_spread_105 : decode cX0_spread 105 = .ok (.iinc 2 1, 3) := by decide +kernel
theorem dX0_spread_108 : decode cX0_spread 108 = .ok (.goto (-69), 3) := by decide +kernel
theorem dX0_spread_111 : decode cX0_spread 111 = .ok (.aload_n 0, 1) := by decide +kernel
theorem dX0_spread_112 : decode cX0_spread 112 = .ok (.getfield 15, 3) := by decide +kernel
theorem dX0_spread_115 : decode cX0_spread 115 = .ok (.iload_n 3, 1) := by decide +kernel
theorem dX0_spread_116 : decode cX0_spread 116 = .ok (.iload 5, 2) := by decide +kernel
theorem dX0_spread_118 : decode cX0_spread 118 = .ok (.iastore, 1) := by decide +kernel
theorem dX0_spread_119 : decode cX0_spread 119 = .ok (.iinc 3 1, 3) := by decide +kernel
theorem dX0_spread_122 : decode cX0_spread 122 = .ok (.goto (-104), 3) := by decide +kernel
theorem dX0_spread_125 : decode cX0_spread 125 = .ok (.aload_n 0, 1) := by decide +kernel
theorem dX0_spread_126 : decode cX0_spread 126 = .ok (.getfield 15, 3) := by decide +kernel
theorem dX0_spread_129 : decode cX0_spread 129 = .ok (.iconst 0, 1) := by decide +kernel
theorem dX0_spread_130 : decode cX0_spread 130 = .ok (.aload_n 0, 1) := by decide +kernel
theorem dX0_spread_131 : decode cX0_spread 131 = .ok (.getfield 9, 3) := by decide +kernel
theorem dX0_spread_134 : decode cX0_spread 134 = .ok (.iconst 0, 1) := by decide +kernel
theorem dX0_spread_135 : decode cX0_spread 135 = .ok (.iload_n 1, 1) := by decide +kernel
theorem dX0_spread_136 : decode cX0_spread 136 = .ok (.invokestatic 87, 3) := by decide +kernel
theorem dX0_spread_139 : decode cX0_spread 139 = .ok (.return_, 1) := by decide +kernel
theorem dX0_gain_0 : decode cX0_gain 0 = .ok (.iload_n 1, 1) := by decide +kernel
theorem dX0_gain_1 : decode cX0_gain 1 = .ok (.ifCond .ne 4, 3) := by decide +kernel
theorem dX0_gain_4 : decode cX0_gain 4 = .ok (.return_, 1) := by decide +kernel
theorem dX0_gain_5 : decode cX0_gain 5 = .ok (.iconst 0, 1) := by decide +kernel
theorem dX0_gain_6 : decode cX0_gain 6 = .ok (.istore_n 3, 1) := by decide +kernel
theorem dX0_gain_7 : decode cX0_gain 7 = .ok (.iload_n 3, 1) := by decide +kernel
theorem dX0_gain_8 : decode cX0_gain 8 = .ok (.iload_n 2, 1) := by decide +kernel
theorem dX0_gain_9 : decode cX0_gain 9 = .ok (.if_icmp .ge 33, 3) := by decide +kernel
theorem dX0_gain_12 : decode cX0_gain 12 = .ok (.aload_n 0, 1) := by decide +kernel
theorem dX0_gain_13 : decode cX0_gain 13 = .ok (.getfield 9, 3) := by decide +kernel
theorem dX0_gain_16 : decode cX0_gain 16 = .ok (.iload_n 3, 1) := by decide +kernel
theorem dX0_gain_17 : decode cX0_gain 17 = .ok (.dup2, 1) := by decide +kernel
theorem dX0_gain_18 : decode cX0_gain 18 = .ok (.iaload, 1) := by decide +kernel
theorem dX0_gain_19 : decode cX0_gain 19 = .ok (.aload_n 0, 1) := by decide +kernel
theorem dX0_gain_20 : decode cX0_gain 20 = .ok (.getfield 21, 3) := by decide +kernel
theorem dX0_gain_23 : decode cX0_gain 23 = .ok (.aload_n 0, 1) := by decide +kernel
theorem dX0_gain_24 : decode cX0_gain 24 = .ok (.getfield 18, 3) := by decide +kernel
theorem dX0_gain_27 : decode cX0_gain 27 = .ok (.iload_n 3, 1) := by decide +kernel
theorem dX0_gain_28 : decode cX0_gain 28 = .ok (.iaload, 1) := by decide +kernel
theorem dX0_gain_29 : decode cX0_gain 29 = .ok (.iload_n 1, 1) := by decide +kernel
theorem dX0_gain_30 : decode cX0_gain 30 = .ok (.iand, 1) := by decide +kernel
theorem dX0_gain_31 : decode cX0_gain 31 = .ok (.invokevirtual 99, 3) := by decide +kernel
theorem dX0_gain_34 : decode cX0_gain 34 = .ok (.iadd, 1) := by decide +kernel
theorem dX0_gain_35 : decode cX0_gain 35 = .ok (.iastore, 1) := by decide +kernel
theorem dX0_gain_36 : decode cX0_gain 36 = .ok (.iinc 3 1, 3) := by decide +kernel
theorem dX0_gain_39 : decode cX0_gain 39 = .ok (.goto (-32), 3) := by decide +kernel
theorem dX0_gain_42 : decode cX0_gain 42 = .ok (.return_, 1) := by decide +kernel
theorem dX1_init_0 : decode cX1_init 0 = .ok (.aload_n 0, 1) := by decide +kernel
theorem dX1_init_1 : decode cX1_init 1 = .ok (.invokespecial 3, 3) := by decide +kernel
theorem dX1_init_4 : decode cX1_init 4 = .ok (.aload_n 0, 1) := by decide +kernel
theorem dX1_init_5 : decode cX1_init 5 = .ok (.iconst 5, 1) := by decide +kernel
theorem dX1_init_6 : decode cX1_init 6 = .ok (.newarray .int, 2) := by decide +kernel
theorem dX1_init_8 : decode cX1_init 8 = .ok (.putfield 9, 3) := by decide +kernel
theorem dX1_init_11 : decode cX1_init 11 = .ok (.aload_n 0, 1) := by decide +kernel
theorem dX1_init_12 : decode cX1_init 12 = .ok (.iconst 5, 1) := by decide +kernel
theorem dX1_init_13 : decode cX1_init 13 = .ok (.newarray .int, 2) := by decide +kernel
theorem dX1_init_15 : decode cX1_init 15 = .ok (.putfield 15, 3) := by decide +kernel
theorem dX1_init_18 : decode cX1_init 18 = .ok (.aload_n 0, 1) := by decide +kernel
theorem dX1_init_19 : decode cX1_init 19 = .ok (.iconst 5, 1) := by decide +kernel
theorem dX1_init_20 : decode cX1_init 20 = .ok (.newarray .int, 2) := by decide +kernel
theorem dX1_init_22 : decode cX1_init 22 = .ok (.putfield 18, 3) := by decide +kernel
theorem dX1_init_25 : decode cX1_init 25 = .ok (.aload_n 0, 1) := by decide +kernel
theorem dX1_init_26 : decode cX1_init 26 = .ok (.iconst 5, 1) := by decide +kernel
theorem dX1_init_27 : decode cX1_init 27 = .ok (.newarray .int, 2) := by decide +kernel
theorem dX1_init_29 : decode cX1_init 29 = .ok (.putfield 21, 3) := by decide +kernel
theorem dX1_init_32 : decode cX1_init 32 = .ok (.aload_n 0, 1) := by decide +kernel
theorem dX1_init_33 : decode cX1_init 33 = .ok (.iconst 2, 1) := by decide +kernel
theorem dX1_init_34 : decode cX1_init 34 = .ok (.newarray .int, 2) := by decide +kernel
theorem dX1_init_36 : decode cX1_init 36 = .ok (.putfield 24, 3) := by decide +kernel
theorem dX1_init_39 : decode cX1_init 39 = .ok (.aload_n 0, 1) := by decide +kernel
theorem dX1_init_40 : decode cX1_init 40 = .ok (.bipush 8, 2) := by decide +kernel
theorem dX1_init_42 : decode cX1_init 42 = .ok (.newarray .int, 2) := by decide +kernel
theorem dX1_init_44 : decode cX1_init 44 = .ok (.putfield 27, 3) := by decide +kernel
theorem dX1_init_47 : decode cX1_init 47 = .ok (.aload_n 0, 1) := by decide +kernel
theorem dX1_init_48 : decode cX1_init 48 = .ok (.bipush 8, 2) := by decide +kernel
theorem dX1_init_50 : decode cX1_init 50 = .ok (.newarray .int, 2) := by decide +kernel
theorem dX1_init_52 : decode cX1_init 52 = .ok (.putfield 30, 3) := by decide +kernel
theorem dX1_init_55 : decode cX1_init 55 = .ok (.aload_n 0, 1) := by decide +kernel
theorem dX1_init_56 : decode cX1_init 56 = .ok (.bipush 8, 2) := by decide +kernel
theorem dX1_init_58 : decode cX1_init 58 = .ok (.newarray .int, 2) := by decide +kernel
theorem dX1_init_60 : decode cX1_init 60 = .ok (.putfield 33, 3) := by decide +kernel
theorem dX1_init_63 : decode cX1_init 63 = .ok (.aload_n 0, 1) := by decide +kernel
theorem dX1_init_64 : decode cX1_init 64 = .ok (.bipush 8, 2) := by decide +kernel
theorem dX1_init_66 : decode cX1_init 66 = .ok (.newarray .int, 2) := by decide +kernel
theorem dX1_init_68 : decode cX1_init 68 = .ok (.putfield 36, 3) := by decide +kernel
theorem dX1_init_71 : decode cX1_init 71 = .ok (.aload_n 0, 1) := by decide +kernel
theorem dX1_init_72 : decode cX1_init 72 = .ok (.bipush 6, 2) := by decide +kernel
theorem dX1_init_74 : decode cX1_init 74 = .ok (.newarray .int, 2) := by decide +kernel
theorem dX1_init_76 : decode cX1_init 76 = .ok (.putfield 39, 3) := by decide +kernel
theorem dX1_init_79 : decode cX1_init 79 = .ok (.aload_n 0, 1) := by decide +kernel
theorem dX1_init_80 : decode cX1_init 80 = .ok (.sipush 256, 3) := by decide +kernel
theorem dX1_init_83 : decode cX1_init 83 = .ok (.newarray .int, 2) := by decide +kernel
theorem dX1_init_85 : decode cX1_init 85 = .ok (.putfield 42, 3) := by decide +kernel
theorem dX1_init_88 : decode cX1_init 88 = .ok (.return_, 1) := by decide +kernel
theorem dX1_clear_0 : decode cX1_clear 0 = .ok (.aload_n 0, 1) := by decide +kernel
theorem dX1_clear_1 : decode cX1_clear 1 = .ok (.iconst 0, 1) := by decide +kernel
theorem dX1_clear_2 : decode cX1_clear 2 = .ok (.putfield 45, 3) := by decide +kernel
theorem dX1_clear_5 : decode cX1_clear 5 = .ok (.aload_n 0, 1) := by decide +kernel
theorem dX1_clear_6 : decode cX1_clear 6 = .ok (.iconst 0, 1) := by decide +kernel
theorem dX1_clear_7 : decode cX1_clear 7 = .ok (.putfield 49, 3) := by decide +kernel
theorem dX1_clear_10 : decode cX1_clear 10 = .ok (.aload_n 0, 1) := by decide +kernel
theorem dX1_clear_11 : decode cX1_clear 11 = .ok (.iconst 0, 1) := by decide +kernel
theorem dX1_clear_12 : decode cX1_clear 12 = .ok (.putfield 52, 3) := by decide +kernel
theorem dX1_clear_15 : decode cX1_clear 15 = .ok (.aload_n 0, 1) := by decide +kernel
theorem dX1_clear_16 : decode cX1_clear 16 = .ok (.iconst 0, 1) := by decide +kernel
theorem dX1_clear_17 : decode cX1_clear 17 = .ok (.putfield 55, 3) := by decide +kernel
theorem dX1_clear_20 : decode cX1_clear 20 = .ok (.return_, 1) := by decide +kernel
theorem dX1_addThing_0 : decode cX1_addThing 0 = .ok (.aload_n 0, 1) := by decide +kernel
theorem dX1_addThing_1 : decode cX1_addThing 1 = .ok (.getfield 49, 3) := by decide +kernel
theorem dX1_addThing_4 : decode cX1_addThing 4 = .ok (.iconst 5, 1) := by decide +kernel
theorem dX1_addThing_5 : decode cX1_addThing 5 = .ok (.if_icmp .lt 4, 3) := by decide +kernel
theorem dX1_addThing_8 : decode cX1_addThing 8 = .ok (.return_, 1) := by decide +kernel
theorem dX1_addThing_9 : decode cX1_addThing 9 = .ok (.aload_n 0, 1) := by decide +kernel
theorem dX1_addThing_10 : decode cX1_addThing 10 = .ok (.getfield 9, 3) := by decide +kernel
theorem dX1_addThing_13 : decode cX1_addThing 13 = .ok (.aload_n 0, 1) := by decide +kernel
theorem dX1_addThing_14 : decode cX1_addThing 14 = .ok (.getfield 49, 3) := by decide +kernel
theorem dX1_addThing_17 : decode cX1_addThing 17 = .ok (.iload_n 1, 1) := by decide +kernel
theorem dX1_addThing_18 : decode cX1_addThing 18 = .ok (.iastore, 1) := by decide +kernel
theorem dX1_addThing_19 : decode cX1_addThing 19 = .ok (.aload_n 0, 1) := by decide +kernel
theorem dX1_addThing_20 : decode cX1_addThing 20 = .ok (.getfield 15, 3) := by decide +kernel
theorem dX1_addThing_23 : decode cX1_addThing 23 = .ok (.aload_n 0, 1) := by decide +kernel
theorem dX1_addThing_24 : decode cX1_addThing 24 = .ok (.getfield 49, 3) := by decide +kernel
theorem dX1_addThing_27 : decode cX1_addThing 27 = .ok (.iload_n 2, 1) := by decide +kernel
theorem dX1_addThing_28 : decode cX1_addThing 28 = .ok (.iastore, 1) := by decide +kernel
theorem dX1_addThing_29 : decode cX1_addThing 29 = .ok (.aload_n 0, 1) := by decide +kernel
theorem dX1_addThing_30 : decode cX1_addThing 30 = .ok (.getfield 18, 3) := by decide +kernel
theorem dX1_addThing_33 : decode cX1_addThing 33 = .ok (.aload_n 0, 1) := by decide +kernel
theorem dX1_addThing_34 : decode cX1_addThing 34 = .ok (.getfield 49, 3) := by decide +kernel
theorem dX1_addThing_37 : decode cX1_addThing 37 = .ok (.iload_n 1, 1) := by decide +kernel
theorem dX1_addThing_38 : decode cX1_addThing 38 = .ok (.invokestatic 58, 3) := by decide +kernel
theorem dX1_addThing_41 : decode cX1_addThing 41 = .ok (.iastore, 1) := by decide +kernel
theorem dX1_addThing_42 : decode cX1_addThing 42 = .ok (.aload_n 0, 1) := by decide +kernel
theorem dX1_addThing_43 : decode cX1_addThing 43 = .ok (.getfield 21, 3) := by decide +kernel
theorem dX1_addThing_46 : decode cX1_addThing 46 = .ok (.aload_n 0, 1) := by decide +kernel
theorem dX1_addThing_47 : decode cX1_addThing 47 = .ok (.getfield 49, 3) := by decide +kernel
theorem dX1_addThing_50 : decode cX1_addThing 50 = .ok (.iload_n 1, 1) := by decide +kernel
theorem dX1_addThing_51 : decode cX1_addThing 51 = .ok (.invokestatic 62, 3) := by decide +kernel
theorem dX1_addThing_54 : decode cX1_addThing 54 = .ok (.iastore, 1) := by decide +kernel
theorem dX1_addThing_55 : decode cX1_addThing 55 = .ok (.aload_n 0, 1) := by decide +kernel
theorem dX1_addThing_56 : decode cX1_addThing 56 = .ok (.getfield 21, 3) := by decide +kernel
theorem dX1_addThing_59 : decode cX1_addThing 59 = .ok (.aload_n 0, 1) := by decide +kernel
theorem dX1_addThing_60 : decode cX1_addThing 60 = .ok (.getfield 49, 3) := by decide +kernel
theorem dX1_addThing_63 : decode cX1_addThing 63 = .ok (.iaload, 1) := by decide +kernel
theorem dX1_addThing_64 : decode cX1_addThing 64 = .ok (.ifCond .le 31, 3) := by decide +kernel
theorem dX1_addThing_67 : decode cX1_addThing 67 = .ok (.aload_n 0, 1) := by decide +kernel
theorem dX1_addThing_68 : decode cX1_addThing 68 = .ok (.getfield 55, 3) := by decide +kernel
theorem dX1_addThing_71 : decode cX1_addThing 71 = .ok (.iconst 2, 1) := by decide +kernel
theorem dX1_addThing_72 : decode cX1_addThing 72 = .ok (.if_icmp .ge 23, 3) := by decide +kernel
theorem dX1_addThing_75 : decode cX1_addThing 75 = .ok (.aload_n 0, 1) := by decide +kernel
theorem dX1_addThing_76 : decode cX1_addThing 76 = .ok (.getfield 24, 3) := by decide +kernel
theorem dX1_addThing_79 : decode cX1_addThing 79 = .ok (.aload_n 0, 1) := by decide +kernel
theorem dX1_addThing_80 : decode cX1_addThing 80 = .ok (.dup, 1) := by decide +kernel
theorem dX1_addThing_81 : decode cX1_addThing 81 = .ok (.getfield 55, 3) := by decide +kernel
theorem dX1_addThing_84 : decode cX1_addThing 84 = .ok (.dup_x1, 1) := by decide +kernel
theorem dX1_addThing_85 : decode cX1_addThing 85 = .ok (.iconst 1, 1) := by decide +kernel
theorem dX1_addThing_86 : decode cX1_addThing 86 = .ok (.iadd, 1) := by decide +kernel
theorem dX1_addThing_87 : decode cX1_addThing 87 = .ok (.putfield 55, 3) := by decide +kernel
theorem dX1_addThing_90 : decode cX1_addThing 90 = .ok (.aload_n 0, 1) := by decide +kernel
theorem dX1_addThing_91 : decode cX1_addThing 91 = .ok (.getfield 49, 3) := by decide +kernel
theorem dX1_addThing_94 : decode cX1_addThing 94 = .ok (.iastore, 1) := by decide +kernel
theorem dX1_addThing_95 : decode cX1_addThing 95 = .ok (.aload_n 0, 1) := by decide +kernel
theorem dX1_addThing_96 : decode cX1_addThing 96 = .ok (.dup, 1) := by decide +kernel
theorem dX1_addThing_97 : decode cX1_addThing 97 = .ok (.getfield 49, 3) := by decide +kernel
theorem dX1_addThing_100 : decode cX1_addThing 100 = .ok (.iconst 1, 1) := by decide +kernel
theorem dX1_addThing_101 : decode cX1_addThing 101 = .ok (.iadd, 1) := by decide +kernel
theorem dX1_addThing_102 : decode cX1_addThing 102 = .ok (.putfield 49, 3) := by decide +kernel
theorem dX1_addThing_105 : decode cX1_addThing 105 = .ok (.return_, 1) := by decide +kernel
theorem dX1_become_0 : decode cX1_become 0 = .ok (.aload_n 0, 1) := by decide +kernel
theorem dX1_become_1 : decode cX1_become 1 = .ok (.aload_n 1, 1) := by decide +kernel
theorem dX1_become_2 : decode cX1_become 2 = .ok (.getfield 45, 3) := by decide +kernel
theorem dX1_become_5 : decode cX1_become 5 = .ok (.putfield 45, 3) := by decide +kernel
theorem dX1_become_8 : decode cX1_become 8 = .ok (.aload_n 0, 1) := by decide +kernel
theorem dX1_become_9 : decode cX1_become 9 = .ok (.aload_n 1, 1) := by decide +kernel
theorem dX1_become_10 : decode cX1_become 10 = .ok (.getfield 49, 3) := by decide +kernel
theorem dX1_become_13 : decode cX1_become 13 = .ok (.putfield 49, 3) := by decide +kernel
theorem dX1_become_16 : decode cX1_become 16 = .ok (.aload_n 0, 1) := by decide +kernel
theorem dX1_become_17 : decode cX1_become 17 = .ok (.aload_n 1, 1) := by decide +kernel
theorem dX1_become_18 : decode cX1_become 18 = .ok (.getfield 52, 3) := by decide +kernel
theorem dX1_become_21 : decode cX1_become 21 = .ok (.putfield 52, 3) := by decide +kernel
theorem dX1_become_24 : decode cX1_become 24 = .ok (.aload_n 0, 1) := by decide +kernel
theorem dX1_become_25 : decode cX1_become 25 = .ok (.aload_n 1, 1) := by decide +kernel
theorem dX1_become_26 : decode cX1_become 26 = .ok (.getfield 55, 3) := by decide +kernel
theorem dX1_become_29 : decode cX1_become 29 = .ok (.putfield 55, 3) := by decide +kernel
theorem dX1_become_32 : decode cX1_become 32 = .ok (.aload_n 1, 1) := by decide +kernel
theorem dX1_become_33 : decode cX1_become 33 = .ok (.getfield 9, 3) := by decide +kernel
theorem dX1_become_36 : decode cX1_become 36 = .ok (.iconst 0, 1) := by decide +kernel
theorem dX1_become_37 : decode cX1_become 37 = .ok (.aload_n 0, 1) := by decide +kernel
theorem dX1_become_38 : decode cX1_become 38 = .ok (.getfield 9, 3) := by decide +kernel
theorem dX1_become_41 : decode cX1_become 41 = .ok (.iconst 0, 1) := by decide +kernel
theorem dX1_become_42 : decode cX1_become 42 = .ok (.iconst 5, 1) := by decide +kernel
theorem dX1_become_43 : decode cX1_become 43 = .ok (.invokestatic 65, 3) := by decide +kernel
theorem dX1_become_46 : decode cX1_become 46 = .ok (.aload_n 1, 1) := by decide +kernel
theorem dX1_become_47 : decode cX1_become 47 = .ok (.getfield 15, 3) := by decide +kernel
theorem dX1_become_50 : decode cX1_become 50 = .ok (.iconst 0, 1) := by decide +kernel
theorem dX1_become_51 : decode cX1_become 51 = .ok (.aload_n 0, 1) := by decide +kernel
theorem dX1_become_52 : decode cX1_become 52 = .ok (.getfield 15, 3) := by decide +kernel
theorem dX1_become_55 : decode cX1_become 55 = .ok (.iconst 0, 1) := by decide +kernel
theorem dX1_become_56 : decode cX1_become 56 = .ok (.iconst 5, 1) := by decide +kernel
theorem dX1_become_57 : decode cX1_become 57 = .ok (.invokestatic 65, 3) := by decide +kernel
theorem dX1_become_60 : decode cX1_become 60 = .ok (.aload_n 1, 1) := by decide +kernel
theorem dX1_become_61 : decode cX1_become 61 = .ok (.getfield 18, 3) := by decide +kernel
theorem dX1_become_64 : decode cX1_become 64 = .ok (.iconst 0, 1) := by decide +kernel
theorem dX1_become_65 : decode cX1_become 65 = .ok (.aload_n 0, 1) := by decide +kernel
theorem dX1_become_66 : decode cX1_become 66 = .ok (.getfield 18, 3) := by decide +kernel
theorem dX1_become_69 : decode cX1_become 69 = .ok (.iconst 0, 1) := by decide +kernel
theorem dX1_become_70 : decode cX1_become 70 = .ok (.iconst 5, 1) := by decide +kernel
theorem dX1_become_71 : decode cX1_become 71 = .ok (.invokestatic 65, 3) := by decide +kernel
theorem dX1_become_74 : decode cX1_become 74 = .ok (.aload_n 1, 1) := by decide +kernel
theorem dX1_become_75 : decode cX1_become 75 = .ok (.getfield 21, 3) := by decide +kernel
theorem dX1_become_78 : decode cX1_become 78 = .ok (.iconst 0, 1) := by decide +kernel
theorem dX1_become_79 : decode cX1_become 79 = .ok (.aload_n 0, 1) := by decide +kernel
theorem dX1_become_80 : decode cX1_become 80 = .ok (.getfield 21, 3) := by decide +kernel
theorem dX1_become_83 : decode cX1_become 83 = .ok (.iconst 0, 1) := by decide +kernel
theorem dX1_become_84 : decode cX1_become 84 = .ok (.iconst 5, 1) := by decide +kernel
theorem dX1_become_85 : decode cX1_become 85 = .ok (.invokestatic 65, 3) := by decide +kernel
theorem dX1_become_88 : decode cX1_become 88 = .ok (.aload_n 1, 1) := by decide +kernel
theorem dX1_become_89 : decode cX1_become 89 = .ok (.getfield 24, 3) := by decide +kernel
theorem dX1_become_92 : decode cX1_become 92 = .ok (.iconst 0, 1) := by decide +kernel
theorem dX1_become_93 : decode cX1_become 93 = .ok (.aload_n 0, 1) := by decide +kernel
theorem dX1_become_94 : decode cX1_become 94 = .ok (.getfield 24, 3) := by decide +kernel
theorem dX1_become_97 : decode cX1_become 97 = .ok (.iconst 0, 1) := by decide +kernel
theorem dX1_become_98 : decode cX1_become 98 = .ok (.iconst 2, 1) := by decide +kernel
theorem dX1_become_99 : decode cX1_become 99 = .ok (.invokestatic 65, 3) := by decide +kernel
theorem dX1_become_102 : decode cX1_become 102 = .ok (.aload_n 1, 1) := by decide +kernel
theorem dX1_become_103 : decode cX1_become 103 = .ok (.getfield 27, 3) := by decide +kernel
theorem dX1_become_106 : decode cX1_become 106 = .ok (.iconst 0, 1) := by decide +kernel
theorem dX1_become_107 : decode cX1_become 107 = .ok (.aload_n 0, 1) := by decide +kernel
theorem dX1_become_108 : decode cX1_become 108 = .ok (.getfield 27, 3) := by decide +kernel
theorem dX1_become_111 : decode cX1_become 111 = .ok (.iconst 0, 1) := by decide +kernel
theorem dX1_become_112 : decode cX1_become 112 = .ok (.bipush 8, 2) := by decide +kernel
theorem dX1_become_114 : decode cX1_become 114 = .ok (.invokestatic 65, 3) := by decide +kernel
theorem dX1_become_117 : decode cX1_become 117 = .ok (.aload_n 1, 1) := by decide +kernel
theorem dX1_become_118 : decode cX1_become 118 = .ok (.getfield 30, 3) := by decide +kernel
theorem dX1_become_121 : decode cX1_become 121 = .ok (.iconst 0, 1) := by decide +kernel
theorem dX1_become_122 : decode cX1_become 122 = .ok (.aload_n 0, 1) := by decide +kernel
theorem dX1_become_123 : decode cX1_become 123 = .ok (.getfield 30, 3) := by decide +kernel
theorem dX1_become_126 : decode cX1_become 126 = .ok (.iconst 0, 1) := by decide +kernel
theorem dX1_become_127 : decode cX1_become 127 = .ok (.bipush 8, 2) := by decide +kernel
theorem dX1_become_129 : decode cX1_become 129 = .ok (.invokestatic 65, 3) := by decide +kernel
theorem dX1_become_132 : decode cX1_become 132 = .ok (.aload_n 1, 1) := by decide +kernel
theorem dX1_become_133 : decode cX1_become 133 = .ok (.getfield 33, 3) := by decide +kernel
theorem dX1_become_136 : decode cX1_become 136 = .ok (.iconst 0, 1) := by decide +kernel
theorem dX1_become_137 : decode cX1_become 137 = .ok (.aload_n 0, 1) := by decide +kernel
theorem dX1_become_138 : decode cX1_become 138 = .ok (.getfield 33, 3) := by decide +kernel
theorem dX1_become_141 : decode cX1_become 141 = .ok (.iconst 0, 1) := by decide +kernel
theorem dX1_become_142 : decode cX1_become 142 = .ok (.bipush 8, 2) := by decide +kernel
theorem dX1_become_144 : decode cX1_become 144 = .ok (.invokestatic 65, 3) := by decide +kernel
theorem dX1_become_147 : decode cX1_become 147 = .ok (.aload_n 1, 1) := by decide +kernel
theorem dX1_become_148 : decode cX1_become 148 = .ok (.getfield 36, 3) := by decide +kernel
theorem dX1_become_151 : decode cX1_become 151 = .ok (.iconst 0, 1) := by decide +kernel
theorem dX1_become_152 : decode cX1_become 152 = .ok (.aload_n 0, 1) := by decide +kernel
theorem dX1_become_153 : decode cX1_become 153 = .ok (.getfield 36, 3) := by decide +kernel
theorem dX1_become_156 : decode cX1_become 156 = .ok (.iconst 0, 1) := by decide +kernel
theorem dX1_become_157 : decode cX1_become 157 = .ok (.bipush 8, 2) := by decide +kernel
theorem dX1_become_159 : decode cX1_become 159 = .ok (.invokestatic 65, 3) := by decide +kernel
theorem dX1_become_162 : decode cX1_become 162 = .ok (.aload_n 0, 1) := by decide +kernel
theorem dX1_become_163 : decode cX1_become 163 = .ok (.invokevirtual 71, 3) := by decide +kernel
theorem dX1_become_166 : decode cX1_become 166 = .ok (.return_, 1) := by decide +kernel
theorem dX1_tallyWorks_0 : decode cX1_tallyWorks 0 = .ok (.aload_n 0, 1) := by decide +kernel
theorem dX1_tallyWorks_1 : decode cX1_tallyWorks 1 = .ok (.getfield 39, 3) := by decide +kernel
theorem dX1_tallyWorks_4 : decode cX1_tallyWorks 4 = .ok (.iconst 0, 1) := by decide +kernel
theorem dX1_tallyWorks_5 : decode cX1_tallyWorks 5 = .ok (.invokestatic 74, 3) := by decide +kernel
theorem dX1_tallyWorks_8 : decode cX1_tallyWorks 8 = .ok (.iconst 0, 1) := by decide +kernel
theorem dX1_tallyWorks_9 : decode cX1_tallyWorks 9 = .ok (.istore_n 1, 1) := by decide +kernel
theorem dX1_tallyWorks_10 : decode cX1_tallyWorks 10 = .ok (.iload_n 1, 1) := by decide +kernel
theorem dX1_tallyWorks_11 : decode cX1_tallyWorks 11 = .ok (.aload_n 0, 1) := by decide +kernel
theorem dX1_tallyWorks_12 : decode cX1_tallyWorks 12 = .ok (.getfield 52, 3) := by decide +kernel
theorem dX1_tallyWorks_15 : decode cX1_tallyWorks 15 = .ok (.if_icmp .ge 26, 3) := by decide +kernel
theorem dX1_tallyWorks_18 : decode cX1_tallyWorks 18 = .ok (.aload_n 0, 1) := by decide +kernel
theorem dX1_tallyWorks_19 : decode cX1_tallyWorks 19 = .ok (.getfield 39, 3) := by decide +kernel
theorem dX1_tallyWorks_22 : decode cX1_tallyWorks 22 = .ok (.aload_n 0, 1) := by decide +kernel
theorem dX1_tallyWorks_23 : decode cX1_tallyWorks 23 = .ok (.getfield 27, 3) := by decide +kernel
theorem dX1_tallyWorks_26 : decode cX1_tallyWorks 26 = .ok (.iload_n 1, 1) := by decide +kernel
theorem dX1_tallyWorks_27 : decode cX1_tallyWorks 27 = .ok (.iaload, 1) := by decide +kernel
theorem dX1_tallyWorks_28 : decode cX1_tallyWorks 28 = .ok (.dup2, 1) := by decide +kernel
theorem dX1_tallyWorks_29 : decode cX1_tallyWorks 29 = .ok (.iaload, 1) := by decide +kernel
theorem dX1_tallyWorks_30 : decode cX1_tallyWorks 30 = .ok (.iconst 1, 1) := by decide +kernel
theorem dX1_tallyWorks_31 : decode cX1_tallyWorks 31 = .ok (.iload_n 1, 1) := by decide +kernel
theorem dX1_tallyWorks_32 : decode cX1_tallyWorks 32 = .ok (.ishl, 1) := by decide +kernel
theorem dX1_tallyWorks_33 : decode cX1_tallyWorks 33 = .ok (.ior, 1) := by decide +kernel
theorem dX1_tallyWorks_34 : decode cX1_tallyWorks 34 = .ok (.iastore, 1) := by decide +kernel
theorem dX1_tallyWorks_35 : decode cX1_tallyWorks 35 = .ok (.iinc 1 1, 3) := by decide +kernel
theorem dX1_tallyWorks_38 : decode cX1_tallyWorks 38 = .ok (.goto (-28), 3) := by decide +kernel
theorem dX1_tallyWorks_41 : decode cX1_tallyWorks 41 = .ok (.iconst 0, 1) := by decide +kernel
theorem dX1_tallyWorks_42 : decode cX1_tallyWorks 42 = .ok (.istore_n 1, 1) := by decide +kernel
theorem dX1_tallyWorks_43 : decode cX1_tallyWorks 43 = .ok (.iload_n 1, 1) := by decide +kernel
theorem dX1_tallyWorks_44 : decode cX1_tallyWorks 44 = .ok (.iconst 1, 1) := by decide +kernel
theorem dX1_tallyWorks_45 : decode cX1_tallyWorks 45 = .ok (.aload_n 0, 1) := by decide +kernel
theorem dX1_tallyWorks_46 : decode cX1_tallyWorks 46 = .ok (.getfield 52, 3) := by decide +kernel
theorem dX1_tallyWorks_49 : decode cX1_tallyWorks 49 = .ok (.ishl, 1) := by decide +kernel
theorem dX1_tallyWorks_50 : decode cX1_tallyWorks 50 = .ok (.if_icmp .ge 49, 3) := by decide +kernel
theorem dX1_tallyWorks_53 : decode cX1_tallyWorks 53 = .ok (.iconst 0, 1) := by decide +kernel
theorem dX1_tallyWorks_54 : decode cX1_tallyWorks 54 = .ok (.istore_n 2, 1) := by decide +kernel
theorem dX1_tallyWorks_55 : decode cX1_tallyWorks 55 = .ok (.iconst 0, 1) := by decide +kernel
theorem dX1_tallyWorks_56 : decode cX1_tallyWorks 56 = .ok (.istore_n 3, 1) := by decide +kernel
theorem dX1_tallyWorks_57 : decode cX1_tallyWorks 57 = .ok (.iload_n 3, 1) := by decide +kernel
theorem dX1_tallyWorks_58 : decode cX1_tallyWorks 58 = .ok (.aload_n 0, 1) := by decide +kernel
theorem dX1_tallyWorks_59 : decode cX1_tallyWorks 59 = .ok (.getfield 52, 3) := by decide +kernel
theorem dX1_tallyWorks_62 : decode cX1_tallyWorks 62 = .ok (.if_icmp .ge 24, 3) := by decide +kernel
theorem dX1_tallyWorks_65 : decode cX1_tallyWorks 65 = .ok (.iload_n 2, 1) := by decide +kernel
theorem dX1_tallyWorks_66 : decode cX1_tallyWorks 66 = .ok (.iload_n 1, 1) := by decide +kernel
theorem dX1_tallyWorks_67 : decode cX1_tallyWorks 67 = .ok (.iload_n 3, 1) := by decide +kernel
theorem dX1_tallyWorks_68 : decode cX1_tallyWorks 68 = .ok (.ishr, 1) := by decide +kernel
theorem dX1_tallyWorks_69 : decode cX1_tallyWorks 69 = .ok (.iconst 1, 1) := by decide +kernel
theorem dX1_tallyWorks_70 : decode cX1_tallyWorks 70 = .ok (.iand, 1) := by decide +kernel
theorem dX1_tallyWorks_71 : decode cX1_tallyWorks 71 = .ok (.aload_n 0, 1) := by decide +kernel
theorem dX1_tallyWorks_72 : decode cX1_tallyWorks 72 = .ok (.getfield 36, 3) := by decide +kernel
theorem dX1_tallyWorks_75 : decode cX1_tallyWorks 75 = .ok (.iload_n 3, 1) := by decide +kernel
theorem dX1_tallyWorks_76 : decode cX1_tallyWorks 76 = .ok (.iaload, 1) := by decide +kernel
theorem dX1_tallyWorks_77 : decode cX1_tallyWorks 77 = .ok (.imul, 1) := by decide +kernel
theorem dX1_tallyWorks_78 : decode cX1_tallyWorks 78 = .ok (.iadd, 1) := by decide +kernel
theorem dX1_tallyWorks_79 : decode cX1_tallyWorks 79 = .ok (.istore_n 2, 1) := by decide +kernel
theorem dX1_tallyWorks_80 : decode cX1_tallyWorks 80 = .ok (.iinc 3 1, 3) := by decide +kernel
theorem dX1_tallyWorks_83 : decode cX1_tallyWorks 83 = .ok (.goto (-26), 3) := by decide +kernel
theorem dX1_tallyWorks_86 : decode cX1_tallyWorks 86 = .ok (.aload_n 0, 1) := by decide +kernel
theorem dX1_tallyWorks_87 : decode cX1_tallyWorks 87 = .ok (.getfield 42, 3) := by decide +kernel
theorem dX1_tallyWorks_90 : decode cX1_tallyWorks 90 = .ok (.iload_n 1, 1) := by decide +kernel
theorem dX1_tallyWorks_91 : decode cX1_tallyWorks 91 = .ok (.iload_n 2, 1) := by decide +kernel
theorem dX1_tallyWorks_92 : decode cX1_tallyWorks 92 = .ok (.iastore, 1) := by decide +kernel
theorem dX1_tallyWorks_93 : decode cX1_tallyWorks 93 = .ok (.iinc 1 1, 3) := by decide +kernel
theorem dX1_tallyWorks_96 : decode cX1_tallyWorks 96 = .ok (.goto (-53), 3) := by decide +kernel
theorem dX1_tallyWorks_99 : decode cX1_tallyWorks 99 = .ok (.return_, 1) := by decide +kernel
theorem dX1_isPerson_0 : decode cX1_isPerson 0 = .ok (.iload_n 1, 1) := by decide +kernel
theorem dX1_isPerson_1 : decode cX1_isPerson 1 = .ok (.ifCond .lt 15, 3) := by decide +kernel
theorem dX1_isPerson_4 : decode cX1_isPerson 4 = .ok (.iload_n 1, 1) := by decide +kernel
theorem dX1_isPerson_5 : decode cX1_isPerson 5 = .ok (.aload_n 0, 1) := by decide +kernel
theorem dX1_isPerson_6 : decode cX1_isPerson 6 = .ok (.getfield 45, 3) := by decide +kernel
theorem dX1_isPerson_9 : decode cX1_isPerson 9 = .ok (.if_icmp .ge 7, 3) := by decide +kernel
theorem dX1_isPerson_12 : decode cX1_isPerson 12 = .ok (.iconst 1, 1) := by decide +kernel
theorem dX1_isPerson_13 : decode cX1_isPerson 13 = .ok (.goto 4, 3) := by decide +kernel
theorem dX1_isPerson_16 : decode cX1_isPerson 16 = .ok (.iconst 0, 1) := by decide +kernel
theorem dX1_isPerson_17 : decode cX1_isPerson 17 = .ok (.ireturn, 1) := by decide +kernel
theorem dX1_isThing_0 : decode cX1_isThing 0 = .ok (.iload_n 1, 1) := by decide +kernel
theorem dX1_isThing_1 : decode cX1_isThing 1 = .ok (.ifCond .lt 15, 3) := by decide +kernel
theorem dX1_isThing_4 : decode cX1_isThing 4 = .ok (.iload_n 1, 1) := by decide +kernel
theorem dX1_isThing_5 : decode cX1_isThing 5 = .ok (.aload_n 0, 1) := by decide +kernel
theorem dX1_isThing_6 : decode cX1_isThing 6 = .ok (.getfield 49, 3) := by decide +kernel
theorem dX1_isThing_9 : decode cX1_isThing 9 = .ok (.if_icmp .ge 7, 3) := by decide +kernel
theorem dX1_isThing_12 : decode cX1_isThing 12 = .ok (.iconst 1, 1) := by decide +kernel
theorem dX1_isThing_13 : decode cX1_isThing 13 = .ok (.goto 4, 3) := by decide +kernel
theorem dX1_isThing_16 : decode cX1_isThing 16 = .ok (.iconst 0, 1) := by decide +kernel
theorem dX1_isThing_17 : decode cX1_isThing 17 = .ok (.ireturn, 1) := by decide +kernel
theorem dX1_isWork_0 : decode cX1_isWork 0 = .ok (.iload_n 1, 1) := by decide +kernel
theorem dX1_isWork_1 : decode cX1_isWork 1 = .ok (.ifCond .lt 15, 3) := by decide +kernel
theorem dX1_isWork_4 : decode cX1_isWork 4 = .ok (.iload_n 1, 1) := by decide +kernel
theorem dX1_isWork_5 : decode cX1_isWork 5 = .ok (.aload_n 0, 1) := by decide +kernel
theorem dX1_isWork_6 : decode cX1_isWork 6 = .ok (.getfield 52, 3) := by decide +kernel
theorem dX1_isWork_9 : decode cX1_isWork 9 = .ok (.if_icmp .ge 7, 3) := by decide +kernel
theorem dX1_isWork_12 : decode cX1_isWork 12 = .ok (.iconst 1, 1) := by decide +kernel
theorem dX1_isWork_13 : decode cX1_isWork 13 = .ok (.goto 4, 3) := by decide +kernel
theorem dX1_isWork_16 : decode cX1_isWork 16 = .ok (.iconst 0, 1) := by decide +kernel
theorem dX1_isWork_17 : decode cX1_isWork 17 = .ok (.ireturn, 1) := by decide +kernel
theorem dX1_isPlace_0 : decode cX1_isPlace 0 = .ok (.aload_n 0, 1) := by decide +kernel
theorem dX1_isPlace_1 : decode cX1_isPlace 1 = .ok (.iload_n 1, 1) := by decide +kernel
theorem dX1_isPlace_2 : decode cX1_isPlace 2 = .ok (.invokevirtual 80, 3) := by decide +kernel
theorem dX1_isPlace_5 : decode cX1_isPlace 5 = .ok (.ifCond .ne 18, 3) := by decide +kernel
theorem dX1_isPlace_8 : decode cX1_isPlace 8 = .ok (.iload_n 1, 1) := by decide +kernel
theorem dX1_isPlace_9 : decode cX1_isPlace 9 = .ok (.iconst 4, 1) := by decide +kernel
theorem dX1_isPlace_10 : decode cX1_isPlace 10 = .ok (.if_icmp .lt 17, 3) := by decide +kernel
theorem dX1_isPlace_13 : decode cX1_isPlace 13 = .ok (.iload_n 1, 1) := by decide +kernel
theorem dX1_isPlace_14 : decode cX1_isPlace 14 = .ok (.iconst 5, 1) := by decide +kernel
theorem dX1_isPlace_15 : decode cX1_isPlace 15 = .ok (.aload_n 0, 1) := by decide +kernel
theorem dX1_isPlace_16 : decode cX1_isPlace 16 = .ok (.getfield 55, 3) := by decide +kernel
theorem dX1_isPlace_19 : decode cX1_isPlace 19 = .ok (.iadd, 1) := by decide +kernel
theorem dX1_isPlace_20 : decode cX1_isPlace 20 = .ok (.if_icmp .ge 7, 3) := by decide +kernel
theorem dX1_isPlace_23 : decode cX1_isPlace 23 = .ok (.iconst 1, 1) := by decide +kernel
theorem dX1_isPlace_24 : decode cX1_isPlace 24 = .ok (.goto 4, 3) := by decide +kernel
theorem dX1_isPlace_27 : decode cX1_isPlace 27 = .ok (.iconst 0, 1) := by decide +kernel
theorem dX1_isPlace_28 : decode cX1_isPlace 28 = .ok (.ireturn, 1) := by decide +kernel
theorem dX1_isStep_0 : decode cX1_isStep 0 = .ok (.aload_n 0, 1) := by decide +kernel
theorem dX1_isStep_1 : decode cX1_isStep 1 = .ok (.iload_n 1, 1) := by decide +kernel
theorem dX1_isStep_2 : decode cX1_isStep 2 = .ok (.invokevirtual 84, 3) := by decide +kernel
theorem dX1_isStep_5 : decode cX1_isStep 5 = .ok (.ifCond .eq 15, 3) := by decide +kernel
theorem dX1_isStep_8 : decode cX1_isStep 8 = .ok (.aload_n 0, 1) := by decide +kernel
theorem dX1_isStep_9 : decode cX1_isStep 9 = .ok (.iload_n 2, 1) := by decide +kernel
theorem dX1_isStep_10 : decode cX1_isStep 10 = .ok (.invokevirtual 87, 3) := by decide +kernel
theorem dX1_isStep_13 : decode cX1_isStep 13 = .ok (.ifCond .eq 7, 3) := by decide +kernel
theorem dX1_isStep_16 : decode cX1_isStep 16 = .ok (.iconst 1, 1) := by decide +kernel
theorem dX1_isStep_17 : decode cX1_isStep 17 = .ok (.goto 4, 3) := by decide +kernel
theorem dX1_isStep_20 : decode cX1_isStep 20 = .ok (.iconst 0, 1) := by decide +kernel
theorem dX1_isStep_21 : decode cX1_isStep 21 = .ok (.ireturn, 1) := by decide +kernel
theorem dX1_isNumber_0 : decode cX1_isNumber 0 = .ok (.iload_n 1, 1) := by decide +kernel
theorem dX1_isNumber_1 : decode cX1_isNumber 1 = .ok (.ifCond .lt 22, 3) := by decide +kernel
theorem dX1_isNumber_4 : decode cX1_isNumber 4 = .ok (.aload_n 0, 1) := by decide +kernel
theorem dX1_isNumber_5 : decode cX1_isNumber 5 = .ok (.iload_n 1, 1) := by decide +kernel
theorem dX1_isNumber_6 : decode cX1_isNumber 6 = .ok (.bipush 7, 2) := by decide +kernel
theorem dX1_isNumber_8 : decode cX1_isNumber 8 = .ok (.idiv, 1) := by decide +kernel
theorem dX1_isNumber_9 : decode cX1_isNumber 9 = .ok (.iload_n 1, 1) := by decide +kernel
theorem dX1_isNumber_10 : decode cX1_isNumber 10 = .ok (.bipush 7, 2) := by decide +kernel
theorem dX1_isNumber_12 : decode cX1_isNumber 12 = .ok (.irem, 1) := by decide +kernel
theorem dX1_isNumber_13 : decode cX1_isNumber 13 = .ok (.invokevirtual 90, 3) := by decide +kernel
theorem dX1_isNumber_16 : decode cX1_isNumber 16 = .ok (.ifCond .eq 7, 3) := by decide +kernel
theorem dX1_isNumber_19 : decode cX1_isNumber 19 = .ok (.iconst 1, 1) := by decide +kernel
theorem dX1_isNumber_20 : decode cX1_isNumber 20 = .ok (.goto 4, 3) := by decide +kernel
theorem dX1_isNumber_23 : decode cX1_isNumber 23 = .ok (.iconst 0, 1) := by decide +kernel
theorem dX1_isNumber_24 : decode cX1_isNumber 24 = .ok (.ireturn, 1) := by decide +kernel
theorem dX1_isBag_0 : decode cX1_isBag 0 = .ok (.aload_n 0, 1) := by decide +kernel
theorem dX1_isBag_1 : decode cX1_isBag 1 = .ok (.iload_n 1, 1) := by decide +kernel
theorem dX1_isBag_2 : decode cX1_isBag 2 = .ok (.invokevirtual 84, 3) := by decide +kernel
theorem dX1_isBag_5 : decode cX1_isBag 5 = .ok (.ifCond .eq 16, 3) := by decide +kernel
theorem dX1_isBag_8 : decode cX1_isBag 8 = .ok (.aload_n 0, 1) := by decide +kernel
theorem dX1_isBag_9 : decode cX1_isBag 9 = .ok (.getfield 21, 3) := by decide +kernel
theorem dX1_isBag_12 : decode cX1_isBag 12 = .ok (.iload_n 1, 1) := by decide +kernel
theorem dX1_isBag_13 : decode cX1_isBag 13 = .ok (.iaload, 1) := by decide +kernel
theorem dX1_isBag_14 : decode cX1_isBag 14 = .ok (.ifCond .le 7, 3) := by decide +kernel
theorem dX1_isBag_17 : decode cX1_isBag 17 = .ok (.iconst 1, 1) := by decide +kernel
theorem dX1_isBag_18 : decode cX1_isBag 18 = .ok (.goto 4, 3) := by decide +kernel
theorem dX1_isBag_21 : decode cX1_isBag 21 = .ok (.iconst 0, 1) := by decide +kernel
theorem dX1_isBag_22 : decode cX1_isBag 22 = .ok (.ireturn, 1) := by decide +kernel
theorem dX1_isLiving_0 : decode cX1_isLiving 0 = .ok (.aload_n 0, 1) := by decide +kernel
theorem dX1_isLiving_1 : decode cX1_isLiving 1 = .ok (.iload_n 1, 1) := by decide +kernel
theorem dX1_isLiving_2 : decode cX1_isLiving 2 = .ok (.invokevirtual 84, 3) := by decide +kernel
theorem dX1_isLiving_5 : decode cX1_isLiving 5 = .ok (.ifCond .eq 27, 3) := by decide +kernel
theorem dX1_isLiving_8 : decode cX1_isLiving 8 = .ok (.aload_n 0, 1) := by decide +kernel
theorem dX1_isLiving_9 : decode cX1_isLiving 9 = .ok (.getfield 9, 3) := by decide +kernel
theorem dX1_isLiving_12 : decode cX1_isLiving 12 = .ok (.iload_n 1, 1) := by decide +kernel
theorem dX1_isLiving_13 : decode cX1_isLiving 13 = .ok (.iaload, 1) := by decide +kernel
theorem dX1_isLiving_14 : decode cX1_isLiving 14 = .ok (.iconst 2, 1) := by decide +kernel
theorem dX1_isLiving_15 : decode cX1_isLiving 15 = .ok (.if_icmp .eq 13, 3) := by decide +kernel
theorem dX1_isLiving_18 : decode cX1_isLiving 18 = .ok (.aload_n 0, 1) := by decide +kernel
theorem dX1_isLiving_19 : decode cX1_isLiving 19 = .ok (.getfield 9, 3) := by decide +kernel
theorem dX1_isLiving_22 : decode cX1_isLiving 22 = .ok (.iload_n 1, 1) := by decide +kernel
theorem dX1_isLiving_23 : decode cX1_isLiving 23 = .ok (.iaload, 1) := by decide +kernel
theorem dX1_isLiving_24 : decode cX1_isLiving 24 = .ok (.iconst 5, 1) := by decide +kernel
theorem dX1_isLiving_25 : decode cX1_isLiving 25 = .ok (.if_icmp .ne 7, 3) := by decide +kernel
theorem dX1_isLiving_28 : decode cX1_isLiving 28 = .ok (.iconst 1, 1) := by decide +kernel
theorem dX1_isLiving_29 : decode cX1_isLiving 29 = .ok (.goto 4, 3) := by decide +kernel
theorem dX1_isLiving_32 : decode cX1_isLiving 32 = .ok (.iconst 0, 1) := by decide +kernel
theorem dX1_isLiving_33 : decode cX1_isLiving 33 = .ok (.ireturn, 1) := by decide +kernel
theorem dX1_isOf_0 : decode cX1_isOf 0 = .ok (.aload_n 0, 1) := by decide +kernel
theorem dX1_isOf_1 : decode cX1_isOf 1 = .ok (.iload_n 1, 1) := by decide +kernel
theorem dX1_isOf_2 : decode cX1_isOf 2 = .ok (.invokevirtual 84, 3) := by decide +kernel
theorem dX1_isOf_5 : decode cX1_isOf 5 = .ok (.ifCond .ne 5, 3) := by decide +kernel
theorem dX1_isOf_8 : decode cX1_isOf 8 = .ok (.iconst 0, 1) := by decide +kernel
theorem dX1_isOf_9 : decode cX1_isOf 9 = .ok (.ireturn, 1) := by decide +kernel
theorem dX1_isOf_10 : decode cX1_isOf 10 = .ok (.aload_n 0, 1) := by decide +kernel
theorem dX1_isOf_11 : decode cX1_isOf 11 = .ok (.getfield 9, 3) := by decide +kernel
theorem dX1_isOf_14 : decode cX1_isOf 14 = .ok (.iload_n 1, 1) := by decide +kernel
theorem dX1_isOf_15 : decode cX1_isOf 15 = .ok (.iaload, 1) := by decide +kernel
theorem dX1_isOf_16 : decode cX1_isOf 16 = .ok (.iload_n 2, 1) := by decide +kernel
theorem dX1_isOf_17 : decode cX1_isOf 17 = .ok (.if_icmp .eq 29, 3) := by decide +kernel
theorem dX1_isOf_20 : decode cX1_isOf 20 = .ok (.iload_n 2, 1) := by decide +kernel
theorem dX1_isOf_21 : decode cX1_isOf 21 = .ok (.iconst 1, 1) := by decide +kernel
theorem dX1_isOf_22 : decode cX1_isOf 22 = .ok (.if_icmp .ne 11, 3) := by decide +kernel
theorem dX1_isOf_25 : decode cX1_isOf 25 = .ok (.aload_n 0, 1) := by decide +kernel
theorem dX1_isOf_26 : decode cX1_isOf 26 = .ok (.iload_n 1, 1) := by decide +kernel
theorem dX1_isOf_27 : decode cX1_isOf 27 = .ok (.invokevirtual 94, 3) := by decide +kernel
theorem dX1_isOf_30 : decode cX1_isOf 30 = .ok (.ifCond .ne 16, 3) := by decide +kernel
theorem dX1_isOf_33 : decode cX1_isOf 33 = .ok (.iload_n 2, 1) := by decide +kernel
theorem dX1_isOf_34 : decode cX1_isOf 34 = .ok (.iconst 2, 1) := by decide +kernel
theorem dX1_isOf_35 : decode cX1_isOf 35 = .ok (.if_icmp .ne 15, 3) := by decide +kernel
theorem dX1_isOf_38 : decode cX1_isOf 38 = .ok (.aload_n 0, 1) := by decide +kernel
theorem dX1_isOf_39 : decode cX1_isOf 39 = .ok (.iload_n 1, 1) := by decide +kernel
theorem dX1_isOf_40 : decode cX1_isOf 40 = .ok (.invokevirtual 97, 3) := by decide +kernel
theorem dX1_isOf_43 : decode cX1_isOf 43 = .ok (.ifCond .eq 7, 3) := by decide +kernel
theorem dX1_isOf_46 : decode cX1_isOf 46 = .ok (.iconst 1, 1) := by decide +kernel
theorem dX1_isOf_47 : decode cX1_isOf 47 = .ok (.goto 4, 3) := by decide +kernel
theorem dX1_isOf_50 : decode cX1_isOf 50 = .ok (.iconst 0, 1) := by decide +kernel
theorem dX1_isOf_51 : decode cX1_isOf 51 = .ok (.ireturn, 1) := by decide +kernel
theorem dX1_weightOf_0 : decode cX1_weightOf 0 = .ok (.iload_n 0, 1) := by decide +kernel
theorem dX1_weightOf_1 : decode cX1_weightOf 1 = .ok (.iconst 3, 1) := by decide +kernel
theorem dX1_weightOf_2 : decode cX1_weightOf 2 = .ok (.if_icmp .eq 8, 3) := by decide +kernel
theorem dX1_weightOf_5 : decode cX1_weightOf 5 = .ok (.iload_n 0, 1) := by decide +kernel
theorem dX1_weightOf_6 : decode cX1_weightOf 6 = .ok (.iconst 5, 1) := by decide +kernel
theorem dX1_weightOf_7 : decode cX1_weightOf 7 = .ok (.if_icmp .ne 7, 3) := by decide +kernel
theorem dX1_weightOf_10 : decode cX1_weightOf 10 = .ok (.iconst 2, 1) := by decide +kernel
theorem dX1_weightOf_11 : decode cX1_weightOf 11 = .ok (.goto 4, 3) := by decide +kernel
theorem dX1_weightOf_14 : decode cX1_weightOf 14 = .ok (.iconst 1, 1) := by decide +kernel
theorem dX1_weightOf_15 : decode cX1_weightOf 15 = .ok (.ireturn, 1) := by decide +kernel
theorem dX1_roomOf_0 : decode cX1_roomOf 0 = .ok (.iload_n 0, 1) := by decide +kernel
theorem dX1_roomOf_1 : decode cX1_roomOf 1 = .ok (.iconst 4, 1) := by decide +kernel
theorem dX1_roomOf_2 : decode cX1_roomOf 2 = .ok (.if_icmp .ne 7, 3) := by decide +kernel
theorem dX1_roomOf_5 : decode cX1_roomOf 5 = .ok (.iconst 2, 1) := by decide +kernel
theorem dX1_roomOf_6 : decode cX1_roomOf 6 = .ok (.goto 13, 3) := by decide +kernel
theorem dX1_roomOf_9 : decode cX1_roomOf 9 = .ok (.iload_n 0, 1) := by decide +kernel
theorem dX1_roomOf_10 : decode cX1_roomOf 10 = .ok (.iconst 1, 1) := by decide +kernel
theorem dX1_roomOf_11 : decode cX1_roomOf 11 = .ok (.if_icmp .ne 7, 3) := by decide +kernel
theorem dX1_roomOf_14 : decode cX1_roomOf 14 = .ok (.iconst 1, 1) := by decide +kernel
theorem dX1_roomOf_15 : decode cX1_roomOf 15 = .ok (.goto 4, 3) := by decide +kernel
theorem dX1_roomOf_18 : decode cX1_roomOf 18 = .ok (.iconst 0, 1) := by decide +kernel
theorem dX1_roomOf_19 : decode cX1_roomOf 19 = .ok (.ireturn, 1) := by decide +kernel
theorem dX1_ofWork_0 : decode cX1_ofWork 0 = .ok (.aload_n 0, 1) := by decide +kernel
theorem dX1_ofWork_1 : decode cX1_ofWork 1 = .ok (.iload_n 1, 1) := by decide +kernel
theorem dX1_ofWork_2 : decode cX1_ofWork 2 = .ok (.invokevirtual 100, 3) := by decide +kernel
theorem dX1_ofWork_5 : decode cX1_ofWork 5 = .ok (.ifCond .ne 5, 3) := by decide +kernel
theorem dX1_ofWork_8 : decode cX1_ofWork 8 = .ok (.iconst 0, 1) := by decide +kernel
theorem dX1_ofWork_9 : decode cX1_ofWork 9 = .ok (.ireturn, 1) := by decide +kernel
theorem dX1_ofWork_10 : decode cX1_ofWork 10 = .ok (.iload_n 2, 1) := by decide +kernel
theorem dX1_ofWork_11 : decode cX1_ofWork 11 = .ok (.tableswitch 46 0 2 #[25, 32, 39], 25) := by decide +kernel
theorem dX1_ofWork_36 : decode cX1_ofWork 36 = .ok (.aload_n 0, 1) := by decide +kernel
theorem dX1_ofWork_37 : decode cX1_ofWork 37 = .ok (.getfield 27, 3) := by decide +kernel
theorem dX1_ofWork_40 : decode cX1_ofWork 40 = .ok (.iload_n 1, 1) := by decide +kernel
theorem dX1_ofWork_41 : decode cX1_ofWork 41 = .ok (.iaload, 1) := by decide +kernel
theorem dX1_ofWork_42 : decode cX1_ofWork 42 = .ok (.ireturn, 1) := by decide +kernel
theorem dX1_ofWork_43 : decode cX1_ofWork 43 = .ok (.aload_n 0, 1) := by decide +kernel
theorem dX1_ofWork_44 : decode cX1_ofWork 44 = .ok (.getfield 30, 3) := by decide +kernel
theorem dX1_ofWork_47 : decode cX1_ofWork 47 = .ok (.iload_n 1, 1) := by decide +kernel
theorem dX1_ofWork_48 : decode cX1_ofWork 48 = .ok (.iaload, 1) := by decide +kernel
theorem dX1_ofWork_49 : decode cX1_ofWork 49 = .ok (.ireturn, 1) := by decide +kernel
theorem dX1_ofWork_50 : decode cX1_ofWork 50 = .ok (.aload_n 0, 1) := by decide +kernel
theorem dX1_ofWork_51 : decode cX1_ofWork 51 = .ok (.getfield 33, 3) := by decide +kernel
theorem dX1_ofWork_54 : decode cX1_ofWork 54 = .ok (.iload_n 1, 1) := by decide +kernel
theorem dX1_ofWork_55 : decode cX1_ofWork 55 = .ok (.iaload, 1) := by decide +kernel
theorem dX1_ofWork_56 : decode cX1_ofWork 56 = .ok (.ireturn, 1) := by decide +kernel
theorem dX1_ofWork_57 : decode cX1_ofWork 57 = .ok (.aload_n 0, 1) := by decide +kernel
theorem dX1_ofWork_58 : decode cX1_ofWork 58 = .ok (.getfield 36, 3) := by decide +kernel
theorem dX1_ofWork_61 : decode cX1_ofWork 61 = .ok (.iload_n 1, 1) := by decide +kernel
theorem dX1_ofWork_62 : decode cX1_ofWork 62 = .ok (.iaload, 1) := by decide +kernel
theorem dX1_ofWork_63 : decode cX1_ofWork 63 = .ok (.ireturn, 1) := by decide +kernel
theorem dX1_wanting_0 : decode cX1_wanting 0 = .ok (.iconst 0, 1) := by decide +kernel
theorem dX1_wanting_1 : decode cX1_wanting 1 = .ok (.istore_n 2, 1) := by decide +kernel
theorem dX1_wanting_2 : decode cX1_wanting 2 = .ok (.iconst 0, 1) := by decide +kernel
theorem dX1_wanting_3 : decode cX1_wanting 3 = .ok (.istore_n 3, 1) := by decide +kernel
theorem dX1_wanting_4 : decode cX1_wanting 4 = .ok (.iload_n 3, 1) := by decide +kernel
theorem dX1_wanting_5 : decode cX1_wanting 5 = .ok (.aload_n 0, 1) := by decide +kernel
theorem dX1_wanting_6 : decode cX1_wanting 6 = .ok (.getfield 52, 3) := by decide +kernel
theorem dX1_wanting_9 : decode cX1_wanting 9 = .ok (.if_icmp .ge 22, 3) := by decide +kernel
theorem dX1_wanting_12 : decode cX1_wanting 12 = .ok (.iload_n 2, 1) := by decide +kernel
theorem dX1_wanting_13 : decode cX1_wanting 13 = .ok (.aload_n 0, 1) := by decide +kernel
theorem dX1_wanting_14 : decode cX1_wanting 14 = .ok (.getfield 33, 3) := by decide +kernel
theorem dX1_wanting_17 : decode cX1_wanting 17 = .ok (.iload_n 3, 1) := by decide +kernel
theorem dX1_wanting_18 : decode cX1_wanting 18 = .ok (.iaload, 1) := by decide +kernel
theorem dX1_wanting_19 : decode cX1_wanting 19 = .ok (.iload_n 1, 1) := by decide +kernel
theorem dX1_wanting_20 : decode cX1_wanting 20 = .ok (.ishr, 1) := by decide +kernel
theorem dX1_wanting_21 : decode cX1_wanting 21 = .ok (.iconst 1, 1) := by decide +kernel
theorem dX1_wanting_22 : decode cX1_wanting 22 = .ok (.iand, 1) := by decide +kernel
theorem dX1_wanting_23 : decode cX1_wanting 23 = .ok (.iadd, 1) := by decide +kernel
theorem dX1_wanting_24 : decode cX1_wanting 24 = .ok (.istore_n 2, 1) := by decide +kernel
theorem dX1_wanting_25 : decode cX1_wanting 25 = .ok (.iinc 3 1, 3) := by decide +kernel
theorem dX1_wanting_28 : decode cX1_wanting 28 = .ok (.goto (-24), 3) := by decide +kernel
theorem dX1_wanting_31 : decode cX1_wanting 31 = .ok (.iload_n 2, 1) := by decide +kernel
theorem dX1_wanting_32 : decode cX1_wanting 32 = .ok (.ireturn, 1) := by decide +kernel
theorem dX1_wantedBy_0 : decode cX1_wantedBy 0 = .ok (.iconst 0, 1) := by decide +kernel
theorem dX1_wantedBy_1 : decode cX1_wantedBy 1 = .ok (.istore_n 2, 1) := by decide +kernel
theorem dX1_wantedBy_2 : decode cX1_wantedBy 2 = .ok (.iconst 0, 1) := by decide +kernel
theorem dX1_wantedBy_3 : decode cX1_wantedBy 3 = .ok (.istore_n 3, 1) := by decide +kernel
theorem dX1_wantedBy_4 : decode cX1_wantedBy 4 = .ok (.iload_n 3, 1) := by decide +kernel
theorem dX1_wantedBy_5 : decode cX1_wantedBy 5 = .ok (.aload_n 0, 1) := by decide +kernel
theorem dX1_wantedBy_6 : decode cX1_wantedBy 6 = .ok (.getfield 52, 3) := by decide +kernel
theorem dX1_wantedBy_9 : decode cX1_wantedBy 9 = .ok (.if_icmp .ge 28, 3) := by decide +kernel
theorem dX1_wantedBy_12 : decode cX1_wantedBy 12 = .ok (.aload_n 0, 1) := by decide +kernel
theorem dX1_wantedBy_13 : decode cX1_wantedBy 13 = .ok (.getfield 30, 3) := by decide +kernel
theorem dX1_wantedBy_16 : decode cX1_wantedBy 16 = .ok (.iload_n 3, 1) := by decide +kernel
theorem dX1_wantedBy_17 : decode cX1_wantedBy 17 = .ok (.iaload, 1) := by decide +kernel
theorem dX1_wantedBy_18 : decode cX1_wantedBy 18 = .ok (.iload_n 1, 1) := by decide +kernel
theorem dX1_wantedBy_19 : decode cX1_wantedBy 19 = .ok (.if_icmp .ne 12, 3) := by decide +kernel
theorem dX1_wantedBy_22 : decode cX1_wantedBy 22 = .ok (.iload_n 2, 1) := by decide +kernel
theorem dX1_wantedBy_23 : decode cX1_wantedBy 23 = .ok (.aload_n 0, 1) := by decide +kernel
theorem dX1_wantedBy_24 : decode cX1_wantedBy 24 = .ok (.getfield 33, 3) := by decide +kernel
theorem dX1_wantedBy_27 : decode cX1_wantedBy 27 = .ok (.iload_n 3, 1) := by decide +kernel
theorem dX1_wantedBy_28 : decode cX1_wantedBy 28 = .ok (.iaload, 1) := by decide +kernel
theorem dX1_wantedBy_29 : decode cX1_wantedBy 29 = .ok (.ior, 1) := by decide +kernel
theorem dX1_wantedBy_30 : decode cX1_wantedBy 30 = .ok (.istore_n 2, 1) := by decide +kernel
theorem dX1_wantedBy_31 : decode cX1_wantedBy 31 = .ok (.iinc 3 1, 3) := by decide +kernel
theorem dX1_wantedBy_34 : decode cX1_wantedBy 34 = .ok (.goto (-30), 3) := by decide +kernel
theorem dX1_wantedBy_37 : decode cX1_wantedBy 37 = .ok (.iload_n 2, 1) := by decide +kernel
theorem dX1_wantedBy_38 : decode cX1_wantedBy 38 = .ok (.ireturn, 1) := by decide +kernel
theorem dX1_worthOf_0 : decode cX1_worthOf 0 = .ok (.iload_n 1, 1) := by decide +kernel
theorem dX1_worthOf_1 : decode cX1_worthOf 1 = .ok (.ifCond .lt 21, 3) := by decide +kernel
theorem dX1_worthOf_4 : decode cX1_worthOf 4 = .ok (.iload_n 1, 1) := by decide +kernel
theorem dX1_worthOf_5 : decode cX1_worthOf 5 = .ok (.aload_n 0, 1) := by decide +kernel
theorem dX1_worthOf_6 : decode cX1_worthOf 6 = .ok (.getfield 42, 3) := by decide +kernel
theorem dX1_worthOf_9 : decode cX1_worthOf 9 = .ok (.arraylength, 1) := by decide +kernel
theorem dX1_worthOf_10 : decode cX1_worthOf 10 = .ok (.if_icmp .ge 12, 3) := by decide +kernel
theorem dX1_worthOf_13 : decode cX1_worthOf 13 = .ok (.aload_n 0, 1) := by decide +kernel
theorem dX1_worthOf_14 : decode cX1_worthOf 14 = .ok (.getfield 42, 3) := by decide +kernel
theorem dX1_worthOf_17 : decode cX1_worthOf 17 = .ok (.iload_n 1, 1) := by decide +kernel
theorem dX1_worthOf_18 : decode cX1_worthOf 18 = .ok (.iaload, 1) := by decide +kernel
theorem dX1_worthOf_19 : decode cX1_worthOf 19 = .ok (.goto 4, 3) := by decide +kernel
theorem dX1_worthOf_22 : decode cX1_worthOf 22 = .ok (.iconst 0, 1) := by decide +kernel
theorem dX1_worthOf_23 : decode cX1_worthOf 23 = .ok (.ireturn, 1) := by decide +kernel
theorem dX1_worthOfAll_0 : decode cX1_worthOfAll 0 = .ok (.aload_n 0, 1) := by decide +kernel
theorem dX1_worthOfAll_1 : decode cX1_worthOfAll 1 = .ok (.iconst 1, 1) := by decide +kernel
theorem dX1_worthOfAll_2 : decode cX1_worthOfAll 2 = .ok (.aload_n 0, 1) := by decide +kernel
theorem dX1_worthOfAll_3 : decode cX1_worthOfAll 3 = .ok (.getfield 52, 3) := by decide +kernel
theorem dX1_worthOfAll_6 : decode cX1_worthOfAll 6 = .ok (.ishl, 1) := by decide +kernel
theorem dX1_worthOfAll_7 : decode cX1_worthOfAll 7 = .ok (.iconst 1, 1) := by decide +kernel
theorem dX1_worthOfAll_8 : decode cX1_worthOfAll 8 = .ok (.isub, 1) := by decide +kernel
theorem dX1_worthOfAll_9 : decode cX1_worthOfAll 9 = .ok (.invokevirtual 103, 3) := by decide +kernel
theorem dX1_worthOfAll_12 : decode cX1_worthOfAll 12 = .ok (.ireturn, 1) := by decide +kernel
theorem dX1_lastHour_0 : decode cX1_lastHour 0 = .ok (.iconst (-1), 1) := by decide +kernel
theorem dX1_lastHour_1 : decode cX1_lastHour 1 = .ok (.istore_n 1, 1) := by decide +kernel
theorem dX1_lastHour_2 : decode cX1_lastHour 2 = .ok (.iconst 0, 1) := by decide +kernel
theorem dX1_lastHour_3 : decode cX1_lastHour 3 = .ok (.istore_n 2, 1) := by decide +kernel
theorem dX1_lastHour_4 : decode cX1_lastHour 4 = .ok (.iload_n 2, 1) := by decide +kernel
theorem dX1_lastHour_5 : decode cX1_lastHour 5 = .ok (.aload_n 0, 1) := by decide +kernel
theorem dX1_lastHour_6 : decode cX1_lastHour 6 = .ok (.getfield 52, 3) := by decide +kernel
theorem dX1_lastHour_9 : decode cX1_lastHour 9 = .ok (.if_icmp .ge 20, 3) := by decide +kernel
theorem dX1_lastHour_12 : decode cX1_lastHour 12 = .ok (.iload_n 1, 1) := by decide +kernel
theorem dX1_lastHour_13 : decode cX1_lastHour 13 = .ok (.aload_n 0, 1) := by decide +kernel
theorem dX1_lastHour_14 : decode cX1_lastHour 14 = .ok (.getfield 27, 3) := by decide +kernel
theorem dX1_lastHour_17 : decode cX1_lastHour 17 = .ok (.iload_n 2, 1) := by decide +kernel
theorem dX1_lastHour_18 : decode cX1_lastHour 18 = .ok (.iaload, 1) := by decide +kernel
theorem dX1_lastHour_19 : decode cX1_lastHour 19 = .ok (.invokestatic 106, 3) := by decide +kernel
theorem dX1_lastHour_22 : decode cX1_lastHour 22 = .ok (.istore_n 1, 1) := by decide +kernel
theorem dX1_lastHour_23 : decode cX1_lastHour 23 = .ok (.iinc 2 1, 3) := by decide +kernel
theorem dX1_lastHour_26 : decode cX1_lastHour 26 = .ok (.goto (-22), 3) := by decide +kernel
theorem dX1_lastHour_29 : decode cX1_lastHour 29 = .ok (.iload_n 1, 1) := by decide +kernel
theorem dX1_lastHour_30 : decode cX1_lastHour 30 = .ok (.ireturn, 1) := by decide +kernel
theorem dX2_init_0 : decode cX2_init 0 = .ok (.aload_n 0, 1) := by decide +kernel
theorem dX2_init_1 : decode cX2_init 1 = .ok (.invokespecial 1, 3) := by decide +kernel
theorem dX2_init_4 : decode cX2_init 4 = .ok (.aload_n 0, 1) := by decide +kernel
theorem dX2_init_5 : decode cX2_init 5 = .ok (.iload_n 1, 1) := by decide +kernel
theorem dX2_init_6 : decode cX2_init 6 = .ok (.newarray .int, 2) := by decide +kernel
theorem dX2_init_8 : decode cX2_init 8 = .ok (.putfield 7, 3) := by decide +kernel
theorem dX2_init_11 : decode cX2_init 11 = .ok (.aload_n 0, 1) := by decide +kernel
theorem dX2_init_12 : decode cX2_init 12 = .ok (.iload_n 1, 1) := by decide +kernel
theorem dX2_init_13 : decode cX2_init 13 = .ok (.newarray .int, 2) := by decide +kernel
theorem dX2_init_15 : decode cX2_init 15 = .ok (.putfield 13, 3) := by decide +kernel
theorem dX2_init_18 : decode cX2_init 18 = .ok (.return_, 1) := by decide +kernel
theorem dX2_isFull_0 : decode cX2_isFull 0 = .ok (.aload_n 0, 1) := by decide +kernel
theorem dX2_isFull_1 : decode cX2_isFull 1 = .ok (.getfield 16, 3) := by decide +kernel
theorem dX2_isFull_4 : decode cX2_isFull 4 = .ok (.aload_n 0, 1) := by decide +kernel
theorem dX2_isFull_5 : decode cX2_isFull 5 = .ok (.getfield 7, 3) := by decide +kernel
theorem dX2_isFull_8 : decode cX2_isFull 8 = .ok (.arraylength, 1) := by decide +kernel
theorem dX2_isFull_9 : decode cX2_isFull 9 = .ok (.if_icmp .lt 7, 3) := by decide +kernel
theorem dX2_isFull_12 : decode cX2_isFull 12 = .ok (.iconst 1, 1) := by decide +kernel
theorem dX2_isFull_13 : decode cX2_isFull 13 = .ok (.goto 4, 3) := by decide +kernel
theorem dX2_isFull_16 : decode cX2_isFull 16 = .ok (.iconst 0, 1) := by decide +kernel
theorem dX2_isFull_17 : decode cX2_isFull 17 = .ok (.ireturn, 1) := by decide +kernel
theorem dX2_add_0 : decode cX2_add 0 = .ok (.aload_n 0, 1) := by decide +kernel
theorem dX2_add_1 : decode cX2_add 1 = .ok (.invokevirtual 20, 3) := by decide +kernel
theorem dX2_add_4 : decode cX2_add 4 = .ok (.ifCond .eq 4, 3) := by decide +kernel
theorem dX2_add_7 : decode cX2_add 7 = .ok (.return_, 1) := by decide +kernel
theorem dX2_add_8 : decode cX2_add 8 = .ok (.aload_n 0, 1) := by decide +kernel
theorem dX2_add_9 : decode cX2_add 9 = .ok (.getfield 7, 3) := by decide +kernel
theorem dX2_add_12 : decode cX2_add 12 = .ok (.aload_n 0, 1) := by decide +kernel
theorem dX2_add_13 : decode cX2_add 13 = .ok (.getfield 16, 3) := by decide +kernel
theorem dX2_add_16 : decode cX2_add 16 = .ok (.iload_n 1, 1) := by decide +kernel
theorem dX2_add_17 : decode cX2_add 17 = .ok (.iastore, 1) := by decide +kernel
theorem dX2_add_18 : decode cX2_add 18 = .ok (.aload_n 0, 1) := by decide +kernel
theorem dX2_add_19 : decode cX2_add 19 = .ok (.getfield 13, 3) := by decide +kernel
theorem dX2_add_22 : decode cX2_add 22 = .ok (.aload_n 0, 1) := by decide +kernel
theorem dX2_add_23 : decode cX2_add 23 = .ok (.getfield 16, 3) := by decide +kernel
theorem dX2_add_26 : decode cX2_add 26 = .ok (.iload_n 2, 1) := by decide +kernel
theorem dX2_add_27 : decode cX2_add 27 = .ok (.iastore, 1) := by decide +kernel
theorem dX2_add_28 : decode cX2_add 28 = .ok (.aload_n 0, 1) := by decide +kernel
theorem dX2_add_29 : decode cX2_add 29 = .ok (.dup, 1) := by decide +kernel
theorem dX2_add_30 : decode cX2_add 30 = .ok (.getfield 16, 3) := by decide +kernel
theorem dX2_add_33 : decode cX2_add 33 = .ok (.iconst 1, 1) := by decide +kernel
theorem dX2_add_34 : decode cX2_add 34 = .ok (.iadd, 1) := by decide +kernel
theorem dX2_add_35 : decode cX2_add 35 = .ok (.putfield 16, 3) := by decide +kernel
theorem dX2_add_38 : decode cX2_add 38 = .ok (.return_, 1) := by decide +kernel
theorem dX2_firstOf_0 : decode cX2_firstOf 0 = .ok (.iload_n 1, 1) := by decide +kernel
theorem dX2_firstOf_1 : decode cX2_firstOf 1 = .ok (.ifCond .lt 20, 3) := by decide +kernel
theorem dX2_firstOf_4 : decode cX2_firstOf 4 = .ok (.iload_n 1, 1) := by decide +kernel
theorem dX2_firstOf_5 : decode cX2_firstOf 5 = .ok (.aload_n 0, 1) := by decide +kernel
theorem dX2_firstOf_6 : decode cX2_firstOf 6 = .ok (.getfield 16, 3) := by decide +kernel
theorem dX2_firstOf_9 : decode cX2_firstOf 9 = .ok (.if_icmp .ge 12, 3) := by decide +kernel
theorem dX2_firstOf_12 : decode cX2_firstOf 12 = .ok (.aload_n 0, 1) := by decide +kernel
theorem dX2_firstOf_13 : decode cX2_firstOf 13 = .ok (.getfield 7, 3) := by decide +kernel
theorem dX2_firstOf_16 : decode cX2_firstOf 16 = .ok (.iload_n 1, 1) := by decide +kernel
theorem dX2_firstOf_17 : decode cX2_firstOf 17 = .ok (.iaload, 1) := by decide +kernel
theorem dX2_firstOf_18 : decode cX2_firstOf 18 = .ok (.goto 4, 3) := by decide +kernel
theorem dX2_firstOf_21 : decode cX2_firstOf 21 = .ok (.iconst 0, 1) := by decide +kernel
theorem dX2_firstOf_22 : decode cX2_firstOf 22 = .ok (.ireturn, 1) := by decide +kernel
theorem dX2_secondOf_0 : decode cX2_secondOf 0 = .ok (.iload_n 1, 1) := by decide +kernel
theorem dX2_secondOf_1 : decode cX2_secondOf 1 = .ok (.ifCond .lt 20, 3) := by decide +kernel
theorem dX2_secondOf_4 : decode cX2_secondOf 4 = .ok (.iload_n 1, 1) := by decide +kernel
theorem dX2_secondOf_5 : decode cX2_secondOf 5 = .ok (.aload_n 0, 1) := by decide +kernel
theorem dX2_secondOf_6 : decode cX2_secondOf 6 = .ok (.getfield 16, 3) := by decide +kernel
theorem dX2_secondOf_9 : decode cX2_secondOf 9 = .ok (.if_icmp .ge 12, 3) := by decide +kernel
theorem dX2_secondOf_12 : decode cX2_secondOf 12 = .ok (.aload_n 0, 1) := by decide +kernel
theorem dX2_secondOf_13 : decode cX2_secondOf 13 = .ok (.getfield 13, 3) := by decide +kernel
theorem dX2_secondOf_16 : decode cX2_secondOf 16 = .ok (.iload_n 1, 1) := by decide +kernel
theorem dX2_secondOf_17 : decode cX2_secondOf 17 = .ok (.iaload, 1) := by decide +kernel
theorem dX2_secondOf_18 : decode cX2_secondOf 18 = .ok (.goto 4, 3) := by decide +kernel
theorem dX2_secondOf_21 : decode cX2_secondOf 21 = .ok (.iconst 0, 1) := by decide +kernel
theorem dX2_secondOf_22 : decode cX2_secondOf 22 = .ok (.ireturn, 1) := by decide +kernel
theorem dX3_init_0 : decode cX3_init 0 = .ok (.aload_n 0, 1) := by decide +kernel
theorem dX3_init_1 : decode cX3_init 1 = .ok (.invokespecial 3, 3) := by decide +kernel
theorem dX3_init_4 : decode cX3_init 4 = .ok (.aload_n 0, 1) := by decide +kernel
theorem dX3_init_5 : decode cX3_init 5 = .ok (.iconst 5, 1) := by decide +kernel
theorem dX3_init_6 : decode cX3_init 6 = .ok (.newarray .int, 2) := by decide +kernel
theorem dX3_init_8 : decode cX3_init 8 = .ok (.putfield 9, 3) := by decide +kernel
theorem dX3_init_11 : decode cX3_init 11 = .ok (.aload_n 0, 1) := by decide +kernel
theorem dX3_init_12 : decode cX3_init 12 = .ok (.iconst 5, 1) := by decide +kernel
theorem dX3_init_13 : decode cX3_init 13 = .ok (.newarray .int, 2) := by decide +kernel
theorem dX3_init_15 : decode cX3_init 15 = .ok (.putfield 15, 3) := by decide +kernel
theorem dX3_init_18 : decode cX3_init 18 = .ok (.aload_n 0, 1) := by decide +kernel
theorem dX3_init_19 : decode cX3_init 19 = .ok (.iconst 5, 1) := by decide +kernel
theorem dX3_init_20 : decode cX3_init 20 = .ok (.newarray .int, 2) := by decide +kernel
theorem dX3_init_22 : decode cX3_init 22 = .ok (.putfield 18, 3) := by decide +kernel
theorem dX3_init_25 : decode cX3_init 25 = .ok (.aload_n 0, 1) := by decide +kernel
theorem dX3_init_26 : decode cX3_init 26 = .ok (.iconst 2, 1) := by decide +kernel
theorem dX3_init_27 : decode cX3_init 27 = .ok (.newarray .int, 2) := by decide +kernel
theorem dX3_init_29 : decode cX3_init 29 = .ok (.putfield 21, 3) := by decide +kernel
theorem dX3_init_32 : decode cX3_init 32 = .ok (.aload_n 0, 1) := by decide +kernel
theorem dX3_init_33 : decode cX3_init 33 = .ok (.iconst 3, 1) := by decide +kernel
theorem dX3_init_34 : decode cX3_init 34 = .ok (.putfield 24, 3) := by decide +kernel
theorem dX3_init_37 : decode cX3_init 37 = .ok (.aload_n 0, 1) := by decide +kernel
theorem dX3_init_38 : decode cX3_init 38 = .ok (.aload_n 1, 1) := by decide +kernel
theorem dX3_init_39 : decode cX3_init 39 = .ok (.putfield 28, 3) := by decide +kernel
theorem dX3_init_42 : decode cX3_init 42 = .ok (.return_, 1) := by decide +kernel
theorem dX3_begin_0 : decode cX3_begin 0 = .ok (.aload_n 0, 1) := by decide +kernel
theorem dX3_begin_1 : decode cX3_begin 1 = .ok (.getfield 28, 3) := by decide +kernel
theorem dX3_begin_4 : decode cX3_begin 4 = .ok (.getfield 32, 3) := by decide +kernel
theorem dX3_begin_7 : decode cX3_begin 7 = .ok (.iconst 0, 1) := by decide +kernel
theorem dX3_begin_8 : decode cX3_begin 8 = .ok (.aload_n 0, 1) := by decide +kernel
theorem dX3_begin_9 : decode cX3_begin 9 = .ok (.getfield 9, 3) := by decide +kernel
theorem dX3_begin_12 : decode cX3_begin 12 = .ok (.iconst 0, 1) := by decide +kernel
theorem dX3_begin_13 : decode cX3_begin 13 = .ok (.iconst 5, 1) := by decide +kernel
theorem dX3_begin_14 : decode cX3_begin 14 = .ok (.invokestatic 37, 3) := by decide +kernel
theorem dX3_begin_17 : decode cX3_begin 17 = .ok (.aload_n 0, 1) := by decide +kernel
theorem dX3_begin_18 : decode cX3_begin 18 = .ok (.iconst 3, 1) := by decide +kernel
theorem dX3_begin_19 : decode cX3_begin 19 = .ok (.putfield 24, 3) := by decide +kernel
theorem dX3_begin_22 : decode cX3_begin 22 = .ok (.aload_n 0, 1) := by decide +kernel
theorem dX3_begin_23 : decode cX3_begin 23 = .ok (.invokevirtual 43, 3) := by decide +kernel
theorem dX3_begin_26 : decode cX3_begin 26 = .ok (.return_, 1) := by decide +kernel
theorem dX3_become_0 : decode cX3_become 0 = .ok (.aload_n 1, 1) := by decide +kernel
theorem dX3_become_1 : decode cX3_become 1 = .ok (.getfield 9, 3) := by decide +kernel
theorem dX3_become_4 : decode cX3_become 4 = .ok (.iconst 0, 1) := by decide +kernel
theorem dX3_become_5 : decode cX3_become 5 = .ok (.aload_n 0, 1) := by decide +kernel
theorem dX3_become_6 : decode cX3_become 6 = .ok (.getfield 9, 3) := by decide +kernel
theorem dX3_become_9 : decode cX3_become 9 = .ok (.iconst 0, 1) := by decide +kernel
theorem dX3_become_10 : decode cX3_become 10 = .ok (.iconst 5, 1) := by decide +kernel
theorem dX3_become_11 : decode cX3_become 11 = .ok (.invokestatic 37, 3) := by decide +kernel
theorem dX3_become_14 : decode cX3_become 14 = .ok (.aload_n 0, 1) := by decide +kernel
theorem dX3_become_15 : decode cX3_become 15 = .ok (.aload_n 1, 1) := by decide +kernel
theorem dX3_become_16 : decode cX3_become 16 = .ok (.getfield 24, 3) := by decide +kernel
theorem dX3_become_19 : decode cX3_become 19 = .ok (.putfield 24, 3) := by decide +kernel
theorem dX3_become_22 : decode cX3_become 22 = .ok (.aload_n 0, 1) := by decide +kernel
theorem dX3_become_23 : decode cX3_become 23 = .ok (.invokevirtual 43, 3) := by decide +kernel
theorem dX3_become_26 : decode cX3_become 26 = .ok (.return_, 1) := by decide +kernel
theorem dX3_decode_0 : decode cX3_decode 0 = .ok (.iload_n 1, 1) := by decide +kernel
theorem dX3_decode_1 : decode cX3_decode 1 = .ok (.istore_n 2, 1) := by decide +kernel
theorem dX3_decode_2 : decode cX3_decode 2 = .ok (.iconst 0, 1) := by decide +kernel
theorem dX3_decode_3 : decode cX3_decode 3 = .ok (.istore_n 3, 1) := by decide +kernel
theorem dX3_decode_4 : decode cX3_decode 4 = .ok (.iload_n 3, 1) := by decide +kernel
theorem dX3_decode_5 : decode cX3_decode 5 = .ok (.aload_n 0, 1) := by decide +kernel
theorem dX3_decode_6 : decode cX3_decode 6 = .ok (.getfield 28, 3) := by decide +kernel
theorem dX3_decode_9 : decode cX3_decode 9 = .ok (.getfield 46, 3) := by decide +kernel
theorem dX3_decode_12 : decode cX3_decode 12 = .ok (.if_icmp .ge 24, 3) := by decide +kernel
theorem dX3_decode_15 : decode cX3_decode 15 = .ok (.aload_n 0, 1) := by decide +kernel
theorem dX3_decode_16 : decode cX3_decode 16 = .ok (.getfield 9, 3) := by decide +kernel
theorem dX3_decode_19 : decode cX3_decode 19 = .ok (.iload_n 3, 1) := by decide +kernel
theorem dX3_decode_20 : decode cX3_decode 20 = .ok (.iload_n 2, 1) := by decide +kernel
theorem dX3_decode_21 : decode cX3_decode 21 = .ok (.bipush 7, 2) := by decide +kernel
theorem dX3_decode_23 : decode cX3_decode 23 = .ok (.irem, 1) := by decide +kernel
theorem dX3_decode_24 : decode cX3_decode 24 = .ok (.iastore, 1) := by decide +kernel
theorem dX3_decode_25 : decode cX3_decode 25 = .ok (.iload_n 2, 1) := by decide +kernel
theorem dX3_decode_26 : decode cX3_decode 26 = .ok (.bipush 7, 2) := by decide +kernel
theorem dX3_decode_28 : decode cX3_decode 28 = .ok (.idiv, 1) := by decide +kernel
theorem dX3_decode_29 : decode cX3_decode 29 = .ok (.istore_n 2, 1) := by decide +kernel
theorem dX3_decode_30 : decode cX3_decode 30 = .ok (.iinc 3 1, 3) := by decide +kernel
theorem dX3_decode_33 : decode cX3_decode 33 = .ok (.goto (-29), 3) := by decide +kernel
theorem dX3_decode_36 : decode cX3_decode 36 = .ok (.aload_n 0, 1) := by decide +kernel
theorem dX3_decode_37 : decode cX3_decode 37 = .ok (.invokevirtual 43, 3) := by decide +kernel
theorem dX3_decode_40 : decode cX3_decode 40 = .ok (.return_, 1) := by decide +kernel
theorem dX3_code_0 : decode cX3_code 0 = .ok (.iconst 0, 1) := by decide +kernel
theorem dX3_code_1 : decode cX3_code 1 = .ok (.istore_n 1, 1) := by decide +kernel
theorem dX3_code_2 : decode cX3_code 2 = .ok (.iconst 0, 1) := by decide +kernel
theorem dX3_code_3 : decode cX3_code 3 = .ok (.istore_n 2, 1) := by decide +kernel
theorem dX3_code_4 : decode cX3_code 4 = .ok (.iload_n 2, 1) := by decide +kernel
theorem dX3_code_5 : decode cX3_code 5 = .ok (.aload_n 0, 1) := by decide +kernel
theorem dX3_code_6 : decode cX3_code 6 = .ok (.getfield 28, 3) := by decide +kernel
theorem dX3_code_9 : decode cX3_code 9 = .ok (.getfield 46, 3) := by decide +kernel
theorem dX3_code_12 : decode cX3_code 12 = .ok (.if_icmp .ge 24, 3) := by decide +kernel
theorem dX3_code_15 : decode cX3_code 15 = .ok (.iload_n 1, 1) := by decide +kernel
theorem dX3_code_16 : decode cX3_code 16 = .ok (.aload_n 0, 1) := by decide +kernel
theorem dX3_code_17 : decode cX3_code 17 = .ok (.getfield 9, 3) := by decide +kernel
theorem dX3_code_20 : decode cX3_code 20 = .ok (.iload_n 2, 1) := by decide +kernel
theorem dX3_code_21 : decode cX3_code 21 = .ok (.iaload, 1) := by decide +kernel
theorem dX3_code_22 : decode cX3_code 22 = .ok (.getstatic 49, 3) := by decide +kernel
theorem dX3_code_25 : decode cX3_code 25 = .ok (.iload_n 2, 1) := by decide +kernel
theorem dX3_code_26 : decode cX3_code 26 = .ok (.iaload, 1) := by decide +kernel
theorem dX3_code_27 : decode cX3_code 27 = .ok (.imul, 1) := by decide +kernel
theorem dX3_code_28 : decode cX3_code 28 = .ok (.iadd, 1) := by decide +kernel
theorem dX3_code_29 : decode cX3_code 29 = .ok (.istore_n 1, 1) := by decide +kernel
theorem dX3_code_30 : decode cX3_code 30 = .ok (.iinc 2 1, 3) := by decide +kernel
theorem dX3_code_33 : decode cX3_code 33 = .ok (.goto (-29), 3) := by decide +kernel
theorem dX3_code_36 : decode cX3_code 36 = .ok (.iload_n 1, 1) := by decide +kernel
theorem dX3_code_37 : decode cX3_code 37 = .ok (.ireturn, 1) := by decide +kernel
theorem dX3_move_0 : decode cX3_move 0 = .ok (.aload_n 0, 1) := by decide +kernel
theorem dX3_move_1 : decode cX3_move 1 = .ok (.getfield 28, 3) := by decide +kernel
theorem dX3_move_4 : decode cX3_move 4 = .ok (.iload_n 1, 1) := by decide +kernel
theorem dX3_move_5 : decode cX3_move 5 = .ok (.iload_n 2, 1) := by decide +kernel
theorem dX3_move_6 : decode cX3_move 6 = .ok (.invokevirtual 52, 3) := by decide +kernel
theorem dX3_move_9 : decode cX3_move 9 = .ok (.ifCond .ne 4, 3) := by decide +kernel
theorem dX3_move_12 : decode cX3_move 12 = .ok (.return_, 1) := by decide +kernel
theorem dX3_move_13 : decode cX3_move 13 = .ok (.aload_n 0, 1) := by decide +kernel
theorem dX3_move_14 : decode cX3_move 14 = .ok (.getfield 9, 3) := by decide +kernel
theorem dX3_move_17 : decode cX3_move 17 = .ok (.iload_n 1, 1) := by decide +kernel
theorem dX3_move_18 : decode cX3_move 18 = .ok (.iload_n 2, 1) := by decide +kernel
theorem dX3_move_19 : decode cX3_move 19 = .ok (.iastore, 1) := by decide +kernel
theorem dX3_move_20 : decode cX3_move 20 = .ok (.aload_n 0, 1) := by decide +kernel
theorem dX3_move_21 : decode cX3_move 21 = .ok (.invokevirtual 43, 3) := by decide +kernel
theorem dX3_move_24 : decode cX3_move 24 = .ok (.return_, 1) := by decide +kernel
theorem dX3_tally_0 : decode cX3_tally 0 = .ok (.aload_n 0, 1) := by decide +kernel
theorem dX3_tally_1 : decode cX3_tally 1 = .ok (.getfield 15, 3) := by decide +kernel
theorem dX3_tally_4 : decode cX3_tally 4 = .ok (.iconst 0, 1) := by decide +kernel
theorem dX3_tally_5 : decode cX3_tally 5 = .ok (.invokestatic 56, 3) := by decide +kernel
theorem dX3_tally_8 : decode cX3_tally 8 = .ok (.aload_n 0, 1) := by decide +kernel
theorem dX3_tally_9 : decode cX3_tally 9 = .ok (.getfield 18, 3) := by decide +kernel
theorem dX3_tally_12 : decode cX3_tally 12 = .ok (.iconst 0, 1) := by decide +kernel
theorem dX3_tally_13 : decode cX3_tally 13 = .ok (.invokestatic 56, 3) := by decide +kernel
theorem dX3_tally_16 : decode cX3_tally 16 = .ok (.aload_n 0, 1) := by decide +kernel
theorem dX3_tally_17 : decode cX3_tally 17 = .ok (.getfield 21, 3) := by decide +kernel
theorem dX3_tally_20 : decode cX3_tally 20 = .ok (.iconst 0, 1) := by decide +kernel
theorem dX3_tally_21 : decode cX3_tally 21 = .ok (.invokestatic 56, 3) := by decide +kernel
theorem dX3_tally_24 : decode cX3_tally 24 = .ok (.iconst 0, 1) := by decide +kernel
theorem dX3_tally_25 : decode cX3_tally 25 = .ok (.istore_n 1, 1) := by decide +kernel
theorem dX3_tally_26 : decode cX3_tally 26 = .ok (.iload_n 1, 1) := by decide +kernel
theorem dX3_tally_27 : decode cX3_tally 27 = .ok (.aload_n 0, 1) := by decide +kernel
theorem dX3_tally_28 : decode cX3_tally 28 = .ok (.getfield 28, 3) := by decide +kernel
theorem dX3_tally_31 : decode cX3_tally 31 = .ok (.getfield 46, 3) := by decide +kernel
theorem dX3_tally_34 : decode cX3_tally 34 = .ok (.if_icmp .ge 70, 3) := by decide +kernel
theorem dX3_tally_37 : decode cX3_tally 37 = .ok (.aload_n 0, 1) := by decide +kernel
theorem dX3_tally_38 : decode cX3_tally 38 = .ok (.getfield 9, 3) := by decide +kernel
theorem dX3_tally_41 : decode cX3_tally 41 = .ok (.iload_n 1, 1) := by decide +kernel
theorem dX3_tally_42 : decode cX3_tally 42 = .ok (.iaload, 1) := by decide +kernel
theorem dX3_tally_43 : decode cX3_tally 43 = .ok (.istore_n 2, 1) := by decide +kernel
theorem dX3_tally_44 : decode cX3_tally 44 = .ok (.iload_n 2, 1) := by decide +kernel
theorem dX3_tally_45 : decode cX3_tally 45 = .ok (.iconst 4, 1) := by decide +kernel
theorem dX3_tally_46 : decode cX3_tally 46 = .ok (.if_icmp .gt 24, 3) := by decide +kernel
theorem dX3_tally_49 : decode cX3_tally 49 = .ok (.aload_n 0, 1) := by decide +kernel
theorem dX3_tally_50 : decode cX3_tally 50 = .ok (.getfield 15, 3) := by decide +kernel
theorem dX3_tally_53 : decode cX3_tally 53 = .ok (.iload_n 2, 1) := by decide +kernel
theorem dX3_tally_54 : decode cX3_tally 54 = .ok (.dup2, 1) := by decide +kernel
theorem dX3_tally_55 : decode cX3_tally 55 = .ok (.iaload, 1) := by decide +kernel
theorem dX3_tally_56 : decode cX3_tally 56 = .ok (.aload_n 0, 1) := by decide +kernel
theorem dX3_tally_57 : decode cX3_tally 57 = .ok (.getfield 28, 3) := by decide +kernel
theorem dX3_tally_60 : decode cX3_tally 60 = .ok (.getfield 62, 3) := by decide +kernel
theorem dX3_tally_63 : decode cX3_tally 63 = .ok (.iload_n 1, 1) := by decide +kernel
theorem dX3_tally_64 : decode cX3_tally 64 = .ok (.iaload, 1) := by decide +kernel
theorem dX3_tally_65 : decode cX3_tally 65 = .ok (.iadd, 1) := by decide +kernel
theorem dX3_tally_66 : decode cX3_tally 66 = .ok (.iastore, 1) := by decide +kernel
theorem dX3_tally_67 : decode cX3_tally 67 = .ok (.goto 15, 3) := by decide +kernel
theorem dX3_tally_70 : decode cX3_tally 70 = .ok (.aload_n 0, 1) := by decide +kernel
theorem dX3_tally_71 : decode cX3_tally 71 = .ok (.getfield 21, 3) := by decide +kernel
theorem dX3_tally_74 : decode cX3_tally 74 = .ok (.iload_n 2, 1) := by decide +kernel
theorem dX3_tally_75 : decode cX3_tally 75 = .ok (.iconst 5, 1) := by decide +kernel
theorem dX3_tally_76 : decode cX3_tally 76 = .ok (.isub, 1) := by decide +kernel
theorem dX3_tally_77 : decode cX3_tally 77 = .ok (.dup2, 1) := by decide +kernel
theorem dX3_tally_78 : decode cX3_tally 78 = .ok (.iaload, 1) := by decide +kernel
theorem dX3_tally_79 : decode cX3_tally 79 = .ok (.iconst 1, 1) := by decide +kernel
theorem dX3_tally_80 : decode cX3_tally 80 = .ok (.iadd, 1) := by decide +kernel
theorem dX3_tally_81 : decode cX3_tally 81 = .ok (.iastore, 1) := by decide +kernel
theorem dX3_tally_82 : decode cX3_tally 82 = .ok (.aload_n 0, 1) := by decide +kernel
theorem dX3_tally_83 : decode cX3_tally 83 = .ok (.getfield 18, 3) := by decide +kernel
theorem dX3_tally_86 : decode cX3_tally 86 = .ok (.aload_n 0, 1) := by decide +kernel
theorem dX3_tally_87 : decode cX3_tally 87 = .ok (.iload_n 1, 1) := by decide +kernel
theorem dX3_tally_88 : decode cX3_tally 88 = .ok (.invokevirtual 65, 3) := by decide +kernel
theorem dX3_tally_91 : decode cX3_tally 91 = .ok (.dup2, 1) := by decide +kernel
theorem dX3_tally_92 : decode cX3_tally 92 = .ok (.iaload, 1) := by decide +kernel
theorem dX3_tally_93 : decode cX3_tally 93 = .ok (.iconst 1, 1) := by decide +kernel
theorem dX3_tally_94 : decode cX3_tally 94 = .ok (.iload_n 1, 1) := by decide +kernel
theorem dX3_tally_95 : decode cX3_tally 95 = .ok (.ishl, 1) := by decide +kernel
theorem dX3_tally_96 : decode cX3_tally 96 = .ok (.ior, 1) := by decide +kernel
theorem dX3_tally_97 : decode cX3_tally 97 = .ok (.iastore, 1) := by decide +kernel
theorem dX3_tally_98 : decode cX3_tally 98 = .ok (.iinc 1 1, 3) := by decide +kernel
theorem dX3_tally_101 : decode cX3_tally 101 = .ok (.goto (-75), 3) := by decide +kernel
theorem dX3_tally_104 : decode cX3_tally 104 = .ok (.return_, 1) := by decide +kernel
theorem dX3_whom_0 : decode cX3_whom 0 = .ok (.iload_n 1, 1) := by decide +kernel
theorem dX3_whom_1 : decode cX3_whom 1 = .ok (.ifCond .lt 12, 3) := by decide +kernel
theorem dX3_whom_4 : decode cX3_whom 4 = .ok (.iload_n 1, 1) := by decide +kernel
theorem dX3_whom_5 : decode cX3_whom 5 = .ok (.aload_n 0, 1) := by decide +kernel
theorem dX3_whom_6 : decode cX3_whom 6 = .ok (.getfield 9, 3) := by decide +kernel
theorem dX3_whom_9 : decode cX3_whom 9 = .ok (.arraylength, 1) := by decide +kernel
theorem dX3_whom_10 : decode cX3_whom 10 = .ok (.if_icmp .lt 5, 3) := by decide +kernel
theorem dX3_whom_13 : decode cX3_whom 13 = .ok (.iconst 4, 1) := by decide +kernel
theorem dX3_whom_14 : decode cX3_whom 14 = .ok (.ireturn, 1) := by decide +kernel
theorem dX3_whom_15 : decode cX3_whom 15 = .ok (.aload_n 0, 1) := by decide +kernel
theorem dX3_whom_16 : decode cX3_whom 16 = .ok (.getfield 9, 3) := by decide +kernel
theorem dX3_whom_19 : decode cX3_whom 19 = .ok (.iload_n 1, 1) := by decide +kernel
theorem dX3_whom_20 : decode cX3_whom 20 = .ok (.iaload, 1) := by decide +kernel
theorem dX3_whom_21 : decode cX3_whom 21 = .ok (.iconst 5, 1) := by decide +kernel
theorem dX3_whom_22 : decode cX3_whom 22 = .ok (.isub, 1) := by decide +kernel
theorem dX3_whom_23 : decode cX3_whom 23 = .ok (.istore_n 2, 1) := by decide +kernel
theorem dX3_whom_24 : decode cX3_whom 24 = .ok (.iload_n 2, 1) := by decide +kernel
theorem dX3_whom_25 : decode cX3_whom 25 = .ok (.ifCond .ge 10, 3) := by decide +kernel
theorem dX3_whom_28 : decode cX3_whom 28 = .ok (.aload_n 0, 1) := by decide +kernel
theorem dX3_whom_29 : decode cX3_whom 29 = .ok (.getfield 9, 3) := by decide +kernel
theorem dX3_whom_32 : decode cX3_whom 32 = .ok (.iload_n 1, 1) := by decide +kernel
theorem dX3_whom_33 : decode cX3_whom 33 = .ok (.iaload, 1) := by decide +kernel
theorem dX3_whom_34 : decode cX3_whom 34 = .ok (.ireturn, 1) := by decide +kernel
theorem dX3_whom_35 : decode cX3_whom 35 = .ok (.iload_n 2, 1) := by decide +kernel
theorem dX3_whom_36 : decode cX3_whom 36 = .ok (.aload_n 0, 1) := by decide +kernel
theorem dX3_whom_37 : decode cX3_whom 37 = .ok (.getfield 28, 3) := by decide +kernel
theorem dX3_whom_40 : decode cX3_whom 40 = .ok (.getfield 69, 3) := by decide +kernel
theorem dX3_whom_43 : decode cX3_whom 43 = .ok (.if_icmp .ge 20, 3) := by decide +kernel
theorem dX3_whom_46 : decode cX3_whom 46 = .ok (.aload_n 0, 1) := by decide +kernel
theorem dX3_whom_47 : decode cX3_whom 47 = .ok (.getfield 9, 3) := by decide +kernel
theorem dX3_whom_50 : decode cX3_whom 50 = .ok (.aload_n 0, 1) := by decide +kernel
theorem dX3_whom_51 : decode cX3_whom 51 = .ok (.getfield 28, 3) := by decide +kernel
theorem dX3_whom_54 : decode cX3_whom 54 = .ok (.getfield 72, 3) := by decide +kernel
theorem dX3_whom_57 : decode cX3_whom 57 = .ok (.iload_n 2, 1) := by decide +kernel
theorem dX3_whom_58 : decode cX3_whom 58 = .ok (.iaload, 1) := by decide +kernel
theorem dX3_whom_59 : decode cX3_whom 59 = .ok (.iaload, 1) := by decide +kernel
theorem dX3_whom_60 : decode cX3_whom 60 = .ok (.goto 4, 3) := by decide +kernel
theorem dX3_whom_63 : decode cX3_whom 63 = .ok (.iconst 4, 1) := by decide +kernel
theorem dX3_whom_64 : decode cX3_whom 64 = .ok (.ireturn, 1) := by decide +kernel
theorem dX3_loadOf_0 : decode cX3_loadOf 0 = .ok (.iload_n 1, 1) := by decide +kernel
theorem dX3_loadOf_1 : decode cX3_loadOf 1 = .ok (.ifCond .lt 17, 3) := by decide +kernel
theorem dX3_loadOf_4 : decode cX3_loadOf 4 = .ok (.iload_n 1, 1) := by decide +kernel
theorem dX3_loadOf_5 : decode cX3_loadOf 5 = .ok (.iconst 4, 1) := by decide +kernel
theorem dX3_loadOf_6 : decode cX3_loadOf 6 = .ok (.if_icmp .gt 12, 3) := by decide +kernel
theorem dX3_loadOf_9 : decode cX3_loadOf 9 = .ok (.aload_n 0, 1) := by decide +kernel
theorem dX3_loadOf_10 : decode cX3_loadOf 10 = .ok (.getfield 15, 3) := by decide +kernel
theorem dX3_loadOf_13 : decode cX3_loadOf 13 = .ok (.iload_n 1, 1) := by decide +kernel
theorem dX3_loadOf_14 : decode cX3_loadOf 14 = .ok (.iaload, 1) := by decide +kernel
theorem dX3_loadOf_15 : decode cX3_loadOf 15 = .ok (.goto 4, 3) := by decide +kernel
theorem dX3_loadOf_18 : decode cX3_loadOf 18 = .ok (.iconst 0, 1) := by decide +kernel
theorem dX3_loadOf_19 : decode cX3_loadOf 19 = .ok (.ireturn, 1) := by decide +kernel
theorem dX3_heldBy_0 : decode cX3_heldBy 0 = .ok (.iload_n 1, 1) := by decide +kernel
theorem dX3_heldBy_1 : decode cX3_heldBy 1 = .ok (.ifCond .lt 17, 3) := by decide +kernel
theorem dX3_heldBy_4 : decode cX3_heldBy 4 = .ok (.iload_n 1, 1) := by decide +kernel
theorem dX3_heldBy_5 : decode cX3_heldBy 5 = .ok (.iconst 4, 1) := by decide +kernel
theorem dX3_heldBy_6 : decode cX3_heldBy 6 = .ok (.if_icmp .gt 12, 3) := by decide +kernel
theorem dX3_heldBy_9 : decode cX3_heldBy 9 = .ok (.aload_n 0, 1) := by decide +kernel
theorem dX3_heldBy_10 : decode cX3_heldBy 10 = .ok (.getfield 18, 3) := by decide +kernel
theorem dX3_heldBy_13 : decode cX3_heldBy 13 = .ok (.iload_n 1, 1) := by decide +kernel
theorem dX3_heldBy_14 : decode cX3_heldBy 14 = .ok (.iaload, 1) := by decide +kernel
theorem dX3_heldBy_15 : decode cX3_heldBy 15 = .ok (.goto 4, 3) := by decide +kernel
theorem dX3_heldBy_18 : decode cX3_heldBy 18 = .ok (.iconst 0, 1) := by decide +kernel
theorem dX3_heldBy_19 : decode cX3_heldBy 19 = .ok (.ireturn, 1) := by decide +kernel
theorem dX3_inBag_0 : decode cX3_inBag 0 = .ok (.aload_n 0, 1) := by decide +kernel
theorem dX3_inBag_1 : decode cX3_inBag 1 = .ok (.getfield 21, 3) := by decide +kernel
theorem dX3_inBag_4 : decode cX3_inBag 4 = .ok (.iload_n 1, 1) := by decide +kernel
theorem dX3_inBag_5 : decode cX3_inBag 5 = .ok (.aload_n 0, 1) := by decide +kernel
theorem dX3_inBag_6 : decode cX3_inBag 6 = .ok (.getfield 28, 3) := by decide +kernel
theorem dX3_inBag_9 : decode cX3_inBag 9 = .ok (.getfield 72, 3) := by decide +kernel
theorem dX3_inBag_12 : decode cX3_inBag 12 = .ok (.iconst 0, 1) := by decide +kernel
theorem dX3_inBag_13 : decode cX3_inBag 13 = .ok (.iaload, 1) := by decide +kernel
theorem dX3_inBag_14 : decode cX3_inBag 14 = .ok (.if_icmp .ne 7, 3) := by decide +kernel
theorem dX3_inBag_17 : decode cX3_inBag 17 = .ok (.iconst 0, 1) := by decide +kernel
theorem dX3_inBag_18 : decode cX3_inBag 18 = .ok (.goto 4, 3) := by decide +kernel
theorem dX3_inBag_21 : decode cX3_inBag 21 = .ok (.iconst 1, 1) := by decide +kernel
theorem dX3_inBag_22 : decode cX3_inBag 22 = .ok (.iaload, 1) := by decide +kernel
theorem dX3_inBag_23 : decode cX3_inBag 23 = .ok (.ireturn, 1) := by decide +kernel
theorem dX3_heaviest_0 : decode cX3_heaviest 0 = .ok (.iconst 0, 1) := by decide +kernel
theorem dX3_heaviest_1 : decode cX3_heaviest 1 = .ok (.istore_n 1, 1) := by decide +kernel
theorem dX3_heaviest_2 : decode cX3_heaviest 2 = .ok (.iconst 0, 1) := by decide +kernel
theorem dX3_heaviest_3 : decode cX3_heaviest 3 = .ok (.istore_n 2, 1) := by decide +kernel
theorem dX3_heaviest_4 : decode cX3_heaviest 4 = .ok (.iload_n 2, 1) := by decide +kernel
theorem dX3_heaviest_5 : decode cX3_heaviest 5 = .ok (.aload_n 0, 1) := by decide +kernel
theorem dX3_heaviest_6 : decode cX3_heaviest 6 = .ok (.getfield 28, 3) := by decide +kernel
theorem dX3_heaviest_9 : decode cX3_heaviest 9 = .ok (.getfield 75, 3) := by decide +kernel
theorem dX3_heaviest_12 : decode cX3_heaviest 12 = .ok (.if_icmp .ge 20, 3) := by decide +kernel
theorem dX3_heaviest_15 : decode cX3_heaviest 15 = .ok (.iload_n 1, 1) := by decide +kernel
theorem dX3_heaviest_16 : decode cX3_heaviest 16 = .ok (.aload_n 0, 1) := by decide +kernel
theorem dX3_heaviest_17 : decode cX3_heaviest 17 = .ok (.getfield 15, 3) := by decide +kernel
theorem dX3_heaviest_20 : decode cX3_heaviest 20 = .ok (.iload_n 2, 1) := by decide +kernel
theorem dX3_heaviest_21 : decode cX3_heaviest 21 = .ok (.iaload, 1) := by decide +kernel
theorem dX3_heaviest_22 : decode cX3_heaviest 22 = .ok (.invokestatic 78, 3) := by decide +kernel
theorem dX3_heaviest_25 : decode cX3_heaviest 25 = .ok (.istore_n 1, 1) := by decide +kernel
theorem dX3_heaviest_26 : decode cX3_heaviest 26 = .ok (.iinc 2 1, 3) := by decide +kernel
theorem dX3_heaviest_29 : decode cX3_heaviest 29 = .ok (.goto (-25), 3) := by decide +kernel
theorem dX3_heaviest_32 : decode cX3_heaviest 32 = .ok (.iload_n 1, 1) := by decide +kernel
theorem dX3_heaviest_33 : decode cX3_heaviest 33 = .ok (.ireturn, 1) := by decide +kernel
theorem dX3_fits_0 : decode cX3_fits 0 = .ok (.iload_n 2, 1) := by decide +kernel
theorem dX3_fits_1 : decode cX3_fits 1 = .ok (.iconst 4, 1) := by decide +kernel
theorem dX3_fits_2 : decode cX3_fits 2 = .ok (.if_icmp .eq 26, 3) := by decide +kernel
theorem dX3_fits_5 : decode cX3_fits 5 = .ok (.aload_n 0, 1) := by decide +kernel
theorem dX3_fits_6 : decode cX3_fits 6 = .ok (.getfield 15, 3) := by decide +kernel
theorem dX3_fits_9 : decode cX3_fits 9 = .ok (.iload_n 2, 1) := by decide +kernel
theorem dX3_fits_10 : decode cX3_fits 10 = .ok (.iaload, 1) := by decide +kernel
theorem dX3_fits_11 : decode cX3_fits 11 = .ok (.aload_n 0, 1) := by decide +kernel
theorem dX3_fits_12 : decode cX3_fits 12 = .ok (.getfield 28, 3) := by decide +kernel
theorem dX3_fits_15 : decode cX3_fits 15 = .ok (.getfield 62, 3) := by decide +kernel
theorem dX3_fits_18 : decode cX3_fits 18 = .ok (.iload_n 1, 1) := by decide +kernel
theorem dX3_fits_19 : decode cX3_fits 19 = .ok (.iaload, 1) := by decide +kernel
theorem dX3_fits_20 : decode cX3_fits 20 = .ok (.iadd, 1) := by decide +kernel
theorem dX3_fits_21 : decode cX3_fits 21 = .ok (.aload_n 0, 1) := by decide +kernel
theorem dX3_fits_22 : decode cX3_fits 22 = .ok (.getfield 24, 3) := by decide +kernel
theorem dX3_fits_25 : decode cX3_fits 25 = .ok (.if_icmp .gt 7, 3) := by decide +kernel
theorem dX3_fits_28 : decode cX3_fits 28 = .ok (.iconst 1, 1) := by decide +kernel
theorem dX3_fits_29 : decode cX3_fits 29 = .ok (.goto 4, 3) := by decide +kernel
theorem dX3_fits_32 : decode cX3_fits 32 = .ok (.iconst 0, 1) := by decide +kernel
theorem dX3_fits_33 : decode cX3_fits 33 = .ok (.ireturn, 1) := by decide +kernel
theorem dX3_targets_0 : decode cX3_targets 0 = .ok (.aload_n 0, 1) := by decide +kernel
theorem dX3_targets_1 : decode cX3_targets 1 = .ok (.getfield 9, 3) := by decide +kernel
theorem dX3_targets_4 : decode cX3_targets 4 = .ok (.iload_n 1, 1) := by decide +kernel
theorem dX3_targets_5 : decode cX3_targets 5 = .ok (.iaload, 1) := by decide +kernel
theorem dX3_targets_6 : decode cX3_targets 6 = .ok (.istore_n 2, 1) := by decide +kernel
theorem dX3_targets_7 : decode cX3_targets 7 = .ok (.iload_n 2, 1) := by decide +kernel
theorem dX3_targets_8 : decode cX3_targets 8 = .ok (.iconst 5, 1) := by decide +kernel
theorem dX3_targets_9 : decode cX3_targets 9 = .ok (.if_icmp .lt 26, 3) := by decide +kernel
theorem dX3_targets_12 : decode cX3_targets 12 = .ok (.aload_n 0, 1) := by decide +kernel
theorem dX3_targets_13 : decode cX3_targets 13 = .ok (.iload_n 1, 1) := by decide +kernel
theorem dX3_targets_14 : decode cX3_targets 14 = .ok (.invokevirtual 65, 3) := by decide +kernel
theorem dX3_targets_17 : decode cX3_targets 17 = .ok (.istore_n 3, 1) := by decide +kernel
theorem dX3_targets_18 : decode cX3_targets 18 = .ok (.aload_n 0, 1) := by decide +kernel
theorem dX3_targets_19 : decode cX3_targets 19 = .ok (.iload_n 1, 1) := by decide +kernel
theorem dX3_targets_20 : decode cX3_targets 20 = .ok (.iload_n 3, 1) := by decide +kernel
theorem dX3_targets_21 : decode cX3_targets 21 = .ok (.invokevirtual 84, 3) := by decide +kernel
theorem dX3_targets_24 : decode cX3_targets 24 = .ok (.ifCond .eq 9, 3) := by decide +kernel
theorem dX3_targets_27 : decode cX3_targets 27 = .ok (.iconst 1, 1) := by decide +kernel
theorem dX3_targets_28 : decode cX3_targets 28 = .ok (.iload_n 3, 1) := by decide +kernel
theorem dX3_targets_29 : decode cX3_targets 29 = .ok (.ishl, 1) := by decide +kernel
theorem dX3_targets_30 : decode cX3_targets 30 = .ok (.goto 4, 3) := by decide +kernel
theorem dX3_targets_33 : decode cX3_targets 33 = .ok (.iconst 0, 1) := by decide +kernel
theorem dX3_targets_34 : decode cX3_targets 34 = .ok (.ireturn, 1) := by decide +kernel
theorem dX3_targets_35 : decode cX3_targets 35 = .ok (.iconst 0, 1) := by decide +kernel
theorem dX3_targets_36 : decode cX3_targets 36 = .ok (.istore_n 3, 1) := by decide +kernel
theorem dX3_targets_37 : decode cX3_targets 37 = .ok (.iconst 0, 1) := by decide +kernel
theorem dX3_targets_38 : decode cX3_targets 38 = .ok (.istore 4, 2) := by decide +kernel
theorem dX3_targets_40 : decode cX3_targets 40 = .ok (.iload 4, 2) := by decide +kernel
theorem dX3_targets_42 : decode cX3_targets 42 = .ok (.aload_n 0, 1) := by decide +kernel
theorem dX3_targets_43 : decode cX3_targets 43 = .ok (.getfield 28, 3) := by decide +kernel
theorem dX3_targets_46 : decode cX3_targets 46 = .ok (.getfield 75, 3) := by decide +kernel
theorem dX3_targets_49 : decode cX3_targets 49 = .ok (.if_icmp .ge 26, 3) := by decide +kernel
theorem dX3_targets_52 : decode cX3_targets 52 = .ok (.aload_n 0, 1) := by decide +kernel
theorem dX3_targets_53 : decode cX3_targets 53 = .ok (.iload_n 1, 1) := by decide +kernel
theorem dX3_targets_54 : decode cX3_targets 54 = .ok (.iload 4, 2) := by decide +kernel
theorem dX3_targets_56 : decode cX3_targets 56 = .ok (.invokevirtual 84, 3) := by decide +kernel
theorem dX3_targets_59 : decode cX3_targets 59 = .ok (.ifCond .eq 10, 3) := by decide +kernel
theorem dX3_targets_62 : decode cX3_targets 62 = .ok (.iload_n 3, 1) := by decide +kernel
theorem dX3_targets_63 : decode cX3_targets 63 = .ok (.iconst 1, 1) := by decide +kernel
theorem dX3_targets_64 : decode cX3_targets 64 = .ok (.iload 4, 2) := by decide +kernel
theorem dX3_targets_66 : decode cX3_targets 66 = .ok (.ishl, 1) := by decide +kernel
theorem dX3_targets_67 : decode cX3_targets 67 = .ok (.ior, 1) := by decide +kernel
theorem dX3_targets_68 : decode cX3_targets 68 = .ok (.istore_n 3, 1) := by decide +kernel
theorem dX3_targets_69 : decode cX3_targets 69 = .ok (.iinc 4 1, 3) := by decide +kernel
theorem dX3_targets_72 : decode cX3_targets 72 = .ok (.goto (-32), 3) := by decide +kernel
theorem dX3_targets_75 : decode cX3_targets 75 = .ok (.aload_n 0, 1) := by decide +kernel
theorem dX3_targets_76 : decode cX3_targets 76 = .ok (.getfield 28, 3) := by decide +kernel
theorem dX3_targets_79 : decode cX3_targets 79 = .ok (.iload_n 1, 1) := by decide +kernel
theorem dX3_targets_80 : decode cX3_targets 80 = .ok (.invokevirtual 87, 3) := by decide +kernel
theorem dX3_targets_83 : decode cX3_targets 83 = .ok (.ifCond .eq 11, 3) := by decide +kernel
theorem dX3_targets_86 : decode cX3_targets 86 = .ok (.iload_n 3, 1) := by decide +kernel
theorem dX3_targets_87 : decode cX3_targets 87 = .ok (.iconst 1, 1) := by decide +kernel
theorem dX3_targets_88 : decode cX3_targets 88 = .ok (.iload_n 2, 1) := by decide +kernel
theorem dX3_targets_89 : decode cX3_targets 89 = .ok (.ishl, 1) := by decide +kernel
theorem dX3_targets_90 : decode cX3_targets 90 = .ok (.iconst (-1), 1) := by decide +kernel
theorem dX3_targets_91 : decode cX3_targets 91 = .ok (.ixor, 1) := by decide +kernel
theorem dX3_targets_92 : decode cX3_targets 92 = .ok (.iand, 1) := by decide +kernel
theorem dX3_targets_93 : decode cX3_targets 93 = .ok (.ireturn, 1) := by decide +kernel
theorem dX3_targets_94 : decode cX3_targets 94 = .ok (.iload_n 3, 1) := by decide +kernel
theorem dX3_targets_95 : decode cX3_targets 95 = .ok (.bipush 16, 2) := by decide +kernel
theorem dX3_targets_97 : decode cX3_targets 97 = .ok (.ior, 1) := by decide +kernel
theorem dX3_targets_98 : decode cX3_targets 98 = .ok (.istore_n 3, 1) := by decide +kernel
theorem dX3_targets_99 : decode cX3_targets 99 = .ok (.aload_n 0, 1) := by decide +kernel
theorem dX3_targets_100 : decode cX3_targets 100 = .ok (.getfield 28, 3) := by decide +kernel
theorem dX3_targets_103 : decode cX3_targets 103 = .ok (.iload_n 1, 1) := by decide +kernel
theorem dX3_targets_104 : decode cX3_targets 104 = .ok (.invokevirtual 91, 3) := by decide +kernel
theorem dX3_targets_107 : decode cX3_targets 107 = .ok (.ifCond .ne 11, 3) := by decide +kernel
theorem dX3_targets_110 : decode cX3_targets 110 = .ok (.iload_n 3, 1) := by decide +kernel
theorem dX3_targets_111 : decode cX3_targets 111 = .ok (.aload_n 0, 1) := by decide +kernel
theorem dX3_targets_112 : decode cX3_targets 112 = .ok (.iload_n 2, 1) := by decide +kernel
theorem dX3_targets_113 : decode cX3_targets 113 = .ok (.invokevirtual 94, 3) := by decide +kernel
theorem dX3_targets_116 : decode cX3_targets 116 = .ok (.ior, 1) := by decide +kernel
theorem dX3_targets_117 : decode cX3_targets 117 = .ok (.istore_n 3, 1) := by decide +kernel
theorem dX3_targets_118 : decode cX3_targets 118 = .ok (.iload_n 3, 1) := by decide +kernel
theorem dX3_targets_119 : decode cX3_targets 119 = .ok (.iconst 1, 1) := by decide +kernel
theorem dX3_targets_120 : decode cX3_targets 120 = .ok (.iload_n 2, 1) := by decide +kernel
theorem dX3_targets_121 : decode cX3_targets 121 = .ok (.ishl, 1) := by decide +kernel
theorem dX3_targets_122 : decode cX3_targets 122 = .ok (.iconst (-1), 1) := by decide +kernel
theorem dX3_targets_123 : decode cX3_targets 123 = .ok (.ixor, 1) := by decide +kernel
theorem dX3_targets_124 : decode cX3_targets 124 = .ok (.iand, 1) := by decide +kernel
theorem dX3_targets_125 : decode cX3_targets 125 = .ok (.ireturn, 1) := by decide +kernel
theorem dX3_openBags_0 : decode cX3_openBags 0 = .ok (.iconst 0, 1) := by decide +kernel
theorem dX3_openBags_1 : decode cX3_openBags 1 = .ok (.istore_n 2, 1) := by decide +kernel
theorem dX3_openBags_2 : decode cX3_openBags 2 = .ok (.iconst 0, 1) := by decide +kernel
theorem dX3_openBags_3 : decode cX3_openBags 3 = .ok (.istore_n 3, 1) := by decide +kernel
theorem dX3_openBags_4 : decode cX3_openBags 4 = .ok (.iload_n 3, 1) := by decide +kernel
theorem dX3_openBags_5 : decode cX3_openBags 5 = .ok (.aload_n 0, 1) := by decide +kernel
theorem dX3_openBags_6 : decode cX3_openBags 6 = .ok (.getfield 28, 3) := by decide +kernel
theorem dX3_openBags_9 : decode cX3_openBags 9 = .ok (.getfield 69, 3) := by decide +kernel
theorem dX3_openBags_12 : decode cX3_openBags 12 = .ok (.if_icmp .ge 58, 3) := by decide +kernel
theorem dX3_openBags_15 : decode cX3_openBags 15 = .ok (.aload_n 0, 1) := by decide +kernel
theorem dX3_openBags_16 : decode cX3_openBags 16 = .ok (.getfield 28, 3) := by decide +kernel
theorem dX3_openBags_19 : decode cX3_openBags 19 = .ok (.getfield 72, 3) := by decide +kernel
theorem dX3_openBags_22 : decode cX3_openBags 22 = .ok (.iload_n 3, 1) := by decide +kernel
theorem dX3_openBags_23 : decode cX3_openBags 23 = .ok (.iaload, 1) := by decide +kernel
theorem dX3_openBags_24 : decode cX3_openBags 24 = .ok (.istore 4, 2) := by decide +kernel
theorem dX3_openBags_26 : decode cX3_openBags 26 = .ok (.aload_n 0, 1) := by decide +kernel
theorem dX3_openBags_27 : decode cX3_openBags 27 = .ok (.getfield 9, 3) := by decide +kernel
theorem dX3_openBags_30 : decode cX3_openBags 30 = .ok (.iload 4, 2) := by decide +kernel
theorem dX3_openBags_32 : decode cX3_openBags 32 = .ok (.iaload, 1) := by decide +kernel
theorem dX3_openBags_33 : decode cX3_openBags 33 = .ok (.iload_n 1, 1) := by decide +kernel
theorem dX3_openBags_34 : decode cX3_openBags 34 = .ok (.if_icmp .ne 30, 3) := by decide +kernel
theorem dX3_openBags_37 : decode cX3_openBags 37 = .ok (.aload_n 0, 1) := by decide +kernel
theorem dX3_openBags_38 : decode cX3_openBags 38 = .ok (.getfield 21, 3) := by decide +kernel
theorem dX3_openBags_41 : decode cX3_openBags 41 = .ok (.iload_n 3, 1) := by decide +kernel
theorem dX3_openBags_42 : decode cX3_openBags 42 = .ok (.iaload, 1) := by decide +kernel
theorem dX3_openBags_43 : decode cX3_openBags 43 = .ok (.aload_n 0, 1) := by decide +kernel
theorem dX3_openBags_44 : decode cX3_openBags 44 = .ok (.getfield 28, 3) := by decide +kernel
theorem dX3_openBags_47 : decode cX3_openBags 47 = .ok (.getfield 97, 3) := by decide +kernel
theorem dX3_openBags_50 : decode cX3_openBags 50 = .ok (.iload 4, 2) := by decide +kernel
theorem dX3_openBags_52 : decode cX3_openBags 52 = .ok (.iaload, 1) := by decide +kernel
theorem dX3_openBags_53 : decode cX3_openBags 53 = .ok (.if_icmp .ge 11, 3) := by decide +kernel
theorem dX3_openBags_56 : decode cX3_openBags 56 = .ok (.iload_n 2, 1) := by decide +kernel
theorem dX3_openBags_57 : decode cX3_openBags 57 = .ok (.iconst 1, 1) := by decide +kernel
theorem dX3_openBags_58 : decode cX3_openBags 58 = .ok (.iconst 5, 1) := by decide +kernel
theorem dX3_openBags_59 : decode cX3_openBags 59 = .ok (.iload_n 3, 1) := by decide +kernel
theorem dX3_openBags_60 : decode cX3_openBags 60 = .ok (.iadd, 1) := by decide +kernel
theorem dX3_openBags_61 : decode cX3_openBags 61 = .ok (.ishl, 1) := by decide +kernel
theorem dX3_openBags_62 : decode cX3_openBags 62 = .ok (.ior, 1) := by decide +kernel
theorem dX3_openBags_63 : decode cX3_openBags 63 = .ok (.istore_n 2, 1) := by decide +kernel
theorem dX3_openBags_64 : decode cX3_openBags 64 = .ok (.iinc 3 1, 3) := by decide +kernel
theorem dX3_openBags_67 : decode cX3_openBags 67 = .ok (.goto (-63), 3) := by decide +kernel
theorem dX3_openBags_70 : decode cX3_openBags 70 = .ok (.iload_n 2, 1) := by decide +kernel
theorem dX3_openBags_71 : decode cX3_openBags 71 = .ok (.ireturn, 1) := by decide +kernel
theorem dX3_allows_0 : decode cX3_allows 0 = .ok (.aload_n 0, 1) := by decide +kernel
theorem dX3_allows_1 : decode cX3_allows 1 = .ok (.getfield 28, 3) := by decide +kernel
theorem dX3_allows_4 : decode cX3_allows 4 = .ok (.iload_n 1, 1) := by decide +kernel
theorem dX3_allows_5 : decode cX3_allows 5 = .ok (.iload_n 2, 1) := by decide +kernel
theorem dX3_allows_6 : decode cX3_allows 6 = .ok (.invokevirtual 52, 3) := by decide +kernel
theorem dX3_allows_9 : decode cX3_allows 9 = .ok (.ifCond .eq 19, 3) := by decide +kernel
theorem dX3_allows_12 : decode cX3_allows 12 = .ok (.aload_n 0, 1) := by decide +kernel
theorem dX3_allows_13 : decode cX3_allows 13 = .ok (.iload_n 1, 1) := by decide +kernel
theorem dX3_allows_14 : decode cX3_allows 14 = .ok (.invokevirtual 100, 3) := by decide +kernel
theorem dX3_allows_17 : decode cX3_allows 17 = .ok (.iload_n 2, 1) := by decide +kernel
theorem dX3_allows_18 : decode cX3_allows 18 = .ok (.ishr, 1) := by decide +kernel
theorem dX3_allows_19 : decode cX3_allows 19 = .ok (.iconst 1, 1) := by decide +kernel
theorem dX3_allows_20 : decode cX3_allows 20 = .ok (.iand, 1) := by decide +kernel
theorem dX3_allows_21 : decode cX3_allows 21 = .ok (.ifCond .eq 7, 3) := by decide +kernel
theorem dX3_allows_24 : decode cX3_allows 24 = .ok (.iconst 1, 1) := by decide +kernel
theorem dX3_allows_25 : decode cX3_allows 25 = .ok (.goto 4, 3) := by decide +kernel
theorem dX3_allows_28 : decode cX3_allows 28 = .ok (.iconst 0, 1) := by decide +kernel
theorem dX3_allows_29 : decode cX3_allows 29 = .ok (.ireturn, 1) := by decide +kernel
theorem dX3_canBe_0 : decode cX3_canBe 0 = .ok (.iconst 0, 1) := by decide +kernel
theorem dX3_canBe_1 : decode cX3_canBe 1 = .ok (.istore_n 1, 1) := by decide +kernel
theorem dX3_canBe_2 : decode cX3_canBe 2 = .ok (.iload_n 1, 1) := by decide +kernel
theorem dX3_canBe_3 : decode cX3_canBe 3 = .ok (.aload_n 0, 1) := by decide +kernel
theorem dX3_canBe_4 : decode cX3_canBe 4 = .ok (.getfield 28, 3) := by decide +kernel
theorem dX3_canBe_7 : decode cX3_canBe 7 = .ok (.getfield 46, 3) := by decide +kernel
theorem dX3_canBe_10 : decode cX3_canBe 10 = .ok (.if_icmp .ge 55, 3) := by decide +kernel
theorem dX3_canBe_13 : decode cX3_canBe 13 = .ok (.aload_n 0, 1) := by decide +kernel
theorem dX3_canBe_14 : decode cX3_canBe 14 = .ok (.getfield 28, 3) := by decide +kernel
theorem dX3_canBe_17 : decode cX3_canBe 17 = .ok (.iload_n 1, 1) := by decide +kernel
theorem dX3_canBe_18 : decode cX3_canBe 18 = .ok (.invokevirtual 87, 3) := by decide +kernel
theorem dX3_canBe_21 : decode cX3_canBe 21 = .ok (.ifCond .eq 15, 3) := by decide +kernel
theorem dX3_canBe_24 : decode cX3_canBe 24 = .ok (.aload_n 0, 1) := by decide +kernel
theorem dX3_canBe_25 : decode cX3_canBe 25 = .ok (.getfield 9, 3) := by decide +kernel
theorem dX3_canBe_28 : decode cX3_canBe 28 = .ok (.iload_n 1, 1) := by decide +kernel
theorem dX3_canBe_29 : decode cX3_canBe 29 = .ok (.iaload, 1) := by decide +kernel
theorem dX3_canBe_30 : decode cX3_canBe 30 = .ok (.iconst 4, 1) := by decide +kernel
theorem dX3_canBe_31 : decode cX3_canBe 31 = .ok (.if_icmp .lt 5, 3) := by decide +kernel
theorem dX3_canBe_34 : decode cX3_canBe 34 = .ok (.iconst 0, 1) := by decide +kernel
theorem dX3_canBe_35 : decode cX3_canBe 35 = .ok (.ireturn, 1) := by decide +kernel
theorem dX3_canBe_36 : decode cX3_canBe 36 = .ok (.aload_n 0, 1) := by decide +kernel
theorem dX3_canBe_37 : decode cX3_canBe 37 = .ok (.getfield 28, 3) := by decide +kernel
theorem dX3_canBe_40 : decode cX3_canBe 40 = .ok (.iload_n 1, 1) := by decide +kernel
theorem dX3_canBe_41 : decode cX3_canBe 41 = .ok (.invokevirtual 91, 3) := by decide +kernel
theorem dX3_canBe_44 : decode cX3_canBe 44 = .ok (.ifCond .eq 15, 3) := by decide +kernel
theorem dX3_canBe_47 : decode cX3_canBe 47 = .ok (.aload_n 0, 1) := by decide +kernel
theorem dX3_canBe_48 : decode cX3_canBe 48 = .ok (.getfield 9, 3) := by decide +kernel
theorem dX3_canBe_51 : decode cX3_canBe 51 = .ok (.iload_n 1, 1) := by decide +kernel
theorem dX3_canBe_52 : decode cX3_canBe 52 = .ok (.iaload, 1) := by decide +kernel
theorem dX3_canBe_53 : decode cX3_canBe 53 = .ok (.iconst 5, 1) := by decide +kernel
theorem dX3_canBe_54 : decode cX3_canBe 54 = .ok (.if_icmp .lt 5, 3) := by decide +kernel
theorem dX3_canBe_57 : decode cX3_canBe 57 = .ok (.iconst 0, 1) := by decide +kernel
theorem dX3_canBe_58 : decode cX3_canBe 58 = .ok (.ireturn, 1) := by decide +kernel
theorem dX3_canBe_59 : decode cX3_canBe 59 = .ok (.iinc 1 1, 3) := by decide +kernel
theorem dX3_canBe_62 : decode cX3_canBe 62 = .ok (.goto (-60), 3) := by decide +kernel
theorem dX3_canBe_65 : decode cX3_canBe 65 = .ok (.aload_n 0, 1) := by decide +kernel
theorem dX3_canBe_66 : decode cX3_canBe 66 = .ok (.invokevirtual 43, 3) := by decide +kernel
theorem dX3_canBe_69 : decode cX3_canBe 69 = .ok (.iconst 0, 1) := by decide +kernel
theorem dX3_canBe_70 : decode cX3_canBe 70 = .ok (.istore_n 1, 1) := by decide +kernel
theorem dX3_canBe_71 : decode cX3_canBe 71 = .ok (.iload_n 1, 1) := by decide +kernel
theorem dX3_canBe_72 : decode cX3_canBe 72 = .ok (.aload_n 0, 1) := by decide +kernel
theorem dX3_canBe_73 : decode cX3_canBe 73 = .ok (.getfield 28, 3) := by decide +kernel
theorem dX3_canBe_76 : decode cX3_canBe 76 = .ok (.getfield 69, 3) := by decide +kernel
theorem dX3_canBe_79 : decode cX3_canBe 79 = .ok (.if_icmp .ge 37, 3) := by decide +kernel
theorem dX3_canBe_82 : decode cX3_canBe 82 = .ok (.aload_n 0, 1) := by decide +kernel
theorem dX3_canBe_83 : decode cX3_canBe 83 = .ok (.getfield 21, 3) := by decide +kernel
theorem dX3_canBe_86 : decode cX3_canBe 86 = .ok (.iload_n 1, 1) := by decide +kernel
theorem dX3_canBe_87 : decode cX3_canBe 87 = .ok (.iaload, 1) := by decide +kernel
theorem dX3_canBe_88 : decode cX3_canBe 88 = .ok (.aload_n 0, 1) := by decide +kernel
theorem dX3_canBe_89 : decode cX3_canBe 89 = .ok (.getfield 28, 3) := by decide +kernel
theorem dX3_canBe_92 : decode cX3_canBe 92 = .ok (.getfield 97, 3) := by decide +kernel
theorem dX3_canBe_95 : decode cX3_canBe 95 = .ok (.aload_n 0, 1) := by decide +kernel
theorem dX3_canBe_96 : decode cX3_canBe 96 = .ok (.getfield 28, 3) := by decide +kernel
theorem dX3_canBe_99 : decode cX3_canBe 99 = .ok (.getfield 72, 3) := by decide +kernel
theorem dX3_canBe_102 : decode cX3_canBe 102 = .ok (.iload_n 1, 1) := by decide +kernel
theorem dX3_canBe_103 : decode cX3_canBe 103 = .ok (.iaload, 1) := by decide +kernel
theorem dX3_canBe_104 : decode cX3_canBe 104 = .ok (.iaload, 1) := by decide +kernel
theorem dX3_canBe_105 : decode cX3_canBe 105 = .ok (.if_icmp .le 5, 3) := by decide +kernel
theorem dX3_canBe_108 : decode cX3_canBe 108 = .ok (.iconst 0, 1) := by decide +kernel
theorem dX3_canBe_109 : decode cX3_canBe 109 = .ok (.ireturn, 1) := by decide +kernel
theorem dX3_canBe_110 : decode cX3_canBe 110 = .ok (.iinc 1 1, 3) := by decide +kernel
theorem dX3_canBe_113 : decode cX3_canBe 113 = .ok (.goto (-42), 3) := by decide +kernel
theorem dX3_canBe_116 : decode cX3_canBe 116 = .ok (.aload_n 0, 1) := by decide +kernel
theorem dX3_canBe_117 : decode cX3_canBe 117 = .ok (.invokevirtual 103, 3) := by decide +kernel
theorem dX3_canBe_120 : decode cX3_canBe 120 = .ok (.aload_n 0, 1) := by decide +kernel
theorem dX3_canBe_121 : decode cX3_canBe 121 = .ok (.getfield 24, 3) := by decide +kernel
theorem dX3_canBe_124 : decode cX3_canBe 124 = .ok (.if_icmp .gt 7, 3) := by decide +kernel
theorem dX3_canBe_127 : decode cX3_canBe 127 = .ok (.iconst 1, 1) := by decide +kernel
theorem dX3_canBe_128 : decode cX3_canBe 128 = .ok (.goto 4, 3) := by decide +kernel
theorem dX3_canBe_131 : decode cX3_canBe 131 = .ok (.iconst 0, 1) := by decide +kernel
theorem dX3_canBe_132 : decode cX3_canBe 132 = .ok (.ireturn, 1) := by decide +kernel
theorem dX3_doable_0 : decode cX3_doable 0 = .ok (.iconst 0, 1) := by decide +kernel
theorem dX3_doable_1 : decode cX3_doable 1 = .ok (.istore_n 1, 1) := by decide +kernel
theorem dX3_doable_2 : decode cX3_doable 2 = .ok (.iconst 0, 1) := by decide +kernel
theorem dX3_doable_3 : decode cX3_doable 3 = .ok (.istore_n 2, 1) := by decide +kernel
theorem dX3_doable_4 : decode cX3_doable 4 = .ok (.iload_n 2, 1) := by decide +kernel
theorem dX3_doable_5 : decode cX3_doable 5 = .ok (.aload_n 0, 1) := by decide +kernel

theorem dX8_within_25 : decode cX8_within 25 = .ok (.getfield 36, 3) := by decide +kernel
theorem dX8_within_28 : decode cX8_within 28 = .ok (.if_icmp .ge 60, 3) := by decide +kernel
theorem dX8_within_31 : decode cX8_within 31 = .ok (.aload_n 0, 1) := by decide +kernel
theorem dX8_within_32 : decode cX8_within 32 = .ok (.getfield 28, 3) := by decide +kernel
theorem dX8_within_35 : decode cX8_within 35 = .ok (.aload_n 0, 1) := by decide +kernel
theorem dX8_within_36 : decode cX8_within 36 = .ok (.getfield 15, 3) := by decide +kernel
theorem dX8_within_39 : decode cX8_within 39 = .ok (.getfield 42, 3) := by decide +kernel
theorem dX8_within_42 : decode cX8_within 42 = .ok (.iload 5, 2) := by decide +kernel
theorem dX8_within_44 : decode cX8_within 44 = .ok (.iaload, 1) := by decide +kernel
theorem dX8_within_45 : decode cX8_within 45 = .ok (.invokevirtual 46, 3) := by decide +kernel
theorem dX8_within_48 : decode cX8_within 48 = .ok (.iload 4, 2) := by decide +kernel
theorem dX8_within_50 : decode cX8_within 50 = .ok (.aload_n 0, 1) := by decide +kernel
theorem dX8_within_51 : decode cX8_within 51 = .ok (.getfield 28, 3) := by decide +kernel
theorem dX8_within_54 : decode cX8_within 54 = .ok (.iload_n 2, 1) := by decide +kernel
theorem dX8_within_55 : decode cX8_within 55 = .ok (.invokevirtual 61, 3) := by decide +kernel
theorem dX8_within_58 : decode cX8_within 58 = .ok (.ior, 1) := by decide +kernel
theorem dX8_within_59 : decode cX8_within 59 = .ok (.istore 4, 2) := by decide +kernel
theorem dX8_within_61 : decode cX8_within 61 = .ok (.aload_n 0, 1) := by decide +kernel
theorem dX8_within_62 : decode cX8_within 62 = .ok (.getfield 15, 3) := by decide +kernel
theorem dX8_within_65 : decode cX8_within 65 = .ok (.getfield 54, 3) := by decide +kernel
theorem dX8_within_68 : decode cX8_within 68 = .ok (.iload 5, 2) := by decide +kernel
theorem dX8_within_70 : decode cX8_within 70 = .ok (.iaload, 1) := by decide +kernel
theorem dX8_within_71 : decode cX8_within 71 = .ok (.iload_n 3, 1) := by decide +kernel
theorem dX8_within_72 : decode cX8_within 72 = .ok (.if_icmp .ge 10, 3) := by decide +kernel
theorem dX8_within_75 : decode cX8_within 75 = .ok (.aload_n 0, 1) := by decide +kernel
theorem dX8_within_76 : decode cX8_within 76 = .ok (.iload 5, 2) := by decide +kernel
theorem dX8_within_78 : decode cX8_within 78 = .ok (.iload_n 2, 1) := by decide +kernel
theorem dX8_within_79 : decode cX8_within 79 = .ok (.invokevirtual 57, 3) := by decide +kernel
theorem dX8_within_82 : decode cX8_within 82 = .ok (.iinc 5 1, 3) := by decide +kernel
theorem dX8_within_85 : decode cX8_within 85 = .ok (.goto (-74), 3) := by decide +kernel
theorem dX8_within_88 : decode cX8_within 88 = .ok (.iload 4, 2) := by decide +kernel
theorem dX8_within_90 : decode cX8_within 90 = .ok (.ireturn, 1) := by decide +kernel
theorem dX8_begin_0 : decode cX8_begin 0 = .ok (.aload_n 0, 1) := by decide +kernel
theorem dX8_begin_1 : decode cX8_begin 1 = .ok (.getfield 19, 3) := by decide +kernel
theorem dX8_begin_4 : decode cX8_begin 4 = .ok (.invokevirtual 64, 3) := by decide +kernel
theorem dX8_begin_7 : decode cX8_begin 7 = .ok (.aload_n 0, 1) := by decide +kernel
theorem dX8_begin_8 : decode cX8_begin 8 = .ok (.getfield 28, 3) := by decide +kernel
theorem dX8_begin_11 : decode cX8_begin 11 = .ok (.aload_n 1, 1) := by decide +kernel
theorem dX8_begin_12 : decode cX8_begin 12 = .ok (.getfield 69, 3) := by decide +kernel
theorem dX8_begin_15 : decode cX8_begin 15 = .ok (.putfield 69, 3) := by decide +kernel
theorem dX8_begin_18 : decode cX8_begin 18 = .ok (.aload_n 0, 1) := by decide +kernel
theorem dX8_begin_19 : decode cX8_begin 19 = .ok (.getfield 15, 3) := by decide +kernel
theorem dX8_begin_22 : decode cX8_begin 22 = .ok (.aload_n 1, 1) := by decide +kernel
theorem dX8_begin_23 : decode cX8_begin 23 = .ok (.invokevirtual 72, 3) := by decide +kernel
theorem dX8_begin_26 : decode cX8_begin 26 = .ok (.invokevirtual 75, 3) := by decide +kernel
theorem dX8_begin_29 : decode cX8_begin 29 = .ok (.return_, 1) := by decide +kernel
theorem dX8_expand_0 : decode cX8_expand 0 = .ok (.iconst 0, 1) := by decide +kernel
theorem dX8_expand_1 : decode cX8_expand 1 = .ok (.istore_n 3, 1) := by decide +kernel
theorem dX8_expand_2 : decode cX8_expand 2 = .ok (.iload_n 3, 1) := by decide +kernel
theorem dX8_expand_3 : decode cX8_expand 3 = .ok (.aload_n 0, 1) := by decide +kernel
theorem dX8_expand_4 : decode cX8_expand 4 = .ok (.getfield 9, 3) := by decide +kernel
theorem dX8_expand_7 : decode cX8_expand 7 = .ok (.getfield 77, 3) := by decide +kernel
theorem dX8_expand_10 : decode cX8_expand 10 = .ok (.if_icmp .ge 109, 3) := by decide +kernel
theorem dX8_expand_13 : decode cX8_expand 13 = .ok (.aload_n 0, 1) := by decide +kernel
theorem dX8_expand_14 : decode cX8_expand 14 = .ok (.getfield 28, 3) := by decide +kernel
theorem dX8_expand_17 : decode cX8_expand 17 = .ok (.getfield 82, 3) := by decide +kernel
theorem dX8_expand_20 : decode cX8_expand 20 = .ok (.iload_n 3, 1) := by decide +kernel
theorem dX8_expand_21 : decode cX8_expand 21 = .ok (.iaload, 1) := by decide +kernel
theorem dX8_expand_22 : decode cX8_expand 22 = .ok (.istore 4, 2) := by decide +kernel
theorem dX8_expand_24 : decode cX8_expand 24 = .ok (.iload 4, 2) := by decide +kernel
theorem dX8_expand_26 : decode cX8_expand 26 = .ok (.iload_n 2, 1) := by decide +kernel
theorem dX8_expand_27 : decode cX8_expand 27 = .ok (.if_icmp .ne 57, 3) := by decide +kernel
theorem dX8_expand_30 : decode cX8_expand 30 = .ok (.iconst 0, 1) := by decide +kernel
theorem dX8_expand_31 : decode cX8_expand 31 = .ok (.istore 5, 2) := by decide +kernel
theorem dX8_expand_33 : decode cX8_expand 33 = .ok (.iload 5, 2) := by decide +kernel
theorem dX8_expand_35 : decode cX8_expand 35 = .ok (.aload_n 0, 1) := by decide +kernel
theorem dX8_expand_36 : decode cX8_expand 36 = .ok (.getfield 9, 3) := by decide +kernel
theorem dX8_expand_39 : decode cX8_expand 39 = .ok (.getfield 85, 3) := by decide +kernel
theorem dX8_expand_42 : decode cX8_expand 42 = .ok (.if_icmp .ge 17, 3) := by decide +kernel
theorem dX8_expand_45 : decode cX8_expand 45 = .ok (.aload_n 0, 1) := by decide +kernel
theorem dX8_expand_46 : decode cX8_expand 46 = .ok (.iload_n 1, 1) := by decide +kernel
theorem dX8_expand_47 : decode cX8_expand 47 = .ok (.iload_n 3, 1) := by decide +kernel
theorem dX8_expand_48 : decode cX8_expand 48 = .ok (.iload 5, 2) := by decide +kernel
theorem dX8_expand_50 : decode cX8_expand 50 = .ok (.invokevirtual 88, 3) := by decide +kernel
theorem dX8_expand_53 : decode cX8_expand 53 = .ok (.iinc 5 1, 3) := by decide +kernel
theorem dX8_expand_56 : decode cX8_expand 56 = .ok (.goto (-23), 3) := by decide +kernel
theorem dX8_expand_59 : decode cX8_expand 59 = .ok (.aload_n 0, 1) := by decide +kernel
theorem dX8_expand_60 : decode cX8_expand 60 = .ok (.getfield 9, 3) := by decide +kernel
theorem dX8_expand_63 : decode cX8_expand 63 = .ok (.iload_n 3, 1) := by decide +kernel
theorem dX8_expand_64 : decode cX8_expand 64 = .ok (.invokevirtual 92, 3) := by decide +kernel
theorem dX8_expand_67 : decode cX8_expand 67 = .ok (.ifCond .ne 46, 3) := by decide +kernel
theorem dX8_expand_70 : decode cX8_expand 70 = .ok (.aload_n 0, 1) := by decide +kernel
theorem dX8_expand_71 : decode cX8_expand 71 = .ok (.iload_n 1, 1) := by decide +kernel
theorem dX8_expand_72 : decode cX8_expand 72 = .ok (.aload_n 0, 1) := by decide +kernel
theorem dX8_expand_73 : decode cX8_expand 73 = .ok (.iload_n 3, 1) := by decide +kernel
theorem dX8_expand_74 : decode cX8_expand 74 = .ok (.iconst 4, 1) := by decide +kernel
theorem dX8_expand_75 : decode cX8_expand 75 = .ok (.invokevirtual 96, 3) := by decide +kernel
theorem dX8_expand_78 : decode cX8_expand 78 = .ok (.invokevirtual 100, 3) := by decide +kernel
theorem dX8_expand_81 : decode cX8_expand 81 = .ok (.goto 32, 3) := by decide +kernel
theorem dX8_expand_84 : decode cX8_expand 84 = .ok (.iload 4, 2) := by decide +kernel
theorem dX8_expand_86 : decode cX8_expand 86 = .ok (.iconst 4, 1) := by decide +kernel
theorem dX8_expand_87 : decode cX8_expand 87 = .ok (.if_icmp .ne 26, 3) := by decide +kernel
theorem dX8_expand_90 : decode cX8_expand 90 = .ok (.aload_n 0, 1) := by decide +kernel
theorem dX8_expand_91 : decode cX8_expand 91 = .ok (.getfield 28, 3) := by decide +kernel
theorem dX8_expand_94 : decode cX8_expand 94 = .ok (.iload_n 3, 1) := by decide +kernel
theorem dX8_expand_95 : decode cX8_expand 95 = .ok (.iload_n 2, 1) := by decide +kernel
theorem dX8_expand_96 : decode cX8_expand 96 = .ok (.invokevirtual 103, 3) := by decide +kernel
theorem dX8_expand_99 : decode cX8_expand 99 = .ok (.ifCond .eq 14, 3) := by decide +kernel
theorem dX8_expand_102 : decode cX8_expand 102 = .ok (.aload_n 0, 1) := by decide +kernel
theorem dX8_expand_103 : decode cX8_expand 103 = .ok (.iload_n 1, 1) := by decide +kernel
theorem dX8_expand_104 : decode cX8_expand 104 = .ok (.aload_n 0, 1) := by decide +kernel
theorem dX8_expand_105 : decode cX8_expand 105 = .ok (.iload_n 3, 1) := by decide +kernel
theorem dX8_expand_106 : decode cX8_expand 106 = .ok (.iload_n 2, 1) := by decide +kernel
theorem dX8_expand_107 : decode cX8_expand 107 = .ok (.invokevirtual 96, 3) := by decide +kernel
theorem dX8_expand_110 : decode cX8_expand 110 = .ok (.invokevirtual 100, 3) := by decide +kernel
theorem dX8_expand_113 : decode cX8_expand 113 = .ok (.iinc 3 1, 3) := by decide +kernel
theorem dX8_expand_116 : decode cX8_expand 116 = .ok (.goto (-114), 3) := by decide +kernel
theorem dX8_expand_119 : decode cX8_expand 119 = .ok (.return_, 1) := by decide +kernel
theorem dX8_give_0 : decode cX8_give 0 = .ok (.iload_n 3, 1) := by decide +kernel
theorem dX8_give_1 : decode cX8_give 1 = .ok (.aload_n 0, 1) := by decide +kernel
theorem dX8_give_2 : decode cX8_give 2 = .ok (.getfield 28, 3) := by decide +kernel
theorem dX8_give_5 : decode cX8_give 5 = .ok (.getfield 82, 3) := by decide +kernel
theorem dX8_give_8 : decode cX8_give 8 = .ok (.iload_n 2, 1) := by decide +kernel
theorem dX8_give_9 : decode cX8_give 9 = .ok (.iaload, 1) := by decide +kernel
theorem dX8_give_10 : decode cX8_give 10 = .ok (.if_icmp .ne 4, 3) := by decide +kernel
theorem dX8_give_13 : decode cX8_give 13 = .ok (.return_, 1) := by decide +kernel
theorem dX8_give_14 : decode cX8_give 14 = .ok (.aload_n 0, 1) := by decide +kernel
theorem dX8_give_15 : decode cX8_give 15 = .ok (.getfield 28, 3) := by decide +kernel
theorem dX8_give_18 : decode cX8_give 18 = .ok (.iload_n 2, 1) := by decide +kernel
theorem dX8_give_19 : decode cX8_give 19 = .ok (.iload_n 3, 1) := by decide +kernel
theorem dX8_give_20 : decode cX8_give 20 = .ok (.invokevirtual 107, 3) := by decide +kernel
theorem dX8_give_23 : decode cX8_give 23 = .ok (.istore 4, 2) := by decide +kernel
theorem dX8_give_25 : decode cX8_give 25 = .ok (.iload 4, 2) := by decide +kernel
theorem dX8_give_27 : decode cX8_give 27 = .ok (.bipush (-9), 2) := by decide +kernel
theorem dX8_give_29 : decode cX8_give 29 = .ok (.if_icmp .ne 4, 3) := by decide +kernel
theorem dX8_give_32 : decode cX8_give 32 = .ok (.return_, 1) := by decide +kernel
theorem dX8_give_33 : decode cX8_give 33 = .ok (.aload_n 0, 1) := by decide +kernel
theorem dX8_give_34 : decode cX8_give 34 = .ok (.iload_n 2, 1) := by decide +kernel
theorem dX8_give_35 : decode cX8_give 35 = .ok (.iload_n 3, 1) := by decide +kernel
theorem dX8_give_36 : decode cX8_give 36 = .ok (.invokevirtual 96, 3) := by decide +kernel
theorem dX8_give_39 : decode cX8_give 39 = .ok (.istore 5, 2) := by decide +kernel
theorem dX8_give_41 : decode cX8_give 41 = .ok (.iconst 0, 1) := by decide +kernel
theorem dX8_give_42 : decode cX8_give 42 = .ok (.istore 6, 2) := by decide +kernel
theorem dX8_give_44 : decode cX8_give 44 = .ok (.iload 6, 2) := by decide +kernel
theorem dX8_give_46 : decode cX8_give 46 = .ok (.aload_n 0, 1) := by decide +kernel
theorem dX8_give_47 : decode cX8_give 47 = .ok (.getfield 9, 3) := by decide +kernel
theorem dX8_give_50 : decode cX8_give 50 = .ok (.getfield 77, 3) := by decide +kernel
theorem dX8_give_53 : decode cX8_give 53 = .ok (.if_icmp .ge 31, 3) := by decide +kernel
theorem dX8_give_56 : decode cX8_give 56 = .ok (.iload 4, 2) := by decide +kernel
theorem dX8_give_58 : decode cX8_give 58 = .ok (.iload 6, 2) := by decide +kernel
theorem dX8_give_60 : decode cX8_give 60 = .ok (.ishr, 1) := by decide +kernel
theorem dX8_give_61 : decode cX8_give 61 = .ok (.iconst 1, 1) := by decide +kernel
theorem dX8_give_62 : decode cX8_give 62 = .ok (.iand, 1) := by decide +kernel
theorem dX8_give_63 : decode cX8_give 63 = .ok (.ifCond .eq 15, 3) := by decide +kernel
theorem dX8_give_66 : decode cX8_give 66 = .ok (.iload 5, 2) := by decide +kernel
theorem dX8_give_68 : decode cX8_give 68 = .ok (.aload_n 0, 1) := by decide +kernel
theorem dX8_give_69 : decode cX8_give 69 = .ok (.iload 6, 2) := by decide +kernel
theorem dX8_give_71 : decode cX8_give 71 = .ok (.iconst 4, 1) := by decide +kernel
theorem dX8_give_72 : decode cX8_give 72 = .ok (.invokevirtual 96, 3) := by decide +kernel
theorem dX8_give_75 : decode cX8_give 75 = .ok (.iadd, 1) := by decide +kernel
theorem dX8_give_76 : decode cX8_give 76 = .ok (.istore 5, 2) := by decide +kernel
theorem dX8_give_78 : decode cX8_give 78 = .ok (.iinc 6 1, 3) := by decide +kernel
theorem dX8_give_81 : decode cX8_give 81 = .ok (.goto (-37), 3) := by decide +kernel
theorem dX8_give_84 : decode cX8_give 84 = .ok (.aload_n 0, 1) := by decide +kernel
theorem dX8_give_85 : decode cX8_give 85 = .ok (.iload_n 1, 1) := by decide +kernel
theorem dX8_give_86 : decode cX8_give 86 = .ok (.iload 5, 2) := by decide +kernel
theorem dX8_give_88 : decode cX8_give 88 = .ok (.invokevirtual 100, 3) := by decide +kernel
theorem dX8_give_91 : decode cX8_give 91 = .ok (.return_, 1) := by decide +kernel
theorem dX8_shift_0 : decode cX8_shift 0 = .ok (.iload_n 2, 1) := by decide +kernel
theorem dX8_shift_1 : decode cX8_shift 1 = .ok (.aload_n 0, 1) := by decide +kernel
theorem dX8_shift_2 : decode cX8_shift 2 = .ok (.getfield 28, 3) := by decide +kernel
theorem dX8_shift_5 : decode cX8_shift 5 = .ok (.getfield 82, 3) := by decide +kernel
theorem dX8_shift_8 : decode cX8_shift 8 = .ok (.iload_n 1, 1) := by decide +kernel
theorem dX8_shift_9 : decode cX8_shift 9 = .ok (.iaload, 1) := by decide +kernel
theorem dX8_shift_10 : decode cX8_shift 10 = .ok (.isub, 1) := by decide +kernel
theorem dX8_shift_11 : decode cX8_shift 11 = .ok (.getstatic 110, 3) := by decide +kernel
theorem dX8_shift_14 : decode cX8_shift 14 = .ok (.iload_n 1, 1) := by decide +kernel
theorem dX8_shift_15 : decode cX8_shift 15 = .ok (.iaload, 1) := by decide +kernel
theorem dX8_shift_16 : decode cX8_shift 16 = .ok (.imul, 1) := by decide +kernel
theorem dX8_shift_17 : decode cX8_shift 17 = .ok (.ireturn, 1) := by decide +kernel
theorem dX8_reach_0 : decode cX8_reach 0 = .ok (.aload_n 0, 1) := by decide +kernel
theorem dX8_reach_1 : decode cX8_reach 1 = .ok (.getfield 15, 3) := by decide +kernel
theorem dX8_reach_4 : decode cX8_reach 4 = .ok (.aload_n 0, 1) := by decide +kernel
theorem dX8_reach_5 : decode cX8_reach 5 = .ok (.getfield 15, 3) := by decide +kernel
theorem dX8_reach_8 : decode cX8_reach 8 = .ok (.getfield 42, 3) := by decide +kernel
theorem dX8_reach_11 : decode cX8_reach 11 = .ok (.iload_n 1, 1) := by decide +kernel
theorem dX8_reach_12 : decode cX8_reach 12 = .ok (.iaload, 1) := by decide +kernel
theorem dX8_reach_13 : decode cX8_reach 13 = .ok (.iload_n 2, 1) := by decide +kernel
theorem dX8_reach_14 : decode cX8_reach 14 = .ok (.iadd, 1) := by decide +kernel
theorem dX8_reach_15 : decode cX8_reach 15 = .ok (.iload_n 1, 1) := by decide +kernel
theorem dX8_reach_16 : decode cX8_reach 16 = .ok (.iconst 0, 1) := by decide +kernel
theorem dX8_reach_17 : decode cX8_reach 17 = .ok (.aload_n 0, 1) := by decide +kernel
theorem dX8_reach_18 : decode cX8_reach 18 = .ok (.getfield 15, 3) := by decide +kernel
theorem dX8_reach_21 : decode cX8_reach 21 = .ok (.getfield 54, 3) := by decide +kernel
theorem dX8_reach_24 : decode cX8_reach 24 = .ok (.iload_n 1, 1) := by decide +kernel
theorem dX8_reach_25 : decode cX8_reach 25 = .ok (.iaload, 1) := by decide +kernel
theorem dX8_reach_26 : decode cX8_reach 26 = .ok (.iconst 1, 1) := by decide +kernel
theorem dX8_reach_27 : decode cX8_reach 27 = .ok (.iadd, 1) := by decide +kernel
theorem dX8_reach_28 : decode cX8_reach 28 = .ok (.invokevirtual 113, 3) := by decide +kernel
theorem dX8_reach_31 : decode cX8_reach 31 = .ok (.pop, 1) := by decide +kernel
theorem dX8_reach_32 : decode cX8_reach 32 = .ok (.return_, 1) := by decide +kernel
theorem dX9_init_0 : decode cX9_init 0 = .ok (.aload_n 0, 1) := by decide +kernel
theorem dX9_init_1 : decode cX9_init 1 = .ok (.invokespecial 3, 3) := by decide +kernel
theorem dX9_init_4 : decode cX9_init 4 = .ok (.aload_n 0, 1) := by decide +kernel
theorem dX9_init_5 : decode cX9_init 5 = .ok (.lconst 1, 1) := by decide +kernel
theorem dX9_init_6 : decode cX9_init 6 = .ok (.putfield 9, 3) := by decide +kernel
theorem dX9_init_9 : decode cX9_init 9 = .ok (.aload_n 0, 1) := by decide +kernel
theorem dX9_init_10 : decode cX9_init 10 = .ok (.bipush 6, 2) := by decide +kernel
theorem dX9_init_12 : decode cX9_init 12 = .ok (.newarray .int, 2) := by decide +kernel
theorem dX9_init_14 : decode cX9_init 14 = .ok (.putfield 15, 3) := by decide +kernel
theorem dX9_init_17 : decode cX9_init 17 = .ok (.return_, 1) := by decide +kernel
theorem dX9_tell_0 : decode cX9_tell 0 = .ok (.aload_n 0, 1) := by decide +kernel
theorem dX9_tell_1 : decode cX9_tell 1 = .ok (.iload_n 1, 1) := by decide +kernel
theorem dX9_tell_2 : decode cX9_tell 2 = .ok (.putfield 19, 3) := by decide +kernel
theorem dX9_tell_5 : decode cX9_tell 5 = .ok (.iconst 1, 1) := by decide +kernel
theorem dX9_tell_6 : decode cX9_tell 6 = .ok (.ireturn, 1) := by decide +kernel
theorem dX9_find_0 : decode cX9_find 0 = .ok (.iload_n 1, 1) := by decide +kernel
theorem dX9_find_1 : decode cX9_find 1 = .ok (.iconst 1, 1) := by decide +kernel
theorem dX9_find_2 : decode cX9_find 2 = .ok (.if_icmp .lt 8, 3) := by decide +kernel
theorem dX9_find_5 : decode cX9_find 5 = .ok (.iload_n 1, 1) := by decide +kernel
theorem dX9_find_6 : decode cX9_find 6 = .ok (.iconst 5, 1) := by decide +kernel
theorem dX9_find_7 : decode cX9_find 7 = .ok (.if_icmp .le 6, 3) := by decide +kernel
theorem dX9_find_10 : decode cX9_find 10 = .ok (.bipush (-3), 2) := by decide +kernel
theorem dX9_find_12 : decode cX9_find 12 = .ok (.ireturn, 1) := by decide +kernel
theorem dX9_find_13 : decode cX9_find 13 = .ok (.aload_n 0, 1) := by decide +kernel
theorem dX9_find_14 : decode cX9_find 14 = .ok (.iload_n 1, 1) := by decide +kernel
theorem dX9_find_15 : decode cX9_find 15 = .ok (.putfield 23, 3) := by decide +kernel
theorem dX9_find_18 : decode cX9_find 18 = .ok (.aload_n 0, 1) := by decide +kernel
theorem dX9_find_19 : decode cX9_find 19 = .ok (.getfield 15, 3) := by decide +kernel
theorem dX9_find_22 : decode cX9_find 22 = .ok (.iload_n 1, 1) := by decide +kernel
theorem dX9_find_23 : decode cX9_find 23 = .ok (.dup2, 1) := by decide +kernel
theorem dX9_find_24 : decode cX9_find 24 = .ok (.iaload, 1) := by decide +kernel
theorem dX9_find_25 : decode cX9_find 25 = .ok (.iconst 1, 1) := by decide +kernel
theorem dX9_find_26 : decode cX9_find 26 = .ok (.iadd, 1) := by decide +kernel
theorem dX9_find_27 : decode cX9_find 27 = .ok (.iastore, 1) := by decide +kernel
theorem dX9_find_28 : decode cX9_find 28 = .ok (.bipush (-3), 2) := by decide +kernel
theorem dX9_find_30 : decode cX9_find 30 = .ok (.ireturn, 1) := by decide +kernel
theorem dX9_tellFraction_0 : decode cX9_tellFraction 0 = .ok (.iload_n 2, 1) := by decide +kernel
theorem dX9_tellFraction_1 : decode cX9_tellFraction 1 = .ok (.istore_n 3, 1) := by decide +kernel
theorem dX9_tellFraction_2 : decode cX9_tellFraction 2 = .ok (.iload_n 1, 1) := by decide +kernel
theorem dX9_tellFraction_3 : decode cX9_tellFraction 3 = .ok (.istore 4, 2) := by decide +kernel
theorem dX9_tellFraction_5 : decode cX9_tellFraction 5 = .ok (.iconst 0, 1) := by decide +kernel
theorem dX9_tellFraction_6 : decode cX9_tellFraction 6 = .ok (.istore 5, 2) := by decide +kernel
theorem dX9_tellFraction_8 : decode cX9_tellFraction 8 = .ok (.iload 5, 2) := by decide +kernel
theorem dX9_tellFraction_10 : decode cX9_tellFraction 10 = .ok (.bipush 64, 2) := by decide +kernel
theorem dX9_tellFraction_12 : decode cX9_tellFraction 12 = .ok (.if_icmp .ge 27, 3) := by decide +kernel
theorem dX9_tellFraction_15 : decode cX9_tellFraction 15 = .ok (.iload 4, 2) := by decide +kernel
theorem dX9_tellFraction_17 : decode cX9_tellFraction 17 = .ok (.ifCond .eq 22, 3) := by decide +kernel
theorem dX9_tellFraction_20 : decode cX9_tellFraction 20 = .ok (.iload_n 3, 1) := by decide +kernel
theorem dX9_tellFraction_21 : decode cX9_tellFraction 21 = .ok (.iload 4, 2) := by decide +kernel
theorem dX9_tellFraction_23 : decode cX9_tellFraction 23 = .ok (.irem, 1) := by decide +kernel
theorem dX9_tellFraction_24 : decode cX9_tellFraction 24 = .ok (.istore 6, 2) := by decide +kernel
theorem dX9_tellFraction_26 : decode cX9_tellFraction 26 = .ok (.iload 4, 2) := by decide +kernel
theorem dX9_tellFraction_28 : decode cX9_tellFraction 28 = .ok (.istore_n 3, 1) := by decide +kernel
theorem dX9_tellFraction_29 : decode cX9_tellFraction 29 = .ok (.iload 6, 2) := by decide +kernel
theorem dX9_tellFraction_31 : decode cX9_tellFraction 31 = .ok (.istore 4, 2) := by decide +kernel
theorem dX9_tellFraction_33 : decode cX9_tellFraction 33 = .ok (.iinc 5 1, 3) := by decide +kernel
theorem dX9_tellFraction_36 : decode cX9_tellFraction 36 = .ok (.goto (-28), 3) := by decide +kernel
theorem dX9_tellFraction_39 : decode cX9_tellFraction 39 = .ok (.iload_n 3, 1) := by decide +kernel
theorem dX9_tellFraction_40 : decode cX9_tellFraction 40 = .ok (.ifCond .ne 4, 3) := by decide +kernel
theorem dX9_tellFraction_43 : decode cX9_tellFraction 43 = .ok (.return_, 1) := by decide +kernel
theorem dX9_tellFraction_44 : decode cX9_tellFraction 44 = .ok (.aload_n 0, 1) := by decide +kernel
theorem dX9_tellFraction_45 : decode cX9_tellFraction 45 = .ok (.iload_n 1, 1) := by decide +kernel
theorem dX9_tellFraction_46 : decode cX9_tellFraction 46 = .ok (.iload_n 3, 1) := by decide +kernel
theorem dX9_tellFraction_47 : decode cX9_tellFraction 47 = .ok (.idiv, 1) := by decide +kernel
theorem dX9_tellFraction_48 : decode cX9_tellFraction 48 = .ok (.i2l, 1) := by decide +kernel
theorem dX9_tellFraction_49 : decode cX9_tellFraction 49 = .ok (.putfield 26, 3) := by decide +kernel
theorem dX9_tellFraction_52 : decode cX9_tellFraction 52 = .ok (.aload_n 0, 1) := by decide +kernel
theorem dX9_tellFraction_53 : decode cX9_tellFraction 53 = .ok (.iload_n 2, 1) := by decide +kernel
theorem dX9_tellFraction_54 : decode cX9_tellFraction 54 = .ok (.iload_n 3, 1) := by decide +kernel
theorem dX9_tellFraction_55 : decode cX9_tellFraction 55 = .ok (.idiv, 1) := by decide +kernel
theorem dX9_tellFraction_56 : decode cX9_tellFraction 56 = .ok (.i2l, 1) := by decide +kernel
theorem dX9_tellFraction_57 : decode cX9_tellFraction 57 = .ok (.putfield 9, 3) := by decide +kernel
theorem dX9_tellFraction_60 : decode cX9_tellFraction 60 = .ok (.return_, 1) := by decide +kernel
theorem dX10_init_0 : decode cX10_init 0 = .ok (.aload_n 0, 1) := by decide +kernel
theorem dX10_init_1 : decode cX10_init 1 = .ok (.invokespecial 1, 3) := by decide +kernel
theorem dX10_init_4 : decode cX10_init 4 = .ok (.aload_n 0, 1) := by decide +kernel
theorem dX10_init_5 : decode cX10_init 5 = .ok (.new 7, 3) := by decide +kernel
theorem dX10_init_8 : decode cX10_init 8 = .ok (.dup, 1) := by decide +kernel
theorem dX10_init_9 : decode cX10_init 9 = .ok (.invokespecial 9, 3) := by decide +kernel
theorem dX10_init_12 : decode cX10_init 12 = .ok (.putfield 10, 3) := by decide +kernel
theorem dX10_init_15 : decode cX10_init 15 = .ok (.aload_n 0, 1) := by decide +kernel
theorem dX10_init_16 : decode cX10_init 16 = .ok (.new 16, 3) := by decide +kernel
theorem dX10_init_19 : decode cX10_init 19 = .ok (.dup, 1) := by decide +kernel
theorem dX10_init_20 : decode cX10_init 20 = .ok (.bipush 6, 2) := by decide +kernel
theorem dX10_init_22 : decode cX10_init 22 = .ok (.bipush 60, 2) := by decide +kernel
theorem dX10_init_24 : decode cX10_init 24 = .ok (.invokespecial 18, 3) := by decide +kernel
theorem dX10_init_27 : decode cX10_init 27 = .ok (.putfield 21, 3) := by decide +kernel
theorem dX10_init_30 : decode cX10_init 30 = .ok (.aload_n 0, 1) := by decide +kernel
theorem dX10_init_31 : decode cX10_init 31 = .ok (.new 16, 3) := by decide +kernel
theorem dX10_init_34 : decode cX10_init 34 = .ok (.dup, 1) := by decide +kernel
theorem dX10_init_35 : decode cX10_init 35 = .ok (.iconst 4, 1) := by decide +kernel
theorem dX10_init_36 : decode cX10_init 36 = .ok (.bipush 100, 2) := by decide +kernel
theorem dX10_init_38 : decode cX10_init 38 = .ok (.invokespecial 18, 3) := by decide +kernel
theorem dX10_init_41 : decode cX10_init 41 = .ok (.putfield 25, 3) := by decide +kernel
theorem dX10_init_44 : decode cX10_init 44 = .ok (.aload_n 0, 1) := by decide +kernel
theorem dX10_init_45 : decode cX10_init 45 = .ok (.new 28, 3) := by decide +kernel
theorem dX10_init_48 : decode cX10_init 48 = .ok (.dup, 1) := by decide +kernel
theorem dX10_init_49 : decode cX10_init 49 = .ok (.aload_n 0, 1) := by decide +kernel
theorem dX10_init_50 : decode cX10_init 50 = .ok (.getfield 25, 3) := by decide +kernel
theorem dX10_init_53 : decode cX10_init 53 = .ok (.invokespecial 30, 3) := by decide +kernel
theorem dX10_init_56 : decode cX10_init 56 = .ok (.putfield 33, 3) := by decide +kernel
theorem dX10_init_59 : decode cX10_init 59 = .ok (.aload_n 0, 1) := by decide +kernel
theorem dX10_init_60 : decode cX10_init 60 = .ok (.new 37, 3) := by decide +kernel
theorem dX10_init_63 : decode cX10_init 63 = .ok (.dup, 1) := by decide +kernel
theorem dX10_init_64 : decode cX10_init 64 = .ok (.invokespecial 39, 3) := by decide +kernel
theorem dX10_init_67 : decode cX10_init 67 = .ok (.putfield 40, 3) := by decide +kernel
theorem dX10_init_70 : decode cX10_init 70 = .ok (.aload_n 0, 1) := by decide +kernel
theorem dX10_init_71 : decode cX10_init 71 = .ok (.new 44, 3) := by decide +kernel
theorem dX10_init_74 : decode cX10_init 74 = .ok (.dup, 1) := by decide +kernel
theorem dX10_init_75 : decode cX10_init 75 = .ok (.aload_n 0, 1) := by decide +kernel
theorem dX10_init_76 : decode cX10_init 76 = .ok (.getfield 40, 3) := by decide +kernel
theorem dX10_init_79 : decode cX10_init 79 = .ok (.invokespecial 46, 3) := by decide +kernel
theorem dX10_init_82 : decode cX10_init 82 = .ok (.putfield 49, 3) := by decide +kernel
theorem dX10_init_85 : decode cX10_init 85 = .ok (.aload_n 0, 1) := by decide +kernel
theorem dX10_init_86 : decode cX10_init 86 = .ok (.new 44, 3) := by decide +kernel
theorem dX10_init_89 : decode cX10_init 89 = .ok (.dup, 1) := by decide +kernel
theorem dX10_init_90 : decode cX10_init 90 = .ok (.aload_n 0, 1) := by decide +kernel
theorem dX10_init_91 : decode cX10_init 91 = .ok (.getfield 40, 3) := by decide +kernel
theorem dX10_init_94 : decode cX10_init 94 = .ok (.invokespecial 46, 3) := by decide +kernel
theorem dX10_init_97 : decode cX10_init 97 = .ok (.putfield 53, 3) := by decide +kernel
theorem dX10_init_100 : decode cX10_init 100 = .ok (.aload_n 0, 1) := by decide +kernel
theorem dX10_init_101 : decode cX10_init 101 = .ok (.new 56, 3) := by decide +kernel
theorem dX10_init_104 : decode cX10_init 104 = .ok (.dup, 1) := by decide +kernel
theorem dX10_init_105 : decode cX10_init 105 = .ok (.bipush 40, 2) := by decide +kernel
theorem dX10_init_107 : decode cX10_init 107 = .ok (.invokespecial 58, 3) := by decide +kernel
theorem dX10_init_110 : decode cX10_init 110 = .ok (.putfield 61, 3) := by decide +kernel
theorem dX10_init_113 : decode cX10_init 113 = .ok (.aload_n 0, 1) := by decide +kernel
theorem dX10_init_114 : decode cX10_init 114 = .ok (.new 56, 3) := by decide +kernel
theorem dX10_init_117 : decode cX10_init 117 = .ok (.dup, 1) := by decide +kernel
theorem dX10_init_118 : decode cX10_init 118 = .ok (.bipush 8, 2) := by decide +kernel
theorem dX10_init_120 : decode cX10_init 120 = .ok (.invokespecial 58, 3) := by decide +kernel
theorem dX10_init_123 : decode cX10_init 123 = .ok (.putfield 65, 3) := by decide +kernel
theorem dX10_init_126 : decode cX10_init 126 = .ok (.aload_n 0, 1) := by decide +kernel
theorem dX10_init_127 : decode cX10_init 127 = .ok (.iconst 3, 1) := by decide +kernel
theorem dX10_init_128 : decode cX10_init 128 = .ok (.newarray .int, 2) := by decide +kernel
theorem dX10_init_130 : decode cX10_init 130 = .ok (.putfield 68, 3) := by decide +kernel
theorem dX10_init_133 : decode cX10_init 133 = .ok (.aload_n 0, 1) := by decide +kernel
theorem dX10_init_134 : decode cX10_init 134 = .ok (.iconst 3, 1) := by decide +kernel
theorem dX10_init_135 : decode cX10_init 135 = .ok (.newarray .int, 2) := by decide +kernel
theorem dX10_init_137 : decode cX10_init 137 = .ok (.putfield 72, 3) := by decide +kernel
theorem dX10_init_140 : decode cX10_init 140 = .ok (.new 75, 3) := by decide +kernel
theorem dX10_init_143 : decode cX10_init 143 = .ok (.dup, 1) := by decide +kernel
theorem dX10_init_144 : decode cX10_init 144 = .ok (.invokespecial 77, 3) := by decide +kernel
theorem dX10_init_147 : decode cX10_init 147 = .ok (.astore_n 1, 1) := by decide +kernel
theorem dX10_init_148 : decode cX10_init 148 = .ok (.aload_n 0, 1) := by decide +kernel
theorem dX10_init_149 : decode cX10_init 149 = .ok (.new 78, 3) := by decide +kernel
theorem dX10_init_152 : decode cX10_init 152 = .ok (.dup, 1) := by decide +kernel
theorem dX10_init_153 : decode cX10_init 153 = .ok (.aload_n 0, 1) := by decide +kernel
theorem dX10_init_154 : decode cX10_init 154 = .ok (.getfield 40, 3) := by decide +kernel
theorem dX10_init_157 : decode cX10_init 157 = .ok (.aload_n 1, 1) := by decide +kernel
theorem dX10_init_158 : decode cX10_init 158 = .ok (.invokespecial 80, 3) := by decide +kernel
theorem dX10_init_161 : decode cX10_init 161 = .ok (.putfield 83, 3) := by decide +kernel
theorem dX10_init_164 : decode cX10_init 164 = .ok (.aload_n 0, 1) := by decide +kernel
theorem dX10_init_165 : decode cX10_init 165 = .ok (.new 87, 3) := by decide +kernel
theorem dX10_init_168 : decode cX10_init 168 = .ok (.dup, 1) := by decide +kernel
theorem dX10_init_169 : decode cX10_init 169 = .ok (.aload_n 0, 1) := by decide +kernel
theorem dX10_init_170 : decode cX10_init 170 = .ok (.getfield 40, 3) := by decide +kernel
theorem dX10_init_173 : decode cX10_init 173 = .ok (.aload_n 0, 1) := by decide +kernel
theorem dX10_init_174 : decode cX10_init 174 = .ok (.getfield 83, 3) := by decide +kernel
theorem dX10_init_177 : decode cX10_init 177 = .ok (.invokespecial 89, 3) := by decide +kernel
theorem dX10_init_180 : decode cX10_init 180 = .ok (.putfield 92, 3) := by decide +kernel
theorem dX10_init_183 : decode cX10_init 183 = .ok (.aload_n 0, 1) := by decide +kernel
theorem dX10_init_184 : decode cX10_init 184 = .ok (.new 96, 3) := by decide +kernel
theorem dX10_init_187 : decode cX10_init 187 = .ok (.dup, 1) := by decide +kernel
theorem dX10_init_188 : decode cX10_init 188 = .ok (.aload_n 0, 1) := by decide +kernel
theorem dX10_init_189 : decode cX10_init 189 = .ok (.getfield 40, 3) := by decide +kernel
theorem dX10_init_192 : decode cX10_init 192 = .ok (.aload_n 1, 1) := by decide +kernel
theorem dX10_init_193 : decode cX10_init 193 = .ok (.aload_n 0, 1) := by decide +kernel
theorem dX10_init_194 : decode cX10_init 194 = .ok (.getfield 83, 3) := by decide +kernel
theorem dX10_init_197 : decode cX10_init 197 = .ok (.invokespecial 98, 3) := by decide +kernel
theorem dX10_init_200 : decode cX10_init 200 = .ok (.putfield 101, 3) := by decide +kernel
theorem dX10_init_203 : decode cX10_init 203 = .ok (.return_, 1) := by decide +kernel
theorem dX10_row_0 : decode cX10_row 0 = .ok (.aload_n 0, 1) := by decide +kernel
theorem dX10_row_1 : decode cX10_row 1 = .ok (.getfield 21, 3) := by decide +kernel
theorem dX10_row_4 : decode cX10_row 4 = .ok (.iload_n 1, 1) := by decide +kernel
theorem dX10_row_5 : decode cX10_row 5 = .ok (.invokevirtual 105, 3) := by decide +kernel
theorem dX10_row_8 : decode cX10_row 8 = .ok (.ifCond .eq 9, 3) := by decide +kernel
theorem dX10_row_11 : decode cX10_row 11 = .ok (.iload_n 2, 1) := by decide +kernel
theorem dX10_row_12 : decode cX10_row 12 = .ok (.bipush 60, 2) := by decide +kernel
theorem dX10_row_14 : decode cX10_row 14 = .ok (.if_icmp .le 5, 3) := by decide +kernel
theorem dX10_row_17 : decode cX10_row 17 = .ok (.iconst (-1), 1) := by decide +kernel
theorem dX10_row_18 : decode cX10_row 18 = .ok (.ireturn, 1) := by decide +kernel
theorem dX10_row_19 : decode cX10_row 19 = .ok (.iload_n 2, 1) := by decide +kernel
theorem dX10_row_20 : decode cX10_row 20 = .ok (.ifCond .ge 12, 3) := by decide +kernel
theorem dX10_row_23 : decode cX10_row 23 = .ok (.aload_n 0, 1) := by decide +kernel
theorem dX10_row_24 : decode cX10_row 24 = .ok (.getfield 10, 3) := by decide +kernel
theorem dX10_row_27 : decode cX10_row 27 = .ok (.iconst 5, 1) := by decide +kernel
theorem dX10_row_28 : decode cX10_row 28 = .ok (.invokevirtual 109, 3) := by decide +kernel
theorem dX10_row_31 : decode cX10_row 31 = .ok (.ireturn, 1) := by decide +kernel
theorem dX10_row_32 : decode cX10_row 32 = .ok (.aload_n 0, 1) := by decide +kernel
theorem dX10_row_33 : decode cX10_row 33 = .ok (.getfield 21, 3) := by decide +kernel
theorem dX10_row_36 : decode cX10_row 36 = .ok (.iload_n 1, 1) := by decide +kernel
theorem dX10_row_37 : decode cX10_row 37 = .ok (.iload_n 2, 1) := by decide +kernel
theorem dX10_row_38 : decode cX10_row 38 = .ok (.iconst 0, 1) := by decide +kernel
theorem dX10_row_39 : decode cX10_row 39 = .ok (.invokevirtual 113, 3) := by decide +kernel
theorem dX10_row_42 : decode cX10_row 42 = .ok (.iload_n 2, 1) := by decide +kernel
theorem dX10_row_43 : decode cX10_row 43 = .ok (.ireturn, 1) := by decide +kernel
theorem dX10_lay_0 : decode cX10_lay 0 = .ok (.aload_n 0, 1) := by decide +kernel
theorem dX10_lay_1 : decode cX10_lay 1 = .ok (.getfield 21, 3) := by decide +kernel
theorem dX10_lay_4 : decode cX10_lay 4 = .ok (.iload_n 1, 1) := by decide +kernel
theorem dX10_lay_5 : decode cX10_lay 5 = .ok (.invokevirtual 105, 3) := by decide +kernel
theorem dX10_lay_8 : decode cX10_lay 8 = .ok (.ifCond .ne 5, 3) := by decide +kernel
theorem dX10_lay_11 : decode cX10_lay 11 = .ok (.iconst (-1), 1) := by decide +kernel
theorem dX10_lay_12 : decode cX10_lay 12 = .ok (.ireturn, 1) := by decide +kernel
theorem dX10_lay_13 : decode cX10_lay 13 = .ok (.aload_n 0, 1) := by decide +kernel
theorem dX10_lay_14 : decode cX10_lay 14 = .ok (.getfield 21, 3) := by decide +kernel
theorem dX10_lay_17 : decode cX10_lay 17 = .ok (.iload_n 1, 1) := by decide +kernel
theorem dX10_lay_18 : decode cX10_lay 18 = .ok (.invokevirtual 117, 3) := by decide +kernel
theorem dX10_lay_21 : decode cX10_lay 21 = .ok (.ifCond .eq 12, 3) := by decide +kernel
theorem dX10_lay_24 : decode cX10_lay 24 = .ok (.aload_n 0, 1) := by decide +kernel
theorem dX10_lay_25 : decode cX10_lay 25 = .ok (.getfield 10, 3) := by decide +kernel
theorem dX10_lay_28 : decode cX10_lay 28 = .ok (.iconst 1, 1) := by decide +kernel
theorem dX10_lay_29 : decode cX10_lay 29 = .ok (.invokevirtual 109, 3) := by decide +kernel
theorem dX10_lay_32 : decode cX10_lay 32 = .ok (.ireturn, 1) := by decide +kernel
theorem dX10_lay_33 : decode cX10_lay 33 = .ok (.aload_n 0, 1) := by decide +kernel
theorem dX10_lay_34 : decode cX10_lay 34 = .ok (.getfield 21, 3) := by decide +kernel
theorem dX10_lay_37 : decode cX10_lay 37 = .ok (.iload_n 1, 1) := by decide +kernel
theorem dX10_lay_38 : decode cX10_lay 38 = .ok (.iload_n 2, 1) := by decide +kernel
theorem dX10_lay_39 : decode cX10_lay 39 = .ok (.iconst 1, 1) := by decide +kernel
theorem dX10_lay_40 : decode cX10_lay 40 = .ok (.invokevirtual 120, 3) := by decide +kernel
theorem dX10_lay_43 : decode cX10_lay 43 = .ok (.ifCond .ne 12, 3) := by decide +kernel
theorem dX10_lay_46 : decode cX10_lay 46 = .ok (.aload_n 0, 1) := by decide +kernel
theorem dX10_lay_47 : decode cX10_lay 47 = .ok (.getfield 10, 3) := by decide +kernel
theorem dX10_lay_50 : decode cX10_lay 50 = .ok (.iconst 2, 1) := by decide +kernel
theorem dX10_lay_51 : decode cX10_lay 51 = .ok (.invokevirtual 109, 3) := by decide +kernel
theorem dX10_lay_54 : decode cX10_lay 54 = .ok (.ireturn, 1) := by decide +kernel
theorem dX10_lay_55 : decode cX10_lay 55 = .ok (.aload_n 0, 1) := by decide +kernel
theorem dX10_lay_56 : decode cX10_lay 56 = .ok (.getfield 21, 3) := by decide +kernel
theorem dX10_lay_59 : decode cX10_lay 59 = .ok (.iload_n 1, 1) := by decide +kernel
theorem dX10_lay_60 : decode cX10_lay 60 = .ok (.iload_n 2, 1) := by decide +kernel
theorem dX10_lay_61 : decode cX10_lay 61 = .ok (.invokevirtual 124, 3) := by decide +kernel
theorem dX10_lay_64 : decode cX10_lay 64 = .ok (.istore 4, 2) := by decide +kernel
theorem dX10_lay_66 : decode cX10_lay 66 = .ok (.aload_n 0, 1) := by decide +kernel
theorem dX10_lay_67 : decode cX10_lay 67 = .ok (.getfield 21, 3) := by decide +kernel
theorem dX10_lay_70 : decode cX10_lay 70 = .ok (.iload_n 1, 1) := by decide +kernel
theorem dX10_lay_71 : decode cX10_lay 71 = .ok (.iload_n 2, 1) := by decide +kernel
theorem dX10_lay_72 : decode cX10_lay 72 = .ok (.iload_n 3, 1) := by decide +kernel
theorem dX10_lay_73 : decode cX10_lay 73 = .ok (.invokevirtual 128, 3) := by decide +kernel
theorem dX10_lay_76 : decode cX10_lay 76 = .ok (.aload_n 0, 1) := by decide +kernel
theorem dX10_lay_77 : decode cX10_lay 77 = .ok (.getfield 10, 3) := by decide +kernel
theorem dX10_lay_80 : decode cX10_lay 80 = .ok (.iload 4, 2) := by decide +kernel
theorem dX10_lay_82 : decode cX10_lay 82 = .ok (.invokevirtual 131, 3) := by decide +kernel
theorem dX10_lay_85 : decode cX10_lay 85 = .ok (.ireturn, 1) := by decide +kernel
theorem dX10_at_0 : decode cX10_at 0 = .ok (.aload_n 0, 1) := by decide +kernel
theorem dX10_at_1 : decode cX10_at 1 = .ok (.getfield 21, 3) := by decide +kernel
theorem dX10_at_4 : decode cX10_at 4 = .ok (.iload_n 1, 1) := by decide +kernel
theorem dX10_at_5 : decode cX10_at 5 = .ok (.invokevirtual 105, 3) := by decide +kernel
theorem dX10_at_8 : decode cX10_at 8 = .ok (.ifCond .ne 5, 3) := by decide +kernel
theorem dX10_at_11 : decode cX10_at 11 = .ok (.iconst (-1), 1) := by decide +kernel
theorem dX10_at_12 : decode cX10_at 12 = .ok (.ireturn, 1) := by decide +kernel
theorem dX10_at_13 : decode cX10_at 13 = .ok (.aload_n 0, 1) := by decide +kernel
theorem dX10_at_14 : decode cX10_at 14 = .ok (.getfield 21, 3) := by decide +kernel
theorem dX10_at_17 : decode cX10_at 17 = .ok (.iload_n 1, 1) := by decide +kernel
theorem dX10_at_18 : decode cX10_at 18 = .ok (.invokevirtual 117, 3) := by decide +kernel
theorem dX10_at_21 : decode cX10_at 21 = .ok (.ifCond .eq 12, 3) := by decide +kernel
theorem dX10_at_24 : decode cX10_at 24 = .ok (.aload_n 0, 1) := by decide +kernel
theorem dX10_at_25 : decode cX10_at 25 = .ok (.getfield 10, 3) := by decide +kernel
theorem dX10_at_28 : decode cX10_at 28 = .ok (.iconst 1, 1) := by decide +kernel
theorem dX10_at_29 : decode cX10_at 29 = .ok (.invokevirtual 109, 3) := by decide +kernel
theorem dX10_at_32 : decode cX10_at 32 = .ok (.ireturn, 1) := by decide +kernel
theorem dX10_at_33 : decode cX10_at 33 = .ok (.aload_n 0, 1) := by decide +kernel
theorem dX10_at_34 : decode cX10_at 34 = .ok (.getfield 21, 3) := by decide +kernel
theorem dX10_at_37 : decode cX10_at 37 = .ok (.iload_n 1, 1) := by decide +kernel
theorem dX10_at_38 : decode cX10_at 38 = .ok (.iload_n 2, 1) := by decide +kernel
theorem dX10_at_39 : decode cX10_at 39 = .ok (.iconst 1, 1) := by decide +kernel
theorem dX10_at_40 : decode cX10_at 40 = .ok (.invokevirtual 120, 3) := by decide +kernel
theorem dX10_at_43 : decode cX10_at 43 = .ok (.ifCond .ne 12, 3) := by decide +kernel
theorem dX10_at_46 : decode cX10_at 46 = .ok (.aload_n 0, 1) := by decide +kernel
theorem dX10_at_47 : decode cX10_at 47 = .ok (.getfield 10, 3) := by decide +kernel
theorem dX10_at_50 : decode cX10_at 50 = .ok (.iconst 2, 1) := by decide +kernel
theorem dX10_at_51 : decode cX10_at 51 = .ok (.invokevirtual 109, 3) := by decide +kernel
theorem dX10_at_54 : decode cX10_at 54 = .ok (.ireturn, 1) := by decide +kernel
theorem dX10_at_55 : decode cX10_at 55 = .ok (.aload_n 0, 1) := by decide +kernel
theorem dX10_at_56 : decode cX10_at 56 = .ok (.getfield 10, 3) := by decide +kernel
theorem dX10_at_59 : decode cX10_at 59 = .ok (.aload_n 0, 1) := by decide +kernel
theorem dX10_at_60 : decode cX10_at 60 = .ok (.getfield 21, 3) := by decide +kernel
theorem dX10_at_63 : decode cX10_at 63 = .ok (.iload_n 1, 1) := by decide +kernel
theorem dX10_at_64 : decode cX10_at 64 = .ok (.iload_n 2, 1) := by decide +kernel
theorem dX10_at_65 : decode cX10_at 65 = .ok (.invokevirtual 124, 3) := by decide +kernel
theorem dX10_at_68 : decode cX10_at 68 = .ok (.invokevirtual 131, 3) := by decide +kernel
theorem dX10_at_71 : decode cX10_at 71 = .ok (.ireturn, 1) := by decide +kernel
theorem dX10_tear_0 : decode cX10_tear 0 = .ok (.aload_n 0, 1) := by decide +kernel
theorem dX10_tear_1 : decode cX10_tear 1 = .ok (.getfield 21, 3) := by decide +kernel
theorem dX10_tear_4 : decode cX10_tear 4 = .ok (.iload_n 1, 1) := by decide +kernel
theorem dX10_tear_5 : decode cX10_tear 5 = .ok (.invokevirtual 105, 3) := by decide +kernel
theorem dX10_tear_8 : decode cX10_tear 8 = .ok (.ifCond .ne 5, 3) := by decide +kernel
theorem dX10_tear_11 : decode cX10_tear 11 = .ok (.iconst (-1), 1) := by decide +kernel
theorem dX10_tear_12 : decode cX10_tear 12 = .ok (.ireturn, 1) := by decide +kernel
theorem dX10_tear_13 : decode cX10_tear 13 = .ok (.aload_n 0, 1) := by decide +kernel
theorem dX10_tear_14 : decode cX10_tear 14 = .ok (.getfield 21, 3) := by decide +kernel
theorem dX10_tear_17 : decode cX10_tear 17 = .ok (.iload_n 1, 1) := by decide +kernel
theorem dX10_tear_18 : decode cX10_tear 18 = .ok (.invokevirtual 117, 3) := by decide +kernel
theorem dX10_tear_21 : decode cX10_tear 21 = .ok (.ifCond .eq 12, 3) := by decide +kernel
theorem dX10_tear_24 : decode cX10_tear 24 = .ok (.aload_n 0, 1) := by decide +kernel
theorem dX10_tear_25 : decode cX10_tear 25 = .ok (.getfield 10, 3) := by decide +kernel
theorem dX10_tear_28 : decode cX10_tear 28 = .ok (.iconst 1, 1) := by decide +kernel
theorem dX10_tear_29 : decode cX10_tear 29 = .ok (.invokevirtual 109, 3) := by decide +kernel
theorem dX10_tear_32 : decode cX10_tear 32 = .ok (.ireturn, 1) := by decide +kernel
theorem dX10_tear_33 : decode cX10_tear 33 = .ok (.aload_n 0, 1) := by decide +kernel
theorem dX10_tear_34 : decode cX10_tear 34 = .ok (.getfield 21, 3) := by decide +kernel
theorem dX10_tear_37 : decode cX10_tear 37 = .ok (.iload_n 1, 1) := by decide +kernel
theorem dX10_tear_38 : decode cX10_tear 38 = .ok (.invokevirtual 134, 3) := by decide +kernel
theorem dX10_tear_41 : decode cX10_tear 41 = .ok (.iconst 1, 1) := by decide +kernel
theorem dX10_tear_42 : decode cX10_tear 42 = .ok (.ireturn, 1) := by decide +kernel
theorem dX10_copy_0 : decode cX10_copy 0 = .ok (.aload_n 0, 1) := by decide +kernel
theorem dX10_copy_1 : decode cX10_copy 1 = .ok (.getfield 21, 3) := by decide +kernel
theorem dX10_copy_4 : decode cX10_copy 4 = .ok (.iload_n 1, 1) := by decide +kernel
theorem dX10_copy_5 : decode cX10_copy 5 = .ok (.invokevirtual 105, 3) := by decide +kernel
theorem dX10_copy_8 : decode cX10_copy 8 = .ok (.ifCond .eq 14, 3) := by decide +kernel
theorem dX10_copy_11 : decode cX10_copy 11 = .ok (.aload_n 0, 1) := by decide +kernel
theorem dX10_copy_12 : decode cX10_copy 12 = .ok (.getfield 21, 3) := by decide +kernel
theorem dX10_copy_15 : decode cX10_copy 15 = .ok (.iload_n 3, 1) := by decide +kernel
theorem dX10_copy_16 : decode cX10_copy 16 = .ok (.invokevirtual 105, 3) := by decide +kernel
theorem dX10_copy_19 : decode cX10_copy 19 = .ok (.ifCond .ne 5, 3) := by decide +kernel
theorem dX10_copy_22 : decode cX10_copy 22 = .ok (.iconst (-1), 1) := by decide +kernel
theorem dX10_copy_23 : decode cX10_copy 23 = .ok (.ireturn, 1) := by decide +kernel
theorem dX10_copy_24 : decode cX10_copy 24 = .ok (.iload 5, 2) := by decide +kernel
theorem dX10_copy_26 : decode cX10_copy 26 = .ok (.ifCond .ge 12, 3) := by decide +kernel
theorem dX10_copy_29 : decode cX10_copy 29 = .ok (.aload_n 0, 1) := by decide +kernel
theorem dX10_copy_30 : decode cX10_copy 30 = .ok (.getfield 10, 3) := by decide +kernel
theorem dX10_copy_33 : decode cX10_copy 33 = .ok (.iconst 5, 1) := by decide +kernel
theorem dX10_copy_34 : decode cX10_copy 34 = .ok (.invokevirtual 109, 3) := by decide +kernel
theorem dX10_copy_37 : decode cX10_copy 37 = .ok (.ireturn, 1) := by decide +kernel
theorem dX10_copy_38 : decode cX10_copy 38 = .ok (.aload_n 0, 1) := by decide +kernel
theorem dX10_copy_39 : decode cX10_copy 39 = .ok (.getfield 21, 3) := by decide +kernel
theorem dX10_copy_42 : decode cX10_copy 42 = .ok (.iload_n 1, 1) := by decide +kernel
theorem dX10_copy_43 : decode cX10_copy 43 = .ok (.invokevirtual 117, 3) := by decide +kernel
theorem dX10_copy_46 : decode cX10_copy 46 = .ok (.ifCond .ne 14, 3) := by decide +kernel
theorem dX10_copy_49 : decode cX10_copy 49 = .ok (.aload_n 0, 1) := by decide +kernel
theorem dX10_copy_50 : decode cX10_copy 50 = .ok (.getfield 21, 3) := by decide +kernel
theorem dX10_copy_53 : decode cX10_copy 53 = .ok (.iload_n 3, 1) := by decide +kernel
theorem dX10_copy_54 : decode cX10_copy 54 = .ok (.invokevirtual 117, 3) := by decide +kernel
theorem dX10_copy_57 : decode cX10_copy 57 = .ok (.ifCond .eq 12, 3) := by decide +kernel
theorem dX10_copy_60 : decode cX10_copy 60 = .ok (.aload_n 0, 1) := by decide +kernel
theorem dX10_copy_61 : decode cX10_copy 61 = .ok (.getfield 10, 3) := by decide +kernel
theorem dX10_copy_64 : decode cX10_copy 64 = .ok (.iconst 1, 1) := by decide +kernel
theorem dX10_copy_65 : decode cX10_copy 65 = .ok (.invokevirtual 109, 3) := by decide +kernel
theorem dX10_copy_68 : decode cX10_copy 68 = .ok (.ireturn, 1) := by decide +kernel
theorem dX10_copy_69 : decode cX10_copy 69 = .ok (.aload_n 0, 1) := by decide +kernel
theorem dX10_copy_70 : decode cX10_copy 70 = .ok (.getfield 21, 3) := by decide +kernel
theorem dX10_copy_73 : decode cX10_copy 73 = .ok (.iload_n 1, 1) := by decide +kernel
theorem dX10_copy_74 : decode cX10_copy 74 = .ok (.iload_n 2, 1) := by decide +kernel
theorem dX10_copy_75 : decode cX10_copy 75 = .ok (.iload 5, 2) := by decide +kernel
theorem dX10_copy_77 : decode cX10_copy 77 = .ok (.invokevirtual 120, 3) := by decide +kernel
theorem dX10_copy_80 : decode cX10_copy 80 = .ok (.ifCond .eq 18, 3) := by decide +kernel
theorem dX10_copy_83 : decode cX10_copy 83 = .ok (.aload_n 0, 1) := by decide +kernel
theorem dX10_copy_84 : decode cX10_copy 84 = .ok (.getfield 21, 3) := by decide +kernel
theorem dX10_copy_87 : decode cX10_copy 87 = .ok (.iload_n 3, 1) := by decide +kernel
theorem dX10_copy_88 : decode cX10_copy 88 = .ok (.iload 4, 2) := by decide +kernel
theorem dX10_copy_90 : decode cX10_copy 90 = .ok (.iload 5, 2) := by decide +kernel
theorem dX10_copy_92 : decode cX10_copy 92 = .ok (.invokevirtual 120, 3) := by decide +kernel
theorem dX10_copy_95 : decode cX10_copy 95 = .ok (.ifCond .ne 12, 3) := by decide +kernel
theorem dX10_copy_98 : decode cX10_copy 98 = .ok (.aload_n 0, 1) := by decide +kernel
theorem dX10_copy_99 : decode cX10_copy 99 = .ok (.getfield 10, 3) := by decide +kernel
theorem dX10_copy_102 : decode cX10_copy 102 = .ok (.iconst 2, 1) := by decide +kernel
theorem dX10_copy_103 : decode cX10_copy 103 = .ok (.invokevirtual 109, 3) := by decide +kernel
theorem dX10_copy_106 : decode cX10_copy 106 = .ok (.ireturn, 1) := by decide +kernel
theorem dX10_copy_107 : decode cX10_copy 107 = .ok (.aload_n 0, 1) := by decide +kernel
theorem dX10_copy_108 : decode cX10_copy 108 = .ok (.getfield 21, 3) := by decide +kernel
theorem dX10_copy_111 : decode cX10_copy 111 = .ok (.iload_n 1, 1) := by decide +kernel
theorem dX10_copy_112 : decode cX10_copy 112 = .ok (.iload_n 2, 1) := by decide +kernel
theorem dX10_copy_113 : decode cX10_copy 113 = .ok (.iload_n 3, 1) := by decide +kernel
theorem dX10_copy_114 : decode cX10_copy 114 = .ok (.iload 4, 2) := by decide +kernel
theorem dX10_copy_116 : decode cX10_copy 116 = .ok (.iload 5, 2) := by decide +kernel
theorem dX10_copy_118 : decode cX10_copy 118 = .ok (.invokevirtual 137, 3) := by decide +kernel
theorem dX10_copy_121 : decode cX10_copy 121 = .ok (.iconst 1, 1) := by decide +kernel
theorem dX10_copy_122 : decode cX10_copy 122 = .ok (.ireturn, 1) := by decide +kernel
theorem dX10_mean_0 : decode cX10_mean 0 = .ok (.aload_n 0, 1) := by decide +kernel
theorem dX10_mean_1 : decode cX10_mean 1 = .ok (.getfield 21, 3) := by decide +kernel
theorem dX10_mean_4 : decode cX10_mean 4 = .ok (.iload_n 1, 1) := by decide +kernel
theorem dX10_mean_5 : decode cX10_mean 5 = .ok (.invokevirtual 105, 3) := by decide +kernel
theorem dX10_mean_8 : decode cX10_mean 8 = .ok (.ifCond .ne 5, 3) := by decide +kernel
theorem dX10_mean_11 : decode cX10_mean 11 = .ok (.iconst (-1), 1) := by decide +kernel
theorem dX10_mean_12 : decode cX10_mean 12 = .ok (.ireturn, 1) := by decide +kernel
theorem dX10_mean_13 : decode cX10_mean 13 = .ok (.aload_n 0, 1) := by decide +kernel
theorem dX10_mean_14 : decode cX10_mean 14 = .ok (.getfield 21, 3) := by decide +kernel
theorem dX10_mean_17 : decode cX10_mean 17 = .ok (.iload_n 1, 1) := by decide +kernel
theorem dX10_mean_18 : decode cX10_mean 18 = .ok (.invokevirtual 117, 3) := by decide +kernel
theorem dX10_mean_21 : decode cX10_mean 21 = .ok (.ifCond .eq 12, 3) := by decide +kernel
theorem dX10_mean_24 : decode cX10_mean 24 = .ok (.aload_n 0, 1) := by decide +kernel
theorem dX10_mean_25 : decode cX10_mean 25 = .ok (.getfield 10, 3) := by decide +kernel
theorem dX10_mean_28 : decode cX10_mean 28 = .ok (.iconst 1, 1) := by decide +kernel
theorem dX10_mean_29 : decode cX10_mean 29 = .ok (.invokevirtual 109, 3) := by decide +kernel
theorem dX10_mean_32 : decode cX10_mean 32 = .ok (.ireturn, 1) := by decide +kernel
theorem dX10_mean_33 : decode cX10_mean 33 = .ok (.aload_n 0, 1) := by decide +kernel
theorem dX10_mean_34 : decode cX10_mean 34 = .ok (.getfield 21, 3) := by decide +kernel
theorem dX10_mean_37 : decode cX10_mean 37 = .ok (.iload_n 1, 1) := by decide +kernel
theorem dX10_mean_38 : decode cX10_mean 38 = .ok (.invokevirtual 141, 3) := by decide +kernel
theorem dX10_mean_41 : decode cX10_mean 41 = .ok (.istore_n 2, 1) := by decide +kernel
theorem dX10_mean_42 : decode cX10_mean 42 = .ok (.iload_n 2, 1) := by decide +kernel
theorem dX10_mean_43 : decode cX10_mean 43 = .ok (.ifCond .gt 12, 3) := by decide +kernel
theorem dX10_mean_46 : decode cX10_mean 46 = .ok (.aload_n 0, 1) := by decide +kernel
theorem dX10_mean_47 : decode cX10_mean 47 = .ok (.getfield 10, 3) := by decide +kernel
theorem dX10_mean_50 : decode cX10_mean 50 = .ok (.iconst 4, 1) := by decide +kernel
theorem dX10_mean_51 : decode cX10_mean 51 = .ok (.invokevirtual 109, 3) := by decide +kernel
theorem dX10_mean_54 : decode cX10_mean 54 = .ok (.ireturn, 1) := by decide +kernel
theorem dX10_mean_55 : decode cX10_mean 55 = .ok (.aload_n 0, 1) := by decide +kernel
theorem dX10_mean_56 : decode cX10_mean 56 = .ok (.getfield 10, 3) := by decide +kernel
theorem dX10_mean_59 : decode cX10_mean 59 = .ok (.aload_n 0, 1) := by decide +kernel
theorem dX10_mean_60 : decode cX10_mean 60 = .ok (.getfield 21, 3) := by decide +kernel
theorem dX10_mean_63 : decode cX10_mean 63 = .ok (.iload_n 1, 1) := by decide +kernel
theorem dX10_mean_64 : decode cX10_mean 64 = .ok (.invokevirtual 144, 3) := by decide +kernel
theorem dX10_mean_67 : decode cX10_mean 67 = .ok (.iload_n 2, 1) := by decide +kernel
theorem dX10_mean_68 : decode cX10_mean 68 = .ok (.i2l, 1) := by decide +kernel
theorem dX10_mean_69 : decode cX10_mean 69 = .ok (.ldiv, 1) := by decide +kernel
theorem dX10_mean_70 : decode cX10_mean 70 = .ok (.l2i, 1) := by decide +kernel
theorem dX10_mean_71 : decode cX10_mean 71 = .ok (.invokevirtual 131, 3) := by decide +kernel
theorem dX10_mean_74 : decode cX10_mean 74 = .ok (.ireturn, 1) := by decide +kernel
theorem dX10_text_0 : decode cX10_text 0 = .ok (.aload_n 0, 1) := by decide +kernel
theorem dX10_text_1 : decode cX10_text 1 = .ok (.getfield 25, 3) := by decide +kernel
theorem dX10_text_4 : decode cX10_text 4 = .ok (.iload_n 1, 1) := by decide +kernel
theorem dX10_text_5 : decode cX10_text 5 = .ok (.invokevirtual 105, 3) := by decide +kernel
theorem dX10_text_8 : decode cX10_text 8 = .ok (.ifCond .eq 9, 3) := by decide +kernel
theorem dX10_text_11 : decode cX10_text 11 = .ok (.iload_n 2, 1) := by decide +kernel
theorem dX10_text_12 : decode cX10_text 12 = .ok (.bipush 100, 2) := by decide +kernel
theorem dX10_text_14 : decode cX10_text 14 = .ok (.if_icmp .le 5, 3) := by decide +kernel
theorem dX10_text_17 : decode cX10_text 17 = .ok (.iconst (-1), 1) := by decide +kernel
theorem dX10_text_18 : decode cX10_text 18 = .ok (.ireturn, 1) := by decide +kernel
theorem dX10_text_19 : decode cX10_text 19 = .ok (.iload_n 2, 1) := by decide +kernel
theorem dX10_text_20 : decode cX10_text 20 = .ok (.ifCond .ge 12, 3) := by decide +kernel
theorem dX10_text_23 : decode cX10_text 23 = .ok (.aload_n 0, 1) := by decide +kernel
theorem dX10_text_24 : decode cX10_text 24 = .ok (.getfield 10, 3) := by decide +kernel
theorem dX10_text_27 : decode cX10_text 27 = .ok (.iconst 5, 1) := by decide +kernel
theorem dX10_text_28 : decode cX10_text 28 = .ok (.invokevirtual 109, 3) := by decide +kernel
theorem dX10_text_31 : decode cX10_text 31 = .ok (.ireturn, 1) := by decide +kernel
theorem dX10_text_32 : decode cX10_text 32 = .ok (.aload_n 0, 1) := by decide +kernel
theorem dX10_text_33 : decode cX10_text 33 = .ok (.getfield 25, 3) := by decide +kernel
theorem dX10_text_36 : decode cX10_text 36 = .ok (.iload_n 1, 1) := by decide +kernel
theorem dX10_text_37 : decode cX10_text 37 = .ok (.iload_n 2, 1) := by decide +kernel
theorem dX10_text_38 : decode cX10_text 38 = .ok (.bipush 32, 2) := by decide +kernel
theorem dX10_text_40 : decode cX10_text 40 = .ok (.invokevirtual 113, 3) := by decide +kernel
theorem dX10_text_43 : decode cX10_text 43 = .ok (.iload_n 2, 1) := by decide +kernel
theorem dX10_text_44 : decode cX10_text 44 = .ok (.ireturn, 1) := by decide +kernel
theorem dX10_put_0 : decode cX10_put 0 = .ok (.aload_n 0, 1) := by decide +kernel
theorem dX10_put_1 : decode cX10_put 1 = .ok (.getfield 25, 3) := by decide +kernel
theorem dX10_put_4 : decode cX10_put 4 = .ok (.iload_n 1, 1) := by decide +kernel
theorem dX10_put_5 : decode cX10_put 5 = .ok (.invokevirtual 105, 3) := by decide +kernel
theorem dX10_put_8 : decode cX10_put 8 = .ok (.ifCond .ne 5, 3) := by decide +kernel
theorem dX10_put_11 : decode cX10_put 11 = .ok (.iconst (-1), 1) := by decide +kernel
theorem dX10_put_12 : decode cX10_put 12 = .ok (.ireturn, 1) := by decide +kernel
theorem dX10_put_13 : decode cX10_put 13 = .ok (.aload_n 0, 1) := by decide +kernel
theorem dX10_put_14 : decode cX10_put 14 = .ok (.getfield 25, 3) := by decide +kernel
theorem dX10_put_17 : decode cX10_put 17 = .ok (.iload_n 1, 1) := by decide +kernel
theorem dX10_put_18 : decode cX10_put 18 = .ok (.invokevirtual 117, 3) := by decide +kernel
theorem dX10_put_21 : decode cX10_put 21 = .ok (.ifCond .eq 12, 3) := by decide +kernel
theorem dX10_put_24 : decode cX10_put 24 = .ok (.aload_n 0, 1) := by decide +kernel
theorem dX10_put_25 : decode cX10_put 25 = .ok (.getfield 10, 3) := by decide +kernel
theorem dX10_put_28 : decode cX10_put 28 = .ok (.iconst 1, 1) := by decide +kernel
theorem dX10_put_29 : decode cX10_put 29 = .ok (.invokevirtual 109, 3) := by decide +kernel
theorem dX10_put_32 : decode cX10_put 32 = .ok (.ireturn, 1) := by decide +kernel
theorem dX10_put_33 : decode cX10_put 33 = .ok (.aload_n 0, 1) := by decide +kernel
theorem dX10_put_34 : decode cX10_put 34 = .ok (.getfield 25, 3) := by decide +kernel
theorem dX10_put_37 : decode cX10_put 37 = .ok (.iload_n 1, 1) := by decide +kernel
theorem dX10_put_38 : decode cX10_put 38 = .ok (.iload_n 2, 1) := by decide +kernel
theorem dX10_put_39 : decode cX10_put 39 = .ok (.iconst 1, 1) := by decide +kernel
theorem dX10_put_40 : decode cX10_put 40 = .ok (.invokevirtual 120, 3) := by decide +kernel
theorem dX10_put_43 : decode cX10_put 43 = .ok (.ifCond .ne 12, 3) := by decide +kernel
theorem dX10_put_46 : decode cX10_put 46 = .ok (.aload_n 0, 1) := by decide +kernel
theorem dX10_put_47 : decode cX10_put 47 = .ok (.getfield 10, 3) := by decide +kernel
theorem dX10_put_50 : decode cX10_put 50 = .ok (.iconst 2, 1) := by decide +kernel
theorem dX10_put_51 : decode cX10_put 51 = .ok (.invokevirtual 109, 3) := by decide +kernel
theorem dX10_put_54 : decode cX10_put 54 = .ok (.ireturn, 1) := by decide +kernel
theorem dX10_put_55 : decode cX10_put 55 = .ok (.aload_n 0, 1) := by decide +kernel
theorem dX10_put_56 : decode cX10_put 56 = .ok (.getfield 25, 3) := by decide +kernel
theorem dX10_put_59 : decode cX10_put 59 = .ok (.iload_n 1, 1) := by decide +kernel
theorem dX10_put_60 : decode cX10_put 60 = .ok (.iload_n 2, 1) := by decide +kernel
theorem dX10_put_61 : decode cX10_put 61 = .ok (.invokevirtual 124, 3) := by decide +kernel
theorem dX10_put_64 : decode cX10_put 64 = .ok (.istore 4, 2) := by decide +kernel
theorem dX10_put_66 : decode cX10_put 66 = .ok (.aload_n 0, 1) := by decide +kernel
theorem dX10_put_67 : decode cX10_put 67 = .ok (.getfield 25, 3) := by decide +kernel
theorem dX10_put_70 : decode cX10_put 70 = .ok (.iload_n 1, 1) := by decide +kernel
theorem dX10_put_71 : decode cX10_put 71 = .ok (.iload_n 2, 1) := by decide +kernel
theorem dX10_put_72 : decode cX10_put 72 = .ok (.iload_n 3, 1) := by decide +kernel
theorem dX10_put_73 : decode cX10_put 73 = .ok (.i2b, 1) := by decide +kernel
theorem dX10_put_74 : decode cX10_put 74 = .ok (.invokevirtual 128, 3) := by decide +kernel
theorem dX10_put_77 : decode cX10_put 77 = .ok (.iload 4, 2) := by decide +kernel
theorem dX10_put_79 : decode cX10_put 79 = .ok (.sipush 1000, 3) := by decide +kernel
theorem dX10_put_82 : decode cX10_put 82 = .ok (.iadd, 1) := by decide +kernel
theorem dX10_put_83 : decode cX10_put 83 = .ok (.ireturn, 1) := by decide +kernel
theorem dX10_fault_0 : decode cX10_fault 0 = .ok (.aload_n 0, 1) := by decide +kernel
theorem dX10_fault_1 : decode cX10_fault 1 = .ok (.getfield 25, 3) := by decide +kernel
theorem dX10_fault_4 : decode cX10_fault 4 = .ok (.iload_n 1, 1) := by decide +kernel
theorem dX10_fault_5 : decode cX10_fault 5 = .ok (.invokevirtual 105, 3) := by decide +kernel
theorem dX10_fault_8 : decode cX10_fault 8 = .ok (.ifCond .ne 5, 3) := by decide +kernel
theorem dX10_fault_11 : decode cX10_fault 11 = .ok (.iconst (-1), 1) := by decide +kernel
theorem dX10_fault_12 : decode cX10_fault 12 = .ok (.ireturn, 1) := by decide +kernel
theorem dX10_fault_13 : decode cX10_fault 13 = .ok (.aload_n 0, 1) := by decide +kernel
theorem dX10_fault_14 : decode cX10_fault 14 = .ok (.getfield 25, 3) := by decide +kernel
theorem dX10_fault_17 : decode cX10_fault 17 = .ok (.iload_n 1, 1) := by decide +kernel
theorem dX10_fault_18 : decode cX10_fault 18 = .ok (.invokevirtual 117, 3) := by decide +kernel
theorem dX10_fault_21 : decode cX10_fault 21 = .ok (.ifCond .eq 12, 3) := by decide +kernel
theorem dX10_fault_24 : decode cX10_fault 24 = .ok (.aload_n 0, 1) := by decide +kernel
theorem dX10_fault_25 : decode cX10_fault 25 = .ok (.getfield 10, 3) := by decide +kernel
theorem dX10_fault_28 : decode cX10_fault 28 = .ok (.iconst 1, 1) := by decide +kernel
theorem dX10_fault_29 : decode cX10_fault 29 = .ok (.invokevirtual 109, 3) := by decide +kernel
theorem dX10_fault_32 : decode cX10_fault 32 = .ok (.ireturn, 1) := by decide +kernel
theorem dX10_fault_33 : decode cX10_fault 33 = .ok (.aload_n 0, 1) := by decide +kernel
theorem dX10_fault_34 : decode cX10_fault 34 = .ok (.getfield 33, 3) := by decide +kernel
theorem dX10_fault_37 : decode cX10_fault 37 = .ok (.iload_n 1, 1) := by decide +kernel
theorem dX10_fault_38 : decode cX10_fault 38 = .ok (.invokevirtual 148, 3) := by decide +kernel
theorem dX10_fault_41 : decode cX10_fault 41 = .ok (.ireturn, 1) := by decide +kernel
theorem dX10_island_0 : decode cX10_island 0 = .ok (.aload_n 0, 1) := by decide +kernel
theorem dX10_island_1 : decode cX10_island 1 = .ok (.getfield 25, 3) := by decide +kernel
theorem dX10_island_4 : decode cX10_island 4 = .ok (.iload_n 1, 1) := by decide +kernel
theorem dX10_island_5 : decode cX10_island 5 = .ok (.invokevirtual 105, 3) := by decide +kernel
theorem dX10_island_8 : decode cX10_island 8 = .ok (.ifCond .ne 5, 3) := by decide +kernel
theorem dX10_island_11 : decode cX10_island 11 = .ok (.iconst (-1), 1) := by decide +kernel
theorem dX10_island_12 : decode cX10_island 12 = .ok (.ireturn, 1) := by decide +kernel
theorem dX10_island_13 : decode cX10_island 13 = .ok (.aload_n 0, 1) := by decide +kernel
theorem dX10_island_14 : decode cX10_island 14 = .ok (.getfield 25, 3) := by decide +kernel
theorem dX10_island_17 : decode cX10_island 17 = .ok (.iload_n 1, 1) := by decide +kernel
theorem dX10_island_18 : decode cX10_island 18 = .ok (.invokevirtual 117, 3) := by decide +kernel
theorem dX10_island_21 : decode cX10_island 21 = .ok (.ifCond .eq 12, 3) := by decide +kernel
theorem dX10_island_24 : decode cX10_island 24 = .ok (.aload_n 0, 1) := by decide +kernel
theorem dX10_island_25 : decode cX10_island 25 = .ok (.getfield 10, 3) := by decide +kernel
theorem dX10_island_28 : decode cX10_island 28 = .ok (.iconst 1, 1) := by decide +kernel
theorem dX10_island_29 : decode cX10_island 29 = .ok (.invokevirtual 109, 3) := by decide +kernel
theorem dX10_island_32 : decode cX10_island 32 = .ok (.ireturn, 1) := by decide +kernel
theorem dX10_island_33 : decode cX10_island 33 = .ok (.aload_n 0, 1) := by decide +kernel
theorem dX10_island_34 : decode cX10_island 34 = .ok (.getfield 33, 3) := by decide +kernel
theorem dX10_island_37 : decode cX10_island 37 = .ok (.iload_n 1, 1) := by decide +kernel
theorem dX10_island_38 : decode cX10_island 38 = .ok (.invokevirtual 148, 3) := by decide +kernel
theorem dX10_island_41 : decode cX10_island 41 = .ok (.bipush (-9), 2) := by decide +kernel
theorem dX10_island_43 : decode cX10_island 43 = .ok (.if_icmp .eq 6, 3) := by decide +kernel
theorem dX10_island_46 : decode cX10_island 46 = .ok (.bipush (-4), 2) := by decide +kernel
theorem dX10_island_48 : decode cX10_island 48 = .ok (.ireturn, 1) := by decide +kernel
theorem dX10_island_49 : decode cX10_island 49 = .ok (.aload_n 0, 1) := by decide +kernel
theorem dX10_island_50 : decode cX10_island 50 = .ok (.getfield 40, 3) := by decide +kernel
theorem dX10_island_53 : decode cX10_island 53 = .ok (.aload_n 0, 1) := by decide +kernel
theorem dX10_island_54 : decode cX10_island 54 = .ok (.getfield 33, 3) := by decide +kernel
theorem dX10_island_57 : decode cX10_island 57 = .ok (.getfield 151, 3) := by decide +kernel
theorem dX10_island_60 : decode cX10_island 60 = .ok (.invokevirtual 154, 3) := by decide +kernel
theorem dX10_island_63 : decode cX10_island 63 = .ok (.aload_n 0, 1) := by decide +kernel
theorem dX10_island_64 : decode cX10_island 64 = .ok (.getfield 83, 3) := by decide +kernel
theorem dX10_island_67 : decode cX10_island 67 = .ok (.invokevirtual 157, 3) := by decide +kernel
theorem dX10_island_70 : decode cX10_island 70 = .ok (.aload_n 0, 1) := by decide +kernel
theorem dX10_island_71 : decode cX10_island 71 = .ok (.getfield 49, 3) := by decide +kernel
theorem dX10_island_74 : decode cX10_island 74 = .ok (.invokevirtual 160, 3) := by decide +kernel
theorem dX10_island_77 : decode cX10_island 77 = .ok (.aload_n 0, 1) := by decide +kernel
theorem dX10_island_78 : decode cX10_island 78 = .ok (.getfield 61, 3) := by decide +kernel
theorem dX10_island_81 : decode cX10_island 81 = .ok (.iconst 0, 1) := by decide +kernel
theorem dX10_island_82 : decode cX10_island 82 = .ok (.putfield 163, 3) := by decide +kernel
theorem dX10_island_85 : decode cX10_island 85 = .ok (.aload_n 0, 1) := by decide +kernel
theorem dX10_island_86 : decode cX10_island 86 = .ok (.getfield 65, 3) := by decide +kernel
theorem dX10_island_89 : decode cX10_island 89 = .ok (.iconst 0, 1) := by decide +kernel
theorem dX10_island_90 : decode cX10_island 90 = .ok (.putfield 163, 3) := by decide +kernel
theorem dX10_island_93 : decode cX10_island 93 = .ok (.aload_n 0, 1) := by decide +kernel
theorem dX10_island_94 : decode cX10_island 94 = .ok (.getfield 72, 3) := by decide +kernel
theorem dX10_island_97 : decode cX10_island 97 = .ok (.iconst 0, 1) := by decide +kernel
theorem dX10_island_98 : decode cX10_island 98 = .ok (.invokestatic 167, 3) := by decide +kernel
theorem dX10_island_101 : decode cX10_island 101 = .ok (.aload_n 0, 1) := by decide +kernel
theorem dX10_island_102 : decode cX10_island 102 = .ok (.getfield 40, 3) := by decide +kernel
theorem dX10_island_105 : decode cX10_island 105 = .ok (.getfield 173, 3) := by decide +kernel
theorem dX10_island_108 : decode cX10_island 108 = .ok (.ireturn, 1) := by decide +kernel
theorem dX10_thing_0 : decode cX10_thing 0 = .ok (.aload_n 0, 1) := by decide +kernel
theorem dX10_thing_1 : decode cX10_thing 1 = .ok (.getfield 40, 3) := by decide +kernel
theorem dX10_thing_4 : decode cX10_thing 4 = .ok (.iload_n 1, 1) := by decide +kernel
theorem dX10_thing_5 : decode cX10_thing 5 = .ok (.invokevirtual 176, 3) := by decide +kernel
theorem dX10_thing_8 : decode cX10_thing 8 = .ok (.ifCond .eq 12, 3) := by decide +kernel
theorem dX10_thing_11 : decode cX10_thing 11 = .ok (.iload_n 2, 1) := by decide +kernel
theorem dX10_thing_12 : decode cX10_thing 12 = .ok (.ifCond .lt 8, 3) := by decide +kernel
theorem dX10_thing_15 : decode cX10_thing 15 = .ok (.iload_n 2, 1) := by decide +kernel
theorem dX10_thing_16 : decode cX10_thing 16 = .ok (.iconst 3, 1) := by decide +kernel
theorem dX10_thing_17 : decode cX10_thing 17 = .ok (.if_icmp .le 5, 3) := by decide +kernel
theorem dX10_thing_20 : decode cX10_thing 20 = .ok (.iconst (-1), 1) := by decide +kernel
theorem dX10_thing_21 : decode cX10_thing 21 = .ok (.ireturn, 1) := by decide +kernel
theorem dX10_thing_22 : decode cX10_thing 22 = .ok (.aload_n 0, 1) := by decide +kernel
theorem dX10_thing_23 : decode cX10_thing 23 = .ok (.getfield 10, 3) := by decide +kernel
theorem dX10_thing_26 : decode cX10_thing 26 = .ok (.aload_n 0, 1) := by decide +kernel
theorem dX10_thing_27 : decode cX10_thing 27 = .ok (.iload_n 1, 1) := by decide +kernel
theorem dX10_thing_28 : decode cX10_thing 28 = .ok (.iload_n 2, 1) := by decide +kernel
theorem dX10_thing_29 : decode cX10_thing 29 = .ok (.invokevirtual 179, 3) := by decide +kernel
theorem dX10_thing_32 : decode cX10_thing 32 = .ok (.invokevirtual 131, 3) := by decide +kernel
theorem dX10_thing_35 : decode cX10_thing 35 = .ok (.ireturn, 1) := by decide +kernel
theorem dX10_ofThing_0 : decode cX10_ofThing 0 = .ok (.iload_n 2, 1) := by decide +kernel
theorem dX10_ofThing_1 : decode cX10_ofThing 1 = .ok (.tableswitch 57 0 2 #[27, 37, 47], 27) := by decide +kernel
theorem dX10_ofThing_28 : decode cX10_ofThing 28 = .ok (.aload_n 0, 1) := by decide +kernel
theorem dX10_ofThing_29 : decode cX10_ofThing 29 = .ok (.getfield 40, 3) := by decide +kernel
theorem dX10_ofThing_32 : decode cX10_ofThing 32 = .ok (.getfield 182, 3) := by decide +kernel
theorem dX10_ofThing_35 : decode cX10_ofThing 35 = .ok (.iload_n 1, 1) := by decide +kernel
theorem dX10_ofThing_36 : decode cX10_ofThing 36 = .ok (.iaload, 1) := by decide +kernel
theorem dX10_ofThing_37 : decode cX10_ofThing 37 = .ok (.ireturn, 1) := by decide +kernel
theorem dX10_ofThing_38 : decode cX10_ofThing 38 = .ok (.aload_n 0, 1) := by decide +kernel
theorem dX10_ofThing_39 : decode cX10_ofThing 39 = .ok (.getfield 49, 3) := by decide +kernel
theorem dX10_ofThing_42 : decode cX10_ofThing 42 = .ok (.getfield 185, 3) := by decide +kernel
theorem dX10_ofThing_45 : decode cX10_ofThing 45 = .ok (.iload_n 1, 1) := by decide +kernel
theorem dX10_ofThing_46 : decode cX10_ofThing 46 = .ok (.iaload, 1) := by decide +kernel
theorem dX10_ofThing_47 : decode cX10_ofThing 47 = .ok (.ireturn, 1) := by decide +kernel
theorem dX10_ofThing_48 : decode cX10_ofThing 48 = .ok (.aload_n 0, 1) := by decide +kernel
theorem dX10_ofThing_49 : decode cX10_ofThing 49 = .ok (.getfield 40, 3) := by decide +kernel
theorem dX10_ofThing_52 : decode cX10_ofThing 52 = .ok (.getfield 188, 3) := by decide +kernel
theorem dX10_ofThing_55 : decode cX10_ofThing 55 = .ok (.iload_n 1, 1) := by decide +kernel
theorem dX10_ofThing_56 : decode cX10_ofThing 56 = .ok (.iaload, 1) := by decide +kernel
theorem dX10_ofThing_57 : decode cX10_ofThing 57 = .ok (.ireturn, 1) := by decide +kernel
theorem dX10_ofThing_58 : decode cX10_ofThing 58 = .ok (.aload_n 0, 1) := by decide +kernel
theorem dX10_ofThing_59 : decode cX10_ofThing 59 = .ok (.getfield 49, 3) := by decide +kernel
theorem dX10_ofThing_62 : decode cX10_ofThing 62 = .ok (.iload_n 1, 1) := by decide +kernel
theorem dX10_ofThing_63 : decode cX10_ofThing 63 = .ok (.invokevirtual 191, 3) := by decide +kernel
theorem dX10_ofThing_66 : decode cX10_ofThing 66 = .ok (.ireturn, 1) := by decide +kernel
theorem dX10_mark_0 : decode cX10_mark 0 = .ok (.aload_n 0, 1) := by decide +kernel
theorem dX10_mark_1 : decode cX10_mark 1 = .ok (.getfield 40, 3) := by decide +kernel
theorem dX10_mark_4 : decode cX10_mark 4 = .ok (.iload_n 1, 1) := by decide +kernel
theorem dX10_mark_5 : decode cX10_mark 5 = .ok (.invokevirtual 176, 3) := by decide +kernel
theorem dX10_mark_8 : decode cX10_mark 8 = .ok (.ifCond .eq 13, 3) := by decide +kernel
theorem dX10_mark_11 : decode cX10_mark 11 = .ok (.iload_n 2, 1) := by decide +kernel
theorem dX10_mark_12 : decode cX10_mark 12 = .ok (.iconst 1, 1) := by decide +kernel
theorem dX10_mark_13 : decode cX10_mark 13 = .ok (.if_icmp .lt 8, 3) := by decide +kernel
theorem dX10_mark_16 : decode cX10_mark 16 = .ok (.iload_n 2, 1) := by decide +kernel
theorem dX10_mark_17 : decode cX10_mark 17 = .ok (.iconst 5, 1) := by decide +kernel
theorem dX10_mark_18 : decode cX10_mark 18 = .ok (.if_icmp .le 5, 3) := by decide +kernel
theorem dX10_mark_21 : decode cX10_mark 21 = .ok (.iconst (-1), 1) := by decide +kernel
theorem dX10_mark_22 : decode cX10_mark 22 = .ok (.ireturn, 1) := by decide +kernel
theorem dX10_mark_23 : decode cX10_mark 23 = .ok (.aload_n 0, 1) := by decide +kernel
theorem dX10_mark_24 : decode cX10_mark 24 = .ok (.getfield 40, 3) := by decide +kernel
theorem dX10_mark_27 : decode cX10_mark 27 = .ok (.iload_n 1, 1) := by decide +kernel
theorem dX10_mark_28 : decode cX10_mark 28 = .ok (.iload_n 2, 1) := by decide +kernel
theorem dX10_mark_29 : decode cX10_mark 29 = .ok (.invokevirtual 194, 3) := by decide +kernel
theorem dX10_mark_32 : decode cX10_mark 32 = .ok (.ifCond .ne 12, 3) := by decide +kernel
theorem dX10_mark_35 : decode cX10_mark 35 = .ok (.aload_n 0, 1) := by decide +kernel
theorem dX10_mark_36 : decode cX10_mark 36 = .ok (.getfield 10, 3) := by decide +kernel
theorem dX10_mark_39 : decode cX10_mark 39 = .ok (.iconst 3, 1) := by decide +kernel
theorem dX10_mark_40 : decode cX10_mark 40 = .ok (.invokevirtual 109, 3) := by decide +kernel
theorem dX10_mark_43 : decode cX10_mark 43 = .ok (.ireturn, 1) := by decide +kernel
theorem dX10_mark_44 : decode cX10_mark 44 = .ok (.iload_n 2, 1) := by decide +kernel
theorem dX10_mark_45 : decode cX10_mark 45 = .ok (.tableswitch 85 1 4 #[31, 40, 57, 66], 31) := by decide +kernel
theorem dX10_mark_76 : decode cX10_mark 76 = .ok (.aload_n 0, 1) := by decide +kernel
theorem dX10_mark_77 : decode cX10_mark 77 = .ok (.getfield 49, 3) := by decide +kernel
theorem dX10_mark_80 : decode cX10_mark 80 = .ok (.iload_n 1, 1) := by decide +kernel
theorem dX10_mark_81 : decode cX10_mark 81 = .ok (.invokevirtual 198, 3) := by decide +kernel
theorem dX10_mark_84 : decode cX10_mark 84 = .ok (.ireturn, 1) := by decide +kernel
theorem dX10_mark_85 : decode cX10_mark 85 = .ok (.aload_n 0, 1) := by decide +kernel
theorem dX10_mark_86 : decode cX10_mark 86 = .ok (.getfield 49, 3) := by decide +kernel
theorem dX10_mark_89 : decode cX10_mark 89 = .ok (.aload_n 0, 1) := by decide +kernel
theorem dX10_mark_90 : decode cX10_mark 90 = .ok (.getfield 49, 3) := by decide +kernel
theorem dX10_mark_93 : decode cX10_mark 93 = .ok (.getfield 185, 3) := by decide +kernel
theorem dX10_mark_96 : decode cX10_mark 96 = .ok (.iload_n 1, 1) := by decide +kernel
theorem dX10_mark_97 : decode cX10_mark 97 = .ok (.iaload, 1) := by decide +kernel
theorem dX10_mark_98 : decode cX10_mark 98 = .ok (.invokevirtual 201, 3) := by decide +kernel
theorem dX10_mark_101 : decode cX10_mark 101 = .ok (.ireturn, 1) := by decide +kernel
theorem dX10_mark_102 : decode cX10_mark 102 = .ok (.aload_n 0, 1) := by decide +kernel
theorem dX10_mark_103 : decode cX10_mark 103 = .ok (.getfield 40, 3) := by decide +kernel
theorem dX10_mark_106 : decode cX10_mark 106 = .ok (.iload_n 1, 1) := by decide +kernel
theorem dX10_mark_107 : decode cX10_mark 107 = .ok (.invokevirtual 204, 3) := by decide +kernel
theorem dX10_mark_110 : decode cX10_mark 110 = .ok (.ireturn, 1) := by decide +kernel
theorem dX10_mark_111 : decode cX10_mark 111 = .ok (.aload_n 0, 1) := by decide +kernel
theorem dX10_mark_112 : decode cX10_mark 112 = .ok (.getfield 40, 3) := by decide +kernel
theorem dX10_mark_115 : decode cX10_mark 115 = .ok (.getfield 207, 3) := by decide +kernel
theorem dX10_mark_118 : decode cX10_mark 118 = .ok (.iload_n 1, 1) := by decide +kernel
theorem dX10_mark_119 : decode cX10_mark 119 = .ok (.iaload, 1) := by decide +kernel
theorem dX10_mark_120 : decode cX10_mark 120 = .ok (.aload_n 0, 1) := by decide +kernel
theorem dX10_mark_121 : decode cX10_mark 121 = .ok (.getfield 49, 3) := by decide +kernel
theorem dX10_mark_124 : decode cX10_mark 124 = .ok (.iload_n 1, 1) := by decide +kernel
theorem dX10_mark_125 : decode cX10_mark 125 = .ok (.invokevirtual 198, 3) := by decide +kernel
theorem dX10_mark_128 : decode cX10_mark 128 = .ok (.isub, 1) := by decide +kernel
theorem dX10_mark_129 : decode cX10_mark 129 = .ok (.ireturn, 1) := by decide +kernel
theorem dX10_mark_130 : decode cX10_mark 130 = .ok (.aload_n 0, 1) := by decide +kernel
theorem dX10_mark_131 : decode cX10_mark 131 = .ok (.getfield 49, 3) := by decide +kernel
theorem dX10_mark_134 : decode cX10_mark 134 = .ok (.aload_n 0, 1) := by decide +kernel
theorem dX10_mark_135 : decode cX10_mark 135 = .ok (.getfield 49, 3) := by decide +kernel
theorem dX10_mark_138 : decode cX10_mark 138 = .ok (.getfield 185, 3) := by decide +kernel
theorem dX10_mark_141 : decode cX10_mark 141 = .ok (.iload_n 1, 1) := by decide +kernel
theorem dX10_mark_142 : decode cX10_mark 142 = .ok (.iaload, 1) := by decide +kernel
theorem dX10_mark_143 : decode cX10_mark 143 = .ok (.invokevirtual 210, 3) := by decide +kernel
theorem dX10_mark_146 : decode cX10_mark 146 = .ok (.invokestatic 213, 3) := by decide +kernel
theorem dX10_mark_149 : decode cX10_mark 149 = .ok (.iconst 1, 1) := by decide +kernel
theorem dX10_mark_150 : decode cX10_mark 150 = .ok (.isub, 1) := by decide +kernel
theorem dX10_mark_151 : decode cX10_mark 151 = .ok (.ireturn, 1) := by decide +kernel
theorem dX10_work_0 : decode cX10_work 0 = .ok (.aload_n 0, 1) := by decide +kernel
theorem dX10_work_1 : decode cX10_work 1 = .ok (.getfield 40, 3) := by decide +kernel
theorem dX10_work_4 : decode cX10_work 4 = .ok (.iload_n 1, 1) := by decide +kernel
theorem dX10_work_5 : decode cX10_work 5 = .ok (.invokevirtual 218, 3) := by decide +kernel
theorem dX10_work_8 : decode cX10_work 8 = .ok (.ifCond .eq 12, 3) := by decide +kernel
theorem dX10_work_11 : decode cX10_work 11 = .ok (.iload_n 2, 1) := by decide +kernel
theorem dX10_work_12 : decode cX10_work 12 = .ok (.ifCond .lt 8, 3) := by decide +kernel
theorem dX10_work_15 : decode cX10_work 15 = .ok (.iload_n 2, 1) := by decide +kernel
theorem dX10_work_16 : decode cX10_work 16 = .ok (.iconst 3, 1) := by decide +kernel
theorem dX10_work_17 : decode cX10_work 17 = .ok (.if_icmp .le 5, 3) := by decide +kernel
theorem dX10_work_20 : decode cX10_work 20 = .ok (.iconst (-1), 1) := by decide +kernel
theorem dX10_work_21 : decode cX10_work 21 = .ok (.ireturn, 1) := by decide +kernel
theorem dX10_work_22 : decode cX10_work 22 = .ok (.aload_n 0, 1) := by decide +kernel
theorem dX10_work_23 : decode cX10_work 23 = .ok (.getfield 10, 3) := by decide +kernel
theorem dX10_work_26 : decode cX10_work 26 = .ok (.aload_n 0, 1) := by decide +kernel
theorem dX10_work_27 : decode cX10_work 27 = .ok (.getfield 40, 3) := by decide +kernel
theorem dX10_work_30 : decode cX10_work 30 = .ok (.iload_n 1, 1) := by decide +kernel
theorem dX10_work_31 : decode cX10_work 31 = .ok (.iload_n 2, 1) := by decide +kernel
theorem dX10_work_32 : decode cX10_work 32 = .ok (.invokevirtual 221, 3) := by decide +kernel
theorem dX10_work_35 : decode cX10_work 35 = .ok (.invokevirtual 131, 3) := by decide +kernel
theorem dX10_work_38 : decode cX10_work 38 = .ok (.ireturn, 1) := by decide +kernel
theorem dX10_load_0 : decode cX10_load 0 = .ok (.aload_n 0, 1) := by decide +kernel
theorem dX10_load_1 : decode cX10_load 1 = .ok (.getfield 40, 3) := by decide +kernel
theorem dX10_load_4 : decode cX10_load 4 = .ok (.iload_n 1, 1) := by decide +kernel
theorem dX10_load_5 : decode cX10_load 5 = .ok (.invokevirtual 224, 3) := by decide +kernel
theorem dX10_load_8 : decode cX10_load 8 = .ok (.ifCond .ne 5, 3) := by decide +kernel
theorem dX10_load_11 : decode cX10_load 11 = .ok (.iconst (-1), 1) := by decide +kernel
theorem dX10_load_12 : decode cX10_load 12 = .ok (.ireturn, 1) := by decide +kernel
theorem dX10_load_13 : decode cX10_load 13 = .ok (.aload_n 0, 1) := by decide +kernel
theorem dX10_load_14 : decode cX10_load 14 = .ok (.getfield 10, 3) := by decide +kernel
theorem dX10_load_17 : decode cX10_load 17 = .ok (.aload_n 0, 1) := by decide +kernel
theorem dX10_load_18 : decode cX10_load 18 = .ok (.getfield 49, 3) := by decide +kernel
theorem dX10_load_21 : decode cX10_load 21 = .ok (.iload_n 1, 1) := by decide +kernel
theorem dX10_load_22 : decode cX10_load 22 = .ok (.invokevirtual 210, 3) := by decide +kernel
theorem dX10_load_25 : decode cX10_load 25 = .ok (.invokevirtual 131, 3) := by decide +kernel
theorem dX10_load_28 : decode cX10_load 28 = .ok (.pop, 1) := by decide +kernel
theorem dX10_load_29 : decode cX10_load 29 = .ok (.aload_n 0, 1) := by decide +kernel
theorem dX10_load_30 : decode cX10_load 30 = .ok (.getfield 49, 3) := by decide +kernel
theorem dX10_load_33 : decode cX10_load 33 = .ok (.iload_n 1, 1) := by decide +kernel
theorem dX10_load_34 : decode cX10_load 34 = .ok (.invokevirtual 201, 3) := by decide +kernel
theorem dX10_load_37 : decode cX10_load 37 = .ok (.ireturn, 1) := by decide +kernel
theorem dX10_limit_0 : decode cX10_limit 0 = .ok (.iload_n 1, 1) := by decide +kernel
theorem dX10_limit_1 : decode cX10_limit 1 = .ok (.iconst 1, 1) := by decide +kernel
theorem dX10_limit_2 : decode cX10_limit 2 = .ok (.if_icmp .lt 9, 3) := by decide +kernel
theorem dX10_limit_5 : decode cX10_limit 5 = .ok (.iload_n 1, 1) := by decide +kernel
theorem dX10_limit_6 : decode cX10_limit 6 = .ok (.bipush 6, 2) := by decide +kernel
theorem dX10_limit_8 : decode cX10_limit 8 = .ok (.if_icmp .le 5, 3) := by decide +kernel
theorem dX10_limit_11 : decode cX10_limit 11 = .ok (.iconst (-1), 1) := by decide +kernel
theorem dX10_limit_12 : decode cX10_limit 12 = .ok (.ireturn, 1) := by decide +kernel
theorem dX10_limit_13 : decode cX10_limit 13 = .ok (.aload_n 0, 1) := by decide +kernel
theorem dX10_limit_14 : decode cX10_limit 14 = .ok (.getfield 49, 3) := by decide +kernel
theorem dX10_limit_17 : decode cX10_limit 17 = .ok (.invokevirtual 227, 3) := by decide +kernel
theorem dX10_limit_20 : decode cX10_limit 20 = .ok (.iload_n 1, 1) := by decide +kernel
theorem dX10_limit_21 : decode cX10_limit 21 = .ok (.if_icmp .le 6, 3) := by decide +kernel
theorem dX10_limit_24 : decode cX10_limit 24 = .ok (.bipush (-4), 2) := by decide +kernel
theorem dX10_limit_26 : decode cX10_limit 26 = .ok (.ireturn, 1) := by decide +kernel
theorem dX10_limit_27 : decode cX10_limit 27 = .ok (.aload_n 0, 1) := by decide +kernel
theorem dX10_limit_28 : decode cX10_limit 28 = .ok (.getfield 49, 3) := by decide +kernel
theorem dX10_limit_31 : decode cX10_limit 31 = .ok (.getfield 231, 3) := by decide +kernel
theorem dX10_limit_34 : decode cX10_limit 34 = .ok (.istore_n 2, 1) := by decide +kernel
theorem dX10_limit_35 : decode cX10_limit 35 = .ok (.aload_n 0, 1) := by decide +kernel
theorem dX10_limit_36 : decode cX10_limit 36 = .ok (.getfield 49, 3) := by decide +kernel
theorem dX10_limit_39 : decode cX10_limit 39 = .ok (.iload_n 1, 1) := by decide +kernel
theorem dX10_limit_40 : decode cX10_limit 40 = .ok (.putfield 231, 3) := by decide +kernel
theorem dX10_limit_43 : decode cX10_limit 43 = .ok (.aload_n 0, 1) := by decide +kernel
theorem dX10_limit_44 : decode cX10_limit 44 = .ok (.getfield 61, 3) := by decide +kernel
theorem dX10_limit_47 : decode cX10_limit 47 = .ok (.iconst 0, 1) := by decide +kernel
theorem dX10_limit_48 : decode cX10_limit 48 = .ok (.putfield 163, 3) := by decide +kernel
theorem dX10_limit_51 : decode cX10_limit 51 = .ok (.iload_n 2, 1) := by decide +kernel
theorem dX10_limit_52 : decode cX10_limit 52 = .ok (.ireturn, 1) := by decide +kernel
theorem dX10_step_0 : decode cX10_step 0 = .ok (.aload_n 0, 1) := by decide +kernel
theorem dX10_step_1 : decode cX10_step 1 = .ok (.getfield 40, 3) := by decide +kernel
theorem dX10_step_4 : decode cX10_step 4 = .ok (.iload_n 1, 1) := by decide +kernel
theorem dX10_step_5 : decode cX10_step 5 = .ok (.iload_n 2, 1) := by decide +kernel
theorem dX10_step_6 : decode cX10_step 6 = .ok (.invokevirtual 234, 3) := by decide +kernel
theorem dX10_step_9 : decode cX10_step 9 = .ok (.ifCond .ne 5, 3) := by decide +kernel
theorem dX10_step_12 : decode cX10_step 12 = .ok (.iconst (-1), 1) := by decide +kernel
theorem dX10_step_13 : decode cX10_step 13 = .ok (.ireturn, 1) := by decide +kernel
theorem dX10_step_14 : decode cX10_step 14 = .ok (.aload_n 0, 1) := by decide +kernel
theorem dX10_step_15 : decode cX10_step 15 = .ok (.getfield 49, 3) := by decide +kernel
theorem dX10_step_18 : decode cX10_step 18 = .ok (.iload_n 1, 1) := by decide +kernel
theorem dX10_step_19 : decode cX10_step 19 = .ok (.iload_n 2, 1) := by decide +kernel
theorem dX10_step_20 : decode cX10_step 20 = .ok (.invokevirtual 237, 3) := by decide +kernel
theorem dX10_step_23 : decode cX10_step 23 = .ok (.ifCond .ne 6, 3) := by decide +kernel
theorem dX10_step_26 : decode cX10_step 26 = .ok (.bipush (-4), 2) := by decide +kernel
theorem dX10_step_28 : decode cX10_step 28 = .ok (.ireturn, 1) := by decide +kernel
theorem dX10_step_29 : decode cX10_step 29 = .ok (.aload_n 0, 1) := by decide +kernel
theorem dX10_step_30 : decode cX10_step 30 = .ok (.getfield 61, 3) := by decide +kernel
theorem dX10_step_33 : decode cX10_step 33 = .ok (.invokevirtual 240, 3) := by decide +kernel
theorem dX10_step_36 : decode cX10_step 36 = .ok (.ifCond .eq 6, 3) := by decide +kernel
theorem dX10_step_39 : decode cX10_step 39 = .ok (.bipush (-2), 2) := by decide +kernel
theorem dX10_step_41 : decode cX10_step 41 = .ok (.ireturn, 1) := by decide +kernel
theorem dX10_step_42 : decode cX10_step 42 = .ok (.aload_n 0, 1) := by decide +kernel
theorem dX10_step_43 : decode cX10_step 43 = .ok (.iload_n 1, 1) := by decide +kernel
theorem dX10_step_44 : decode cX10_step 44 = .ok (.iload_n 2, 1) := by decide +kernel
theorem dX10_step_45 : decode cX10_step 45 = .ok (.invokevirtual 244, 3) := by decide +kernel
theorem dX10_step_48 : decode cX10_step 48 = .ok (.iconst 1, 1) := by decide +kernel
theorem dX10_step_49 : decode cX10_step 49 = .ok (.ireturn, 1) := by decide +kernel
theorem dX10_doStep_0 : decode cX10_doStep 0 = .ok (.aload_n 0, 1) := by decide +kernel
theorem dX10_doStep_1 : decode cX10_doStep 1 = .ok (.getfield 61, 3) := by decide +kernel
theorem dX10_doStep_4 : decode cX10_doStep 4 = .ok (.iload_n 1, 1) := by decide +kernel
theorem dX10_doStep_5 : decode cX10_doStep 5 = .ok (.aload_n 0, 1) := by decide +kernel
theorem dX10_doStep_6 : decode cX10_doStep 6 = .ok (.getfield 49, 3) := by decide +kernel
theorem dX10_doStep_9 : decode cX10_doStep 9 = .ok (.getfield 185, 3) := by decide +kernel
theorem dX10_doStep_12 : decode cX10_doStep 12 = .ok (.iload_n 1, 1) := by decide +kernel
theorem dX10_doStep_13 : decode cX10_doStep 13 = .ok (.iaload, 1) := by decide +kernel
theorem dX10_doStep_14 : decode cX10_doStep 14 = .ok (.invokevirtual 247, 3) := by decide +kernel
theorem dX10_doStep_17 : decode cX10_doStep 17 = .ok (.aload_n 0, 1) := by decide +kernel
theorem dX10_doStep_18 : decode cX10_doStep 18 = .ok (.getfield 49, 3) := by decide +kernel
theorem dX10_doStep_21 : decode cX10_doStep 21 = .ok (.iload_n 1, 1) := by decide +kernel
theorem dX10_doStep_22 : decode cX10_doStep 22 = .ok (.iload_n 2, 1) := by decide +kernel
theorem dX10_doStep_23 : decode cX10_doStep 23 = .ok (.invokevirtual 250, 3) := by decide +kernel
theorem dX10_doStep_26 : decode cX10_doStep 26 = .ok (.return_, 1) := by decide +kernel
theorem dX10_may_0 : decode cX10_may 0 = .ok (.aload_n 0, 1) := by decide +kernel
theorem dX10_may_1 : decode cX10_may 1 = .ok (.getfield 40, 3) := by decide +kernel
theorem dX10_may_4 : decode cX10_may 4 = .ok (.iload_n 1, 1) := by decide +kernel
theorem dX10_may_5 : decode cX10_may 5 = .ok (.iload_n 2, 1) := by decide +kernel
theorem dX10_may_6 : decode cX10_may 6 = .ok (.invokevirtual 234, 3) := by decide +kernel
theorem dX10_may_9 : decode cX10_may 9 = .ok (.ifCond .ne 5, 3) := by decide +kernel
theorem dX10_may_12 : decode cX10_may 12 = .ok (.iconst (-1), 1) := by decide +kernel
theorem dX10_may_13 : decode cX10_may 13 = .ok (.ireturn, 1) := by decide +kernel
theorem dX10_may_14 : decode cX10_may 14 = .ok (.aload_n 0, 1) := by decide +kernel
theorem dX10_may_15 : decode cX10_may 15 = .ok (.getfield 49, 3) := by decide +kernel
theorem dX10_may_18 : decode cX10_may 18 = .ok (.iload_n 1, 1) := by decide +kernel
theorem dX10_may_19 : decode cX10_may 19 = .ok (.iload_n 2, 1) := by decide +kernel
theorem dX10_may_20 : decode cX10_may 20 = .ok (.invokevirtual 237, 3) := by decide +kernel
theorem dX10_may_23 : decode cX10_may 23 = .ok (.ifCond .eq 7, 3) := by decide +kernel
theorem dX10_may_26 : decode cX10_may 26 = .ok (.iconst 1, 1) := by decide +kernel
theorem dX10_may_27 : decode cX10_may 27 = .ok (.goto 4, 3) := by decide +kernel
theorem dX10_may_30 : decode cX10_may 30 = .ok (.iconst 0, 1) := by decide +kernel
theorem dX10_may_31 : decode cX10_may 31 = .ok (.ireturn, 1) := by decide +kernel
theorem dX10_steps_0 : decode cX10_steps 0 = .ok (.iconst 0, 1) := by decide +kernel
theorem dX10_steps_1 : decode cX10_steps 1 = .ok (.istore_n 1, 1) := by decide +kernel
theorem dX10_steps_2 : decode cX10_steps 2 = .ok (.bipush (-9), 2) := by decide +kernel
theorem dX10_steps_4 : decode cX10_steps 4 = .ok (.istore_n 2, 1) := by decide +kernel
theorem dX10_steps_5 : decode cX10_steps 5 = .ok (.iconst 0, 1) := by decide +kernel
theorem dX10_steps_6 : decode cX10_steps 6 = .ok (.istore_n 3, 1) := by decide +kernel
theorem dX10_steps_7 : decode cX10_steps 7 = .ok (.iload_n 3, 1) := by decide +kernel
theorem dX10_steps_8 : decode cX10_steps 8 = .ok (.aload_n 0, 1) := by decide +kernel
theorem dX10_steps_9 : decode cX10_steps 9 = .ok (.getfield 40, 3) := by decide +kernel
theorem dX10_steps_12 : decode cX10_steps 12 = .ok (.getfield 173, 3) := by decide +kernel
theorem dX10_steps_15 : decode cX10_steps 15 = .ok (.if_icmp .ge 49, 3) := by decide +kernel
theorem dX10_steps_18 : decode cX10_steps 18 = .ok (.aload_n 0, 1) := by decide +kernel
theorem dX10_steps_19 : decode cX10_steps 19 = .ok (.getfield 49, 3) := by decide +kernel
theorem dX10_steps_22 : decode cX10_steps 22 = .ok (.iload_n 3, 1) := by decide +kernel
theorem dX10_steps_23 : decode cX10_steps 23 = .ok (.invokevirtual 253, 3) := by decide +kernel
theorem dX10_steps_26 : decode cX10_steps 26 = .ok (.istore 4, 2) := by decide +kernel
theorem dX10_steps_28 : decode cX10_steps 28 = .ok (.iload_n 1, 1) := by decide +kernel
theorem dX10_steps_29 : decode cX10_steps 29 = .ok (.iload 4, 2) := by decide +kernel
theorem dX10_steps_31 : decode cX10_steps 31 = .ok (.invokestatic 213, 3) := by decide +kernel
theorem dX10_steps_34 : decode cX10_steps 34 = .ok (.iadd, 1) := by decide +kernel
theorem dX10_steps_35 : decode cX10_steps 35 = .ok (.istore_n 1, 1) := by decide +kernel
theorem dX10_steps_36 : decode cX10_steps 36 = .ok (.iload_n 2, 1) := by decide +kernel
theorem dX10_steps_37 : decode cX10_steps 37 = .ok (.bipush (-9), 2) := by decide +kernel
theorem dX10_steps_39 : decode cX10_steps 39 = .ok (.if_icmp .ne 19, 3) := by decide +kernel
theorem dX10_steps_42 : decode cX10_steps 42 = .ok (.iload 4, 2) := by decide +kernel
theorem dX10_steps_44 : decode cX10_steps 44 = .ok (.ifCond .eq 14, 3) := by decide +kernel
theorem dX10_steps_47 : decode cX10_steps 47 = .ok (.bipush 7, 2) := by decide +kernel
theorem dX10_steps_49 : decode cX10_steps 49 = .ok (.iload_n 3, 1) := by decide +kernel
theorem dX10_steps_50 : decode cX10_steps 50 = .ok (.imul, 1) := by decide +kernel
theorem dX10_steps_51 : decode cX10_steps 51 = .ok (.iload 4, 2) := by decide +kernel
theorem dX10_steps_53 : decode cX10_steps 53 = .ok (.invokestatic 256, 3) := by decide +kernel
theorem dX10_steps_56 : decode cX10_steps 56 = .ok (.iadd, 1) := by decide +kernel
theorem dX10_steps_57 : decode cX10_steps 57 = .ok (.istore_n 2, 1) := by decide +kernel
theorem dX10_steps_58 : decode cX10_steps 58 = .ok (.iinc 3 1, 3) := by decide +kernel
theorem dX10_steps_61 : decode cX10_steps 61 = .ok (.goto (-54), 3) := by decide +kernel
theorem dX10_steps_64 : decode cX10_steps 64 = .ok (.aload_n 0, 1) := by decide +kernel
theorem dX10_steps_65 : decode cX10_steps 65 = .ok (.getfield 10, 3) := by decide +kernel
theorem dX10_steps_68 : decode cX10_steps 68 = .ok (.iload_n 2, 1) := by decide +kernel
theorem dX10_steps_69 : decode cX10_steps 69 = .ok (.invokevirtual 131, 3) := by decide +kernel
theorem dX10_steps_72 : decode cX10_steps 72 = .ok (.pop, 1) := by decide +kernel
theorem dX10_steps_73 : decode cX10_steps 73 = .ok (.iload_n 1, 1) := by decide +kernel
theorem dX10_steps_74 : decode cX10_steps 74 = .ok (.ireturn, 1) := by decide +kernel
theorem dX10_lowest_0 : decode cX10_lowest 0 = .ok (.iconst 0, 1) := by decide +kernel
theorem dX10_lowest_1 : decode cX10_lowest 1 = .ok (.istore_n 1, 1) := by decide +kernel
theorem dX10_lowest_2 : decode cX10_lowest 2 = .ok (.iload_n 1, 1) := by decide +kernel
theorem dX10_lowest_3 : decode cX10_lowest 3 = .ok (.bipush 7, 2) := by decide +kernel
theorem dX10_lowest_5 : decode cX10_lowest 5 = .ok (.if_icmp .ge 19, 3) := by decide +kernel
theorem dX10_lowest_8 : decode cX10_lowest 8 = .ok (.iload_n 0, 1) := by decide +kernel
theorem dX10_lowest_9 : decode cX10_lowest 9 = .ok (.iload_n 1, 1) := by decide +kernel
theorem dX10_lowest_10 : decode cX10_lowest 10 = .ok (.ishr, 1) := by decide +kernel
theorem dX10_lowest_11 : decode cX10_lowest 11 = .ok (.iconst 1, 1) := by decide +kernel
theorem dX10_lowest_12 : decode cX10_lowest 12 = .ok (.iand, 1) := by decide +kernel
theorem dX10_lowest_13 : decode cX10_lowest 13 = .ok (.ifCond .eq 5, 3) := by decide +kernel
theorem dX10_lowest_16 : decode cX10_lowest 16 = .ok (.iload_n 1, 1) := by decide +kernel
theorem dX10_lowest_17 : decode cX10_lowest 17 = .ok (.ireturn, 1) := by decide +kernel
theorem dX10_lowest_18 : decode cX10_lowest 18 = .ok (.iinc 1 1, 3) := by decide +kernel
theorem dX10_lowest_21 : decode cX10_lowest 21 = .ok (.goto (-19), 3) := by decide +kernel
theorem dX10_lowest_24 : decode cX10_lowest 24 = .ok (.bipush (-9), 2) := by decide +kernel
theorem dX10_lowest_26 : decode cX10_lowest 26 = .ok (.ireturn, 1) := by decide +kernel
theorem dX10_undo_0 : decode cX10_undo 0 = .ok (.iload_n 1, 1) := by decide +kernel
theorem dX10_undo_1 : decode cX10_undo 1 = .ok (.ifCond .lt 14, 3) := by decide +kernel
theorem dX10_undo_4 : decode cX10_undo 4 = .ok (.iload_n 1, 1) := by decide +kernel
theorem dX10_undo_5 : decode cX10_undo 5 = .ok (.aload_n 0, 1) := by decide +kernel
theorem dX10_undo_6 : decode cX10_undo 6 = .ok (.getfield 61, 3) := by decide +kernel
theorem dX10_undo_9 : decode cX10_undo 9 = .ok (.getfield 163, 3) := by decide +kernel
theorem dX10_undo_12 : decode cX10_undo 12 = .ok (.if_icmp .le 5, 3) := by decide +kernel
theorem dX10_undo_15 : decode cX10_undo 15 = .ok (.iconst (-1), 1) := by decide +kernel
theorem dX10_undo_16 : decode cX10_undo 16 = .ok (.ireturn, 1) := by decide +kernel
theorem dX10_undo_17 : decode cX10_undo 17 = .ok (.aload_n 0, 1) := by decide +kernel
theorem dX10_undo_18 : decode cX10_undo 18 = .ok (.getfield 61, 3) := by decide +kernel
theorem dX10_undo_21 : decode cX10_undo 21 = .ok (.getfield 163, 3) := by decide +kernel
theorem dX10_undo_24 : decode cX10_undo 24 = .ok (.iload_n 1, 1) := by decide +kernel
theorem dX10_undo_25 : decode cX10_undo 25 = .ok (.isub, 1) := by decide +kernel
theorem dX10_undo_26 : decode cX10_undo 26 = .ok (.istore_n 2, 1) := by decide +kernel
theorem dX10_undo_27 : decode cX10_undo 27 = .ok (.aload_n 0, 1) := by decide +kernel
theorem dX10_undo_28 : decode cX10_undo 28 = .ok (.getfield 61, 3) := by decide +kernel
theorem dX10_undo_31 : decode cX10_undo 31 = .ok (.getfield 163, 3) := by decide +kernel
theorem dX10_undo_34 : decode cX10_undo 34 = .ok (.iconst 1, 1) := by decide +kernel
theorem dX10_undo_35 : decode cX10_undo 35 = .ok (.isub, 1) := by decide +kernel
theorem dX10_undo_36 : decode cX10_undo 36 = .ok (.istore_n 3, 1) := by decide +kernel
theorem dX10_undo_37 : decode cX10_undo 37 = .ok (.iload_n 3, 1) := by decide +kernel
theorem dX10_undo_38 : decode cX10_undo 38 = .ok (.iload_n 1, 1) := by decide +kernel
theorem dX10_undo_39 : decode cX10_undo 39 = .ok (.if_icmp .lt 32, 3) := by decide +kernel
theorem dX10_undo_42 : decode cX10_undo 42 = .ok (.aload_n 0, 1) := by decide +kernel
theorem dX10_undo_43 : decode cX10_undo 43 = .ok (.getfield 49, 3) := by decide +kernel
theorem dX10_undo_46 : decode cX10_undo 46 = .ok (.aload_n 0, 1) := by decide +kernel
theorem dX10_undo_47 : decode cX10_undo 47 = .ok (.getfield 61, 3) := by decide +kernel
theorem dX10_undo_50 : decode cX10_undo 50 = .ok (.iload_n 3, 1) := by decide +kernel
theorem dX10_undo_51 : decode cX10_undo 51 = .ok (.invokevirtual 259, 3) := by decide +kernel
theorem dX10_undo_54 : decode cX10_undo 54 = .ok (.aload_n 0, 1) := by decide +kernel
theorem dX10_undo_55 : decode cX10_undo 55 = .ok (.getfield 61, 3) := by decide +kernel
theorem dX10_undo_58 : decode cX10_undo 58 = .ok (.iload_n 3, 1) := by decide +kernel
theorem dX10_undo_59 : decode cX10_undo 59 = .ok (.invokevirtual 262, 3) := by decide +kernel
theorem dX10_undo_62 : decode cX10_undo 62 = .ok (.invokevirtual 250, 3) := by decide +kernel
theorem dX10_undo_65 : decode cX10_undo 65 = .ok (.iinc 3 (-1), 3) := by decide +kernel
theorem dX10_undo_68 : decode cX10_undo 68 = .ok (.goto (-31), 3) := by decide +kernel
theorem dX10_undo_71 : decode cX10_undo 71 = .ok (.aload_n 0, 1) := by decide +kernel
theorem dX10_undo_72 : decode cX10_undo 72 = .ok (.getfield 61, 3) := by decide +kernel
theorem dX10_undo_75 : decode cX10_undo 75 = .ok (.iload_n 1, 1) := by decide +kernel
theorem dX10_undo_76 : decode cX10_undo 76 = .ok (.putfield 163, 3) := by decide +kernel
theorem dX10_undo_79 : decode cX10_undo 79 = .ok (.iload_n 2, 1) := by decide +kernel
theorem dX10_undo_80 : decode cX10_undo 80 = .ok (.ireturn, 1) := by decide +kernel
theorem dX10_does_0 : decode cX10_does 0 = .ok (.aload_n 0, 1) := by decide +kernel
theorem dX10_does_1 : decode cX10_does 1 = .ok (.getfield 21, 3) := by decide +kernel
theorem dX10_does_4 : decode cX10_does 4 = .ok (.iload_n 1, 1) := by decide +kernel
theorem dX10_does_5 : decode cX10_does 5 = .ok (.invokevirtual 105, 3) := by decide +kernel
theorem dX10_does_8 : decode cX10_does 8 = .ok (.ifCond .ne 5, 3) := by decide +kernel
theorem dX10_does_11 : decode cX10_does 11 = .ok (.iconst (-1), 1) := by decide +kernel
theorem dX10_does_12 : decode cX10_does 12 = .ok (.ireturn, 1) := by decide +kernel
theorem dX10_does_13 : decode cX10_does 13 = .ok (.aload_n 0, 1) := by decide +kernel
theorem dX10_does_14 : decode cX10_does 14 = .ok (.getfield 21, 3) := by decide +kernel
theorem dX10_does_17 : decode cX10_does 17 = .ok (.iload_n 1, 1) := by decide +kernel
theorem dX10_does_18 : decode cX10_does 18 = .ok (.invokevirtual 117, 3) := by decide +kernel
theorem dX10_does_21 : decode cX10_does 21 = .ok (.ifCond .eq 12, 3) := by decide +kernel
theorem dX10_does_24 : decode cX10_does 24 = .ok (.aload_n 0, 1) := by decide +kernel
theorem dX10_does_25 : decode cX10_does 25 = .ok (.getfield 10, 3) := by decide +kernel
theorem dX10_does_28 : decode cX10_does 28 = .ok (.iconst 1, 1) := by decide +kernel
theorem dX10_does_29 : decode cX10_does 29 = .ok (.invokevirtual 109, 3) := by decide +kernel
theorem dX10_does_32 : decode cX10_does 32 = .ok (.ireturn, 1) := by decide +kernel
theorem dX10_does_33 : decode cX10_does 33 = .ok (.aload_n 0, 1) := by decide +kernel
theorem dX10_does_34 : decode cX10_does 34 = .ok (.getfield 21, 3) := by decide +kernel
theorem dX10_does_37 : decode cX10_does 37 = .ok (.iload_n 1, 1) := by decide +kernel
theorem dX10_does_38 : decode cX10_does 38 = .ok (.invokevirtual 141, 3) := by decide +kernel
theorem dX10_does_41 : decode cX10_does 41 = .ok (.istore_n 2, 1) := by decide +kernel
theorem dX10_does_42 : decode cX10_does 42 = .ok (.iconst 0, 1) := by decide +kernel
theorem dX10_does_43 : decode cX10_does 43 = .ok (.istore_n 3, 1) := by decide +kernel
theorem dX10_does_44 : decode cX10_does 44 = .ok (.iload_n 3, 1) := by decide +kernel
theorem dX10_does_45 : decode cX10_does 45 = .ok (.iload_n 2, 1) := by decide +kernel
theorem dX10_does_46 : decode cX10_does 46 = .ok (.if_icmp .ge 37, 3) := by decide +kernel
theorem dX10_does_49 : decode cX10_does 49 = .ok (.aload_n 0, 1) := by decide +kernel
theorem dX10_does_50 : decode cX10_does 50 = .ok (.getfield 40, 3) := by decide +kernel
theorem dX10_does_53 : decode cX10_does 53 = .ok (.aload_n 0, 1) := by decide +kernel
theorem dX10_does_54 : decode cX10_does 54 = .ok (.getfield 21, 3) := by decide +kernel
theorem dX10_does_57 : decode cX10_does 57 = .ok (.iload_n 1, 1) := by decide +kernel
theorem dX10_does_58 : decode cX10_does 58 = .ok (.iload_n 3, 1) := by decide +kernel
theorem dX10_does_59 : decode cX10_does 59 = .ok (.invokevirtual 124, 3) := by decide +kernel
theorem dX10_does_62 : decode cX10_does 62 = .ok (.invokevirtual 265, 3) := by decide +kernel
theorem dX10_does_65 : decode cX10_does 65 = .ok (.ifCond .ne 12, 3) := by decide +kernel
theorem dX10_does_68 : decode cX10_does 68 = .ok (.aload_n 0, 1) := by decide +kernel
theorem dX10_does_69 : decode cX10_does 69 = .ok (.getfield 10, 3) := by decide +kernel
theorem dX10_does_72 : decode cX10_does 72 = .ok (.iconst 3, 1) := by decide +kernel
theorem dX10_does_73 : decode cX10_does 73 = .ok (.invokevirtual 109, 3) := by decide +kernel
theorem dX10_does_76 : decode cX10_does 76 = .ok (.ireturn, 1) := by decide +kernel
theorem dX10_does_77 : decode cX10_does 77 = .ok (.iinc 3 1, 3) := by decide +kernel
theorem dX10_does_80 : decode cX10_does 80 = .ok (.goto (-36), 3) := by decide +kernel
theorem dX10_does_83 : decode cX10_does 83 = .ok (.aload_n 0, 1) := by decide +kernel
theorem dX10_does_84 : decode cX10_does 84 = .ok (.getfield 61, 3) := by decide +kernel
theorem dX10_does_87 : decode cX10_does 87 = .ok (.getfield 163, 3) := by decide +kernel
theorem dX10_does_90 : decode cX10_does 90 = .ok (.iload_n 2, 1) := by decide +kernel
theorem dX10_does_91 : decode cX10_does 91 = .ok (.iadd, 1) := by decide +kernel
theorem dX10_does_92 : decode cX10_does 92 = .ok (.bipush 40, 2) := by decide +kernel
theorem dX10_does_94 : decode cX10_does 94 = .ok (.if_icmp .le 6, 3) := by decide +kernel
theorem dX10_does_97 : decode cX10_does 97 = .ok (.bipush (-2), 2) := by decide +kernel
theorem dX10_does_99 : decode cX10_does 99 = .ok (.ireturn, 1) := by decide +kernel
theorem dX10_does_100 : decode cX10_does 100 = .ok (.iconst 0, 1) := by decide +kernel
theorem dX10_does_101 : decode cX10_does 101 = .ok (.istore_n 3, 1) := by decide +kernel
theorem dX10_does_102 : decode cX10_does 102 = .ok (.iload_n 3, 1) := by decide +kernel
theorem dX10_does_103 : decode cX10_does 103 = .ok (.iload_n 2, 1) := by decide +kernel
theorem dX10_does_104 : decode cX10_does 104 = .ok (.if_icmp .ge 56, 3) := by decide +kernel
theorem dX10_does_107 : decode cX10_does 107 = .ok (.aload_n 0, 1) := by decide +kernel
theorem dX10_does_108 : decode cX10_does 108 = .ok (.getfield 21, 3) := by decide +kernel
theorem dX10_does_111 : decode cX10_does 111 = .ok (.iload_n 1, 1) := by decide +kernel
theorem dX10_does_112 : decode cX10_does 112 = .ok (.iload_n 3, 1) := by decide +kernel
theorem dX10_does_113 : decode cX10_does 113 = .ok (.invokevirtual 124, 3) := by decide +kernel
theorem dX10_does_116 : decode cX10_does 116 = .ok (.istore 4, 2) := by decide +kernel
theorem dX10_does_118 : decode cX10_does 118 = .ok (.aload_n 0, 1) := by decide +kernel
theorem dX10_does_119 : decode cX10_does 119 = .ok (.getfield 49, 3) := by decide +kernel
theorem dX10_does_122 : decode cX10_does 122 = .ok (.iload 4, 2) := by decide +kernel
theorem dX10_does_124 : decode cX10_does 124 = .ok (.bipush 7, 2) := by decide +kernel
theorem dX10_does_126 : decode cX10_does 126 = .ok (.idiv, 1) := by decide +kernel
theorem dX10_does_127 : decode cX10_does 127 = .ok (.iload 4, 2) := by decide +kernel
theorem dX10_does_129 : decode cX10_does 129 = .ok (.bipush 7, 2) := by decide +kernel
theorem dX10_does_131 : decode cX10_does 131 = .ok (.irem, 1) := by decide +kernel
theorem dX10_does_132 : decode cX10_does 132 = .ok (.invokevirtual 237, 3) := by decide +kernel
theorem dX10_does_135 : decode cX10_does 135 = .ok (.ifCond .ne 5, 3) := by decide +kernel
theorem dX10_does_138 : decode cX10_does 138 = .ok (.iload_n 3, 1) := by decide +kernel
theorem dX10_does_139 : decode cX10_does 139 = .ok (.ireturn, 1) := by decide +kernel
theorem dX10_does_140 : decode cX10_does 140 = .ok (.aload_n 0, 1) := by decide +kernel
theorem dX10_does_141 : decode cX10_does 141 = .ok (.iload 4, 2) := by decide +kernel
theorem dX10_does_143 : decode cX10_does 143 = .ok (.bipush 7, 2) := by decide +kernel
theorem dX10_does_145 : decode cX10_does 145 = .ok (.idiv, 1) := by decide +kernel
theorem dX10_does_146 : decode cX10_does 146 = .ok (.iload 4, 2) := by decide +kernel
theorem dX10_does_148 : decode cX10_does 148 = .ok (.bipush 7, 2) := by decide +kernel
theorem dX10_does_150 : decode cX10_does 150 = .ok (.irem, 1) := by decide +kernel
theorem dX10_does_151 : decode cX10_does 151 = .ok (.invokevirtual 244, 3) := by decide +kernel
theorem dX10_does_154 : decode cX10_does 154 = .ok (.iinc 3 1, 3) := by decide +kernel
theorem dX10_does_157 : decode cX10_does 157 = .ok (.goto (-55), 3) := by decide +kernel
theorem dX10_does_160 : decode cX10_does 160 = .ok (.iload_n 2, 1) := by decide +kernel
theorem dX10_does_161 : decode cX10_does 161 = .ok (.ireturn, 1) := by decide +kernel
theorem dX10_keep_0 : decode cX10_keep 0 = .ok (.iload_n 1, 1) := by decide +kernel
theorem dX10_keep_1 : decode cX10_keep 1 = .ok (.invokestatic 268, 3) := by decide +kernel
theorem dX10_keep_4 : decode cX10_keep 4 = .ok (.ifCond .ne 5, 3) := by decide +kernel
theorem dX10_keep_7 : decode cX10_keep 7 = .ok (.iconst (-1), 1) := by decide +kernel
theorem dX10_keep_8 : decode cX10_keep 8 = .ok (.ireturn, 1) := by decide +kernel
theorem dX10_keep_9 : decode cX10_keep 9 = .ok (.aload_n 0, 1) := by decide +kernel
theorem dX10_keep_10 : decode cX10_keep 10 = .ok (.getfield 40, 3) := by decide +kernel
theorem dX10_keep_13 : decode cX10_keep 13 = .ok (.getfield 271, 3) := by decide +kernel
theorem dX10_keep_16 : decode cX10_keep 16 = .ok (.ifCond .ne 6, 3) := by decide +kernel
theorem dX10_keep_19 : decode cX10_keep 19 = .ok (.bipush (-4), 2) := by decide +kernel
theorem dX10_keep_21 : decode cX10_keep 21 = .ok (.ireturn, 1) := by decide +kernel
theorem dX10_keep_22 : decode cX10_keep 22 = .ok (.aload_n 0, 1) := by decide +kernel
theorem dX10_keep_23 : decode cX10_keep 23 = .ok (.getfield 68, 3) := by decide +kernel
theorem dX10_keep_26 : decode cX10_keep 26 = .ok (.iload_n 1, 1) := by decide +kernel
theorem dX10_keep_27 : decode cX10_keep 27 = .ok (.aload_n 0, 1) := by decide +kernel
theorem dX10_keep_28 : decode cX10_keep 28 = .ok (.getfield 49, 3) := by decide +kernel
theorem dX10_keep_31 : decode cX10_keep 31 = .ok (.invokevirtual 274, 3) := by decide +kernel
theorem dX10_keep_34 : decode cX10_keep 34 = .ok (.iastore, 1) := by decide +kernel
theorem dX10_keep_35 : decode cX10_keep 35 = .ok (.aload_n 0, 1) := by decide +kernel
theorem dX10_keep_36 : decode cX10_keep 36 = .ok (.getfield 72, 3) := by decide +kernel
theorem dX10_keep_39 : decode cX10_keep 39 = .ok (.iload_n 1, 1) := by decide +kernel
theorem dX10_keep_40 : decode cX10_keep 40 = .ok (.aload_n 0, 1) := by decide +kernel
theorem dX10_keep_41 : decode cX10_keep 41 = .ok (.getfield 49, 3) := by decide +kernel
theorem dX10_keep_44 : decode cX10_keep 44 = .ok (.getfield 231, 3) := by decide +kernel
theorem dX10_keep_47 : decode cX10_keep 47 = .ok (.iastore, 1) := by decide +kernel
theorem dX10_keep_48 : decode cX10_keep 48 = .ok (.aload_n 0, 1) := by decide +kernel
theorem dX10_keep_49 : decode cX10_keep 49 = .ok (.getfield 61, 3) := by decide +kernel
theorem dX10_keep_52 : decode cX10_keep 52 = .ok (.getfield 163, 3) := by decide +kernel
theorem dX10_keep_55 : decode cX10_keep 55 = .ok (.ireturn, 1) := by decide +kernel
theorem dX10_isKeep_0 : decode cX10_isKeep 0 = .ok (.iload_n 0, 1) := by decide +kernel
theorem dX10_isKeep_1 : decode cX10_isKeep 1 = .ok (.ifCond .lt 12, 3) := by decide +kernel
theorem dX10_isKeep_4 : decode cX10_isKeep 4 = .ok (.iload_n 0, 1) := by decide +kernel
theorem dX10_isKeep_5 : decode cX10_isKeep 5 = .ok (.iconst 3, 1) := by decide +kernel
theorem dX10_isKeep_6 : decode cX10_isKeep 6 = .ok (.if_icmp .ge 7, 3) := by decide +kernel
theorem dX10_isKeep_9 : decode cX10_isKeep 9 = .ok (.iconst 1, 1) := by decide +kernel
theorem dX10_isKeep_10 : decode cX10_isKeep 10 = .ok (.goto 4, 3) := by decide +kernel
theorem dX10_isKeep_13 : decode cX10_isKeep 13 = .ok (.iconst 0, 1) := by decide +kernel
theorem dX10_isKeep_14 : decode cX10_isKeep 14 = .ok (.ireturn, 1) := by decide +kernel
theorem dX10_on_0 : decode cX10_on 0 = .ok (.iload_n 1, 1) := by decide +kernel
theorem dX10_on_1 : decode cX10_on 1 = .ok (.invokestatic 268, 3) := by decide +kernel
theorem dX10_on_4 : decode cX10_on 4 = .ok (.ifCond .ne 5, 3) := by decide +kernel
theorem dX10_on_7 : decode cX10_on 7 = .ok (.iconst (-1), 1) := by decide +kernel
theorem dX10_on_8 : decode cX10_on 8 = .ok (.ireturn, 1) := by decide +kernel
theorem dX10_on_9 : decode cX10_on 9 = .ok (.aload_n 0, 1) := by decide +kernel
theorem dX10_on_10 : decode cX10_on 10 = .ok (.getfield 72, 3) := by decide +kernel
theorem dX10_on_13 : decode cX10_on 13 = .ok (.iload_n 1, 1) := by decide +kernel
theorem dX10_on_14 : decode cX10_on 14 = .ok (.iaload, 1) := by decide +kernel
theorem dX10_on_15 : decode cX10_on 15 = .ok (.ifCond .ne 12, 3) := by decide +kernel
theorem dX10_on_18 : decode cX10_on 18 = .ok (.aload_n 0, 1) := by decide +kernel
theorem dX10_on_19 : decode cX10_on 19 = .ok (.getfield 10, 3) := by decide +kernel
theorem dX10_on_22 : decode cX10_on 22 = .ok (.iconst 1, 1) := by decide +kernel
theorem dX10_on_23 : decode cX10_on 23 = .ok (.invokevirtual 109, 3) := by decide +kernel
theorem dX10_on_26 : decode cX10_on 26 = .ok (.ireturn, 1) := by decide +kernel
theorem dX10_on_27 : decode cX10_on 27 = .ok (.aload_n 0, 1) := by decide +kernel
theorem dX10_on_28 : decode cX10_on 28 = .ok (.aload_n 0, 1) := by decide +kernel
theorem dX10_on_29 : decode cX10_on 29 = .ok (.getfield 68, 3) := by decide +kernel
theorem dX10_on_32 : decode cX10_on 32 = .ok (.iload_n 1, 1) := by decide +kernel
theorem dX10_on_33 : decode cX10_on 33 = .ok (.iaload, 1) := by decide +kernel
theorem dX10_on_34 : decode cX10_on 34 = .ok (.aload_n 0, 1) := by decide +kernel
theorem dX10_on_35 : decode cX10_on 35 = .ok (.getfield 72, 3) := by decide +kernel
theorem dX10_on_38 : decode cX10_on 38 = .ok (.iload_n 1, 1) := by decide +kernel
theorem dX10_on_39 : decode cX10_on 39 = .ok (.iaload, 1) := by decide +kernel
theorem dX10_on_40 : decode cX10_on 40 = .ok (.invokevirtual 277, 3) := by decide +kernel
theorem dX10_on_43 : decode cX10_on 43 = .ok (.iconst 1, 1) := by decide +kernel
theorem dX10_on_44 : decode cX10_on 44 = .ok (.ireturn, 1) := by decide +kernel
theorem dX10_goOnFrom_0 : decode cX10_goOnFrom 0 = .ok (.aload_n 0, 1) := by decide +kernel
theorem dX10_goOnFrom_1 : decode cX10_goOnFrom 1 = .ok (.getfield 49, 3) := by decide +kernel
theorem dX10_goOnFrom_4 : decode cX10_goOnFrom 4 = .ok (.iload_n 1, 1) := by decide +kernel
theorem dX10_goOnFrom_5 : decode cX10_goOnFrom 5 = .ok (.invokevirtual 280, 3) := by decide +kernel
theorem dX10_goOnFrom_8 : decode cX10_goOnFrom 8 = .ok (.aload_n 0, 1) := by decide +kernel
theorem dX10_goOnFrom_9 : decode cX10_goOnFrom 9 = .ok (.getfield 49, 3) := by decide +kernel
theorem dX10_goOnFrom_12 : decode cX10_goOnFrom 12 = .ok (.iload_n 2, 1) := by decide +kernel
theorem dX10_goOnFrom_13 : decode cX10_goOnFrom 13 = .ok (.putfield 231, 3) := by decide +kernel
theorem dX10_goOnFrom_16 : decode cX10_goOnFrom 16 = .ok (.aload_n 0, 1) := by decide +kernel
theorem dX10_goOnFrom_17 : decode cX10_goOnFrom 17 = .ok (.getfield 61, 3) := by decide +kernel
theorem dX10_goOnFrom_20 : decode cX10_goOnFrom 20 = .ok (.iconst 0, 1) := by decide +kernel
theorem dX10_goOnFrom_21 : decode cX10_goOnFrom 21 = .ok (.putfield 163, 3) := by decide +kernel
theorem dX10_goOnFrom_24 : decode cX10_goOnFrom 24 = .ok (.return_, 1) := by decide +kernel
theorem dX10_can_0 : decode cX10_can 0 = .ok (.aload_n 0, 1) := by decide +kernel
theorem dX10_can_1 : decode cX10_can 1 = .ok (.getfield 49, 3) := by decide +kernel
theorem dX10_can_4 : decode cX10_can 4 = .ok (.invokevirtual 283, 3) := by decide +kernel
theorem dX10_can_7 : decode cX10_can 7 = .ok (.istore_n 1, 1) := by decide +kernel
theorem dX10_can_8 : decode cX10_can 8 = .ok (.aload_n 0, 1) := by decide +kernel
theorem dX10_can_9 : decode cX10_can 9 = .ok (.getfield 10, 3) := by decide +kernel
theorem dX10_can_12 : decode cX10_can 12 = .ok (.aload_n 0, 1) := by decide +kernel
theorem dX10_can_13 : decode cX10_can 13 = .ok (.getfield 40, 3) := by decide +kernel
theorem dX10_can_16 : decode cX10_can 16 = .ok (.iload_n 1, 1) := by decide +kernel
theorem dX10_can_17 : decode cX10_can 17 = .ok (.invokevirtual 286, 3) := by decide +kernel
theorem dX10_can_20 : decode cX10_can 20 = .ok (.invokevirtual 131, 3) := by decide +kernel
theorem dX10_can_23 : decode cX10_can 23 = .ok (.pop, 1) := by decide +kernel
theorem dX10_can_24 : decode cX10_can 24 = .ok (.iload_n 1, 1) := by decide +kernel
theorem dX10_can_25 : decode cX10_can 25 = .ok (.ireturn, 1) := by decide +kernel
theorem dX10_day_0 : decode cX10_day 0 = .ok (.aload_n 0, 1) := by decide +kernel
theorem dX10_day_1 : decode cX10_day 1 = .ok (.getfield 21, 3) := by decide +kernel
theorem dX10_day_4 : decode cX10_day 4 = .ok (.iload_n 1, 1) := by decide +kernel
theorem dX10_day_5 : decode cX10_day 5 = .ok (.invokevirtual 105, 3) := by decide +kernel
theorem dX10_day_8 : decode cX10_day 8 = .ok (.ifCond .ne 5, 3) := by decide +kernel
theorem dX10_day_11 : decode cX10_day 11 = .ok (.iconst (-1), 1) := by decide +kernel
theorem dX10_day_12 : decode cX10_day 12 = .ok (.ireturn, 1) := by decide +kernel
theorem dX10_day_13 : decode cX10_day 13 = .ok (.aload_n 0, 1) := by decide +kernel
theorem dX10_day_14 : decode cX10_day 14 = .ok (.getfield 21, 3) := by decide +kernel
theorem dX10_day_17 : decode cX10_day 17 = .ok (.iload_n 1, 1) := by decide +kernel
theorem dX10_day_18 : decode cX10_day 18 = .ok (.invokevirtual 117, 3) := by decide +kernel
theorem dX10_day_21 : decode cX10_day 21 = .ok (.ifCond .eq 12, 3) := by decide +kernel
theorem dX10_day_24 : decode cX10_day 24 = .ok (.aload_n 0, 1) := by decide +kernel
theorem dX10_day_25 : decode cX10_day 25 = .ok (.getfield 10, 3) := by decide +kernel
theorem dX10_day_28 : decode cX10_day 28 = .ok (.iconst 1, 1) := by decide +kernel
theorem dX10_day_29 : decode cX10_day 29 = .ok (.invokevirtual 109, 3) := by decide +kernel
theorem dX10_day_32 : decode cX10_day 32 = .ok (.ireturn, 1) := by decide +kernel
theorem dX10_day_33 : decode cX10_day 33 = .ok (.aload_n 0, 1) := by decide +kernel
theorem dX10_day_34 : decode cX10_day 34 = .ok (.getfield 21, 3) := by decide +kernel
theorem dX10_day_37 : decode cX10_day 37 = .ok (.iload_n 1, 1) := by decide +kernel
theorem dX10_day_38 : decode cX10_day 38 = .ok (.invokevirtual 141, 3) := by decide +kernel
theorem dX10_day_41 : decode cX10_day 41 = .ok (.istore_n 2, 1) := by decide +kernel
theorem dX10_day_42 : decode cX10_day 42 = .ok (.iload_n 2, 1) := by decide +kernel
theorem dX10_day_43 : decode cX10_day 43 = .ok (.ifCond .eq 18, 3) := by decide +kernel
theorem dX10_day_46 : decode cX10_day 46 = .ok (.iload_n 2, 1) := by decide +kernel
theorem dX10_day_47 : decode cX10_day 47 = .ok (.bipush 6, 2) := by decide +kernel
theorem dX10_day_49 : decode cX10_day 49 = .ok (.irem, 1) := by decide +kernel
theorem dX10_day_50 : decode cX10_day 50 = .ok (.ifCond .ne 11, 3) := by decide +kernel
theorem dX10_day_53 : decode cX10_day 53 = .ok (.iload_n 2, 1) := by decide +kernel
theorem dX10_day_54 : decode cX10_day 54 = .ok (.bipush 6, 2) := by decide +kernel
theorem dX10_day_56 : decode cX10_day 56 = .ok (.idiv, 1) := by decide +kernel
theorem dX10_day_57 : decode cX10_day 57 = .ok (.iconst 4, 1) := by decide +kernel
theorem dX10_day_58 : decode cX10_day 58 = .ok (.if_icmp .le 12, 3) := by decide +kernel
theorem dX10_day_61 : decode cX10_day 61 = .ok (.aload_n 0, 1) := by decide +kernel
theorem dX10_day_62 : decode cX10_day 62 = .ok (.getfield 10, 3) := by decide +kernel
theorem dX10_day_65 : decode cX10_day 65 = .ok (.iconst 5, 1) := by decide +kernel
theorem dX10_day_66 : decode cX10_day 66 = .ok (.invokevirtual 109, 3) := by decide +kernel
theorem dX10_day_69 : decode cX10_day 69 = .ok (.ireturn, 1) := by decide +kernel
theorem dX10_day_70 : decode cX10_day 70 = .ok (.iconst 0, 1) := by decide +kernel
theorem dX10_day_71 : decode cX10_day 71 = .ok (.istore_n 3, 1) := by decide +kernel
theorem dX10_day_72 : decode cX10_day 72 = .ok (.iload_n 3, 1) := by decide +kernel
theorem dX10_day_73 : decode cX10_day 73 = .ok (.iload_n 2, 1) := by decide +kernel
theorem dX10_day_74 : decode cX10_day 74 = .ok (.if_icmp .ge 47, 3) := by decide +kernel
theorem dX10_day_77 : decode cX10_day 77 = .ok (.aload_n 0, 1) := by decide +kernel
theorem dX10_day_78 : decode cX10_day 78 = .ok (.getfield 21, 3) := by decide +kernel
theorem dX10_day_81 : decode cX10_day 81 = .ok (.iload_n 1, 1) := by decide +kernel
theorem dX10_day_82 : decode cX10_day 82 = .ok (.iload_n 3, 1) := by decide +kernel
theorem dX10_day_83 : decode cX10_day 83 = .ok (.invokevirtual 124, 3) := by decide +kernel
theorem dX10_day_86 : decode cX10_day 86 = .ok (.istore 4, 2) := by decide +kernel
theorem dX10_day_88 : decode cX10_day 88 = .ok (.iload 4, 2) := by decide +kernel
theorem dX10_day_90 : decode cX10_day 90 = .ok (.iconst (-1), 1) := by decide +kernel
theorem dX10_day_91 : decode cX10_day 91 = .ok (.if_icmp .eq 24, 3) := by decide +kernel
theorem dX10_day_94 : decode cX10_day 94 = .ok (.aload_n 0, 1) := by decide +kernel
theorem dX10_day_95 : decode cX10_day 95 = .ok (.getfield 40, 3) := by decide +kernel
theorem dX10_day_98 : decode cX10_day 98 = .ok (.iload 4, 2) := by decide +kernel
theorem dX10_day_100 : decode cX10_day 100 = .ok (.invokevirtual 265, 3) := by decide +kernel
theorem dX10_day_103 : decode cX10_day 103 = .ok (.ifCond .ne 12, 3) := by decide +kernel
theorem dX10_day_106 : decode cX10_day 106 = .ok (.aload_n 0, 1) := by decide +kernel
theorem dX10_day_107 : decode cX10_day 107 = .ok (.getfield 10, 3) := by decide +kernel
theorem dX10_day_110 : decode cX10_day 110 = .ok (.iconst 3, 1) := by decide +kernel
theorem dX10_day_111 : decode cX10_day 111 = .ok (.invokevirtual 109, 3) := by decide +kernel
theorem dX10_day_114 : decode cX10_day 114 = .ok (.ireturn, 1) := by decide +kernel
theorem dX10_day_115 : decode cX10_day 115 = .ok (.iinc 3 1, 3) := by decide +kernel
theorem dX10_day_118 : decode cX10_day 118 = .ok (.goto (-46), 3) := by decide +kernel
theorem dX10_day_121 : decode cX10_day 121 = .ok (.aload_n 0, 1) := by decide +kernel
theorem dX10_day_122 : decode cX10_day 122 = .ok (.iload_n 1, 1) := by decide +kernel
theorem dX10_day_123 : decode cX10_day 123 = .ok (.iload_n 2, 1) := by decide +kernel
theorem dX10_day_124 : decode cX10_day 124 = .ok (.bipush 6, 2) := by decide +kernel
theorem dX10_day_126 : decode cX10_day 126 = .ok (.idiv, 1) := by decide +kernel
theorem dX10_day_127 : decode cX10_day 127 = .ok (.invokevirtual 289, 3) := by decide +kernel
theorem dX10_day_130 : decode cX10_day 130 = .ok (.istore_n 3, 1) := by decide +kernel
theorem dX10_day_131 : decode cX10_day 131 = .ok (.aload_n 0, 1) := by decide +kernel
theorem dX10_day_132 : decode cX10_day 132 = .ok (.getfield 10, 3) := by decide +kernel
theorem dX10_day_135 : decode cX10_day 135 = .ok (.aload_n 0, 1) := by decide +kernel
theorem dX10_day_136 : decode cX10_day 136 = .ok (.getfield 40, 3) := by decide +kernel
theorem dX10_day_139 : decode cX10_day 139 = .ok (.iload_n 3, 1) := by decide +kernel
theorem dX10_day_140 : decode cX10_day 140 = .ok (.invokevirtual 286, 3) := by decide +kernel
theorem dX10_day_143 : decode cX10_day 143 = .ok (.invokevirtual 131, 3) := by decide +kernel
theorem dX10_day_146 : decode cX10_day 146 = .ok (.pop, 1) := by decide +kernel
theorem dX10_day_147 : decode cX10_day 147 = .ok (.iload_n 3, 1) := by decide +kernel
theorem dX10_day_148 : decode cX10_day 148 = .ok (.ireturn, 1) := by decide +kernel
theorem dX10_worksOfDay_0 : decode cX10_worksOfDay 0 = .ok (.iconst 0, 1) := by decide +kernel
theorem dX10_worksOfDay_1 : decode cX10_worksOfDay 1 = .ok (.istore_n 3, 1) := by decide +kernel
theorem dX10_worksOfDay_2 : decode cX10_worksOfDay 2 = .ok (.aload_n 0, 1) := by decide +kernel
theorem dX10_worksOfDay_3 : decode cX10_worksOfDay 3 = .ok (.getfield 53, 3) := by decide +kernel
theorem dX10_worksOfDay_6 : decode cX10_worksOfDay 6 = .ok (.aload_n 0, 1) := by decide +kernel
theorem dX10_worksOfDay_7 : decode cX10_worksOfDay 7 = .ok (.getfield 49, 3) := by decide +kernel
theorem dX10_worksOfDay_10 : decode cX10_worksOfDay 10 = .ok (.invokevirtual 292, 3) := by decide +kernel
theorem dX10_worksOfDay_13 : decode cX10_worksOfDay 13 = .ok (.iconst 0, 1) := by decide +kernel
theorem dX10_worksOfDay_14 : decode cX10_worksOfDay 14 = .ok (.istore 4, 2) := by decide +kernel
theorem dX10_worksOfDay_16 : decode cX10_worksOfDay 16 = .ok (.iload 4, 2) := by decide +kernel
theorem dX10_worksOfDay_18 : decode cX10_worksOfDay 18 = .ok (.bipush 6, 2) := by decide +kernel
theorem dX10_worksOfDay_20 : decode cX10_worksOfDay 20 = .ok (.if_icmp .ge 112, 3) := by decide +kernel
theorem dX10_worksOfDay_23 : decode cX10_worksOfDay 23 = .ok (.iload 4, 2) := by decide +kernel
theorem dX10_worksOfDay_25 : decode cX10_worksOfDay 25 = .ok (.iload_n 2, 1) := by decide +kernel
theorem dX10_worksOfDay_26 : decode cX10_worksOfDay 26 = .ok (.imul, 1) := by decide +kernel
theorem dX10_worksOfDay_27 : decode cX10_worksOfDay 27 = .ok (.istore 5, 2) := by decide +kernel
theorem dX10_worksOfDay_29 : decode cX10_worksOfDay 29 = .ok (.iload 5, 2) := by decide +kernel
theorem dX10_worksOfDay_31 : decode cX10_worksOfDay 31 = .ok (.iload 4, 2) := by decide +kernel
theorem dX10_worksOfDay_33 : decode cX10_worksOfDay 33 = .ok (.iconst 1, 1) := by decide +kernel
theorem dX10_worksOfDay_34 : decode cX10_worksOfDay 34 = .ok (.iadd, 1) := by decide +kernel
theorem dX10_worksOfDay_35 : decode cX10_worksOfDay 35 = .ok (.iload_n 2, 1) := by decide +kernel
theorem dX10_worksOfDay_36 : decode cX10_worksOfDay 36 = .ok (.imul, 1) := by decide +kernel
theorem dX10_worksOfDay_37 : decode cX10_worksOfDay 37 = .ok (.if_icmp .ge 68, 3) := by decide +kernel
theorem dX10_worksOfDay_40 : decode cX10_worksOfDay 40 = .ok (.aload_n 0, 1) := by decide +kernel
theorem dX10_worksOfDay_41 : decode cX10_worksOfDay 41 = .ok (.getfield 21, 3) := by decide +kernel
theorem dX10_worksOfDay_44 : decode cX10_worksOfDay 44 = .ok (.iload_n 1, 1) := by decide +kernel
theorem dX10_worksOfDay_45 : decode cX10_worksOfDay 45 = .ok (.iload 5, 2) := by decide +kernel
theorem dX10_worksOfDay_47 : decode cX10_worksOfDay 47 = .ok (.invokevirtual 124, 3) := by decide +kernel
theorem dX10_worksOfDay_50 : decode cX10_worksOfDay 50 = .ok (.istore 6, 2) := by decide +kernel
theorem dX10_worksOfDay_52 : decode cX10_worksOfDay 52 = .ok (.iload 6, 2) := by decide +kernel
theorem dX10_worksOfDay_54 : decode cX10_worksOfDay 54 = .ok (.ifCond .ge 6, 3) := by decide +kernel
theorem dX10_worksOfDay_57 : decode cX10_worksOfDay 57 = .ok (.goto 42, 3) := by decide +kernel
theorem dX10_worksOfDay_60 : decode cX10_worksOfDay 60 = .ok (.iload 6, 2) := by decide +kernel
theorem dX10_worksOfDay_62 : decode cX10_worksOfDay 62 = .ok (.bipush 7, 2) := by decide +kernel
theorem dX10_worksOfDay_64 : decode cX10_worksOfDay 64 = .ok (.idiv, 1) := by decide +kernel
theorem dX10_worksOfDay_65 : decode cX10_worksOfDay 65 = .ok (.istore 7, 2) := by decide +kernel
theorem dX10_worksOfDay_67 : decode cX10_worksOfDay 67 = .ok (.iload 6, 2) := by decide +kernel
theorem dX10_worksOfDay_69 : decode cX10_worksOfDay 69 = .ok (.bipush 7, 2) := by decide +kernel
theorem dX10_worksOfDay_71 : decode cX10_worksOfDay 71 = .ok (.irem, 1) := by decide +kernel
theorem dX10_worksOfDay_72 : decode cX10_worksOfDay 72 = .ok (.istore 8, 2) := by decide +kernel
theorem dX10_worksOfDay_74 : decode cX10_worksOfDay 74 = .ok (.aload_n 0, 1) := by decide +kernel
theorem dX10_worksOfDay_75 : decode cX10_worksOfDay 75 = .ok (.getfield 53, 3) := by decide +kernel
theorem dX10_worksOfDay_78 : decode cX10_worksOfDay 78 = .ok (.iload 7, 2) := by decide +kernel
theorem dX10_worksOfDay_80 : decode cX10_worksOfDay 80 = .ok (.iload 8, 2) := by decide +kernel
theorem dX10_worksOfDay_82 : decode cX10_worksOfDay 82 = .ok (.invokevirtual 237, 3) := by decide +kernel
theorem dX10_worksOfDay_85 : decode cX10_worksOfDay 85 = .ok (.ifCond .eq 14, 3) := by decide +kernel
theorem dX10_worksOfDay_88 : decode cX10_worksOfDay 88 = .ok (.aload_n 0, 1) := by decide +kernel
theorem dX10_worksOfDay_89 : decode cX10_worksOfDay 89 = .ok (.getfield 53, 3) := by decide +kernel
theorem dX10_worksOfDay_92 : decode cX10_worksOfDay 92 = .ok (.iload 7, 2) := by decide +kernel

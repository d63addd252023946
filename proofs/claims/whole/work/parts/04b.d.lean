theorem dX3_doable_6 : decode cX3_doable 6 = .ok (.getfield 28, 3) := by decide +kernel
theorem dX3_doable_9 : decode cX3_doable 9 = .ok (.getfield 107, 3) := by decide +kernel
theorem dX3_doable_12 : decode cX3_doable 12 = .ok (.if_icmp .ge 44, 3) := by decide +kernel
theorem dX3_doable_15 : decode cX3_doable 15 = .ok (.aload_n 0, 1) := by decide +kernel
theorem dX3_doable_16 : decode cX3_doable 16 = .ok (.getfield 28, 3) := by decide +kernel
theorem dX3_doable_19 : decode cX3_doable 19 = .ok (.getfield 110, 3) := by decide +kernel
theorem dX3_doable_22 : decode cX3_doable 22 = .ok (.iload_n 2, 1) := by decide +kernel
theorem dX3_doable_23 : decode cX3_doable 23 = .ok (.iaload, 1) := by decide +kernel
theorem dX3_doable_24 : decode cX3_doable 24 = .ok (.aload_n 0, 1) := by decide +kernel
theorem dX3_doable_25 : decode cX3_doable 25 = .ok (.getfield 18, 3) := by decide +kernel
theorem dX3_doable_28 : decode cX3_doable 28 = .ok (.aload_n 0, 1) := by decide +kernel
theorem dX3_doable_29 : decode cX3_doable 29 = .ok (.getfield 28, 3) := by decide +kernel
theorem dX3_doable_32 : decode cX3_doable 32 = .ok (.getfield 113, 3) := by decide +kernel
theorem dX3_doable_35 : decode cX3_doable 35 = .ok (.iload_n 2, 1) := by decide +kernel
theorem dX3_doable_36 : decode cX3_doable 36 = .ok (.iaload, 1) := by decide +kernel
theorem dX3_doable_37 : decode cX3_doable 37 = .ok (.iaload, 1) := by decide +kernel
theorem dX3_doable_38 : decode cX3_doable 38 = .ok (.iconst (-1), 1) := by decide +kernel
theorem dX3_doable_39 : decode cX3_doable 39 = .ok (.ixor, 1) := by decide +kernel
theorem dX3_doable_40 : decode cX3_doable 40 = .ok (.iand, 1) := by decide +kernel
theorem dX3_doable_41 : decode cX3_doable 41 = .ok (.ifCond .ne 9, 3) := by decide +kernel
theorem dX3_doable_44 : decode cX3_doable 44 = .ok (.iload_n 1, 1) := by decide +kernel
theorem dX3_doable_45 : decode cX3_doable 45 = .ok (.iconst 1, 1) := by decide +kernel
theorem dX3_doable_46 : decode cX3_doable 46 = .ok (.iload_n 2, 1) := by decide +kernel
theorem dX3_doable_47 : decode cX3_doable 47 = .ok (.ishl, 1) := by decide +kernel
theorem dX3_doable_48 : decode cX3_doable 48 = .ok (.ior, 1) := by decide +kernel
theorem dX3_doable_49 : decode cX3_doable 49 = .ok (.istore_n 1, 1) := by decide +kernel
theorem dX3_doable_50 : decode cX3_doable 50 = .ok (.iinc 2 1, 3) := by decide +kernel
theorem dX3_doable_53 : decode cX3_doable 53 = .ok (.goto (-49), 3) := by decide +kernel
theorem dX3_doable_56 : decode cX3_doable 56 = .ok (.iload_n 1, 1) := by decide +kernel
theorem dX3_doable_57 : decode cX3_doable 57 = .ok (.ireturn, 1) := by decide +kernel
theorem dX3_droppedFor_0 : decode cX3_droppedFor 0 = .ok (.aload_n 0, 1) := by decide +kernel
theorem dX3_droppedFor_1 : decode cX3_droppedFor 1 = .ok (.getfield 28, 3) := by decide +kernel
theorem dX3_droppedFor_4 : decode cX3_droppedFor 4 = .ok (.iload_n 1, 1) := by decide +kernel
theorem dX3_droppedFor_5 : decode cX3_droppedFor 5 = .ok (.invokevirtual 116, 3) := by decide +kernel
theorem dX3_droppedFor_8 : decode cX3_droppedFor 8 = .ok (.ifCond .eq 14, 3) := by decide +kernel
theorem dX3_droppedFor_11 : decode cX3_droppedFor 11 = .ok (.aload_n 0, 1) := by decide +kernel
theorem dX3_droppedFor_12 : decode cX3_droppedFor 12 = .ok (.getfield 28, 3) := by decide +kernel
theorem dX3_droppedFor_15 : decode cX3_droppedFor 15 = .ok (.iload_n 2, 1) := by decide +kernel
theorem dX3_droppedFor_16 : decode cX3_droppedFor 16 = .ok (.invokevirtual 119, 3) := by decide +kernel
theorem dX3_droppedFor_19 : decode cX3_droppedFor 19 = .ok (.ifCond .ne 6, 3) := by decide +kernel
theorem dX3_droppedFor_22 : decode cX3_droppedFor 22 = .ok (.bipush (-9), 2) := by decide +kernel
theorem dX3_droppedFor_24 : decode cX3_droppedFor 24 = .ok (.ireturn, 1) := by decide +kernel
theorem dX3_droppedFor_25 : decode cX3_droppedFor 25 = .ok (.aload_n 0, 1) := by decide +kernel
theorem dX3_droppedFor_26 : decode cX3_droppedFor 26 = .ok (.getfield 15, 3) := by decide +kernel
theorem dX3_droppedFor_29 : decode cX3_droppedFor 29 = .ok (.iload_n 2, 1) := by decide +kernel
theorem dX3_droppedFor_30 : decode cX3_droppedFor 30 = .ok (.iaload, 1) := by decide +kernel
theorem dX3_droppedFor_31 : decode cX3_droppedFor 31 = .ok (.aload_n 0, 1) := by decide +kernel
theorem dX3_droppedFor_32 : decode cX3_droppedFor 32 = .ok (.getfield 28, 3) := by decide +kernel
theorem dX3_droppedFor_35 : decode cX3_droppedFor 35 = .ok (.getfield 62, 3) := by decide +kernel
theorem dX3_droppedFor_38 : decode cX3_droppedFor 38 = .ok (.iload_n 1, 1) := by decide +kernel
theorem dX3_droppedFor_39 : decode cX3_droppedFor 39 = .ok (.iaload, 1) := by decide +kernel
theorem dX3_droppedFor_40 : decode cX3_droppedFor 40 = .ok (.iadd, 1) := by decide +kernel
theorem dX3_droppedFor_41 : decode cX3_droppedFor 41 = .ok (.aload_n 0, 1) := by decide +kernel
theorem dX3_droppedFor_42 : decode cX3_droppedFor 42 = .ok (.getfield 24, 3) := by decide +kernel
theorem dX3_droppedFor_45 : decode cX3_droppedFor 45 = .ok (.isub, 1) := by decide +kernel
theorem dX3_droppedFor_46 : decode cX3_droppedFor 46 = .ok (.istore_n 3, 1) := by decide +kernel
theorem dX3_droppedFor_47 : decode cX3_droppedFor 47 = .ok (.iconst 0, 1) := by decide +kernel
theorem dX3_droppedFor_48 : decode cX3_droppedFor 48 = .ok (.istore 4, 2) := by decide +kernel
theorem dX3_droppedFor_50 : decode cX3_droppedFor 50 = .ok (.iconst 0, 1) := by decide +kernel
theorem dX3_droppedFor_51 : decode cX3_droppedFor 51 = .ok (.istore 5, 2) := by decide +kernel
theorem dX3_droppedFor_53 : decode cX3_droppedFor 53 = .ok (.iload 5, 2) := by decide +kernel
theorem dX3_droppedFor_55 : decode cX3_droppedFor 55 = .ok (.aload_n 0, 1) := by decide +kernel
theorem dX3_droppedFor_56 : decode cX3_droppedFor 56 = .ok (.getfield 28, 3) := by decide +kernel
theorem dX3_droppedFor_59 : decode cX3_droppedFor 59 = .ok (.getfield 46, 3) := by decide +kernel
theorem dX3_droppedFor_62 : decode cX3_droppedFor 62 = .ok (.if_icmp .ge 61, 3) := by decide +kernel
theorem dX3_droppedFor_65 : decode cX3_droppedFor 65 = .ok (.iload_n 3, 1) := by decide +kernel
theorem dX3_droppedFor_66 : decode cX3_droppedFor 66 = .ok (.ifCond .le 57, 3) := by decide +kernel
theorem dX3_droppedFor_69 : decode cX3_droppedFor 69 = .ok (.aload_n 0, 1) := by decide +kernel
theorem dX3_droppedFor_70 : decode cX3_droppedFor 70 = .ok (.getfield 9, 3) := by decide +kernel
theorem dX3_droppedFor_73 : decode cX3_droppedFor 73 = .ok (.iload 5, 2) := by decide +kernel
theorem dX3_droppedFor_75 : decode cX3_droppedFor 75 = .ok (.iaload, 1) := by decide +kernel
theorem dX3_droppedFor_76 : decode cX3_droppedFor 76 = .ok (.iload_n 2, 1) := by decide +kernel
theorem dX3_droppedFor_77 : decode cX3_droppedFor 77 = .ok (.if_icmp .ne 40, 3) := by decide +kernel
theorem dX3_droppedFor_80 : decode cX3_droppedFor 80 = .ok (.aload_n 0, 1) := by decide +kernel
theorem dX3_droppedFor_81 : decode cX3_droppedFor 81 = .ok (.getfield 28, 3) := by decide +kernel
theorem dX3_droppedFor_84 : decode cX3_droppedFor 84 = .ok (.iload 5, 2) := by decide +kernel
theorem dX3_droppedFor_86 : decode cX3_droppedFor 86 = .ok (.invokevirtual 87, 3) := by decide +kernel
theorem dX3_droppedFor_89 : decode cX3_droppedFor 89 = .ok (.ifCond .eq 6, 3) := by decide +kernel
theorem dX3_droppedFor_92 : decode cX3_droppedFor 92 = .ok (.goto 25, 3) := by decide +kernel
theorem dX3_droppedFor_95 : decode cX3_droppedFor 95 = .ok (.iload 4, 2) := by decide +kernel
theorem dX3_droppedFor_97 : decode cX3_droppedFor 97 = .ok (.iconst 1, 1) := by decide +kernel
theorem dX3_droppedFor_98 : decode cX3_droppedFor 98 = .ok (.iload 5, 2) := by decide +kernel
theorem dX3_droppedFor_100 : decode cX3_droppedFor 100 = .ok (.ishl, 1) := by decide +kernel
theorem dX3_droppedFor_101 : decode cX3_droppedFor 101 = .ok (.ior, 1) := by decide +kernel
theorem dX3_droppedFor_102 : decode cX3_droppedFor 102 = .ok (.istore 4, 2) := by decide +kernel
theorem dX3_droppedFor_104 : decode cX3_droppedFor 104 = .ok (.iload_n 3, 1) := by decide +kernel
theorem dX3_droppedFor_105 : decode cX3_droppedFor 105 = .ok (.aload_n 0, 1) := by decide +kernel
theorem dX3_droppedFor_106 : decode cX3_droppedFor 106 = .ok (.getfield 28, 3) := by decide +kernel
theorem dX3_droppedFor_109 : decode cX3_droppedFor 109 = .ok (.getfield 62, 3) := by decide +kernel
theorem dX3_droppedFor_112 : decode cX3_droppedFor 112 = .ok (.iload 5, 2) := by decide +kernel
theorem dX3_droppedFor_114 : decode cX3_droppedFor 114 = .ok (.iaload, 1) := by decide +kernel
theorem dX3_droppedFor_115 : decode cX3_droppedFor 115 = .ok (.isub, 1) := by decide +kernel
theorem dX3_droppedFor_116 : decode cX3_droppedFor 116 = .ok (.istore_n 3, 1) := by decide +kernel
theorem dX3_droppedFor_117 : decode cX3_droppedFor 117 = .ok (.iinc 5 1, 3) := by decide +kernel
theorem dX3_droppedFor_120 : decode cX3_droppedFor 120 = .ok (.goto (-67), 3) := by decide +kernel
theorem dX3_droppedFor_123 : decode cX3_droppedFor 123 = .ok (.iload_n 3, 1) := by decide +kernel
theorem dX3_droppedFor_124 : decode cX3_droppedFor 124 = .ok (.ifCond .le 8, 3) := by decide +kernel
theorem dX3_droppedFor_127 : decode cX3_droppedFor 127 = .ok (.bipush (-9), 2) := by decide +kernel
theorem dX3_droppedFor_129 : decode cX3_droppedFor 129 = .ok (.goto 5, 3) := by decide +kernel
theorem dX3_droppedFor_132 : decode cX3_droppedFor 132 = .ok (.iload 4, 2) := by decide +kernel
theorem dX3_droppedFor_134 : decode cX3_droppedFor 134 = .ok (.ireturn, 1) := by decide +kernel
theorem dX4_init_0 : decode cX4_init 0 = .ok (.aload_n 0, 1) := by decide +kernel
theorem dX4_init_1 : decode cX4_init 1 = .ok (.invokespecial 3, 3) := by decide +kernel
theorem dX4_init_4 : decode cX4_init 4 = .ok (.aload_n 0, 1) := by decide +kernel
theorem dX4_init_5 : decode cX4_init 5 = .ok (.new 9, 3) := by decide +kernel
theorem dX4_init_8 : decode cX4_init 8 = .ok (.dup, 1) := by decide +kernel
theorem dX4_init_9 : decode cX4_init 9 = .ok (.invokespecial 11, 3) := by decide +kernel
theorem dX4_init_12 : decode cX4_init 12 = .ok (.putfield 12, 3) := by decide +kernel
theorem dX4_init_15 : decode cX4_init 15 = .ok (.aload_n 0, 1) := by decide +kernel
theorem dX4_init_16 : decode cX4_init 16 = .ok (.iconst 4, 1) := by decide +kernel
theorem dX4_init_17 : decode cX4_init 17 = .ok (.newarray .int, 2) := by decide +kernel
theorem dX4_init_19 : decode cX4_init 19 = .ok (.putfield 18, 3) := by decide +kernel
theorem dX4_init_22 : decode cX4_init 22 = .ok (.aload_n 0, 1) := by decide +kernel
theorem dX4_init_23 : decode cX4_init 23 = .ok (.aload_n 1, 1) := by decide +kernel
theorem dX4_init_24 : decode cX4_init 24 = .ok (.putfield 22, 3) := by decide +kernel
theorem dX4_init_27 : decode cX4_init 27 = .ok (.return_, 1) := by decide +kernel
theorem dX4_firstFault_0 : decode cX4_firstFault 0 = .ok (.aload_n 0, 1) := by decide +kernel
theorem dX4_firstFault_1 : decode cX4_firstFault 1 = .ok (.iload_n 1, 1) := by decide +kernel
theorem dX4_firstFault_2 : decode cX4_firstFault 2 = .ok (.putfield 26, 3) := by decide +kernel
theorem dX4_firstFault_5 : decode cX4_firstFault 5 = .ok (.aload_n 0, 1) := by decide +kernel
theorem dX4_firstFault_6 : decode cX4_firstFault 6 = .ok (.iconst 0, 1) := by decide +kernel
theorem dX4_firstFault_7 : decode cX4_firstFault 7 = .ok (.putfield 30, 3) := by decide +kernel
theorem dX4_firstFault_10 : decode cX4_firstFault 10 = .ok (.aload_n 0, 1) := by decide +kernel
theorem dX4_firstFault_11 : decode cX4_firstFault 11 = .ok (.getfield 12, 3) := by decide +kernel
theorem dX4_firstFault_14 : decode cX4_firstFault 14 = .ok (.invokevirtual 33, 3) := by decide +kernel
theorem dX4_firstFault_17 : decode cX4_firstFault 17 = .ok (.aload_n 0, 1) := by decide +kernel
theorem dX4_firstFault_18 : decode cX4_firstFault 18 = .ok (.getfield 18, 3) := by decide +kernel
theorem dX4_firstFault_21 : decode cX4_firstFault 21 = .ok (.iconst 0, 1) := by decide +kernel
theorem dX4_firstFault_22 : decode cX4_firstFault 22 = .ok (.invokestatic 36, 3) := by decide +kernel
theorem dX4_firstFault_25 : decode cX4_firstFault 25 = .ok (.aload_n 0, 1) := by decide +kernel
theorem dX4_firstFault_26 : decode cX4_firstFault 26 = .ok (.invokevirtual 42, 3) := by decide +kernel
theorem dX4_firstFault_29 : decode cX4_firstFault 29 = .ok (.aload_n 0, 1) := by decide +kernel
theorem dX4_firstFault_30 : decode cX4_firstFault 30 = .ok (.invokevirtual 45, 3) := by decide +kernel
theorem dX4_firstFault_33 : decode cX4_firstFault 33 = .ok (.istore_n 2, 1) := by decide +kernel
theorem dX4_firstFault_34 : decode cX4_firstFault 34 = .ok (.iconst 0, 1) := by decide +kernel
theorem dX4_firstFault_35 : decode cX4_firstFault 35 = .ok (.istore_n 3, 1) := by decide +kernel
theorem dX4_firstFault_36 : decode cX4_firstFault 36 = .ok (.iload_n 3, 1) := by decide +kernel
theorem dX4_firstFault_37 : decode cX4_firstFault 37 = .ok (.bipush 100, 2) := by decide +kernel
theorem dX4_firstFault_39 : decode cX4_firstFault 39 = .ok (.if_icmp .ge 51, 3) := by decide +kernel
theorem dX4_firstFault_42 : decode cX4_firstFault 42 = .ok (.iload_n 2, 1) := by decide +kernel
theorem dX4_firstFault_43 : decode cX4_firstFault 43 = .ok (.ifCond .eq 47, 3) := by decide +kernel
theorem dX4_firstFault_46 : decode cX4_firstFault 46 = .ok (.aload_n 0, 1) := by decide +kernel
theorem dX4_firstFault_47 : decode cX4_firstFault 47 = .ok (.invokevirtual 42, 3) := by decide +kernel
theorem dX4_firstFault_50 : decode cX4_firstFault 50 = .ok (.aload_n 0, 1) := by decide +kernel
theorem dX4_firstFault_51 : decode cX4_firstFault 51 = .ok (.invokevirtual 49, 3) := by decide +kernel
theorem dX4_firstFault_54 : decode cX4_firstFault 54 = .ok (.sipush 256, 3) := by decide +kernel
theorem dX4_firstFault_57 : decode cX4_firstFault 57 = .ok (.if_icmp .ne 6, 3) := by decide +kernel
theorem dX4_firstFault_60 : decode cX4_firstFault 60 = .ok (.bipush (-9), 2) := by decide +kernel
theorem dX4_firstFault_62 : decode cX4_firstFault 62 = .ok (.ireturn, 1) := by decide +kernel
theorem dX4_firstFault_63 : decode cX4_firstFault 63 = .ok (.aload_n 0, 1) := by decide +kernel
theorem dX4_firstFault_64 : decode cX4_firstFault 64 = .ok (.invokevirtual 49, 3) := by decide +kernel
theorem dX4_firstFault_67 : decode cX4_firstFault 67 = .ok (.bipush 119, 2) := by decide +kernel
theorem dX4_firstFault_69 : decode cX4_firstFault 69 = .ok (.if_icmp .ne 10, 3) := by decide +kernel
theorem dX4_firstFault_72 : decode cX4_firstFault 72 = .ok (.aload_n 0, 1) := by decide +kernel
theorem dX4_firstFault_73 : decode cX4_firstFault 73 = .ok (.invokevirtual 53, 3) := by decide +kernel
theorem dX4_firstFault_76 : decode cX4_firstFault 76 = .ok (.goto 7, 3) := by decide +kernel
theorem dX4_firstFault_79 : decode cX4_firstFault 79 = .ok (.aload_n 0, 1) := by decide +kernel
theorem dX4_firstFault_80 : decode cX4_firstFault 80 = .ok (.invokevirtual 56, 3) := by decide +kernel
theorem dX4_firstFault_83 : decode cX4_firstFault 83 = .ok (.istore_n 2, 1) := by decide +kernel
theorem dX4_firstFault_84 : decode cX4_firstFault 84 = .ok (.iinc 3 1, 3) := by decide +kernel
theorem dX4_firstFault_87 : decode cX4_firstFault 87 = .ok (.goto (-51), 3) := by decide +kernel
theorem dX4_firstFault_90 : decode cX4_firstFault 90 = .ok (.aload_n 0, 1) := by decide +kernel
theorem dX4_firstFault_91 : decode cX4_firstFault 91 = .ok (.getfield 30, 3) := by decide +kernel
theorem dX4_firstFault_94 : decode cX4_firstFault 94 = .ok (.ireturn, 1) := by decide +kernel
theorem dX4_sign_0 : decode cX4_sign 0 = .ok (.aload_n 0, 1) := by decide +kernel
theorem dX4_sign_1 : decode cX4_sign 1 = .ok (.getfield 22, 3) := by decide +kernel
theorem dX4_sign_4 : decode cX4_sign 4 = .ok (.aload_n 0, 1) := by decide +kernel
theorem dX4_sign_5 : decode cX4_sign 5 = .ok (.getfield 26, 3) := by decide +kernel
theorem dX4_sign_8 : decode cX4_sign 8 = .ok (.aload_n 0, 1) := by decide +kernel
theorem dX4_sign_9 : decode cX4_sign 9 = .ok (.getfield 30, 3) := by decide +kernel
theorem dX4_sign_12 : decode cX4_sign 12 = .ok (.iconst 1, 1) := by decide +kernel
theorem dX4_sign_13 : decode cX4_sign 13 = .ok (.invokevirtual 59, 3) := by decide +kernel
theorem dX4_sign_16 : decode cX4_sign 16 = .ok (.ifCond .eq 21, 3) := by decide +kernel
theorem dX4_sign_19 : decode cX4_sign 19 = .ok (.aload_n 0, 1) := by decide +kernel
theorem dX4_sign_20 : decode cX4_sign 20 = .ok (.getfield 22, 3) := by decide +kernel
theorem dX4_sign_23 : decode cX4_sign 23 = .ok (.aload_n 0, 1) := by decide +kernel
theorem dX4_sign_24 : decode cX4_sign 24 = .ok (.getfield 26, 3) := by decide +kernel
theorem dX4_sign_27 : decode cX4_sign 27 = .ok (.aload_n 0, 1) := by decide +kernel
theorem dX4_sign_28 : decode cX4_sign 28 = .ok (.getfield 30, 3) := by decide +kernel
theorem dX4_sign_31 : decode cX4_sign 31 = .ok (.invokevirtual 65, 3) := by decide +kernel
theorem dX4_sign_34 : decode cX4_sign 34 = .ok (.goto 6, 3) := by decide +kernel
theorem dX4_sign_37 : decode cX4_sign 37 = .ok (.sipush 256, 3) := by decide +kernel
theorem dX4_sign_40 : decode cX4_sign 40 = .ok (.ireturn, 1) := by decide +kernel
theorem dX4_skipBlanks_0 : decode cX4_skipBlanks 0 = .ok (.iconst 0, 1) := by decide +kernel
theorem dX4_skipBlanks_1 : decode cX4_skipBlanks 1 = .ok (.istore_n 1, 1) := by decide +kernel
theorem dX4_skipBlanks_2 : decode cX4_skipBlanks 2 = .ok (.iload_n 1, 1) := by decide +kernel
theorem dX4_skipBlanks_3 : decode cX4_skipBlanks 3 = .ok (.bipush 100, 2) := by decide +kernel
theorem dX4_skipBlanks_5 : decode cX4_skipBlanks 5 = .ok (.if_icmp .ge 28, 3) := by decide +kernel
theorem dX4_skipBlanks_8 : decode cX4_skipBlanks 8 = .ok (.aload_n 0, 1) := by decide +kernel
theorem dX4_skipBlanks_9 : decode cX4_skipBlanks 9 = .ok (.invokevirtual 49, 3) := by decide +kernel
theorem dX4_skipBlanks_12 : decode cX4_skipBlanks 12 = .ok (.bipush 32, 2) := by decide +kernel
theorem dX4_skipBlanks_14 : decode cX4_skipBlanks 14 = .ok (.if_icmp .ne 19, 3) := by decide +kernel
theorem dX4_skipBlanks_17 : decode cX4_skipBlanks 17 = .ok (.aload_n 0, 1) := by decide +kernel
theorem dX4_skipBlanks_18 : decode cX4_skipBlanks 18 = .ok (.dup, 1) := by decide +kernel
theorem dX4_skipBlanks_19 : decode cX4_skipBlanks 19 = .ok (.getfield 30, 3) := by decide +kernel
theorem dX4_skipBlanks_22 : decode cX4_skipBlanks 22 = .ok (.iconst 1, 1) := by decide +kernel
theorem dX4_skipBlanks_23 : decode cX4_skipBlanks 23 = .ok (.iadd, 1) := by decide +kernel
theorem dX4_skipBlanks_24 : decode cX4_skipBlanks 24 = .ok (.putfield 30, 3) := by decide +kernel
theorem dX4_skipBlanks_27 : decode cX4_skipBlanks 27 = .ok (.iinc 1 1, 3) := by decide +kernel
theorem dX4_skipBlanks_30 : decode cX4_skipBlanks 30 = .ok (.goto (-28), 3) := by decide +kernel
theorem dX4_skipBlanks_33 : decode cX4_skipBlanks 33 = .ok (.return_, 1) := by decide +kernel
theorem dX4_figure_0 : decode cX4_figure 0 = .ok (.aload_n 0, 1) := by decide +kernel
theorem dX4_figure_1 : decode cX4_figure 1 = .ok (.invokevirtual 49, 3) := by decide +kernel
theorem dX4_figure_4 : decode cX4_figure 4 = .ok (.bipush 48, 2) := by decide +kernel
theorem dX4_figure_6 : decode cX4_figure 6 = .ok (.isub, 1) := by decide +kernel
theorem dX4_figure_7 : decode cX4_figure 7 = .ok (.istore_n 3, 1) := by decide +kernel
theorem dX4_figure_8 : decode cX4_figure 8 = .ok (.iload_n 3, 1) := by decide +kernel
theorem dX4_figure_9 : decode cX4_figure 9 = .ok (.iload_n 1, 1) := by decide +kernel
theorem dX4_figure_10 : decode cX4_figure 10 = .ok (.if_icmp .lt 8, 3) := by decide +kernel
theorem dX4_figure_13 : decode cX4_figure 13 = .ok (.iload_n 3, 1) := by decide +kernel
theorem dX4_figure_14 : decode cX4_figure 14 = .ok (.iload_n 2, 1) := by decide +kernel
theorem dX4_figure_15 : decode cX4_figure 15 = .ok (.if_icmp .le 5, 3) := by decide +kernel
theorem dX4_figure_18 : decode cX4_figure 18 = .ok (.iconst (-1), 1) := by decide +kernel
theorem dX4_figure_19 : decode cX4_figure 19 = .ok (.ireturn, 1) := by decide +kernel
theorem dX4_figure_20 : decode cX4_figure 20 = .ok (.aload_n 0, 1) := by decide +kernel
theorem dX4_figure_21 : decode cX4_figure 21 = .ok (.dup, 1) := by decide +kernel
theorem dX4_figure_22 : decode cX4_figure 22 = .ok (.getfield 30, 3) := by decide +kernel
theorem dX4_figure_25 : decode cX4_figure 25 = .ok (.iconst 1, 1) := by decide +kernel
theorem dX4_figure_26 : decode cX4_figure 26 = .ok (.iadd, 1) := by decide +kernel
theorem dX4_figure_27 : decode cX4_figure 27 = .ok (.putfield 30, 3) := by decide +kernel
theorem dX4_figure_30 : decode cX4_figure 30 = .ok (.iload_n 3, 1) := by decide +kernel
theorem dX4_figure_31 : decode cX4_figure 31 = .ok (.ireturn, 1) := by decide +kernel
theorem dX4_readPeople_0 : decode cX4_readPeople 0 = .ok (.aload_n 0, 1) := by decide +kernel
theorem dX4_readPeople_1 : decode cX4_readPeople 1 = .ok (.invokevirtual 49, 3) := by decide +kernel
theorem dX4_readPeople_4 : decode cX4_readPeople 4 = .ok (.bipush 112, 2) := by decide +kernel
theorem dX4_readPeople_6 : decode cX4_readPeople 6 = .ok (.if_icmp .eq 5, 3) := by decide +kernel
theorem dX4_readPeople_9 : decode cX4_readPeople 9 = .ok (.iconst 0, 1) := by decide +kernel
theorem dX4_readPeople_10 : decode cX4_readPeople 10 = .ok (.ireturn, 1) := by decide +kernel
theorem dX4_readPeople_11 : decode cX4_readPeople 11 = .ok (.aload_n 0, 1) := by decide +kernel
theorem dX4_readPeople_12 : decode cX4_readPeople 12 = .ok (.dup, 1) := by decide +kernel
theorem dX4_readPeople_13 : decode cX4_readPeople 13 = .ok (.getfield 30, 3) := by decide +kernel
theorem dX4_readPeople_16 : decode cX4_readPeople 16 = .ok (.iconst 1, 1) := by decide +kernel
theorem dX4_readPeople_17 : decode cX4_readPeople 17 = .ok (.iadd, 1) := by decide +kernel
theorem dX4_readPeople_18 : decode cX4_readPeople 18 = .ok (.putfield 30, 3) := by decide +kernel
theorem dX4_readPeople_21 : decode cX4_readPeople 21 = .ok (.aload_n 0, 1) := by decide +kernel
theorem dX4_readPeople_22 : decode cX4_readPeople 22 = .ok (.iconst 1, 1) := by decide +kernel
theorem dX4_readPeople_23 : decode cX4_readPeople 23 = .ok (.iconst 4, 1) := by decide +kernel
theorem dX4_readPeople_24 : decode cX4_readPeople 24 = .ok (.invokevirtual 69, 3) := by decide +kernel
theorem dX4_readPeople_27 : decode cX4_readPeople 27 = .ok (.istore_n 1, 1) := by decide +kernel
theorem dX4_readPeople_28 : decode cX4_readPeople 28 = .ok (.aload_n 0, 1) := by decide +kernel
theorem dX4_readPeople_29 : decode cX4_readPeople 29 = .ok (.getfield 12, 3) := by decide +kernel
theorem dX4_readPeople_32 : decode cX4_readPeople 32 = .ok (.iload_n 1, 1) := by decide +kernel
theorem dX4_readPeople_33 : decode cX4_readPeople 33 = .ok (.iconst 0, 1) := by decide +kernel
theorem dX4_readPeople_34 : decode cX4_readPeople 34 = .ok (.invokestatic 72, 3) := by decide +kernel
theorem dX4_readPeople_37 : decode cX4_readPeople 37 = .ok (.putfield 77, 3) := by decide +kernel
theorem dX4_readPeople_40 : decode cX4_readPeople 40 = .ok (.iload_n 1, 1) := by decide +kernel
theorem dX4_readPeople_41 : decode cX4_readPeople 41 = .ok (.ifCond .le 7, 3) := by decide +kernel
theorem dX4_readPeople_44 : decode cX4_readPeople 44 = .ok (.iconst 1, 1) := by decide +kernel
theorem dX4_readPeople_45 : decode cX4_readPeople 45 = .ok (.goto 4, 3) := by decide +kernel
theorem dX4_readPeople_48 : decode cX4_readPeople 48 = .ok (.iconst 0, 1) := by decide +kernel
theorem dX4_readPeople_49 : decode cX4_readPeople 49 = .ok (.ireturn, 1) := by decide +kernel
theorem dX4_readThing_0 : decode cX4_readThing 0 = .ok (.aload_n 0, 1) := by decide +kernel
theorem dX4_readThing_1 : decode cX4_readThing 1 = .ok (.invokevirtual 49, 3) := by decide +kernel
theorem dX4_readThing_4 : decode cX4_readThing 4 = .ok (.invokestatic 80, 3) := by decide +kernel
theorem dX4_readThing_7 : decode cX4_readThing 7 = .ok (.istore_n 1, 1) := by decide +kernel
theorem dX4_readThing_8 : decode cX4_readThing 8 = .ok (.iload_n 1, 1) := by decide +kernel
theorem dX4_readThing_9 : decode cX4_readThing 9 = .ok (.iconst 1, 1) := by decide +kernel
theorem dX4_readThing_10 : decode cX4_readThing 10 = .ok (.if_icmp .eq 8, 3) := by decide +kernel
theorem dX4_readThing_13 : decode cX4_readThing 13 = .ok (.iload_n 1, 1) := by decide +kernel
theorem dX4_readThing_14 : decode cX4_readThing 14 = .ok (.iconst 4, 1) := by decide +kernel
theorem dX4_readThing_15 : decode cX4_readThing 15 = .ok (.if_icmp .ne 7, 3) := by decide +kernel
theorem dX4_readThing_18 : decode cX4_readThing 18 = .ok (.iconst 1, 1) := by decide +kernel
theorem dX4_readThing_19 : decode cX4_readThing 19 = .ok (.goto 4, 3) := by decide +kernel
theorem dX4_readThing_22 : decode cX4_readThing 22 = .ok (.iconst 0, 1) := by decide +kernel
theorem dX4_readThing_23 : decode cX4_readThing 23 = .ok (.istore_n 2, 1) := by decide +kernel
theorem dX4_readThing_24 : decode cX4_readThing 24 = .ok (.iload_n 1, 1) := by decide +kernel
theorem dX4_readThing_25 : decode cX4_readThing 25 = .ok (.ifCond .lt 24, 3) := by decide +kernel
theorem dX4_readThing_28 : decode cX4_readThing 28 = .ok (.aload_n 0, 1) := by decide +kernel
theorem dX4_readThing_29 : decode cX4_readThing 29 = .ok (.getfield 12, 3) := by decide +kernel
theorem dX4_readThing_32 : decode cX4_readThing 32 = .ok (.getfield 84, 3) := by decide +kernel
theorem dX4_readThing_35 : decode cX4_readThing 35 = .ok (.ifCond .gt 14, 3) := by decide +kernel
theorem dX4_readThing_38 : decode cX4_readThing 38 = .ok (.aload_n 0, 1) := by decide +kernel
theorem dX4_readThing_39 : decode cX4_readThing 39 = .ok (.getfield 12, 3) := by decide +kernel
theorem dX4_readThing_42 : decode cX4_readThing 42 = .ok (.getfield 87, 3) := by decide +kernel
theorem dX4_readThing_45 : decode cX4_readThing 45 = .ok (.iconst 5, 1) := by decide +kernel
theorem dX4_readThing_46 : decode cX4_readThing 46 = .ok (.if_icmp .ne 5, 3) := by decide +kernel
theorem dX4_readThing_49 : decode cX4_readThing 49 = .ok (.iconst 0, 1) := by decide +kernel
theorem dX4_readThing_50 : decode cX4_readThing 50 = .ok (.ireturn, 1) := by decide +kernel
theorem dX4_readThing_51 : decode cX4_readThing 51 = .ok (.iload_n 2, 1) := by decide +kernel
theorem dX4_readThing_52 : decode cX4_readThing 52 = .ok (.ifCond .eq 16, 3) := by decide +kernel
theorem dX4_readThing_55 : decode cX4_readThing 55 = .ok (.aload_n 0, 1) := by decide +kernel
theorem dX4_readThing_56 : decode cX4_readThing 56 = .ok (.getfield 12, 3) := by decide +kernel
theorem dX4_readThing_59 : decode cX4_readThing 59 = .ok (.getfield 90, 3) := by decide +kernel
theorem dX4_readThing_62 : decode cX4_readThing 62 = .ok (.iconst 2, 1) := by decide +kernel
theorem dX4_readThing_63 : decode cX4_readThing 63 = .ok (.if_icmp .ne 5, 3) := by decide +kernel
theorem dX4_readThing_66 : decode cX4_readThing 66 = .ok (.iconst 0, 1) := by decide +kernel
theorem dX4_readThing_67 : decode cX4_readThing 67 = .ok (.ireturn, 1) := by decide +kernel
theorem dX4_readThing_68 : decode cX4_readThing 68 = .ok (.aload_n 0, 1) := by decide +kernel
theorem dX4_readThing_69 : decode cX4_readThing 69 = .ok (.dup, 1) := by decide +kernel
theorem dX4_readThing_70 : decode cX4_readThing 70 = .ok (.getfield 30, 3) := by decide +kernel
theorem dX4_readThing_73 : decode cX4_readThing 73 = .ok (.iconst 1, 1) := by decide +kernel
theorem dX4_readThing_74 : decode cX4_readThing 74 = .ok (.iadd, 1) := by decide +kernel
theorem dX4_readThing_75 : decode cX4_readThing 75 = .ok (.putfield 30, 3) := by decide +kernel
theorem dX4_readThing_78 : decode cX4_readThing 78 = .ok (.aload_n 0, 1) := by decide +kernel
theorem dX4_readThing_79 : decode cX4_readThing 79 = .ok (.invokevirtual 49, 3) := by decide +kernel
theorem dX4_readThing_82 : decode cX4_readThing 82 = .ok (.bipush 122, 2) := by decide +kernel
theorem dX4_readThing_84 : decode cX4_readThing 84 = .ok (.if_icmp .ne 36, 3) := by decide +kernel
theorem dX4_readThing_87 : decode cX4_readThing 87 = .ok (.iload_n 1, 1) := by decide +kernel
theorem dX4_readThing_88 : decode cX4_readThing 88 = .ok (.iconst 2, 1) := by decide +kernel
theorem dX4_readThing_89 : decode cX4_readThing 89 = .ok (.if_icmp .eq 8, 3) := by decide +kernel
theorem dX4_readThing_92 : decode cX4_readThing 92 = .ok (.iload_n 1, 1) := by decide +kernel
theorem dX4_readThing_93 : decode cX4_readThing 93 = .ok (.iconst 5, 1) := by decide +kernel
theorem dX4_readThing_94 : decode cX4_readThing 94 = .ok (.if_icmp .ne 5, 3) := by decide +kernel
theorem dX4_readThing_97 : decode cX4_readThing 97 = .ok (.iconst 0, 1) := by decide +kernel
theorem dX4_readThing_98 : decode cX4_readThing 98 = .ok (.ireturn, 1) := by decide +kernel
theorem dX4_readThing_99 : decode cX4_readThing 99 = .ok (.aload_n 0, 1) := by decide +kernel
theorem dX4_readThing_100 : decode cX4_readThing 100 = .ok (.getfield 12, 3) := by decide +kernel
theorem dX4_readThing_103 : decode cX4_readThing 103 = .ok (.iload_n 1, 1) := by decide +kernel
theorem dX4_readThing_104 : decode cX4_readThing 104 = .ok (.iconst 4, 1) := by decide +kernel
theorem dX4_readThing_105 : decode cX4_readThing 105 = .ok (.invokevirtual 93, 3) := by decide +kernel
theorem dX4_readThing_108 : decode cX4_readThing 108 = .ok (.aload_n 0, 1) := by decide +kernel
theorem dX4_readThing_109 : decode cX4_readThing 109 = .ok (.dup, 1) := by decide +kernel
theorem dX4_readThing_110 : decode cX4_readThing 110 = .ok (.getfield 30, 3) := by decide +kernel
theorem dX4_readThing_113 : decode cX4_readThing 113 = .ok (.iconst 1, 1) := by decide +kernel
theorem dX4_readThing_114 : decode cX4_readThing 114 = .ok (.iadd, 1) := by decide +kernel
theorem dX4_readThing_115 : decode cX4_readThing 115 = .ok (.putfield 30, 3) := by decide +kernel
theorem dX4_readThing_118 : decode cX4_readThing 118 = .ok (.iconst 1, 1) := by decide +kernel
theorem dX4_readThing_119 : decode cX4_readThing 119 = .ok (.ireturn, 1) := by decide +kernel
theorem dX4_readThing_120 : decode cX4_readThing 120 = .ok (.aload_n 0, 1) := by decide +kernel
theorem dX4_readThing_121 : decode cX4_readThing 121 = .ok (.invokevirtual 49, 3) := by decide +kernel
theorem dX4_readThing_124 : decode cX4_readThing 124 = .ok (.bipush 48, 2) := by decide +kernel
theorem dX4_readThing_126 : decode cX4_readThing 126 = .ok (.isub, 1) := by decide +kernel
theorem dX4_readThing_127 : decode cX4_readThing 127 = .ok (.istore_n 3, 1) := by decide +kernel
theorem dX4_readThing_128 : decode cX4_readThing 128 = .ok (.aload_n 0, 1) := by decide +kernel
theorem dX4_readThing_129 : decode cX4_readThing 129 = .ok (.getfield 12, 3) := by decide +kernel
theorem dX4_readThing_132 : decode cX4_readThing 132 = .ok (.iload_n 3, 1) := by decide +kernel
theorem dX4_readThing_133 : decode cX4_readThing 133 = .ok (.invokevirtual 97, 3) := by decide +kernel
theorem dX4_readThing_136 : decode cX4_readThing 136 = .ok (.ifCond .eq 18, 3) := by decide +kernel
theorem dX4_readThing_139 : decode cX4_readThing 139 = .ok (.aload_n 0, 1) := by decide +kernel
theorem dX4_readThing_140 : decode cX4_readThing 140 = .ok (.getfield 18, 3) := by decide +kernel
theorem dX4_readThing_143 : decode cX4_readThing 143 = .ok (.iload_n 3, 1) := by decide +kernel
theorem dX4_readThing_144 : decode cX4_readThing 144 = .ok (.iaload, 1) := by decide +kernel
theorem dX4_readThing_145 : decode cX4_readThing 145 = .ok (.iload_n 1, 1) := by decide +kernel
theorem dX4_readThing_146 : decode cX4_readThing 146 = .ok (.invokestatic 101, 3) := by decide +kernel
theorem dX4_readThing_149 : decode cX4_readThing 149 = .ok (.iadd, 1) := by decide +kernel
theorem dX4_readThing_150 : decode cX4_readThing 150 = .ok (.iconst 3, 1) := by decide +kernel
theorem dX4_readThing_151 : decode cX4_readThing 151 = .ok (.if_icmp .le 5, 3) := by decide +kernel
theorem dX4_readThing_154 : decode cX4_readThing 154 = .ok (.iconst 0, 1) := by decide +kernel
theorem dX4_readThing_155 : decode cX4_readThing 155 = .ok (.ireturn, 1) := by decide +kernel
theorem dX4_readThing_156 : decode cX4_readThing 156 = .ok (.aload_n 0, 1) := by decide +kernel
theorem dX4_readThing_157 : decode cX4_readThing 157 = .ok (.getfield 18, 3) := by decide +kernel
theorem dX4_readThing_160 : decode cX4_readThing 160 = .ok (.iload_n 3, 1) := by decide +kernel
theorem dX4_readThing_161 : decode cX4_readThing 161 = .ok (.dup2, 1) := by decide +kernel
theorem dX4_readThing_162 : decode cX4_readThing 162 = .ok (.iaload, 1) := by decide +kernel
theorem dX4_readThing_163 : decode cX4_readThing 163 = .ok (.iload_n 1, 1) := by decide +kernel
theorem dX4_readThing_164 : decode cX4_readThing 164 = .ok (.invokestatic 101, 3) := by decide +kernel
theorem dX4_readThing_167 : decode cX4_readThing 167 = .ok (.iadd, 1) := by decide +kernel
theorem dX4_readThing_168 : decode cX4_readThing 168 = .ok (.iastore, 1) := by decide +kernel
theorem dX4_readThing_169 : decode cX4_readThing 169 = .ok (.aload_n 0, 1) := by decide +kernel
theorem dX4_readThing_170 : decode cX4_readThing 170 = .ok (.getfield 12, 3) := by decide +kernel
theorem dX4_readThing_173 : decode cX4_readThing 173 = .ok (.iload_n 1, 1) := by decide +kernel
theorem dX4_readThing_174 : decode cX4_readThing 174 = .ok (.iload_n 3, 1) := by decide +kernel
theorem dX4_readThing_175 : decode cX4_readThing 175 = .ok (.invokevirtual 93, 3) := by decide +kernel
theorem dX4_readThing_178 : decode cX4_readThing 178 = .ok (.aload_n 0, 1) := by decide +kernel
theorem dX4_readThing_179 : decode cX4_readThing 179 = .ok (.dup, 1) := by decide +kernel
theorem dX4_readThing_180 : decode cX4_readThing 180 = .ok (.getfield 30, 3) := by decide +kernel
theorem dX4_readThing_183 : decode cX4_readThing 183 = .ok (.iconst 1, 1) := by decide +kernel
theorem dX4_readThing_184 : decode cX4_readThing 184 = .ok (.iadd, 1) := by decide +kernel
theorem dX4_readThing_185 : decode cX4_readThing 185 = .ok (.putfield 30, 3) := by decide +kernel
theorem dX4_readThing_188 : decode cX4_readThing 188 = .ok (.iconst 1, 1) := by decide +kernel
theorem dX4_readThing_189 : decode cX4_readThing 189 = .ok (.ireturn, 1) := by decide +kernel
theorem dX4_kindOf_0 : decode cX4_kindOf 0 = .ok (.iload_n 0, 1) := by decide +kernel
theorem dX4_kindOf_1 : decode cX4_kindOf 1 = .ok (.tableswitch 103 98 116 #[93, 103, 103, 101, 103, 103, 97, 103, 103, 103, 95, 103, 103, 103, 103, 103, 103, 99, 91], 91) := by decide +kernel
theorem dX4_kindOf_92 : decode cX4_kindOf 92 = .ok (.iconst 0, 1) := by decide +kernel
theorem dX4_kindOf_93 : decode cX4_kindOf 93 = .ok (.ireturn, 1) := by decide +kernel
theorem dX4_kindOf_94 : decode cX4_kindOf 94 = .ok (.iconst 1, 1) := by decide +kernel
theorem dX4_kindOf_95 : decode cX4_kindOf 95 = .ok (.ireturn, 1) := by decide +kernel
theorem dX4_kindOf_96 : decode cX4_kindOf 96 = .ok (.iconst 2, 1) := by decide +kernel
theorem dX4_kindOf_97 : decode cX4_kindOf 97 = .ok (.ireturn, 1) := by decide +kernel
theorem dX4_kindOf_98 : decode cX4_kindOf 98 = .ok (.iconst 3, 1) := by decide +kernel
theorem dX4_kindOf_99 : decode cX4_kindOf 99 = .ok (.ireturn, 1) := by decide +kernel
theorem dX4_kindOf_100 : decode cX4_kindOf 100 = .ok (.iconst 4, 1) := by decide +kernel
theorem dX4_kindOf_101 : decode cX4_kindOf 101 = .ok (.ireturn, 1) := by decide +kernel
theorem dX4_kindOf_102 : decode cX4_kindOf 102 = .ok (.iconst 5, 1) := by decide +kernel
theorem dX4_kindOf_103 : decode cX4_kindOf 103 = .ok (.ireturn, 1) := by decide +kernel
theorem dX4_kindOf_104 : decode cX4_kindOf 104 = .ok (.iconst (-1), 1) := by decide +kernel
theorem dX4_kindOf_105 : decode cX4_kindOf 105 = .ok (.ireturn, 1) := by decide +kernel
theorem dX4_readWork_0 : decode cX4_readWork 0 = .ok (.aload_n 0, 1) := by decide +kernel
theorem dX4_readWork_1 : decode cX4_readWork 1 = .ok (.getfield 12, 3) := by decide +kernel
theorem dX4_readWork_4 : decode cX4_readWork 4 = .ok (.getfield 84, 3) := by decide +kernel
theorem dX4_readWork_7 : decode cX4_readWork 7 = .ok (.istore_n 1, 1) := by decide +kernel
theorem dX4_readWork_8 : decode cX4_readWork 8 = .ok (.iload_n 1, 1) := by decide +kernel
theorem dX4_readWork_9 : decode cX4_readWork 9 = .ok (.bipush 8, 2) := by decide +kernel
theorem dX4_readWork_11 : decode cX4_readWork 11 = .ok (.if_icmp .lt 5, 3) := by decide +kernel
theorem dX4_readWork_14 : decode cX4_readWork 14 = .ok (.iconst 0, 1) := by decide +kernel
theorem dX4_readWork_15 : decode cX4_readWork 15 = .ok (.ireturn, 1) := by decide +kernel
theorem dX4_readWork_16 : decode cX4_readWork 16 = .ok (.aload_n 0, 1) := by decide +kernel
theorem dX4_readWork_17 : decode cX4_readWork 17 = .ok (.dup, 1) := by decide +kernel
theorem dX4_readWork_18 : decode cX4_readWork 18 = .ok (.getfield 30, 3) := by decide +kernel
theorem dX4_readWork_21 : decode cX4_readWork 21 = .ok (.iconst 1, 1) := by decide +kernel
theorem dX4_readWork_22 : decode cX4_readWork 22 = .ok (.iadd, 1) := by decide +kernel
theorem dX4_readWork_23 : decode cX4_readWork 23 = .ok (.putfield 30, 3) := by decide +kernel
theorem dX4_readWork_26 : decode cX4_readWork 26 = .ok (.aload_n 0, 1) := by decide +kernel
theorem dX4_readWork_27 : decode cX4_readWork 27 = .ok (.getfield 12, 3) := by decide +kernel
theorem dX4_readWork_30 : decode cX4_readWork 30 = .ok (.getfield 104, 3) := by decide +kernel
theorem dX4_readWork_33 : decode cX4_readWork 33 = .ok (.iload_n 1, 1) := by decide +kernel
theorem dX4_readWork_34 : decode cX4_readWork 34 = .ok (.aload_n 0, 1) := by decide +kernel
theorem dX4_readWork_35 : decode cX4_readWork 35 = .ok (.iconst 0, 1) := by decide +kernel
theorem dX4_readWork_36 : decode cX4_readWork 36 = .ok (.iconst 5, 1) := by decide +kernel
theorem dX4_readWork_37 : decode cX4_readWork 37 = .ok (.invokevirtual 69, 3) := by decide +kernel
theorem dX4_readWork_40 : decode cX4_readWork 40 = .ok (.iastore, 1) := by decide +kernel
theorem dX4_readWork_41 : decode cX4_readWork 41 = .ok (.aload_n 0, 1) := by decide +kernel
theorem dX4_readWork_42 : decode cX4_readWork 42 = .ok (.getfield 12, 3) := by decide +kernel
theorem dX4_readWork_45 : decode cX4_readWork 45 = .ok (.getfield 104, 3) := by decide +kernel
theorem dX4_readWork_48 : decode cX4_readWork 48 = .ok (.iload_n 1, 1) := by decide +kernel
theorem dX4_readWork_49 : decode cX4_readWork 49 = .ok (.iaload, 1) := by decide +kernel
theorem dX4_readWork_50 : decode cX4_readWork 50 = .ok (.ifCond .ge 5, 3) := by decide +kernel
theorem dX4_readWork_53 : decode cX4_readWork 53 = .ok (.iconst 0, 1) := by decide +kernel
theorem dX4_readWork_54 : decode cX4_readWork 54 = .ok (.ireturn, 1) := by decide +kernel
theorem dX4_readWork_55 : decode cX4_readWork 55 = .ok (.aload_n 0, 1) := by decide +kernel
theorem dX4_readWork_56 : decode cX4_readWork 56 = .ok (.getfield 12, 3) := by decide +kernel
theorem dX4_readWork_59 : decode cX4_readWork 59 = .ok (.getfield 107, 3) := by decide +kernel
theorem dX4_readWork_62 : decode cX4_readWork 62 = .ok (.iload_n 1, 1) := by decide +kernel
theorem dX4_readWork_63 : decode cX4_readWork 63 = .ok (.aload_n 0, 1) := by decide +kernel
theorem dX4_readWork_64 : decode cX4_readWork 64 = .ok (.iconst 0, 1) := by decide +kernel
theorem dX4_readWork_65 : decode cX4_readWork 65 = .ok (.aload_n 0, 1) := by decide +kernel
theorem dX4_readWork_66 : decode cX4_readWork 66 = .ok (.getfield 12, 3) := by decide +kernel
theorem dX4_readWork_69 : decode cX4_readWork 69 = .ok (.getfield 77, 3) := by decide +kernel
theorem dX4_readWork_72 : decode cX4_readWork 72 = .ok (.iconst 1, 1) := by decide +kernel
theorem dX4_readWork_73 : decode cX4_readWork 73 = .ok (.isub, 1) := by decide +kernel
theorem dX4_readWork_74 : decode cX4_readWork 74 = .ok (.invokevirtual 69, 3) := by decide +kernel
theorem dX4_readWork_77 : decode cX4_readWork 77 = .ok (.iastore, 1) := by decide +kernel
theorem dX4_readWork_78 : decode cX4_readWork 78 = .ok (.aload_n 0, 1) := by decide +kernel
theorem dX4_readWork_79 : decode cX4_readWork 79 = .ok (.getfield 12, 3) := by decide +kernel
theorem dX4_readWork_82 : decode cX4_readWork 82 = .ok (.getfield 107, 3) := by decide +kernel
theorem dX4_readWork_85 : decode cX4_readWork 85 = .ok (.iload_n 1, 1) := by decide +kernel
theorem dX4_readWork_86 : decode cX4_readWork 86 = .ok (.iaload, 1) := by decide +kernel
theorem dX4_readWork_87 : decode cX4_readWork 87 = .ok (.ifCond .ge 5, 3) := by decide +kernel
theorem dX4_readWork_90 : decode cX4_readWork 90 = .ok (.iconst 0, 1) := by decide +kernel
theorem dX4_readWork_91 : decode cX4_readWork 91 = .ok (.ireturn, 1) := by decide +kernel
theorem dX4_readWork_92 : decode cX4_readWork 92 = .ok (.aload_n 0, 1) := by decide +kernel
theorem dX4_readWork_93 : decode cX4_readWork 93 = .ok (.getfield 12, 3) := by decide +kernel
theorem dX4_readWork_96 : decode cX4_readWork 96 = .ok (.getfield 110, 3) := by decide +kernel
theorem dX4_readWork_99 : decode cX4_readWork 99 = .ok (.iload_n 1, 1) := by decide +kernel
theorem dX4_readWork_100 : decode cX4_readWork 100 = .ok (.aload_n 0, 1) := by decide +kernel
theorem dX4_readWork_101 : decode cX4_readWork 101 = .ok (.invokevirtual 113, 3) := by decide +kernel
theorem dX4_readWork_104 : decode cX4_readWork 104 = .ok (.iastore, 1) := by decide +kernel
theorem dX4_readWork_105 : decode cX4_readWork 105 = .ok (.aload_n 0, 1) := by decide +kernel
theorem dX4_readWork_106 : decode cX4_readWork 106 = .ok (.getfield 12, 3) := by decide +kernel
theorem dX4_readWork_109 : decode cX4_readWork 109 = .ok (.getfield 110, 3) := by decide +kernel
theorem dX4_readWork_112 : decode cX4_readWork 112 = .ok (.iload_n 1, 1) := by decide +kernel
theorem dX4_readWork_113 : decode cX4_readWork 113 = .ok (.iaload, 1) := by decide +kernel
theorem dX4_readWork_114 : decode cX4_readWork 114 = .ok (.ifCond .eq 12, 3) := by decide +kernel
theorem dX4_readWork_117 : decode cX4_readWork 117 = .ok (.aload_n 0, 1) := by decide +kernel
theorem dX4_readWork_118 : decode cX4_readWork 118 = .ok (.invokevirtual 49, 3) := by decide +kernel
theorem dX4_readWork_121 : decode cX4_readWork 121 = .ok (.bipush 58, 2) := by decide +kernel
theorem dX4_readWork_123 : decode cX4_readWork 123 = .ok (.if_icmp .eq 5, 3) := by decide +kernel
theorem dX4_readWork_126 : decode cX4_readWork 126 = .ok (.iconst 0, 1) := by decide +kernel
theorem dX4_readWork_127 : decode cX4_readWork 127 = .ok (.ireturn, 1) := by decide +kernel
theorem dX4_readWork_128 : decode cX4_readWork 128 = .ok (.aload_n 0, 1) := by decide +kernel
theorem dX4_readWork_129 : decode cX4_readWork 129 = .ok (.dup, 1) := by decide +kernel
theorem dX4_readWork_130 : decode cX4_readWork 130 = .ok (.getfield 30, 3) := by decide +kernel
theorem dX4_readWork_133 : decode cX4_readWork 133 = .ok (.iconst 1, 1) := by decide +kernel
theorem dX4_readWork_134 : decode cX4_readWork 134 = .ok (.iadd, 1) := by decide +kernel
theorem dX4_readWork_135 : decode cX4_readWork 135 = .ok (.putfield 30, 3) := by decide +kernel
theorem dX4_readWork_138 : decode cX4_readWork 138 = .ok (.aload_n 0, 1) := by decide +kernel
theorem dX4_readWork_139 : decode cX4_readWork 139 = .ok (.getfield 12, 3) := by decide +kernel
theorem dX4_readWork_142 : decode cX4_readWork 142 = .ok (.getfield 116, 3) := by decide +kernel
theorem dX4_readWork_145 : decode cX4_readWork 145 = .ok (.iload_n 1, 1) := by decide +kernel
theorem dX4_readWork_146 : decode cX4_readWork 146 = .ok (.aload_n 0, 1) := by decide +kernel
theorem dX4_readWork_147 : decode cX4_readWork 147 = .ok (.iconst 1, 1) := by decide +kernel
theorem dX4_readWork_148 : decode cX4_readWork 148 = .ok (.bipush 9, 2) := by decide +kernel
theorem dX4_readWork_150 : decode cX4_readWork 150 = .ok (.invokevirtual 69, 3) := by decide +kernel
theorem dX4_readWork_153 : decode cX4_readWork 153 = .ok (.iastore, 1) := by decide +kernel
theorem dX4_readWork_154 : decode cX4_readWork 154 = .ok (.aload_n 0, 1) := by decide +kernel
theorem dX4_readWork_155 : decode cX4_readWork 155 = .ok (.getfield 12, 3) := by decide +kernel
theorem dX4_readWork_158 : decode cX4_readWork 158 = .ok (.getfield 116, 3) := by decide +kernel
theorem dX4_readWork_161 : decode cX4_readWork 161 = .ok (.iload_n 1, 1) := by decide +kernel
theorem dX4_readWork_162 : decode cX4_readWork 162 = .ok (.iaload, 1) := by decide +kernel
theorem dX4_readWork_163 : decode cX4_readWork 163 = .ok (.ifCond .ge 5, 3) := by decide +kernel
theorem dX4_readWork_166 : decode cX4_readWork 166 = .ok (.iconst 0, 1) := by decide +kernel
theorem dX4_readWork_167 : decode cX4_readWork 167 = .ok (.ireturn, 1) := by decide +kernel
theorem dX4_readWork_168 : decode cX4_readWork 168 = .ok (.aload_n 0, 1) := by decide +kernel
theorem dX4_readWork_169 : decode cX4_readWork 169 = .ok (.getfield 12, 3) := by decide +kernel
theorem dX4_readWork_172 : decode cX4_readWork 172 = .ok (.dup, 1) := by decide +kernel
theorem dX4_readWork_173 : decode cX4_readWork 173 = .ok (.getfield 84, 3) := by decide +kernel
theorem dX4_readWork_176 : decode cX4_readWork 176 = .ok (.iconst 1, 1) := by decide +kernel
theorem dX4_readWork_177 : decode cX4_readWork 177 = .ok (.iadd, 1) := by decide +kernel
theorem dX4_readWork_178 : decode cX4_readWork 178 = .ok (.putfield 84, 3) := by decide +kernel
theorem dX4_readWork_181 : decode cX4_readWork 181 = .ok (.iconst 1, 1) := by decide +kernel
theorem dX4_readWork_182 : decode cX4_readWork 182 = .ok (.ireturn, 1) := by decide +kernel
theorem dX4_readWants_0 : decode cX4_readWants 0 = .ok (.iconst 0, 1) := by decide +kernel
theorem dX4_readWants_1 : decode cX4_readWants 1 = .ok (.istore_n 1, 1) := by decide +kernel
theorem dX4_readWants_2 : decode cX4_readWants 2 = .ok (.iconst 0, 1) := by decide +kernel
theorem dX4_readWants_3 : decode cX4_readWants 3 = .ok (.istore_n 2, 1) := by decide +kernel
theorem dX4_readWants_4 : decode cX4_readWants 4 = .ok (.iload_n 2, 1) := by decide +kernel
theorem dX4_readWants_5 : decode cX4_readWants 5 = .ok (.iconst 5, 1) := by decide +kernel
theorem dX4_readWants_6 : decode cX4_readWants 6 = .ok (.if_icmp .ge 54, 3) := by decide +kernel
theorem dX4_readWants_9 : decode cX4_readWants 9 = .ok (.aload_n 0, 1) := by decide +kernel
theorem dX4_readWants_10 : decode cX4_readWants 10 = .ok (.invokevirtual 49, 3) := by decide +kernel
theorem dX4_readWants_13 : decode cX4_readWants 13 = .ok (.bipush 48, 2) := by decide +kernel
theorem dX4_readWants_15 : decode cX4_readWants 15 = .ok (.isub, 1) := by decide +kernel
theorem dX4_readWants_16 : decode cX4_readWants 16 = .ok (.istore_n 3, 1) := by decide +kernel
theorem dX4_readWants_17 : decode cX4_readWants 17 = .ok (.aload_n 0, 1) := by decide +kernel
theorem dX4_readWants_18 : decode cX4_readWants 18 = .ok (.getfield 12, 3) := by decide +kernel
theorem dX4_readWants_21 : decode cX4_readWants 21 = .ok (.iload_n 3, 1) := by decide +kernel
theorem dX4_readWants_22 : decode cX4_readWants 22 = .ok (.invokevirtual 119, 3) := by decide +kernel
theorem dX4_readWants_25 : decode cX4_readWants 25 = .ok (.ifCond .eq 11, 3) := by decide +kernel
theorem dX4_readWants_28 : decode cX4_readWants 28 = .ok (.iload_n 1, 1) := by decide +kernel
theorem dX4_readWants_29 : decode cX4_readWants 29 = .ok (.iload_n 3, 1) := by decide +kernel
theorem dX4_readWants_30 : decode cX4_readWants 30 = .ok (.ishr, 1) := by decide +kernel
theorem dX4_readWants_31 : decode cX4_readWants 31 = .ok (.iconst 1, 1) := by decide +kernel
theorem dX4_readWants_32 : decode cX4_readWants 32 = .ok (.iand, 1) := by decide +kernel
theorem dX4_readWants_33 : decode cX4_readWants 33 = .ok (.ifCond .eq 5, 3) := by decide +kernel
theorem dX4_readWants_36 : decode cX4_readWants 36 = .ok (.iload_n 1, 1) := by decide +kernel
theorem dX4_readWants_37 : decode cX4_readWants 37 = .ok (.ireturn, 1) := by decide +kernel
theorem dX4_readWants_38 : decode cX4_readWants 38 = .ok (.iload_n 1, 1) := by decide +kernel
theorem dX4_readWants_39 : decode cX4_readWants 39 = .ok (.iconst 1, 1) := by decide +kernel
theorem dX4_readWants_40 : decode cX4_readWants 40 = .ok (.iload_n 3, 1) := by decide +kernel
theorem dX4_readWants_41 : decode cX4_readWants 41 = .ok (.ishl, 1) := by decide +kernel
theorem dX4_readWants_42 : decode cX4_readWants 42 = .ok (.ior, 1) := by decide +kernel
theorem dX4_readWants_43 : decode cX4_readWants 43 = .ok (.istore_n 1, 1) := by decide +kernel
theorem dX4_readWants_44 : decode cX4_readWants 44 = .ok (.aload_n 0, 1) := by decide +kernel
theorem dX4_readWants_45 : decode cX4_readWants 45 = .ok (.dup, 1) := by decide +kernel
theorem dX4_readWants_46 : decode cX4_readWants 46 = .ok (.getfield 30, 3) := by decide +kernel
theorem dX4_readWants_49 : decode cX4_readWants 49 = .ok (.iconst 1, 1) := by decide +kernel
theorem dX4_readWants_50 : decode cX4_readWants 50 = .ok (.iadd, 1) := by decide +kernel
theorem dX4_readWants_51 : decode cX4_readWants 51 = .ok (.putfield 30, 3) := by decide +kernel
theorem dX4_readWants_54 : decode cX4_readWants 54 = .ok (.iinc 2 1, 3) := by decide +kernel
theorem dX4_readWants_57 : decode cX4_readWants 57 = .ok (.goto (-53), 3) := by decide +kernel
theorem dX4_readWants_60 : decode cX4_readWants 60 = .ok (.iload_n 1, 1) := by decide +kernel
theorem dX4_readWants_61 : decode cX4_readWants 61 = .ok (.ireturn, 1) := by decide +kernel
theorem dX5_init_0 : decode cX5_init 0 = .ok (.aload_n 0, 1) := by decide +kernel
theorem dX5_init_1 : decode cX5_init 1 = .ok (.invokespecial 1, 3) := by decide +kernel
theorem dX5_init_4 : decode cX5_init 4 = .ok (.aload_n 0, 1) := by decide +kernel
theorem dX5_init_5 : decode cX5_init 5 = .ok (.iload_n 2, 1) := by decide +kernel
theorem dX5_init_6 : decode cX5_init 6 = .ok (.putfield 7, 3) := by decide +kernel
theorem dX5_init_9 : decode cX5_init 9 = .ok (.aload_n 0, 1) := by decide +kernel
theorem dX5_init_10 : decode cX5_init 10 = .ok (.iload_n 1, 1) := by decide +kernel
theorem dX5_init_11 : decode cX5_init 11 = .ok (.newarray .int, 2) := by decide +kernel
theorem dX5_init_13 : decode cX5_init 13 = .ok (.putfield 13, 3) := by decide +kernel
theorem dX5_init_16 : decode cX5_init 16 = .ok (.aload_n 0, 1) := by decide +kernel
theorem dX5_init_17 : decode cX5_init 17 = .ok (.iload_n 1, 1) := by decide +kernel
theorem dX5_init_18 : decode cX5_init 18 = .ok (.iload_n 2, 1) := by decide +kernel
theorem dX5_init_19 : decode cX5_init 19 = .ok (.imul, 1) := by decide +kernel
theorem dX5_init_20 : decode cX5_init 20 = .ok (.newarray .int, 2) := by decide +kernel
theorem dX5_init_22 : decode cX5_init 22 = .ok (.putfield 17, 3) := by decide +kernel
theorem dX5_init_25 : decode cX5_init 25 = .ok (.aload_n 0, 1) := by decide +kernel
theorem dX5_init_26 : decode cX5_init 26 = .ok (.getfield 13, 3) := by decide +kernel
theorem dX5_init_29 : decode cX5_init 29 = .ok (.iconst (-1), 1) := by decide +kernel
theorem dX5_init_30 : decode cX5_init 30 = .ok (.invokestatic 20, 3) := by decide +kernel
theorem dX5_init_33 : decode cX5_init 33 = .ok (.return_, 1) := by decide +kernel
theorem dX5_isOne_0 : decode cX5_isOne 0 = .ok (.iload_n 1, 1) := by decide +kernel
theorem dX5_isOne_1 : decode cX5_isOne 1 = .ok (.ifCond .lt 16, 3) := by decide +kernel
theorem dX5_isOne_4 : decode cX5_isOne 4 = .ok (.iload_n 1, 1) := by decide +kernel
theorem dX5_isOne_5 : decode cX5_isOne 5 = .ok (.aload_n 0, 1) := by decide +kernel
theorem dX5_isOne_6 : decode cX5_isOne 6 = .ok (.getfield 13, 3) := by decide +kernel
theorem dX5_isOne_9 : decode cX5_isOne 9 = .ok (.arraylength, 1) := by decide +kernel
theorem dX5_isOne_10 : decode cX5_isOne 10 = .ok (.if_icmp .ge 7, 3) := by decide +kernel
theorem dX5_isOne_13 : decode cX5_isOne 13 = .ok (.iconst 1, 1) := by decide +kernel
theorem dX5_isOne_14 : decode cX5_isOne 14 = .ok (.goto 4, 3) := by decide +kernel
theorem dX5_isOne_17 : decode cX5_isOne 17 = .ok (.iconst 0, 1) := by decide +kernel
theorem dX5_isOne_18 : decode cX5_isOne 18 = .ok (.ireturn, 1) := by decide +kernel
theorem dX5_missing_0 : decode cX5_missing 0 = .ok (.aload_n 0, 1) := by decide +kernel
theorem dX5_missing_1 : decode cX5_missing 1 = .ok (.iload_n 1, 1) := by decide +kernel
theorem dX5_missing_2 : decode cX5_missing 2 = .ok (.invokevirtual 26, 3) := by decide +kernel
theorem dX5_missing_5 : decode cX5_missing 5 = .ok (.ifCond .ge 7, 3) := by decide +kernel
theorem dX5_missing_8 : decode cX5_missing 8 = .ok (.iconst 1, 1) := by decide +kernel
theorem dX5_missing_9 : decode cX5_missing 9 = .ok (.goto 4, 3) := by decide +kernel
theorem dX5_missing_12 : decode cX5_missing 12 = .ok (.iconst 0, 1) := by decide +kernel
theorem dX5_missing_13 : decode cX5_missing 13 = .ok (.ireturn, 1) := by decide +kernel
theorem dX5_sizeOf_0 : decode cX5_sizeOf 0 = .ok (.aload_n 0, 1) := by decide +kernel
theorem dX5_sizeOf_1 : decode cX5_sizeOf 1 = .ok (.iload_n 1, 1) := by decide +kernel
theorem dX5_sizeOf_2 : decode cX5_sizeOf 2 = .ok (.invokevirtual 30, 3) := by decide +kernel
theorem dX5_sizeOf_5 : decode cX5_sizeOf 5 = .ok (.ifCond .eq 12, 3) := by decide +kernel
theorem dX5_sizeOf_8 : decode cX5_sizeOf 8 = .ok (.aload_n 0, 1) := by decide +kernel
theorem dX5_sizeOf_9 : decode cX5_sizeOf 9 = .ok (.getfield 13, 3) := by decide +kernel
theorem dX5_sizeOf_12 : decode cX5_sizeOf 12 = .ok (.iload_n 1, 1) := by decide +kernel
theorem dX5_sizeOf_13 : decode cX5_sizeOf 13 = .ok (.iaload, 1) := by decide +kernel
theorem dX5_sizeOf_14 : decode cX5_sizeOf 14 = .ok (.goto 4, 3) := by decide +kernel
theorem dX5_sizeOf_17 : decode cX5_sizeOf 17 = .ok (.iconst (-1), 1) := by decide +kernel
theorem dX5_sizeOf_18 : decode cX5_sizeOf 18 = .ok (.ireturn, 1) := by decide +kernel
theorem dX5_make_0 : decode cX5_make 0 = .ok (.aload_n 0, 1) := by decide +kernel
theorem dX5_make_1 : decode cX5_make 1 = .ok (.iload_n 1, 1) := by decide +kernel
theorem dX5_make_2 : decode cX5_make 2 = .ok (.invokevirtual 30, 3) := by decide +kernel
theorem dX5_make_5 : decode cX5_make 5 = .ok (.ifCond .eq 15, 3) := by decide +kernel
theorem dX5_make_8 : decode cX5_make 8 = .ok (.iload_n 2, 1) := by decide +kernel
theorem dX5_make_9 : decode cX5_make 9 = .ok (.ifCond .lt 11, 3) := by decide +kernel
theorem dX5_make_12 : decode cX5_make 12 = .ok (.iload_n 2, 1) := by decide +kernel
theorem dX5_make_13 : decode cX5_make 13 = .ok (.aload_n 0, 1) := by decide +kernel
theorem dX5_make_14 : decode cX5_make 14 = .ok (.getfield 7, 3) := by decide +kernel
theorem dX5_make_17 : decode cX5_make 17 = .ok (.if_icmp .le 4, 3) := by decide +kernel
theorem dX5_make_20 : decode cX5_make 20 = .ok (.return_, 1) := by decide +kernel
theorem dX5_make_21 : decode cX5_make 21 = .ok (.aload_n 0, 1) := by decide +kernel
theorem dX5_make_22 : decode cX5_make 22 = .ok (.getfield 13, 3) := by decide +kernel
theorem dX5_make_25 : decode cX5_make 25 = .ok (.iload_n 1, 1) := by decide +kernel
theorem dX5_make_26 : decode cX5_make 26 = .ok (.iload_n 2, 1) := by decide +kernel
theorem dX5_make_27 : decode cX5_make 27 = .ok (.iastore, 1) := by decide +kernel
theorem dX5_make_28 : decode cX5_make 28 = .ok (.aload_n 0, 1) := by decide +kernel
theorem dX5_make_29 : decode cX5_make 29 = .ok (.getfield 17, 3) := by decide +kernel
theorem dX5_make_32 : decode cX5_make 32 = .ok (.iload_n 1, 1) := by decide +kernel
theorem dX5_make_33 : decode cX5_make 33 = .ok (.aload_n 0, 1) := by decide +kernel
theorem dX5_make_34 : decode cX5_make 34 = .ok (.getfield 7, 3) := by decide +kernel
theorem dX5_make_37 : decode cX5_make 37 = .ok (.imul, 1) := by decide +kernel
theorem dX5_make_38 : decode cX5_make 38 = .ok (.iload_n 1, 1) := by decide +kernel
theorem dX5_make_39 : decode cX5_make 39 = .ok (.aload_n 0, 1) := by decide +kernel
theorem dX5_make_40 : decode cX5_make 40 = .ok (.getfield 7, 3) := by decide +kernel
theorem dX5_make_43 : decode cX5_make 43 = .ok (.imul, 1) := by decide +kernel
theorem dX5_make_44 : decode cX5_make 44 = .ok (.iload_n 2, 1) := by decide +kernel
theorem dX5_make_45 : decode cX5_make 45 = .ok (.iadd, 1) := by decide +kernel
theorem dX5_make_46 : decode cX5_make 46 = .ok (.iload_n 3, 1) := by decide +kernel
theorem dX5_make_47 : decode cX5_make 47 = .ok (.invokestatic 34, 3) := by decide +kernel
theorem dX5_make_50 : decode cX5_make 50 = .ok (.return_, 1) := by decide +kernel
theorem dX5_drop_0 : decode cX5_drop 0 = .ok (.aload_n 0, 1) := by decide +kernel
theorem dX5_drop_1 : decode cX5_drop 1 = .ok (.iload_n 1, 1) := by decide +kernel
theorem dX5_drop_2 : decode cX5_drop 2 = .ok (.invokevirtual 30, 3) := by decide +kernel
theorem dX5_drop_5 : decode cX5_drop 5 = .ok (.ifCond .eq 10, 3) := by decide +kernel
theorem dX5_drop_8 : decode cX5_drop 8 = .ok (.aload_n 0, 1) := by decide +kernel
theorem dX5_drop_9 : decode cX5_drop 9 = .ok (.getfield 13, 3) := by decide +kernel
theorem dX5_drop_12 : decode cX5_drop 12 = .ok (.iload_n 1, 1) := by decide +kernel
theorem dX5_drop_13 : decode cX5_drop 13 = .ok (.iconst (-1), 1) := by decide +kernel
theorem dX5_drop_14 : decode cX5_drop 14 = .ok (.iastore, 1) := by decide +kernel
theorem dX5_drop_15 : decode cX5_drop 15 = .ok (.return_, 1) := by decide +kernel
theorem dX5_hasPlaces_0 : decode cX5_hasPlaces 0 = .ok (.iload_n 1, 1) := by decide +kernel
theorem dX5_hasPlaces_1 : decode cX5_hasPlaces 1 = .ok (.ifCond .lt 12, 3) := by decide +kernel
theorem dX5_hasPlaces_4 : decode cX5_hasPlaces 4 = .ok (.iload_n 1, 1) := by decide +kernel
theorem dX5_hasPlaces_5 : decode cX5_hasPlaces 5 = .ok (.aload_n 0, 1) := by decide +kernel
theorem dX5_hasPlaces_6 : decode cX5_hasPlaces 6 = .ok (.getfield 13, 3) := by decide +kernel
theorem dX5_hasPlaces_9 : decode cX5_hasPlaces 9 = .ok (.arraylength, 1) := by decide +kernel
theorem dX5_hasPlaces_10 : decode cX5_hasPlaces 10 = .ok (.if_icmp .lt 5, 3) := by decide +kernel
theorem dX5_hasPlaces_13 : decode cX5_hasPlaces 13 = .ok (.iconst 0, 1) := by decide +kernel
theorem dX5_hasPlaces_14 : decode cX5_hasPlaces 14 = .ok (.ireturn, 1) := by decide +kernel
theorem dX5_hasPlaces_15 : decode cX5_hasPlaces 15 = .ok (.aload_n 0, 1) := by decide +kernel
theorem dX5_hasPlaces_16 : decode cX5_hasPlaces 16 = .ok (.getfield 13, 3) := by decide +kernel
theorem dX5_hasPlaces_19 : decode cX5_hasPlaces 19 = .ok (.iload_n 1, 1) := by decide +kernel
theorem dX5_hasPlaces_20 : decode cX5_hasPlaces 20 = .ok (.iaload, 1) := by decide +kernel
theorem dX5_hasPlaces_21 : decode cX5_hasPlaces 21 = .ok (.istore 4, 2) := by decide +kernel
theorem dX5_hasPlaces_23 : decode cX5_hasPlaces 23 = .ok (.iload_n 2, 1) := by decide +kernel
theorem dX5_hasPlaces_24 : decode cX5_hasPlaces 24 = .ok (.ifCond .lt 25, 3) := by decide +kernel
theorem dX5_hasPlaces_27 : decode cX5_hasPlaces 27 = .ok (.iload_n 2, 1) := by decide +kernel
theorem dX5_hasPlaces_28 : decode cX5_hasPlaces 28 = .ok (.iload 4, 2) := by decide +kernel
theorem dX5_hasPlaces_30 : decode cX5_hasPlaces 30 = .ok (.if_icmp .gt 19, 3) := by decide +kernel
theorem dX5_hasPlaces_33 : decode cX5_hasPlaces 33 = .ok (.iload_n 3, 1) := by decide +kernel
theorem dX5_hasPlaces_34 : decode cX5_hasPlaces 34 = .ok (.ifCond .lt 15, 3) := by decide +kernel
theorem dX5_hasPlaces_37 : decode cX5_hasPlaces 37 = .ok (.iload_n 3, 1) := by decide +kernel
theorem dX5_hasPlaces_38 : decode cX5_hasPlaces 38 = .ok (.iload 4, 2) := by decide +kernel
theorem dX5_hasPlaces_40 : decode cX5_hasPlaces 40 = .ok (.iload_n 2, 1) := by decide +kernel
theorem dX5_hasPlaces_41 : decode cX5_hasPlaces 41 = .ok (.isub, 1) := by decide +kernel
theorem dX5_hasPlaces_42 : decode cX5_hasPlaces 42 = .ok (.if_icmp .gt 7, 3) := by decide +kernel
theorem dX5_hasPlaces_45 : decode cX5_hasPlaces 45 = .ok (.iconst 1, 1) := by decide +kernel
theorem dX5_hasPlaces_46 : decode cX5_hasPlaces 46 = .ok (.goto 4, 3) := by decide +kernel
theorem dX5_hasPlaces_49 : decode cX5_hasPlaces 49 = .ok (.iconst 0, 1) := by decide +kernel
theorem dX5_hasPlaces_50 : decode cX5_hasPlaces 50 = .ok (.ireturn, 1) := by decide +kernel
theorem dX5_get_0 : decode cX5_get 0 = .ok (.aload_n 0, 1) := by decide +kernel
theorem dX5_get_1 : decode cX5_get 1 = .ok (.iload_n 1, 1) := by decide +kernel
theorem dX5_get_2 : decode cX5_get 2 = .ok (.iload_n 2, 1) := by decide +kernel
theorem dX5_get_3 : decode cX5_get 3 = .ok (.iconst 1, 1) := by decide +kernel
theorem dX5_get_4 : decode cX5_get 4 = .ok (.invokevirtual 37, 3) := by decide +kernel
theorem dX5_get_7 : decode cX5_get 7 = .ok (.ifCond .eq 19, 3) := by decide +kernel
theorem dX5_get_10 : decode cX5_get 10 = .ok (.aload_n 0, 1) := by decide +kernel
theorem dX5_get_11 : decode cX5_get 11 = .ok (.getfield 17, 3) := by decide +kernel
theorem dX5_get_14 : decode cX5_get 14 = .ok (.iload_n 1, 1) := by decide +kernel
theorem dX5_get_15 : decode cX5_get 15 = .ok (.aload_n 0, 1) := by decide +kernel
theorem dX5_get_16 : decode cX5_get 16 = .ok (.getfield 7, 3) := by decide +kernel
theorem dX5_get_19 : decode cX5_get 19 = .ok (.imul, 1) := by decide +kernel
theorem dX5_get_20 : decode cX5_get 20 = .ok (.iload_n 2, 1) := by decide +kernel
theorem dX5_get_21 : decode cX5_get 21 = .ok (.iadd, 1) := by decide +kernel
theorem dX5_get_22 : decode cX5_get 22 = .ok (.iaload, 1) := by decide +kernel
theorem dX5_get_23 : decode cX5_get 23 = .ok (.goto 4, 3) := by decide +kernel
theorem dX5_get_26 : decode cX5_get 26 = .ok (.iconst 0, 1) := by decide +kernel
theorem dX5_get_27 : decode cX5_get 27 = .ok (.ireturn, 1) := by decide +kernel
theorem dX5_set_0 : decode cX5_set 0 = .ok (.aload_n 0, 1) := by decide +kernel
theorem dX5_set_1 : decode cX5_set 1 = .ok (.iload_n 1, 1) := by decide +kernel
theorem dX5_set_2 : decode cX5_set 2 = .ok (.iload_n 2, 1) := by decide +kernel
theorem dX5_set_3 : decode cX5_set 3 = .ok (.iconst 1, 1) := by decide +kernel
theorem dX5_set_4 : decode cX5_set 4 = .ok (.invokevirtual 37, 3) := by decide +kernel
theorem dX5_set_7 : decode cX5_set 7 = .ok (.ifCond .eq 17, 3) := by decide +kernel
theorem dX5_set_10 : decode cX5_set 10 = .ok (.aload_n 0, 1) := by decide +kernel
theorem dX5_set_11 : decode cX5_set 11 = .ok (.getfield 17, 3) := by decide +kernel
theorem dX5_set_14 : decode cX5_set 14 = .ok (.iload_n 1, 1) := by decide +kernel
theorem dX5_set_15 : decode cX5_set 15 = .ok (.aload_n 0, 1) := by decide +kernel
theorem dX5_set_16 : decode cX5_set 16 = .ok (.getfield 7, 3) := by decide +kernel
theorem dX5_set_19 : decode cX5_set 19 = .ok (.imul, 1) := by decide +kernel
theorem dX5_set_20 : decode cX5_set 20 = .ok (.iload_n 2, 1) := by decide +kernel
theorem dX5_set_21 : decode cX5_set 21 = .ok (.iadd, 1) := by decide +kernel
theorem dX5_set_22 : decode cX5_set 22 = .ok (.iload_n 3, 1) := by decide +kernel
theorem dX5_set_23 : decode cX5_set 23 = .ok (.iastore, 1) := by decide +kernel
theorem dX5_set_24 : decode cX5_set 24 = .ok (.return_, 1) := by decide +kernel
theorem dX5_shift_0 : decode cX5_shift 0 = .ok (.aload_n 0, 1) := by decide +kernel
theorem dX5_shift_1 : decode cX5_shift 1 = .ok (.iload_n 1, 1) := by decide +kernel
theorem dX5_shift_2 : decode cX5_shift 2 = .ok (.iload_n 2, 1) := by decide +kernel
theorem dX5_shift_3 : decode cX5_shift 3 = .ok (.iload 5, 2) := by decide +kernel
theorem dX5_shift_5 : decode cX5_shift 5 = .ok (.invokevirtual 37, 3) := by decide +kernel
theorem dX5_shift_8 : decode cX5_shift 8 = .ok (.ifCond .eq 15, 3) := by decide +kernel
theorem dX5_shift_11 : decode cX5_shift 11 = .ok (.aload_n 0, 1) := by decide +kernel
theorem dX5_shift_12 : decode cX5_shift 12 = .ok (.iload_n 3, 1) := by decide +kernel
theorem dX5_shift_13 : decode cX5_shift 13 = .ok (.iload 4, 2) := by decide +kernel
theorem dX5_shift_15 : decode cX5_shift 15 = .ok (.iload 5, 2) := by decide +kernel
theorem dX5_shift_17 : decode cX5_shift 17 = .ok (.invokevirtual 37, 3) := by decide +kernel
theorem dX5_shift_20 : decode cX5_shift 20 = .ok (.ifCond .ne 4, 3) := by decide +kernel
theorem dX5_shift_23 : decode cX5_shift 23 = .ok (.return_, 1) := by decide +kernel
theorem dX5_shift_24 : decode cX5_shift 24 = .ok (.aload_n 0, 1) := by decide +kernel
theorem dX5_shift_25 : decode cX5_shift 25 = .ok (.getfield 17, 3) := by decide +kernel
theorem dX5_shift_28 : decode cX5_shift 28 = .ok (.iload_n 1, 1) := by decide +kernel
theorem dX5_shift_29 : decode cX5_shift 29 = .ok (.aload_n 0, 1) := by decide +kernel
theorem dX5_shift_30 : decode cX5_shift 30 = .ok (.getfield 7, 3) := by decide +kernel
theorem dX5_shift_33 : decode cX5_shift 33 = .ok (.imul, 1) := by decide +kernel
theorem dX5_shift_34 : decode cX5_shift 34 = .ok (.iload_n 2, 1) := by decide +kernel
theorem dX5_shift_35 : decode cX5_shift 35 = .ok (.iadd, 1) := by decide +kernel
theorem dX5_shift_36 : decode cX5_shift 36 = .ok (.aload_n 0, 1) := by decide +kernel
theorem dX5_shift_37 : decode cX5_shift 37 = .ok (.getfield 17, 3) := by decide +kernel
theorem dX5_shift_40 : decode cX5_shift 40 = .ok (.iload_n 3, 1) := by decide +kernel
theorem dX5_shift_41 : decode cX5_shift 41 = .ok (.aload_n 0, 1) := by decide +kernel
theorem dX5_shift_42 : decode cX5_shift 42 = .ok (.getfield 7, 3) := by decide +kernel
theorem dX5_shift_45 : decode cX5_shift 45 = .ok (.imul, 1) := by decide +kernel
theorem dX5_shift_46 : decode cX5_shift 46 = .ok (.iload 4, 2) := by decide +kernel
theorem dX5_shift_48 : decode cX5_shift 48 = .ok (.iadd, 1) := by decide +kernel
theorem dX5_shift_49 : decode cX5_shift 49 = .ok (.iload 5, 2) := by decide +kernel
theorem dX5_shift_51 : decode cX5_shift 51 = .ok (.invokestatic 41, 3) := by decide +kernel
theorem dX5_shift_54 : decode cX5_shift 54 = .ok (.return_, 1) := by decide +kernel
theorem dX5_sum_0 : decode cX5_sum 0 = .ok (.lconst 0, 1) := by decide +kernel
theorem dX5_sum_1 : decode cX5_sum 1 = .ok (.lstore_n 2, 1) := by decide +kernel
theorem dX5_sum_2 : decode cX5_sum 2 = .ok (.iconst 0, 1) := by decide +kernel
theorem dX5_sum_3 : decode cX5_sum 3 = .ok (.istore 4, 2) := by decide +kernel
theorem dX5_sum_5 : decode cX5_sum 5 = .ok (.iload 4, 2) := by decide +kernel
theorem dX5_sum_7 : decode cX5_sum 7 = .ok (.aload_n 0, 1) := by decide +kernel
theorem dX5_sum_8 : decode cX5_sum 8 = .ok (.iload_n 1, 1) := by decide +kernel
theorem dX5_sum_9 : decode cX5_sum 9 = .ok (.invokevirtual 26, 3) := by decide +kernel
theorem dX5_sum_12 : decode cX5_sum 12 = .ok (.if_icmp .ge 20, 3) := by decide +kernel
theorem dX5_sum_15 : decode cX5_sum 15 = .ok (.lload_n 2, 1) := by decide +kernel
theorem dX5_sum_16 : decode cX5_sum 16 = .ok (.aload_n 0, 1) := by decide +kernel
theorem dX5_sum_17 : decode cX5_sum 17 = .ok (.iload_n 1, 1) := by decide +kernel
theorem dX5_sum_18 : decode cX5_sum 18 = .ok (.iload 4, 2) := by decide +kernel
theorem dX5_sum_20 : decode cX5_sum 20 = .ok (.invokevirtual 47, 3) := by decide +kernel
theorem dX5_sum_23 : decode cX5_sum 23 = .ok (.i2l, 1) := by decide +kernel
theorem dX5_sum_24 : decode cX5_sum 24 = .ok (.ladd, 1) := by decide +kernel
theorem dX5_sum_25 : decode cX5_sum 25 = .ok (.lstore_n 2, 1) := by decide +kernel
theorem dX5_sum_26 : decode cX5_sum 26 = .ok (.iinc 4 1, 3) := by decide +kernel
theorem dX5_sum_29 : decode cX5_sum 29 = .ok (.goto (-24), 3) := by decide +kernel
theorem dX5_sum_32 : decode cX5_sum 32 = .ok (.lload_n 2, 1) := by decide +kernel
theorem dX5_sum_33 : decode cX5_sum 33 = .ok (.lreturn, 1) := by decide +kernel
theorem dX5_there_0 : decode cX5_there 0 = .ok (.iconst 0, 1) := by decide +kernel
theorem dX5_there_1 : decode cX5_there 1 = .ok (.istore_n 1, 1) := by decide +kernel
theorem dX5_there_2 : decode cX5_there 2 = .ok (.iconst 0, 1) := by decide +kernel
theorem dX5_there_3 : decode cX5_there 3 = .ok (.istore_n 2, 1) := by decide +kernel
theorem dX5_there_4 : decode cX5_there 4 = .ok (.iload_n 2, 1) := by decide +kernel
theorem dX5_there_5 : decode cX5_there 5 = .ok (.aload_n 0, 1) := by decide +kernel
theorem dX5_there_6 : decode cX5_there 6 = .ok (.getfield 13, 3) := by decide +kernel
theorem dX5_there_9 : decode cX5_there 9 = .ok (.arraylength, 1) := by decide +kernel
theorem dX5_there_10 : decode cX5_there 10 = .ok (.if_icmp .ge 26, 3) := by decide +kernel
theorem dX5_there_13 : decode cX5_there 13 = .ok (.iload_n 1, 1) := by decide +kernel
theorem dX5_there_14 : decode cX5_there 14 = .ok (.aload_n 0, 1) := by decide +kernel
theorem dX5_there_15 : decode cX5_there 15 = .ok (.getfield 13, 3) := by decide +kernel
theorem dX5_there_18 : decode cX5_there 18 = .ok (.iload_n 2, 1) := by decide +kernel
theorem dX5_there_19 : decode cX5_there 19 = .ok (.iaload, 1) := by decide +kernel
theorem dX5_there_20 : decode cX5_there 20 = .ok (.ifCond .ge 7, 3) := by decide +kernel
theorem dX5_there_23 : decode cX5_there 23 = .ok (.iconst 0, 1) := by decide +kernel
theorem dX5_there_24 : decode cX5_there 24 = .ok (.goto 4, 3) := by decide +kernel
theorem dX5_there_27 : decode cX5_there 27 = .ok (.iconst 1, 1) := by decide +kernel
theorem dX5_there_28 : decode cX5_there 28 = .ok (.iadd, 1) := by decide +kernel
theorem dX5_there_29 : decode cX5_there 29 = .ok (.istore_n 1, 1) := by decide +kernel
theorem dX5_there_30 : decode cX5_there 30 = .ok (.iinc 2 1, 3) := by decide +kernel
theorem dX5_there_33 : decode cX5_there 33 = .ok (.goto (-29), 3) := by decide +kernel
theorem dX5_there_36 : decode cX5_there 36 = .ok (.iload_n 1, 1) := by decide +kernel
theorem dX5_there_37 : decode cX5_there 37 = .ok (.ireturn, 1) := by decide +kernel
theorem dX5_mix_0 : decode cX5_mix 0 = .ok (.lload_n 1, 1) := by decide +kernel
theorem dX5_mix_1 : decode cX5_mix 1 = .ok (.lstore_n 3, 1) := by decide +kernel
theorem dX5_mix_2 : decode cX5_mix 2 = .ok (.iconst 0, 1) := by decide +kernel
theorem dX5_mix_3 : decode cX5_mix 3 = .ok (.istore 5, 2) := by decide +kernel
theorem dX5_mix_5 : decode cX5_mix 5 = .ok (.iload 5, 2) := by decide +kernel
theorem dX5_mix_7 : decode cX5_mix 7 = .ok (.aload_n 0, 1) := by decide +kernel
theorem dX5_mix_8 : decode cX5_mix 8 = .ok (.getfield 13, 3) := by decide +kernel
theorem dX5_mix_11 : decode cX5_mix 11 = .ok (.arraylength, 1) := by decide +kernel
theorem dX5_mix_12 : decode cX5_mix 12 = .ok (.if_icmp .ge 61, 3) := by decide +kernel
theorem dX5_mix_15 : decode cX5_mix 15 = .ok (.ldc2_w 51, 3) := by decide +kernel
theorem dX5_mix_18 : decode cX5_mix 18 = .ok (.lload_n 3, 1) := by decide +kernel
theorem dX5_mix_19 : decode cX5_mix 19 = .ok (.lmul, 1) := by decide +kernel
theorem dX5_mix_20 : decode cX5_mix 20 = .ok (.aload_n 0, 1) := by decide +kernel
theorem dX5_mix_21 : decode cX5_mix 21 = .ok (.getfield 13, 3) := by decide +kernel
theorem dX5_mix_24 : decode cX5_mix 24 = .ok (.iload 5, 2) := by decide +kernel
theorem dX5_mix_26 : decode cX5_mix 26 = .ok (.iaload, 1) := by decide +kernel
theorem dX5_mix_27 : decode cX5_mix 27 = .ok (.i2l, 1) := by decide +kernel
theorem dX5_mix_28 : decode cX5_mix 28 = .ok (.ladd, 1) := by decide +kernel
theorem dX5_mix_29 : decode cX5_mix 29 = .ok (.lstore_n 3, 1) := by decide +kernel
theorem dX5_mix_30 : decode cX5_mix 30 = .ok (.iconst 0, 1) := by decide +kernel
theorem dX5_mix_31 : decode cX5_mix 31 = .ok (.istore 6, 2) := by decide +kernel
theorem dX5_mix_33 : decode cX5_mix 33 = .ok (.iload 6, 2) := by decide +kernel
theorem dX5_mix_35 : decode cX5_mix 35 = .ok (.aload_n 0, 1) := by decide +kernel
theorem dX5_mix_36 : decode cX5_mix 36 = .ok (.getfield 13, 3) := by decide +kernel
theorem dX5_mix_39 : decode cX5_mix 39 = .ok (.iload 5, 2) := by decide +kernel
theorem dX5_mix_41 : decode cX5_mix 41 = .ok (.iaload, 1) := by decide +kernel
theorem dX5_mix_42 : decode cX5_mix 42 = .ok (.if_icmp .ge 25, 3) := by decide +kernel
theorem dX5_mix_45 : decode cX5_mix 45 = .ok (.ldc2_w 51, 3) := by decide +kernel
theorem dX5_mix_48 : decode cX5_mix 48 = .ok (.lload_n 3, 1) := by decide +kernel
theorem dX5_mix_49 : decode cX5_mix 49 = .ok (.lmul, 1) := by decide +kernel
theorem dX5_mix_50 : decode cX5_mix 50 = .ok (.aload_n 0, 1) := by decide +kernel
theorem dX5_mix_51 : decode cX5_mix 51 = .ok (.iload 5, 2) := by decide +kernel
theorem dX5_mix_53 : decode cX5_mix 53 = .ok (.iload 6, 2) := by decide +kernel
theorem dX5_mix_55 : decode cX5_mix 55 = .ok (.invokevirtual 47, 3) := by decide +kernel
theorem dX5_mix_58 : decode cX5_mix 58 = .ok (.i2l, 1) := by decide +kernel
theorem dX5_mix_59 : decode cX5_mix 59 = .ok (.ladd, 1) := by decide +kernel
theorem dX5_mix_60 : decode cX5_mix 60 = .ok (.lstore_n 3, 1) := by decide +kernel
theorem dX5_mix_61 : decode cX5_mix 61 = .ok (.iinc 6 1, 3) := by decide +kernel
theorem dX5_mix_64 : decode cX5_mix 64 = .ok (.goto (-31), 3) := by decide +kernel
theorem dX5_mix_67 : decode cX5_mix 67 = .ok (.iinc 5 1, 3) := by decide +kernel
theorem dX5_mix_70 : decode cX5_mix 70 = .ok (.goto (-65), 3) := by decide +kernel
theorem dX5_mix_73 : decode cX5_mix 73 = .ok (.lload_n 3, 1) := by decide +kernel
theorem dX5_mix_74 : decode cX5_mix 74 = .ok (.lreturn, 1) := by decide +kernel
theorem dX6_init_0 : decode cX6_init 0 = .ok (.aload_n 0, 1) := by decide +kernel
theorem dX6_init_1 : decode cX6_init 1 = .ok (.invokespecial 3, 3) := by decide +kernel
theorem dX6_init_4 : decode cX6_init 4 = .ok (.aload_n 0, 1) := by decide +kernel
theorem dX6_init_5 : decode cX6_init 5 = .ok (.iconst 5, 1) := by decide +kernel
theorem dX6_init_6 : decode cX6_init 6 = .ok (.newarray .int, 2) := by decide +kernel
theorem dX6_init_8 : decode cX6_init 8 = .ok (.putfield 9, 3) := by decide +kernel
theorem dX6_init_11 : decode cX6_init 11 = .ok (.aload_n 0, 1) := by decide +kernel
theorem dX6_init_12 : decode cX6_init 12 = .ok (.ldc 15, 2) := by decide +kernel
theorem dX6_init_14 : decode cX6_init 14 = .ok (.newarray .int, 2) := by decide +kernel
theorem dX6_init_16 : decode cX6_init 16 = .ok (.putfield 16, 3) := by decide +kernel
theorem dX6_init_19 : decode cX6_init 19 = .ok (.aload_n 0, 1) := by decide +kernel
theorem dX6_init_20 : decode cX6_init 20 = .ok (.sipush 8525, 3) := by decide +kernel
theorem dX6_init_23 : decode cX6_init 23 = .ok (.newarray .int, 2) := by decide +kernel
theorem dX6_init_25 : decode cX6_init 25 = .ok (.putfield 19, 3) := by decide +kernel
theorem dX6_init_28 : decode cX6_init 28 = .ok (.aload_n 0, 1) := by decide +kernel
theorem dX6_init_29 : decode cX6_init 29 = .ok (.aload_n 1, 1) := by decide +kernel
theorem dX6_init_30 : decode cX6_init 30 = .ok (.putfield 22, 3) := by decide +kernel
theorem dX6_init_33 : decode cX6_init 33 = .ok (.aload_n 0, 1) := by decide +kernel
theorem dX6_init_34 : decode cX6_init 34 = .ok (.aload_n 2, 1) := by decide +kernel
theorem dX6_init_35 : decode cX6_init 35 = .ok (.putfield 26, 3) := by decide +kernel
theorem dX6_init_38 : decode cX6_init 38 = .ok (.aload_n 0, 1) := by decide +kernel
theorem dX6_init_39 : decode cX6_init 39 = .ok (.new 30, 3) := by decide +kernel
theorem dX6_init_42 : decode cX6_init 42 = .ok (.dup, 1) := by decide +kernel
theorem dX6_init_43 : decode cX6_init 43 = .ok (.aload_n 1, 1) := by decide +kernel
theorem dX6_init_44 : decode cX6_init 44 = .ok (.invokespecial 32, 3) := by decide +kernel
theorem dX6_init_47 : decode cX6_init 47 = .ok (.putfield 35, 3) := by decide +kernel
theorem dX6_init_50 : decode cX6_init 50 = .ok (.return_, 1) := by decide +kernel
theorem dX6_spoil_0 : decode cX6_spoil 0 = .ok (.aload_n 0, 1) := by decide +kernel
theorem dX6_spoil_1 : decode cX6_spoil 1 = .ok (.iconst 0, 1) := by decide +kernel
theorem dX6_spoil_2 : decode cX6_spoil 2 = .ok (.putfield 39, 3) := by decide +kernel
theorem dX6_spoil_5 : decode cX6_spoil 5 = .ok (.return_, 1) := by decide +kernel
theorem dX6_begin_0 : decode cX6_begin 0 = .ok (.aload_n 0, 1) := by decide +kernel
theorem dX6_begin_1 : decode cX6_begin 1 = .ok (.getfield 39, 3) := by decide +kernel
theorem dX6_begin_4 : decode cX6_begin 4 = .ok (.iload_n 2, 1) := by decide +kernel
theorem dX6_begin_5 : decode cX6_begin 5 = .ok (.if_icmp .ne 12, 3) := by decide +kernel
theorem dX6_begin_8 : decode cX6_begin 8 = .ok (.aload_n 0, 1) := by decide +kernel
theorem dX6_begin_9 : decode cX6_begin 9 = .ok (.getfield 43, 3) := by decide +kernel
theorem dX6_begin_12 : decode cX6_begin 12 = .ok (.iload_n 1, 1) := by decide +kernel
theorem dX6_begin_13 : decode cX6_begin 13 = .ok (.if_icmp .ne 4, 3) := by decide +kernel
theorem dX6_begin_16 : decode cX6_begin 16 = .ok (.return_, 1) := by decide +kernel
theorem dX6_begin_17 : decode cX6_begin 17 = .ok (.aload_n 0, 1) := by decide +kernel
theorem dX6_begin_18 : decode cX6_begin 18 = .ok (.iload_n 1, 1) := by decide +kernel
theorem dX6_begin_19 : decode cX6_begin 19 = .ok (.putfield 43, 3) := by decide +kernel
theorem dX6_begin_22 : decode cX6_begin 22 = .ok (.aload_n 0, 1) := by decide +kernel
theorem dX6_begin_23 : decode cX6_begin 23 = .ok (.iload_n 2, 1) := by decide +kernel
theorem dX6_begin_24 : decode cX6_begin 24 = .ok (.putfield 39, 3) := by decide +kernel
theorem dX6_begin_27 : decode cX6_begin 27 = .ok (.aload_n 0, 1) := by decide +kernel
theorem dX6_begin_28 : decode cX6_begin 28 = .ok (.iconst 0, 1) := by decide +kernel
theorem dX6_begin_29 : decode cX6_begin 29 = .ok (.putfield 46, 3) := by decide +kernel
theorem dX6_begin_32 : decode cX6_begin 32 = .ok (.aload_n 0, 1) := by decide +kernel
theorem dX6_begin_33 : decode cX6_begin 33 = .ok (.iconst 0, 1) := by decide +kernel
theorem dX6_begin_34 : decode cX6_begin 34 = .ok (.putfield 49, 3) := by decide +kernel
theorem dX6_begin_37 : decode cX6_begin 37 = .ok (.aload_n 0, 1) := by decide +kernel
theorem dX6_begin_38 : decode cX6_begin 38 = .ok (.getfield 35, 3) := by decide +kernel
theorem dX6_begin_41 : decode cX6_begin 41 = .ok (.iload_n 2, 1) := by decide +kernel
theorem dX6_begin_42 : decode cX6_begin 42 = .ok (.putfield 52, 3) := by decide +kernel
theorem dX6_begin_45 : decode cX6_begin 45 = .ok (.aload_n 0, 1) := by decide +kernel
theorem dX6_begin_46 : decode cX6_begin 46 = .ok (.getfield 26, 3) := by decide +kernel
theorem dX6_begin_49 : decode cX6_begin 49 = .ok (.iload_n 1, 1) := by decide +kernel
theorem dX6_begin_50 : decode cX6_begin 50 = .ok (.invokevirtual 55, 3) := by decide +kernel
theorem dX6_begin_53 : decode cX6_begin 53 = .ok (.return_, 1) := by decide +kernel
theorem dX6_expandTo_0 : decode cX6_expandTo 0 = .ok (.aload_n 0, 1) := by decide +kernel
theorem dX6_expandTo_1 : decode cX6_expandTo 1 = .ok (.getfield 46, 3) := by decide +kernel
theorem dX6_expandTo_4 : decode cX6_expandTo 4 = .ok (.istore_n 2, 1) := by decide +kernel
theorem dX6_expandTo_5 : decode cX6_expandTo 5 = .ok (.iload_n 2, 1) := by decide +kernel
theorem dX6_expandTo_6 : decode cX6_expandTo 6 = .ok (.sipush 8525, 3) := by decide +kernel
theorem dX6_expandTo_9 : decode cX6_expandTo 9 = .ok (.if_icmp .ge 38, 3) := by decide +kernel
theorem dX6_expandTo_12 : decode cX6_expandTo 12 = .ok (.iload_n 2, 1) := by decide +kernel
theorem dX6_expandTo_13 : decode cX6_expandTo 13 = .ok (.aload_n 0, 1) := by decide +kernel
theorem dX6_expandTo_14 : decode cX6_expandTo 14 = .ok (.getfield 26, 3) := by decide +kernel
theorem dX6_expandTo_17 : decode cX6_expandTo 17 = .ok (.getfield 61, 3) := by decide +kernel
theorem dX6_expandTo_20 : decode cX6_expandTo 20 = .ok (.if_icmp .ge 27, 3) := by decide +kernel
theorem dX6_expandTo_23 : decode cX6_expandTo 23 = .ok (.aload_n 0, 1) := by decide +kernel
theorem dX6_expandTo_24 : decode cX6_expandTo 24 = .ok (.getfield 26, 3) := by decide +kernel
theorem dX6_expandTo_27 : decode cX6_expandTo 27 = .ok (.getfield 64, 3) := by decide +kernel
theorem dX6_expandTo_30 : decode cX6_expandTo 30 = .ok (.iload_n 2, 1) := by decide +kernel
theorem dX6_expandTo_31 : decode cX6_expandTo 31 = .ok (.iaload, 1) := by decide +kernel
theorem dX6_expandTo_32 : decode cX6_expandTo 32 = .ok (.iload_n 1, 1) := by decide +kernel
theorem dX6_expandTo_33 : decode cX6_expandTo 33 = .ok (.if_icmp .gt 14, 3) := by decide +kernel
theorem dX6_expandTo_36 : decode cX6_expandTo 36 = .ok (.aload_n 0, 1) := by decide +kernel
theorem dX6_expandTo_37 : decode cX6_expandTo 37 = .ok (.iload_n 2, 1) := by decide +kernel
theorem dX6_expandTo_38 : decode cX6_expandTo 38 = .ok (.invokevirtual 67, 3) := by decide +kernel
theorem dX6_expandTo_41 : decode cX6_expandTo 41 = .ok (.iinc 2 1, 3) := by decide +kernel
theorem dX6_expandTo_44 : decode cX6_expandTo 44 = .ok (.goto (-39), 3) := by decide +kernel
theorem dX6_expandTo_47 : decode cX6_expandTo 47 = .ok (.return_, 1) := by decide +kernel
theorem dX6_expand_0 : decode cX6_expand 0 = .ok (.aload_n 0, 1) := by decide +kernel
theorem dX6_expand_1 : decode cX6_expand 1 = .ok (.getfield 26, 3) := by decide +kernel
theorem dX6_expand_4 : decode cX6_expand 4 = .ok (.getfield 70, 3) := by decide +kernel
theorem dX6_expand_7 : decode cX6_expand 7 = .ok (.iload_n 1, 1) := by decide +kernel
theorem dX6_expand_8 : decode cX6_expand 8 = .ok (.iaload, 1) := by decide +kernel
theorem dX6_expand_9 : decode cX6_expand 9 = .ok (.istore_n 2, 1) := by decide +kernel
theorem dX6_expand_10 : decode cX6_expand 10 = .ok (.aload_n 0, 1) := by decide +kernel
theorem dX6_expand_11 : decode cX6_expand 11 = .ok (.getfield 35, 3) := by decide +kernel
theorem dX6_expand_14 : decode cX6_expand 14 = .ok (.iload_n 2, 1) := by decide +kernel
theorem dX6_expand_15 : decode cX6_expand 15 = .ok (.invokevirtual 73, 3) := by decide +kernel
theorem dX6_expand_18 : decode cX6_expand 18 = .ok (.iconst 0, 1) := by decide +kernel
theorem dX6_expand_19 : decode cX6_expand 19 = .ok (.istore_n 3, 1) := by decide +kernel
theorem dX6_expand_20 : decode cX6_expand 20 = .ok (.iload_n 3, 1) := by decide +kernel
theorem dX6_expand_21 : decode cX6_expand 21 = .ok (.aload_n 0, 1) := by decide +kernel
theorem dX6_expand_22 : decode cX6_expand 22 = .ok (.getfield 22, 3) := by decide +kernel
theorem dX6_expand_25 : decode cX6_expand 25 = .ok (.getfield 76, 3) := by decide +kernel
theorem dX6_expand_28 : decode cX6_expand 28 = .ok (.if_icmp .ge 77, 3) := by decide +kernel
theorem dX6_expand_31 : decode cX6_expand 31 = .ok (.aload_n 0, 1) := by decide +kernel
theorem dX6_expand_32 : decode cX6_expand 32 = .ok (.getfield 35, 3) := by decide +kernel
theorem dX6_expand_35 : decode cX6_expand 35 = .ok (.iload_n 3, 1) := by decide +kernel
theorem dX6_expand_36 : decode cX6_expand 36 = .ok (.invokevirtual 81, 3) := by decide +kernel
theorem dX6_expand_39 : decode cX6_expand 39 = .ok (.istore 4, 2) := by decide +kernel
theorem dX6_expand_41 : decode cX6_expand 41 = .ok (.iconst 0, 1) := by decide +kernel
theorem dX6_expand_42 : decode cX6_expand 42 = .ok (.istore 5, 2) := by decide +kernel
theorem dX6_expand_44 : decode cX6_expand 44 = .ok (.iload 5, 2) := by decide +kernel
theorem dX6_expand_46 : decode cX6_expand 46 = .ok (.bipush 7, 2) := by decide +kernel
theorem dX6_expand_48 : decode cX6_expand 48 = .ok (.if_icmp .ge 51, 3) := by decide +kernel
theorem dX6_expand_51 : decode cX6_expand 51 = .ok (.iload 4, 2) := by decide +kernel
theorem dX6_expand_53 : decode cX6_expand 53 = .ok (.iload 5, 2) := by decide +kernel
theorem dX6_expand_55 : decode cX6_expand 55 = .ok (.ishr, 1) := by decide +kernel
theorem dX6_expand_56 : decode cX6_expand 56 = .ok (.iconst 1, 1) := by decide +kernel
theorem dX6_expand_57 : decode cX6_expand 57 = .ok (.iand, 1) := by decide +kernel
theorem dX6_expand_58 : decode cX6_expand 58 = .ok (.ifCond .eq 35, 3) := by decide +kernel
theorem dX6_expand_61 : decode cX6_expand 61 = .ok (.aload_n 0, 1) := by decide +kernel
theorem dX6_expand_62 : decode cX6_expand 62 = .ok (.iload_n 1, 1) := by decide +kernel
theorem dX6_expand_63 : decode cX6_expand 63 = .ok (.bipush 7, 2) := by decide +kernel
theorem dX6_expand_65 : decode cX6_expand 65 = .ok (.iload_n 3, 1) := by decide +kernel
theorem dX6_expand_66 : decode cX6_expand 66 = .ok (.imul, 1) := by decide +kernel
theorem dX6_expand_67 : decode cX6_expand 67 = .ok (.iload 5, 2) := by decide +kernel
theorem dX6_expand_69 : decode cX6_expand 69 = .ok (.iadd, 1) := by decide +kernel
theorem dX6_expand_70 : decode cX6_expand 70 = .ok (.iload_n 2, 1) := by decide +kernel
theorem dX6_expand_71 : decode cX6_expand 71 = .ok (.iload 5, 2) := by decide +kernel
theorem dX6_expand_73 : decode cX6_expand 73 = .ok (.aload_n 0, 1) := by decide +kernel
theorem dX6_expand_74 : decode cX6_expand 74 = .ok (.getfield 35, 3) := by decide +kernel
theorem dX6_expand_77 : decode cX6_expand 77 = .ok (.getfield 85, 3) := by decide +kernel
theorem dX6_expand_80 : decode cX6_expand 80 = .ok (.iload_n 3, 1) := by decide +kernel
theorem dX6_expand_81 : decode cX6_expand 81 = .ok (.iaload, 1) := by decide +kernel
theorem dX6_expand_82 : decode cX6_expand 82 = .ok (.isub, 1) := by decide +kernel
theorem dX6_expand_83 : decode cX6_expand 83 = .ok (.getstatic 88, 3) := by decide +kernel
theorem dX6_expand_86 : decode cX6_expand 86 = .ok (.iload_n 3, 1) := by decide +kernel
theorem dX6_expand_87 : decode cX6_expand 87 = .ok (.iaload, 1) := by decide +kernel
theorem dX6_expand_88 : decode cX6_expand 88 = .ok (.imul, 1) := by decide +kernel
theorem dX6_expand_89 : decode cX6_expand 89 = .ok (.iadd, 1) := by decide +kernel
theorem dX6_expand_90 : decode cX6_expand 90 = .ok (.invokevirtual 91, 3) := by decide +kernel
theorem dX6_expand_93 : decode cX6_expand 93 = .ok (.iinc 5 1, 3) := by decide +kernel
theorem dX6_expand_96 : decode cX6_expand 96 = .ok (.goto (-52), 3) := by decide +kernel
theorem dX6_expand_99 : decode cX6_expand 99 = .ok (.iinc 3 1, 3) := by decide +kernel
theorem dX6_expand_102 : decode cX6_expand 102 = .ok (.goto (-82), 3) := by decide +kernel
theorem dX6_expand_105 : decode cX6_expand 105 = .ok (.aload_n 0, 1) := by decide +kernel
theorem dX6_expand_106 : decode cX6_expand 106 = .ok (.getfield 19, 3) := by decide +kernel
theorem dX6_expand_109 : decode cX6_expand 109 = .ok (.iload_n 1, 1) := by decide +kernel
theorem dX6_expand_110 : decode cX6_expand 110 = .ok (.aload_n 0, 1) := by decide +kernel
theorem dX6_expand_111 : decode cX6_expand 111 = .ok (.getfield 49, 3) := by decide +kernel
theorem dX6_expand_114 : decode cX6_expand 114 = .ok (.iastore, 1) := by decide +kernel
theorem dX6_expand_115 : decode cX6_expand 115 = .ok (.aload_n 0, 1) := by decide +kernel
theorem dX6_expand_116 : decode cX6_expand 116 = .ok (.iload_n 1, 1) := by decide +kernel
theorem dX6_expand_117 : decode cX6_expand 117 = .ok (.iconst 1, 1) := by decide +kernel
theorem dX6_expand_118 : decode cX6_expand 118 = .ok (.iadd, 1) := by decide +kernel
theorem dX6_expand_119 : decode cX6_expand 119 = .ok (.putfield 46, 3) := by decide +kernel
theorem dX6_expand_122 : decode cX6_expand 122 = .ok (.return_, 1) := by decide +kernel
theorem dX6_meet_0 : decode cX6_meet 0 = .ok (.aload_n 0, 1) := by decide +kernel
theorem dX6_meet_1 : decode cX6_meet 1 = .ok (.getfield 26, 3) := by decide +kernel
theorem dX6_meet_4 : decode cX6_meet 4 = .ok (.iload_n 3, 1) := by decide +kernel
theorem dX6_meet_5 : decode cX6_meet 5 = .ok (.iload_n 1, 1) := by decide +kernel
theorem dX6_meet_6 : decode cX6_meet 6 = .ok (.iload_n 2, 1) := by decide +kernel
theorem dX6_meet_7 : decode cX6_meet 7 = .ok (.aload_n 0, 1) := by decide +kernel
theorem dX6_meet_8 : decode cX6_meet 8 = .ok (.getfield 26, 3) := by decide +kernel
theorem dX6_meet_11 : decode cX6_meet 11 = .ok (.getfield 64, 3) := by decide +kernel
theorem dX6_meet_14 : decode cX6_meet 14 = .ok (.iload_n 1, 1) := by decide +kernel
theorem dX6_meet_15 : decode cX6_meet 15 = .ok (.iaload, 1) := by decide +kernel
theorem dX6_meet_16 : decode cX6_meet 16 = .ok (.iconst 1, 1) := by decide +kernel
theorem dX6_meet_17 : decode cX6_meet 17 = .ok (.iadd, 1) := by decide +kernel
theorem dX6_meet_18 : decode cX6_meet 18 = .ok (.invokevirtual 95, 3) := by decide +kernel
theorem dX6_meet_21 : decode cX6_meet 21 = .ok (.istore 4, 2) := by decide +kernel
theorem dX6_meet_23 : decode cX6_meet 23 = .ok (.iload 4, 2) := by decide +kernel
theorem dX6_meet_25 : decode cX6_meet 25 = .ok (.iload_n 1, 1) := by decide +kernel
theorem dX6_meet_26 : decode cX6_meet 26 = .ok (.if_icmp .ge 30, 3) := by decide +kernel
theorem dX6_meet_29 : decode cX6_meet 29 = .ok (.aload_n 0, 1) := by decide +kernel
theorem dX6_meet_30 : decode cX6_meet 30 = .ok (.getfield 49, 3) := by decide +kernel
theorem dX6_meet_33 : decode cX6_meet 33 = .ok (.ldc 15, 2) := by decide +kernel
theorem dX6_meet_35 : decode cX6_meet 35 = .ok (.if_icmp .ge 21, 3) := by decide +kernel
theorem dX6_meet_38 : decode cX6_meet 38 = .ok (.aload_n 0, 1) := by decide +kernel
theorem dX6_meet_39 : decode cX6_meet 39 = .ok (.getfield 16, 3) := by decide +kernel
theorem dX6_meet_42 : decode cX6_meet 42 = .ok (.aload_n 0, 1) := by decide +kernel
theorem dX6_meet_43 : decode cX6_meet 43 = .ok (.dup, 1) := by decide +kernel
theorem dX6_meet_44 : decode cX6_meet 44 = .ok (.getfield 49, 3) := by decide +kernel
theorem dX6_meet_47 : decode cX6_meet 47 = .ok (.dup_x1, 1) := by decide +kernel
theorem dX6_meet_48 : decode cX6_meet 48 = .ok (.iconst 1, 1) := by decide +kernel
theorem dX6_meet_49 : decode cX6_meet 49 = .ok (.iadd, 1) := by decide +kernel
theorem dX6_meet_50 : decode cX6_meet 50 = .ok (.putfield 49, 3) := by decide +kernel
theorem dX6_meet_53 : decode cX6_meet 53 = .ok (.iload 4, 2) := by decide +kernel
theorem dX6_meet_55 : decode cX6_meet 55 = .ok (.iastore, 1) := by decide +kernel
theorem dX6_meet_56 : decode cX6_meet 56 = .ok (.return_, 1) := by decide +kernel
theorem dX6_has_0 : decode cX6_has 0 = .ok (.aload_n 0, 1) := by decide +kernel
theorem dX6_has_1 : decode cX6_has 1 = .ok (.getfield 46, 3) := by decide +kernel
theorem dX6_has_4 : decode cX6_has 4 = .ok (.istore_n 2, 1) := by decide +kernel
theorem dX6_has_5 : decode cX6_has 5 = .ok (.iload_n 2, 1) := by decide +kernel
theorem dX6_has_6 : decode cX6_has 6 = .ok (.sipush 8525, 3) := by decide +kernel
theorem dX6_has_9 : decode cX6_has 9 = .ok (.if_icmp .ge 36, 3) := by decide +kernel
theorem dX6_has_12 : decode cX6_has 12 = .ok (.iload_n 2, 1) := by decide +kernel
theorem dX6_has_13 : decode cX6_has 13 = .ok (.aload_n 0, 1) := by decide +kernel
theorem dX6_has_14 : decode cX6_has 14 = .ok (.getfield 26, 3) := by decide +kernel
theorem dX6_has_17 : decode cX6_has 17 = .ok (.getfield 61, 3) := by decide +kernel
theorem dX6_has_20 : decode cX6_has 20 = .ok (.if_icmp .ge 25, 3) := by decide +kernel
theorem dX6_has_23 : decode cX6_has 23 = .ok (.iload_n 1, 1) := by decide +kernel
theorem dX6_has_24 : decode cX6_has 24 = .ok (.aload_n 0, 1) := by decide +kernel
theorem dX6_has_25 : decode cX6_has 25 = .ok (.getfield 26, 3) := by decide +kernel
theorem dX6_has_28 : decode cX6_has 28 = .ok (.getfield 61, 3) := by decide +kernel
theorem dX6_has_31 : decode cX6_has 31 = .ok (.if_icmp .lt 14, 3) := by decide +kernel
theorem dX6_has_34 : decode cX6_has 34 = .ok (.aload_n 0, 1) := by decide +kernel
theorem dX6_has_35 : decode cX6_has 35 = .ok (.iload_n 2, 1) := by decide +kernel
theorem dX6_has_36 : decode cX6_has 36 = .ok (.invokevirtual 67, 3) := by decide +kernel
theorem dX6_has_39 : decode cX6_has 39 = .ok (.iinc 2 1, 3) := by decide +kernel
theorem dX6_has_42 : decode cX6_has 42 = .ok (.goto (-37), 3) := by decide +kernel
theorem dX6_has_45 : decode cX6_has 45 = .ok (.iload_n 1, 1) := by decide +kernel
theorem dX6_has_46 : decode cX6_has 46 = .ok (.aload_n 0, 1) := by decide +kernel
theorem dX6_has_47 : decode cX6_has 47 = .ok (.getfield 26, 3) := by decide +kernel
theorem dX6_has_50 : decode cX6_has 50 = .ok (.getfield 61, 3) := by decide +kernel
theorem dX6_has_53 : decode cX6_has 53 = .ok (.if_icmp .ge 7, 3) := by decide +kernel
theorem dX6_has_56 : decode cX6_has 56 = .ok (.iconst 1, 1) := by decide +kernel
theorem dX6_has_57 : decode cX6_has 57 = .ok (.goto 4, 3) := by decide +kernel
theorem dX6_has_60 : decode cX6_has 60 = .ok (.iconst 0, 1) := by decide +kernel
theorem dX6_has_61 : decode cX6_has 61 = .ok (.ireturn, 1) := by decide +kernel
theorem dX6_found_0 : decode cX6_found 0 = .ok (.aload_n 0, 1) := by decide +kernel
theorem dX6_found_1 : decode cX6_found 1 = .ok (.getfield 26, 3) := by decide +kernel
theorem dX6_found_4 : decode cX6_found 4 = .ok (.getfield 61, 3) := by decide +kernel
theorem dX6_found_7 : decode cX6_found 7 = .ok (.ireturn, 1) := by decide +kernel
theorem dX6_isFound_0 : decode cX6_isFound 0 = .ok (.iload_n 1, 1) := by decide +kernel
theorem dX6_isFound_1 : decode cX6_isFound 1 = .ok (.ifCond .lt 18, 3) := by decide +kernel
theorem dX6_isFound_4 : decode cX6_isFound 4 = .ok (.iload_n 1, 1) := by decide +kernel
theorem dX6_isFound_5 : decode cX6_isFound 5 = .ok (.aload_n 0, 1) := by decide +kernel
theorem dX6_isFound_6 : decode cX6_isFound 6 = .ok (.getfield 26, 3) := by decide +kernel
theorem dX6_isFound_9 : decode cX6_isFound 9 = .ok (.getfield 61, 3) := by decide +kernel
theorem dX6_isFound_12 : decode cX6_isFound 12 = .ok (.if_icmp .ge 7, 3) := by decide +kernel
theorem dX6_isFound_15 : decode cX6_isFound 15 = .ok (.iconst 1, 1) := by decide +kernel
theorem dX6_isFound_16 : decode cX6_isFound 16 = .ok (.goto 4, 3) := by decide +kernel
theorem dX6_isFound_19 : decode cX6_isFound 19 = .ok (.iconst 0, 1) := by decide +kernel
theorem dX6_isFound_20 : decode cX6_isFound 20 = .ok (.ireturn, 1) := by decide +kernel
theorem dX6_depthOf_0 : decode cX6_depthOf 0 = .ok (.aload_n 0, 1) := by decide +kernel
theorem dX6_depthOf_1 : decode cX6_depthOf 1 = .ok (.iload_n 1, 1) := by decide +kernel
theorem dX6_depthOf_2 : decode cX6_depthOf 2 = .ok (.invokevirtual 99, 3) := by decide +kernel
theorem dX6_depthOf_5 : decode cX6_depthOf 5 = .ok (.ifCond .eq 15, 3) := by decide +kernel
theorem dX6_depthOf_8 : decode cX6_depthOf 8 = .ok (.aload_n 0, 1) := by decide +kernel
theorem dX6_depthOf_9 : decode cX6_depthOf 9 = .ok (.getfield 26, 3) := by decide +kernel
theorem dX6_depthOf_12 : decode cX6_depthOf 12 = .ok (.getfield 64, 3) := by decide +kernel
theorem dX6_depthOf_15 : decode cX6_depthOf 15 = .ok (.iload_n 1, 1) := by decide +kernel
theorem dX6_depthOf_16 : decode cX6_depthOf 16 = .ok (.iaload, 1) := by decide +kernel
theorem dX6_depthOf_17 : decode cX6_depthOf 17 = .ok (.goto 4, 3) := by decide +kernel
theorem dX6_depthOf_20 : decode cX6_depthOf 20 = .ok (.iconst 0, 1) := by decide +kernel
theorem dX6_depthOf_21 : decode cX6_depthOf 21 = .ok (.ireturn, 1) := by decide +kernel
theorem dX6_codeOf_0 : decode cX6_codeOf 0 = .ok (.aload_n 0, 1) := by decide +kernel
theorem dX6_codeOf_1 : decode cX6_codeOf 1 = .ok (.iload_n 1, 1) := by decide +kernel
theorem dX6_codeOf_2 : decode cX6_codeOf 2 = .ok (.invokevirtual 99, 3) := by decide +kernel
theorem dX6_codeOf_5 : decode cX6_codeOf 5 = .ok (.ifCond .eq 15, 3) := by decide +kernel
theorem dX6_codeOf_8 : decode cX6_codeOf 8 = .ok (.aload_n 0, 1) := by decide +kernel
theorem dX6_codeOf_9 : decode cX6_codeOf 9 = .ok (.getfield 26, 3) := by decide +kernel
theorem dX6_codeOf_12 : decode cX6_codeOf 12 = .ok (.getfield 70, 3) := by decide +kernel
theorem dX6_codeOf_15 : decode cX6_codeOf 15 = .ok (.iload_n 1, 1) := by decide +kernel
theorem dX6_codeOf_16 : decode cX6_codeOf 16 = .ok (.iaload, 1) := by decide +kernel
theorem dX6_codeOf_17 : decode cX6_codeOf 17 = .ok (.goto 4, 3) := by decide +kernel
theorem dX6_codeOf_20 : decode cX6_codeOf 20 = .ok (.iconst 0, 1) := by decide +kernel
theorem dX6_codeOf_21 : decode cX6_codeOf 21 = .ok (.ireturn, 1) := by decide +kernel
theorem dX6_stepTo_0 : decode cX6_stepTo 0 = .ok (.aload_n 0, 1) := by decide +kernel
theorem dX6_stepTo_1 : decode cX6_stepTo 1 = .ok (.iload_n 1, 1) := by decide +kernel
theorem dX6_stepTo_2 : decode cX6_stepTo 2 = .ok (.invokevirtual 99, 3) := by decide +kernel
theorem dX6_stepTo_5 : decode cX6_stepTo 5 = .ok (.ifCond .eq 15, 3) := by decide +kernel
theorem dX6_stepTo_8 : decode cX6_stepTo 8 = .ok (.aload_n 0, 1) := by decide +kernel
theorem dX6_stepTo_9 : decode cX6_stepTo 9 = .ok (.getfield 26, 3) := by decide +kernel
theorem dX6_stepTo_12 : decode cX6_stepTo 12 = .ok (.getfield 103, 3) := by decide +kernel
theorem dX6_stepTo_15 : decode cX6_stepTo 15 = .ok (.iload_n 1, 1) := by decide +kernel
theorem dX6_stepTo_16 : decode cX6_stepTo 16 = .ok (.iaload, 1) := by decide +kernel
theorem dX6_stepTo_17 : decode cX6_stepTo 17 = .ok (.goto 4, 3) := by decide +kernel
theorem dX6_stepTo_20 : decode cX6_stepTo 20 = .ok (.iconst 0, 1) := by decide +kernel
theorem dX6_stepTo_21 : decode cX6_stepTo 21 = .ok (.ireturn, 1) := by decide +kernel
theorem dX6_stateBefore_0 : decode cX6_stateBefore 0 = .ok (.aload_n 0, 1) := by decide +kernel
theorem dX6_stateBefore_1 : decode cX6_stateBefore 1 = .ok (.iload_n 1, 1) := by decide +kernel
theorem dX6_stateBefore_2 : decode cX6_stateBefore 2 = .ok (.invokevirtual 99, 3) := by decide +kernel
theorem dX6_stateBefore_5 : decode cX6_stateBefore 5 = .ok (.ifCond .eq 15, 3) := by decide +kernel
theorem dX6_stateBefore_8 : decode cX6_stateBefore 8 = .ok (.aload_n 0, 1) := by decide +kernel
theorem dX6_stateBefore_9 : decode cX6_stateBefore 9 = .ok (.getfield 26, 3) := by decide +kernel
theorem dX6_stateBefore_12 : decode cX6_stateBefore 12 = .ok (.getfield 106, 3) := by decide +kernel
theorem dX6_stateBefore_15 : decode cX6_stateBefore 15 = .ok (.iload_n 1, 1) := by decide +kernel
theorem dX6_stateBefore_16 : decode cX6_stateBefore 16 = .ok (.iaload, 1) := by decide +kernel
theorem dX6_stateBefore_17 : decode cX6_stateBefore 17 = .ok (.goto 4, 3) := by decide +kernel
theorem dX6_stateBefore_20 : decode cX6_stateBefore 20 = .ok (.iconst 0, 1) := by decide +kernel
theorem dX6_stateBefore_21 : decode cX6_stateBefore 21 = .ok (.ireturn, 1) := by decide +kernel
theorem dX6_want_0 : decode cX6_want 0 = .ok (.aload_n 0, 1) := by decide +kernel
theorem dX6_want_1 : decode cX6_want 1 = .ok (.getfield 22, 3) := by decide +kernel
theorem dX6_want_4 : decode cX6_want 4 = .ok (.iload_n 1, 1) := by decide +kernel
theorem dX6_want_5 : decode cX6_want 5 = .ok (.invokevirtual 109, 3) := by decide +kernel
theorem dX6_want_8 : decode cX6_want 8 = .ok (.ifCond .eq 10, 3) := by decide +kernel
theorem dX6_want_11 : decode cX6_want 11 = .ok (.aload_n 0, 1) := by decide +kernel
theorem dX6_want_12 : decode cX6_want 12 = .ok (.getfield 9, 3) := by decide +kernel
theorem dX6_want_15 : decode cX6_want 15 = .ok (.iload_n 1, 1) := by decide +kernel
theorem dX6_want_16 : decode cX6_want 16 = .ok (.iload_n 2, 1) := by decide +kernel
theorem dX6_want_17 : decode cX6_want 17 = .ok (.iastore, 1) := by decide +kernel
theorem dX6_want_18 : decode cX6_want 18 = .ok (.return_, 1) := by decide +kernel
theorem dX6_firstAsWanted_0 : decode cX6_firstAsWanted 0 = .ok (.iconst 0, 1) := by decide +kernel
theorem dX6_firstAsWanted_1 : decode cX6_firstAsWanted 1 = .ok (.istore_n 1, 1) := by decide +kernel
theorem dX6_firstAsWanted_2 : decode cX6_firstAsWanted 2 = .ok (.iload_n 1, 1) := by decide +kernel
theorem dX6_firstAsWanted_3 : decode cX6_firstAsWanted 3 = .ok (.sipush 8525, 3) := by decide +kernel
theorem dX6_firstAsWanted_6 : decode cX6_firstAsWanted 6 = .ok (.if_icmp .ge 27, 3) := by decide +kernel
theorem dX6_firstAsWanted_9 : decode cX6_firstAsWanted 9 = .ok (.aload_n 0, 1) := by decide +kernel
theorem dX6_firstAsWanted_10 : decode cX6_firstAsWanted 10 = .ok (.iload_n 1, 1) := by decide +kernel
theorem dX6_firstAsWanted_11 : decode cX6_firstAsWanted 11 = .ok (.invokevirtual 112, 3) := by decide +kernel
theorem dX6_firstAsWanted_14 : decode cX6_firstAsWanted 14 = .ok (.ifCond .eq 19, 3) := by decide +kernel
theorem dX6_firstAsWanted_17 : decode cX6_firstAsWanted 17 = .ok (.aload_n 0, 1) := by decide +kernel
theorem dX6_firstAsWanted_18 : decode cX6_firstAsWanted 18 = .ok (.iload_n 1, 1) := by decide +kernel
theorem dX6_firstAsWanted_19 : decode cX6_firstAsWanted 19 = .ok (.invokevirtual 115, 3) := by decide +kernel
theorem dX6_firstAsWanted_22 : decode cX6_firstAsWanted 22 = .ok (.ifCond .eq 5, 3) := by decide +kernel
theorem dX6_firstAsWanted_25 : decode cX6_firstAsWanted 25 = .ok (.iload_n 1, 1) := by decide +kernel
theorem dX6_firstAsWanted_26 : decode cX6_firstAsWanted 26 = .ok (.ireturn, 1) := by decide +kernel
theorem dX6_firstAsWanted_27 : decode cX6_firstAsWanted 27 = .ok (.iinc 1 1, 3) := by decide +kernel
theorem dX6_firstAsWanted_30 : decode cX6_firstAsWanted 30 = .ok (.goto (-28), 3) := by decide +kernel
theorem dX6_firstAsWanted_33 : decode cX6_firstAsWanted 33 = .ok (.bipush (-9), 2) := by decide +kernel
theorem dX6_firstAsWanted_35 : decode cX6_firstAsWanted 35 = .ok (.ireturn, 1) := by decide +kernel
theorem dX6_asNear_0 : decode cX6_asNear 0 = .ok (.iconst 0, 1) := by decide +kernel
theorem dX6_asNear_1 : decode cX6_asNear 1 = .ok (.istore_n 2, 1) := by decide +kernel
theorem dX6_asNear_2 : decode cX6_asNear 2 = .ok (.iload_n 1, 1) := by decide +kernel
theorem dX6_asNear_3 : decode cX6_asNear 3 = .ok (.istore_n 3, 1) := by decide +kernel
theorem dX6_asNear_4 : decode cX6_asNear 4 = .ok (.iload_n 3, 1) := by decide +kernel
theorem dX6_asNear_5 : decode cX6_asNear 5 = .ok (.sipush 8525, 3) := by decide +kernel
theorem dX6_asNear_8 : decode cX6_asNear 8 = .ok (.if_icmp .ge 49, 3) := by decide +kernel
theorem dX6_asNear_11 : decode cX6_asNear 11 = .ok (.aload_n 0, 1) := by decide +kernel
theorem dX6_asNear_12 : decode cX6_asNear 12 = .ok (.iload_n 3, 1) := by decide +kernel
theorem dX6_asNear_13 : decode cX6_asNear 13 = .ok (.invokevirtual 112, 3) := by decide +kernel
theorem dX6_asNear_16 : decode cX6_asNear 16 = .ok (.ifCond .eq 41, 3) := by decide +kernel
theorem dX6_asNear_19 : decode cX6_asNear 19 = .ok (.aload_n 0, 1) := by decide +kernel
theorem dX6_asNear_20 : decode cX6_asNear 20 = .ok (.getfield 26, 3) := by decide +kernel
theorem dX6_asNear_23 : decode cX6_asNear 23 = .ok (.getfield 64, 3) := by decide +kernel
theorem dX6_asNear_26 : decode cX6_asNear 26 = .ok (.iload_n 3, 1) := by decide +kernel
theorem dX6_asNear_27 : decode cX6_asNear 27 = .ok (.iaload, 1) := by decide +kernel
theorem dX6_asNear_28 : decode cX6_asNear 28 = .ok (.aload_n 0, 1) := by decide +kernel
theorem dX6_asNear_29 : decode cX6_asNear 29 = .ok (.getfield 26, 3) := by decide +kernel
theorem dX6_asNear_32 : decode cX6_asNear 32 = .ok (.getfield 64, 3) := by decide +kernel
theorem dX6_asNear_35 : decode cX6_asNear 35 = .ok (.iload_n 1, 1) := by decide +kernel
theorem dX6_asNear_36 : decode cX6_asNear 36 = .ok (.iaload, 1) := by decide +kernel
theorem dX6_asNear_37 : decode cX6_asNear 37 = .ok (.if_icmp .ne 20, 3) := by decide +kernel
theorem dX6_asNear_40 : decode cX6_asNear 40 = .ok (.aload_n 0, 1) := by decide +kernel
theorem dX6_asNear_41 : decode cX6_asNear 41 = .ok (.iload_n 3, 1) := by decide +kernel
theorem dX6_asNear_42 : decode cX6_asNear 42 = .ok (.invokevirtual 115, 3) := by decide +kernel
theorem dX6_asNear_45 : decode cX6_asNear 45 = .ok (.ifCond .eq 6, 3) := by decide +kernel
theorem dX6_asNear_48 : decode cX6_asNear 48 = .ok (.iinc 2 1, 3) := by decide +kernel
theorem dX6_asNear_51 : decode cX6_asNear 51 = .ok (.iinc 3 1, 3) := by decide +kernel
theorem dX6_asNear_54 : decode cX6_asNear 54 = .ok (.goto (-50), 3) := by decide +kernel
theorem dX6_asNear_57 : decode cX6_asNear 57 = .ok (.iload_n 2, 1) := by decide +kernel
theorem dX6_asNear_58 : decode cX6_asNear 58 = .ok (.ireturn, 1) := by decide +kernel
theorem dX6_asWanted_0 : decode cX6_asWanted 0 = .ok (.aload_n 0, 1) := by decide +kernel
theorem dX6_asWanted_1 : decode cX6_asWanted 1 = .ok (.getfield 35, 3) := by decide +kernel
theorem dX6_asWanted_4 : decode cX6_asWanted 4 = .ok (.aload_n 0, 1) := by decide +kernel
theorem dX6_asWanted_5 : decode cX6_asWanted 5 = .ok (.getfield 26, 3) := by decide +kernel
theorem dX6_asWanted_8 : decode cX6_asWanted 8 = .ok (.getfield 70, 3) := by decide +kernel
theorem dX6_asWanted_11 : decode cX6_asWanted 11 = .ok (.iload_n 1, 1) := by decide +kernel
theorem dX6_asWanted_12 : decode cX6_asWanted 12 = .ok (.iaload, 1) := by decide +kernel
theorem dX6_asWanted_13 : decode cX6_asWanted 13 = .ok (.invokevirtual 73, 3) := by decide +kernel
theorem dX6_asWanted_16 : decode cX6_asWanted 16 = .ok (.iconst 0, 1) := by decide +kernel
theorem dX6_asWanted_17 : decode cX6_asWanted 17 = .ok (.istore_n 2, 1) := by decide +kernel
theorem dX6_asWanted_18 : decode cX6_asWanted 18 = .ok (.iload_n 2, 1) := by decide +kernel
theorem dX6_asWanted_19 : decode cX6_asWanted 19 = .ok (.aload_n 0, 1) := by decide +kernel
theorem dX6_asWanted_20 : decode cX6_asWanted 20 = .ok (.getfield 22, 3) := by decide +kernel
theorem dX6_asWanted_23 : decode cX6_asWanted 23 = .ok (.getfield 76, 3) := by decide +kernel
theorem dX6_asWanted_26 : decode cX6_asWanted 26 = .ok (.if_icmp .ge 37, 3) := by decide +kernel
theorem dX6_asWanted_29 : decode cX6_asWanted 29 = .ok (.aload_n 0, 1) := by decide +kernel
theorem dX6_asWanted_30 : decode cX6_asWanted 30 = .ok (.getfield 9, 3) := by decide +kernel
theorem dX6_asWanted_33 : decode cX6_asWanted 33 = .ok (.iload_n 2, 1) := by decide +kernel
theorem dX6_asWanted_34 : decode cX6_asWanted 34 = .ok (.iaload, 1) := by decide +kernel
theorem dX6_asWanted_35 : decode cX6_asWanted 35 = .ok (.ifCond .lt 22, 3) := by decide +kernel
theorem dX6_asWanted_38 : decode cX6_asWanted 38 = .ok (.aload_n 0, 1) := by decide +kernel
theorem dX6_asWanted_39 : decode cX6_asWanted 39 = .ok (.getfield 35, 3) := by decide +kernel
theorem dX6_asWanted_42 : decode cX6_asWanted 42 = .ok (.iload_n 2, 1) := by decide +kernel
theorem dX6_asWanted_43 : decode cX6_asWanted 43 = .ok (.invokevirtual 118, 3) := by decide +kernel
theorem dX6_asWanted_46 : decode cX6_asWanted 46 = .ok (.aload_n 0, 1) := by decide +kernel
theorem dX6_asWanted_47 : decode cX6_asWanted 47 = .ok (.getfield 9, 3) := by decide +kernel
theorem dX6_asWanted_50 : decode cX6_asWanted 50 = .ok (.iload_n 2, 1) := by decide +kernel
theorem dX6_asWanted_51 : decode cX6_asWanted 51 = .ok (.iaload, 1) := by decide +kernel
theorem dX6_asWanted_52 : decode cX6_asWanted 52 = .ok (.if_icmp .eq 5, 3) := by decide +kernel
theorem dX6_asWanted_55 : decode cX6_asWanted 55 = .ok (.iconst 0, 1) := by decide +kernel
theorem dX6_asWanted_56 : decode cX6_asWanted 56 = .ok (.ireturn, 1) := by decide +kernel
theorem dX6_asWanted_57 : decode cX6_asWanted 57 = .ok (.iinc 2 1, 3) := by decide +kernel
theorem dX6_asWanted_60 : decode cX6_asWanted 60 = .ok (.goto (-42), 3) := by decide +kernel
theorem dX6_asWanted_63 : decode cX6_asWanted 63 = .ok (.iconst 1, 1) := by decide +kernel
theorem dX6_asWanted_64 : decode cX6_asWanted 64 = .ok (.ireturn, 1) := by decide +kernel
theorem dX6_firstDoing_0 : decode cX6_firstDoing 0 = .ok (.iconst 0, 1) := by decide +kernel
theorem dX6_firstDoing_1 : decode cX6_firstDoing 1 = .ok (.istore_n 2, 1) := by decide +kernel
theorem dX6_firstDoing_2 : decode cX6_firstDoing 2 = .ok (.iload_n 2, 1) := by decide +kernel
theorem dX6_firstDoing_3 : decode cX6_firstDoing 3 = .ok (.sipush 8525, 3) := by decide +kernel
theorem dX6_firstDoing_6 : decode cX6_firstDoing 6 = .ok (.if_icmp .ge 49, 3) := by decide +kernel
theorem dX6_firstDoing_9 : decode cX6_firstDoing 9 = .ok (.aload_n 0, 1) := by decide +kernel
theorem dX6_firstDoing_10 : decode cX6_firstDoing 10 = .ok (.iload_n 2, 1) := by decide +kernel
theorem dX6_firstDoing_11 : decode cX6_firstDoing 11 = .ok (.invokevirtual 112, 3) := by decide +kernel
theorem dX6_firstDoing_14 : decode cX6_firstDoing 14 = .ok (.ifCond .eq 41, 3) := by decide +kernel
theorem dX6_firstDoing_17 : decode cX6_firstDoing 17 = .ok (.aload_n 0, 1) := by decide +kernel
theorem dX6_firstDoing_18 : decode cX6_firstDoing 18 = .ok (.getfield 35, 3) := by decide +kernel
theorem dX6_firstDoing_21 : decode cX6_firstDoing 21 = .ok (.aload_n 0, 1) := by decide +kernel
theorem dX6_firstDoing_22 : decode cX6_firstDoing 22 = .ok (.getfield 26, 3) := by decide +kernel
theorem dX6_firstDoing_25 : decode cX6_firstDoing 25 = .ok (.getfield 70, 3) := by decide +kernel
theorem dX6_firstDoing_28 : decode cX6_firstDoing 28 = .ok (.iload_n 2, 1) := by decide +kernel
theorem dX6_firstDoing_29 : decode cX6_firstDoing 29 = .ok (.iaload, 1) := by decide +kernel
theorem dX6_firstDoing_30 : decode cX6_firstDoing 30 = .ok (.invokevirtual 73, 3) := by decide +kernel
theorem dX6_firstDoing_33 : decode cX6_firstDoing 33 = .ok (.aload_n 0, 1) := by decide +kernel
theorem dX6_firstDoing_34 : decode cX6_firstDoing 34 = .ok (.getfield 35, 3) := by decide +kernel
theorem dX6_firstDoing_37 : decode cX6_firstDoing 37 = .ok (.invokevirtual 121, 3) := by decide +kernel
theorem dX6_firstDoing_40 : decode cX6_firstDoing 40 = .ok (.iload_n 1, 1) := by decide +kernel
theorem dX6_firstDoing_41 : decode cX6_firstDoing 41 = .ok (.ishr, 1) := by decide +kernel
theorem dX6_firstDoing_42 : decode cX6_firstDoing 42 = .ok (.iconst 1, 1) := by decide +kernel
theorem dX6_firstDoing_43 : decode cX6_firstDoing 43 = .ok (.iand, 1) := by decide +kernel
theorem dX6_firstDoing_44 : decode cX6_firstDoing 44 = .ok (.ifCond .eq 5, 3) := by decide +kernel
theorem dX6_firstDoing_47 : decode cX6_firstDoing 47 = .ok (.iload_n 2, 1) := by decide +kernel
theorem dX6_firstDoing_48 : decode cX6_firstDoing 48 = .ok (.ireturn, 1) := by decide +kernel
theorem dX6_firstDoing_49 : decode cX6_firstDoing 49 = .ok (.iinc 2 1, 3) := by decide +kernel
theorem dX6_firstDoing_52 : decode cX6_firstDoing 52 = .ok (.goto (-50), 3) := by decide +kernel
theorem dX6_firstDoing_55 : decode cX6_firstDoing 55 = .ok (.bipush (-9), 2) := by decide +kernel
theorem dX6_firstDoing_57 : decode cX6_firstDoing 57 = .ok (.ireturn, 1) := by decide +kernel
theorem dX7_init_0 : decode cX7_init 0 = .ok (.aload_n 0, 1) := by decide +kernel
theorem dX7_init_1 : decode cX7_init 1 = .ok (.invokespecial 3, 3) := by decide +kernel
theorem dX7_init_4 : decode cX7_init 4 = .ok (.aload_n 0, 1) := by decide +kernel
theorem dX7_init_5 : decode cX7_init 5 = .ok (.sipush 8525, 3) := by decide +kernel
theorem dX7_init_8 : decode cX7_init 8 = .ok (.newarray .int, 2) := by decide +kernel
theorem dX7_init_10 : decode cX7_init 10 = .ok (.putfield 9, 3) := by decide +kernel
theorem dX7_init_13 : decode cX7_init 13 = .ok (.aload_n 0, 1) := by decide +kernel
theorem dX7_init_14 : decode cX7_init 14 = .ok (.sipush 8525, 3) := by decide +kernel
theorem dX7_init_17 : decode cX7_init 17 = .ok (.newarray .int, 2) := by decide +kernel
theorem dX7_init_19 : decode cX7_init 19 = .ok (.putfield 15, 3) := by decide +kernel
theorem dX7_init_22 : decode cX7_init 22 = .ok (.aload_n 0, 1) := by decide +kernel
theorem dX7_init_23 : decode cX7_init 23 = .ok (.sipush 8525, 3) := by decide +kernel
theorem dX7_init_26 : decode cX7_init 26 = .ok (.newarray .int, 2) := by decide +kernel
theorem dX7_init_28 : decode cX7_init 28 = .ok (.putfield 18, 3) := by decide +kernel
theorem dX7_init_31 : decode cX7_init 31 = .ok (.aload_n 0, 1) := by decide +kernel
theorem dX7_init_32 : decode cX7_init 32 = .ok (.sipush 8525, 3) := by decide +kernel
theorem dX7_init_35 : decode cX7_init 35 = .ok (.newarray .int, 2) := by decide +kernel
theorem dX7_init_37 : decode cX7_init 37 = .ok (.putfield 21, 3) := by decide +kernel
theorem dX7_init_40 : decode cX7_init 40 = .ok (.aload_n 0, 1) := by decide +kernel
theorem dX7_init_41 : decode cX7_init 41 = .ok (.sipush 16807, 3) := by decide +kernel
theorem dX7_init_44 : decode cX7_init 44 = .ok (.newarray .int, 2) := by decide +kernel
theorem dX7_init_46 : decode cX7_init 46 = .ok (.putfield 24, 3) := by decide +kernel
theorem dX7_init_49 : decode cX7_init 49 = .ok (.return_, 1) := by decide +kernel
theorem dX7_begin_0 : decode cX7_begin 0 = .ok (.iconst 0, 1) := by decide +kernel
theorem dX7_begin_1 : decode cX7_begin 1 = .ok (.istore_n 2, 1) := by decide +kernel
theorem dX7_begin_2 : decode cX7_begin 2 = .ok (.iload_n 2, 1) := by decide +kernel
theorem dX7_begin_3 : decode cX7_begin 3 = .ok (.aload_n 0, 1) := by decide +kernel
theorem dX7_begin_4 : decode cX7_begin 4 = .ok (.getfield 27, 3) := by decide +kernel
theorem dX7_begin_7 : decode cX7_begin 7 = .ok (.if_icmp .ge 21, 3) := by decide +kernel
theorem dX7_begin_10 : decode cX7_begin 10 = .ok (.aload_n 0, 1) := by decide +kernel
theorem dX7_begin_11 : decode cX7_begin 11 = .ok (.getfield 24, 3) := by decide +kernel
theorem dX7_begin_14 : decode cX7_begin 14 = .ok (.aload_n 0, 1) := by decide +kernel
theorem dX7_begin_15 : decode cX7_begin 15 = .ok (.getfield 9, 3) := by decide +kernel
theorem dX7_begin_18 : decode cX7_begin 18 = .ok (.iload_n 2, 1) := by decide +kernel
theorem dX7_begin_19 : decode cX7_begin 19 = .ok (.iaload, 1) := by decide +kernel
theorem dX7_begin_20 : decode cX7_begin 20 = .ok (.iconst 0, 1) := by decide +kernel
theorem dX7_begin_21 : decode cX7_begin 21 = .ok (.iastore, 1) := by decide +kernel
theorem dX7_begin_22 : decode cX7_begin 22 = .ok (.iinc 2 1, 3) := by decide +kernel
theorem dX7_begin_25 : decode cX7_begin 25 = .ok (.goto (-23), 3) := by decide +kernel
theorem dX7_begin_28 : decode cX7_begin 28 = .ok (.aload_n 0, 1) := by decide +kernel
theorem dX7_begin_29 : decode cX7_begin 29 = .ok (.iconst 0, 1) := by decide +kernel
theorem dX7_begin_30 : decode cX7_begin 30 = .ok (.putfield 27, 3) := by decide +kernel
theorem dX7_begin_33 : decode cX7_begin 33 = .ok (.aload_n 0, 1) := by decide +kernel
theorem dX7_begin_34 : decode cX7_begin 34 = .ok (.iload_n 1, 1) := by decide +kernel
theorem dX7_begin_35 : decode cX7_begin 35 = .ok (.iconst 0, 1) := by decide +kernel
theorem dX7_begin_36 : decode cX7_begin 36 = .ok (.iconst 0, 1) := by decide +kernel
theorem dX7_begin_37 : decode cX7_begin 37 = .ok (.iconst 0, 1) := by decide +kernel
theorem dX7_begin_38 : decode cX7_begin 38 = .ok (.invokevirtual 31, 3) := by decide +kernel
theorem dX7_begin_41 : decode cX7_begin 41 = .ok (.pop, 1) := by decide +kernel
theorem dX7_begin_42 : decode cX7_begin 42 = .ok (.return_, 1) := by decide +kernel
theorem dX7_reach_0 : decode cX7_reach 0 = .ok (.iload_n 1, 1) := by decide +kernel
theorem dX7_reach_1 : decode cX7_reach 1 = .ok (.ifCond .lt 10, 3) := by decide +kernel
theorem dX7_reach_4 : decode cX7_reach 4 = .ok (.iload_n 1, 1) := by decide +kernel
theorem dX7_reach_5 : decode cX7_reach 5 = .ok (.sipush 16807, 3) := by decide +kernel
theorem dX7_reach_8 : decode cX7_reach 8 = .ok (.if_icmp .lt 5, 3) := by decide +kernel
theorem dX7_reach_11 : decode cX7_reach 11 = .ok (.iconst 0, 1) := by decide +kernel
theorem dX7_reach_12 : decode cX7_reach 12 = .ok (.ireturn, 1) := by decide +kernel
theorem dX7_reach_13 : decode cX7_reach 13 = .ok (.aload_n 0, 1) := by decide +kernel
theorem dX7_reach_14 : decode cX7_reach 14 = .ok (.getfield 24, 3) := by decide +kernel
theorem dX7_reach_17 : decode cX7_reach 17 = .ok (.iload_n 1, 1) := by decide +kernel
theorem dX7_reach_18 : decode cX7_reach 18 = .ok (.iaload, 1) := by decide +kernel
theorem dX7_reach_19 : decode cX7_reach 19 = .ok (.ifCond .le 12, 3) := by decide +kernel
theorem dX7_reach_22 : decode cX7_reach 22 = .ok (.aload_n 0, 1) := by decide +kernel
theorem dX7_reach_23 : decode cX7_reach 23 = .ok (.getfield 24, 3) := by decide +kernel
theorem dX7_reach_26 : decode cX7_reach 26 = .ok (.iload_n 1, 1) := by decide +kernel
theorem dX7_reach_27 : decode cX7_reach 27 = .ok (.iaload, 1) := by decide +kernel
theorem dX7_reach_28 : decode cX7_reach 28 = .ok (.iconst 1, 1) := by decide +kernel
theorem dX7_reach_29 : decode cX7_reach 29 = .ok (.isub, 1) := by decide +kernel
theorem dX7_reach_30 : decode cX7_reach 30 = .ok (.ireturn, 1) := by decide +kernel
theorem dX7_reach_31 : decode cX7_reach 31 = .ok (.aload_n 0, 1) := by decide +kernel
theorem dX7_reach_32 : decode cX7_reach 32 = .ok (.getfield 27, 3) := by decide +kernel
theorem dX7_reach_35 : decode cX7_reach 35 = .ok (.sipush 8525, 3) := by decide +kernel
theorem dX7_reach_38 : decode cX7_reach 38 = .ok (.if_icmp .lt 5, 3) := by decide +kernel
theorem dX7_reach_41 : decode cX7_reach 41 = .ok (.iconst 0, 1) := by decide +kernel
theorem dX7_reach_42 : decode cX7_reach 42 = .ok (.ireturn, 1) := by decide +kernel
theorem dX7_reach_43 : decode cX7_reach 43 = .ok (.aload_n 0, 1) := by decide +kernel
theorem dX7_reach_44 : decode cX7_reach 44 = .ok (.getfield 9, 3) := by decide +kernel
theorem dX7_reach_47 : decode cX7_reach 47 = .ok (.aload_n 0, 1) := by decide +kernel
theorem dX7_reach_48 : decode cX7_reach 48 = .ok (.getfield 27, 3) := by decide +kernel
theorem dX7_reach_51 : decode cX7_reach 51 = .ok (.iload_n 1, 1) := by decide +kernel
theorem dX7_reach_52 : decode cX7_reach 52 = .ok (.iastore, 1) := by decide +kernel
theorem dX7_reach_53 : decode cX7_reach 53 = .ok (.aload_n 0, 1) := by decide +kernel
theorem dX7_reach_54 : decode cX7_reach 54 = .ok (.getfield 15, 3) := by decide +kernel
theorem dX7_reach_57 : decode cX7_reach 57 = .ok (.aload_n 0, 1) := by decide +kernel
theorem dX7_reach_58 : decode cX7_reach 58 = .ok (.getfield 27, 3) := by decide +kernel
theorem dX7_reach_61 : decode cX7_reach 61 = .ok (.iload_n 2, 1) := by decide +kernel
theorem dX7_reach_62 : decode cX7_reach 62 = .ok (.iastore, 1) := by decide +kernel
theorem dX7_reach_63 : decode cX7_reach 63 = .ok (.aload_n 0, 1) := by decide +kernel
theorem dX7_reach_64 : decode cX7_reach 64 = .ok (.getfield 18, 3) := by decide +kernel
theorem dX7_reach_67 : decode cX7_reach 67 = .ok (.aload_n 0, 1) := by decide +kernel
theorem dX7_reach_68 : decode cX7_reach 68 = .ok (.getfield 27, 3) := by decide +kernel
theorem dX7_reach_71 : decode cX7_reach 71 = .ok (.iload_n 3, 1) := by decide +kernel
theorem dX7_reach_72 : decode cX7_reach 72 = .ok (.iastore, 1) := by decide +kernel
theorem dX7_reach_73 : decode cX7_reach 73 = .ok (.aload_n 0, 1) := by decide +kernel
theorem dX7_reach_74 : decode cX7_reach 74 = .ok (.getfield 21, 3) := by decide +kernel
theorem dX7_reach_77 : decode cX7_reach 77 = .ok (.aload_n 0, 1) := by decide +kernel
theorem dX7_reach_78 : decode cX7_reach 78 = .ok (.getfield 27, 3) := by decide +kernel
theorem dX7_reach_81 : decode cX7_reach 81 = .ok (.iload 4, 2) := by decide +kernel
theorem dX7_reach_83 : decode cX7_reach 83 = .ok (.iastore, 1) := by decide +kernel
theorem dX7_reach_84 : decode cX7_reach 84 = .ok (.aload_n 0, 1) := by decide +kernel
theorem dX7_reach_85 : decode cX7_reach 85 = .ok (.getfield 24, 3) := by decide +kernel
theorem dX7_reach_88 : decode cX7_reach 88 = .ok (.iload_n 1, 1) := by decide +kernel
theorem dX7_reach_89 : decode cX7_reach 89 = .ok (.aload_n 0, 1) := by decide +kernel
theorem dX7_reach_90 : decode cX7_reach 90 = .ok (.getfield 27, 3) := by decide +kernel
theorem dX7_reach_93 : decode cX7_reach 93 = .ok (.iconst 1, 1) := by decide +kernel
theorem dX7_reach_94 : decode cX7_reach 94 = .ok (.iadd, 1) := by decide +kernel
theorem dX7_reach_95 : decode cX7_reach 95 = .ok (.iastore, 1) := by decide +kernel
theorem dX7_reach_96 : decode cX7_reach 96 = .ok (.aload_n 0, 1) := by decide +kernel
theorem dX7_reach_97 : decode cX7_reach 97 = .ok (.dup, 1) := by decide +kernel
theorem dX7_reach_98 : decode cX7_reach 98 = .ok (.getfield 27, 3) := by decide +kernel
theorem dX7_reach_101 : decode cX7_reach 101 = .ok (.dup_x1, 1) := by decide +kernel
theorem dX7_reach_102 : decode cX7_reach 102 = .ok (.iconst 1, 1) := by decide +kernel
theorem dX7_reach_103 : decode cX7_reach 103 = .ok (.iadd, 1) := by decide +kernel
theorem dX7_reach_104 : decode cX7_reach 104 = .ok (.putfield 27, 3) := by decide +kernel
theorem dX7_reach_107 : decode cX7_reach 107 = .ok (.ireturn, 1) := by decide +kernel
theorem dX8_init_0 : decode cX8_init 0 = .ok (.aload_n 0, 1) := by decide +kernel
theorem dX8_init_1 : decode cX8_init 1 = .ok (.invokespecial 3, 3) := by decide +kernel
theorem dX8_init_4 : decode cX8_init 4 = .ok (.aload_n 0, 1) := by decide +kernel
theorem dX8_init_5 : decode cX8_init 5 = .ok (.aload_n 1, 1) := by decide +kernel
theorem dX8_init_6 : decode cX8_init 6 = .ok (.putfield 9, 3) := by decide +kernel
theorem dX8_init_9 : decode cX8_init 9 = .ok (.aload_n 0, 1) := by decide +kernel
theorem dX8_init_10 : decode cX8_init 10 = .ok (.aload_n 2, 1) := by decide +kernel
theorem dX8_init_11 : decode cX8_init 11 = .ok (.putfield 15, 3) := by decide +kernel
theorem dX8_init_14 : decode cX8_init 14 = .ok (.aload_n 0, 1) := by decide +kernel
theorem dX8_init_15 : decode cX8_init 15 = .ok (.aload_n 3, 1) := by decide +kernel
theorem dX8_init_16 : decode cX8_init 16 = .ok (.putfield 19, 3) := by decide +kernel
theorem dX8_init_19 : decode cX8_init 19 = .ok (.aload_n 0, 1) := by decide +kernel
theorem dX8_init_20 : decode cX8_init 20 = .ok (.new 23, 3) := by decide +kernel
theorem dX8_init_23 : decode cX8_init 23 = .ok (.dup, 1) := by decide +kernel
theorem dX8_init_24 : decode cX8_init 24 = .ok (.aload_n 1, 1) := by decide +kernel
theorem dX8_init_25 : decode cX8_init 25 = .ok (.invokespecial 25, 3) := by decide +kernel
theorem dX8_init_28 : decode cX8_init 28 = .ok (.putfield 28, 3) := by decide +kernel
theorem dX8_init_31 : decode cX8_init 31 = .ok (.return_, 1) := by decide +kernel
theorem dX8_fewestFor_0 : decode cX8_fewestFor 0 = .ok (.aload_n 0, 1) := by decide +kernel
theorem dX8_fewestFor_1 : decode cX8_fewestFor 1 = .ok (.aload_n 1, 1) := by decide +kernel
theorem dX8_fewestFor_2 : decode cX8_fewestFor 2 = .ok (.invokevirtual 32, 3) := by decide +kernel
theorem dX8_fewestFor_5 : decode cX8_fewestFor 5 = .ok (.iconst 0, 1) := by decide +kernel
theorem dX8_fewestFor_6 : decode cX8_fewestFor 6 = .ok (.istore 4, 2) := by decide +kernel
theorem dX8_fewestFor_8 : decode cX8_fewestFor 8 = .ok (.iload 4, 2) := by decide +kernel
theorem dX8_fewestFor_10 : decode cX8_fewestFor 10 = .ok (.sipush 8525, 3) := by decide +kernel
theorem dX8_fewestFor_13 : decode cX8_fewestFor 13 = .ok (.if_icmp .ge 82, 3) := by decide +kernel
theorem dX8_fewestFor_16 : decode cX8_fewestFor 16 = .ok (.iload 4, 2) := by decide +kernel
theorem dX8_fewestFor_18 : decode cX8_fewestFor 18 = .ok (.aload_n 0, 1) := by decide +kernel
theorem dX8_fewestFor_19 : decode cX8_fewestFor 19 = .ok (.getfield 15, 3) := by decide +kernel
theorem dX8_fewestFor_22 : decode cX8_fewestFor 22 = .ok (.getfield 36, 3) := by decide +kernel
theorem dX8_fewestFor_25 : decode cX8_fewestFor 25 = .ok (.if_icmp .ge 70, 3) := by decide +kernel
theorem dX8_fewestFor_28 : decode cX8_fewestFor 28 = .ok (.aload_n 0, 1) := by decide +kernel
theorem dX8_fewestFor_29 : decode cX8_fewestFor 29 = .ok (.getfield 28, 3) := by decide +kernel
theorem dX8_fewestFor_32 : decode cX8_fewestFor 32 = .ok (.aload_n 0, 1) := by decide +kernel
theorem dX8_fewestFor_33 : decode cX8_fewestFor 33 = .ok (.getfield 15, 3) := by decide +kernel
theorem dX8_fewestFor_36 : decode cX8_fewestFor 36 = .ok (.getfield 42, 3) := by decide +kernel
theorem dX8_fewestFor_39 : decode cX8_fewestFor 39 = .ok (.iload 4, 2) := by decide +kernel
theorem dX8_fewestFor_41 : decode cX8_fewestFor 41 = .ok (.iaload, 1) := by decide +kernel
theorem dX8_fewestFor_42 : decode cX8_fewestFor 42 = .ok (.invokevirtual 46, 3) := by decide +kernel
theorem dX8_fewestFor_45 : decode cX8_fewestFor 45 = .ok (.aload_n 0, 1) := by decide +kernel
theorem dX8_fewestFor_46 : decode cX8_fewestFor 46 = .ok (.getfield 28, 3) := by decide +kernel
theorem dX8_fewestFor_49 : decode cX8_fewestFor 49 = .ok (.iload_n 3, 1) := by decide +kernel
theorem dX8_fewestFor_50 : decode cX8_fewestFor 50 = .ok (.invokevirtual 50, 3) := by decide +kernel
theorem dX8_fewestFor_53 : decode cX8_fewestFor 53 = .ok (.iload_n 2, 1) := by decide +kernel
theorem dX8_fewestFor_54 : decode cX8_fewestFor 54 = .ok (.if_icmp .ne 14, 3) := by decide +kernel
theorem dX8_fewestFor_57 : decode cX8_fewestFor 57 = .ok (.aload_n 0, 1) := by decide +kernel
theorem dX8_fewestFor_58 : decode cX8_fewestFor 58 = .ok (.getfield 15, 3) := by decide +kernel
theorem dX8_fewestFor_61 : decode cX8_fewestFor 61 = .ok (.getfield 54, 3) := by decide +kernel
theorem dX8_fewestFor_64 : decode cX8_fewestFor 64 = .ok (.iload 4, 2) := by decide +kernel
theorem dX8_fewestFor_66 : decode cX8_fewestFor 66 = .ok (.iaload, 1) := by decide +kernel
theorem dX8_fewestFor_67 : decode cX8_fewestFor 67 = .ok (.ireturn, 1) := by decide +kernel
theorem dX8_fewestFor_68 : decode cX8_fewestFor 68 = .ok (.aload_n 0, 1) := by decide +kernel
theorem dX8_fewestFor_69 : decode cX8_fewestFor 69 = .ok (.getfield 15, 3) := by decide +kernel
theorem dX8_fewestFor_72 : decode cX8_fewestFor 72 = .ok (.getfield 54, 3) := by decide +kernel
theorem dX8_fewestFor_75 : decode cX8_fewestFor 75 = .ok (.iload 4, 2) := by decide +kernel
theorem dX8_fewestFor_77 : decode cX8_fewestFor 77 = .ok (.iaload, 1) := by decide +kernel
theorem dX8_fewestFor_78 : decode cX8_fewestFor 78 = .ok (.iconst 4, 1) := by decide +kernel
theorem dX8_fewestFor_79 : decode cX8_fewestFor 79 = .ok (.if_icmp .ge 10, 3) := by decide +kernel
theorem dX8_fewestFor_82 : decode cX8_fewestFor 82 = .ok (.aload_n 0, 1) := by decide +kernel
theorem dX8_fewestFor_83 : decode cX8_fewestFor 83 = .ok (.iload 4, 2) := by decide +kernel
theorem dX8_fewestFor_85 : decode cX8_fewestFor 85 = .ok (.iload_n 2, 1) := by decide +kernel
theorem dX8_fewestFor_86 : decode cX8_fewestFor 86 = .ok (.invokevirtual 57, 3) := by decide +kernel
theorem dX8_fewestFor_89 : decode cX8_fewestFor 89 = .ok (.iinc 4 1, 3) := by decide +kernel
theorem dX8_fewestFor_92 : decode cX8_fewestFor 92 = .ok (.goto (-84), 3) := by decide +kernel
theorem dX8_fewestFor_95 : decode cX8_fewestFor 95 = .ok (.bipush (-9), 2) := by decide +kernel
theorem dX8_fewestFor_97 : decode cX8_fewestFor 97 = .ok (.ireturn, 1) := by decide +kernel
theorem dX8_within_0 : decode cX8_within 0 = .ok (.iconst 0, 1) := by decide +kernel
theorem dX8_within_1 : decode cX8_within 1 = .ok (.istore 4, 2) := by decide +kernel
theorem dX8_within_3 : decode cX8_within 3 = .ok (.aload_n 0, 1) := by decide +kernel
theorem dX8_within_4 : decode cX8_within 4 = .ok (.aload_n 1, 1) := by decide +kernel
theorem dX8_within_5 : decode cX8_within 5 = .ok (.invokevirtual 32, 3) := by decide +kernel
theorem dX8_within_8 : decode cX8_within 8 = .ok (.iconst 0, 1) := by decide +kernel
theorem dX8_within_9 : decode cX8_within 9 = .ok (.istore 5, 2) := by decide +kernel
theorem dX8_within_11 : decode cX8_within 11 = .ok (.iload 5, 2) := by decide +kernel
theorem dX8_within_13 : decode cX8_within 13 = .ok (.sipush 8525, 3) := by decide +kernel
theorem dX8_within_16 : decode cX8_within 16 = .ok (.if_icmp .ge 72, 3) := by decide +kernel
theorem dX8_within_19 : decode cX8_within 19 = .ok (.iload 5, 2) := by decide +kernel
theorem dX8_within_21 : decode cX8_within 21 = .ok (.aload_n 0, 1) := by decide +kernel
theorem dX8_within_22 : decode cX8_within 22 = .ok (.getfield 15, 3) := by decide +kernel

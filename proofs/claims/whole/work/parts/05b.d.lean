theorem dX11_with_5 : decode cX11_with 5 = .ok (.iaload, 1) := by decide +kernel
theorem dX11_with_6 : decode cX11_with 6 = .ok (.iconst 5, 1) := by decide +kernel
theorem dX11_with_7 : decode cX11_with 7 = .ok (.if_icmp .ge 12, 3) := by decide +kernel
theorem dX11_with_10 : decode cX11_with 10 = .ok (.aload_n 0, 1) := by decide +kernel
theorem dX11_with_11 : decode cX11_with 11 = .ok (.getfield 50, 3) := by decide +kernel
theorem dX11_with_14 : decode cX11_with 14 = .ok (.iload_n 1, 1) := by decide +kernel
theorem dX11_with_15 : decode cX11_with 15 = .ok (.iaload, 1) := by decide +kernel
theorem dX11_with_16 : decode cX11_with 16 = .ok (.goto 21, 3) := by decide +kernel
theorem dX11_with_19 : decode cX11_with 19 = .ok (.aload_n 0, 1) := by decide +kernel
theorem dX11_with_20 : decode cX11_with 20 = .ok (.getfield 50, 3) := by decide +kernel
theorem dX11_with_23 : decode cX11_with 23 = .ok (.aload_n 0, 1) := by decide +kernel
theorem dX11_with_24 : decode cX11_with 24 = .ok (.getfield 32, 3) := by decide +kernel
theorem dX11_with_27 : decode cX11_with 27 = .ok (.aload_n 0, 1) := by decide +kernel
theorem dX11_with_28 : decode cX11_with 28 = .ok (.getfield 50, 3) := by decide +kernel
theorem dX11_with_31 : decode cX11_with 31 = .ok (.iload_n 1, 1) := by decide +kernel
theorem dX11_with_32 : decode cX11_with 32 = .ok (.iaload, 1) := by decide +kernel
theorem dX11_with_33 : decode cX11_with 33 = .ok (.iconst 5, 1) := by decide +kernel
theorem dX11_with_34 : decode cX11_with 34 = .ok (.isub, 1) := by decide +kernel
theorem dX11_with_35 : decode cX11_with 35 = .ok (.iaload, 1) := by decide +kernel
theorem dX11_with_36 : decode cX11_with 36 = .ok (.iaload, 1) := by decide +kernel
theorem dX11_with_37 : decode cX11_with 37 = .ok (.ireturn, 1) := by decide +kernel
theorem dX11_loadOf_0 : decode cX11_loadOf 0 = .ok (.iconst 0, 1) := by decide +kernel
theorem dX11_loadOf_1 : decode cX11_loadOf 1 = .ok (.istore_n 2, 1) := by decide +kernel
theorem dX11_loadOf_2 : decode cX11_loadOf 2 = .ok (.iconst 0, 1) := by decide +kernel
theorem dX11_loadOf_3 : decode cX11_loadOf 3 = .ok (.istore_n 3, 1) := by decide +kernel
theorem dX11_loadOf_4 : decode cX11_loadOf 4 = .ok (.iload_n 3, 1) := by decide +kernel
theorem dX11_loadOf_5 : decode cX11_loadOf 5 = .ok (.aload_n 0, 1) := by decide +kernel
theorem dX11_loadOf_6 : decode cX11_loadOf 6 = .ok (.getfield 181, 3) := by decide +kernel
theorem dX11_loadOf_9 : decode cX11_loadOf 9 = .ok (.if_icmp .ge 35, 3) := by decide +kernel
theorem dX11_loadOf_12 : decode cX11_loadOf 12 = .ok (.iload_n 2, 1) := by decide +kernel
theorem dX11_loadOf_13 : decode cX11_loadOf 13 = .ok (.aload_n 0, 1) := by decide +kernel
theorem dX11_loadOf_14 : decode cX11_loadOf 14 = .ok (.getfield 50, 3) := by decide +kernel
theorem dX11_loadOf_17 : decode cX11_loadOf 17 = .ok (.iload_n 3, 1) := by decide +kernel
theorem dX11_loadOf_18 : decode cX11_loadOf 18 = .ok (.iaload, 1) := by decide +kernel
theorem dX11_loadOf_19 : decode cX11_loadOf 19 = .ok (.iload_n 1, 1) := by decide +kernel
theorem dX11_loadOf_20 : decode cX11_loadOf 20 = .ok (.if_icmp .ne 15, 3) := by decide +kernel
theorem dX11_loadOf_23 : decode cX11_loadOf 23 = .ok (.aload_n 0, 1) := by decide +kernel
theorem dX11_loadOf_24 : decode cX11_loadOf 24 = .ok (.getfield 29, 3) := by decide +kernel
theorem dX11_loadOf_27 : decode cX11_loadOf 27 = .ok (.iload_n 3, 1) := by decide +kernel
theorem dX11_loadOf_28 : decode cX11_loadOf 28 = .ok (.iaload, 1) := by decide +kernel
theorem dX11_loadOf_29 : decode cX11_loadOf 29 = .ok (.invokestatic 159, 3) := by decide +kernel
theorem dX11_loadOf_32 : decode cX11_loadOf 32 = .ok (.goto 4, 3) := by decide +kernel
theorem dX11_loadOf_35 : decode cX11_loadOf 35 = .ok (.iconst 0, 1) := by decide +kernel
theorem dX11_loadOf_36 : decode cX11_loadOf 36 = .ok (.iadd, 1) := by decide +kernel
theorem dX11_loadOf_37 : decode cX11_loadOf 37 = .ok (.istore_n 2, 1) := by decide +kernel
theorem dX11_loadOf_38 : decode cX11_loadOf 38 = .ok (.iinc 3 1, 3) := by decide +kernel
theorem dX11_loadOf_41 : decode cX11_loadOf 41 = .ok (.goto (-37), 3) := by decide +kernel
theorem dX11_loadOf_44 : decode cX11_loadOf 44 = .ok (.iload_n 2, 1) := by decide +kernel
theorem dX11_loadOf_45 : decode cX11_loadOf 45 = .ok (.ireturn, 1) := by decide +kernel
theorem dX11_ownedBy_0 : decode cX11_ownedBy 0 = .ok (.iconst 0, 1) := by decide +kernel
theorem dX11_ownedBy_1 : decode cX11_ownedBy 1 = .ok (.istore_n 2, 1) := by decide +kernel
theorem dX11_ownedBy_2 : decode cX11_ownedBy 2 = .ok (.iconst 0, 1) := by decide +kernel
theorem dX11_ownedBy_3 : decode cX11_ownedBy 3 = .ok (.istore_n 3, 1) := by decide +kernel
theorem dX11_ownedBy_4 : decode cX11_ownedBy 4 = .ok (.iload_n 3, 1) := by decide +kernel
theorem dX11_ownedBy_5 : decode cX11_ownedBy 5 = .ok (.aload_n 0, 1) := by decide +kernel
theorem dX11_ownedBy_6 : decode cX11_ownedBy 6 = .ok (.getfield 181, 3) := by decide +kernel
theorem dX11_ownedBy_9 : decode cX11_ownedBy 9 = .ok (.if_icmp .ge 28, 3) := by decide +kernel
theorem dX11_ownedBy_12 : decode cX11_ownedBy 12 = .ok (.iload_n 2, 1) := by decide +kernel
theorem dX11_ownedBy_13 : decode cX11_ownedBy 13 = .ok (.aload_n 0, 1) := by decide +kernel
theorem dX11_ownedBy_14 : decode cX11_ownedBy 14 = .ok (.iload_n 3, 1) := by decide +kernel
theorem dX11_ownedBy_15 : decode cX11_ownedBy 15 = .ok (.invokevirtual 199, 3) := by decide +kernel
theorem dX11_ownedBy_18 : decode cX11_ownedBy 18 = .ok (.iload_n 1, 1) := by decide +kernel
theorem dX11_ownedBy_19 : decode cX11_ownedBy 19 = .ok (.if_icmp .ne 9, 3) := by decide +kernel
theorem dX11_ownedBy_22 : decode cX11_ownedBy 22 = .ok (.iconst 1, 1) := by decide +kernel
theorem dX11_ownedBy_23 : decode cX11_ownedBy 23 = .ok (.iload_n 3, 1) := by decide +kernel
theorem dX11_ownedBy_24 : decode cX11_ownedBy 24 = .ok (.ishl, 1) := by decide +kernel
theorem dX11_ownedBy_25 : decode cX11_ownedBy 25 = .ok (.goto 4, 3) := by decide +kernel
theorem dX11_ownedBy_28 : decode cX11_ownedBy 28 = .ok (.iconst 0, 1) := by decide +kernel
theorem dX11_ownedBy_29 : decode cX11_ownedBy 29 = .ok (.ior, 1) := by decide +kernel
theorem dX11_ownedBy_30 : decode cX11_ownedBy 30 = .ok (.istore_n 2, 1) := by decide +kernel
theorem dX11_ownedBy_31 : decode cX11_ownedBy 31 = .ok (.iinc 3 1, 3) := by decide +kernel
theorem dX11_ownedBy_34 : decode cX11_ownedBy 34 = .ok (.goto (-30), 3) := by decide +kernel
theorem dX11_ownedBy_37 : decode cX11_ownedBy 37 = .ok (.iload_n 2, 1) := by decide +kernel
theorem dX11_ownedBy_38 : decode cX11_ownedBy 38 = .ok (.ireturn, 1) := by decide +kernel
theorem dX11_insideMany_0 : decode cX11_insideMany 0 = .ok (.iconst 0, 1) := by decide +kernel
theorem dX11_insideMany_1 : decode cX11_insideMany 1 = .ok (.istore_n 2, 1) := by decide +kernel
theorem dX11_insideMany_2 : decode cX11_insideMany 2 = .ok (.iconst 0, 1) := by decide +kernel
theorem dX11_insideMany_3 : decode cX11_insideMany 3 = .ok (.istore_n 3, 1) := by decide +kernel
theorem dX11_insideMany_4 : decode cX11_insideMany 4 = .ok (.iload_n 3, 1) := by decide +kernel
theorem dX11_insideMany_5 : decode cX11_insideMany 5 = .ok (.aload_n 0, 1) := by decide +kernel
theorem dX11_insideMany_6 : decode cX11_insideMany 6 = .ok (.getfield 181, 3) := by decide +kernel
theorem dX11_insideMany_9 : decode cX11_insideMany 9 = .ok (.if_icmp .ge 44, 3) := by decide +kernel
theorem dX11_insideMany_12 : decode cX11_insideMany 12 = .ok (.iload_n 2, 1) := by decide +kernel
theorem dX11_insideMany_13 : decode cX11_insideMany 13 = .ok (.aload_n 0, 1) := by decide +kernel
theorem dX11_insideMany_14 : decode cX11_insideMany 14 = .ok (.getfield 50, 3) := by decide +kernel
theorem dX11_insideMany_17 : decode cX11_insideMany 17 = .ok (.iload_n 3, 1) := by decide +kernel
theorem dX11_insideMany_18 : decode cX11_insideMany 18 = .ok (.iaload, 1) := by decide +kernel
theorem dX11_insideMany_19 : decode cX11_insideMany 19 = .ok (.iconst 5, 1) := by decide +kernel
theorem dX11_insideMany_20 : decode cX11_insideMany 20 = .ok (.if_icmp .lt 24, 3) := by decide +kernel
theorem dX11_insideMany_23 : decode cX11_insideMany 23 = .ok (.aload_n 0, 1) := by decide +kernel
theorem dX11_insideMany_24 : decode cX11_insideMany 24 = .ok (.getfield 32, 3) := by decide +kernel
theorem dX11_insideMany_27 : decode cX11_insideMany 27 = .ok (.aload_n 0, 1) := by decide +kernel
theorem dX11_insideMany_28 : decode cX11_insideMany 28 = .ok (.getfield 50, 3) := by decide +kernel
theorem dX11_insideMany_31 : decode cX11_insideMany 31 = .ok (.iload_n 3, 1) := by decide +kernel
theorem dX11_insideMany_32 : decode cX11_insideMany 32 = .ok (.iaload, 1) := by decide +kernel
theorem dX11_insideMany_33 : decode cX11_insideMany 33 = .ok (.iconst 5, 1) := by decide +kernel
theorem dX11_insideMany_34 : decode cX11_insideMany 34 = .ok (.isub, 1) := by decide +kernel
theorem dX11_insideMany_35 : decode cX11_insideMany 35 = .ok (.iaload, 1) := by decide +kernel
theorem dX11_insideMany_36 : decode cX11_insideMany 36 = .ok (.iload_n 1, 1) := by decide +kernel
theorem dX11_insideMany_37 : decode cX11_insideMany 37 = .ok (.if_icmp .ne 7, 3) := by decide +kernel
theorem dX11_insideMany_40 : decode cX11_insideMany 40 = .ok (.iconst 1, 1) := by decide +kernel
theorem dX11_insideMany_41 : decode cX11_insideMany 41 = .ok (.goto 4, 3) := by decide +kernel
theorem dX11_insideMany_44 : decode cX11_insideMany 44 = .ok (.iconst 0, 1) := by decide +kernel
theorem dX11_insideMany_45 : decode cX11_insideMany 45 = .ok (.iadd, 1) := by decide +kernel
theorem dX11_insideMany_46 : decode cX11_insideMany 46 = .ok (.istore_n 2, 1) := by decide +kernel
theorem dX11_insideMany_47 : decode cX11_insideMany 47 = .ok (.iinc 3 1, 3) := by decide +kernel
theorem dX11_insideMany_50 : decode cX11_insideMany 50 = .ok (.goto (-46), 3) := by decide +kernel
theorem dX11_insideMany_53 : decode cX11_insideMany 53 = .ok (.iload_n 2, 1) := by decide +kernel
theorem dX11_insideMany_54 : decode cX11_insideMany 54 = .ok (.ireturn, 1) := by decide +kernel
theorem dX11_roomIn_0 : decode cX11_roomIn 0 = .ok (.aload_n 0, 1) := by decide +kernel
theorem dX11_roomIn_1 : decode cX11_roomIn 1 = .ok (.getfield 29, 3) := by decide +kernel
theorem dX11_roomIn_4 : decode cX11_roomIn 4 = .ok (.iload_n 1, 1) := by decide +kernel
theorem dX11_roomIn_5 : decode cX11_roomIn 5 = .ok (.iaload, 1) := by decide +kernel
theorem dX11_roomIn_6 : decode cX11_roomIn 6 = .ok (.iconst 4, 1) := by decide +kernel
theorem dX11_roomIn_7 : decode cX11_roomIn 7 = .ok (.if_icmp .ne 7, 3) := by decide +kernel
theorem dX11_roomIn_10 : decode cX11_roomIn 10 = .ok (.iconst 2, 1) := by decide +kernel
theorem dX11_roomIn_11 : decode cX11_roomIn 11 = .ok (.goto 4, 3) := by decide +kernel
theorem dX11_roomIn_14 : decode cX11_roomIn 14 = .ok (.iconst 1, 1) := by decide +kernel
theorem dX11_roomIn_15 : decode cX11_roomIn 15 = .ok (.aload_n 0, 1) := by decide +kernel
theorem dX11_roomIn_16 : decode cX11_roomIn 16 = .ok (.iload_n 1, 1) := by decide +kernel
theorem dX11_roomIn_17 : decode cX11_roomIn 17 = .ok (.invokevirtual 202, 3) := by decide +kernel
theorem dX11_roomIn_20 : decode cX11_roomIn 20 = .ok (.isub, 1) := by decide +kernel
theorem dX11_roomIn_21 : decode cX11_roomIn 21 = .ok (.ireturn, 1) := by decide +kernel
theorem dX11_isWithin_0 : decode cX11_isWithin 0 = .ok (.iload_n 2, 1) := by decide +kernel
theorem dX11_isWithin_1 : decode cX11_isWithin 1 = .ok (.iconst 4, 1) := by decide +kernel
theorem dX11_isWithin_2 : decode cX11_isWithin 2 = .ok (.if_icmp .eq 25, 3) := by decide +kernel
theorem dX11_isWithin_5 : decode cX11_isWithin 5 = .ok (.aload_n 0, 1) := by decide +kernel
theorem dX11_isWithin_6 : decode cX11_isWithin 6 = .ok (.iload_n 2, 1) := by decide +kernel
theorem dX11_isWithin_7 : decode cX11_isWithin 7 = .ok (.invokevirtual 205, 3) := by decide +kernel
theorem dX11_isWithin_10 : decode cX11_isWithin 10 = .ok (.aload_n 0, 1) := by decide +kernel
theorem dX11_isWithin_11 : decode cX11_isWithin 11 = .ok (.getfield 29, 3) := by decide +kernel
theorem dX11_isWithin_14 : decode cX11_isWithin 14 = .ok (.iload_n 1, 1) := by decide +kernel
theorem dX11_isWithin_15 : decode cX11_isWithin 15 = .ok (.iaload, 1) := by decide +kernel
theorem dX11_isWithin_16 : decode cX11_isWithin 16 = .ok (.invokestatic 159, 3) := by decide +kernel
theorem dX11_isWithin_19 : decode cX11_isWithin 19 = .ok (.iadd, 1) := by decide +kernel
theorem dX11_isWithin_20 : decode cX11_isWithin 20 = .ok (.aload_n 0, 1) := by decide +kernel
theorem dX11_isWithin_21 : decode cX11_isWithin 21 = .ok (.getfield 91, 3) := by decide +kernel
theorem dX11_isWithin_24 : decode cX11_isWithin 24 = .ok (.if_icmp .gt 7, 3) := by decide +kernel
theorem dX11_isWithin_27 : decode cX11_isWithin 27 = .ok (.iconst 1, 1) := by decide +kernel
theorem dX11_isWithin_28 : decode cX11_isWithin 28 = .ok (.goto 4, 3) := by decide +kernel
theorem dX11_isWithin_31 : decode cX11_isWithin 31 = .ok (.iconst 0, 1) := by decide +kernel
theorem dX11_isWithin_32 : decode cX11_isWithin 32 = .ok (.ireturn, 1) := by decide +kernel
theorem dX11_mayStep_0 : decode cX11_mayStep 0 = .ok (.aload_n 0, 1) := by decide +kernel
theorem dX11_mayStep_1 : decode cX11_mayStep 1 = .ok (.getfield 50, 3) := by decide +kernel
theorem dX11_mayStep_4 : decode cX11_mayStep 4 = .ok (.iload_n 1, 1) := by decide +kernel
theorem dX11_mayStep_5 : decode cX11_mayStep 5 = .ok (.iaload, 1) := by decide +kernel
theorem dX11_mayStep_6 : decode cX11_mayStep 6 = .ok (.istore_n 3, 1) := by decide +kernel
theorem dX11_mayStep_7 : decode cX11_mayStep 7 = .ok (.aload_n 0, 1) := by decide +kernel
theorem dX11_mayStep_8 : decode cX11_mayStep 8 = .ok (.iload_n 2, 1) := by decide +kernel
theorem dX11_mayStep_9 : decode cX11_mayStep 9 = .ok (.invokevirtual 208, 3) := by decide +kernel
theorem dX11_mayStep_12 : decode cX11_mayStep 12 = .ok (.ifCond .eq 8, 3) := by decide +kernel
theorem dX11_mayStep_15 : decode cX11_mayStep 15 = .ok (.iload_n 2, 1) := by decide +kernel
theorem dX11_mayStep_16 : decode cX11_mayStep 16 = .ok (.iload_n 3, 1) := by decide +kernel
theorem dX11_mayStep_17 : decode cX11_mayStep 17 = .ok (.if_icmp .ne 5, 3) := by decide +kernel
theorem dX11_mayStep_20 : decode cX11_mayStep 20 = .ok (.iconst 0, 1) := by decide +kernel
theorem dX11_mayStep_21 : decode cX11_mayStep 21 = .ok (.ireturn, 1) := by decide +kernel
theorem dX11_mayStep_22 : decode cX11_mayStep 22 = .ok (.iload_n 3, 1) := by decide +kernel
theorem dX11_mayStep_23 : decode cX11_mayStep 23 = .ok (.iconst 5, 1) := by decide +kernel
theorem dX11_mayStep_24 : decode cX11_mayStep 24 = .ok (.if_icmp .lt 27, 3) := by decide +kernel
theorem dX11_mayStep_27 : decode cX11_mayStep 27 = .ok (.iload_n 2, 1) := by decide +kernel
theorem dX11_mayStep_28 : decode cX11_mayStep 28 = .ok (.aload_n 0, 1) := by decide +kernel
theorem dX11_mayStep_29 : decode cX11_mayStep 29 = .ok (.iload_n 1, 1) := by decide +kernel
theorem dX11_mayStep_30 : decode cX11_mayStep 30 = .ok (.invokevirtual 199, 3) := by decide +kernel
theorem dX11_mayStep_33 : decode cX11_mayStep 33 = .ok (.if_icmp .ne 16, 3) := by decide +kernel
theorem dX11_mayStep_36 : decode cX11_mayStep 36 = .ok (.aload_n 0, 1) := by decide +kernel
theorem dX11_mayStep_37 : decode cX11_mayStep 37 = .ok (.iload_n 1, 1) := by decide +kernel
theorem dX11_mayStep_38 : decode cX11_mayStep 38 = .ok (.iload_n 2, 1) := by decide +kernel
theorem dX11_mayStep_39 : decode cX11_mayStep 39 = .ok (.invokevirtual 211, 3) := by decide +kernel
theorem dX11_mayStep_42 : decode cX11_mayStep 42 = .ok (.ifCond .eq 7, 3) := by decide +kernel
theorem dX11_mayStep_45 : decode cX11_mayStep 45 = .ok (.iconst 1, 1) := by decide +kernel
theorem dX11_mayStep_46 : decode cX11_mayStep 46 = .ok (.goto 4, 3) := by decide +kernel
theorem dX11_mayStep_49 : decode cX11_mayStep 49 = .ok (.iconst 0, 1) := by decide +kernel
theorem dX11_mayStep_50 : decode cX11_mayStep 50 = .ok (.ireturn, 1) := by decide +kernel
theorem dX11_mayStep_51 : decode cX11_mayStep 51 = .ok (.iload_n 2, 1) := by decide +kernel
theorem dX11_mayStep_52 : decode cX11_mayStep 52 = .ok (.iconst 5, 1) := by decide +kernel
theorem dX11_mayStep_53 : decode cX11_mayStep 53 = .ok (.if_icmp .lt 63, 3) := by decide +kernel
theorem dX11_mayStep_56 : decode cX11_mayStep 56 = .ok (.aload_n 0, 1) := by decide +kernel
theorem dX11_mayStep_57 : decode cX11_mayStep 57 = .ok (.getfield 32, 3) := by decide +kernel
theorem dX11_mayStep_60 : decode cX11_mayStep 60 = .ok (.iload_n 2, 1) := by decide +kernel
theorem dX11_mayStep_61 : decode cX11_mayStep 61 = .ok (.iconst 5, 1) := by decide +kernel
theorem dX11_mayStep_62 : decode cX11_mayStep 62 = .ok (.isub, 1) := by decide +kernel
theorem dX11_mayStep_63 : decode cX11_mayStep 63 = .ok (.iaload, 1) := by decide +kernel
theorem dX11_mayStep_64 : decode cX11_mayStep 64 = .ok (.istore 4, 2) := by decide +kernel
theorem dX11_mayStep_66 : decode cX11_mayStep 66 = .ok (.aload_n 0, 1) := by decide +kernel
theorem dX11_mayStep_67 : decode cX11_mayStep 67 = .ok (.getfield 29, 3) := by decide +kernel
theorem dX11_mayStep_70 : decode cX11_mayStep 70 = .ok (.iload_n 1, 1) := by decide +kernel
theorem dX11_mayStep_71 : decode cX11_mayStep 71 = .ok (.iaload, 1) := by decide +kernel
theorem dX11_mayStep_72 : decode cX11_mayStep 72 = .ok (.invokestatic 150, 3) := by decide +kernel
theorem dX11_mayStep_75 : decode cX11_mayStep 75 = .ok (.ifCond .ne 39, 3) := by decide +kernel
theorem dX11_mayStep_78 : decode cX11_mayStep 78 = .ok (.aload_n 0, 1) := by decide +kernel
theorem dX11_mayStep_79 : decode cX11_mayStep 79 = .ok (.getfield 29, 3) := by decide +kernel
theorem dX11_mayStep_82 : decode cX11_mayStep 82 = .ok (.iload_n 1, 1) := by decide +kernel
theorem dX11_mayStep_83 : decode cX11_mayStep 83 = .ok (.iaload, 1) := by decide +kernel
theorem dX11_mayStep_84 : decode cX11_mayStep 84 = .ok (.invokestatic 156, 3) := by decide +kernel
theorem dX11_mayStep_87 : decode cX11_mayStep 87 = .ok (.ifCond .ne 27, 3) := by decide +kernel
theorem dX11_mayStep_90 : decode cX11_mayStep 90 = .ok (.aload_n 0, 1) := by decide +kernel
theorem dX11_mayStep_91 : decode cX11_mayStep 91 = .ok (.getfield 50, 3) := by decide +kernel
theorem dX11_mayStep_94 : decode cX11_mayStep 94 = .ok (.iload 4, 2) := by decide +kernel
theorem dX11_mayStep_96 : decode cX11_mayStep 96 = .ok (.iaload, 1) := by decide +kernel
theorem dX11_mayStep_97 : decode cX11_mayStep 97 = .ok (.iload_n 3, 1) := by decide +kernel
theorem dX11_mayStep_98 : decode cX11_mayStep 98 = .ok (.if_icmp .ne 16, 3) := by decide +kernel
theorem dX11_mayStep_101 : decode cX11_mayStep 101 = .ok (.aload_n 0, 1) := by decide +kernel
theorem dX11_mayStep_102 : decode cX11_mayStep 102 = .ok (.iload 4, 2) := by decide +kernel
theorem dX11_mayStep_104 : decode cX11_mayStep 104 = .ok (.invokevirtual 214, 3) := by decide +kernel
theorem dX11_mayStep_107 : decode cX11_mayStep 107 = .ok (.ifCond .le 7, 3) := by decide +kernel
theorem dX11_mayStep_110 : decode cX11_mayStep 110 = .ok (.iconst 1, 1) := by decide +kernel
theorem dX11_mayStep_111 : decode cX11_mayStep 111 = .ok (.goto 4, 3) := by decide +kernel
theorem dX11_mayStep_114 : decode cX11_mayStep 114 = .ok (.iconst 0, 1) := by decide +kernel
theorem dX11_mayStep_115 : decode cX11_mayStep 115 = .ok (.ireturn, 1) := by decide +kernel
theorem dX11_mayStep_116 : decode cX11_mayStep 116 = .ok (.iload_n 2, 1) := by decide +kernel
theorem dX11_mayStep_117 : decode cX11_mayStep 117 = .ok (.iconst 4, 1) := by decide +kernel
theorem dX11_mayStep_118 : decode cX11_mayStep 118 = .ok (.if_icmp .ne 23, 3) := by decide +kernel
theorem dX11_mayStep_121 : decode cX11_mayStep 121 = .ok (.aload_n 0, 1) := by decide +kernel
theorem dX11_mayStep_122 : decode cX11_mayStep 122 = .ok (.getfield 29, 3) := by decide +kernel
theorem dX11_mayStep_125 : decode cX11_mayStep 125 = .ok (.iload_n 1, 1) := by decide +kernel
theorem dX11_mayStep_126 : decode cX11_mayStep 126 = .ok (.iaload, 1) := by decide +kernel
theorem dX11_mayStep_127 : decode cX11_mayStep 127 = .ok (.invokestatic 156, 3) := by decide +kernel
theorem dX11_mayStep_130 : decode cX11_mayStep 130 = .ok (.ifCond .ne 7, 3) := by decide +kernel
theorem dX11_mayStep_133 : decode cX11_mayStep 133 = .ok (.iconst 1, 1) := by decide +kernel
theorem dX11_mayStep_134 : decode cX11_mayStep 134 = .ok (.goto 13, 3) := by decide +kernel
theorem dX11_mayStep_137 : decode cX11_mayStep 137 = .ok (.iconst 0, 1) := by decide +kernel
theorem dX11_mayStep_138 : decode cX11_mayStep 138 = .ok (.goto 9, 3) := by decide +kernel
theorem dX11_mayStep_141 : decode cX11_mayStep 141 = .ok (.aload_n 0, 1) := by decide +kernel
theorem dX11_mayStep_142 : decode cX11_mayStep 142 = .ok (.iload_n 1, 1) := by decide +kernel
theorem dX11_mayStep_143 : decode cX11_mayStep 143 = .ok (.iload_n 2, 1) := by decide +kernel
theorem dX11_mayStep_144 : decode cX11_mayStep 144 = .ok (.invokevirtual 211, 3) := by decide +kernel
theorem dX11_mayStep_147 : decode cX11_mayStep 147 = .ok (.ireturn, 1) := by decide +kernel
theorem dX11_thingTells_0 : decode cX11_thingTells 0 = .ok (.iload_n 2, 1) := by decide +kernel
theorem dX11_thingTells_1 : decode cX11_thingTells 1 = .ok (.tableswitch 51 0 2 #[27, 34, 41], 27) := by decide +kernel
theorem dX11_thingTells_28 : decode cX11_thingTells 28 = .ok (.aload_n 0, 1) := by decide +kernel
theorem dX11_thingTells_29 : decode cX11_thingTells 29 = .ok (.getfield 29, 3) := by decide +kernel
theorem dX11_thingTells_32 : decode cX11_thingTells 32 = .ok (.iload_n 1, 1) := by decide +kernel
theorem dX11_thingTells_33 : decode cX11_thingTells 33 = .ok (.iaload, 1) := by decide +kernel
theorem dX11_thingTells_34 : decode cX11_thingTells 34 = .ok (.ireturn, 1) := by decide +kernel
theorem dX11_thingTells_35 : decode cX11_thingTells 35 = .ok (.aload_n 0, 1) := by decide +kernel
theorem dX11_thingTells_36 : decode cX11_thingTells 36 = .ok (.getfield 50, 3) := by decide +kernel
theorem dX11_thingTells_39 : decode cX11_thingTells 39 = .ok (.iload_n 1, 1) := by decide +kernel
theorem dX11_thingTells_40 : decode cX11_thingTells 40 = .ok (.iaload, 1) := by decide +kernel
theorem dX11_thingTells_41 : decode cX11_thingTells 41 = .ok (.ireturn, 1) := by decide +kernel
theorem dX11_thingTells_42 : decode cX11_thingTells 42 = .ok (.aload_n 0, 1) := by decide +kernel
theorem dX11_thingTells_43 : decode cX11_thingTells 43 = .ok (.getfield 29, 3) := by decide +kernel
theorem dX11_thingTells_46 : decode cX11_thingTells 46 = .ok (.iload_n 1, 1) := by decide +kernel
theorem dX11_thingTells_47 : decode cX11_thingTells 47 = .ok (.iaload, 1) := by decide +kernel
theorem dX11_thingTells_48 : decode cX11_thingTells 48 = .ok (.invokestatic 159, 3) := by decide +kernel
theorem dX11_thingTells_51 : decode cX11_thingTells 51 = .ok (.ireturn, 1) := by decide +kernel
theorem dX11_thingTells_52 : decode cX11_thingTells 52 = .ok (.aload_n 0, 1) := by decide +kernel
theorem dX11_thingTells_53 : decode cX11_thingTells 53 = .ok (.iload_n 1, 1) := by decide +kernel
theorem dX11_thingTells_54 : decode cX11_thingTells 54 = .ok (.invokevirtual 199, 3) := by decide +kernel
theorem dX11_thingTells_57 : decode cX11_thingTells 57 = .ok (.ireturn, 1) := by decide +kernel
theorem dX11_thing_0 : decode cX11_thing 0 = .ok (.aload_n 0, 1) := by decide +kernel
theorem dX11_thing_1 : decode cX11_thing 1 = .ok (.invokevirtual 217, 3) := by decide +kernel
theorem dX11_thing_4 : decode cX11_thing 4 = .ok (.aload_n 0, 1) := by decide +kernel
theorem dX11_thing_5 : decode cX11_thing 5 = .ok (.iload_n 1, 1) := by decide +kernel
theorem dX11_thing_6 : decode cX11_thing 6 = .ok (.invokevirtual 220, 3) := by decide +kernel
theorem dX11_thing_9 : decode cX11_thing 9 = .ok (.ifCond .eq 26, 3) := by decide +kernel
theorem dX11_thing_12 : decode cX11_thing 12 = .ok (.iload_n 2, 1) := by decide +kernel
theorem dX11_thing_13 : decode cX11_thing 13 = .ok (.iconst 0, 1) := by decide +kernel
theorem dX11_thing_14 : decode cX11_thing 14 = .ok (.iconst 3, 1) := by decide +kernel
theorem dX11_thing_15 : decode cX11_thing 15 = .ok (.invokestatic 98, 3) := by decide +kernel
theorem dX11_thing_18 : decode cX11_thing 18 = .ok (.ifCond .eq 17, 3) := by decide +kernel
theorem dX11_thing_21 : decode cX11_thing 21 = .ok (.aload_n 0, 1) := by decide +kernel
theorem dX11_thing_22 : decode cX11_thing 22 = .ok (.aload_n 0, 1) := by decide +kernel
theorem dX11_thing_23 : decode cX11_thing 23 = .ok (.iload_n 1, 1) := by decide +kernel
theorem dX11_thing_24 : decode cX11_thing 24 = .ok (.iload_n 2, 1) := by decide +kernel
theorem dX11_thing_25 : decode cX11_thing 25 = .ok (.invokevirtual 223, 3) := by decide +kernel
theorem dX11_thing_28 : decode cX11_thing 28 = .ok (.iconst 1, 1) := by decide +kernel
theorem dX11_thing_29 : decode cX11_thing 29 = .ok (.invokevirtual 120, 3) := by decide +kernel
theorem dX11_thing_32 : decode cX11_thing 32 = .ok (.goto 4, 3) := by decide +kernel
theorem dX11_thing_35 : decode cX11_thing 35 = .ok (.iconst (-1), 1) := by decide +kernel
theorem dX11_thing_36 : decode cX11_thing 36 = .ok (.ireturn, 1) := by decide +kernel
theorem dX11_wantedIn_0 : decode cX11_wantedIn 0 = .ok (.iconst 0, 1) := by decide +kernel
theorem dX11_wantedIn_1 : decode cX11_wantedIn 1 = .ok (.istore_n 2, 1) := by decide +kernel
theorem dX11_wantedIn_2 : decode cX11_wantedIn 2 = .ok (.iconst 0, 1) := by decide +kernel
theorem dX11_wantedIn_3 : decode cX11_wantedIn 3 = .ok (.istore_n 3, 1) := by decide +kernel
theorem dX11_wantedIn_4 : decode cX11_wantedIn 4 = .ok (.iload_n 3, 1) := by decide +kernel
theorem dX11_wantedIn_5 : decode cX11_wantedIn 5 = .ok (.aload_n 0, 1) := by decide +kernel
theorem dX11_wantedIn_6 : decode cX11_wantedIn 6 = .ok (.getfield 184, 3) := by decide +kernel
theorem dX11_wantedIn_9 : decode cX11_wantedIn 9 = .ok (.if_icmp .ge 34, 3) := by decide +kernel
theorem dX11_wantedIn_12 : decode cX11_wantedIn 12 = .ok (.iload_n 2, 1) := by decide +kernel
theorem dX11_wantedIn_13 : decode cX11_wantedIn 13 = .ok (.aload_n 0, 1) := by decide +kernel
theorem dX11_wantedIn_14 : decode cX11_wantedIn 14 = .ok (.getfield 35, 3) := by decide +kernel
theorem dX11_wantedIn_17 : decode cX11_wantedIn 17 = .ok (.iconst 4, 1) := by decide +kernel
theorem dX11_wantedIn_18 : decode cX11_wantedIn 18 = .ok (.iload_n 3, 1) := by decide +kernel
theorem dX11_wantedIn_19 : decode cX11_wantedIn 19 = .ok (.imul, 1) := by decide +kernel
theorem dX11_wantedIn_20 : decode cX11_wantedIn 20 = .ok (.iconst 2, 1) := by decide +kernel
theorem dX11_wantedIn_21 : decode cX11_wantedIn 21 = .ok (.iadd, 1) := by decide +kernel
theorem dX11_wantedIn_22 : decode cX11_wantedIn 22 = .ok (.iaload, 1) := by decide +kernel
theorem dX11_wantedIn_23 : decode cX11_wantedIn 23 = .ok (.iload_n 1, 1) := by decide +kernel
theorem dX11_wantedIn_24 : decode cX11_wantedIn 24 = .ok (.invokestatic 162, 3) := by decide +kernel
theorem dX11_wantedIn_27 : decode cX11_wantedIn 27 = .ok (.ifCond .eq 7, 3) := by decide +kernel
theorem dX11_wantedIn_30 : decode cX11_wantedIn 30 = .ok (.iconst 1, 1) := by decide +kernel
theorem dX11_wantedIn_31 : decode cX11_wantedIn 31 = .ok (.goto 4, 3) := by decide +kernel
theorem dX11_wantedIn_34 : decode cX11_wantedIn 34 = .ok (.iconst 0, 1) := by decide +kernel
theorem dX11_wantedIn_35 : decode cX11_wantedIn 35 = .ok (.iadd, 1) := by decide +kernel
theorem dX11_wantedIn_36 : decode cX11_wantedIn 36 = .ok (.istore_n 2, 1) := by decide +kernel
theorem dX11_wantedIn_37 : decode cX11_wantedIn 37 = .ok (.iinc 3 1, 3) := by decide +kernel
theorem dX11_wantedIn_40 : decode cX11_wantedIn 40 = .ok (.goto (-36), 3) := by decide +kernel
theorem dX11_wantedIn_43 : decode cX11_wantedIn 43 = .ok (.iload_n 2, 1) := by decide +kernel
theorem dX11_wantedIn_44 : decode cX11_wantedIn 44 = .ok (.ireturn, 1) := by decide +kernel
theorem dX11_mark_0 : decode cX11_mark 0 = .ok (.aload_n 0, 1) := by decide +kernel
theorem dX11_mark_1 : decode cX11_mark 1 = .ok (.iload_n 1, 1) := by decide +kernel
theorem dX11_mark_2 : decode cX11_mark 2 = .ok (.invokevirtual 220, 3) := by decide +kernel
theorem dX11_mark_5 : decode cX11_mark 5 = .ok (.ifCond .eq 12, 3) := by decide +kernel
theorem dX11_mark_8 : decode cX11_mark 8 = .ok (.iload_n 2, 1) := by decide +kernel
theorem dX11_mark_9 : decode cX11_mark 9 = .ok (.iconst 1, 1) := by decide +kernel
theorem dX11_mark_10 : decode cX11_mark 10 = .ok (.iconst 5, 1) := by decide +kernel
theorem dX11_mark_11 : decode cX11_mark 11 = .ok (.invokestatic 98, 3) := by decide +kernel
theorem dX11_mark_14 : decode cX11_mark 14 = .ok (.ifCond .ne 5, 3) := by decide +kernel
theorem dX11_mark_17 : decode cX11_mark 17 = .ok (.iconst (-1), 1) := by decide +kernel
theorem dX11_mark_18 : decode cX11_mark 18 = .ok (.ireturn, 1) := by decide +kernel
theorem dX11_mark_19 : decode cX11_mark 19 = .ok (.aload_n 0, 1) := by decide +kernel
theorem dX11_mark_20 : decode cX11_mark 20 = .ok (.getfield 29, 3) := by decide +kernel
theorem dX11_mark_23 : decode cX11_mark 23 = .ok (.iload_n 1, 1) := by decide +kernel
theorem dX11_mark_24 : decode cX11_mark 24 = .ok (.iaload, 1) := by decide +kernel
theorem dX11_mark_25 : decode cX11_mark 25 = .ok (.istore_n 3, 1) := by decide +kernel
theorem dX11_mark_26 : decode cX11_mark 26 = .ok (.iload_n 3, 1) := by decide +kernel
theorem dX11_mark_27 : decode cX11_mark 27 = .ok (.iload_n 2, 1) := by decide +kernel
theorem dX11_mark_28 : decode cX11_mark 28 = .ok (.if_icmp .eq 29, 3) := by decide +kernel
theorem dX11_mark_31 : decode cX11_mark 31 = .ok (.iload_n 2, 1) := by decide +kernel
theorem dX11_mark_32 : decode cX11_mark 32 = .ok (.iconst 1, 1) := by decide +kernel
theorem dX11_mark_33 : decode cX11_mark 33 = .ok (.if_icmp .ne 8, 3) := by decide +kernel
theorem dX11_mark_36 : decode cX11_mark 36 = .ok (.iload_n 3, 1) := by decide +kernel
theorem dX11_mark_37 : decode cX11_mark 37 = .ok (.iconst 4, 1) := by decide +kernel
theorem dX11_mark_38 : decode cX11_mark 38 = .ok (.if_icmp .eq 19, 3) := by decide +kernel
theorem dX11_mark_41 : decode cX11_mark 41 = .ok (.iload_n 2, 1) := by decide +kernel
theorem dX11_mark_42 : decode cX11_mark 42 = .ok (.iconst 2, 1) := by decide +kernel
theorem dX11_mark_43 : decode cX11_mark 43 = .ok (.if_icmp .ne 8, 3) := by decide +kernel
theorem dX11_mark_46 : decode cX11_mark 46 = .ok (.iload_n 3, 1) := by decide +kernel
theorem dX11_mark_47 : decode cX11_mark 47 = .ok (.iconst 5, 1) := by decide +kernel
theorem dX11_mark_48 : decode cX11_mark 48 = .ok (.if_icmp .eq 9, 3) := by decide +kernel
theorem dX11_mark_51 : decode cX11_mark 51 = .ok (.aload_n 0, 1) := by decide +kernel
theorem dX11_mark_52 : decode cX11_mark 52 = .ok (.iconst 3, 1) := by decide +kernel
theorem dX11_mark_53 : decode cX11_mark 53 = .ok (.invokevirtual 112, 3) := by decide +kernel
theorem dX11_mark_56 : decode cX11_mark 56 = .ok (.ireturn, 1) := by decide +kernel
theorem dX11_mark_57 : decode cX11_mark 57 = .ok (.aload_n 0, 1) := by decide +kernel
theorem dX11_mark_58 : decode cX11_mark 58 = .ok (.invokevirtual 217, 3) := by decide +kernel
theorem dX11_mark_61 : decode cX11_mark 61 = .ok (.iload_n 2, 1) := by decide +kernel
theorem dX11_mark_62 : decode cX11_mark 62 = .ok (.tableswitch 59 1 4 #[30, 36, 47, 53], 30) := by decide +kernel
theorem dX11_mark_92 : decode cX11_mark 92 = .ok (.aload_n 0, 1) := by decide +kernel
theorem dX11_mark_93 : decode cX11_mark 93 = .ok (.iload_n 1, 1) := by decide +kernel
theorem dX11_mark_94 : decode cX11_mark 94 = .ok (.invokevirtual 202, 3) := by decide +kernel
theorem dX11_mark_97 : decode cX11_mark 97 = .ok (.ireturn, 1) := by decide +kernel
theorem dX11_mark_98 : decode cX11_mark 98 = .ok (.aload_n 0, 1) := by decide +kernel
theorem dX11_mark_99 : decode cX11_mark 99 = .ok (.aload_n 0, 1) := by decide +kernel
theorem dX11_mark_100 : decode cX11_mark 100 = .ok (.getfield 50, 3) := by decide +kernel
theorem dX11_mark_103 : decode cX11_mark 103 = .ok (.iload_n 1, 1) := by decide +kernel
theorem dX11_mark_104 : decode cX11_mark 104 = .ok (.iaload, 1) := by decide +kernel
theorem dX11_mark_105 : decode cX11_mark 105 = .ok (.invokevirtual 205, 3) := by decide +kernel
theorem dX11_mark_108 : decode cX11_mark 108 = .ok (.ireturn, 1) := by decide +kernel
theorem dX11_mark_109 : decode cX11_mark 109 = .ok (.aload_n 0, 1) := by decide +kernel
theorem dX11_mark_110 : decode cX11_mark 110 = .ok (.iload_n 1, 1) := by decide +kernel
theorem dX11_mark_111 : decode cX11_mark 111 = .ok (.invokevirtual 226, 3) := by decide +kernel
theorem dX11_mark_114 : decode cX11_mark 114 = .ok (.ireturn, 1) := by decide +kernel
theorem dX11_mark_115 : decode cX11_mark 115 = .ok (.aload_n 0, 1) := by decide +kernel
theorem dX11_mark_116 : decode cX11_mark 116 = .ok (.iload_n 1, 1) := by decide +kernel
theorem dX11_mark_117 : decode cX11_mark 117 = .ok (.invokevirtual 214, 3) := by decide +kernel
theorem dX11_mark_120 : decode cX11_mark 120 = .ok (.ireturn, 1) := by decide +kernel
theorem dX11_mark_121 : decode cX11_mark 121 = .ok (.aload_n 0, 1) := by decide +kernel
theorem dX11_mark_122 : decode cX11_mark 122 = .ok (.aload_n 0, 1) := by decide +kernel
theorem dX11_mark_123 : decode cX11_mark 123 = .ok (.getfield 50, 3) := by decide +kernel
theorem dX11_mark_126 : decode cX11_mark 126 = .ok (.iload_n 1, 1) := by decide +kernel
theorem dX11_mark_127 : decode cX11_mark 127 = .ok (.iaload, 1) := by decide +kernel
theorem dX11_mark_128 : decode cX11_mark 128 = .ok (.invokevirtual 229, 3) := by decide +kernel
theorem dX11_mark_131 : decode cX11_mark 131 = .ok (.invokestatic 232, 3) := by decide +kernel
theorem dX11_mark_134 : decode cX11_mark 134 = .ok (.iconst 1, 1) := by decide +kernel
theorem dX11_mark_135 : decode cX11_mark 135 = .ok (.isub, 1) := by decide +kernel
theorem dX11_mark_136 : decode cX11_mark 136 = .ok (.ireturn, 1) := by decide +kernel
theorem dX11_work_0 : decode cX11_work 0 = .ok (.aload_n 0, 1) := by decide +kernel
theorem dX11_work_1 : decode cX11_work 1 = .ok (.iload_n 1, 1) := by decide +kernel
theorem dX11_work_2 : decode cX11_work 2 = .ok (.invokevirtual 235, 3) := by decide +kernel
theorem dX11_work_5 : decode cX11_work 5 = .ok (.ifCond .eq 30, 3) := by decide +kernel
theorem dX11_work_8 : decode cX11_work 8 = .ok (.iload_n 2, 1) := by decide +kernel
theorem dX11_work_9 : decode cX11_work 9 = .ok (.iconst 0, 1) := by decide +kernel
theorem dX11_work_10 : decode cX11_work 10 = .ok (.iconst 3, 1) := by decide +kernel
theorem dX11_work_11 : decode cX11_work 11 = .ok (.invokestatic 98, 3) := by decide +kernel
theorem dX11_work_14 : decode cX11_work 14 = .ok (.ifCond .eq 21, 3) := by decide +kernel
theorem dX11_work_17 : decode cX11_work 17 = .ok (.aload_n 0, 1) := by decide +kernel
theorem dX11_work_18 : decode cX11_work 18 = .ok (.aload_n 0, 1) := by decide +kernel
theorem dX11_work_19 : decode cX11_work 19 = .ok (.getfield 35, 3) := by decide +kernel
theorem dX11_work_22 : decode cX11_work 22 = .ok (.iconst 4, 1) := by decide +kernel
theorem dX11_work_23 : decode cX11_work 23 = .ok (.iload_n 1, 1) := by decide +kernel
theorem dX11_work_24 : decode cX11_work 24 = .ok (.imul, 1) := by decide +kernel
theorem dX11_work_25 : decode cX11_work 25 = .ok (.iload_n 2, 1) := by decide +kernel
theorem dX11_work_26 : decode cX11_work 26 = .ok (.iadd, 1) := by decide +kernel
theorem dX11_work_27 : decode cX11_work 27 = .ok (.iaload, 1) := by decide +kernel
theorem dX11_work_28 : decode cX11_work 28 = .ok (.iconst 1, 1) := by decide +kernel
theorem dX11_work_29 : decode cX11_work 29 = .ok (.invokevirtual 120, 3) := by decide +kernel
theorem dX11_work_32 : decode cX11_work 32 = .ok (.goto 4, 3) := by decide +kernel
theorem dX11_work_35 : decode cX11_work 35 = .ok (.iconst (-1), 1) := by decide +kernel
theorem dX11_work_36 : decode cX11_work 36 = .ok (.ireturn, 1) := by decide +kernel
theorem dX11_load_0 : decode cX11_load 0 = .ok (.aload_n 0, 1) := by decide +kernel
theorem dX11_load_1 : decode cX11_load 1 = .ok (.invokevirtual 217, 3) := by decide +kernel
theorem dX11_load_4 : decode cX11_load 4 = .ok (.aload_n 0, 1) := by decide +kernel
theorem dX11_load_5 : decode cX11_load 5 = .ok (.iload_n 1, 1) := by decide +kernel
theorem dX11_load_6 : decode cX11_load 6 = .ok (.invokevirtual 196, 3) := by decide +kernel
theorem dX11_load_9 : decode cX11_load 9 = .ok (.ifCond .eq 20, 3) := by decide +kernel
theorem dX11_load_12 : decode cX11_load 12 = .ok (.aload_n 0, 1) := by decide +kernel
theorem dX11_load_13 : decode cX11_load 13 = .ok (.aload_n 0, 1) := by decide +kernel
theorem dX11_load_14 : decode cX11_load 14 = .ok (.iload_n 1, 1) := by decide +kernel
theorem dX11_load_15 : decode cX11_load 15 = .ok (.invokevirtual 229, 3) := by decide +kernel
theorem dX11_load_18 : decode cX11_load 18 = .ok (.aload_n 0, 1) := by decide +kernel
theorem dX11_load_19 : decode cX11_load 19 = .ok (.iload_n 1, 1) := by decide +kernel
theorem dX11_load_20 : decode cX11_load 20 = .ok (.invokevirtual 205, 3) := by decide +kernel
theorem dX11_load_23 : decode cX11_load 23 = .ok (.invokevirtual 120, 3) := by decide +kernel
theorem dX11_load_26 : decode cX11_load 26 = .ok (.goto 4, 3) := by decide +kernel
theorem dX11_load_29 : decode cX11_load 29 = .ok (.iconst (-1), 1) := by decide +kernel
theorem dX11_load_30 : decode cX11_load 30 = .ok (.ireturn, 1) := by decide +kernel
theorem dX11_isOver_0 : decode cX11_isOver 0 = .ok (.iconst 0, 1) := by decide +kernel
theorem dX11_isOver_1 : decode cX11_isOver 1 = .ok (.istore_n 2, 1) := by decide +kernel
theorem dX11_isOver_2 : decode cX11_isOver 2 = .ok (.aload_n 0, 1) := by decide +kernel
theorem dX11_isOver_3 : decode cX11_isOver 3 = .ok (.invokevirtual 217, 3) := by decide +kernel
theorem dX11_isOver_6 : decode cX11_isOver 6 = .ok (.iconst 0, 1) := by decide +kernel
theorem dX11_isOver_7 : decode cX11_isOver 7 = .ok (.istore_n 3, 1) := by decide +kernel
theorem dX11_isOver_8 : decode cX11_isOver 8 = .ok (.iload_n 3, 1) := by decide +kernel
theorem dX11_isOver_9 : decode cX11_isOver 9 = .ok (.aload_n 0, 1) := by decide +kernel
theorem dX11_isOver_10 : decode cX11_isOver 10 = .ok (.getfield 178, 3) := by decide +kernel
theorem dX11_isOver_13 : decode cX11_isOver 13 = .ok (.if_icmp .ge 28, 3) := by decide +kernel
theorem dX11_isOver_16 : decode cX11_isOver 16 = .ok (.iload_n 2, 1) := by decide +kernel
theorem dX11_isOver_17 : decode cX11_isOver 17 = .ok (.ifCond .ne 12, 3) := by decide +kernel
theorem dX11_isOver_20 : decode cX11_isOver 20 = .ok (.aload_n 0, 1) := by decide +kernel
theorem dX11_isOver_21 : decode cX11_isOver 21 = .ok (.iload_n 3, 1) := by decide +kernel
theorem dX11_isOver_22 : decode cX11_isOver 22 = .ok (.invokevirtual 205, 3) := by decide +kernel
theorem dX11_isOver_25 : decode cX11_isOver 25 = .ok (.iload_n 1, 1) := by decide +kernel
theorem dX11_isOver_26 : decode cX11_isOver 26 = .ok (.if_icmp .le 7, 3) := by decide +kernel
theorem dX11_isOver_29 : decode cX11_isOver 29 = .ok (.iconst 1, 1) := by decide +kernel
theorem dX11_isOver_30 : decode cX11_isOver 30 = .ok (.goto 4, 3) := by decide +kernel
theorem dX11_isOver_33 : decode cX11_isOver 33 = .ok (.iconst 0, 1) := by decide +kernel
theorem dX11_isOver_34 : decode cX11_isOver 34 = .ok (.istore_n 2, 1) := by decide +kernel
theorem dX11_isOver_35 : decode cX11_isOver 35 = .ok (.iinc 3 1, 3) := by decide +kernel
theorem dX11_isOver_38 : decode cX11_isOver 38 = .ok (.goto (-30), 3) := by decide +kernel
theorem dX11_isOver_41 : decode cX11_isOver 41 = .ok (.iload_n 2, 1) := by decide +kernel
theorem dX11_isOver_42 : decode cX11_isOver 42 = .ok (.ireturn, 1) := by decide +kernel
theorem dX11_limit_0 : decode cX11_limit 0 = .ok (.iload_n 1, 1) := by decide +kernel
theorem dX11_limit_1 : decode cX11_limit 1 = .ok (.iconst 1, 1) := by decide +kernel
theorem dX11_limit_2 : decode cX11_limit 2 = .ok (.bipush 6, 2) := by decide +kernel
theorem dX11_limit_4 : decode cX11_limit 4 = .ok (.invokestatic 98, 3) := by decide +kernel
theorem dX11_limit_7 : decode cX11_limit 7 = .ok (.ifCond .ne 5, 3) := by decide +kernel
theorem dX11_limit_10 : decode cX11_limit 10 = .ok (.iconst (-1), 1) := by decide +kernel
theorem dX11_limit_11 : decode cX11_limit 11 = .ok (.ireturn, 1) := by decide +kernel
theorem dX11_limit_12 : decode cX11_limit 12 = .ok (.aload_n 0, 1) := by decide +kernel
theorem dX11_limit_13 : decode cX11_limit 13 = .ok (.iload_n 1, 1) := by decide +kernel
theorem dX11_limit_14 : decode cX11_limit 14 = .ok (.invokevirtual 238, 3) := by decide +kernel
theorem dX11_limit_17 : decode cX11_limit 17 = .ok (.ifCond .eq 6, 3) := by decide +kernel
theorem dX11_limit_20 : decode cX11_limit 20 = .ok (.bipush (-4), 2) := by decide +kernel
theorem dX11_limit_22 : decode cX11_limit 22 = .ok (.ireturn, 1) := by decide +kernel
theorem dX11_limit_23 : decode cX11_limit 23 = .ok (.aload_n 0, 1) := by decide +kernel
theorem dX11_limit_24 : decode cX11_limit 24 = .ok (.getfield 91, 3) := by decide +kernel
theorem dX11_limit_27 : decode cX11_limit 27 = .ok (.istore_n 2, 1) := by decide +kernel
theorem dX11_limit_28 : decode cX11_limit 28 = .ok (.aload_n 0, 1) := by decide +kernel
theorem dX11_limit_29 : decode cX11_limit 29 = .ok (.iload_n 1, 1) := by decide +kernel
theorem dX11_limit_30 : decode cX11_limit 30 = .ok (.putfield 91, 3) := by decide +kernel
theorem dX11_limit_33 : decode cX11_limit 33 = .ok (.aload_n 0, 1) := by decide +kernel
theorem dX11_limit_34 : decode cX11_limit 34 = .ok (.iconst 0, 1) := by decide +kernel
theorem dX11_limit_35 : decode cX11_limit 35 = .ok (.putfield 190, 3) := by decide +kernel
theorem dX11_limit_38 : decode cX11_limit 38 = .ok (.iload_n 2, 1) := by decide +kernel
theorem dX11_limit_39 : decode cX11_limit 39 = .ok (.ireturn, 1) := by decide +kernel
theorem dX11_moves_0 : decode cX11_moves 0 = .ok (.aload_n 0, 1) := by decide +kernel
theorem dX11_moves_1 : decode cX11_moves 1 = .ok (.getfield 53, 3) := by decide +kernel
theorem dX11_moves_4 : decode cX11_moves 4 = .ok (.aload_n 0, 1) := by decide +kernel
theorem dX11_moves_5 : decode cX11_moves 5 = .ok (.getfield 190, 3) := by decide +kernel
theorem dX11_moves_8 : decode cX11_moves 8 = .ok (.iload_n 1, 1) := by decide +kernel
theorem dX11_moves_9 : decode cX11_moves 9 = .ok (.iastore, 1) := by decide +kernel
theorem dX11_moves_10 : decode cX11_moves 10 = .ok (.aload_n 0, 1) := by decide +kernel
theorem dX11_moves_11 : decode cX11_moves 11 = .ok (.getfield 56, 3) := by decide +kernel
theorem dX11_moves_14 : decode cX11_moves 14 = .ok (.aload_n 0, 1) := by decide +kernel
theorem dX11_moves_15 : decode cX11_moves 15 = .ok (.getfield 190, 3) := by decide +kernel
theorem dX11_moves_18 : decode cX11_moves 18 = .ok (.aload_n 0, 1) := by decide +kernel
theorem dX11_moves_19 : decode cX11_moves 19 = .ok (.getfield 38, 3) := by decide +kernel
theorem dX11_moves_22 : decode cX11_moves 22 = .ok (.iload_n 1, 1) := by decide +kernel
theorem dX11_moves_23 : decode cX11_moves 23 = .ok (.iaload, 1) := by decide +kernel
theorem dX11_moves_24 : decode cX11_moves 24 = .ok (.iastore, 1) := by decide +kernel
theorem dX11_moves_25 : decode cX11_moves 25 = .ok (.aload_n 0, 1) := by decide +kernel
theorem dX11_moves_26 : decode cX11_moves 26 = .ok (.dup, 1) := by decide +kernel
theorem dX11_moves_27 : decode cX11_moves 27 = .ok (.getfield 190, 3) := by decide +kernel
theorem dX11_moves_30 : decode cX11_moves 30 = .ok (.iconst 1, 1) := by decide +kernel
theorem dX11_moves_31 : decode cX11_moves 31 = .ok (.iadd, 1) := by decide +kernel
theorem dX11_moves_32 : decode cX11_moves 32 = .ok (.putfield 190, 3) := by decide +kernel
theorem dX11_moves_35 : decode cX11_moves 35 = .ok (.aload_n 0, 1) := by decide +kernel
theorem dX11_moves_36 : decode cX11_moves 36 = .ok (.getfield 38, 3) := by decide +kernel
theorem dX11_moves_39 : decode cX11_moves 39 = .ok (.iload_n 1, 1) := by decide +kernel
theorem dX11_moves_40 : decode cX11_moves 40 = .ok (.iload_n 2, 1) := by decide +kernel
theorem dX11_moves_41 : decode cX11_moves 41 = .ok (.iastore, 1) := by decide +kernel
theorem dX11_moves_42 : decode cX11_moves 42 = .ok (.return_, 1) := by decide +kernel
theorem dX11_step_0 : decode cX11_step 0 = .ok (.aload_n 0, 1) := by decide +kernel
theorem dX11_step_1 : decode cX11_step 1 = .ok (.iload_n 1, 1) := by decide +kernel
theorem dX11_step_2 : decode cX11_step 2 = .ok (.invokevirtual 220, 3) := by decide +kernel
theorem dX11_step_5 : decode cX11_step 5 = .ok (.ifCond .eq 11, 3) := by decide +kernel
theorem dX11_step_8 : decode cX11_step 8 = .ok (.aload_n 0, 1) := by decide +kernel
theorem dX11_step_9 : decode cX11_step 9 = .ok (.iload_n 2, 1) := by decide +kernel
theorem dX11_step_10 : decode cX11_step 10 = .ok (.invokevirtual 208, 3) := by decide +kernel
theorem dX11_step_13 : decode cX11_step 13 = .ok (.ifCond .ne 5, 3) := by decide +kernel
theorem dX11_step_16 : decode cX11_step 16 = .ok (.iconst (-1), 1) := by decide +kernel
theorem dX11_step_17 : decode cX11_step 17 = .ok (.ireturn, 1) := by decide +kernel
theorem dX11_step_18 : decode cX11_step 18 = .ok (.aload_n 0, 1) := by decide +kernel
theorem dX11_step_19 : decode cX11_step 19 = .ok (.invokevirtual 217, 3) := by decide +kernel
theorem dX11_step_22 : decode cX11_step 22 = .ok (.aload_n 0, 1) := by decide +kernel
theorem dX11_step_23 : decode cX11_step 23 = .ok (.iload_n 1, 1) := by decide +kernel
theorem dX11_step_24 : decode cX11_step 24 = .ok (.iload_n 2, 1) := by decide +kernel
theorem dX11_step_25 : decode cX11_step 25 = .ok (.invokevirtual 241, 3) := by decide +kernel
theorem dX11_step_28 : decode cX11_step 28 = .ok (.ifCond .ne 6, 3) := by decide +kernel
theorem dX11_step_31 : decode cX11_step 31 = .ok (.bipush (-4), 2) := by decide +kernel
theorem dX11_step_33 : decode cX11_step 33 = .ok (.ireturn, 1) := by decide +kernel
theorem dX11_step_34 : decode cX11_step 34 = .ok (.aload_n 0, 1) := by decide +kernel
theorem dX11_step_35 : decode cX11_step 35 = .ok (.getfield 190, 3) := by decide +kernel
theorem dX11_step_38 : decode cX11_step 38 = .ok (.bipush 40, 2) := by decide +kernel
theorem dX11_step_40 : decode cX11_step 40 = .ok (.if_icmp .ne 6, 3) := by decide +kernel
theorem dX11_step_43 : decode cX11_step 43 = .ok (.bipush (-2), 2) := by decide +kernel
theorem dX11_step_45 : decode cX11_step 45 = .ok (.ireturn, 1) := by decide +kernel
theorem dX11_step_46 : decode cX11_step 46 = .ok (.aload_n 0, 1) := by decide +kernel
theorem dX11_step_47 : decode cX11_step 47 = .ok (.iload_n 1, 1) := by decide +kernel
theorem dX11_step_48 : decode cX11_step 48 = .ok (.iload_n 2, 1) := by decide +kernel
theorem dX11_step_49 : decode cX11_step 49 = .ok (.invokevirtual 244, 3) := by decide +kernel
theorem dX11_step_52 : decode cX11_step 52 = .ok (.iconst 1, 1) := by decide +kernel
theorem dX11_step_53 : decode cX11_step 53 = .ok (.ireturn, 1) := by decide +kernel
theorem dX11_may_0 : decode cX11_may 0 = .ok (.aload_n 0, 1) := by decide +kernel
theorem dX11_may_1 : decode cX11_may 1 = .ok (.invokevirtual 217, 3) := by decide +kernel
theorem dX11_may_4 : decode cX11_may 4 = .ok (.aload_n 0, 1) := by decide +kernel
theorem dX11_may_5 : decode cX11_may 5 = .ok (.iload_n 1, 1) := by decide +kernel
theorem dX11_may_6 : decode cX11_may 6 = .ok (.invokevirtual 220, 3) := by decide +kernel
theorem dX11_may_9 : decode cX11_may 9 = .ok (.ifCond .eq 11, 3) := by decide +kernel
theorem dX11_may_12 : decode cX11_may 12 = .ok (.aload_n 0, 1) := by decide +kernel
theorem dX11_may_13 : decode cX11_may 13 = .ok (.iload_n 2, 1) := by decide +kernel
theorem dX11_may_14 : decode cX11_may 14 = .ok (.invokevirtual 208, 3) := by decide +kernel
theorem dX11_may_17 : decode cX11_may 17 = .ok (.ifCond .ne 7, 3) := by decide +kernel
theorem dX11_may_20 : decode cX11_may 20 = .ok (.iconst (-1), 1) := by decide +kernel
theorem dX11_may_21 : decode cX11_may 21 = .ok (.goto 17, 3) := by decide +kernel
theorem dX11_may_24 : decode cX11_may 24 = .ok (.aload_n 0, 1) := by decide +kernel
theorem dX11_may_25 : decode cX11_may 25 = .ok (.iload_n 1, 1) := by decide +kernel
theorem dX11_may_26 : decode cX11_may 26 = .ok (.iload_n 2, 1) := by decide +kernel
theorem dX11_may_27 : decode cX11_may 27 = .ok (.invokevirtual 241, 3) := by decide +kernel
theorem dX11_may_30 : decode cX11_may 30 = .ok (.ifCond .eq 7, 3) := by decide +kernel
theorem dX11_may_33 : decode cX11_may 33 = .ok (.iconst 1, 1) := by decide +kernel
theorem dX11_may_34 : decode cX11_may 34 = .ok (.goto 4, 3) := by decide +kernel
theorem dX11_may_37 : decode cX11_may 37 = .ok (.iconst 0, 1) := by decide +kernel
theorem dX11_may_38 : decode cX11_may 38 = .ok (.ireturn, 1) := by decide +kernel
theorem dX11_steps_0 : decode cX11_steps 0 = .ok (.aload_n 0, 1) := by decide +kernel
theorem dX11_steps_1 : decode cX11_steps 1 = .ok (.invokevirtual 217, 3) := by decide +kernel
theorem dX11_steps_4 : decode cX11_steps 4 = .ok (.iconst 0, 1) := by decide +kernel
theorem dX11_steps_5 : decode cX11_steps 5 = .ok (.istore_n 1, 1) := by decide +kernel
theorem dX11_steps_6 : decode cX11_steps 6 = .ok (.bipush (-9), 2) := by decide +kernel
theorem dX11_steps_8 : decode cX11_steps 8 = .ok (.istore_n 2, 1) := by decide +kernel
theorem dX11_steps_9 : decode cX11_steps 9 = .ok (.iconst 0, 1) := by decide +kernel
theorem dX11_steps_10 : decode cX11_steps 10 = .ok (.istore_n 3, 1) := by decide +kernel
theorem dX11_steps_11 : decode cX11_steps 11 = .ok (.iload_n 3, 1) := by decide +kernel
theorem dX11_steps_12 : decode cX11_steps 12 = .ok (.bipush 7, 2) := by decide +kernel
theorem dX11_steps_14 : decode cX11_steps 14 = .ok (.aload_n 0, 1) := by decide +kernel
theorem dX11_steps_15 : decode cX11_steps 15 = .ok (.getfield 181, 3) := by decide +kernel
theorem dX11_steps_18 : decode cX11_steps 18 = .ok (.imul, 1) := by decide +kernel
theorem dX11_steps_19 : decode cX11_steps 19 = .ok (.if_icmp .ge 37, 3) := by decide +kernel
theorem dX11_steps_22 : decode cX11_steps 22 = .ok (.aload_n 0, 1) := by decide +kernel
theorem dX11_steps_23 : decode cX11_steps 23 = .ok (.iload_n 3, 1) := by decide +kernel
theorem dX11_steps_24 : decode cX11_steps 24 = .ok (.bipush 7, 2) := by decide +kernel
theorem dX11_steps_26 : decode cX11_steps 26 = .ok (.idiv, 1) := by decide +kernel
theorem dX11_steps_27 : decode cX11_steps 27 = .ok (.iload_n 3, 1) := by decide +kernel
theorem dX11_steps_28 : decode cX11_steps 28 = .ok (.bipush 7, 2) := by decide +kernel
theorem dX11_steps_30 : decode cX11_steps 30 = .ok (.irem, 1) := by decide +kernel
theorem dX11_steps_31 : decode cX11_steps 31 = .ok (.invokevirtual 241, 3) := by decide +kernel
theorem dX11_steps_34 : decode cX11_steps 34 = .ok (.ifCond .eq 16, 3) := by decide +kernel
theorem dX11_steps_37 : decode cX11_steps 37 = .ok (.iload_n 1, 1) := by decide +kernel
theorem dX11_steps_38 : decode cX11_steps 38 = .ok (.ifCond .ne 7, 3) := by decide +kernel
theorem dX11_steps_41 : decode cX11_steps 41 = .ok (.iload_n 3, 1) := by decide +kernel
theorem dX11_steps_42 : decode cX11_steps 42 = .ok (.goto 4, 3) := by decide +kernel
theorem dX11_steps_45 : decode cX11_steps 45 = .ok (.iload_n 2, 1) := by decide +kernel
theorem dX11_steps_46 : decode cX11_steps 46 = .ok (.istore_n 2, 1) := by decide +kernel
theorem dX11_steps_47 : decode cX11_steps 47 = .ok (.iinc 1 1, 3) := by decide +kernel
theorem dX11_steps_50 : decode cX11_steps 50 = .ok (.iinc 3 1, 3) := by decide +kernel
theorem dX11_steps_53 : decode cX11_steps 53 = .ok (.goto (-42), 3) := by decide +kernel
theorem dX11_steps_56 : decode cX11_steps 56 = .ok (.aload_n 0, 1) := by decide +kernel
theorem dX11_steps_57 : decode cX11_steps 57 = .ok (.iload_n 2, 1) := by decide +kernel
theorem dX11_steps_58 : decode cX11_steps 58 = .ok (.iload_n 1, 1) := by decide +kernel
theorem dX11_steps_59 : decode cX11_steps 59 = .ok (.invokevirtual 120, 3) := by decide +kernel
theorem dX11_steps_62 : decode cX11_steps 62 = .ok (.ireturn, 1) := by decide +kernel
theorem dX11_undo_0 : decode cX11_undo 0 = .ok (.iload_n 1, 1) := by decide +kernel
theorem dX11_undo_1 : decode cX11_undo 1 = .ok (.iconst 0, 1) := by decide +kernel
theorem dX11_undo_2 : decode cX11_undo 2 = .ok (.aload_n 0, 1) := by decide +kernel
theorem dX11_undo_3 : decode cX11_undo 3 = .ok (.getfield 190, 3) := by decide +kernel
theorem dX11_undo_6 : decode cX11_undo 6 = .ok (.invokestatic 98, 3) := by decide +kernel
theorem dX11_undo_9 : decode cX11_undo 9 = .ok (.ifCond .ne 5, 3) := by decide +kernel
theorem dX11_undo_12 : decode cX11_undo 12 = .ok (.iconst (-1), 1) := by decide +kernel
theorem dX11_undo_13 : decode cX11_undo 13 = .ok (.ireturn, 1) := by decide +kernel
theorem dX11_undo_14 : decode cX11_undo 14 = .ok (.aload_n 0, 1) := by decide +kernel
theorem dX11_undo_15 : decode cX11_undo 15 = .ok (.getfield 190, 3) := by decide +kernel
theorem dX11_undo_18 : decode cX11_undo 18 = .ok (.iload_n 1, 1) := by decide +kernel
theorem dX11_undo_19 : decode cX11_undo 19 = .ok (.isub, 1) := by decide +kernel
theorem dX11_undo_20 : decode cX11_undo 20 = .ok (.istore_n 2, 1) := by decide +kernel
theorem dX11_undo_21 : decode cX11_undo 21 = .ok (.aload_n 0, 1) := by decide +kernel
theorem dX11_undo_22 : decode cX11_undo 22 = .ok (.getfield 190, 3) := by decide +kernel
theorem dX11_undo_25 : decode cX11_undo 25 = .ok (.iload_n 1, 1) := by decide +kernel
theorem dX11_undo_26 : decode cX11_undo 26 = .ok (.if_icmp .le 39, 3) := by decide +kernel
theorem dX11_undo_29 : decode cX11_undo 29 = .ok (.aload_n 0, 1) := by decide +kernel
theorem dX11_undo_30 : decode cX11_undo 30 = .ok (.dup, 1) := by decide +kernel
theorem dX11_undo_31 : decode cX11_undo 31 = .ok (.getfield 190, 3) := by decide +kernel
theorem dX11_undo_34 : decode cX11_undo 34 = .ok (.iconst 1, 1) := by decide +kernel
theorem dX11_undo_35 : decode cX11_undo 35 = .ok (.isub, 1) := by decide +kernel
theorem dX11_undo_36 : decode cX11_undo 36 = .ok (.putfield 190, 3) := by decide +kernel
theorem dX11_undo_39 : decode cX11_undo 39 = .ok (.aload_n 0, 1) := by decide +kernel
theorem dX11_undo_40 : decode cX11_undo 40 = .ok (.getfield 38, 3) := by decide +kernel
theorem dX11_undo_43 : decode cX11_undo 43 = .ok (.aload_n 0, 1) := by decide +kernel
theorem dX11_undo_44 : decode cX11_undo 44 = .ok (.getfield 53, 3) := by decide +kernel
theorem dX11_undo_47 : decode cX11_undo 47 = .ok (.aload_n 0, 1) := by decide +kernel
theorem dX11_undo_48 : decode cX11_undo 48 = .ok (.getfield 190, 3) := by decide +kernel
theorem dX11_undo_51 : decode cX11_undo 51 = .ok (.iaload, 1) := by decide +kernel
theorem dX11_undo_52 : decode cX11_undo 52 = .ok (.aload_n 0, 1) := by decide +kernel
theorem dX11_undo_53 : decode cX11_undo 53 = .ok (.getfield 56, 3) := by decide +kernel
theorem dX11_undo_56 : decode cX11_undo 56 = .ok (.aload_n 0, 1) := by decide +kernel
theorem dX11_undo_57 : decode cX11_undo 57 = .ok (.getfield 190, 3) := by decide +kernel
theorem dX11_undo_60 : decode cX11_undo 60 = .ok (.iaload, 1) := by decide +kernel
theorem dX11_undo_61 : decode cX11_undo 61 = .ok (.iastore, 1) := by decide +kernel
theorem dX11_undo_62 : decode cX11_undo 62 = .ok (.goto (-41), 3) := by decide +kernel
theorem dX11_undo_65 : decode cX11_undo 65 = .ok (.iload_n 2, 1) := by decide +kernel
theorem dX11_undo_66 : decode cX11_undo 66 = .ok (.ireturn, 1) := by decide +kernel
theorem dX11_isStep_0 : decode cX11_isStep 0 = .ok (.iload_n 1, 1) := by decide +kernel
theorem dX11_isStep_1 : decode cX11_isStep 1 = .ok (.ifCond .lt 29, 3) := by decide +kernel
theorem dX11_isStep_4 : decode cX11_isStep 4 = .ok (.aload_n 0, 1) := by decide +kernel
theorem dX11_isStep_5 : decode cX11_isStep 5 = .ok (.iload_n 1, 1) := by decide +kernel
theorem dX11_isStep_6 : decode cX11_isStep 6 = .ok (.bipush 7, 2) := by decide +kernel
theorem dX11_isStep_8 : decode cX11_isStep 8 = .ok (.idiv, 1) := by decide +kernel
theorem dX11_isStep_9 : decode cX11_isStep 9 = .ok (.invokevirtual 220, 3) := by decide +kernel
theorem dX11_isStep_12 : decode cX11_isStep 12 = .ok (.ifCond .eq 18, 3) := by decide +kernel
theorem dX11_isStep_15 : decode cX11_isStep 15 = .ok (.aload_n 0, 1) := by decide +kernel
theorem dX11_isStep_16 : decode cX11_isStep 16 = .ok (.iload_n 1, 1) := by decide +kernel
theorem dX11_isStep_17 : decode cX11_isStep 17 = .ok (.bipush 7, 2) := by decide +kernel
theorem dX11_isStep_19 : decode cX11_isStep 19 = .ok (.irem, 1) := by decide +kernel
theorem dX11_isStep_20 : decode cX11_isStep 20 = .ok (.invokevirtual 208, 3) := by decide +kernel
theorem dX11_isStep_23 : decode cX11_isStep 23 = .ok (.ifCond .eq 7, 3) := by decide +kernel
theorem dX11_isStep_26 : decode cX11_isStep 26 = .ok (.iconst 1, 1) := by decide +kernel
theorem dX11_isStep_27 : decode cX11_isStep 27 = .ok (.goto 4, 3) := by decide +kernel
theorem dX11_isStep_30 : decode cX11_isStep 30 = .ok (.iconst 0, 1) := by decide +kernel
theorem dX11_isStep_31 : decode cX11_isStep 31 = .ok (.ireturn, 1) := by decide +kernel
theorem dX11_does_0 : decode cX11_does 0 = .ok (.iload_n 1, 1) := by decide +kernel
theorem dX11_does_1 : decode cX11_does 1 = .ok (.invokestatic 108, 3) := by decide +kernel
theorem dX11_does_4 : decode cX11_does 4 = .ok (.ifCond .ne 5, 3) := by decide +kernel
theorem dX11_does_7 : decode cX11_does 7 = .ok (.iconst (-1), 1) := by decide +kernel
theorem dX11_does_8 : decode cX11_does 8 = .ok (.ireturn, 1) := by decide +kernel
theorem dX11_does_9 : decode cX11_does 9 = .ok (.aload_n 0, 1) := by decide +kernel
theorem dX11_does_10 : decode cX11_does 10 = .ok (.getfield 13, 3) := by decide +kernel
theorem dX11_does_13 : decode cX11_does 13 = .ok (.iload_n 1, 1) := by decide +kernel
theorem dX11_does_14 : decode cX11_does 14 = .ok (.iaload, 1) := by decide +kernel
theorem dX11_does_15 : decode cX11_does 15 = .ok (.ifCond .ge 9, 3) := by decide +kernel
theorem dX11_does_18 : decode cX11_does 18 = .ok (.aload_n 0, 1) := by decide +kernel
theorem dX11_does_19 : decode cX11_does 19 = .ok (.iconst 1, 1) := by decide +kernel
theorem dX11_does_20 : decode cX11_does 20 = .ok (.invokevirtual 112, 3) := by decide +kernel
theorem dX11_does_23 : decode cX11_does 23 = .ok (.ireturn, 1) := by decide +kernel
theorem dX11_does_24 : decode cX11_does 24 = .ok (.iconst 1, 1) := by decide +kernel
theorem dX11_does_25 : decode cX11_does 25 = .ok (.istore_n 2, 1) := by decide +kernel
theorem dX11_does_26 : decode cX11_does 26 = .ok (.iconst 0, 1) := by decide +kernel
theorem dX11_does_27 : decode cX11_does 27 = .ok (.istore_n 3, 1) := by decide +kernel
theorem dX11_does_28 : decode cX11_does 28 = .ok (.iload_n 3, 1) := by decide +kernel
theorem dX11_does_29 : decode cX11_does 29 = .ok (.aload_n 0, 1) := by decide +kernel
theorem dX11_does_30 : decode cX11_does 30 = .ok (.getfield 13, 3) := by decide +kernel
theorem dX11_does_33 : decode cX11_does 33 = .ok (.iload_n 1, 1) := by decide +kernel
theorem dX11_does_34 : decode cX11_does 34 = .ok (.iaload, 1) := by decide +kernel
theorem dX11_does_35 : decode cX11_does 35 = .ok (.if_icmp .ge 32, 3) := by decide +kernel
theorem dX11_does_38 : decode cX11_does 38 = .ok (.iload_n 2, 1) := by decide +kernel
theorem dX11_does_39 : decode cX11_does 39 = .ok (.ifCond .eq 20, 3) := by decide +kernel
theorem dX11_does_42 : decode cX11_does 42 = .ok (.aload_n 0, 1) := by decide +kernel
theorem dX11_does_43 : decode cX11_does 43 = .ok (.aload_n 0, 1) := by decide +kernel
theorem dX11_does_44 : decode cX11_does 44 = .ok (.iload_n 1, 1) := by decide +kernel
theorem dX11_does_45 : decode cX11_does 45 = .ok (.iload_n 3, 1) := by decide +kernel
theorem dX11_does_46 : decode cX11_does 46 = .ok (.invokevirtual 116, 3) := by decide +kernel
theorem dX11_does_49 : decode cX11_does 49 = .ok (.invokevirtual 248, 3) := by decide +kernel
theorem dX11_does_52 : decode cX11_does 52 = .ok (.ifCond .eq 7, 3) := by decide +kernel
theorem dX11_does_55 : decode cX11_does 55 = .ok (.iconst 1, 1) := by decide +kernel
theorem dX11_does_56 : decode cX11_does 56 = .ok (.goto 4, 3) := by decide +kernel
theorem dX11_does_59 : decode cX11_does 59 = .ok (.iconst 0, 1) := by decide +kernel
theorem dX11_does_60 : decode cX11_does 60 = .ok (.istore_n 2, 1) := by decide +kernel
theorem dX11_does_61 : decode cX11_does 61 = .ok (.iinc 3 1, 3) := by decide +kernel
theorem dX11_does_64 : decode cX11_does 64 = .ok (.goto (-36), 3) := by decide +kernel
theorem dX11_does_67 : decode cX11_does 67 = .ok (.iload_n 2, 1) := by decide +kernel
theorem dX11_does_68 : decode cX11_does 68 = .ok (.ifCond .ne 9, 3) := by decide +kernel
theorem dX11_does_71 : decode cX11_does 71 = .ok (.aload_n 0, 1) := by decide +kernel
theorem dX11_does_72 : decode cX11_does 72 = .ok (.iconst 3, 1) := by decide +kernel
theorem dX11_does_73 : decode cX11_does 73 = .ok (.invokevirtual 112, 3) := by decide +kernel
theorem dX11_does_76 : decode cX11_does 76 = .ok (.ireturn, 1) := by decide +kernel
theorem dX11_does_77 : decode cX11_does 77 = .ok (.aload_n 0, 1) := by decide +kernel
theorem dX11_does_78 : decode cX11_does 78 = .ok (.getfield 190, 3) := by decide +kernel
theorem dX11_does_81 : decode cX11_does 81 = .ok (.aload_n 0, 1) := by decide +kernel
theorem dX11_does_82 : decode cX11_does 82 = .ok (.getfield 13, 3) := by decide +kernel
theorem dX11_does_85 : decode cX11_does 85 = .ok (.iload_n 1, 1) := by decide +kernel
theorem dX11_does_86 : decode cX11_does 86 = .ok (.iaload, 1) := by decide +kernel
theorem dX11_does_87 : decode cX11_does 87 = .ok (.iadd, 1) := by decide +kernel
theorem dX11_does_88 : decode cX11_does 88 = .ok (.bipush 40, 2) := by decide +kernel
theorem dX11_does_90 : decode cX11_does 90 = .ok (.if_icmp .le 6, 3) := by decide +kernel
theorem dX11_does_93 : decode cX11_does 93 = .ok (.bipush (-2), 2) := by decide +kernel
theorem dX11_does_95 : decode cX11_does 95 = .ok (.ireturn, 1) := by decide +kernel
theorem dX11_does_96 : decode cX11_does 96 = .ok (.iconst 0, 1) := by decide +kernel
theorem dX11_does_97 : decode cX11_does 97 = .ok (.istore_n 3, 1) := by decide +kernel
theorem dX11_does_98 : decode cX11_does 98 = .ok (.iconst 1, 1) := by decide +kernel
theorem dX11_does_99 : decode cX11_does 99 = .ok (.istore 4, 2) := by decide +kernel
theorem dX11_does_101 : decode cX11_does 101 = .ok (.iload_n 3, 1) := by decide +kernel
theorem dX11_does_102 : decode cX11_does 102 = .ok (.aload_n 0, 1) := by decide +kernel
theorem dX11_does_103 : decode cX11_does 103 = .ok (.getfield 13, 3) := by decide +kernel
theorem dX11_does_106 : decode cX11_does 106 = .ok (.iload_n 1, 1) := by decide +kernel
theorem dX11_does_107 : decode cX11_does 107 = .ok (.iaload, 1) := by decide +kernel
theorem dX11_does_108 : decode cX11_does 108 = .ok (.if_icmp .ge 61, 3) := by decide +kernel
theorem dX11_does_111 : decode cX11_does 111 = .ok (.iload 4, 2) := by decide +kernel
theorem dX11_does_113 : decode cX11_does 113 = .ok (.ifCond .eq 56, 3) := by decide +kernel
theorem dX11_does_116 : decode cX11_does 116 = .ok (.aload_n 0, 1) := by decide +kernel
theorem dX11_does_117 : decode cX11_does 117 = .ok (.invokevirtual 217, 3) := by decide +kernel
theorem dX11_does_120 : decode cX11_does 120 = .ok (.aload_n 0, 1) := by decide +kernel
theorem dX11_does_121 : decode cX11_does 121 = .ok (.iload_n 1, 1) := by decide +kernel
theorem dX11_does_122 : decode cX11_does 122 = .ok (.iload_n 3, 1) := by decide +kernel
theorem dX11_does_123 : decode cX11_does 123 = .ok (.invokevirtual 116, 3) := by decide +kernel
theorem dX11_does_126 : decode cX11_does 126 = .ok (.istore 5, 2) := by decide +kernel
theorem dX11_does_128 : decode cX11_does 128 = .ok (.aload_n 0, 1) := by decide +kernel
theorem dX11_does_129 : decode cX11_does 129 = .ok (.iload 5, 2) := by decide +kernel
theorem dX11_does_131 : decode cX11_does 131 = .ok (.bipush 7, 2) := by decide +kernel
theorem dX11_does_133 : decode cX11_does 133 = .ok (.idiv, 1) := by decide +kernel
theorem dX11_does_134 : decode cX11_does 134 = .ok (.iload 5, 2) := by decide +kernel
theorem dX11_does_136 : decode cX11_does 136 = .ok (.bipush 7, 2) := by decide +kernel
theorem dX11_does_138 : decode cX11_does 138 = .ok (.irem, 1) := by decide +kernel
theorem dX11_does_139 : decode cX11_does 139 = .ok (.invokevirtual 241, 3) := by decide +kernel
theorem dX11_does_142 : decode cX11_does 142 = .ok (.istore 4, 2) := by decide +kernel
theorem dX11_does_144 : decode cX11_does 144 = .ok (.iload 4, 2) := by decide +kernel
theorem dX11_does_146 : decode cX11_does 146 = .ok (.ifCond .eq 20, 3) := by decide +kernel
theorem dX11_does_149 : decode cX11_does 149 = .ok (.aload_n 0, 1) := by decide +kernel
theorem dX11_does_150 : decode cX11_does 150 = .ok (.iload 5, 2) := by decide +kernel
theorem dX11_does_152 : decode cX11_does 152 = .ok (.bipush 7, 2) := by decide +kernel
theorem dX11_does_154 : decode cX11_does 154 = .ok (.idiv, 1) := by decide +kernel
theorem dX11_does_155 : decode cX11_does 155 = .ok (.iload 5, 2) := by decide +kernel
theorem dX11_does_157 : decode cX11_does 157 = .ok (.bipush 7, 2) := by decide +kernel
theorem dX11_does_159 : decode cX11_does 159 = .ok (.irem, 1) := by decide +kernel
theorem dX11_does_160 : decode cX11_does 160 = .ok (.invokevirtual 244, 3) := by decide +kernel
theorem dX11_does_163 : decode cX11_does 163 = .ok (.iinc 3 1, 3) := by decide +kernel
theorem dX11_does_166 : decode cX11_does 166 = .ok (.goto (-65), 3) := by decide +kernel
theorem dX11_does_169 : decode cX11_does 169 = .ok (.iload_n 3, 1) := by decide +kernel
theorem dX11_does_170 : decode cX11_does 170 = .ok (.ireturn, 1) := by decide +kernel
theorem dX11_keep_0 : decode cX11_keep 0 = .ok (.iload_n 1, 1) := by decide +kernel
theorem dX11_keep_1 : decode cX11_keep 1 = .ok (.iconst 0, 1) := by decide +kernel
theorem dX11_keep_2 : decode cX11_keep 2 = .ok (.iconst 2, 1) := by decide +kernel
theorem dX11_keep_3 : decode cX11_keep 3 = .ok (.invokestatic 98, 3) := by decide +kernel
theorem dX11_keep_6 : decode cX11_keep 6 = .ok (.ifCond .ne 5, 3) := by decide +kernel
theorem dX11_keep_9 : decode cX11_keep 9 = .ok (.iconst (-1), 1) := by decide +kernel
theorem dX11_keep_10 : decode cX11_keep 10 = .ok (.ireturn, 1) := by decide +kernel
theorem dX11_keep_11 : decode cX11_keep 11 = .ok (.aload_n 0, 1) := by decide +kernel
theorem dX11_keep_12 : decode cX11_keep 12 = .ok (.getfield 178, 3) := by decide +kernel
theorem dX11_keep_15 : decode cX11_keep 15 = .ok (.ifCond .ne 6, 3) := by decide +kernel
theorem dX11_keep_18 : decode cX11_keep 18 = .ok (.bipush (-4), 2) := by decide +kernel
theorem dX11_keep_20 : decode cX11_keep 20 = .ok (.ireturn, 1) := by decide +kernel
theorem dX11_keep_21 : decode cX11_keep 21 = .ok (.aload_n 0, 1) := by decide +kernel
theorem dX11_keep_22 : decode cX11_keep 22 = .ok (.invokevirtual 217, 3) := by decide +kernel
theorem dX11_keep_25 : decode cX11_keep 25 = .ok (.aload_n 0, 1) := by decide +kernel
theorem dX11_keep_26 : decode cX11_keep 26 = .ok (.getfield 59, 3) := by decide +kernel
theorem dX11_keep_29 : decode cX11_keep 29 = .ok (.iload_n 1, 1) := by decide +kernel
theorem dX11_keep_30 : decode cX11_keep 30 = .ok (.aload_n 0, 1) := by decide +kernel
theorem dX11_keep_31 : decode cX11_keep 31 = .ok (.invokevirtual 251, 3) := by decide +kernel
theorem dX11_keep_34 : decode cX11_keep 34 = .ok (.iastore, 1) := by decide +kernel
theorem dX11_keep_35 : decode cX11_keep 35 = .ok (.aload_n 0, 1) := by decide +kernel
theorem dX11_keep_36 : decode cX11_keep 36 = .ok (.getfield 62, 3) := by decide +kernel
theorem dX11_keep_39 : decode cX11_keep 39 = .ok (.iload_n 1, 1) := by decide +kernel
theorem dX11_keep_40 : decode cX11_keep 40 = .ok (.aload_n 0, 1) := by decide +kernel
theorem dX11_keep_41 : decode cX11_keep 41 = .ok (.getfield 91, 3) := by decide +kernel
theorem dX11_keep_44 : decode cX11_keep 44 = .ok (.iastore, 1) := by decide +kernel
theorem dX11_keep_45 : decode cX11_keep 45 = .ok (.aload_n 0, 1) := by decide +kernel
theorem dX11_keep_46 : decode cX11_keep 46 = .ok (.getfield 190, 3) := by decide +kernel
theorem dX11_keep_49 : decode cX11_keep 49 = .ok (.ireturn, 1) := by decide +kernel
theorem dX11_becomes_0 : decode cX11_becomes 0 = .ok (.iconst 0, 1) := by decide +kernel
theorem dX11_becomes_1 : decode cX11_becomes 1 = .ok (.istore_n 1, 1) := by decide +kernel
theorem dX11_becomes_2 : decode cX11_becomes 2 = .ok (.iload_n 1, 1) := by decide +kernel
theorem dX11_becomes_3 : decode cX11_becomes 3 = .ok (.aload_n 0, 1) := by decide +kernel
theorem dX11_becomes_4 : decode cX11_becomes 4 = .ok (.getfield 181, 3) := by decide +kernel
theorem dX11_becomes_7 : decode cX11_becomes 7 = .ok (.if_icmp .ge 21, 3) := by decide +kernel
theorem dX11_becomes_10 : decode cX11_becomes 10 = .ok (.aload_n 0, 1) := by decide +kernel
theorem dX11_becomes_11 : decode cX11_becomes 11 = .ok (.getfield 38, 3) := by decide +kernel
theorem dX11_becomes_14 : decode cX11_becomes 14 = .ok (.iload_n 1, 1) := by decide +kernel
theorem dX11_becomes_15 : decode cX11_becomes 15 = .ok (.aload_n 0, 1) := by decide +kernel
theorem dX11_becomes_16 : decode cX11_becomes 16 = .ok (.getfield 50, 3) := by decide +kernel
theorem dX11_becomes_19 : decode cX11_becomes 19 = .ok (.iload_n 1, 1) := by decide +kernel
theorem dX11_becomes_20 : decode cX11_becomes 20 = .ok (.iaload, 1) := by decide +kernel
theorem dX11_becomes_21 : decode cX11_becomes 21 = .ok (.iastore, 1) := by decide +kernel
theorem dX11_becomes_22 : decode cX11_becomes 22 = .ok (.iinc 1 1, 3) := by decide +kernel
theorem dX11_becomes_25 : decode cX11_becomes 25 = .ok (.goto (-23), 3) := by decide +kernel
theorem dX11_becomes_28 : decode cX11_becomes 28 = .ok (.aload_n 0, 1) := by decide +kernel
theorem dX11_becomes_29 : decode cX11_becomes 29 = .ok (.iconst 0, 1) := by decide +kernel
theorem dX11_becomes_30 : decode cX11_becomes 30 = .ok (.putfield 190, 3) := by decide +kernel
theorem dX11_becomes_33 : decode cX11_becomes 33 = .ok (.return_, 1) := by decide +kernel
theorem dX11_on_0 : decode cX11_on 0 = .ok (.iload_n 1, 1) := by decide +kernel
theorem dX11_on_1 : decode cX11_on 1 = .ok (.iconst 0, 1) := by decide +kernel
theorem dX11_on_2 : decode cX11_on 2 = .ok (.iconst 2, 1) := by decide +kernel
theorem dX11_on_3 : decode cX11_on 3 = .ok (.invokestatic 98, 3) := by decide +kernel
theorem dX11_on_6 : decode cX11_on 6 = .ok (.ifCond .ne 5, 3) := by decide +kernel
theorem dX11_on_9 : decode cX11_on 9 = .ok (.iconst (-1), 1) := by decide +kernel
theorem dX11_on_10 : decode cX11_on 10 = .ok (.ireturn, 1) := by decide +kernel
theorem dX11_on_11 : decode cX11_on 11 = .ok (.aload_n 0, 1) := by decide +kernel
theorem dX11_on_12 : decode cX11_on 12 = .ok (.getfield 59, 3) := by decide +kernel
theorem dX11_on_15 : decode cX11_on 15 = .ok (.iload_n 1, 1) := by decide +kernel
theorem dX11_on_16 : decode cX11_on 16 = .ok (.iaload, 1) := by decide +kernel
theorem dX11_on_17 : decode cX11_on 17 = .ok (.ifCond .ge 9, 3) := by decide +kernel
theorem dX11_on_20 : decode cX11_on 20 = .ok (.aload_n 0, 1) := by decide +kernel
theorem dX11_on_21 : decode cX11_on 21 = .ok (.iconst 1, 1) := by decide +kernel
theorem dX11_on_22 : decode cX11_on 22 = .ok (.invokevirtual 112, 3) := by decide +kernel
theorem dX11_on_25 : decode cX11_on 25 = .ok (.ireturn, 1) := by decide +kernel
theorem dX11_on_26 : decode cX11_on 26 = .ok (.aload_n 0, 1) := by decide +kernel
theorem dX11_on_27 : decode cX11_on 27 = .ok (.aload_n 0, 1) := by decide +kernel
theorem dX11_on_28 : decode cX11_on 28 = .ok (.getfield 59, 3) := by decide +kernel
theorem dX11_on_31 : decode cX11_on 31 = .ok (.iload_n 1, 1) := by decide +kernel
theorem dX11_on_32 : decode cX11_on 32 = .ok (.iaload, 1) := by decide +kernel
theorem dX11_on_33 : decode cX11_on 33 = .ok (.invokevirtual 255, 3) := by decide +kernel
theorem dX11_on_36 : decode cX11_on 36 = .ok (.aload_n 0, 1) := by decide +kernel
theorem dX11_on_37 : decode cX11_on 37 = .ok (.invokevirtual 259, 3) := by decide +kernel
theorem dX11_on_40 : decode cX11_on 40 = .ok (.aload_n 0, 1) := by decide +kernel
theorem dX11_on_41 : decode cX11_on 41 = .ok (.aload_n 0, 1) := by decide +kernel
theorem dX11_on_42 : decode cX11_on 42 = .ok (.getfield 62, 3) := by decide +kernel
theorem dX11_on_45 : decode cX11_on 45 = .ok (.iload_n 1, 1) := by decide +kernel
theorem dX11_on_46 : decode cX11_on 46 = .ok (.iaload, 1) := by decide +kernel
theorem dX11_on_47 : decode cX11_on 47 = .ok (.putfield 91, 3) := by decide +kernel
theorem dX11_on_50 : decode cX11_on 50 = .ok (.iconst 1, 1) := by decide +kernel
theorem dX11_on_51 : decode cX11_on 51 = .ok (.ireturn, 1) := by decide +kernel
theorem dX11_canWork_0 : decode cX11_canWork 0 = .ok (.iconst 1, 1) := by decide +kernel
theorem dX11_canWork_1 : decode cX11_canWork 1 = .ok (.istore_n 2, 1) := by decide +kernel
theorem dX11_canWork_2 : decode cX11_canWork 2 = .ok (.iconst 0, 1) := by decide +kernel
theorem dX11_canWork_3 : decode cX11_canWork 3 = .ok (.istore_n 3, 1) := by decide +kernel
theorem dX11_canWork_4 : decode cX11_canWork 4 = .ok (.iload_n 3, 1) := by decide +kernel
theorem dX11_canWork_5 : decode cX11_canWork 5 = .ok (.aload_n 0, 1) := by decide +kernel
theorem dX11_canWork_6 : decode cX11_canWork 6 = .ok (.getfield 181, 3) := by decide +kernel
theorem dX11_canWork_9 : decode cX11_canWork 9 = .ok (.if_icmp .ge 54, 3) := by decide +kernel
theorem dX11_canWork_12 : decode cX11_canWork 12 = .ok (.iload_n 2, 1) := by decide +kernel
theorem dX11_canWork_13 : decode cX11_canWork 13 = .ok (.ifCond .eq 42, 3) := by decide +kernel
theorem dX11_canWork_16 : decode cX11_canWork 16 = .ok (.aload_n 0, 1) := by decide +kernel
theorem dX11_canWork_17 : decode cX11_canWork 17 = .ok (.getfield 35, 3) := by decide +kernel
theorem dX11_canWork_20 : decode cX11_canWork 20 = .ok (.iconst 4, 1) := by decide +kernel
theorem dX11_canWork_21 : decode cX11_canWork 21 = .ok (.iload_n 1, 1) := by decide +kernel
theorem dX11_canWork_22 : decode cX11_canWork 22 = .ok (.imul, 1) := by decide +kernel
theorem dX11_canWork_23 : decode cX11_canWork 23 = .ok (.iconst 2, 1) := by decide +kernel
theorem dX11_canWork_24 : decode cX11_canWork 24 = .ok (.iadd, 1) := by decide +kernel
theorem dX11_canWork_25 : decode cX11_canWork 25 = .ok (.iaload, 1) := by decide +kernel
theorem dX11_canWork_26 : decode cX11_canWork 26 = .ok (.iload_n 3, 1) := by decide +kernel
theorem dX11_canWork_27 : decode cX11_canWork 27 = .ok (.invokestatic 162, 3) := by decide +kernel
theorem dX11_canWork_30 : decode cX11_canWork 30 = .ok (.ifCond .eq 21, 3) := by decide +kernel
theorem dX11_canWork_33 : decode cX11_canWork 33 = .ok (.aload_n 0, 1) := by decide +kernel
theorem dX11_canWork_34 : decode cX11_canWork 34 = .ok (.iload_n 3, 1) := by decide +kernel
theorem dX11_canWork_35 : decode cX11_canWork 35 = .ok (.invokevirtual 199, 3) := by decide +kernel
theorem dX11_canWork_38 : decode cX11_canWork 38 = .ok (.aload_n 0, 1) := by decide +kernel
theorem dX11_canWork_39 : decode cX11_canWork 39 = .ok (.getfield 35, 3) := by decide +kernel
theorem dX11_canWork_42 : decode cX11_canWork 42 = .ok (.iconst 4, 1) := by decide +kernel
theorem dX11_canWork_43 : decode cX11_canWork 43 = .ok (.iload_n 1, 1) := by decide +kernel
theorem dX11_canWork_44 : decode cX11_canWork 44 = .ok (.imul, 1) := by decide +kernel
theorem dX11_canWork_45 : decode cX11_canWork 45 = .ok (.iconst 1, 1) := by decide +kernel
theorem dX11_canWork_46 : decode cX11_canWork 46 = .ok (.iadd, 1) := by decide +kernel
theorem dX11_canWork_47 : decode cX11_canWork 47 = .ok (.iaload, 1) := by decide +kernel
theorem dX11_canWork_48 : decode cX11_canWork 48 = .ok (.if_icmp .ne 7, 3) := by decide +kernel
theorem dX11_canWork_51 : decode cX11_canWork 51 = .ok (.iconst 1, 1) := by decide +kernel
theorem dX11_canWork_52 : decode cX11_canWork 52 = .ok (.goto 4, 3) := by decide +kernel
theorem dX11_canWork_55 : decode cX11_canWork 55 = .ok (.iconst 0, 1) := by decide +kernel
theorem dX11_canWork_56 : decode cX11_canWork 56 = .ok (.istore_n 2, 1) := by decide +kernel
theorem dX11_canWork_57 : decode cX11_canWork 57 = .ok (.iinc 3 1, 3) := by decide +kernel
theorem dX11_canWork_60 : decode cX11_canWork 60 = .ok (.goto (-56), 3) := by decide +kernel
theorem dX11_canWork_63 : decode cX11_canWork 63 = .ok (.iload_n 2, 1) := by decide +kernel
theorem dX11_canWork_64 : decode cX11_canWork 64 = .ok (.ireturn, 1) := by decide +kernel
theorem dX11_can_0 : decode cX11_can 0 = .ok (.aload_n 0, 1) := by decide +kernel
theorem dX11_can_1 : decode cX11_can 1 = .ok (.invokevirtual 217, 3) := by decide +kernel
theorem dX11_can_4 : decode cX11_can 4 = .ok (.iconst 0, 1) := by decide +kernel
theorem dX11_can_5 : decode cX11_can 5 = .ok (.istore_n 1, 1) := by decide +kernel
theorem dX11_can_6 : decode cX11_can 6 = .ok (.iconst 0, 1) := by decide +kernel
theorem dX11_can_7 : decode cX11_can 7 = .ok (.istore_n 2, 1) := by decide +kernel
theorem dX11_can_8 : decode cX11_can 8 = .ok (.iconst 0, 1) := by decide +kernel
theorem dX11_can_9 : decode cX11_can 9 = .ok (.istore_n 3, 1) := by decide +kernel
theorem dX11_can_10 : decode cX11_can 10 = .ok (.iload_n 3, 1) := by decide +kernel
theorem dX11_can_11 : decode cX11_can 11 = .ok (.aload_n 0, 1) := by decide +kernel
theorem dX11_can_12 : decode cX11_can 12 = .ok (.getfield 184, 3) := by decide +kernel
theorem dX11_can_15 : decode cX11_can 15 = .ok (.if_icmp .ge 36, 3) := by decide +kernel
theorem dX11_can_18 : decode cX11_can 18 = .ok (.aload_n 0, 1) := by decide +kernel
theorem dX11_can_19 : decode cX11_can 19 = .ok (.iload_n 3, 1) := by decide +kernel
theorem dX11_can_20 : decode cX11_can 20 = .ok (.invokevirtual 262, 3) := by decide +kernel
theorem dX11_can_23 : decode cX11_can 23 = .ok (.ifCond .eq 22, 3) := by decide +kernel
theorem dX11_can_26 : decode cX11_can 26 = .ok (.iload_n 1, 1) := by decide +kernel
theorem dX11_can_27 : decode cX11_can 27 = .ok (.iconst 1, 1) := by decide +kernel
theorem dX11_can_28 : decode cX11_can 28 = .ok (.iload_n 3, 1) := by decide +kernel
theorem dX11_can_29 : decode cX11_can 29 = .ok (.ishl, 1) := by decide +kernel
theorem dX11_can_30 : decode cX11_can 30 = .ok (.ior, 1) := by decide +kernel
theorem dX11_can_31 : decode cX11_can 31 = .ok (.istore_n 1, 1) := by decide +kernel
theorem dX11_can_32 : decode cX11_can 32 = .ok (.iload_n 2, 1) := by decide +kernel
theorem dX11_can_33 : decode cX11_can 33 = .ok (.aload_n 0, 1) := by decide +kernel
theorem dX11_can_34 : decode cX11_can 34 = .ok (.getfield 35, 3) := by decide +kernel
theorem dX11_can_37 : decode cX11_can 37 = .ok (.iconst 4, 1) := by decide +kernel
theorem dX11_can_38 : decode cX11_can 38 = .ok (.iload_n 3, 1) := by decide +kernel
theorem dX11_can_39 : decode cX11_can 39 = .ok (.imul, 1) := by decide +kernel
theorem dX11_can_40 : decode cX11_can 40 = .ok (.iconst 3, 1) := by decide +kernel
theorem dX11_can_41 : decode cX11_can 41 = .ok (.iadd, 1) := by decide +kernel
theorem dX11_can_42 : decode cX11_can 42 = .ok (.iaload, 1) := by decide +kernel
theorem dX11_can_43 : decode cX11_can 43 = .ok (.iadd, 1) := by decide +kernel
theorem dX11_can_44 : decode cX11_can 44 = .ok (.istore_n 2, 1) := by decide +kernel
theorem dX11_can_45 : decode cX11_can 45 = .ok (.iinc 3 1, 3) := by decide +kernel
theorem dX11_can_48 : decode cX11_can 48 = .ok (.goto (-38), 3) := by decide +kernel
theorem dX11_can_51 : decode cX11_can 51 = .ok (.aload_n 0, 1) := by decide +kernel
theorem dX11_can_52 : decode cX11_can 52 = .ok (.iload_n 2, 1) := by decide +kernel
theorem dX11_can_53 : decode cX11_can 53 = .ok (.iload_n 1, 1) := by decide +kernel
theorem dX11_can_54 : decode cX11_can 54 = .ok (.invokevirtual 120, 3) := by decide +kernel
theorem dX11_can_57 : decode cX11_can 57 = .ok (.ireturn, 1) := by decide +kernel
theorem dX11_day_0 : decode cX11_day 0 = .ok (.iload_n 1, 1) := by decide +kernel
theorem dX11_day_1 : decode cX11_day 1 = .ok (.invokestatic 108, 3) := by decide +kernel
theorem dX11_day_4 : decode cX11_day 4 = .ok (.ifCond .ne 5, 3) := by decide +kernel
theorem dX11_day_7 : decode cX11_day 7 = .ok (.iconst (-1), 1) := by decide +kernel
theorem dX11_day_8 : decode cX11_day 8 = .ok (.ireturn, 1) := by decide +kernel
theorem dX11_day_9 : decode cX11_day 9 = .ok (.aload_n 0, 1) := by decide +kernel
theorem dX11_day_10 : decode cX11_day 10 = .ok (.getfield 13, 3) := by decide +kernel
theorem dX11_day_13 : decode cX11_day 13 = .ok (.iload_n 1, 1) := by decide +kernel
theorem dX11_day_14 : decode cX11_day 14 = .ok (.iaload, 1) := by decide +kernel
theorem dX11_day_15 : decode cX11_day 15 = .ok (.ifCond .ge 9, 3) := by decide +kernel
theorem dX11_day_18 : decode cX11_day 18 = .ok (.aload_n 0, 1) := by decide +kernel
theorem dX11_day_19 : decode cX11_day 19 = .ok (.iconst 1, 1) := by decide +kernel
theorem dX11_day_20 : decode cX11_day 20 = .ok (.invokevirtual 112, 3) := by decide +kernel
theorem dX11_day_23 : decode cX11_day 23 = .ok (.ireturn, 1) := by decide +kernel
theorem dX11_day_24 : decode cX11_day 24 = .ok (.aload_n 0, 1) := by decide +kernel
theorem dX11_day_25 : decode cX11_day 25 = .ok (.getfield 13, 3) := by decide +kernel
theorem dX11_day_28 : decode cX11_day 28 = .ok (.iload_n 1, 1) := by decide +kernel
theorem dX11_day_29 : decode cX11_day 29 = .ok (.iaload, 1) := by decide +kernel
theorem dX11_day_30 : decode cX11_day 30 = .ok (.bipush 6, 2) := by decide +kernel
theorem dX11_day_32 : decode cX11_day 32 = .ok (.irem, 1) := by decide +kernel
theorem dX11_day_33 : decode cX11_day 33 = .ok (.ifCond .ne 20, 3) := by decide +kernel
theorem dX11_day_36 : decode cX11_day 36 = .ok (.aload_n 0, 1) := by decide +kernel
theorem dX11_day_37 : decode cX11_day 37 = .ok (.getfield 13, 3) := by decide +kernel
theorem dX11_day_40 : decode cX11_day 40 = .ok (.iload_n 1, 1) := by decide +kernel
theorem dX11_day_41 : decode cX11_day 41 = .ok (.iaload, 1) := by decide +kernel
theorem dX11_day_42 : decode cX11_day 42 = .ok (.bipush 6, 2) := by decide +kernel
theorem dX11_day_44 : decode cX11_day 44 = .ok (.idiv, 1) := by decide +kernel
theorem dX11_day_45 : decode cX11_day 45 = .ok (.iconst 1, 1) := by decide +kernel
theorem dX11_day_46 : decode cX11_day 46 = .ok (.iconst 4, 1) := by decide +kernel
theorem dX11_day_47 : decode cX11_day 47 = .ok (.invokestatic 98, 3) := by decide +kernel
theorem dX11_day_50 : decode cX11_day 50 = .ok (.ifCond .ne 9, 3) := by decide +kernel
theorem dX11_day_53 : decode cX11_day 53 = .ok (.aload_n 0, 1) := by decide +kernel
theorem dX11_day_54 : decode cX11_day 54 = .ok (.iconst 5, 1) := by decide +kernel
theorem dX11_day_55 : decode cX11_day 55 = .ok (.invokevirtual 112, 3) := by decide +kernel
theorem dX11_day_58 : decode cX11_day 58 = .ok (.ireturn, 1) := by decide +kernel
theorem dX11_day_59 : decode cX11_day 59 = .ok (.iconst 1, 1) := by decide +kernel
theorem dX11_day_60 : decode cX11_day 60 = .ok (.istore_n 2, 1) := by decide +kernel
theorem dX11_day_61 : decode cX11_day 61 = .ok (.iconst 0, 1) := by decide +kernel
theorem dX11_day_62 : decode cX11_day 62 = .ok (.istore_n 3, 1) := by decide +kernel
theorem dX11_day_63 : decode cX11_day 63 = .ok (.iload_n 3, 1) := by decide +kernel
theorem dX11_day_64 : decode cX11_day 64 = .ok (.aload_n 0, 1) := by decide +kernel
theorem dX11_day_65 : decode cX11_day 65 = .ok (.getfield 13, 3) := by decide +kernel
theorem dX11_day_68 : decode cX11_day 68 = .ok (.iload_n 1, 1) := by decide +kernel
theorem dX11_day_69 : decode cX11_day 69 = .ok (.iaload, 1) := by decide +kernel
theorem dX11_day_70 : decode cX11_day 70 = .ok (.if_icmp .ge 42, 3) := by decide +kernel
theorem dX11_day_73 : decode cX11_day 73 = .ok (.iload_n 2, 1) := by decide +kernel
theorem dX11_day_74 : decode cX11_day 74 = .ok (.ifCond .eq 30, 3) := by decide +kernel
theorem dX11_day_77 : decode cX11_day 77 = .ok (.aload_n 0, 1) := by decide +kernel
theorem dX11_day_78 : decode cX11_day 78 = .ok (.iload_n 1, 1) := by decide +kernel
theorem dX11_day_79 : decode cX11_day 79 = .ok (.iload_n 3, 1) := by decide +kernel
theorem dX11_day_80 : decode cX11_day 80 = .ok (.invokevirtual 116, 3) := by decide +kernel
theorem dX11_day_83 : decode cX11_day 83 = .ok (.iconst (-1), 1) := by decide +kernel
theorem dX11_day_84 : decode cX11_day 84 = .ok (.if_icmp .eq 16, 3) := by decide +kernel
theorem dX11_day_87 : decode cX11_day 87 = .ok (.aload_n 0, 1) := by decide +kernel
theorem dX11_day_88 : decode cX11_day 88 = .ok (.aload_n 0, 1) := by decide +kernel
theorem dX11_day_89 : decode cX11_day 89 = .ok (.iload_n 1, 1) := by decide +kernel
theorem dX11_day_90 : decode cX11_day 90 = .ok (.iload_n 3, 1) := by decide +kernel
theorem dX11_day_91 : decode cX11_day 91 = .ok (.invokevirtual 116, 3) := by decide +kernel
theorem dX11_day_94 : decode cX11_day 94 = .ok (.invokevirtual 248, 3) := by decide +kernel
theorem dX11_day_97 : decode cX11_day 97 = .ok (.ifCond .eq 7, 3) := by decide +kernel
theorem dX11_day_100 : decode cX11_day 100 = .ok (.iconst 1, 1) := by decide +kernel
theorem dX11_day_101 : decode cX11_day 101 = .ok (.goto 4, 3) := by decide +kernel
theorem dX11_day_104 : decode cX11_day 104 = .ok (.iconst 0, 1) := by decide +kernel
theorem dX11_day_105 : decode cX11_day 105 = .ok (.istore_n 2, 1) := by decide +kernel
theorem dX11_day_106 : decode cX11_day 106 = .ok (.iinc 3 1, 3) := by decide +kernel
theorem dX11_day_109 : decode cX11_day 109 = .ok (.goto (-46), 3) := by decide +kernel
theorem dX11_day_112 : decode cX11_day 112 = .ok (.iload_n 2, 1) := by decide +kernel
theorem dX11_day_113 : decode cX11_day 113 = .ok (.ifCond .ne 9, 3) := by decide +kernel
theorem dX11_day_116 : decode cX11_day 116 = .ok (.aload_n 0, 1) := by decide +kernel
theorem dX11_day_117 : decode cX11_day 117 = .ok (.iconst 3, 1) := by decide +kernel
theorem dX11_day_118 : decode cX11_day 118 = .ok (.invokevirtual 112, 3) := by decide +kernel
theorem dX11_day_121 : decode cX11_day 121 = .ok (.ireturn, 1) := by decide +kernel
theorem dX11_day_122 : decode cX11_day 122 = .ok (.aload_n 0, 1) := by decide +kernel
theorem dX11_day_123 : decode cX11_day 123 = .ok (.getfield 13, 3) := by decide +kernel
theorem dX11_day_126 : decode cX11_day 126 = .ok (.iload_n 1, 1) := by decide +kernel
theorem dX11_day_127 : decode cX11_day 127 = .ok (.iaload, 1) := by decide +kernel
theorem dX11_day_128 : decode cX11_day 128 = .ok (.bipush 6, 2) := by decide +kernel
theorem dX11_day_130 : decode cX11_day 130 = .ok (.idiv, 1) := by decide +kernel
theorem dX11_day_131 : decode cX11_day 131 = .ok (.istore_n 3, 1) := by decide +kernel
theorem dX11_day_132 : decode cX11_day 132 = .ok (.iconst 0, 1) := by decide +kernel
theorem dX11_day_133 : decode cX11_day 133 = .ok (.istore 4, 2) := by decide +kernel
theorem dX11_day_135 : decode cX11_day 135 = .ok (.iconst 0, 1) := by decide +kernel
theorem dX11_day_136 : decode cX11_day 136 = .ok (.istore 5, 2) := by decide +kernel
theorem dX11_day_138 : decode cX11_day 138 = .ok (.aload_n 0, 1) := by decide +kernel
theorem dX11_day_139 : decode cX11_day 139 = .ok (.invokevirtual 217, 3) := by decide +kernel
theorem dX11_day_142 : decode cX11_day 142 = .ok (.iconst 0, 1) := by decide +kernel
theorem dX11_day_143 : decode cX11_day 143 = .ok (.istore 6, 2) := by decide +kernel
theorem dX11_day_145 : decode cX11_day 145 = .ok (.iload 6, 2) := by decide +kernel
theorem dX11_day_147 : decode cX11_day 147 = .ok (.bipush 6, 2) := by decide +kernel
theorem dX11_day_149 : decode cX11_day 149 = .ok (.if_icmp .ge 166, 3) := by decide +kernel
theorem dX11_day_152 : decode cX11_day 152 = .ok (.iconst 0, 1) := by decide +kernel
theorem dX11_day_153 : decode cX11_day 153 = .ok (.istore 7, 2) := by decide +kernel
theorem dX11_day_155 : decode cX11_day 155 = .ok (.iload 7, 2) := by decide +kernel
theorem dX11_day_157 : decode cX11_day 157 = .ok (.iload_n 3, 1) := by decide +kernel
theorem dX11_day_158 : decode cX11_day 158 = .ok (.if_icmp .ge 60, 3) := by decide +kernel
theorem dX11_day_161 : decode cX11_day 161 = .ok (.aload_n 0, 1) := by decide +kernel
theorem dX11_day_162 : decode cX11_day 162 = .ok (.iload_n 1, 1) := by decide +kernel
theorem dX11_day_163 : decode cX11_day 163 = .ok (.iload_n 3, 1) := by decide +kernel
theorem dX11_day_164 : decode cX11_day 164 = .ok (.iload 6, 2) := by decide +kernel
theorem dX11_day_166 : decode cX11_day 166 = .ok (.imul, 1) := by decide +kernel
theorem dX11_day_167 : decode cX11_day 167 = .ok (.iload 7, 2) := by decide +kernel
theorem dX11_day_169 : decode cX11_day 169 = .ok (.iadd, 1) := by decide +kernel
theorem dX11_day_170 : decode cX11_day 170 = .ok (.invokevirtual 116, 3) := by decide +kernel
theorem dX11_day_173 : decode cX11_day 173 = .ok (.istore 8, 2) := by decide +kernel
theorem dX11_day_175 : decode cX11_day 175 = .ok (.iload 8, 2) := by decide +kernel
theorem dX11_day_177 : decode cX11_day 177 = .ok (.ifCond .lt 35, 3) := by decide +kernel
theorem dX11_day_180 : decode cX11_day 180 = .ok (.aload_n 0, 1) := by decide +kernel
theorem dX11_day_181 : decode cX11_day 181 = .ok (.iload 8, 2) := by decide +kernel
theorem dX11_day_183 : decode cX11_day 183 = .ok (.bipush 7, 2) := by decide +kernel
theorem dX11_day_185 : decode cX11_day 185 = .ok (.idiv, 1) := by decide +kernel
theorem dX11_day_186 : decode cX11_day 186 = .ok (.iload 8, 2) := by decide +kernel
theorem dX11_day_188 : decode cX11_day 188 = .ok (.bipush 7, 2) := by decide +kernel
theorem dX11_day_190 : decode cX11_day 190 = .ok (.irem, 1) := by decide +kernel
theorem dX11_day_191 : decode cX11_day 191 = .ok (.invokevirtual 241, 3) := by decide +kernel
theorem dX11_day_194 : decode cX11_day 194 = .ok (.ifCond .eq 18, 3) := by decide +kernel
theorem dX11_day_197 : decode cX11_day 197 = .ok (.aload_n 0, 1) := by decide +kernel
theorem dX11_day_198 : decode cX11_day 198 = .ok (.getfield 50, 3) := by decide +kernel
theorem dX11_day_201 : decode cX11_day 201 = .ok (.iload 8, 2) := by decide +kernel
theorem dX11_day_203 : decode cX11_day 203 = .ok (.bipush 7, 2) := by decide +kernel
theorem dX11_day_205 : decode cX11_day 205 = .ok (.idiv, 1) := by decide +kernel
theorem dX11_day_206 : decode cX11_day 206 = .ok (.iload 8, 2) := by decide +kernel
theorem dX11_day_208 : decode cX11_day 208 = .ok (.bipush 7, 2) := by decide +kernel
theorem dX11_day_210 : decode cX11_day 210 = .ok (.irem, 1) := by decide +kernel
theorem dX11_day_211 : decode cX11_day 211 = .ok (.iastore, 1) := by decide +kernel
theorem dX11_day_212 : decode cX11_day 212 = .ok (.iinc 7 1, 3) := by decide +kernel
theorem dX11_day_215 : decode cX11_day 215 = .ok (.goto (-60), 3) := by decide +kernel
theorem dX11_day_218 : decode cX11_day 218 = .ok (.iconst 0, 1) := by decide +kernel
theorem dX11_day_219 : decode cX11_day 219 = .ok (.istore 7, 2) := by decide +kernel
theorem dX11_day_221 : decode cX11_day 221 = .ok (.iload 7, 2) := by decide +kernel
theorem dX11_day_223 : decode cX11_day 223 = .ok (.aload_n 0, 1) := by decide +kernel
theorem dX11_day_224 : decode cX11_day 224 = .ok (.getfield 184, 3) := by decide +kernel
theorem dX11_day_227 : decode cX11_day 227 = .ok (.if_icmp .ge 82, 3) := by decide +kernel
theorem dX11_day_230 : decode cX11_day 230 = .ok (.aload_n 0, 1) := by decide +kernel
theorem dX11_day_231 : decode cX11_day 231 = .ok (.getfield 35, 3) := by decide +kernel
theorem dX11_day_234 : decode cX11_day 234 = .ok (.iconst 4, 1) := by decide +kernel
theorem dX11_day_235 : decode cX11_day 235 = .ok (.iload 7, 2) := by decide +kernel
theorem dX11_day_237 : decode cX11_day 237 = .ok (.imul, 1) := by decide +kernel
theorem dX11_day_238 : decode cX11_day 238 = .ok (.iaload, 1) := by decide +kernel
theorem dX11_day_239 : decode cX11_day 239 = .ok (.iload 6, 2) := by decide +kernel
theorem dX11_day_241 : decode cX11_day 241 = .ok (.if_icmp .ne 16, 3) := by decide +kernel
theorem dX11_day_244 : decode cX11_day 244 = .ok (.aload_n 0, 1) := by decide +kernel
theorem dX11_day_245 : decode cX11_day 245 = .ok (.iload 7, 2) := by decide +kernel
theorem dX11_day_247 : decode cX11_day 247 = .ok (.invokevirtual 262, 3) := by decide +kernel
theorem dX11_day_250 : decode cX11_day 250 = .ok (.ifCond .eq 7, 3) := by decide +kernel
theorem dX11_day_253 : decode cX11_day 253 = .ok (.iconst 1, 1) := by decide +kernel
theorem dX11_day_254 : decode cX11_day 254 = .ok (.goto 4, 3) := by decide +kernel
theorem dX11_day_257 : decode cX11_day 257 = .ok (.iconst 0, 1) := by decide +kernel
theorem dX11_day_258 : decode cX11_day 258 = .ok (.istore 8, 2) := by decide +kernel
theorem dX11_day_260 : decode cX11_day 260 = .ok (.iload 4, 2) := by decide +kernel
theorem dX11_day_262 : decode cX11_day 262 = .ok (.iload 8, 2) := by decide +kernel
theorem dX11_day_264 : decode cX11_day 264 = .ok (.ifCond .eq 10, 3) := by decide +kernel
theorem dX11_day_267 : decode cX11_day 267 = .ok (.iconst 1, 1) := by decide +kernel
theorem dX11_day_268 : decode cX11_day 268 = .ok (.iload 7, 2) := by decide +kernel
theorem dX11_day_270 : decode cX11_day 270 = .ok (.ishl, 1) := by decide +kernel
theorem dX11_day_271 : decode cX11_day 271 = .ok (.goto 4, 3) := by decide +kernel
theorem dX11_day_274 : decode cX11_day 274 = .ok (.iconst 0, 1) := by decide +kernel
theorem dX11_day_275 : decode cX11_day 275 = .ok (.ior, 1) := by decide +kernel
theorem dX11_day_276 : decode cX11_day 276 = .ok (.istore 4, 2) := by decide +kernel
theorem dX11_day_278 : decode cX11_day 278 = .ok (.iload 5, 2) := by decide +kernel
theorem dX11_day_280 : decode cX11_day 280 = .ok (.iload 8, 2) := by decide +kernel
theorem dX11_day_282 : decode cX11_day 282 = .ok (.ifCond .eq 17, 3) := by decide +kernel
theorem dX11_day_285 : decode cX11_day 285 = .ok (.aload_n 0, 1) := by decide +kernel
theorem dX11_day_286 : decode cX11_day 286 = .ok (.getfield 35, 3) := by decide +kernel
theorem dX11_day_289 : decode cX11_day 289 = .ok (.iconst 4, 1) := by decide +kernel
theorem dX11_day_290 : decode cX11_day 290 = .ok (.iload 7, 2) := by decide +kernel
theorem dX11_day_292 : decode cX11_day 292 = .ok (.imul, 1) := by decide +kernel
theorem dX11_day_293 : decode cX11_day 293 = .ok (.iconst 3, 1) := by decide +kernel
theorem dX11_day_294 : decode cX11_day 294 = .ok (.iadd, 1) := by decide +kernel
theorem dX11_day_295 : decode cX11_day 295 = .ok (.iaload, 1) := by decide +kernel
theorem dX11_day_296 : decode cX11_day 296 = .ok (.goto 4, 3) := by decide +kernel
theorem dX11_day_299 : decode cX11_day 299 = .ok (.iconst 0, 1) := by decide +kernel
theorem dX11_day_300 : decode cX11_day 300 = .ok (.iadd, 1) := by decide +kernel
theorem dX11_day_301 : decode cX11_day 301 = .ok (.istore 5, 2) := by decide +kernel
theorem dX11_day_303 : decode cX11_day 303 = .ok (.iinc 7 1, 3) := by decide +kernel
theorem dX11_day_306 : decode cX11_day 306 = .ok (.goto (-85), 3) := by decide +kernel
theorem dX11_day_309 : decode cX11_day 309 = .ok (.iinc 6 1, 3) := by decide +kernel
theorem dX11_day_312 : decode cX11_day 312 = .ok (.goto (-167), 3) := by decide +kernel
theorem dX11_day_315 : decode cX11_day 315 = .ok (.aload_n 0, 1) := by decide +kernel
theorem dX11_day_316 : decode cX11_day 316 = .ok (.iload 5, 2) := by decide +kernel
theorem dX11_day_318 : decode cX11_day 318 = .ok (.iload 4, 2) := by decide +kernel
theorem dX11_day_320 : decode cX11_day 320 = .ok (.invokevirtual 120, 3) := by decide +kernel
theorem dX11_day_323 : decode cX11_day 323 = .ok (.ireturn, 1) := by decide +kernel
theorem dX11_layFar_0 : decode cX11_layFar 0 = .ok (.iconst 0, 1) := by decide +kernel
theorem dX11_layFar_1 : decode cX11_layFar 1 = .ok (.istore_n 1, 1) := by decide +kernel
theorem dX11_layFar_2 : decode cX11_layFar 2 = .ok (.iload_n 1, 1) := by decide +kernel
theorem dX11_layFar_3 : decode cX11_layFar 3 = .ok (.aload_n 0, 1) := by decide +kernel
theorem dX11_layFar_4 : decode cX11_layFar 4 = .ok (.invokevirtual 265, 3) := by decide +kernel
theorem dX11_layFar_7 : decode cX11_layFar 7 = .ok (.if_icmp .ge 18, 3) := by decide +kernel
theorem dX11_layFar_10 : decode cX11_layFar 10 = .ok (.aload_n 0, 1) := by decide +kernel
theorem dX11_layFar_11 : decode cX11_layFar 11 = .ok (.getfield 65, 3) := by decide +kernel
theorem dX11_layFar_14 : decode cX11_layFar 14 = .ok (.iload_n 1, 1) := by decide +kernel
theorem dX11_layFar_15 : decode cX11_layFar 15 = .ok (.ldc_w 268, 3) := by decide +kernel
theorem dX11_layFar_18 : decode cX11_layFar 18 = .ok (.iastore, 1) := by decide +kernel
theorem dX11_layFar_19 : decode cX11_layFar 19 = .ok (.iinc 1 1, 3) := by decide +kernel
theorem dX11_layFar_22 : decode cX11_layFar 22 = .ok (.goto (-20), 3) := by decide +kernel
theorem dX11_layFar_25 : decode cX11_layFar 25 = .ok (.aload_n 0, 1) := by decide +kernel
theorem dX11_layFar_26 : decode cX11_layFar 26 = .ok (.invokevirtual 217, 3) := by decide +kernel
theorem dX11_layFar_29 : decode cX11_layFar 29 = .ok (.aload_n 0, 1) := by decide +kernel
theorem dX11_layFar_30 : decode cX11_layFar 30 = .ok (.getfield 68, 3) := by decide +kernel
theorem dX11_layFar_33 : decode cX11_layFar 33 = .ok (.iconst 0, 1) := by decide +kernel
theorem dX11_layFar_34 : decode cX11_layFar 34 = .ok (.aload_n 0, 1) := by decide +kernel
theorem dX11_layFar_35 : decode cX11_layFar 35 = .ok (.invokevirtual 251, 3) := by decide +kernel
theorem dX11_layFar_38 : decode cX11_layFar 38 = .ok (.iastore, 1) := by decide +kernel
theorem dX11_layFar_39 : decode cX11_layFar 39 = .ok (.aload_n 0, 1) := by decide +kernel
theorem dX11_layFar_40 : decode cX11_layFar 40 = .ok (.getfield 65, 3) := by decide +kernel
theorem dX11_layFar_43 : decode cX11_layFar 43 = .ok (.aload_n 0, 1) := by decide +kernel
theorem dX11_layFar_44 : decode cX11_layFar 44 = .ok (.getfield 68, 3) := by decide +kernel
theorem dX11_layFar_47 : decode cX11_layFar 47 = .ok (.iconst 0, 1) := by decide +kernel
theorem dX11_layFar_48 : decode cX11_layFar 48 = .ok (.iaload, 1) := by decide +kernel
theorem dX11_layFar_49 : decode cX11_layFar 49 = .ok (.iconst 0, 1) := by decide +kernel
theorem dX11_layFar_50 : decode cX11_layFar 50 = .ok (.iastore, 1) := by decide +kernel
theorem dX11_layFar_51 : decode cX11_layFar 51 = .ok (.aload_n 0, 1) := by decide +kernel
theorem dX11_layFar_52 : decode cX11_layFar 52 = .ok (.iconst 1, 1) := by decide +kernel
theorem dX11_layFar_53 : decode cX11_layFar 53 = .ok (.putfield 269, 3) := by decide +kernel
theorem dX11_layFar_56 : decode cX11_layFar 56 = .ok (.iconst 0, 1) := by decide +kernel
theorem dX11_layFar_57 : decode cX11_layFar 57 = .ok (.istore_n 1, 1) := by decide +kernel
theorem dX11_layFar_58 : decode cX11_layFar 58 = .ok (.iload_n 1, 1) := by decide +kernel
theorem dX11_layFar_59 : decode cX11_layFar 59 = .ok (.aload_n 0, 1) := by decide +kernel
theorem dX11_layFar_60 : decode cX11_layFar 60 = .ok (.getfield 269, 3) := by decide +kernel
theorem dX11_layFar_63 : decode cX11_layFar 63 = .ok (.if_icmp .ge 146, 3) := by decide +kernel
theorem dX11_layFar_66 : decode cX11_layFar 66 = .ok (.aload_n 0, 1) := by decide +kernel
theorem dX11_layFar_67 : decode cX11_layFar 67 = .ok (.aload_n 0, 1) := by decide +kernel
theorem dX11_layFar_68 : decode cX11_layFar 68 = .ok (.getfield 68, 3) := by decide +kernel
theorem dX11_layFar_71 : decode cX11_layFar 71 = .ok (.iload_n 1, 1) := by decide +kernel
theorem dX11_layFar_72 : decode cX11_layFar 72 = .ok (.iaload, 1) := by decide +kernel
theorem dX11_layFar_73 : decode cX11_layFar 73 = .ok (.invokevirtual 255, 3) := by decide +kernel
theorem dX11_layFar_76 : decode cX11_layFar 76 = .ok (.iconst 0, 1) := by decide +kernel
theorem dX11_layFar_77 : decode cX11_layFar 77 = .ok (.istore_n 2, 1) := by decide +kernel
theorem dX11_layFar_78 : decode cX11_layFar 78 = .ok (.iload_n 2, 1) := by decide +kernel
theorem dX11_layFar_79 : decode cX11_layFar 79 = .ok (.bipush 7, 2) := by decide +kernel
theorem dX11_layFar_81 : decode cX11_layFar 81 = .ok (.aload_n 0, 1) := by decide +kernel
theorem dX11_layFar_82 : decode cX11_layFar 82 = .ok (.getfield 181, 3) := by decide +kernel
theorem dX11_layFar_85 : decode cX11_layFar 85 = .ok (.imul, 1) := by decide +kernel
theorem dX11_layFar_86 : decode cX11_layFar 86 = .ok (.if_icmp .ge 117, 3) := by decide +kernel
theorem dX11_layFar_89 : decode cX11_layFar 89 = .ok (.aload_n 0, 1) := by decide +kernel
theorem dX11_layFar_90 : decode cX11_layFar 90 = .ok (.iload_n 2, 1) := by decide +kernel
theorem dX11_layFar_91 : decode cX11_layFar 91 = .ok (.bipush 7, 2) := by decide +kernel
theorem dX11_layFar_93 : decode cX11_layFar 93 = .ok (.idiv, 1) := by decide +kernel
theorem dX11_layFar_94 : decode cX11_layFar 94 = .ok (.iload_n 2, 1) := by decide +kernel
theorem dX11_layFar_95 : decode cX11_layFar 95 = .ok (.bipush 7, 2) := by decide +kernel
theorem dX11_layFar_97 : decode cX11_layFar 97 = .ok (.irem, 1) := by decide +kernel
theorem dX11_layFar_98 : decode cX11_layFar 98 = .ok (.invokevirtual 241, 3) := by decide +kernel
theorem dX11_layFar_101 : decode cX11_layFar 101 = .ok (.ifCond .eq 96, 3) := by decide +kernel
theorem dX11_layFar_104 : decode cX11_layFar 104 = .ok (.aload_n 0, 1) := by decide +kernel
theorem dX11_layFar_105 : decode cX11_layFar 105 = .ok (.getfield 50, 3) := by decide +kernel
theorem dX11_layFar_108 : decode cX11_layFar 108 = .ok (.iload_n 2, 1) := by decide +kernel
theorem dX11_layFar_109 : decode cX11_layFar 109 = .ok (.bipush 7, 2) := by decide +kernel
theorem dX11_layFar_111 : decode cX11_layFar 111 = .ok (.idiv, 1) := by decide +kernel
theorem dX11_layFar_112 : decode cX11_layFar 112 = .ok (.iaload, 1) := by decide +kernel
theorem dX11_layFar_113 : decode cX11_layFar 113 = .ok (.istore_n 3, 1) := by decide +kernel
theorem dX11_layFar_114 : decode cX11_layFar 114 = .ok (.aload_n 0, 1) := by decide +kernel
theorem dX11_layFar_115 : decode cX11_layFar 115 = .ok (.getfield 50, 3) := by decide +kernel
theorem dX11_layFar_118 : decode cX11_layFar 118 = .ok (.iload_n 2, 1) := by decide +kernel
theorem dX11_layFar_119 : decode cX11_layFar 119 = .ok (.bipush 7, 2) := by decide +kernel
theorem dX11_layFar_121 : decode cX11_layFar 121 = .ok (.idiv, 1) := by decide +kernel
theorem dX11_layFar_122 : decode cX11_layFar 122 = .ok (.iload_n 2, 1) := by decide +kernel
theorem dX11_layFar_123 : decode cX11_layFar 123 = .ok (.bipush 7, 2) := by decide +kernel
theorem dX11_layFar_125 : decode cX11_layFar 125 = .ok (.irem, 1) := by decide +kernel
theorem dX11_layFar_126 : decode cX11_layFar 126 = .ok (.iastore, 1) := by decide +kernel
theorem dX11_layFar_127 : decode cX11_layFar 127 = .ok (.aload_n 0, 1) := by decide +kernel
theorem dX11_layFar_128 : decode cX11_layFar 128 = .ok (.invokevirtual 251, 3) := by decide +kernel
theorem dX11_layFar_131 : decode cX11_layFar 131 = .ok (.istore 4, 2) := by decide +kernel
theorem dX11_layFar_133 : decode cX11_layFar 133 = .ok (.aload_n 0, 1) := by decide +kernel
theorem dX11_layFar_134 : decode cX11_layFar 134 = .ok (.getfield 50, 3) := by decide +kernel
theorem dX11_layFar_137 : decode cX11_layFar 137 = .ok (.iload_n 2, 1) := by decide +kernel
theorem dX11_layFar_138 : decode cX11_layFar 138 = .ok (.bipush 7, 2) := by decide +kernel
theorem dX11_layFar_140 : decode cX11_layFar 140 = .ok (.idiv, 1) := by decide +kernel
theorem dX11_layFar_141 : decode cX11_layFar 141 = .ok (.iload_n 3, 1) := by decide +kernel
theorem dX11_layFar_142 : decode cX11_layFar 142 = .ok (.iastore, 1) := by decide +kernel
theorem dX11_layFar_143 : decode cX11_layFar 143 = .ok (.aload_n 0, 1) := by decide +kernel
theorem dX11_layFar_144 : decode cX11_layFar 144 = .ok (.getfield 65, 3) := by decide +kernel
theorem dX11_layFar_147 : decode cX11_layFar 147 = .ok (.iload 4, 2) := by decide +kernel
theorem dX11_layFar_149 : decode cX11_layFar 149 = .ok (.iaload, 1) := by decide +kernel
theorem dX11_layFar_150 : decode cX11_layFar 150 = .ok (.ldc_w 268, 3) := by decide +kernel
theorem dX11_layFar_153 : decode cX11_layFar 153 = .ok (.if_icmp .ne 44, 3) := by decide +kernel
theorem dX11_layFar_156 : decode cX11_layFar 156 = .ok (.aload_n 0, 1) := by decide +kernel
theorem dX11_layFar_157 : decode cX11_layFar 157 = .ok (.getfield 65, 3) := by decide +kernel
theorem dX11_layFar_160 : decode cX11_layFar 160 = .ok (.iload 4, 2) := by decide +kernel
theorem dX11_layFar_162 : decode cX11_layFar 162 = .ok (.aload_n 0, 1) := by decide +kernel
theorem dX11_layFar_163 : decode cX11_layFar 163 = .ok (.getfield 65, 3) := by decide +kernel
theorem dX11_layFar_166 : decode cX11_layFar 166 = .ok (.aload_n 0, 1) := by decide +kernel
theorem dX11_layFar_167 : decode cX11_layFar 167 = .ok (.getfield 68, 3) := by decide +kernel
theorem dX11_layFar_170 : decode cX11_layFar 170 = .ok (.iload_n 1, 1) := by decide +kernel
theorem dX11_layFar_171 : decode cX11_layFar 171 = .ok (.iaload, 1) := by decide +kernel
theorem dX11_layFar_172 : decode cX11_layFar 172 = .ok (.iaload, 1) := by decide +kernel
theorem dX11_layFar_173 : decode cX11_layFar 173 = .ok (.iconst 1, 1) := by decide +kernel
theorem dX11_layFar_174 : decode cX11_layFar 174 = .ok (.iadd, 1) := by decide +kernel
theorem dX11_layFar_175 : decode cX11_layFar 175 = .ok (.iastore, 1) := by decide +kernel
theorem dX11_layFar_176 : decode cX11_layFar 176 = .ok (.aload_n 0, 1) := by decide +kernel
theorem dX11_layFar_177 : decode cX11_layFar 177 = .ok (.getfield 68, 3) := by decide +kernel
theorem dX11_layFar_180 : decode cX11_layFar 180 = .ok (.aload_n 0, 1) := by decide +kernel
theorem dX11_layFar_181 : decode cX11_layFar 181 = .ok (.getfield 269, 3) := by decide +kernel
theorem dX11_layFar_184 : decode cX11_layFar 184 = .ok (.iload 4, 2) := by decide +kernel
theorem dX11_layFar_186 : decode cX11_layFar 186 = .ok (.iastore, 1) := by decide +kernel
theorem dX11_layFar_187 : decode cX11_layFar 187 = .ok (.aload_n 0, 1) := by decide +kernel
theorem dX11_layFar_188 : decode cX11_layFar 188 = .ok (.dup, 1) := by decide +kernel
theorem dX11_layFar_189 : decode cX11_layFar 189 = .ok (.getfield 269, 3) := by decide +kernel
theorem dX11_layFar_192 : decode cX11_layFar 192 = .ok (.iconst 1, 1) := by decide +kernel
theorem dX11_layFar_193 : decode cX11_layFar 193 = .ok (.iadd, 1) := by decide +kernel
theorem dX11_layFar_194 : decode cX11_layFar 194 = .ok (.putfield 269, 3) := by decide +kernel
theorem dX11_layFar_197 : decode cX11_layFar 197 = .ok (.iinc 2 1, 3) := by decide +kernel
theorem dX11_layFar_200 : decode cX11_layFar 200 = .ok (.goto (-122), 3) := by decide +kernel
theorem dX11_layFar_203 : decode cX11_layFar 203 = .ok (.iinc 1 1, 3) := by decide +kernel
theorem dX11_layFar_206 : decode cX11_layFar 206 = .ok (.goto (-148), 3) := by decide +kernel
theorem dX11_layFar_209 : decode cX11_layFar 209 = .ok (.return_, 1) := by decide +kernel
theorem dX11_isWanted_0 : decode cX11_isWanted 0 = .ok (.iconst 1, 1) := by decide +kernel
theorem dX11_isWanted_1 : decode cX11_isWanted 1 = .ok (.istore_n 2, 1) := by decide +kernel
theorem dX11_isWanted_2 : decode cX11_isWanted 2 = .ok (.iconst 0, 1) := by decide +kernel
theorem dX11_isWanted_3 : decode cX11_isWanted 3 = .ok (.istore_n 3, 1) := by decide +kernel
theorem dX11_isWanted_4 : decode cX11_isWanted 4 = .ok (.iload_n 3, 1) := by decide +kernel
theorem dX11_isWanted_5 : decode cX11_isWanted 5 = .ok (.aload_n 0, 1) := by decide +kernel
theorem dX11_isWanted_6 : decode cX11_isWanted 6 = .ok (.getfield 181, 3) := by decide +kernel
theorem dX11_isWanted_9 : decode cX11_isWanted 9 = .ok (.if_icmp .ge 43, 3) := by decide +kernel
theorem dX11_isWanted_12 : decode cX11_isWanted 12 = .ok (.iload_n 2, 1) := by decide +kernel
theorem dX11_isWanted_13 : decode cX11_isWanted 13 = .ok (.ifCond .eq 31, 3) := by decide +kernel
theorem dX11_isWanted_16 : decode cX11_isWanted 16 = .ok (.aload_n 0, 1) := by decide +kernel
theorem dX11_isWanted_17 : decode cX11_isWanted 17 = .ok (.iload_n 1, 1) := by decide +kernel
theorem dX11_isWanted_18 : decode cX11_isWanted 18 = .ok (.iload_n 3, 1) := by decide +kernel
theorem dX11_isWanted_19 : decode cX11_isWanted 19 = .ok (.invokevirtual 116, 3) := by decide +kernel
theorem dX11_isWanted_22 : decode cX11_isWanted 22 = .ok (.iconst (-1), 1) := by decide +kernel
theorem dX11_isWanted_23 : decode cX11_isWanted 23 = .ok (.if_icmp .eq 17, 3) := by decide +kernel
theorem dX11_isWanted_26 : decode cX11_isWanted 26 = .ok (.aload_n 0, 1) := by decide +kernel
theorem dX11_isWanted_27 : decode cX11_isWanted 27 = .ok (.iload_n 3, 1) := by decide +kernel
theorem dX11_isWanted_28 : decode cX11_isWanted 28 = .ok (.invokevirtual 199, 3) := by decide +kernel
theorem dX11_isWanted_31 : decode cX11_isWanted 31 = .ok (.aload_n 0, 1) := by decide +kernel
theorem dX11_isWanted_32 : decode cX11_isWanted 32 = .ok (.iload_n 1, 1) := by decide +kernel
theorem dX11_isWanted_33 : decode cX11_isWanted 33 = .ok (.iload_n 3, 1) := by decide +kernel
theorem dX11_isWanted_34 : decode cX11_isWanted 34 = .ok (.invokevirtual 116, 3) := by decide +kernel
theorem dX11_isWanted_37 : decode cX11_isWanted 37 = .ok (.if_icmp .ne 7, 3) := by decide +kernel
theorem dX11_isWanted_40 : decode cX11_isWanted 40 = .ok (.iconst 1, 1) := by decide +kernel
theorem dX11_isWanted_41 : decode cX11_isWanted 41 = .ok (.goto 4, 3) := by decide +kernel
theorem dX11_isWanted_44 : decode cX11_isWanted 44 = .ok (.iconst 0, 1) := by decide +kernel
theorem dX11_isWanted_45 : decode cX11_isWanted 45 = .ok (.istore_n 2, 1) := by decide +kernel
theorem dX11_isWanted_46 : decode cX11_isWanted 46 = .ok (.iinc 3 1, 3) := by decide +kernel
theorem dX11_isWanted_49 : decode cX11_isWanted 49 = .ok (.goto (-45), 3) := by decide +kernel
theorem dX11_isWanted_52 : decode cX11_isWanted 52 = .ok (.iload_n 2, 1) := by decide +kernel
theorem dX11_isWanted_53 : decode cX11_isWanted 53 = .ok (.ireturn, 1) := by decide +kernel
theorem dX11_needWanted_0 : decode cX11_needWanted 0 = .ok (.aload_n 0, 1) := by decide +kernel
theorem dX11_needWanted_1 : decode cX11_needWanted 1 = .ok (.getfield 13, 3) := by decide +kernel
theorem dX11_needWanted_4 : decode cX11_needWanted 4 = .ok (.iload_n 1, 1) := by decide +kernel
theorem dX11_needWanted_5 : decode cX11_needWanted 5 = .ok (.iaload, 1) := by decide +kernel
theorem dX11_needWanted_6 : decode cX11_needWanted 6 = .ok (.ifCond .ge 9, 3) := by decide +kernel
theorem dX11_needWanted_9 : decode cX11_needWanted 9 = .ok (.aload_n 0, 1) := by decide +kernel
theorem dX11_needWanted_10 : decode cX11_needWanted 10 = .ok (.iconst 1, 1) := by decide +kernel
theorem dX11_needWanted_11 : decode cX11_needWanted 11 = .ok (.invokevirtual 112, 3) := by decide +kernel
theorem dX11_needWanted_14 : decode cX11_needWanted 14 = .ok (.ireturn, 1) := by decide +kernel
theorem dX11_needWanted_15 : decode cX11_needWanted 15 = .ok (.aload_n 0, 1) := by decide +kernel
theorem dX11_needWanted_16 : decode cX11_needWanted 16 = .ok (.getfield 13, 3) := by decide +kernel
theorem dX11_needWanted_19 : decode cX11_needWanted 19 = .ok (.iload_n 1, 1) := by decide +kernel
theorem dX11_needWanted_20 : decode cX11_needWanted 20 = .ok (.iaload, 1) := by decide +kernel
theorem dX11_needWanted_21 : decode cX11_needWanted 21 = .ok (.aload_n 0, 1) := by decide +kernel
theorem dX11_needWanted_22 : decode cX11_needWanted 22 = .ok (.getfield 181, 3) := by decide +kernel
theorem dX11_needWanted_25 : decode cX11_needWanted 25 = .ok (.if_icmp .eq 9, 3) := by decide +kernel
theorem dX11_needWanted_28 : decode cX11_needWanted 28 = .ok (.aload_n 0, 1) := by decide +kernel
theorem dX11_needWanted_29 : decode cX11_needWanted 29 = .ok (.iconst 5, 1) := by decide +kernel
theorem dX11_needWanted_30 : decode cX11_needWanted 30 = .ok (.invokevirtual 112, 3) := by decide +kernel
theorem dX11_needWanted_33 : decode cX11_needWanted 33 = .ok (.ireturn, 1) := by decide +kernel
theorem dX11_needWanted_34 : decode cX11_needWanted 34 = .ok (.iconst 1, 1) := by decide +kernel
theorem dX11_needWanted_35 : decode cX11_needWanted 35 = .ok (.istore_n 2, 1) := by decide +kernel
theorem dX11_needWanted_36 : decode cX11_needWanted 36 = .ok (.iconst 0, 1) := by decide +kernel
theorem dX11_needWanted_37 : decode cX11_needWanted 37 = .ok (.istore_n 3, 1) := by decide +kernel
theorem dX11_needWanted_38 : decode cX11_needWanted 38 = .ok (.iload_n 3, 1) := by decide +kernel
theorem dX11_needWanted_39 : decode cX11_needWanted 39 = .ok (.aload_n 0, 1) := by decide +kernel
theorem dX11_needWanted_40 : decode cX11_needWanted 40 = .ok (.getfield 181, 3) := by decide +kernel
theorem dX11_needWanted_43 : decode cX11_needWanted 43 = .ok (.if_icmp .ge 52, 3) := by decide +kernel
theorem dX11_needWanted_46 : decode cX11_needWanted 46 = .ok (.iload_n 2, 1) := by decide +kernel
theorem dX11_needWanted_47 : decode cX11_needWanted 47 = .ok (.ifCond .eq 40, 3) := by decide +kernel
theorem dX11_needWanted_50 : decode cX11_needWanted 50 = .ok (.aload_n 0, 1) := by decide +kernel
theorem dX11_needWanted_51 : decode cX11_needWanted 51 = .ok (.aload_n 0, 1) := by decide +kernel
theorem dX11_needWanted_52 : decode cX11_needWanted 52 = .ok (.iload_n 1, 1) := by decide +kernel
theorem dX11_needWanted_53 : decode cX11_needWanted 53 = .ok (.iload_n 3, 1) := by decide +kernel
theorem dX11_needWanted_54 : decode cX11_needWanted 54 = .ok (.invokevirtual 116, 3) := by decide +kernel
theorem dX11_needWanted_57 : decode cX11_needWanted 57 = .ok (.invokevirtual 196, 3) := by decide +kernel
theorem dX11_needWanted_60 : decode cX11_needWanted 60 = .ok (.ifCond .ne 23, 3) := by decide +kernel
theorem dX11_needWanted_63 : decode cX11_needWanted 63 = .ok (.aload_n 0, 1) := by decide +kernel
theorem dX11_needWanted_64 : decode cX11_needWanted 64 = .ok (.iload_n 1, 1) := by decide +kernel
theorem dX11_needWanted_65 : decode cX11_needWanted 65 = .ok (.iload_n 3, 1) := by decide +kernel
theorem dX11_needWanted_66 : decode cX11_needWanted 66 = .ok (.invokevirtual 116, 3) := by decide +kernel
theorem dX11_needWanted_69 : decode cX11_needWanted 69 = .ok (.iconst 4, 1) := by decide +kernel
theorem dX11_needWanted_70 : decode cX11_needWanted 70 = .ok (.if_icmp .eq 13, 3) := by decide +kernel
theorem dX11_needWanted_73 : decode cX11_needWanted 73 = .ok (.aload_n 0, 1) := by decide +kernel
theorem dX11_needWanted_74 : decode cX11_needWanted 74 = .ok (.iload_n 1, 1) := by decide +kernel
theorem dX11_needWanted_75 : decode cX11_needWanted 75 = .ok (.iload_n 3, 1) := by decide +kernel
theorem dX11_needWanted_76 : decode cX11_needWanted 76 = .ok (.invokevirtual 116, 3) := by decide +kernel
theorem dX11_needWanted_79 : decode cX11_needWanted 79 = .ok (.iconst (-1), 1) := by decide +kernel
theorem dX11_needWanted_80 : decode cX11_needWanted 80 = .ok (.if_icmp .ne 7, 3) := by decide +kernel
theorem dX11_needWanted_83 : decode cX11_needWanted 83 = .ok (.iconst 1, 1) := by decide +kernel
theorem dX11_needWanted_84 : decode cX11_needWanted 84 = .ok (.goto 4, 3) := by decide +kernel
theorem dX11_needWanted_87 : decode cX11_needWanted 87 = .ok (.iconst 0, 1) := by decide +kernel
theorem dX11_needWanted_88 : decode cX11_needWanted 88 = .ok (.istore_n 2, 1) := by decide +kernel
theorem dX11_needWanted_89 : decode cX11_needWanted 89 = .ok (.iinc 3 1, 3) := by decide +kernel
theorem dX11_needWanted_92 : decode cX11_needWanted 92 = .ok (.goto (-54), 3) := by decide +kernel
theorem dX11_needWanted_95 : decode cX11_needWanted 95 = .ok (.iload_n 2, 1) := by decide +kernel
theorem dX11_needWanted_96 : decode cX11_needWanted 96 = .ok (.ifCond .eq 7, 3) := by decide +kernel
theorem dX11_needWanted_99 : decode cX11_needWanted 99 = .ok (.iconst 0, 1) := by decide +kernel
theorem dX11_needWanted_100 : decode cX11_needWanted 100 = .ok (.goto 8, 3) := by decide +kernel
theorem dX11_needWanted_103 : decode cX11_needWanted 103 = .ok (.aload_n 0, 1) := by decide +kernel
theorem dX11_needWanted_104 : decode cX11_needWanted 104 = .ok (.iconst 3, 1) := by decide +kernel
theorem dX11_needWanted_105 : decode cX11_needWanted 105 = .ok (.invokevirtual 112, 3) := by decide +kernel
theorem dX11_needWanted_108 : decode cX11_needWanted 108 = .ok (.ireturn, 1) := by decide +kernel
theorem dX11_nearest_0 : decode cX11_nearest 0 = .ok (.aload_n 0, 1) := by decide +kernel
theorem dX11_nearest_1 : decode cX11_nearest 1 = .ok (.invokevirtual 272, 3) := by decide +kernel
theorem dX11_nearest_4 : decode cX11_nearest 4 = .ok (.bipush (-9), 2) := by decide +kernel
theorem dX11_nearest_6 : decode cX11_nearest 6 = .ok (.istore_n 2, 1) := by decide +kernel
theorem dX11_nearest_7 : decode cX11_nearest 7 = .ok (.aload_n 0, 1) := by decide +kernel
theorem dX11_nearest_8 : decode cX11_nearest 8 = .ok (.iconst 0, 1) := by decide +kernel
theorem dX11_nearest_9 : decode cX11_nearest 9 = .ok (.putfield 275, 3) := by decide +kernel
theorem dX11_nearest_12 : decode cX11_nearest 12 = .ok (.iconst 0, 1) := by decide +kernel
theorem dX11_nearest_13 : decode cX11_nearest 13 = .ok (.istore_n 3, 1) := by decide +kernel
theorem dX11_nearest_14 : decode cX11_nearest 14 = .ok (.iload_n 3, 1) := by decide +kernel
theorem dX11_nearest_15 : decode cX11_nearest 15 = .ok (.aload_n 0, 1) := by decide +kernel
theorem dX11_nearest_16 : decode cX11_nearest 16 = .ok (.getfield 269, 3) := by decide +kernel
theorem dX11_nearest_19 : decode cX11_nearest 19 = .ok (.if_icmp .ge 65, 3) := by decide +kernel
theorem dX11_nearest_22 : decode cX11_nearest 22 = .ok (.aload_n 0, 1) := by decide +kernel
theorem dX11_nearest_23 : decode cX11_nearest 23 = .ok (.getfield 65, 3) := by decide +kernel
theorem dX11_nearest_26 : decode cX11_nearest 26 = .ok (.aload_n 0, 1) := by decide +kernel
theorem dX11_nearest_27 : decode cX11_nearest 27 = .ok (.getfield 68, 3) := by decide +kernel
theorem dX11_nearest_30 : decode cX11_nearest 30 = .ok (.iload_n 3, 1) := by decide +kernel
theorem dX11_nearest_31 : decode cX11_nearest 31 = .ok (.iaload, 1) := by decide +kernel
theorem dX11_nearest_32 : decode cX11_nearest 32 = .ok (.iaload, 1) := by decide +kernel
theorem dX11_nearest_33 : decode cX11_nearest 33 = .ok (.istore 4, 2) := by decide +kernel
theorem dX11_nearest_35 : decode cX11_nearest 35 = .ok (.aload_n 0, 1) := by decide +kernel
theorem dX11_nearest_36 : decode cX11_nearest 36 = .ok (.aload_n 0, 1) := by decide +kernel
theorem dX11_nearest_37 : decode cX11_nearest 37 = .ok (.getfield 68, 3) := by decide +kernel
theorem dX11_nearest_40 : decode cX11_nearest 40 = .ok (.iload_n 3, 1) := by decide +kernel
theorem dX11_nearest_41 : decode cX11_nearest 41 = .ok (.iaload, 1) := by decide +kernel
theorem dX11_nearest_42 : decode cX11_nearest 42 = .ok (.invokevirtual 255, 3) := by decide +kernel
theorem dX11_nearest_45 : decode cX11_nearest 45 = .ok (.iload_n 2, 1) := by decide +kernel
theorem dX11_nearest_46 : decode cX11_nearest 46 = .ok (.bipush (-9), 2) := by decide +kernel
theorem dX11_nearest_48 : decode cX11_nearest 48 = .ok (.if_icmp .eq 9, 3) := by decide +kernel
theorem dX11_nearest_51 : decode cX11_nearest 51 = .ok (.iload 4, 2) := by decide +kernel
theorem dX11_nearest_53 : decode cX11_nearest 53 = .ok (.iload_n 2, 1) := by decide +kernel
theorem dX11_nearest_54 : decode cX11_nearest 54 = .ok (.if_icmp .ne 24, 3) := by decide +kernel
theorem dX11_nearest_57 : decode cX11_nearest 57 = .ok (.aload_n 0, 1) := by decide +kernel
theorem dX11_nearest_58 : decode cX11_nearest 58 = .ok (.iload_n 1, 1) := by decide +kernel
theorem dX11_nearest_59 : decode cX11_nearest 59 = .ok (.invokevirtual 278, 3) := by decide +kernel
theorem dX11_nearest_62 : decode cX11_nearest 62 = .ok (.ifCond .eq 16, 3) := by decide +kernel
theorem dX11_nearest_65 : decode cX11_nearest 65 = .ok (.iload 4, 2) := by decide +kernel
theorem dX11_nearest_67 : decode cX11_nearest 67 = .ok (.istore_n 2, 1) := by decide +kernel
theorem dX11_nearest_68 : decode cX11_nearest 68 = .ok (.aload_n 0, 1) := by decide +kernel
theorem dX11_nearest_69 : decode cX11_nearest 69 = .ok (.dup, 1) := by decide +kernel
theorem dX11_nearest_70 : decode cX11_nearest 70 = .ok (.getfield 275, 3) := by decide +kernel
theorem dX11_nearest_73 : decode cX11_nearest 73 = .ok (.iconst 1, 1) := by decide +kernel
theorem dX11_nearest_74 : decode cX11_nearest 74 = .ok (.iadd, 1) := by decide +kernel
theorem dX11_nearest_75 : decode cX11_nearest 75 = .ok (.putfield 275, 3) := by decide +kernel
theorem dX11_nearest_78 : decode cX11_nearest 78 = .ok (.iinc 3 1, 3) := by decide +kernel
theorem dX11_nearest_81 : decode cX11_nearest 81 = .ok (.goto (-67), 3) := by decide +kernel
theorem dX11_nearest_84 : decode cX11_nearest 84 = .ok (.iload_n 2, 1) := by decide +kernel
theorem dX11_nearest_85 : decode cX11_nearest 85 = .ok (.ireturn, 1) := by decide +kernel
theorem dX11_fewest_0 : decode cX11_fewest 0 = .ok (.iload_n 1, 1) := by decide +kernel
theorem dX11_fewest_1 : decode cX11_fewest 1 = .ok (.invokestatic 108, 3) := by decide +kernel
theorem dX11_fewest_4 : decode cX11_fewest 4 = .ok (.ifCond .ne 5, 3) := by decide +kernel
theorem dX11_fewest_7 : decode cX11_fewest 7 = .ok (.iconst (-1), 1) := by decide +kernel
theorem dX11_fewest_8 : decode cX11_fewest 8 = .ok (.ireturn, 1) := by decide +kernel
theorem dX11_fewest_9 : decode cX11_fewest 9 = .ok (.aload_n 0, 1) := by decide +kernel
theorem dX11_fewest_10 : decode cX11_fewest 10 = .ok (.iload_n 1, 1) := by decide +kernel
theorem dX11_fewest_11 : decode cX11_fewest 11 = .ok (.invokevirtual 281, 3) := by decide +kernel
theorem dX11_fewest_14 : decode cX11_fewest 14 = .ok (.istore_n 2, 1) := by decide +kernel
theorem dX11_fewest_15 : decode cX11_fewest 15 = .ok (.iload_n 2, 1) := by decide +kernel
theorem dX11_fewest_16 : decode cX11_fewest 16 = .ok (.ifCond .ge 5, 3) := by decide +kernel
theorem dX11_fewest_19 : decode cX11_fewest 19 = .ok (.iload_n 2, 1) := by decide +kernel
theorem dX11_fewest_20 : decode cX11_fewest 20 = .ok (.ireturn, 1) := by decide +kernel
theorem dX11_fewest_21 : decode cX11_fewest 21 = .ok (.aload_n 0, 1) := by decide +kernel
theorem dX11_fewest_22 : decode cX11_fewest 22 = .ok (.iload_n 1, 1) := by decide +kernel
theorem dX11_fewest_23 : decode cX11_fewest 23 = .ok (.invokevirtual 284, 3) := by decide +kernel
theorem dX11_fewest_26 : decode cX11_fewest 26 = .ok (.istore_n 3, 1) := by decide +kernel
theorem dX11_fewest_27 : decode cX11_fewest 27 = .ok (.iload_n 3, 1) := by decide +kernel
theorem dX11_fewest_28 : decode cX11_fewest 28 = .ok (.bipush (-9), 2) := by decide +kernel
theorem dX11_fewest_30 : decode cX11_fewest 30 = .ok (.if_icmp .ne 8, 3) := by decide +kernel
theorem dX11_fewest_33 : decode cX11_fewest 33 = .ok (.bipush (-9), 2) := by decide +kernel
theorem dX11_fewest_35 : decode cX11_fewest 35 = .ok (.goto 12, 3) := by decide +kernel
theorem dX11_fewest_38 : decode cX11_fewest 38 = .ok (.aload_n 0, 1) := by decide +kernel
theorem dX11_fewest_39 : decode cX11_fewest 39 = .ok (.aload_n 0, 1) := by decide +kernel
theorem dX11_fewest_40 : decode cX11_fewest 40 = .ok (.getfield 275, 3) := by decide +kernel
theorem dX11_fewest_43 : decode cX11_fewest 43 = .ok (.iload_n 3, 1) := by decide +kernel
theorem dX11_fewest_44 : decode cX11_fewest 44 = .ok (.invokevirtual 120, 3) := by decide +kernel
theorem dX11_fewest_47 : decode cX11_fewest 47 = .ok (.ireturn, 1) := by decide +kernel
theorem dX11_leadingStep_0 : decode cX11_leadingStep 0 = .ok (.aload_n 0, 1) := by decide +kernel
theorem dX11_leadingStep_1 : decode cX11_leadingStep 1 = .ok (.getfield 65, 3) := by decide +kernel
theorem dX11_leadingStep_4 : decode cX11_leadingStep 4 = .ok (.aload_n 0, 1) := by decide +kernel
theorem dX11_leadingStep_5 : decode cX11_leadingStep 5 = .ok (.invokevirtual 251, 3) := by decide +kernel
theorem dX11_leadingStep_8 : decode cX11_leadingStep 8 = .ok (.iaload, 1) := by decide +kernel
theorem dX11_leadingStep_9 : decode cX11_leadingStep 9 = .ok (.istore_n 1, 1) := by decide +kernel
theorem dX11_leadingStep_10 : decode cX11_leadingStep 10 = .ok (.iconst 0, 1) := by decide +kernel
theorem dX11_leadingStep_11 : decode cX11_leadingStep 11 = .ok (.istore_n 2, 1) := by decide +kernel
theorem dX11_leadingStep_12 : decode cX11_leadingStep 12 = .ok (.iload_n 2, 1) := by decide +kernel
theorem dX11_leadingStep_13 : decode cX11_leadingStep 13 = .ok (.bipush 7, 2) := by decide +kernel
theorem dX11_leadingStep_15 : decode cX11_leadingStep 15 = .ok (.aload_n 0, 1) := by decide +kernel
theorem dX11_leadingStep_16 : decode cX11_leadingStep 16 = .ok (.getfield 181, 3) := by decide +kernel
theorem dX11_leadingStep_19 : decode cX11_leadingStep 19 = .ok (.imul, 1) := by decide +kernel
theorem dX11_leadingStep_20 : decode cX11_leadingStep 20 = .ok (.if_icmp .ge 88, 3) := by decide +kernel
theorem dX11_leadingStep_23 : decode cX11_leadingStep 23 = .ok (.aload_n 0, 1) := by decide +kernel
theorem dX11_leadingStep_24 : decode cX11_leadingStep 24 = .ok (.iload_n 2, 1) := by decide +kernel
theorem dX11_leadingStep_25 : decode cX11_leadingStep 25 = .ok (.bipush 7, 2) := by decide +kernel
theorem dX11_leadingStep_27 : decode cX11_leadingStep 27 = .ok (.idiv, 1) := by decide +kernel
theorem dX11_leadingStep_28 : decode cX11_leadingStep 28 = .ok (.iload_n 2, 1) := by decide +kernel
theorem dX11_leadingStep_29 : decode cX11_leadingStep 29 = .ok (.bipush 7, 2) := by decide +kernel
theorem dX11_leadingStep_31 : decode cX11_leadingStep 31 = .ok (.irem, 1) := by decide +kernel
theorem dX11_leadingStep_32 : decode cX11_leadingStep 32 = .ok (.invokevirtual 241, 3) := by decide +kernel
theorem dX11_leadingStep_35 : decode cX11_leadingStep 35 = .ok (.ifCond .eq 67, 3) := by decide +kernel
theorem dX11_leadingStep_38 : decode cX11_leadingStep 38 = .ok (.aload_n 0, 1) := by decide +kernel
theorem dX11_leadingStep_39 : decode cX11_leadingStep 39 = .ok (.getfield 50, 3) := by decide +kernel
theorem dX11_leadingStep_42 : decode cX11_leadingStep 42 = .ok (.iload_n 2, 1) := by decide +kernel
theorem dX11_leadingStep_43 : decode cX11_leadingStep 43 = .ok (.bipush 7, 2) := by decide +kernel
theorem dX11_leadingStep_45 : decode cX11_leadingStep 45 = .ok (.idiv, 1) := by decide +kernel
theorem dX11_leadingStep_46 : decode cX11_leadingStep 46 = .ok (.iaload, 1) := by decide +kernel
theorem dX11_leadingStep_47 : decode cX11_leadingStep 47 = .ok (.istore_n 3, 1) := by decide +kernel
theorem dX11_leadingStep_48 : decode cX11_leadingStep 48 = .ok (.aload_n 0, 1) := by decide +kernel
theorem dX11_leadingStep_49 : decode cX11_leadingStep 49 = .ok (.getfield 50, 3) := by decide +kernel
theorem dX11_leadingStep_52 : decode cX11_leadingStep 52 = .ok (.iload_n 2, 1) := by decide +kernel
theorem dX11_leadingStep_53 : decode cX11_leadingStep 53 = .ok (.bipush 7, 2) := by decide +kernel

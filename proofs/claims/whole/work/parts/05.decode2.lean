theorem dX3_carryOut_93 : decode cX3_carryOut 93 = .ok (.aload_n 0, 1) := by decide +kernel
theorem dX3_carryOut_94 : decode cX3_carryOut 94 = .ok (.getfield 15, 3) := by decide +kernel
theorem dX3_carryOut_97 : decode cX3_carryOut 97 = .ok (.iconst 2, 1) := by decide +kernel
theorem dX3_carryOut_98 : decode cX3_carryOut 98 = .ok (.invokestatic 57, 3) := by decide +kernel
theorem dX3_carryOut_101 : decode cX3_carryOut 101 = .ok (.invokevirtual 80, 3) := by decide +kernel
theorem dX3_carryOut_104 : decode cX3_carryOut 104 = .ok (.ireturn, 1) := by decide +kernel
theorem dX3_carryOut_105 : decode cX3_carryOut 105 = .ok (.aload_n 2, 1) := by decide +kernel
theorem dX3_carryOut_106 : decode cX3_carryOut 106 = .ok (.iload 4, 2) := by decide +kernel
theorem dX3_carryOut_108 : decode cX3_carryOut 108 = .ok (.invokevirtual 83, 3) := by decide +kernel
theorem dX3_carryOut_111 : decode cX3_carryOut 111 = .ok (.ireturn, 1) := by decide +kernel
theorem dX3_carryOut_112 : decode cX3_carryOut 112 = .ok (.aload_n 2, 1) := by decide +kernel
theorem dX3_carryOut_113 : decode cX3_carryOut 113 = .ok (.iload 4, 2) := by decide +kernel
theorem dX3_carryOut_115 : decode cX3_carryOut 115 = .ok (.aload_n 3, 1) := by decide +kernel
theorem dX3_carryOut_116 : decode cX3_carryOut 116 = .ok (.invokevirtual 86, 3) := by decide +kernel
theorem dX3_carryOut_119 : decode cX3_carryOut 119 = .ok (.ireturn, 1) := by decide +kernel
theorem dX4_init_0 : decode cX4_init 0 = .ok (.aload_n 0, 1) := by decide +kernel
theorem dX4_init_1 : decode cX4_init 1 = .ok (.invokespecial 3, 3) := by decide +kernel
theorem dX4_init_4 : decode cX4_init 4 = .ok (.aload_n 0, 1) := by decide +kernel
theorem dX4_init_5 : decode cX4_init 5 = .ok (.iconst 4, 1) := by decide +kernel
theorem dX4_init_6 : decode cX4_init 6 = .ok (.newarray .int, 2) := by decide +kernel
theorem dX4_init_8 : decode cX4_init 8 = .ok (.putfield 9, 3) := by decide +kernel
theorem dX4_init_11 : decode cX4_init 11 = .ok (.aload_n 0, 1) := by decide +kernel
theorem dX4_init_12 : decode cX4_init 12 = .ok (.iconst 4, 1) := by decide +kernel
theorem dX4_init_13 : decode cX4_init 13 = .ok (.newarray .int, 2) := by decide +kernel
theorem dX4_init_15 : decode cX4_init 15 = .ok (.putfield 15, 3) := by decide +kernel
theorem dX4_init_18 : decode cX4_init 18 = .ok (.aload_n 0, 1) := by decide +kernel
theorem dX4_init_19 : decode cX4_init 19 = .ok (.iconst 4, 1) := by decide +kernel
theorem dX4_init_20 : decode cX4_init 20 = .ok (.newarray .int, 2) := by decide +kernel
theorem dX4_init_22 : decode cX4_init 22 = .ok (.putfield 18, 3) := by decide +kernel
theorem dX4_init_25 : decode cX4_init 25 = .ok (.aload_n 0, 1) := by decide +kernel
theorem dX4_init_26 : decode cX4_init 26 = .ok (.bipush 32, 2) := by decide +kernel
theorem dX4_init_28 : decode cX4_init 28 = .ok (.newarray .int, 2) := by decide +kernel
theorem dX4_init_30 : decode cX4_init 30 = .ok (.putfield 21, 3) := by decide +kernel
theorem dX4_init_33 : decode cX4_init 33 = .ok (.aload_n 0, 1) := by decide +kernel
theorem dX4_init_34 : decode cX4_init 34 = .ok (.bipush 32, 2) := by decide +kernel
theorem dX4_init_36 : decode cX4_init 36 = .ok (.newarray .long, 2) := by decide +kernel
theorem dX4_init_38 : decode cX4_init 38 = .ok (.putfield 24, 3) := by decide +kernel
theorem dX4_init_41 : decode cX4_init 41 = .ok (.return_, 1) := by decide +kernel
theorem dX4_copy_0 : decode cX4_copy 0 = .ok (.aload_n 0, 1) := by decide +kernel
theorem dX4_copy_1 : decode cX4_copy 1 = .ok (.aload_n 1, 1) := by decide +kernel
theorem dX4_copy_2 : decode cX4_copy 2 = .ok (.getfield 28, 3) := by decide +kernel
theorem dX4_copy_5 : decode cX4_copy 5 = .ok (.putfield 28, 3) := by decide +kernel
theorem dX4_copy_8 : decode cX4_copy 8 = .ok (.aload_n 1, 1) := by decide +kernel
theorem dX4_copy_9 : decode cX4_copy 9 = .ok (.getfield 9, 3) := by decide +kernel
theorem dX4_copy_12 : decode cX4_copy 12 = .ok (.aload_n 0, 1) := by decide +kernel
theorem dX4_copy_13 : decode cX4_copy 13 = .ok (.getfield 9, 3) := by decide +kernel
theorem dX4_copy_16 : decode cX4_copy 16 = .ok (.invokestatic 32, 3) := by decide +kernel
theorem dX4_copy_19 : decode cX4_copy 19 = .ok (.aload_n 1, 1) := by decide +kernel
theorem dX4_copy_20 : decode cX4_copy 20 = .ok (.getfield 15, 3) := by decide +kernel
theorem dX4_copy_23 : decode cX4_copy 23 = .ok (.aload_n 0, 1) := by decide +kernel
theorem dX4_copy_24 : decode cX4_copy 24 = .ok (.getfield 15, 3) := by decide +kernel
theorem dX4_copy_27 : decode cX4_copy 27 = .ok (.invokestatic 32, 3) := by decide +kernel
theorem dX4_copy_30 : decode cX4_copy 30 = .ok (.aload_n 1, 1) := by decide +kernel
theorem dX4_copy_31 : decode cX4_copy 31 = .ok (.getfield 18, 3) := by decide +kernel
theorem dX4_copy_34 : decode cX4_copy 34 = .ok (.aload_n 0, 1) := by decide +kernel
theorem dX4_copy_35 : decode cX4_copy 35 = .ok (.getfield 18, 3) := by decide +kernel
theorem dX4_copy_38 : decode cX4_copy 38 = .ok (.invokestatic 32, 3) := by decide +kernel
theorem dX4_copy_41 : decode cX4_copy 41 = .ok (.aload_n 1, 1) := by decide +kernel
theorem dX4_copy_42 : decode cX4_copy 42 = .ok (.getfield 21, 3) := by decide +kernel
theorem dX4_copy_45 : decode cX4_copy 45 = .ok (.aload_n 0, 1) := by decide +kernel
theorem dX4_copy_46 : decode cX4_copy 46 = .ok (.getfield 21, 3) := by decide +kernel
theorem dX4_copy_49 : decode cX4_copy 49 = .ok (.invokestatic 32, 3) := by decide +kernel
theorem dX4_copy_52 : decode cX4_copy 52 = .ok (.iconst 0, 1) := by decide +kernel
theorem dX4_copy_53 : decode cX4_copy 53 = .ok (.istore_n 2, 1) := by decide +kernel
theorem dX4_copy_54 : decode cX4_copy 54 = .ok (.iload_n 2, 1) := by decide +kernel
theorem dX4_copy_55 : decode cX4_copy 55 = .ok (.aload_n 0, 1) := by decide +kernel
theorem dX4_copy_56 : decode cX4_copy 56 = .ok (.getfield 24, 3) := by decide +kernel
theorem dX4_copy_59 : decode cX4_copy 59 = .ok (.arraylength, 1) := by decide +kernel
theorem dX4_copy_60 : decode cX4_copy 60 = .ok (.if_icmp .ge 30, 3) := by decide +kernel
theorem dX4_copy_63 : decode cX4_copy 63 = .ok (.iload_n 2, 1) := by decide +kernel
theorem dX4_copy_64 : decode cX4_copy 64 = .ok (.aload_n 1, 1) := by decide +kernel
theorem dX4_copy_65 : decode cX4_copy 65 = .ok (.getfield 24, 3) := by decide +kernel
theorem dX4_copy_68 : decode cX4_copy 68 = .ok (.arraylength, 1) := by decide +kernel
theorem dX4_copy_69 : decode cX4_copy 69 = .ok (.if_icmp .ge 21, 3) := by decide +kernel
theorem dX4_copy_72 : decode cX4_copy 72 = .ok (.aload_n 0, 1) := by decide +kernel
theorem dX4_copy_73 : decode cX4_copy 73 = .ok (.getfield 24, 3) := by decide +kernel
theorem dX4_copy_76 : decode cX4_copy 76 = .ok (.iload_n 2, 1) := by decide +kernel
theorem dX4_copy_77 : decode cX4_copy 77 = .ok (.aload_n 1, 1) := by decide +kernel
theorem dX4_copy_78 : decode cX4_copy 78 = .ok (.getfield 24, 3) := by decide +kernel
theorem dX4_copy_81 : decode cX4_copy 81 = .ok (.iload_n 2, 1) := by decide +kernel
theorem dX4_copy_82 : decode cX4_copy 82 = .ok (.laload, 1) := by decide +kernel
theorem dX4_copy_83 : decode cX4_copy 83 = .ok (.lastore, 1) := by decide +kernel
theorem dX4_copy_84 : decode cX4_copy 84 = .ok (.iinc 2 1, 3) := by decide +kernel
theorem dX4_copy_87 : decode cX4_copy 87 = .ok (.goto (-33), 3) := by decide +kernel
theorem dX4_copy_90 : decode cX4_copy 90 = .ok (.return_, 1) := by decide +kernel
theorem dX4_isMade_0 : decode cX4_isMade 0 = .ok (.aload_n 0, 1) := by decide +kernel
theorem dX4_isMade_1 : decode cX4_isMade 1 = .ok (.getfield 9, 3) := by decide +kernel
theorem dX4_isMade_4 : decode cX4_isMade 4 = .ok (.iload_n 1, 1) := by decide +kernel
theorem dX4_isMade_5 : decode cX4_isMade 5 = .ok (.invokestatic 36, 3) := by decide +kernel
theorem dX4_isMade_8 : decode cX4_isMade 8 = .ok (.ifCond .le 7, 3) := by decide +kernel
theorem dX4_isMade_11 : decode cX4_isMade 11 = .ok (.iconst 1, 1) := by decide +kernel
theorem dX4_isMade_12 : decode cX4_isMade 12 = .ok (.goto 4, 3) := by decide +kernel
theorem dX4_isMade_15 : decode cX4_isMade 15 = .ok (.iconst 0, 1) := by decide +kernel
theorem dX4_isMade_16 : decode cX4_isMade 16 = .ok (.ireturn, 1) := by decide +kernel
theorem dX4_held_0 : decode cX4_held 0 = .ok (.iconst 0, 1) := by decide +kernel
theorem dX4_held_1 : decode cX4_held 1 = .ok (.istore_n 1, 1) := by decide +kernel
theorem dX4_held_2 : decode cX4_held 2 = .ok (.iconst 0, 1) := by decide +kernel
theorem dX4_held_3 : decode cX4_held 3 = .ok (.istore_n 2, 1) := by decide +kernel
theorem dX4_held_4 : decode cX4_held 4 = .ok (.iload_n 2, 1) := by decide +kernel
theorem dX4_held_5 : decode cX4_held 5 = .ok (.iconst 4, 1) := by decide +kernel
theorem dX4_held_6 : decode cX4_held 6 = .ok (.if_icmp .ge 20, 3) := by decide +kernel
theorem dX4_held_9 : decode cX4_held 9 = .ok (.aload_n 0, 1) := by decide +kernel
theorem dX4_held_10 : decode cX4_held 10 = .ok (.iload_n 2, 1) := by decide +kernel
theorem dX4_held_11 : decode cX4_held 11 = .ok (.invokevirtual 40, 3) := by decide +kernel
theorem dX4_held_14 : decode cX4_held 14 = .ok (.ifCond .eq 6, 3) := by decide +kernel
theorem dX4_held_17 : decode cX4_held 17 = .ok (.iinc 1 1, 3) := by decide +kernel
theorem dX4_held_20 : decode cX4_held 20 = .ok (.iinc 2 1, 3) := by decide +kernel
theorem dX4_held_23 : decode cX4_held 23 = .ok (.goto (-19), 3) := by decide +kernel
theorem dX4_held_26 : decode cX4_held 26 = .ok (.iload_n 1, 1) := by decide +kernel
theorem dX4_held_27 : decode cX4_held 27 = .ok (.ireturn, 1) := by decide +kernel
theorem dX4_slotOf_0 : decode cX4_slotOf 0 = .ok (.iconst 0, 1) := by decide +kernel
theorem dX4_slotOf_1 : decode cX4_slotOf 1 = .ok (.istore_n 2, 1) := by decide +kernel
theorem dX4_slotOf_2 : decode cX4_slotOf 2 = .ok (.iload_n 2, 1) := by decide +kernel
theorem dX4_slotOf_3 : decode cX4_slotOf 3 = .ok (.iconst 4, 1) := by decide +kernel
theorem dX4_slotOf_4 : decode cX4_slotOf 4 = .ok (.if_icmp .ge 31, 3) := by decide +kernel
theorem dX4_slotOf_7 : decode cX4_slotOf 7 = .ok (.aload_n 0, 1) := by decide +kernel
theorem dX4_slotOf_8 : decode cX4_slotOf 8 = .ok (.iload_n 2, 1) := by decide +kernel
theorem dX4_slotOf_9 : decode cX4_slotOf 9 = .ok (.invokevirtual 40, 3) := by decide +kernel
theorem dX4_slotOf_12 : decode cX4_slotOf 12 = .ok (.ifCond .eq 17, 3) := by decide +kernel
theorem dX4_slotOf_15 : decode cX4_slotOf 15 = .ok (.aload_n 0, 1) := by decide +kernel
theorem dX4_slotOf_16 : decode cX4_slotOf 16 = .ok (.getfield 15, 3) := by decide +kernel
theorem dX4_slotOf_19 : decode cX4_slotOf 19 = .ok (.iload_n 2, 1) := by decide +kernel
theorem dX4_slotOf_20 : decode cX4_slotOf 20 = .ok (.invokestatic 36, 3) := by decide +kernel
theorem dX4_slotOf_23 : decode cX4_slotOf 23 = .ok (.iload_n 1, 1) := by decide +kernel
theorem dX4_slotOf_24 : decode cX4_slotOf 24 = .ok (.if_icmp .ne 5, 3) := by decide +kernel
theorem dX4_slotOf_27 : decode cX4_slotOf 27 = .ok (.iload_n 2, 1) := by decide +kernel
theorem dX4_slotOf_28 : decode cX4_slotOf 28 = .ok (.ireturn, 1) := by decide +kernel
theorem dX4_slotOf_29 : decode cX4_slotOf 29 = .ok (.iinc 2 1, 3) := by decide +kernel
theorem dX4_slotOf_32 : decode cX4_slotOf 32 = .ok (.goto (-30), 3) := by decide +kernel
theorem dX4_slotOf_35 : decode cX4_slotOf 35 = .ok (.iconst (-1), 1) := by decide +kernel
theorem dX4_slotOf_36 : decode cX4_slotOf 36 = .ok (.ireturn, 1) := by decide +kernel
theorem dX4_slotAt_0 : decode cX4_slotAt 0 = .ok (.iconst 0, 1) := by decide +kernel
theorem dX4_slotAt_1 : decode cX4_slotAt 1 = .ok (.istore_n 2, 1) := by decide +kernel
theorem dX4_slotAt_2 : decode cX4_slotAt 2 = .ok (.iload_n 2, 1) := by decide +kernel
theorem dX4_slotAt_3 : decode cX4_slotAt 3 = .ok (.iconst 4, 1) := by decide +kernel
theorem dX4_slotAt_4 : decode cX4_slotAt 4 = .ok (.if_icmp .ge 28, 3) := by decide +kernel
theorem dX4_slotAt_7 : decode cX4_slotAt 7 = .ok (.aload_n 0, 1) := by decide +kernel
theorem dX4_slotAt_8 : decode cX4_slotAt 8 = .ok (.iload_n 2, 1) := by decide +kernel
theorem dX4_slotAt_9 : decode cX4_slotAt 9 = .ok (.invokevirtual 40, 3) := by decide +kernel
theorem dX4_slotAt_12 : decode cX4_slotAt 12 = .ok (.ifCond .eq 14, 3) := by decide +kernel
theorem dX4_slotAt_15 : decode cX4_slotAt 15 = .ok (.aload_n 0, 1) := by decide +kernel
theorem dX4_slotAt_16 : decode cX4_slotAt 16 = .ok (.iload_n 2, 1) := by decide +kernel
theorem dX4_slotAt_17 : decode cX4_slotAt 17 = .ok (.invokevirtual 44, 3) := by decide +kernel
theorem dX4_slotAt_20 : decode cX4_slotAt 20 = .ok (.iload_n 1, 1) := by decide +kernel
theorem dX4_slotAt_21 : decode cX4_slotAt 21 = .ok (.if_icmp .ne 5, 3) := by decide +kernel
theorem dX4_slotAt_24 : decode cX4_slotAt 24 = .ok (.iload_n 2, 1) := by decide +kernel
theorem dX4_slotAt_25 : decode cX4_slotAt 25 = .ok (.ireturn, 1) := by decide +kernel
theorem dX4_slotAt_26 : decode cX4_slotAt 26 = .ok (.iinc 2 1, 3) := by decide +kernel
theorem dX4_slotAt_29 : decode cX4_slotAt 29 = .ok (.goto (-27), 3) := by decide +kernel
theorem dX4_slotAt_32 : decode cX4_slotAt 32 = .ok (.iconst (-1), 1) := by decide +kernel
theorem dX4_slotAt_33 : decode cX4_slotAt 33 = .ok (.ireturn, 1) := by decide +kernel
theorem dX4_olderThan_0 : decode cX4_olderThan 0 = .ok (.iconst 0, 1) := by decide +kernel
theorem dX4_olderThan_1 : decode cX4_olderThan 1 = .ok (.istore_n 2, 1) := by decide +kernel
theorem dX4_olderThan_2 : decode cX4_olderThan 2 = .ok (.iconst 0, 1) := by decide +kernel
theorem dX4_olderThan_3 : decode cX4_olderThan 3 = .ok (.istore_n 3, 1) := by decide +kernel
theorem dX4_olderThan_4 : decode cX4_olderThan 4 = .ok (.iload_n 3, 1) := by decide +kernel
theorem dX4_olderThan_5 : decode cX4_olderThan 5 = .ok (.iconst 4, 1) := by decide +kernel
theorem dX4_olderThan_6 : decode cX4_olderThan 6 = .ok (.if_icmp .ge 39, 3) := by decide +kernel
theorem dX4_olderThan_9 : decode cX4_olderThan 9 = .ok (.aload_n 0, 1) := by decide +kernel
theorem dX4_olderThan_10 : decode cX4_olderThan 10 = .ok (.iload_n 3, 1) := by decide +kernel
theorem dX4_olderThan_11 : decode cX4_olderThan 11 = .ok (.invokevirtual 40, 3) := by decide +kernel
theorem dX4_olderThan_14 : decode cX4_olderThan 14 = .ok (.ifCond .eq 25, 3) := by decide +kernel
theorem dX4_olderThan_17 : decode cX4_olderThan 17 = .ok (.aload_n 0, 1) := by decide +kernel
theorem dX4_olderThan_18 : decode cX4_olderThan 18 = .ok (.getfield 9, 3) := by decide +kernel
theorem dX4_olderThan_21 : decode cX4_olderThan 21 = .ok (.iload_n 3, 1) := by decide +kernel
theorem dX4_olderThan_22 : decode cX4_olderThan 22 = .ok (.invokestatic 36, 3) := by decide +kernel
theorem dX4_olderThan_25 : decode cX4_olderThan 25 = .ok (.aload_n 0, 1) := by decide +kernel
theorem dX4_olderThan_26 : decode cX4_olderThan 26 = .ok (.getfield 9, 3) := by decide +kernel
theorem dX4_olderThan_29 : decode cX4_olderThan 29 = .ok (.iload_n 1, 1) := by decide +kernel
theorem dX4_olderThan_30 : decode cX4_olderThan 30 = .ok (.invokestatic 36, 3) := by decide +kernel
theorem dX4_olderThan_33 : decode cX4_olderThan 33 = .ok (.if_icmp .ge 6, 3) := by decide +kernel
theorem dX4_olderThan_36 : decode cX4_olderThan 36 = .ok (.iinc 2 1, 3) := by decide +kernel
theorem dX4_olderThan_39 : decode cX4_olderThan 39 = .ok (.iinc 3 1, 3) := by decide +kernel
theorem dX4_olderThan_42 : decode cX4_olderThan 42 = .ok (.goto (-38), 3) := by decide +kernel
theorem dX4_olderThan_45 : decode cX4_olderThan 45 = .ok (.iload_n 2, 1) := by decide +kernel
theorem dX4_olderThan_46 : decode cX4_olderThan 46 = .ok (.ireturn, 1) := by decide +kernel
theorem dX4_slotToMake_0 : decode cX4_slotToMake 0 = .ok (.aload_n 0, 1) := by decide +kernel
theorem dX4_slotToMake_1 : decode cX4_slotToMake 1 = .ok (.iload_n 1, 1) := by decide +kernel
theorem dX4_slotToMake_2 : decode cX4_slotToMake 2 = .ok (.invokevirtual 48, 3) := by decide +kernel
theorem dX4_slotToMake_5 : decode cX4_slotToMake 5 = .ok (.istore_n 2, 1) := by decide +kernel
theorem dX4_slotToMake_6 : decode cX4_slotToMake 6 = .ok (.iload_n 2, 1) := by decide +kernel
theorem dX4_slotToMake_7 : decode cX4_slotToMake 7 = .ok (.ifCond .lt 5, 3) := by decide +kernel
theorem dX4_slotToMake_10 : decode cX4_slotToMake 10 = .ok (.iload_n 2, 1) := by decide +kernel
theorem dX4_slotToMake_11 : decode cX4_slotToMake 11 = .ok (.ireturn, 1) := by decide +kernel
theorem dX4_slotToMake_12 : decode cX4_slotToMake 12 = .ok (.iconst 0, 1) := by decide +kernel
theorem dX4_slotToMake_13 : decode cX4_slotToMake 13 = .ok (.istore_n 3, 1) := by decide +kernel
theorem dX4_slotToMake_14 : decode cX4_slotToMake 14 = .ok (.iconst 1, 1) := by decide +kernel
theorem dX4_slotToMake_15 : decode cX4_slotToMake 15 = .ok (.istore 4, 2) := by decide +kernel
theorem dX4_slotToMake_17 : decode cX4_slotToMake 17 = .ok (.iload 4, 2) := by decide +kernel
theorem dX4_slotToMake_19 : decode cX4_slotToMake 19 = .ok (.iconst 4, 1) := by decide +kernel
theorem dX4_slotToMake_20 : decode cX4_slotToMake 20 = .ok (.if_icmp .ge 32, 3) := by decide +kernel
theorem dX4_slotToMake_23 : decode cX4_slotToMake 23 = .ok (.aload_n 0, 1) := by decide +kernel
theorem dX4_slotToMake_24 : decode cX4_slotToMake 24 = .ok (.getfield 9, 3) := by decide +kernel
theorem dX4_slotToMake_27 : decode cX4_slotToMake 27 = .ok (.iload 4, 2) := by decide +kernel
theorem dX4_slotToMake_29 : decode cX4_slotToMake 29 = .ok (.invokestatic 36, 3) := by decide +kernel
theorem dX4_slotToMake_32 : decode cX4_slotToMake 32 = .ok (.aload_n 0, 1) := by decide +kernel
theorem dX4_slotToMake_33 : decode cX4_slotToMake 33 = .ok (.getfield 9, 3) := by decide +kernel
theorem dX4_slotToMake_36 : decode cX4_slotToMake 36 = .ok (.iload_n 3, 1) := by decide +kernel
theorem dX4_slotToMake_37 : decode cX4_slotToMake 37 = .ok (.invokestatic 36, 3) := by decide +kernel
theorem dX4_slotToMake_40 : decode cX4_slotToMake 40 = .ok (.if_icmp .ge 6, 3) := by decide +kernel
theorem dX4_slotToMake_43 : decode cX4_slotToMake 43 = .ok (.iload 4, 2) := by decide +kernel
theorem dX4_slotToMake_45 : decode cX4_slotToMake 45 = .ok (.istore_n 3, 1) := by decide +kernel
theorem dX4_slotToMake_46 : decode cX4_slotToMake 46 = .ok (.iinc 4 1, 3) := by decide +kernel
theorem dX4_slotToMake_49 : decode cX4_slotToMake 49 = .ok (.goto (-32), 3) := by decide +kernel
theorem dX4_slotToMake_52 : decode cX4_slotToMake 52 = .ok (.iload_n 3, 1) := by decide +kernel
theorem dX4_slotToMake_53 : decode cX4_slotToMake 53 = .ok (.ireturn, 1) := by decide +kernel
theorem dX4_begin_0 : decode cX4_begin 0 = .ok (.aload_n 0, 1) := by decide +kernel
theorem dX4_begin_1 : decode cX4_begin 1 = .ok (.dup, 1) := by decide +kernel
theorem dX4_begin_2 : decode cX4_begin 2 = .ok (.getfield 28, 3) := by decide +kernel
theorem dX4_begin_5 : decode cX4_begin 5 = .ok (.iconst 1, 1) := by decide +kernel
theorem dX4_begin_6 : decode cX4_begin 6 = .ok (.iadd, 1) := by decide +kernel
theorem dX4_begin_7 : decode cX4_begin 7 = .ok (.putfield 28, 3) := by decide +kernel
theorem dX4_begin_10 : decode cX4_begin 10 = .ok (.aload_n 0, 1) := by decide +kernel
theorem dX4_begin_11 : decode cX4_begin 11 = .ok (.getfield 9, 3) := by decide +kernel
theorem dX4_begin_14 : decode cX4_begin 14 = .ok (.iload_n 1, 1) := by decide +kernel
theorem dX4_begin_15 : decode cX4_begin 15 = .ok (.aload_n 0, 1) := by decide +kernel
theorem dX4_begin_16 : decode cX4_begin 16 = .ok (.getfield 28, 3) := by decide +kernel
theorem dX4_begin_19 : decode cX4_begin 19 = .ok (.invokestatic 51, 3) := by decide +kernel
theorem dX4_begin_22 : decode cX4_begin 22 = .ok (.aload_n 0, 1) := by decide +kernel
theorem dX4_begin_23 : decode cX4_begin 23 = .ok (.getfield 15, 3) := by decide +kernel
theorem dX4_begin_26 : decode cX4_begin 26 = .ok (.iload_n 1, 1) := by decide +kernel
theorem dX4_begin_27 : decode cX4_begin 27 = .ok (.iload_n 2, 1) := by decide +kernel
theorem dX4_begin_28 : decode cX4_begin 28 = .ok (.invokestatic 51, 3) := by decide +kernel
theorem dX4_begin_31 : decode cX4_begin 31 = .ok (.aload_n 0, 1) := by decide +kernel
theorem dX4_begin_32 : decode cX4_begin 32 = .ok (.getfield 18, 3) := by decide +kernel
theorem dX4_begin_35 : decode cX4_begin 35 = .ok (.iload_n 1, 1) := by decide +kernel
theorem dX4_begin_36 : decode cX4_begin 36 = .ok (.iload_n 3, 1) := by decide +kernel
theorem dX4_begin_37 : decode cX4_begin 37 = .ok (.invokestatic 51, 3) := by decide +kernel
theorem dX4_begin_40 : decode cX4_begin 40 = .ok (.return_, 1) := by decide +kernel
theorem dX4_keep_0 : decode cX4_keep 0 = .ok (.aload_n 0, 1) := by decide +kernel
theorem dX4_keep_1 : decode cX4_keep 1 = .ok (.getfield 21, 3) := by decide +kernel
theorem dX4_keep_4 : decode cX4_keep 4 = .ok (.iload_n 1, 1) := by decide +kernel
theorem dX4_keep_5 : decode cX4_keep 5 = .ok (.iload_n 2, 1) := by decide +kernel
theorem dX4_keep_6 : decode cX4_keep 6 = .ok (.invokestatic 51, 3) := by decide +kernel
theorem dX4_keep_9 : decode cX4_keep 9 = .ok (.iload_n 1, 1) := by decide +kernel
theorem dX4_keep_10 : decode cX4_keep 10 = .ok (.ifCond .lt 19, 3) := by decide +kernel
theorem dX4_keep_13 : decode cX4_keep 13 = .ok (.iload_n 1, 1) := by decide +kernel
theorem dX4_keep_14 : decode cX4_keep 14 = .ok (.aload_n 0, 1) := by decide +kernel
theorem dX4_keep_15 : decode cX4_keep 15 = .ok (.getfield 24, 3) := by decide +kernel
theorem dX4_keep_18 : decode cX4_keep 18 = .ok (.arraylength, 1) := by decide +kernel
theorem dX4_keep_19 : decode cX4_keep 19 = .ok (.if_icmp .ge 10, 3) := by decide +kernel
theorem dX4_keep_22 : decode cX4_keep 22 = .ok (.aload_n 0, 1) := by decide +kernel
theorem dX4_keep_23 : decode cX4_keep 23 = .ok (.getfield 24, 3) := by decide +kernel
theorem dX4_keep_26 : decode cX4_keep 26 = .ok (.iload_n 1, 1) := by decide +kernel
theorem dX4_keep_27 : decode cX4_keep 27 = .ok (.lload_n 3, 1) := by decide +kernel
theorem dX4_keep_28 : decode cX4_keep 28 = .ok (.lastore, 1) := by decide +kernel
theorem dX4_keep_29 : decode cX4_keep 29 = .ok (.return_, 1) := by decide +kernel
theorem dX4_litAt_0 : decode cX4_litAt 0 = .ok (.iload_n 1, 1) := by decide +kernel
theorem dX4_litAt_1 : decode cX4_litAt 1 = .ok (.ifCond .lt 21, 3) := by decide +kernel
theorem dX4_litAt_4 : decode cX4_litAt 4 = .ok (.iload_n 1, 1) := by decide +kernel
theorem dX4_litAt_5 : decode cX4_litAt 5 = .ok (.aload_n 0, 1) := by decide +kernel
theorem dX4_litAt_6 : decode cX4_litAt 6 = .ok (.getfield 24, 3) := by decide +kernel
theorem dX4_litAt_9 : decode cX4_litAt 9 = .ok (.arraylength, 1) := by decide +kernel
theorem dX4_litAt_10 : decode cX4_litAt 10 = .ok (.if_icmp .ge 12, 3) := by decide +kernel
theorem dX4_litAt_13 : decode cX4_litAt 13 = .ok (.aload_n 0, 1) := by decide +kernel
theorem dX4_litAt_14 : decode cX4_litAt 14 = .ok (.getfield 24, 3) := by decide +kernel
theorem dX4_litAt_17 : decode cX4_litAt 17 = .ok (.iload_n 1, 1) := by decide +kernel
theorem dX4_litAt_18 : decode cX4_litAt 18 = .ok (.laload, 1) := by decide +kernel
theorem dX4_litAt_19 : decode cX4_litAt 19 = .ok (.goto 4, 3) := by decide +kernel
theorem dX4_litAt_22 : decode cX4_litAt 22 = .ok (.lconst 0, 1) := by decide +kernel
theorem dX4_litAt_23 : decode cX4_litAt 23 = .ok (.lreturn, 1) := by decide +kernel
theorem dX4_litTogether_0 : decode cX4_litTogether 0 = .ok (.iconst 0, 1) := by decide +kernel
theorem dX4_litTogether_1 : decode cX4_litTogether 1 = .ok (.istore_n 2, 1) := by decide +kernel
theorem dX4_litTogether_2 : decode cX4_litTogether 2 = .ok (.iconst 0, 1) := by decide +kernel
theorem dX4_litTogether_3 : decode cX4_litTogether 3 = .ok (.istore_n 3, 1) := by decide +kernel
theorem dX4_litTogether_4 : decode cX4_litTogether 4 = .ok (.iload_n 3, 1) := by decide +kernel
theorem dX4_litTogether_5 : decode cX4_litTogether 5 = .ok (.aload_n 0, 1) := by decide +kernel
theorem dX4_litTogether_6 : decode cX4_litTogether 6 = .ok (.getfield 18, 3) := by decide +kernel
theorem dX4_litTogether_9 : decode cX4_litTogether 9 = .ok (.iload_n 1, 1) := by decide +kernel
theorem dX4_litTogether_10 : decode cX4_litTogether 10 = .ok (.invokestatic 36, 3) := by decide +kernel
theorem dX4_litTogether_13 : decode cX4_litTogether 13 = .ok (.if_icmp .ge 25, 3) := by decide +kernel
theorem dX4_litTogether_16 : decode cX4_litTogether 16 = .ok (.iload_n 2, 1) := by decide +kernel
theorem dX4_litTogether_17 : decode cX4_litTogether 17 = .ok (.aload_n 0, 1) := by decide +kernel
theorem dX4_litTogether_18 : decode cX4_litTogether 18 = .ok (.iload_n 1, 1) := by decide +kernel
theorem dX4_litTogether_19 : decode cX4_litTogether 19 = .ok (.bipush 8, 2) := by decide +kernel
theorem dX4_litTogether_21 : decode cX4_litTogether 21 = .ok (.imul, 1) := by decide +kernel
theorem dX4_litTogether_22 : decode cX4_litTogether 22 = .ok (.iload_n 3, 1) := by decide +kernel
theorem dX4_litTogether_23 : decode cX4_litTogether 23 = .ok (.iadd, 1) := by decide +kernel
theorem dX4_litTogether_24 : decode cX4_litTogether 24 = .ok (.invokevirtual 55, 3) := by decide +kernel
theorem dX4_litTogether_27 : decode cX4_litTogether 27 = .ok (.invokestatic 59, 3) := by decide +kernel
theorem dX4_litTogether_30 : decode cX4_litTogether 30 = .ok (.iadd, 1) := by decide +kernel
theorem dX4_litTogether_31 : decode cX4_litTogether 31 = .ok (.istore_n 2, 1) := by decide +kernel
theorem dX4_litTogether_32 : decode cX4_litTogether 32 = .ok (.iinc 3 1, 3) := by decide +kernel
theorem dX4_litTogether_35 : decode cX4_litTogether 35 = .ok (.goto (-31), 3) := by decide +kernel
theorem dX4_litTogether_38 : decode cX4_litTogether 38 = .ok (.iload_n 2, 1) := by decide +kernel
theorem dX4_litTogether_39 : decode cX4_litTogether 39 = .ok (.ireturn, 1) := by decide +kernel
theorem dX5_init_0 : decode cX5_init 0 = .ok (.aload_n 0, 1) := by decide +kernel
theorem dX5_init_1 : decode cX5_init 1 = .ok (.invokespecial 1, 3) := by decide +kernel
theorem dX5_init_4 : decode cX5_init 4 = .ok (.aload_n 0, 1) := by decide +kernel
theorem dX5_init_5 : decode cX5_init 5 = .ok (.new 7, 3) := by decide +kernel
theorem dX5_init_8 : decode cX5_init 8 = .ok (.dup, 1) := by decide +kernel
theorem dX5_init_9 : decode cX5_init 9 = .ok (.invokespecial 9, 3) := by decide +kernel
theorem dX5_init_12 : decode cX5_init 12 = .ok (.putfield 10, 3) := by decide +kernel
theorem dX5_init_15 : decode cX5_init 15 = .ok (.aload_n 0, 1) := by decide +kernel
theorem dX5_init_16 : decode cX5_init 16 = .ok (.new 7, 3) := by decide +kernel
theorem dX5_init_19 : decode cX5_init 19 = .ok (.dup, 1) := by decide +kernel
theorem dX5_init_20 : decode cX5_init 20 = .ok (.invokespecial 9, 3) := by decide +kernel
theorem dX5_init_23 : decode cX5_init 23 = .ok (.putfield 16, 3) := by decide +kernel
theorem dX5_init_26 : decode cX5_init 26 = .ok (.aload_n 0, 1) := by decide +kernel
theorem dX5_init_27 : decode cX5_init 27 = .ok (.new 19, 3) := by decide +kernel
theorem dX5_init_30 : decode cX5_init 30 = .ok (.dup, 1) := by decide +kernel
theorem dX5_init_31 : decode cX5_init 31 = .ok (.invokespecial 21, 3) := by decide +kernel
theorem dX5_init_34 : decode cX5_init 34 = .ok (.putfield 22, 3) := by decide +kernel
theorem dX5_init_37 : decode cX5_init 37 = .ok (.aload_n 0, 1) := by decide +kernel
theorem dX5_init_38 : decode cX5_init 38 = .ok (.new 26, 3) := by decide +kernel
theorem dX5_init_41 : decode cX5_init 41 = .ok (.dup, 1) := by decide +kernel
theorem dX5_init_42 : decode cX5_init 42 = .ok (.invokespecial 28, 3) := by decide +kernel
theorem dX5_init_45 : decode cX5_init 45 = .ok (.putfield 29, 3) := by decide +kernel
theorem dX5_init_48 : decode cX5_init 48 = .ok (.aload_n 0, 1) := by decide +kernel
theorem dX5_init_49 : decode cX5_init 49 = .ok (.new 33, 3) := by decide +kernel
theorem dX5_init_52 : decode cX5_init 52 = .ok (.dup, 1) := by decide +kernel
theorem dX5_init_53 : decode cX5_init 53 = .ok (.invokespecial 35, 3) := by decide +kernel
theorem dX5_init_56 : decode cX5_init 56 = .ok (.putfield 36, 3) := by decide +kernel
theorem dX5_init_59 : decode cX5_init 59 = .ok (.return_, 1) := by decide +kernel
theorem dX5_glyph_0 : decode cX5_glyph 0 = .ok (.aload_n 0, 1) := by decide +kernel
theorem dX5_glyph_1 : decode cX5_glyph 1 = .ok (.getfield 36, 3) := by decide +kernel
theorem dX5_glyph_4 : decode cX5_glyph 4 = .ok (.aload_n 0, 1) := by decide +kernel
theorem dX5_glyph_5 : decode cX5_glyph 5 = .ok (.getfield 10, 3) := by decide +kernel
theorem dX5_glyph_8 : decode cX5_glyph 8 = .ok (.invokevirtual 40, 3) := by decide +kernel
theorem dX5_glyph_11 : decode cX5_glyph 11 = .ok (.aload_n 0, 1) := by decide +kernel
theorem dX5_glyph_12 : decode cX5_glyph 12 = .ok (.aload_n 0, 1) := by decide +kernel
theorem dX5_glyph_13 : decode cX5_glyph 13 = .ok (.getfield 10, 3) := by decide +kernel
theorem dX5_glyph_16 : decode cX5_glyph 16 = .ok (.iload_n 1, 1) := by decide +kernel
theorem dX5_glyph_17 : decode cX5_glyph 17 = .ok (.invokevirtual 44, 3) := by decide +kernel
theorem dX5_glyph_20 : decode cX5_glyph 20 = .ok (.invokevirtual 48, 3) := by decide +kernel
theorem dX5_glyph_23 : decode cX5_glyph 23 = .ok (.ireturn, 1) := by decide +kernel
theorem dX5_stem_0 : decode cX5_stem 0 = .ok (.aload_n 0, 1) := by decide +kernel
theorem dX5_stem_1 : decode cX5_stem 1 = .ok (.getfield 36, 3) := by decide +kernel
theorem dX5_stem_4 : decode cX5_stem 4 = .ok (.aload_n 0, 1) := by decide +kernel
theorem dX5_stem_5 : decode cX5_stem 5 = .ok (.getfield 10, 3) := by decide +kernel
theorem dX5_stem_8 : decode cX5_stem 8 = .ok (.invokevirtual 40, 3) := by decide +kernel
theorem dX5_stem_11 : decode cX5_stem 11 = .ok (.aload_n 0, 1) := by decide +kernel
theorem dX5_stem_12 : decode cX5_stem 12 = .ok (.aload_n 0, 1) := by decide +kernel
theorem dX5_stem_13 : decode cX5_stem 13 = .ok (.getfield 10, 3) := by decide +kernel
theorem dX5_stem_16 : decode cX5_stem 16 = .ok (.iload_n 1, 1) := by decide +kernel
theorem dX5_stem_17 : decode cX5_stem 17 = .ok (.iload_n 2, 1) := by decide +kernel
theorem dX5_stem_18 : decode cX5_stem 18 = .ok (.iload_n 3, 1) := by decide +kernel
theorem dX5_stem_19 : decode cX5_stem 19 = .ok (.invokevirtual 51, 3) := by decide +kernel
theorem dX5_stem_22 : decode cX5_stem 22 = .ok (.invokevirtual 48, 3) := by decide +kernel
theorem dX5_stem_25 : decode cX5_stem 25 = .ok (.ireturn, 1) := by decide +kernel
theorem dX5_cut_0 : decode cX5_cut 0 = .ok (.aload_n 0, 1) := by decide +kernel
theorem dX5_cut_1 : decode cX5_cut 1 = .ok (.getfield 36, 3) := by decide +kernel
theorem dX5_cut_4 : decode cX5_cut 4 = .ok (.aload_n 0, 1) := by decide +kernel
theorem dX5_cut_5 : decode cX5_cut 5 = .ok (.getfield 10, 3) := by decide +kernel
theorem dX5_cut_8 : decode cX5_cut 8 = .ok (.invokevirtual 40, 3) := by decide +kernel
theorem dX5_cut_11 : decode cX5_cut 11 = .ok (.aload_n 0, 1) := by decide +kernel
theorem dX5_cut_12 : decode cX5_cut 12 = .ok (.aload_n 0, 1) := by decide +kernel
theorem dX5_cut_13 : decode cX5_cut 13 = .ok (.getfield 10, 3) := by decide +kernel
theorem dX5_cut_16 : decode cX5_cut 16 = .ok (.iload_n 1, 1) := by decide +kernel
theorem dX5_cut_17 : decode cX5_cut 17 = .ok (.iload_n 2, 1) := by decide +kernel
theorem dX5_cut_18 : decode cX5_cut 18 = .ok (.invokevirtual 55, 3) := by decide +kernel
theorem dX5_cut_21 : decode cX5_cut 21 = .ok (.invokevirtual 48, 3) := by decide +kernel
theorem dX5_cut_24 : decode cX5_cut 24 = .ok (.ireturn, 1) := by decide +kernel
theorem dX5_hint_0 : decode cX5_hint 0 = .ok (.aload_n 0, 1) := by decide +kernel
theorem dX5_hint_1 : decode cX5_hint 1 = .ok (.getfield 36, 3) := by decide +kernel
theorem dX5_hint_4 : decode cX5_hint 4 = .ok (.aload_n 0, 1) := by decide +kernel
theorem dX5_hint_5 : decode cX5_hint 5 = .ok (.getfield 10, 3) := by decide +kernel
theorem dX5_hint_8 : decode cX5_hint 8 = .ok (.invokevirtual 40, 3) := by decide +kernel
theorem dX5_hint_11 : decode cX5_hint 11 = .ok (.aload_n 0, 1) := by decide +kernel
theorem dX5_hint_12 : decode cX5_hint 12 = .ok (.aload_n 0, 1) := by decide +kernel
theorem dX5_hint_13 : decode cX5_hint 13 = .ok (.getfield 10, 3) := by decide +kernel
theorem dX5_hint_16 : decode cX5_hint 16 = .ok (.iload_n 1, 1) := by decide +kernel
theorem dX5_hint_17 : decode cX5_hint 17 = .ok (.iload_n 2, 1) := by decide +kernel
theorem dX5_hint_18 : decode cX5_hint 18 = .ok (.iload_n 3, 1) := by decide +kernel
theorem dX5_hint_19 : decode cX5_hint 19 = .ok (.invokevirtual 59, 3) := by decide +kernel
theorem dX5_hint_22 : decode cX5_hint 22 = .ok (.invokevirtual 48, 3) := by decide +kernel
theorem dX5_hint_25 : decode cX5_hint 25 = .ok (.ireturn, 1) := by decide +kernel
theorem dX5_standard_0 : decode cX5_standard 0 = .ok (.aload_n 0, 1) := by decide +kernel
theorem dX5_standard_1 : decode cX5_standard 1 = .ok (.getfield 36, 3) := by decide +kernel
theorem dX5_standard_4 : decode cX5_standard 4 = .ok (.aload_n 0, 1) := by decide +kernel
theorem dX5_standard_5 : decode cX5_standard 5 = .ok (.getfield 10, 3) := by decide +kernel
theorem dX5_standard_8 : decode cX5_standard 8 = .ok (.invokevirtual 40, 3) := by decide +kernel
theorem dX5_standard_11 : decode cX5_standard 11 = .ok (.aload_n 0, 1) := by decide +kernel
theorem dX5_standard_12 : decode cX5_standard 12 = .ok (.aload_n 0, 1) := by decide +kernel
theorem dX5_standard_13 : decode cX5_standard 13 = .ok (.getfield 10, 3) := by decide +kernel
theorem dX5_standard_16 : decode cX5_standard 16 = .ok (.iload_n 1, 1) := by decide +kernel
theorem dX5_standard_17 : decode cX5_standard 17 = .ok (.invokevirtual 62, 3) := by decide +kernel
theorem dX5_standard_20 : decode cX5_standard 20 = .ok (.invokevirtual 48, 3) := by decide +kernel
theorem dX5_standard_23 : decode cX5_standard 23 = .ok (.ireturn, 1) := by decide +kernel
theorem dX5_drop_0 : decode cX5_drop 0 = .ok (.aload_n 0, 1) := by decide +kernel
theorem dX5_drop_1 : decode cX5_drop 1 = .ok (.getfield 36, 3) := by decide +kernel
theorem dX5_drop_4 : decode cX5_drop 4 = .ok (.aload_n 0, 1) := by decide +kernel
theorem dX5_drop_5 : decode cX5_drop 5 = .ok (.getfield 10, 3) := by decide +kernel
theorem dX5_drop_8 : decode cX5_drop 8 = .ok (.invokevirtual 40, 3) := by decide +kernel
theorem dX5_drop_11 : decode cX5_drop 11 = .ok (.aload_n 0, 1) := by decide +kernel
theorem dX5_drop_12 : decode cX5_drop 12 = .ok (.aload_n 0, 1) := by decide +kernel
theorem dX5_drop_13 : decode cX5_drop 13 = .ok (.getfield 10, 3) := by decide +kernel
theorem dX5_drop_16 : decode cX5_drop 16 = .ok (.iload_n 1, 1) := by decide +kernel
theorem dX5_drop_17 : decode cX5_drop 17 = .ok (.invokevirtual 65, 3) := by decide +kernel
theorem dX5_drop_20 : decode cX5_drop 20 = .ok (.invokevirtual 48, 3) := by decide +kernel
theorem dX5_drop_23 : decode cX5_drop 23 = .ok (.ireturn, 1) := by decide +kernel
theorem dX5_make_0 : decode cX5_make 0 = .ok (.aload_n 0, 1) := by decide +kernel
theorem dX5_make_1 : decode cX5_make 1 = .ok (.getfield 36, 3) := by decide +kernel
theorem dX5_make_4 : decode cX5_make 4 = .ok (.aload_n 0, 1) := by decide +kernel
theorem dX5_make_5 : decode cX5_make 5 = .ok (.getfield 10, 3) := by decide +kernel
theorem dX5_make_8 : decode cX5_make 8 = .ok (.invokevirtual 40, 3) := by decide +kernel
theorem dX5_make_11 : decode cX5_make 11 = .ok (.aload_n 0, 1) := by decide +kernel
theorem dX5_make_12 : decode cX5_make 12 = .ok (.aload_n 0, 1) := by decide +kernel
theorem dX5_make_13 : decode cX5_make 13 = .ok (.getfield 10, 3) := by decide +kernel
theorem dX5_make_16 : decode cX5_make 16 = .ok (.iload_n 1, 1) := by decide +kernel
theorem dX5_make_17 : decode cX5_make 17 = .ok (.aload_n 0, 1) := by decide +kernel
theorem dX5_make_18 : decode cX5_make 18 = .ok (.getfield 22, 3) := by decide +kernel
theorem dX5_make_21 : decode cX5_make 21 = .ok (.invokevirtual 68, 3) := by decide +kernel
theorem dX5_make_24 : decode cX5_make 24 = .ok (.invokevirtual 48, 3) := by decide +kernel
theorem dX5_make_27 : decode cX5_make 27 = .ok (.ireturn, 1) := by decide +kernel
theorem dX5_set_0 : decode cX5_set 0 = .ok (.aload_n 0, 1) := by decide +kernel
theorem dX5_set_1 : decode cX5_set 1 = .ok (.getfield 36, 3) := by decide +kernel
theorem dX5_set_4 : decode cX5_set 4 = .ok (.aload_n 0, 1) := by decide +kernel
theorem dX5_set_5 : decode cX5_set 5 = .ok (.getfield 10, 3) := by decide +kernel
theorem dX5_set_8 : decode cX5_set 8 = .ok (.invokevirtual 40, 3) := by decide +kernel
theorem dX5_set_11 : decode cX5_set 11 = .ok (.aload_n 0, 1) := by decide +kernel
theorem dX5_set_12 : decode cX5_set 12 = .ok (.aload_n 0, 1) := by decide +kernel
theorem dX5_set_13 : decode cX5_set 13 = .ok (.getfield 10, 3) := by decide +kernel
theorem dX5_set_16 : decode cX5_set 16 = .ok (.iload_n 1, 1) := by decide +kernel
theorem dX5_set_17 : decode cX5_set 17 = .ok (.iload_n 2, 1) := by decide +kernel
theorem dX5_set_18 : decode cX5_set 18 = .ok (.invokevirtual 72, 3) := by decide +kernel
theorem dX5_set_21 : decode cX5_set 21 = .ok (.invokevirtual 48, 3) := by decide +kernel
theorem dX5_set_24 : decode cX5_set 24 = .ok (.ireturn, 1) := by decide +kernel
theorem dX5_stemOf_0 : decode cX5_stemOf 0 = .ok (.aload_n 0, 1) := by decide +kernel
theorem dX5_stemOf_1 : decode cX5_stemOf 1 = .ok (.getfield 10, 3) := by decide +kernel
theorem dX5_stemOf_4 : decode cX5_stemOf 4 = .ok (.iload_n 1, 1) := by decide +kernel
theorem dX5_stemOf_5 : decode cX5_stemOf 5 = .ok (.iload_n 2, 1) := by decide +kernel
theorem dX5_stemOf_6 : decode cX5_stemOf 6 = .ok (.invokevirtual 75, 3) := by decide +kernel
theorem dX5_stemOf_9 : decode cX5_stemOf 9 = .ok (.ifCond .eq 13, 3) := by decide +kernel
theorem dX5_stemOf_12 : decode cX5_stemOf 12 = .ok (.iload_n 3, 1) := by decide +kernel
theorem dX5_stemOf_13 : decode cX5_stemOf 13 = .ok (.iconst 0, 1) := by decide +kernel
theorem dX5_stemOf_14 : decode cX5_stemOf 14 = .ok (.bipush 6, 2) := by decide +kernel
theorem dX5_stemOf_16 : decode cX5_stemOf 16 = .ok (.invokestatic 79, 3) := by decide +kernel
theorem dX5_stemOf_19 : decode cX5_stemOf 19 = .ok (.ifCond .ne 6, 3) := by decide +kernel
theorem dX5_stemOf_22 : decode cX5_stemOf 22 = .ok (.ldc 83, 2) := by decide +kernel
theorem dX5_stemOf_24 : decode cX5_stemOf 24 = .ok (.ireturn, 1) := by decide +kernel
theorem dX5_stemOf_25 : decode cX5_stemOf 25 = .ok (.iload_n 1, 1) := by decide +kernel
theorem dX5_stemOf_26 : decode cX5_stemOf 26 = .ok (.bipush 6, 2) := by decide +kernel
theorem dX5_stemOf_28 : decode cX5_stemOf 28 = .ok (.imul, 1) := by decide +kernel
theorem dX5_stemOf_29 : decode cX5_stemOf 29 = .ok (.iload_n 2, 1) := by decide +kernel
theorem dX5_stemOf_30 : decode cX5_stemOf 30 = .ok (.iadd, 1) := by decide +kernel
theorem dX5_stemOf_31 : decode cX5_stemOf 31 = .ok (.istore 4, 2) := by decide +kernel
theorem dX5_stemOf_33 : decode cX5_stemOf 33 = .ok (.aload_n 0, 1) := by decide +kernel
theorem dX5_stemOf_34 : decode cX5_stemOf 34 = .ok (.getfield 10, 3) := by decide +kernel
theorem dX5_stemOf_37 : decode cX5_stemOf 37 = .ok (.getfield 84, 3) := by decide +kernel
theorem dX5_stemOf_40 : decode cX5_stemOf 40 = .ok (.iload 4, 2) := by decide +kernel
theorem dX5_stemOf_42 : decode cX5_stemOf 42 = .ok (.invokestatic 88, 3) := by decide +kernel
theorem dX5_stemOf_45 : decode cX5_stemOf 45 = .ok (.istore 5, 2) := by decide +kernel
theorem dX5_stemOf_47 : decode cX5_stemOf 47 = .ok (.iload_n 3, 1) := by decide +kernel
theorem dX5_stemOf_48 : decode cX5_stemOf 48 = .ok (.tableswitch 113 0 5 #[40, 53, 56, 69, 79, 103], 40) := by decide +kernel
theorem dX5_stemOf_88 : decode cX5_stemOf 88 = .ok (.aload_n 0, 1) := by decide +kernel
theorem dX5_stemOf_89 : decode cX5_stemOf 89 = .ok (.getfield 10, 3) := by decide +kernel
theorem dX5_stemOf_92 : decode cX5_stemOf 92 = .ok (.getfield 92, 3) := by decide +kernel
theorem dX5_stemOf_95 : decode cX5_stemOf 95 = .ok (.iload 4, 2) := by decide +kernel
theorem dX5_stemOf_97 : decode cX5_stemOf 97 = .ok (.invokestatic 88, 3) := by decide +kernel
theorem dX5_stemOf_100 : decode cX5_stemOf 100 = .ok (.ireturn, 1) := by decide +kernel
theorem dX5_stemOf_101 : decode cX5_stemOf 101 = .ok (.iload 5, 2) := by decide +kernel
theorem dX5_stemOf_103 : decode cX5_stemOf 103 = .ok (.ireturn, 1) := by decide +kernel
theorem dX5_stemOf_104 : decode cX5_stemOf 104 = .ok (.aload_n 0, 1) := by decide +kernel
theorem dX5_stemOf_105 : decode cX5_stemOf 105 = .ok (.getfield 10, 3) := by decide +kernel
theorem dX5_stemOf_108 : decode cX5_stemOf 108 = .ok (.getfield 95, 3) := by decide +kernel
theorem dX5_stemOf_111 : decode cX5_stemOf 111 = .ok (.iload 4, 2) := by decide +kernel
theorem dX5_stemOf_113 : decode cX5_stemOf 113 = .ok (.invokestatic 88, 3) := by decide +kernel
theorem dX5_stemOf_116 : decode cX5_stemOf 116 = .ok (.ireturn, 1) := by decide +kernel
theorem dX5_stemOf_117 : decode cX5_stemOf 117 = .ok (.aload_n 0, 1) := by decide +kernel
theorem dX5_stemOf_118 : decode cX5_stemOf 118 = .ok (.getfield 10, 3) := by decide +kernel
theorem dX5_stemOf_121 : decode cX5_stemOf 121 = .ok (.iload 5, 2) := by decide +kernel
theorem dX5_stemOf_123 : decode cX5_stemOf 123 = .ok (.invokevirtual 98, 3) := by decide +kernel
theorem dX5_stemOf_126 : decode cX5_stemOf 126 = .ok (.ireturn, 1) := by decide +kernel
theorem dX5_stemOf_127 : decode cX5_stemOf 127 = .ok (.aload_n 0, 1) := by decide +kernel
theorem dX5_stemOf_128 : decode cX5_stemOf 128 = .ok (.getfield 10, 3) := by decide +kernel
theorem dX5_stemOf_131 : decode cX5_stemOf 131 = .ok (.iload 5, 2) := by decide +kernel
theorem dX5_stemOf_133 : decode cX5_stemOf 133 = .ok (.invokevirtual 101, 3) := by decide +kernel
theorem dX5_stemOf_136 : decode cX5_stemOf 136 = .ok (.istore 6, 2) := by decide +kernel
theorem dX5_stemOf_138 : decode cX5_stemOf 138 = .ok (.iload 6, 2) := by decide +kernel
theorem dX5_stemOf_140 : decode cX5_stemOf 140 = .ok (.ifCond .ne 8, 3) := by decide +kernel
theorem dX5_stemOf_143 : decode cX5_stemOf 143 = .ok (.ldc 104, 2) := by decide +kernel
theorem dX5_stemOf_145 : decode cX5_stemOf 145 = .ok (.goto 5, 3) := by decide +kernel
theorem dX5_stemOf_148 : decode cX5_stemOf 148 = .ok (.iload 6, 2) := by decide +kernel
theorem dX5_stemOf_150 : decode cX5_stemOf 150 = .ok (.ireturn, 1) := by decide +kernel
theorem dX5_stemOf_151 : decode cX5_stemOf 151 = .ok (.aload_n 0, 1) := by decide +kernel
theorem dX5_stemOf_152 : decode cX5_stemOf 152 = .ok (.getfield 10, 3) := by decide +kernel
theorem dX5_stemOf_155 : decode cX5_stemOf 155 = .ok (.iload 5, 2) := by decide +kernel
theorem dX5_stemOf_157 : decode cX5_stemOf 157 = .ok (.invokevirtual 105, 3) := by decide +kernel
theorem dX5_stemOf_160 : decode cX5_stemOf 160 = .ok (.ireturn, 1) := by decide +kernel
theorem dX5_stemOf_161 : decode cX5_stemOf 161 = .ok (.iload_n 2, 1) := by decide +kernel
theorem dX5_stemOf_162 : decode cX5_stemOf 162 = .ok (.ifCond .ne 8, 3) := by decide +kernel
theorem dX5_stemOf_165 : decode cX5_stemOf 165 = .ok (.ldc 104, 2) := by decide +kernel
theorem dX5_stemOf_167 : decode cX5_stemOf 167 = .ok (.goto 27, 3) := by decide +kernel
theorem dX5_stemOf_170 : decode cX5_stemOf 170 = .ok (.aload_n 0, 1) := by decide +kernel
theorem dX5_stemOf_171 : decode cX5_stemOf 171 = .ok (.getfield 10, 3) := by decide +kernel
theorem dX5_stemOf_174 : decode cX5_stemOf 174 = .ok (.getfield 92, 3) := by decide +kernel
theorem dX5_stemOf_177 : decode cX5_stemOf 177 = .ok (.iload 4, 2) := by decide +kernel
theorem dX5_stemOf_179 : decode cX5_stemOf 179 = .ok (.invokestatic 88, 3) := by decide +kernel
theorem dX5_stemOf_182 : decode cX5_stemOf 182 = .ok (.aload_n 0, 1) := by decide +kernel
theorem dX5_stemOf_183 : decode cX5_stemOf 183 = .ok (.getfield 10, 3) := by decide +kernel
theorem dX5_stemOf_186 : decode cX5_stemOf 186 = .ok (.iload 4, 2) := by decide +kernel
theorem dX5_stemOf_188 : decode cX5_stemOf 188 = .ok (.iconst 1, 1) := by decide +kernel
theorem dX5_stemOf_189 : decode cX5_stemOf 189 = .ok (.isub, 1) := by decide +kernel
theorem dX5_stemOf_190 : decode cX5_stemOf 190 = .ok (.invokevirtual 108, 3) := by decide +kernel
theorem dX5_stemOf_193 : decode cX5_stemOf 193 = .ok (.isub, 1) := by decide +kernel
theorem dX5_stemOf_194 : decode cX5_stemOf 194 = .ok (.ireturn, 1) := by decide +kernel
theorem dX5_pixels_0 : decode cX5_pixels 0 = .ok (.aload_n 0, 1) := by decide +kernel
theorem dX5_pixels_1 : decode cX5_pixels 1 = .ok (.getfield 10, 3) := by decide +kernel
theorem dX5_pixels_4 : decode cX5_pixels 4 = .ok (.iload_n 1, 1) := by decide +kernel
theorem dX5_pixels_5 : decode cX5_pixels 5 = .ok (.iload_n 2, 1) := by decide +kernel
theorem dX5_pixels_6 : decode cX5_pixels 6 = .ok (.invokevirtual 75, 3) := by decide +kernel
theorem dX5_pixels_9 : decode cX5_pixels 9 = .ok (.ifCond .eq 20, 3) := by decide +kernel
theorem dX5_pixels_12 : decode cX5_pixels 12 = .ok (.iload_n 3, 1) := by decide +kernel
theorem dX5_pixels_13 : decode cX5_pixels 13 = .ok (.invokestatic 111, 3) := by decide +kernel
theorem dX5_pixels_16 : decode cX5_pixels 16 = .ok (.ifCond .eq 13, 3) := by decide +kernel
theorem dX5_pixels_19 : decode cX5_pixels 19 = .ok (.iload 4, 2) := by decide +kernel
theorem dX5_pixels_21 : decode cX5_pixels 21 = .ok (.iconst 0, 1) := by decide +kernel
theorem dX5_pixels_22 : decode cX5_pixels 22 = .ok (.iconst 3, 1) := by decide +kernel
theorem dX5_pixels_23 : decode cX5_pixels 23 = .ok (.invokestatic 79, 3) := by decide +kernel
theorem dX5_pixels_26 : decode cX5_pixels 26 = .ok (.ifCond .ne 6, 3) := by decide +kernel
theorem dX5_pixels_29 : decode cX5_pixels 29 = .ok (.ldc 83, 2) := by decide +kernel
theorem dX5_pixels_31 : decode cX5_pixels 31 = .ok (.ireturn, 1) := by decide +kernel
theorem dX5_pixels_32 : decode cX5_pixels 32 = .ok (.aload_n 0, 1) := by decide +kernel
theorem dX5_pixels_33 : decode cX5_pixels 33 = .ok (.getfield 22, 3) := by decide +kernel
theorem dX5_pixels_36 : decode cX5_pixels 36 = .ok (.aload_n 0, 1) := by decide +kernel
theorem dX5_pixels_37 : decode cX5_pixels 37 = .ok (.getfield 10, 3) := by decide +kernel
theorem dX5_pixels_40 : decode cX5_pixels 40 = .ok (.iload_n 1, 1) := by decide +kernel
theorem dX5_pixels_41 : decode cX5_pixels 41 = .ok (.iload_n 3, 1) := by decide +kernel
theorem dX5_pixels_42 : decode cX5_pixels 42 = .ok (.invokevirtual 115, 3) := by decide +kernel
theorem dX5_pixels_45 : decode cX5_pixels 45 = .ok (.iload 4, 2) := by decide +kernel
theorem dX5_pixels_47 : decode cX5_pixels 47 = .ok (.tableswitch 61 0 2 #[25, 37, 49], 25) := by decide +kernel
theorem dX5_pixels_72 : decode cX5_pixels 72 = .ok (.aload_n 0, 1) := by decide +kernel
theorem dX5_pixels_73 : decode cX5_pixels 73 = .ok (.getfield 22, 3) := by decide +kernel
theorem dX5_pixels_76 : decode cX5_pixels 76 = .ok (.getfield 119, 3) := by decide +kernel
theorem dX5_pixels_79 : decode cX5_pixels 79 = .ok (.iload_n 2, 1) := by decide +kernel
theorem dX5_pixels_80 : decode cX5_pixels 80 = .ok (.invokestatic 88, 3) := by decide +kernel
theorem dX5_pixels_83 : decode cX5_pixels 83 = .ok (.ireturn, 1) := by decide +kernel
theorem dX5_pixels_84 : decode cX5_pixels 84 = .ok (.aload_n 0, 1) := by decide +kernel
theorem dX5_pixels_85 : decode cX5_pixels 85 = .ok (.getfield 22, 3) := by decide +kernel
theorem dX5_pixels_88 : decode cX5_pixels 88 = .ok (.getfield 122, 3) := by decide +kernel
theorem dX5_pixels_91 : decode cX5_pixels 91 = .ok (.iload_n 2, 1) := by decide +kernel
theorem dX5_pixels_92 : decode cX5_pixels 92 = .ok (.invokestatic 88, 3) := by decide +kernel
theorem dX5_pixels_95 : decode cX5_pixels 95 = .ok (.ireturn, 1) := by decide +kernel
theorem dX5_pixels_96 : decode cX5_pixels 96 = .ok (.aload_n 0, 1) := by decide +kernel
theorem dX5_pixels_97 : decode cX5_pixels 97 = .ok (.getfield 22, 3) := by decide +kernel
theorem dX5_pixels_100 : decode cX5_pixels 100 = .ok (.getfield 125, 3) := by decide +kernel
theorem dX5_pixels_103 : decode cX5_pixels 103 = .ok (.iload_n 2, 1) := by decide +kernel
theorem dX5_pixels_104 : decode cX5_pixels 104 = .ok (.ishr, 1) := by decide +kernel
theorem dX5_pixels_105 : decode cX5_pixels 105 = .ok (.iconst 1, 1) := by decide +kernel
theorem dX5_pixels_106 : decode cX5_pixels 106 = .ok (.iand, 1) := by decide +kernel
theorem dX5_pixels_107 : decode cX5_pixels 107 = .ok (.ireturn, 1) := by decide +kernel
theorem dX5_pixels_108 : decode cX5_pixels 108 = .ok (.aload_n 0, 1) := by decide +kernel
theorem dX5_pixels_109 : decode cX5_pixels 109 = .ok (.getfield 22, 3) := by decide +kernel
theorem dX5_pixels_112 : decode cX5_pixels 112 = .ok (.getfield 129, 3) := by decide +kernel
theorem dX5_pixels_115 : decode cX5_pixels 115 = .ok (.iload_n 2, 1) := by decide +kernel
theorem dX5_pixels_116 : decode cX5_pixels 116 = .ok (.ishr, 1) := by decide +kernel
theorem dX5_pixels_117 : decode cX5_pixels 117 = .ok (.iconst 1, 1) := by decide +kernel
theorem dX5_pixels_118 : decode cX5_pixels 118 = .ok (.iand, 1) := by decide +kernel
theorem dX5_pixels_119 : decode cX5_pixels 119 = .ok (.ireturn, 1) := by decide +kernel
theorem dX5_glyphOf_0 : decode cX5_glyphOf 0 = .ok (.aload_n 0, 1) := by decide +kernel
theorem dX5_glyphOf_1 : decode cX5_glyphOf 1 = .ok (.getfield 10, 3) := by decide +kernel
theorem dX5_glyphOf_4 : decode cX5_glyphOf 4 = .ok (.iload_n 1, 1) := by decide +kernel
theorem dX5_glyphOf_5 : decode cX5_glyphOf 5 = .ok (.invokevirtual 132, 3) := by decide +kernel
theorem dX5_glyphOf_8 : decode cX5_glyphOf 8 = .ok (.ifCond .eq 19, 3) := by decide +kernel
theorem dX5_glyphOf_11 : decode cX5_glyphOf 11 = .ok (.iload_n 2, 1) := by decide +kernel
theorem dX5_glyphOf_12 : decode cX5_glyphOf 12 = .ok (.invokestatic 111, 3) := by decide +kernel
theorem dX5_glyphOf_15 : decode cX5_glyphOf 15 = .ok (.ifCond .eq 12, 3) := by decide +kernel
theorem dX5_glyphOf_18 : decode cX5_glyphOf 18 = .ok (.iload_n 3, 1) := by decide +kernel
theorem dX5_glyphOf_19 : decode cX5_glyphOf 19 = .ok (.iconst 0, 1) := by decide +kernel
theorem dX5_glyphOf_20 : decode cX5_glyphOf 20 = .ok (.iconst 5, 1) := by decide +kernel
theorem dX5_glyphOf_21 : decode cX5_glyphOf 21 = .ok (.invokestatic 79, 3) := by decide +kernel
theorem dX5_glyphOf_24 : decode cX5_glyphOf 24 = .ok (.ifCond .ne 6, 3) := by decide +kernel
theorem dX5_glyphOf_27 : decode cX5_glyphOf 27 = .ok (.ldc 83, 2) := by decide +kernel
theorem dX5_glyphOf_29 : decode cX5_glyphOf 29 = .ok (.ireturn, 1) := by decide +kernel
theorem dX5_glyphOf_30 : decode cX5_glyphOf 30 = .ok (.aload_n 0, 1) := by decide +kernel
theorem dX5_glyphOf_31 : decode cX5_glyphOf 31 = .ok (.getfield 22, 3) := by decide +kernel
theorem dX5_glyphOf_34 : decode cX5_glyphOf 34 = .ok (.aload_n 0, 1) := by decide +kernel
theorem dX5_glyphOf_35 : decode cX5_glyphOf 35 = .ok (.getfield 10, 3) := by decide +kernel
theorem dX5_glyphOf_38 : decode cX5_glyphOf 38 = .ok (.iload_n 1, 1) := by decide +kernel
theorem dX5_glyphOf_39 : decode cX5_glyphOf 39 = .ok (.iload_n 2, 1) := by decide +kernel
theorem dX5_glyphOf_40 : decode cX5_glyphOf 40 = .ok (.invokevirtual 115, 3) := by decide +kernel
theorem dX5_glyphOf_43 : decode cX5_glyphOf 43 = .ok (.iload_n 3, 1) := by decide +kernel
theorem dX5_glyphOf_44 : decode cX5_glyphOf 44 = .ok (.tableswitch 87 0 4 #[36, 44, 55, 71, 79], 36) := by decide +kernel
theorem dX5_glyphOf_80 : decode cX5_glyphOf 80 = .ok (.aload_n 0, 1) := by decide +kernel
theorem dX5_glyphOf_81 : decode cX5_glyphOf 81 = .ok (.getfield 22, 3) := by decide +kernel
theorem dX5_glyphOf_84 : decode cX5_glyphOf 84 = .ok (.getfield 135, 3) := by decide +kernel
theorem dX5_glyphOf_87 : decode cX5_glyphOf 87 = .ok (.ireturn, 1) := by decide +kernel
theorem dX5_glyphOf_88 : decode cX5_glyphOf 88 = .ok (.aload_n 0, 1) := by decide +kernel
theorem dX5_glyphOf_89 : decode cX5_glyphOf 89 = .ok (.getfield 22, 3) := by decide +kernel
theorem dX5_glyphOf_92 : decode cX5_glyphOf 92 = .ok (.getfield 138, 3) := by decide +kernel
theorem dX5_glyphOf_95 : decode cX5_glyphOf 95 = .ok (.invokestatic 142, 3) := by decide +kernel
theorem dX5_glyphOf_98 : decode cX5_glyphOf 98 = .ok (.ireturn, 1) := by decide +kernel
theorem dX5_glyphOf_99 : decode cX5_glyphOf 99 = .ok (.aload_n 0, 1) := by decide +kernel
theorem dX5_glyphOf_100 : decode cX5_glyphOf 100 = .ok (.getfield 22, 3) := by decide +kernel
theorem dX5_glyphOf_103 : decode cX5_glyphOf 103 = .ok (.invokevirtual 148, 3) := by decide +kernel
theorem dX5_glyphOf_106 : decode cX5_glyphOf 106 = .ok (.ifCond .eq 7, 3) := by decide +kernel
theorem dX5_glyphOf_109 : decode cX5_glyphOf 109 = .ok (.iconst 1, 1) := by decide +kernel
theorem dX5_glyphOf_110 : decode cX5_glyphOf 110 = .ok (.goto 4, 3) := by decide +kernel
theorem dX5_glyphOf_113 : decode cX5_glyphOf 113 = .ok (.iconst 0, 1) := by decide +kernel
theorem dX5_glyphOf_114 : decode cX5_glyphOf 114 = .ok (.ireturn, 1) := by decide +kernel
theorem dX5_glyphOf_115 : decode cX5_glyphOf 115 = .ok (.aload_n 0, 1) := by decide +kernel
theorem dX5_glyphOf_116 : decode cX5_glyphOf 116 = .ok (.getfield 22, 3) := by decide +kernel
theorem dX5_glyphOf_119 : decode cX5_glyphOf 119 = .ok (.getfield 125, 3) := by decide +kernel
theorem dX5_glyphOf_122 : decode cX5_glyphOf 122 = .ok (.ireturn, 1) := by decide +kernel
theorem dX5_glyphOf_123 : decode cX5_glyphOf 123 = .ok (.aload_n 0, 1) := by decide +kernel
theorem dX5_glyphOf_124 : decode cX5_glyphOf 124 = .ok (.getfield 22, 3) := by decide +kernel
theorem dX5_glyphOf_127 : decode cX5_glyphOf 127 = .ok (.getfield 129, 3) := by decide +kernel
theorem dX5_glyphOf_130 : decode cX5_glyphOf 130 = .ok (.ireturn, 1) := by decide +kernel
theorem dX5_glyphOf_131 : decode cX5_glyphOf 131 = .ok (.aload_n 0, 1) := by decide +kernel
theorem dX5_glyphOf_132 : decode cX5_glyphOf 132 = .ok (.getfield 22, 3) := by decide +kernel
theorem dX5_glyphOf_135 : decode cX5_glyphOf 135 = .ok (.getfield 138, 3) := by decide +kernel
theorem dX5_glyphOf_138 : decode cX5_glyphOf 138 = .ok (.invokestatic 152, 3) := by decide +kernel
theorem dX5_glyphOf_141 : decode cX5_glyphOf 141 = .ok (.ireturn, 1) := by decide +kernel
theorem dX5_lit_0 : decode cX5_lit 0 = .ok (.aload_n 0, 1) := by decide +kernel
theorem dX5_lit_1 : decode cX5_lit 1 = .ok (.getfield 10, 3) := by decide +kernel
theorem dX5_lit_4 : decode cX5_lit 4 = .ok (.iload_n 1, 1) := by decide +kernel
theorem dX5_lit_5 : decode cX5_lit 5 = .ok (.invokevirtual 132, 3) := by decide +kernel
theorem dX5_lit_8 : decode cX5_lit 8 = .ok (.ifCond .eq 20, 3) := by decide +kernel
theorem dX5_lit_11 : decode cX5_lit 11 = .ok (.iload_n 2, 1) := by decide +kernel
theorem dX5_lit_12 : decode cX5_lit 12 = .ok (.invokestatic 111, 3) := by decide +kernel
theorem dX5_lit_15 : decode cX5_lit 15 = .ok (.ifCond .eq 13, 3) := by decide +kernel
theorem dX5_lit_18 : decode cX5_lit 18 = .ok (.iload_n 3, 1) := by decide +kernel
theorem dX5_lit_19 : decode cX5_lit 19 = .ok (.iconst 0, 1) := by decide +kernel
theorem dX5_lit_20 : decode cX5_lit 20 = .ok (.bipush 63, 2) := by decide +kernel
theorem dX5_lit_22 : decode cX5_lit 22 = .ok (.invokestatic 79, 3) := by decide +kernel
theorem dX5_lit_25 : decode cX5_lit 25 = .ok (.ifCond .ne 6, 3) := by decide +kernel
theorem dX5_lit_28 : decode cX5_lit 28 = .ok (.ldc 83, 2) := by decide +kernel
theorem dX5_lit_30 : decode cX5_lit 30 = .ok (.ireturn, 1) := by decide +kernel
theorem dX5_lit_31 : decode cX5_lit 31 = .ok (.aload_n 0, 1) := by decide +kernel
theorem dX5_lit_32 : decode cX5_lit 32 = .ok (.getfield 22, 3) := by decide +kernel
theorem dX5_lit_35 : decode cX5_lit 35 = .ok (.aload_n 0, 1) := by decide +kernel
theorem dX5_lit_36 : decode cX5_lit 36 = .ok (.getfield 10, 3) := by decide +kernel
theorem dX5_lit_39 : decode cX5_lit 39 = .ok (.iload_n 1, 1) := by decide +kernel
theorem dX5_lit_40 : decode cX5_lit 40 = .ok (.iload_n 2, 1) := by decide +kernel
theorem dX5_lit_41 : decode cX5_lit 41 = .ok (.invokevirtual 115, 3) := by decide +kernel
theorem dX5_lit_44 : decode cX5_lit 44 = .ok (.iload_n 3, 1) := by decide +kernel
theorem dX5_lit_45 : decode cX5_lit 45 = .ok (.aload_n 0, 1) := by decide +kernel
theorem dX5_lit_46 : decode cX5_lit 46 = .ok (.getfield 22, 3) := by decide +kernel
theorem dX5_lit_49 : decode cX5_lit 49 = .ok (.getfield 135, 3) := by decide +kernel
theorem dX5_lit_52 : decode cX5_lit 52 = .ok (.if_icmp .ge 17, 3) := by decide +kernel
theorem dX5_lit_55 : decode cX5_lit 55 = .ok (.aload_n 0, 1) := by decide +kernel
theorem dX5_lit_56 : decode cX5_lit 56 = .ok (.getfield 22, 3) := by decide +kernel
theorem dX5_lit_59 : decode cX5_lit 59 = .ok (.getfield 138, 3) := by decide +kernel
theorem dX5_lit_62 : decode cX5_lit 62 = .ok (.iload_n 3, 1) := by decide +kernel
theorem dX5_lit_63 : decode cX5_lit 63 = .ok (.invokestatic 155, 3) := by decide +kernel
theorem dX5_lit_66 : decode cX5_lit 66 = .ok (.goto 5, 3) := by decide +kernel
theorem dX5_lit_69 : decode cX5_lit 69 = .ok (.ldc 104, 2) := by decide +kernel
theorem dX5_lit_71 : decode cX5_lit 71 = .ok (.ireturn, 1) := by decide +kernel
theorem dX5_inSheet_0 : decode cX5_inSheet 0 = .ok (.iload_n 1, 1) := by decide +kernel
theorem dX5_inSheet_1 : decode cX5_inSheet 1 = .ok (.invokestatic 111, 3) := by decide +kernel
theorem dX5_inSheet_4 : decode cX5_inSheet 4 = .ok (.ifCond .eq 23, 3) := by decide +kernel
theorem dX5_inSheet_7 : decode cX5_inSheet 7 = .ok (.iload_n 2, 1) := by decide +kernel
theorem dX5_inSheet_8 : decode cX5_inSheet 8 = .ok (.iconst 0, 1) := by decide +kernel
theorem dX5_inSheet_9 : decode cX5_inSheet 9 = .ok (.bipush 7, 2) := by decide +kernel
theorem dX5_inSheet_11 : decode cX5_inSheet 11 = .ok (.invokestatic 79, 3) := by decide +kernel
theorem dX5_inSheet_14 : decode cX5_inSheet 14 = .ok (.ifCond .eq 13, 3) := by decide +kernel
theorem dX5_inSheet_17 : decode cX5_inSheet 17 = .ok (.iload_n 3, 1) := by decide +kernel
theorem dX5_inSheet_18 : decode cX5_inSheet 18 = .ok (.iconst 0, 1) := by decide +kernel
theorem dX5_inSheet_19 : decode cX5_inSheet 19 = .ok (.bipush 63, 2) := by decide +kernel
theorem dX5_inSheet_21 : decode cX5_inSheet 21 = .ok (.invokestatic 79, 3) := by decide +kernel
theorem dX5_inSheet_24 : decode cX5_inSheet 24 = .ok (.ifCond .ne 6, 3) := by decide +kernel
theorem dX5_inSheet_27 : decode cX5_inSheet 27 = .ok (.ldc 83, 2) := by decide +kernel
theorem dX5_inSheet_29 : decode cX5_inSheet 29 = .ok (.ireturn, 1) := by decide +kernel
theorem dX5_inSheet_30 : decode cX5_inSheet 30 = .ok (.aload_n 0, 1) := by decide +kernel
theorem dX5_inSheet_31 : decode cX5_inSheet 31 = .ok (.getfield 10, 3) := by decide +kernel
theorem dX5_inSheet_34 : decode cX5_inSheet 34 = .ok (.getfield 159, 3) := by decide +kernel
theorem dX5_inSheet_37 : decode cX5_inSheet 37 = .ok (.astore 4, 2) := by decide +kernel
theorem dX5_inSheet_39 : decode cX5_inSheet 39 = .ok (.aload 4, 2) := by decide +kernel
theorem dX5_inSheet_41 : decode cX5_inSheet 41 = .ok (.iload_n 1, 1) := by decide +kernel
theorem dX5_inSheet_42 : decode cX5_inSheet 42 = .ok (.invokevirtual 163, 3) := by decide +kernel
theorem dX5_inSheet_45 : decode cX5_inSheet 45 = .ok (.istore 5, 2) := by decide +kernel
theorem dX5_inSheet_47 : decode cX5_inSheet 47 = .ok (.iload 5, 2) := by decide +kernel
theorem dX5_inSheet_49 : decode cX5_inSheet 49 = .ok (.ifCond .lt 17, 3) := by decide +kernel
theorem dX5_inSheet_52 : decode cX5_inSheet 52 = .ok (.iload_n 2, 1) := by decide +kernel
theorem dX5_inSheet_53 : decode cX5_inSheet 53 = .ok (.aload 4, 2) := by decide +kernel
theorem dX5_inSheet_55 : decode cX5_inSheet 55 = .ok (.getfield 168, 3) := by decide +kernel
theorem dX5_inSheet_58 : decode cX5_inSheet 58 = .ok (.iload 5, 2) := by decide +kernel
theorem dX5_inSheet_60 : decode cX5_inSheet 60 = .ok (.invokestatic 88, 3) := by decide +kernel
theorem dX5_inSheet_63 : decode cX5_inSheet 63 = .ok (.if_icmp .lt 6, 3) := by decide +kernel
theorem dX5_inSheet_66 : decode cX5_inSheet 66 = .ok (.ldc 104, 2) := by decide +kernel
theorem dX5_inSheet_68 : decode cX5_inSheet 68 = .ok (.ireturn, 1) := by decide +kernel
theorem dX5_inSheet_69 : decode cX5_inSheet 69 = .ok (.iload 5, 2) := by decide +kernel
theorem dX5_inSheet_71 : decode cX5_inSheet 71 = .ok (.bipush 8, 2) := by decide +kernel
theorem dX5_inSheet_73 : decode cX5_inSheet 73 = .ok (.imul, 1) := by decide +kernel
theorem dX5_inSheet_74 : decode cX5_inSheet 74 = .ok (.iload_n 2, 1) := by decide +kernel
theorem dX5_inSheet_75 : decode cX5_inSheet 75 = .ok (.iadd, 1) := by decide +kernel
theorem dX5_inSheet_76 : decode cX5_inSheet 76 = .ok (.istore 6, 2) := by decide +kernel
theorem dX5_inSheet_78 : decode cX5_inSheet 78 = .ok (.iload_n 3, 1) := by decide +kernel
theorem dX5_inSheet_79 : decode cX5_inSheet 79 = .ok (.aload 4, 2) := by decide +kernel
theorem dX5_inSheet_81 : decode cX5_inSheet 81 = .ok (.getfield 171, 3) := by decide +kernel
theorem dX5_inSheet_84 : decode cX5_inSheet 84 = .ok (.iload 6, 2) := by decide +kernel
theorem dX5_inSheet_86 : decode cX5_inSheet 86 = .ok (.invokestatic 88, 3) := by decide +kernel
theorem dX5_inSheet_89 : decode cX5_inSheet 89 = .ok (.if_icmp .ge 17, 3) := by decide +kernel
theorem dX5_inSheet_92 : decode cX5_inSheet 92 = .ok (.aload 4, 2) := by decide +kernel
theorem dX5_inSheet_94 : decode cX5_inSheet 94 = .ok (.iload 6, 2) := by decide +kernel
theorem dX5_inSheet_96 : decode cX5_inSheet 96 = .ok (.invokevirtual 173, 3) := by decide +kernel
theorem dX5_inSheet_99 : decode cX5_inSheet 99 = .ok (.iload_n 3, 1) := by decide +kernel
theorem dX5_inSheet_100 : decode cX5_inSheet 100 = .ok (.invokestatic 155, 3) := by decide +kernel
theorem dX5_inSheet_103 : decode cX5_inSheet 103 = .ok (.goto 5, 3) := by decide +kernel
theorem dX5_inSheet_106 : decode cX5_inSheet 106 = .ok (.ldc 104, 2) := by decide +kernel
theorem dX5_inSheet_108 : decode cX5_inSheet 108 = .ok (.ireturn, 1) := by decide +kernel
theorem dX5_sheetOf_0 : decode cX5_sheetOf 0 = .ok (.iload_n 1, 1) := by decide +kernel
theorem dX5_sheetOf_1 : decode cX5_sheetOf 1 = .ok (.ifCond .lt 12, 3) := by decide +kernel
theorem dX5_sheetOf_4 : decode cX5_sheetOf 4 = .ok (.iload_n 2, 1) := by decide +kernel
theorem dX5_sheetOf_5 : decode cX5_sheetOf 5 = .ok (.iconst 0, 1) := by decide +kernel
theorem dX5_sheetOf_6 : decode cX5_sheetOf 6 = .ok (.iconst 3, 1) := by decide +kernel
theorem dX5_sheetOf_7 : decode cX5_sheetOf 7 = .ok (.invokestatic 79, 3) := by decide +kernel
theorem dX5_sheetOf_10 : decode cX5_sheetOf 10 = .ok (.ifCond .ne 6, 3) := by decide +kernel
theorem dX5_sheetOf_13 : decode cX5_sheetOf 13 = .ok (.ldc 83, 2) := by decide +kernel
theorem dX5_sheetOf_15 : decode cX5_sheetOf 15 = .ok (.ireturn, 1) := by decide +kernel
theorem dX5_sheetOf_16 : decode cX5_sheetOf 16 = .ok (.aload_n 0, 1) := by decide +kernel
theorem dX5_sheetOf_17 : decode cX5_sheetOf 17 = .ok (.getfield 10, 3) := by decide +kernel
theorem dX5_sheetOf_20 : decode cX5_sheetOf 20 = .ok (.getfield 159, 3) := by decide +kernel
theorem dX5_sheetOf_23 : decode cX5_sheetOf 23 = .ok (.iload_n 1, 1) := by decide +kernel
theorem dX5_sheetOf_24 : decode cX5_sheetOf 24 = .ok (.invokevirtual 177, 3) := by decide +kernel
theorem dX5_sheetOf_27 : decode cX5_sheetOf 27 = .ok (.istore_n 3, 1) := by decide +kernel
theorem dX5_sheetOf_28 : decode cX5_sheetOf 28 = .ok (.iload_n 3, 1) := by decide +kernel
theorem dX5_sheetOf_29 : decode cX5_sheetOf 29 = .ok (.ifCond .ge 6, 3) := by decide +kernel
theorem dX5_sheetOf_32 : decode cX5_sheetOf 32 = .ok (.ldc 104, 2) := by decide +kernel
theorem dX5_sheetOf_34 : decode cX5_sheetOf 34 = .ok (.ireturn, 1) := by decide +kernel
theorem dX5_sheetOf_35 : decode cX5_sheetOf 35 = .ok (.iload_n 2, 1) := by decide +kernel
theorem dX5_sheetOf_36 : decode cX5_sheetOf 36 = .ok (.tableswitch 79 0 2 #[28, 43, 58], 28) := by decide +kernel
theorem dX5_sheetOf_64 : decode cX5_sheetOf 64 = .ok (.aload_n 0, 1) := by decide +kernel
theorem dX5_sheetOf_65 : decode cX5_sheetOf 65 = .ok (.getfield 10, 3) := by decide +kernel
theorem dX5_sheetOf_68 : decode cX5_sheetOf 68 = .ok (.getfield 159, 3) := by decide +kernel
theorem dX5_sheetOf_71 : decode cX5_sheetOf 71 = .ok (.getfield 180, 3) := by decide +kernel
theorem dX5_sheetOf_74 : decode cX5_sheetOf 74 = .ok (.iload_n 3, 1) := by decide +kernel
theorem dX5_sheetOf_75 : decode cX5_sheetOf 75 = .ok (.invokestatic 88, 3) := by decide +kernel
theorem dX5_sheetOf_78 : decode cX5_sheetOf 78 = .ok (.ireturn, 1) := by decide +kernel
theorem dX5_sheetOf_79 : decode cX5_sheetOf 79 = .ok (.aload_n 0, 1) := by decide +kernel
theorem dX5_sheetOf_80 : decode cX5_sheetOf 80 = .ok (.getfield 10, 3) := by decide +kernel
theorem dX5_sheetOf_83 : decode cX5_sheetOf 83 = .ok (.getfield 159, 3) := by decide +kernel
theorem dX5_sheetOf_86 : decode cX5_sheetOf 86 = .ok (.getfield 168, 3) := by decide +kernel
theorem dX5_sheetOf_89 : decode cX5_sheetOf 89 = .ok (.iload_n 3, 1) := by decide +kernel
theorem dX5_sheetOf_90 : decode cX5_sheetOf 90 = .ok (.invokestatic 88, 3) := by decide +kernel
theorem dX5_sheetOf_93 : decode cX5_sheetOf 93 = .ok (.ireturn, 1) := by decide +kernel
theorem dX5_sheetOf_94 : decode cX5_sheetOf 94 = .ok (.aload_n 0, 1) := by decide +kernel
theorem dX5_sheetOf_95 : decode cX5_sheetOf 95 = .ok (.getfield 10, 3) := by decide +kernel
theorem dX5_sheetOf_98 : decode cX5_sheetOf 98 = .ok (.iload_n 3, 1) := by decide +kernel
theorem dX5_sheetOf_99 : decode cX5_sheetOf 99 = .ok (.aload_n 0, 1) := by decide +kernel
theorem dX5_sheetOf_100 : decode cX5_sheetOf 100 = .ok (.getfield 22, 3) := by decide +kernel
theorem dX5_sheetOf_103 : decode cX5_sheetOf 103 = .ok (.invokevirtual 183, 3) := by decide +kernel
theorem dX5_sheetOf_106 : decode cX5_sheetOf 106 = .ok (.ifCond .eq 7, 3) := by decide +kernel
theorem dX5_sheetOf_109 : decode cX5_sheetOf 109 = .ok (.iconst 1, 1) := by decide +kernel
theorem dX5_sheetOf_110 : decode cX5_sheetOf 110 = .ok (.goto 4, 3) := by decide +kernel
theorem dX5_sheetOf_113 : decode cX5_sheetOf 113 = .ok (.iconst 0, 1) := by decide +kernel
theorem dX5_sheetOf_114 : decode cX5_sheetOf 114 = .ok (.ireturn, 1) := by decide +kernel
theorem dX5_sheetOf_115 : decode cX5_sheetOf 115 = .ok (.aload_n 0, 1) := by decide +kernel
theorem dX5_sheetOf_116 : decode cX5_sheetOf 116 = .ok (.getfield 10, 3) := by decide +kernel
theorem dX5_sheetOf_119 : decode cX5_sheetOf 119 = .ok (.getfield 159, 3) := by decide +kernel
theorem dX5_sheetOf_122 : decode cX5_sheetOf 122 = .ok (.iload_n 3, 1) := by decide +kernel
theorem dX5_sheetOf_123 : decode cX5_sheetOf 123 = .ok (.invokevirtual 187, 3) := by decide +kernel
theorem dX5_sheetOf_126 : decode cX5_sheetOf 126 = .ok (.ireturn, 1) := by decide +kernel
theorem dX5_even_0 : decode cX5_even 0 = .ok (.iload_n 1, 1) := by decide +kernel
theorem dX5_even_1 : decode cX5_even 1 = .ok (.invokestatic 111, 3) := by decide +kernel
theorem dX5_even_4 : decode cX5_even 4 = .ok (.ifCond .ne 6, 3) := by decide +kernel
theorem dX5_even_7 : decode cX5_even 7 = .ok (.ldc 83, 2) := by decide +kernel
theorem dX5_even_9 : decode cX5_even 9 = .ok (.ireturn, 1) := by decide +kernel
theorem dX5_even_10 : decode cX5_even 10 = .ok (.aload_n 0, 1) := by decide +kernel
theorem dX5_even_11 : decode cX5_even 11 = .ok (.getfield 22, 3) := by decide +kernel
theorem dX5_even_14 : decode cX5_even 14 = .ok (.aload_n 0, 1) := by decide +kernel
theorem dX5_even_15 : decode cX5_even 15 = .ok (.getfield 10, 3) := by decide +kernel
theorem dX5_even_18 : decode cX5_even 18 = .ok (.iload_n 1, 1) := by decide +kernel
theorem dX5_even_19 : decode cX5_even 19 = .ok (.invokevirtual 190, 3) := by decide +kernel
theorem dX5_even_22 : decode cX5_even 22 = .ok (.ifCond .eq 7, 3) := by decide +kernel
theorem dX5_even_25 : decode cX5_even 25 = .ok (.iconst 1, 1) := by decide +kernel
theorem dX5_even_26 : decode cX5_even 26 = .ok (.goto 4, 3) := by decide +kernel
theorem dX5_even_29 : decode cX5_even 29 = .ok (.iconst 0, 1) := by decide +kernel
theorem dX5_even_30 : decode cX5_even 30 = .ok (.ireturn, 1) := by decide +kernel
theorem dX5_clear_0 : decode cX5_clear 0 = .ok (.aload_n 0, 1) := by decide +kernel
theorem dX5_clear_1 : decode cX5_clear 1 = .ok (.getfield 10, 3) := by decide +kernel
theorem dX5_clear_4 : decode cX5_clear 4 = .ok (.iload_n 1, 1) := by decide +kernel
theorem dX5_clear_5 : decode cX5_clear 5 = .ok (.invokevirtual 132, 3) := by decide +kernel
theorem dX5_clear_8 : decode cX5_clear 8 = .ok (.ifCond .ne 6, 3) := by decide +kernel
theorem dX5_clear_11 : decode cX5_clear 11 = .ok (.ldc 83, 2) := by decide +kernel
theorem dX5_clear_13 : decode cX5_clear 13 = .ok (.ireturn, 1) := by decide +kernel
theorem dX5_clear_14 : decode cX5_clear 14 = .ok (.bipush 6, 2) := by decide +kernel
theorem dX5_clear_16 : decode cX5_clear 16 = .ok (.istore_n 2, 1) := by decide +kernel
theorem dX5_clear_17 : decode cX5_clear 17 = .ok (.iload_n 2, 1) := by decide +kernel
theorem dX5_clear_18 : decode cX5_clear 18 = .ok (.bipush 48, 2) := by decide +kernel
theorem dX5_clear_20 : decode cX5_clear 20 = .ok (.if_icmp .gt 34, 3) := by decide +kernel
theorem dX5_clear_23 : decode cX5_clear 23 = .ok (.aload_n 0, 1) := by decide +kernel
theorem dX5_clear_24 : decode cX5_clear 24 = .ok (.getfield 22, 3) := by decide +kernel
theorem dX5_clear_27 : decode cX5_clear 27 = .ok (.aload_n 0, 1) := by decide +kernel
theorem dX5_clear_28 : decode cX5_clear 28 = .ok (.getfield 10, 3) := by decide +kernel
theorem dX5_clear_31 : decode cX5_clear 31 = .ok (.iload_n 1, 1) := by decide +kernel
theorem dX5_clear_32 : decode cX5_clear 32 = .ok (.iload_n 2, 1) := by decide +kernel
theorem dX5_clear_33 : decode cX5_clear 33 = .ok (.invokevirtual 115, 3) := by decide +kernel
theorem dX5_clear_36 : decode cX5_clear 36 = .ok (.aload_n 0, 1) := by decide +kernel
theorem dX5_clear_37 : decode cX5_clear 37 = .ok (.getfield 22, 3) := by decide +kernel
theorem dX5_clear_40 : decode cX5_clear 40 = .ok (.invokevirtual 148, 3) := by decide +kernel
theorem dX5_clear_43 : decode cX5_clear 43 = .ok (.ifCond .eq 5, 3) := by decide +kernel
theorem dX5_clear_46 : decode cX5_clear 46 = .ok (.iload_n 2, 1) := by decide +kernel
theorem dX5_clear_47 : decode cX5_clear 47 = .ok (.ireturn, 1) := by decide +kernel
theorem dX5_clear_48 : decode cX5_clear 48 = .ok (.iinc 2 1, 3) := by decide +kernel
theorem dX5_clear_51 : decode cX5_clear 51 = .ok (.goto (-34), 3) := by decide +kernel
theorem dX5_clear_54 : decode cX5_clear 54 = .ok (.ldc 104, 2) := by decide +kernel
theorem dX5_clear_56 : decode cX5_clear 56 = .ok (.ireturn, 1) := by decide +kernel
theorem dX5_best_0 : decode cX5_best 0 = .ok (.aload_n 0, 1) := by decide +kernel
theorem dX5_best_1 : decode cX5_best 1 = .ok (.getfield 10, 3) := by decide +kernel
theorem dX5_best_4 : decode cX5_best 4 = .ok (.iload_n 1, 1) := by decide +kernel
theorem dX5_best_5 : decode cX5_best 5 = .ok (.iload_n 2, 1) := by decide +kernel
theorem dX5_best_6 : decode cX5_best 6 = .ok (.invokevirtual 75, 3) := by decide +kernel
theorem dX5_best_9 : decode cX5_best 9 = .ok (.ifCond .eq 12, 3) := by decide +kernel
theorem dX5_best_12 : decode cX5_best 12 = .ok (.iload_n 3, 1) := by decide +kernel
theorem dX5_best_13 : decode cX5_best 13 = .ok (.iconst 0, 1) := by decide +kernel
theorem dX5_best_14 : decode cX5_best 14 = .ok (.iconst 1, 1) := by decide +kernel
theorem dX5_best_15 : decode cX5_best 15 = .ok (.invokestatic 79, 3) := by decide +kernel
theorem dX5_best_18 : decode cX5_best 18 = .ok (.ifCond .ne 6, 3) := by decide +kernel
theorem dX5_best_21 : decode cX5_best 21 = .ok (.ldc 83, 2) := by decide +kernel
theorem dX5_best_23 : decode cX5_best 23 = .ok (.ireturn, 1) := by decide +kernel
theorem dX5_best_24 : decode cX5_best 24 = .ok (.aload_n 0, 1) := by decide +kernel
theorem dX5_best_25 : decode cX5_best 25 = .ok (.getfield 16, 3) := by decide +kernel
theorem dX5_best_28 : decode cX5_best 28 = .ok (.aload_n 0, 1) := by decide +kernel
theorem dX5_best_29 : decode cX5_best 29 = .ok (.getfield 10, 3) := by decide +kernel
theorem dX5_best_32 : decode cX5_best 32 = .ok (.invokevirtual 194, 3) := by decide +kernel
theorem dX5_best_35 : decode cX5_best 35 = .ok (.iconst 0, 1) := by decide +kernel
theorem dX5_best_36 : decode cX5_best 36 = .ok (.istore 4, 2) := by decide +kernel
theorem dX5_best_38 : decode cX5_best 38 = .ok (.iconst (-1), 1) := by decide +kernel
theorem dX5_best_39 : decode cX5_best 39 = .ok (.istore 5, 2) := by decide +kernel
theorem dX5_best_41 : decode cX5_best 41 = .ok (.iconst 0, 1) := by decide +kernel
theorem dX5_best_42 : decode cX5_best 42 = .ok (.istore 6, 2) := by decide +kernel
theorem dX5_best_44 : decode cX5_best 44 = .ok (.iload 6, 2) := by decide +kernel
theorem dX5_best_46 : decode cX5_best 46 = .ok (.iconst 3, 1) := by decide +kernel
theorem dX5_best_47 : decode cX5_best 47 = .ok (.if_icmp .gt 53, 3) := by decide +kernel
theorem dX5_best_50 : decode cX5_best 50 = .ok (.aload_n 0, 1) := by decide +kernel
theorem dX5_best_51 : decode cX5_best 51 = .ok (.getfield 16, 3) := by decide +kernel
theorem dX5_best_54 : decode cX5_best 54 = .ok (.getfield 95, 3) := by decide +kernel
theorem dX5_best_57 : decode cX5_best 57 = .ok (.iload_n 1, 1) := by decide +kernel
theorem dX5_best_58 : decode cX5_best 58 = .ok (.bipush 6, 2) := by decide +kernel
theorem dX5_best_60 : decode cX5_best 60 = .ok (.imul, 1) := by decide +kernel
theorem dX5_best_61 : decode cX5_best 61 = .ok (.iload_n 2, 1) := by decide +kernel
theorem dX5_best_62 : decode cX5_best 62 = .ok (.iadd, 1) := by decide +kernel
theorem dX5_best_63 : decode cX5_best 63 = .ok (.iload 6, 2) := by decide +kernel
theorem dX5_best_65 : decode cX5_best 65 = .ok (.invokestatic 197, 3) := by decide +kernel
theorem dX5_best_68 : decode cX5_best 68 = .ok (.aload_n 0, 1) := by decide +kernel
theorem dX5_best_69 : decode cX5_best 69 = .ok (.aload_n 0, 1) := by decide +kernel
theorem dX5_best_70 : decode cX5_best 70 = .ok (.getfield 16, 3) := by decide +kernel
theorem dX5_best_73 : decode cX5_best 73 = .ok (.iload_n 1, 1) := by decide +kernel
theorem dX5_best_74 : decode cX5_best 74 = .ok (.invokevirtual 201, 3) := by decide +kernel
theorem dX5_best_77 : decode cX5_best 77 = .ok (.istore 7, 2) := by decide +kernel
theorem dX5_best_79 : decode cX5_best 79 = .ok (.iload 7, 2) := by decide +kernel
theorem dX5_best_81 : decode cX5_best 81 = .ok (.iload 5, 2) := by decide +kernel
theorem dX5_best_83 : decode cX5_best 83 = .ok (.if_icmp .le 11, 3) := by decide +kernel
theorem dX5_best_86 : decode cX5_best 86 = .ok (.iload 7, 2) := by decide +kernel
theorem dX5_best_88 : decode cX5_best 88 = .ok (.istore 5, 2) := by decide +kernel
theorem dX5_best_90 : decode cX5_best 90 = .ok (.iload 6, 2) := by decide +kernel
theorem dX5_best_92 : decode cX5_best 92 = .ok (.istore 4, 2) := by decide +kernel
theorem dX5_best_94 : decode cX5_best 94 = .ok (.iinc 6 1, 3) := by decide +kernel
theorem dX5_best_97 : decode cX5_best 97 = .ok (.goto (-53), 3) := by decide +kernel
theorem dX5_best_100 : decode cX5_best 100 = .ok (.iload_n 3, 1) := by decide +kernel
theorem dX5_best_101 : decode cX5_best 101 = .ok (.ifCond .ne 8, 3) := by decide +kernel
theorem dX5_best_104 : decode cX5_best 104 = .ok (.iload 4, 2) := by decide +kernel
theorem dX5_best_106 : decode cX5_best 106 = .ok (.goto 5, 3) := by decide +kernel
theorem dX5_best_109 : decode cX5_best 109 = .ok (.iload 5, 2) := by decide +kernel
theorem dX5_best_111 : decode cX5_best 111 = .ok (.ireturn, 1) := by decide +kernel
theorem dX5_mean_0 : decode cX5_mean 0 = .ok (.aload_n 0, 1) := by decide +kernel
theorem dX5_mean_1 : decode cX5_mean 1 = .ok (.getfield 10, 3) := by decide +kernel
theorem dX5_mean_4 : decode cX5_mean 4 = .ok (.invokevirtual 205, 3) := by decide +kernel
theorem dX5_mean_7 : decode cX5_mean 7 = .ok (.istore_n 1, 1) := by decide +kernel
theorem dX5_mean_8 : decode cX5_mean 8 = .ok (.iload_n 1, 1) := by decide +kernel
theorem dX5_mean_9 : decode cX5_mean 9 = .ok (.ifCond .gt 6, 3) := by decide +kernel
theorem dX5_mean_12 : decode cX5_mean 12 = .ok (.ldc 104, 2) := by decide +kernel
theorem dX5_mean_14 : decode cX5_mean 14 = .ok (.ireturn, 1) := by decide +kernel
theorem dX5_mean_15 : decode cX5_mean 15 = .ok (.aload_n 0, 1) := by decide +kernel
theorem dX5_mean_16 : decode cX5_mean 16 = .ok (.getfield 10, 3) := by decide +kernel
theorem dX5_mean_19 : decode cX5_mean 19 = .ok (.invokevirtual 209, 3) := by decide +kernel
theorem dX5_mean_22 : decode cX5_mean 22 = .ok (.i2f, 1) := by decide +kernel
theorem dX5_mean_23 : decode cX5_mean 23 = .ok (.iload_n 1, 1) := by decide +kernel
theorem dX5_mean_24 : decode cX5_mean 24 = .ok (.i2f, 1) := by decide +kernel
theorem dX5_mean_25 : decode cX5_mean 25 = .ok (.fdiv, 1) := by decide +kernel
theorem dX5_mean_26 : decode cX5_mean 26 = .ok (.invokestatic 212, 3) := by decide +kernel
theorem dX5_mean_29 : decode cX5_mean 29 = .ok (.ireturn, 1) := by decide +kernel
theorem dX5_count_0 : decode cX5_count 0 = .ok (.iload_n 1, 1) := by decide +kernel
theorem dX5_count_1 : decode cX5_count 1 = .ok (.tableswitch 228 0 21 #[103, 111, 119, 127, 138, 143, 151, 162, 170, 228, 178, 178, 178, 228, 228, 228, 228, 228, 228, 228, 212, 220], 103) := by decide +kernel
theorem dX5_count_104 : decode cX5_count 104 = .ok (.aload_n 0, 1) := by decide +kernel
theorem dX5_count_105 : decode cX5_count 105 = .ok (.getfield 10, 3) := by decide +kernel
theorem dX5_count_108 : decode cX5_count 108 = .ok (.getfield 216, 3) := by decide +kernel
theorem dX5_count_111 : decode cX5_count 111 = .ok (.ireturn, 1) := by decide +kernel
theorem dX5_count_112 : decode cX5_count 112 = .ok (.aload_n 0, 1) := by decide +kernel
theorem dX5_count_113 : decode cX5_count 113 = .ok (.getfield 10, 3) := by decide +kernel
theorem dX5_count_116 : decode cX5_count 116 = .ok (.invokevirtual 205, 3) := by decide +kernel
theorem dX5_count_119 : decode cX5_count 119 = .ok (.ireturn, 1) := by decide +kernel
theorem dX5_count_120 : decode cX5_count 120 = .ok (.aload_n 0, 1) := by decide +kernel
theorem dX5_count_121 : decode cX5_count 121 = .ok (.getfield 10, 3) := by decide +kernel
theorem dX5_count_124 : decode cX5_count 124 = .ok (.getfield 218, 3) := by decide +kernel
theorem dX5_count_127 : decode cX5_count 127 = .ok (.ireturn, 1) := by decide +kernel
theorem dX5_count_128 : decode cX5_count 128 = .ok (.aload_n 0, 1) := by decide +kernel
theorem dX5_count_129 : decode cX5_count 129 = .ok (.getfield 10, 3) := by decide +kernel
theorem dX5_count_132 : decode cX5_count 132 = .ok (.getfield 159, 3) := by decide +kernel
theorem dX5_count_135 : decode cX5_count 135 = .ok (.invokevirtual 221, 3) := by decide +kernel
theorem dX5_count_138 : decode cX5_count 138 = .ok (.ireturn, 1) := by decide +kernel
theorem dX5_count_139 : decode cX5_count 139 = .ok (.aload_n 0, 1) := by decide +kernel
theorem dX5_count_140 : decode cX5_count 140 = .ok (.invokevirtual 224, 3) := by decide +kernel
theorem dX5_count_143 : decode cX5_count 143 = .ok (.ireturn, 1) := by decide +kernel
theorem dX5_count_144 : decode cX5_count 144 = .ok (.aload_n 0, 1) := by decide +kernel
theorem dX5_count_145 : decode cX5_count 145 = .ok (.getfield 10, 3) := by decide +kernel
theorem dX5_count_148 : decode cX5_count 148 = .ok (.invokevirtual 227, 3) := by decide +kernel
theorem dX5_count_151 : decode cX5_count 151 = .ok (.ireturn, 1) := by decide +kernel
theorem dX5_count_152 : decode cX5_count 152 = .ok (.aload_n 0, 1) := by decide +kernel
theorem dX5_count_153 : decode cX5_count 153 = .ok (.getfield 10, 3) := by decide +kernel
theorem dX5_count_156 : decode cX5_count 156 = .ok (.getfield 159, 3) := by decide +kernel
theorem dX5_count_159 : decode cX5_count 159 = .ok (.getfield 230, 3) := by decide +kernel
theorem dX5_count_162 : decode cX5_count 162 = .ok (.ireturn, 1) := by decide +kernel
theorem dX5_count_163 : decode cX5_count 163 = .ok (.aload_n 0, 1) := by decide +kernel
theorem dX5_count_164 : decode cX5_count 164 = .ok (.getfield 36, 3) := by decide +kernel
theorem dX5_count_167 : decode cX5_count 167 = .ok (.getfield 233, 3) := by decide +kernel
theorem dX5_count_170 : decode cX5_count 170 = .ok (.ireturn, 1) := by decide +kernel
theorem dX5_count_171 : decode cX5_count 171 = .ok (.aload_n 0, 1) := by decide +kernel
theorem dX5_count_172 : decode cX5_count 172 = .ok (.getfield 29, 3) := by decide +kernel
theorem dX5_count_175 : decode cX5_count 175 = .ok (.getfield 236, 3) := by decide +kernel
theorem dX5_count_178 : decode cX5_count 178 = .ok (.ireturn, 1) := by decide +kernel
theorem dX5_count_179 : decode cX5_count 179 = .ok (.iload_n 1, 1) := by decide +kernel
theorem dX5_count_180 : decode cX5_count 180 = .ok (.bipush 10, 2) := by decide +kernel
theorem dX5_count_182 : decode cX5_count 182 = .ok (.isub, 1) := by decide +kernel
theorem dX5_count_183 : decode cX5_count 183 = .ok (.aload_n 0, 1) := by decide +kernel
theorem dX5_count_184 : decode cX5_count 184 = .ok (.getfield 10, 3) := by decide +kernel
theorem dX5_count_187 : decode cX5_count 187 = .ok (.getfield 218, 3) := by decide +kernel
theorem dX5_count_190 : decode cX5_count 190 = .ok (.if_icmp .ge 20, 3) := by decide +kernel
theorem dX5_count_193 : decode cX5_count 193 = .ok (.aload_n 0, 1) := by decide +kernel
theorem dX5_count_194 : decode cX5_count 194 = .ok (.getfield 10, 3) := by decide +kernel
theorem dX5_count_197 : decode cX5_count 197 = .ok (.getfield 239, 3) := by decide +kernel
theorem dX5_count_200 : decode cX5_count 200 = .ok (.iload_n 1, 1) := by decide +kernel
theorem dX5_count_201 : decode cX5_count 201 = .ok (.bipush 10, 2) := by decide +kernel
theorem dX5_count_203 : decode cX5_count 203 = .ok (.isub, 1) := by decide +kernel
theorem dX5_count_204 : decode cX5_count 204 = .ok (.invokestatic 88, 3) := by decide +kernel
theorem dX5_count_207 : decode cX5_count 207 = .ok (.goto 5, 3) := by decide +kernel
theorem dX5_count_210 : decode cX5_count 210 = .ok (.ldc 104, 2) := by decide +kernel
theorem dX5_count_212 : decode cX5_count 212 = .ok (.ireturn, 1) := by decide +kernel
theorem dX5_count_213 : decode cX5_count 213 = .ok (.aload_n 0, 1) := by decide +kernel
theorem dX5_count_214 : decode cX5_count 214 = .ok (.getfield 10, 3) := by decide +kernel
theorem dX5_count_217 : decode cX5_count 217 = .ok (.getfield 242, 3) := by decide +kernel
theorem dX5_count_220 : decode cX5_count 220 = .ok (.ireturn, 1) := by decide +kernel
theorem dX5_count_221 : decode cX5_count 221 = .ok (.aload_n 0, 1) := by decide +kernel
theorem dX5_count_222 : decode cX5_count 222 = .ok (.getfield 10, 3) := by decide +kernel
theorem dX5_count_225 : decode cX5_count 225 = .ok (.getfield 245, 3) := by decide +kernel
theorem dX5_count_228 : decode cX5_count 228 = .ok (.ireturn, 1) := by decide +kernel
theorem dX5_count_229 : decode cX5_count 229 = .ok (.ldc 83, 2) := by decide +kernel
theorem dX5_count_231 : decode cX5_count 231 = .ok (.ireturn, 1) := by decide +kernel
theorem dX5_undo_0 : decode cX5_undo 0 = .ok (.aload_n 0, 1) := by decide +kernel
theorem dX5_undo_1 : decode cX5_undo 1 = .ok (.getfield 36, 3) := by decide +kernel
theorem dX5_undo_4 : decode cX5_undo 4 = .ok (.aload_n 0, 1) := by decide +kernel
theorem dX5_undo_5 : decode cX5_undo 5 = .ok (.getfield 10, 3) := by decide +kernel
theorem dX5_undo_8 : decode cX5_undo 8 = .ok (.invokevirtual 248, 3) := by decide +kernel
theorem dX5_undo_11 : decode cX5_undo 11 = .ok (.ifCond .eq 13, 3) := by decide +kernel
theorem dX5_undo_14 : decode cX5_undo 14 = .ok (.aload_n 0, 1) := by decide +kernel
theorem dX5_undo_15 : decode cX5_undo 15 = .ok (.getfield 36, 3) := by decide +kernel
theorem dX5_undo_18 : decode cX5_undo 18 = .ok (.getfield 233, 3) := by decide +kernel
theorem dX5_undo_21 : decode cX5_undo 21 = .ok (.goto 5, 3) := by decide +kernel
theorem dX5_undo_24 : decode cX5_undo 24 = .ok (.ldc 252, 2) := by decide +kernel
theorem dX5_undo_26 : decode cX5_undo 26 = .ok (.ireturn, 1) := by decide +kernel
theorem dX5_type_0 : decode cX5_type 0 = .ok (.iload_n 1, 1) := by decide +kernel
theorem dX5_type_1 : decode cX5_type 1 = .ok (.bipush 32, 2) := by decide +kernel
theorem dX5_type_3 : decode cX5_type 3 = .ok (.bipush 126, 2) := by decide +kernel
theorem dX5_type_5 : decode cX5_type 5 = .ok (.invokestatic 79, 3) := by decide +kernel
theorem dX5_type_8 : decode cX5_type 8 = .ok (.ifCond .ne 6, 3) := by decide +kernel
theorem dX5_type_11 : decode cX5_type 11 = .ok (.ldc 83, 2) := by decide +kernel
theorem dX5_type_13 : decode cX5_type 13 = .ok (.ireturn, 1) := by decide +kernel
theorem dX5_type_14 : decode cX5_type 14 = .ok (.aload_n 0, 1) := by decide +kernel
theorem dX5_type_15 : decode cX5_type 15 = .ok (.getfield 29, 3) := by decide +kernel
theorem dX5_type_18 : decode cX5_type 18 = .ok (.iload_n 1, 1) := by decide +kernel
theorem dX5_type_19 : decode cX5_type 19 = .ok (.invokevirtual 253, 3) := by decide +kernel
theorem dX5_type_22 : decode cX5_type 22 = .ok (.ifCond .eq 13, 3) := by decide +kernel
theorem dX5_type_25 : decode cX5_type 25 = .ok (.aload_n 0, 1) := by decide +kernel
theorem dX5_type_26 : decode cX5_type 26 = .ok (.getfield 29, 3) := by decide +kernel
theorem dX5_type_29 : decode cX5_type 29 = .ok (.getfield 236, 3) := by decide +kernel
theorem dX5_type_32 : decode cX5_type 32 = .ok (.goto 6, 3) := by decide +kernel
theorem dX5_type_35 : decode cX5_type 35 = .ok (.ldc_w 256, 3) := by decide +kernel
theorem dX5_type_38 : decode cX5_type 38 = .ok (.ireturn, 1) := by decide +kernel
theorem dX5_clearText_0 : decode cX5_clearText 0 = .ok (.aload_n 0, 1) := by decide +kernel
theorem dX5_clearText_1 : decode cX5_clearText 1 = .ok (.getfield 29, 3) := by decide +kernel
theorem dX5_clearText_4 : decode cX5_clearText 4 = .ok (.getfield 236, 3) := by decide +kernel
theorem dX5_clearText_7 : decode cX5_clearText 7 = .ok (.istore_n 1, 1) := by decide +kernel
theorem dX5_clearText_8 : decode cX5_clearText 8 = .ok (.aload_n 0, 1) := by decide +kernel
theorem dX5_clearText_9 : decode cX5_clearText 9 = .ok (.getfield 29, 3) := by decide +kernel
theorem dX5_clearText_12 : decode cX5_clearText 12 = .ok (.iconst 0, 1) := by decide +kernel
theorem dX5_clearText_13 : decode cX5_clearText 13 = .ok (.putfield 236, 3) := by decide +kernel
theorem dX5_clearText_16 : decode cX5_clearText 16 = .ok (.iload_n 1, 1) := by decide +kernel
theorem dX5_clearText_17 : decode cX5_clearText 17 = .ok (.ireturn, 1) := by decide +kernel
theorem dX5_fault_0 : decode cX5_fault 0 = .ok (.iload_n 1, 1) := by decide +kernel
theorem dX5_fault_1 : decode cX5_fault 1 = .ok (.iconst 0, 1) := by decide +kernel
theorem dX5_fault_2 : decode cX5_fault 2 = .ok (.iconst 2, 1) := by decide +kernel
theorem dX5_fault_3 : decode cX5_fault 3 = .ok (.invokestatic 79, 3) := by decide +kernel
theorem dX5_fault_6 : decode cX5_fault 6 = .ok (.ifCond .ne 6, 3) := by decide +kernel
theorem dX5_fault_9 : decode cX5_fault 9 = .ok (.ldc 83, 2) := by decide +kernel
theorem dX5_fault_11 : decode cX5_fault 11 = .ok (.ireturn, 1) := by decide +kernel
theorem dX5_fault_12 : decode cX5_fault 12 = .ok (.aload_n 0, 1) := by decide +kernel
theorem dX5_fault_13 : decode cX5_fault 13 = .ok (.getfield 16, 3) := by decide +kernel
theorem dX5_fault_16 : decode cX5_fault 16 = .ok (.aload_n 0, 1) := by decide +kernel
theorem dX5_fault_17 : decode cX5_fault 17 = .ok (.getfield 10, 3) := by decide +kernel
theorem dX5_fault_20 : decode cX5_fault 20 = .ok (.invokevirtual 194, 3) := by decide +kernel
theorem dX5_fault_23 : decode cX5_fault 23 = .ok (.aload_n 0, 1) := by decide +kernel
theorem dX5_fault_24 : decode cX5_fault 24 = .ok (.getfield 29, 3) := by decide +kernel
theorem dX5_fault_27 : decode cX5_fault 27 = .ok (.aload_n 0, 1) := by decide +kernel
theorem dX5_fault_28 : decode cX5_fault 28 = .ok (.getfield 16, 3) := by decide +kernel
theorem dX5_fault_31 : decode cX5_fault 31 = .ok (.aload_n 0, 1) := by decide +kernel
theorem dX5_fault_32 : decode cX5_fault 32 = .ok (.getfield 22, 3) := by decide +kernel
theorem dX5_fault_35 : decode cX5_fault 35 = .ok (.invokevirtual 257, 3) := by decide +kernel
theorem dX5_fault_38 : decode cX5_fault 38 = .ok (.aload_n 0, 1) := by decide +kernel
theorem dX5_fault_39 : decode cX5_fault 39 = .ok (.getfield 29, 3) := by decide +kernel
theorem dX5_fault_42 : decode cX5_fault 42 = .ok (.getfield 261, 3) := by decide +kernel
theorem dX5_fault_45 : decode cX5_fault 45 = .ok (.ifCond .ne 6, 3) := by decide +kernel
theorem dX5_fault_48 : decode cX5_fault 48 = .ok (.ldc 104, 2) := by decide +kernel
theorem dX5_fault_50 : decode cX5_fault 50 = .ok (.ireturn, 1) := by decide +kernel
theorem dX5_fault_51 : decode cX5_fault 51 = .ok (.iload_n 1, 1) := by decide +kernel
theorem dX5_fault_52 : decode cX5_fault 52 = .ok (.lookupswitch 44 #[(0, 28), (1, 36)], 28) := by decide +kernel
theorem dX5_fault_80 : decode cX5_fault 80 = .ok (.aload_n 0, 1) := by decide +kernel
theorem dX5_fault_81 : decode cX5_fault 81 = .ok (.getfield 29, 3) := by decide +kernel
theorem dX5_fault_84 : decode cX5_fault 84 = .ok (.getfield 264, 3) := by decide +kernel
theorem dX5_fault_87 : decode cX5_fault 87 = .ok (.ireturn, 1) := by decide +kernel
theorem dX5_fault_88 : decode cX5_fault 88 = .ok (.aload_n 0, 1) := by decide +kernel
theorem dX5_fault_89 : decode cX5_fault 89 = .ok (.getfield 29, 3) := by decide +kernel
theorem dX5_fault_92 : decode cX5_fault 92 = .ok (.getfield 261, 3) := by decide +kernel
theorem dX5_fault_95 : decode cX5_fault 95 = .ok (.ireturn, 1) := by decide +kernel
theorem dX5_fault_96 : decode cX5_fault 96 = .ok (.aload_n 0, 1) := by decide +kernel
theorem dX5_fault_97 : decode cX5_fault 97 = .ok (.getfield 29, 3) := by decide +kernel
theorem dX5_fault_100 : decode cX5_fault 100 = .ok (.getfield 267, 3) := by decide +kernel
theorem dX5_fault_103 : decode cX5_fault 103 = .ok (.ireturn, 1) := by decide +kernel
theorem dX5_play_0 : decode cX5_play 0 = .ok (.aload_n 0, 1) := by decide +kernel
theorem dX5_play_1 : decode cX5_play 1 = .ok (.getfield 16, 3) := by decide +kernel
theorem dX5_play_4 : decode cX5_play 4 = .ok (.aload_n 0, 1) := by decide +kernel
theorem dX5_play_5 : decode cX5_play 5 = .ok (.getfield 10, 3) := by decide +kernel
theorem dX5_play_8 : decode cX5_play 8 = .ok (.invokevirtual 194, 3) := by decide +kernel
theorem dX5_play_11 : decode cX5_play 11 = .ok (.aload_n 0, 1) := by decide +kernel
theorem dX5_play_12 : decode cX5_play 12 = .ok (.getfield 29, 3) := by decide +kernel
theorem dX5_play_15 : decode cX5_play 15 = .ok (.aload_n 0, 1) := by decide +kernel
theorem dX5_play_16 : decode cX5_play 16 = .ok (.getfield 16, 3) := by decide +kernel
theorem dX5_play_19 : decode cX5_play 19 = .ok (.aload_n 0, 1) := by decide +kernel
theorem dX5_play_20 : decode cX5_play 20 = .ok (.getfield 22, 3) := by decide +kernel
theorem dX5_play_23 : decode cX5_play 23 = .ok (.invokevirtual 257, 3) := by decide +kernel
theorem dX5_play_26 : decode cX5_play 26 = .ok (.aload_n 0, 1) := by decide +kernel
theorem dX5_play_27 : decode cX5_play 27 = .ok (.getfield 29, 3) := by decide +kernel
theorem dX5_play_30 : decode cX5_play 30 = .ok (.getfield 261, 3) := by decide +kernel
theorem dX5_play_33 : decode cX5_play 33 = .ok (.ifCond .eq 6, 3) := by decide +kernel
theorem dX5_play_36 : decode cX5_play 36 = .ok (.ldc 252, 2) := by decide +kernel
theorem dX5_play_38 : decode cX5_play 38 = .ok (.ireturn, 1) := by decide +kernel
theorem dX5_play_39 : decode cX5_play 39 = .ok (.aload_n 0, 1) := by decide +kernel
theorem dX5_play_40 : decode cX5_play 40 = .ok (.getfield 36, 3) := by decide +kernel
theorem dX5_play_43 : decode cX5_play 43 = .ok (.aload_n 0, 1) := by decide +kernel
theorem dX5_play_44 : decode cX5_play 44 = .ok (.getfield 10, 3) := by decide +kernel
theorem dX5_play_47 : decode cX5_play 47 = .ok (.invokevirtual 40, 3) := by decide +kernel
theorem dX5_play_50 : decode cX5_play 50 = .ok (.aload_n 0, 1) := by decide +kernel
theorem dX5_play_51 : decode cX5_play 51 = .ok (.getfield 10, 3) := by decide +kernel
theorem dX5_play_54 : decode cX5_play 54 = .ok (.aload_n 0, 1) := by decide +kernel
theorem dX5_play_55 : decode cX5_play 55 = .ok (.getfield 16, 3) := by decide +kernel
theorem dX5_play_58 : decode cX5_play 58 = .ok (.invokevirtual 194, 3) := by decide +kernel
theorem dX5_play_61 : decode cX5_play 61 = .ok (.aload_n 0, 1) := by decide +kernel
theorem dX5_play_62 : decode cX5_play 62 = .ok (.aload_n 0, 1) := by decide +kernel
theorem dX5_play_63 : decode cX5_play 63 = .ok (.getfield 29, 3) := by decide +kernel
theorem dX5_play_66 : decode cX5_play 66 = .ok (.getfield 270, 3) := by decide +kernel
theorem dX5_play_69 : decode cX5_play 69 = .ok (.invokevirtual 48, 3) := by decide +kernel
theorem dX5_play_72 : decode cX5_play 72 = .ok (.ireturn, 1) := by decide +kernel
theorem dX5_settled_0 : decode cX5_settled 0 = .ok (.iload_n 1, 1) := by decide +kernel
theorem dX5_settled_1 : decode cX5_settled 1 = .ok (.ifCond .lt 10, 3) := by decide +kernel
theorem dX5_settled_4 : decode cX5_settled 4 = .ok (.aload_n 0, 1) := by decide +kernel
theorem dX5_settled_5 : decode cX5_settled 5 = .ok (.getfield 36, 3) := by decide +kernel
theorem dX5_settled_8 : decode cX5_settled 8 = .ok (.invokevirtual 273, 3) := by decide +kernel
theorem dX5_settled_11 : decode cX5_settled 11 = .ok (.iload_n 1, 1) := by decide +kernel
theorem dX5_settled_12 : decode cX5_settled 12 = .ok (.ireturn, 1) := by decide +kernel
theorem dX5_clearSizes_0 : decode cX5_clearSizes 0 = .ok (.iconst 0, 1) := by decide +kernel
theorem dX5_clearSizes_1 : decode cX5_clearSizes 1 = .ok (.istore_n 3, 1) := by decide +kernel
theorem dX5_clearSizes_2 : decode cX5_clearSizes 2 = .ok (.bipush 6, 2) := by decide +kernel
theorem dX5_clearSizes_4 : decode cX5_clearSizes 4 = .ok (.istore 4, 2) := by decide +kernel
theorem dX5_clearSizes_6 : decode cX5_clearSizes 6 = .ok (.iload 4, 2) := by decide +kernel
theorem dX5_clearSizes_8 : decode cX5_clearSizes 8 = .ok (.bipush 48, 2) := by decide +kernel
theorem dX5_clearSizes_10 : decode cX5_clearSizes 10 = .ok (.if_icmp .gt 33, 3) := by decide +kernel
theorem dX5_clearSizes_13 : decode cX5_clearSizes 13 = .ok (.aload_n 0, 1) := by decide +kernel
theorem dX5_clearSizes_14 : decode cX5_clearSizes 14 = .ok (.getfield 22, 3) := by decide +kernel
theorem dX5_clearSizes_17 : decode cX5_clearSizes 17 = .ok (.aload_n 1, 1) := by decide +kernel
theorem dX5_clearSizes_18 : decode cX5_clearSizes 18 = .ok (.iload_n 2, 1) := by decide +kernel
theorem dX5_clearSizes_19 : decode cX5_clearSizes 19 = .ok (.iload 4, 2) := by decide +kernel
theorem dX5_clearSizes_21 : decode cX5_clearSizes 21 = .ok (.invokevirtual 115, 3) := by decide +kernel
theorem dX5_clearSizes_24 : decode cX5_clearSizes 24 = .ok (.aload_n 0, 1) := by decide +kernel
theorem dX5_clearSizes_25 : decode cX5_clearSizes 25 = .ok (.getfield 22, 3) := by decide +kernel
theorem dX5_clearSizes_28 : decode cX5_clearSizes 28 = .ok (.invokevirtual 148, 3) := by decide +kernel
theorem dX5_clearSizes_31 : decode cX5_clearSizes 31 = .ok (.ifCond .eq 6, 3) := by decide +kernel
theorem dX5_clearSizes_34 : decode cX5_clearSizes 34 = .ok (.iinc 3 1, 3) := by decide +kernel
theorem dX5_clearSizes_37 : decode cX5_clearSizes 37 = .ok (.iinc 4 1, 3) := by decide +kernel
theorem dX5_clearSizes_40 : decode cX5_clearSizes 40 = .ok (.goto (-34), 3) := by decide +kernel
theorem dX5_clearSizes_43 : decode cX5_clearSizes 43 = .ok (.iload_n 3, 1) := by decide +kernel
theorem dX5_clearSizes_44 : decode cX5_clearSizes 44 = .ok (.ireturn, 1) := by decide +kernel
theorem dX5_staleSheets_0 : decode cX5_staleSheets 0 = .ok (.iconst 0, 1) := by decide +kernel
theorem dX5_staleSheets_1 : decode cX5_staleSheets 1 = .ok (.istore_n 1, 1) := by decide +kernel
theorem dX5_staleSheets_2 : decode cX5_staleSheets 2 = .ok (.iconst 0, 1) := by decide +kernel
theorem dX5_staleSheets_3 : decode cX5_staleSheets 3 = .ok (.istore_n 2, 1) := by decide +kernel
theorem dX5_staleSheets_4 : decode cX5_staleSheets 4 = .ok (.iload_n 2, 1) := by decide +kernel
theorem dX5_staleSheets_5 : decode cX5_staleSheets 5 = .ok (.iconst 4, 1) := by decide +kernel
theorem dX5_staleSheets_6 : decode cX5_staleSheets 6 = .ok (.if_icmp .ge 41, 3) := by decide +kernel
theorem dX5_staleSheets_9 : decode cX5_staleSheets 9 = .ok (.aload_n 0, 1) := by decide +kernel
theorem dX5_staleSheets_10 : decode cX5_staleSheets 10 = .ok (.getfield 10, 3) := by decide +kernel
theorem dX5_staleSheets_13 : decode cX5_staleSheets 13 = .ok (.getfield 159, 3) := by decide +kernel
theorem dX5_staleSheets_16 : decode cX5_staleSheets 16 = .ok (.iload_n 2, 1) := by decide +kernel
theorem dX5_staleSheets_17 : decode cX5_staleSheets 17 = .ok (.invokevirtual 276, 3) := by decide +kernel
theorem dX5_staleSheets_20 : decode cX5_staleSheets 20 = .ok (.ifCond .eq 21, 3) := by decide +kernel
theorem dX5_staleSheets_23 : decode cX5_staleSheets 23 = .ok (.aload_n 0, 1) := by decide +kernel
theorem dX5_staleSheets_24 : decode cX5_staleSheets 24 = .ok (.getfield 10, 3) := by decide +kernel
theorem dX5_staleSheets_27 : decode cX5_staleSheets 27 = .ok (.iload_n 2, 1) := by decide +kernel
theorem dX5_staleSheets_28 : decode cX5_staleSheets 28 = .ok (.aload_n 0, 1) := by decide +kernel
theorem dX5_staleSheets_29 : decode cX5_staleSheets 29 = .ok (.getfield 22, 3) := by decide +kernel
theorem dX5_staleSheets_32 : decode cX5_staleSheets 32 = .ok (.invokevirtual 183, 3) := by decide +kernel
theorem dX5_staleSheets_35 : decode cX5_staleSheets 35 = .ok (.ifCond .eq 6, 3) := by decide +kernel
theorem dX5_staleSheets_38 : decode cX5_staleSheets 38 = .ok (.iinc 1 1, 3) := by decide +kernel
theorem dX5_staleSheets_41 : decode cX5_staleSheets 41 = .ok (.iinc 2 1, 3) := by decide +kernel
theorem dX5_staleSheets_44 : decode cX5_staleSheets 44 = .ok (.goto (-40), 3) := by decide +kernel
theorem dX5_staleSheets_47 : decode cX5_staleSheets 47 = .ok (.iload_n 1, 1) := by decide +kernel
theorem dX5_staleSheets_48 : decode cX5_staleSheets 48 = .ok (.ireturn, 1) := by decide +kernel
theorem dX5_within_0 : decode cX5_within 0 = .ok (.iload_n 0, 1) := by decide +kernel
theorem dX5_within_1 : decode cX5_within 1 = .ok (.iload_n 1, 1) := by decide +kernel
theorem dX5_within_2 : decode cX5_within 2 = .ok (.if_icmp .lt 12, 3) := by decide +kernel
theorem dX5_within_5 : decode cX5_within 5 = .ok (.iload_n 0, 1) := by decide +kernel
theorem dX5_within_6 : decode cX5_within 6 = .ok (.iload_n 2, 1) := by decide +kernel
theorem dX5_within_7 : decode cX5_within 7 = .ok (.if_icmp .gt 7, 3) := by decide +kernel
theorem dX5_within_10 : decode cX5_within 10 = .ok (.iconst 1, 1) := by decide +kernel
theorem dX5_within_11 : decode cX5_within 11 = .ok (.goto 4, 3) := by decide +kernel
theorem dX5_within_14 : decode cX5_within 14 = .ok (.iconst 0, 1) := by decide +kernel
theorem dX5_within_15 : decode cX5_within 15 = .ok (.ireturn, 1) := by decide +kernel
theorem dX5_isSize_0 : decode cX5_isSize 0 = .ok (.iload_n 0, 1) := by decide +kernel
theorem dX5_isSize_1 : decode cX5_isSize 1 = .ok (.bipush 6, 2) := by decide +kernel
theorem dX5_isSize_3 : decode cX5_isSize 3 = .ok (.bipush 48, 2) := by decide +kernel
theorem dX5_isSize_5 : decode cX5_isSize 5 = .ok (.invokestatic 79, 3) := by decide +kernel
theorem dX5_isSize_8 : decode cX5_isSize 8 = .ok (.ireturn, 1) := by decide +kernel
theorem dX5_inPixels_0 : decode cX5_inPixels 0 = .ok (.iload_n 0, 1) := by decide +kernel
theorem dX5_inPixels_1 : decode cX5_inPixels 1 = .ok (.iload_n 1, 1) := by decide +kernel
theorem dX5_inPixels_2 : decode cX5_inPixels 2 = .ok (.imul, 1) := by decide +kernel
theorem dX5_inPixels_3 : decode cX5_inPixels 3 = .ok (.sipush 500, 3) := by decide +kernel
theorem dX5_inPixels_6 : decode cX5_inPixels 6 = .ok (.iadd, 1) := by decide +kernel
theorem dX5_inPixels_7 : decode cX5_inPixels 7 = .ok (.sipush 1000, 3) := by decide +kernel
theorem dX5_inPixels_10 : decode cX5_inPixels 10 = .ok (.invokestatic 279, 3) := by decide +kernel
theorem dX5_inPixels_13 : decode cX5_inPixels 13 = .ok (.ireturn, 1) := by decide +kernel
theorem dX5_cell_0 : decode cX5_cell 0 = .ok (.iload_n 1, 1) := by decide +kernel
theorem dX5_cell_1 : decode cX5_cell 1 = .ok (.ifCond .lt 15, 3) := by decide +kernel
theorem dX5_cell_4 : decode cX5_cell 4 = .ok (.iload_n 1, 1) := by decide +kernel
theorem dX5_cell_5 : decode cX5_cell 5 = .ok (.aload_n 0, 1) := by decide +kernel
theorem dX5_cell_6 : decode cX5_cell 6 = .ok (.arraylength, 1) := by decide +kernel
theorem dX5_cell_7 : decode cX5_cell 7 = .ok (.if_icmp .ge 9, 3) := by decide +kernel
theorem dX5_cell_10 : decode cX5_cell 10 = .ok (.aload_n 0, 1) := by decide +kernel
theorem dX5_cell_11 : decode cX5_cell 11 = .ok (.iload_n 1, 1) := by decide +kernel
theorem dX5_cell_12 : decode cX5_cell 12 = .ok (.iaload, 1) := by decide +kernel
theorem dX5_cell_13 : decode cX5_cell 13 = .ok (.goto 4, 3) := by decide +kernel
theorem dX5_cell_16 : decode cX5_cell 16 = .ok (.iconst 0, 1) := by decide +kernel
theorem dX5_cell_17 : decode cX5_cell 17 = .ok (.ireturn, 1) := by decide +kernel
theorem dX5_put_0 : decode cX5_put 0 = .ok (.iload_n 1, 1) := by decide +kernel
theorem dX5_put_1 : decode cX5_put 1 = .ok (.ifCond .lt 13, 3) := by decide +kernel
theorem dX5_put_4 : decode cX5_put 4 = .ok (.iload_n 1, 1) := by decide +kernel
theorem dX5_put_5 : decode cX5_put 5 = .ok (.aload_n 0, 1) := by decide +kernel
theorem dX5_put_6 : decode cX5_put 6 = .ok (.arraylength, 1) := by decide +kernel
theorem dX5_put_7 : decode cX5_put 7 = .ok (.if_icmp .ge 7, 3) := by decide +kernel
theorem dX5_put_10 : decode cX5_put 10 = .ok (.aload_n 0, 1) := by decide +kernel
theorem dX5_put_11 : decode cX5_put 11 = .ok (.iload_n 1, 1) := by decide +kernel
theorem dX5_put_12 : decode cX5_put 12 = .ok (.iload_n 2, 1) := by decide +kernel
theorem dX5_put_13 : decode cX5_put 13 = .ok (.iastore, 1) := by decide +kernel
theorem dX5_put_14 : decode cX5_put 14 = .ok (.return_, 1) := by decide +kernel
theorem dX5_copyRow_0 : decode cX5_copyRow 0 = .ok (.iconst 0, 1) := by decide +kernel
theorem dX5_copyRow_1 : decode cX5_copyRow 1 = .ok (.istore_n 2, 1) := by decide +kernel
theorem dX5_copyRow_2 : decode cX5_copyRow 2 = .ok (.iload_n 2, 1) := by decide +kernel
theorem dX5_copyRow_3 : decode cX5_copyRow 3 = .ok (.aload_n 1, 1) := by decide +kernel
theorem dX5_copyRow_4 : decode cX5_copyRow 4 = .ok (.arraylength, 1) := by decide +kernel
theorem dX5_copyRow_5 : decode cX5_copyRow 5 = .ok (.if_icmp .ge 21, 3) := by decide +kernel
theorem dX5_copyRow_8 : decode cX5_copyRow 8 = .ok (.iload_n 2, 1) := by decide +kernel
theorem dX5_copyRow_9 : decode cX5_copyRow 9 = .ok (.aload_n 0, 1) := by decide +kernel
theorem dX5_copyRow_10 : decode cX5_copyRow 10 = .ok (.arraylength, 1) := by decide +kernel
theorem dX5_copyRow_11 : decode cX5_copyRow 11 = .ok (.if_icmp .ge 15, 3) := by decide +kernel
theorem dX5_copyRow_14 : decode cX5_copyRow 14 = .ok (.aload_n 1, 1) := by decide +kernel
theorem dX5_copyRow_15 : decode cX5_copyRow 15 = .ok (.iload_n 2, 1) := by decide +kernel
theorem dX5_copyRow_16 : decode cX5_copyRow 16 = .ok (.aload_n 0, 1) := by decide +kernel
theorem dX5_copyRow_17 : decode cX5_copyRow 17 = .ok (.iload_n 2, 1) := by decide +kernel
theorem dX5_copyRow_18 : decode cX5_copyRow 18 = .ok (.iaload, 1) := by decide +kernel
theorem dX5_copyRow_19 : decode cX5_copyRow 19 = .ok (.iastore, 1) := by decide +kernel
theorem dX5_copyRow_20 : decode cX5_copyRow 20 = .ok (.iinc 2 1, 3) := by decide +kernel
theorem dX5_copyRow_23 : decode cX5_copyRow 23 = .ok (.goto (-21), 3) := by decide +kernel
theorem dX5_copyRow_26 : decode cX5_copyRow 26 = .ok (.return_, 1) := by decide +kernel
theorem dX5_bitOf_0 : decode cX5_bitOf 0 = .ok (.lload_n 0, 1) := by decide +kernel
theorem dX5_bitOf_1 : decode cX5_bitOf 1 = .ok (.iload_n 2, 1) := by decide +kernel
theorem dX5_bitOf_2 : decode cX5_bitOf 2 = .ok (.lushr, 1) := by decide +kernel
theorem dX5_bitOf_3 : decode cX5_bitOf 3 = .ok (.lconst 1, 1) := by decide +kernel
theorem dX5_bitOf_4 : decode cX5_bitOf 4 = .ok (.land, 1) := by decide +kernel
theorem dX5_bitOf_5 : decode cX5_bitOf 5 = .ok (.l2i, 1) := by decide +kernel
theorem dX5_bitOf_6 : decode cX5_bitOf 6 = .ok (.ireturn, 1) := by decide +kernel
theorem dX5_runsOf_0 : decode cX5_runsOf 0 = .ok (.lload_n 0, 1) := by decide +kernel
theorem dX5_runsOf_1 : decode cX5_runsOf 1 = .ok (.lload_n 0, 1) := by decide +kernel
theorem dX5_runsOf_2 : decode cX5_runsOf 2 = .ok (.iconst 1, 1) := by decide +kernel
theorem dX5_runsOf_3 : decode cX5_runsOf 3 = .ok (.lshl, 1) := by decide +kernel
theorem dX5_runsOf_4 : decode cX5_runsOf 4 = .ok (.ldc2_w 284, 3) := by decide +kernel
theorem dX5_runsOf_7 : decode cX5_runsOf 7 = .ok (.lxor, 1) := by decide +kernel
theorem dX5_runsOf_8 : decode cX5_runsOf 8 = .ok (.land, 1) := by decide +kernel
theorem dX5_runsOf_9 : decode cX5_runsOf 9 = .ok (.invokestatic 142, 3) := by decide +kernel
theorem dX5_runsOf_12 : decode cX5_runsOf 12 = .ok (.ireturn, 1) := by decide +kernel
theorem dX5_bitsOf_0 : decode cX5_bitsOf 0 = .ok (.fload_n 0, 1) := by decide +kernel
theorem dX5_bitsOf_1 : decode cX5_bitsOf 1 = .ok (.fstore_n 1, 1) := by decide +kernel
theorem dX5_bitsOf_2 : decode cX5_bitsOf 2 = .ok (.bipush 127, 2) := by decide +kernel
theorem dX5_bitsOf_4 : decode cX5_bitsOf 4 = .ok (.istore_n 2, 1) := by decide +kernel
theorem dX5_bitsOf_5 : decode cX5_bitsOf 5 = .ok (.fload_n 1, 1) := by decide +kernel
theorem dX5_bitsOf_6 : decode cX5_bitsOf 6 = .ok (.fconst 2, 1) := by decide +kernel
theorem dX5_bitsOf_7 : decode cX5_bitsOf 7 = .ok (.fcmp .l, 1) := by decide +kernel
theorem dX5_bitsOf_8 : decode cX5_bitsOf 8 = .ok (.ifCond .lt 20, 3) := by decide +kernel
theorem dX5_bitsOf_11 : decode cX5_bitsOf 11 = .ok (.iload_n 2, 1) := by decide +kernel
theorem dX5_bitsOf_12 : decode cX5_bitsOf 12 = .ok (.sipush 254, 3) := by decide +kernel
theorem dX5_bitsOf_15 : decode cX5_bitsOf 15 = .ok (.if_icmp .ge 13, 3) := by decide +kernel
theorem dX5_bitsOf_18 : decode cX5_bitsOf 18 = .ok (.fload_n 1, 1) := by decide +kernel
theorem dX5_bitsOf_19 : decode cX5_bitsOf 19 = .ok (.fconst 2, 1) := by decide +kernel
theorem dX5_bitsOf_20 : decode cX5_bitsOf 20 = .ok (.fdiv, 1) := by decide +kernel
theorem dX5_bitsOf_21 : decode cX5_bitsOf 21 = .ok (.fstore_n 1, 1) := by decide +kernel
theorem dX5_bitsOf_22 : decode cX5_bitsOf 22 = .ok (.iinc 2 1, 3) := by decide +kernel
theorem dX5_bitsOf_25 : decode cX5_bitsOf 25 = .ok (.goto (-20), 3) := by decide +kernel
theorem dX5_bitsOf_28 : decode cX5_bitsOf 28 = .ok (.iload_n 2, 1) := by decide +kernel
theorem dX5_bitsOf_29 : decode cX5_bitsOf 29 = .ok (.bipush 23, 2) := by decide +kernel
theorem dX5_bitsOf_31 : decode cX5_bitsOf 31 = .ok (.ishl, 1) := by decide +kernel
theorem dX5_bitsOf_32 : decode cX5_bitsOf 32 = .ok (.fload_n 1, 1) := by decide +kernel
theorem dX5_bitsOf_33 : decode cX5_bitsOf 33 = .ok (.fconst 1, 1) := by decide +kernel
theorem dX5_bitsOf_34 : decode cX5_bitsOf 34 = .ok (.fsub, 1) := by decide +kernel
theorem dX5_bitsOf_35 : decode cX5_bitsOf 35 = .ok (.ldc_w 286, 3) := by decide +kernel
theorem dX5_bitsOf_38 : decode cX5_bitsOf 38 = .ok (.fmul, 1) := by decide +kernel
theorem dX5_bitsOf_39 : decode cX5_bitsOf 39 = .ok (.f2i, 1) := by decide +kernel
theorem dX5_bitsOf_40 : decode cX5_bitsOf 40 = .ok (.ior, 1) := by decide +kernel
theorem dX5_bitsOf_41 : decode cX5_bitsOf 41 = .ok (.ireturn, 1) := by decide +kernel
theorem dX6_init_0 : decode cX6_init 0 = .ok (.aload_n 0, 1) := by decide +kernel
theorem dX6_init_1 : decode cX6_init 1 = .ok (.invokespecial 1, 3) := by decide +kernel
theorem dX6_init_4 : decode cX6_init 4 = .ok (.aload_n 0, 1) := by decide +kernel
theorem dX6_init_5 : decode cX6_init 5 = .ok (.sipush 273, 3) := by decide +kernel
theorem dX6_init_8 : decode cX6_init 8 = .ok (.newarray .int, 2) := by decide +kernel
theorem dX6_init_10 : decode cX6_init 10 = .ok (.putfield 7, 3) := by decide +kernel
theorem dX6_init_13 : decode cX6_init 13 = .ok (.aload_n 0, 1) := by decide +kernel
theorem dX6_init_14 : decode cX6_init 14 = .ok (.sipush 1092, 3) := by decide +kernel
theorem dX6_init_17 : decode cX6_init 17 = .ok (.newarray .int, 2) := by decide +kernel
theorem dX6_init_19 : decode cX6_init 19 = .ok (.putfield 13, 3) := by decide +kernel
theorem dX6_init_22 : decode cX6_init 22 = .ok (.aload_n 0, 1) := by decide +kernel
theorem dX6_init_23 : decode cX6_init 23 = .ok (.sipush 273, 3) := by decide +kernel
theorem dX6_init_26 : decode cX6_init 26 = .ok (.newarray .int, 2) := by decide +kernel
theorem dX6_init_28 : decode cX6_init 28 = .ok (.putfield 16, 3) := by decide +kernel
theorem dX6_init_31 : decode cX6_init 31 = .ok (.aload_n 0, 1) := by decide +kernel
theorem dX6_init_32 : decode cX6_init 32 = .ok (.bipush 60, 2) := by decide +kernel
theorem dX6_init_34 : decode cX6_init 34 = .ok (.newarray .int, 2) := by decide +kernel
theorem dX6_init_36 : decode cX6_init 36 = .ok (.putfield 19, 3) := by decide +kernel
theorem dX6_init_39 : decode cX6_init 39 = .ok (.aload_n 0, 1) := by decide +kernel
theorem dX6_init_40 : decode cX6_init 40 = .ok (.bipush 6, 2) := by decide +kernel
theorem dX6_init_42 : decode cX6_init 42 = .ok (.newarray .int, 2) := by decide +kernel
theorem dX6_init_44 : decode cX6_init 44 = .ok (.putfield 22, 3) := by decide +kernel
theorem dX6_init_47 : decode cX6_init 47 = .ok (.aload_n 0, 1) := by decide +kernel
theorem dX6_init_48 : decode cX6_init 48 = .ok (.bipush 6, 2) := by decide +kernel
theorem dX6_init_50 : decode cX6_init 50 = .ok (.newarray .int, 2) := by decide +kernel
theorem dX6_init_52 : decode cX6_init 52 = .ok (.putfield 25, 3) := by decide +kernel
theorem dX6_init_55 : decode cX6_init 55 = .ok (.aload_n 0, 1) := by decide +kernel
theorem dX6_init_56 : decode cX6_init 56 = .ok (.iconst 3, 1) := by decide +kernel
theorem dX6_init_57 : decode cX6_init 57 = .ok (.newarray .int, 2) := by decide +kernel
theorem dX6_init_59 : decode cX6_init 59 = .ok (.putfield 28, 3) := by decide +kernel
theorem dX6_init_62 : decode cX6_init 62 = .ok (.aload_n 0, 1) := by decide +kernel
theorem dX6_init_63 : decode cX6_init 63 = .ok (.getfield 7, 3) := by decide +kernel
theorem dX6_init_66 : decode cX6_init 66 = .ok (.iconst 5, 1) := by decide +kernel
theorem dX6_init_67 : decode cX6_init 67 = .ok (.bipush 20, 2) := by decide +kernel
theorem dX6_init_69 : decode cX6_init 69 = .ok (.iastore, 1) := by decide +kernel
theorem dX6_init_70 : decode cX6_init 70 = .ok (.aload_n 0, 1) := by decide +kernel
theorem dX6_init_71 : decode cX6_init 71 = .ok (.getfield 7, 3) := by decide +kernel
theorem dX6_init_74 : decode cX6_init 74 = .ok (.bipush 6, 2) := by decide +kernel
theorem dX6_init_76 : decode cX6_init 76 = .ok (.iconst 1, 1) := by decide +kernel
theorem dX6_init_77 : decode cX6_init 77 = .ok (.iastore, 1) := by decide +kernel
theorem dX6_init_78 : decode cX6_init 78 = .ok (.return_, 1) := by decide +kernel
theorem dX6_in_0 : decode cX6_in 0 = .ok (.iload_n 0, 1) := by decide +kernel
theorem dX6_in_1 : decode cX6_in 1 = .ok (.iload_n 1, 1) := by decide +kernel
theorem dX6_in_2 : decode cX6_in 2 = .ok (.if_icmp .lt 12, 3) := by decide +kernel
theorem dX6_in_5 : decode cX6_in 5 = .ok (.iload_n 0, 1) := by decide +kernel
theorem dX6_in_6 : decode cX6_in 6 = .ok (.iload_n 2, 1) := by decide +kernel
theorem dX6_in_7 : decode cX6_in 7 = .ok (.if_icmp .gt 7, 3) := by decide +kernel
theorem dX6_in_10 : decode cX6_in 10 = .ok (.iconst 1, 1) := by decide +kernel
theorem dX6_in_11 : decode cX6_in 11 = .ok (.goto 4, 3) := by decide +kernel
theorem dX6_in_14 : decode cX6_in 14 = .ok (.iconst 0, 1) := by decide +kernel
theorem dX6_in_15 : decode cX6_in 15 = .ok (.ireturn, 1) := by decide +kernel
theorem dX6_floor_0 : decode cX6_floor 0 = .ok (.iload_n 0, 1) := by decide +kernel
theorem dX6_floor_1 : decode cX6_floor 1 = .ok (.ifCond .lt 9, 3) := by decide +kernel
theorem dX6_floor_4 : decode cX6_floor 4 = .ok (.iload_n 0, 1) := by decide +kernel
theorem dX6_floor_5 : decode cX6_floor 5 = .ok (.iload_n 1, 1) := by decide +kernel
theorem dX6_floor_6 : decode cX6_floor 6 = .ok (.idiv, 1) := by decide +kernel
theorem dX6_floor_7 : decode cX6_floor 7 = .ok (.goto 11, 3) := by decide +kernel
theorem dX6_floor_10 : decode cX6_floor 10 = .ok (.iload_n 1, 1) := by decide +kernel
theorem dX6_floor_11 : decode cX6_floor 11 = .ok (.iconst 1, 1) := by decide +kernel
theorem dX6_floor_12 : decode cX6_floor 12 = .ok (.isub, 1) := by decide +kernel
theorem dX6_floor_13 : decode cX6_floor 13 = .ok (.iload_n 0, 1) := by decide +kernel
theorem dX6_floor_14 : decode cX6_floor 14 = .ok (.isub, 1) := by decide +kernel
theorem dX6_floor_15 : decode cX6_floor 15 = .ok (.iload_n 1, 1) := by decide +kernel
theorem dX6_floor_16 : decode cX6_floor 16 = .ok (.idiv, 1) := by decide +kernel
theorem dX6_floor_17 : decode cX6_floor 17 = .ok (.ineg, 1) := by decide +kernel
theorem dX6_floor_18 : decode cX6_floor 18 = .ok (.ireturn, 1) := by decide +kernel
theorem dX6_copies_0 : decode cX6_copies 0 = .ok (.iconst 0, 1) := by decide +kernel
theorem dX6_copies_1 : decode cX6_copies 1 = .ok (.istore_n 2, 1) := by decide +kernel
theorem dX6_copies_2 : decode cX6_copies 2 = .ok (.iload_n 2, 1) := by decide +kernel
theorem dX6_copies_3 : decode cX6_copies 3 = .ok (.sipush 273, 3) := by decide +kernel
theorem dX6_copies_6 : decode cX6_copies 6 = .ok (.if_icmp .ge 15, 3) := by decide +kernel
theorem dX6_copies_9 : decode cX6_copies 9 = .ok (.aload_n 1, 1) := by decide +kernel
theorem dX6_copies_10 : decode cX6_copies 10 = .ok (.iload_n 2, 1) := by decide +kernel
theorem dX6_copies_11 : decode cX6_copies 11 = .ok (.aload_n 0, 1) := by decide +kernel
theorem dX6_copies_12 : decode cX6_copies 12 = .ok (.iload_n 2, 1) := by decide +kernel
theorem dX6_copies_13 : decode cX6_copies 13 = .ok (.iaload, 1) := by decide +kernel
theorem dX6_copies_14 : decode cX6_copies 14 = .ok (.iastore, 1) := by decide +kernel
theorem dX6_copies_15 : decode cX6_copies 15 = .ok (.iinc 2 1, 3) := by decide +kernel
theorem dX6_copies_18 : decode cX6_copies 18 = .ok (.goto (-16), 3) := by decide +kernel
theorem dX6_copies_21 : decode cX6_copies 21 = .ok (.return_, 1) := by decide +kernel
theorem dX6_changes_0 : decode cX6_changes 0 = .ok (.aload_n 0, 1) := by decide +kernel
theorem dX6_changes_1 : decode cX6_changes 1 = .ok (.getfield 31, 3) := by decide +kernel
theorem dX6_changes_4 : decode cX6_changes 4 = .ok (.ifCond .eq 4, 3) := by decide +kernel
theorem dX6_changes_7 : decode cX6_changes 7 = .ok (.return_, 1) := by decide +kernel
theorem dX6_changes_8 : decode cX6_changes 8 = .ok (.aload_n 0, 1) := by decide +kernel
theorem dX6_changes_9 : decode cX6_changes 9 = .ok (.getfield 35, 3) := by decide +kernel
theorem dX6_changes_12 : decode cX6_changes 12 = .ok (.iconst 4, 1) := by decide +kernel
theorem dX6_changes_13 : decode cX6_changes 13 = .ok (.if_icmp .ne 44, 3) := by decide +kernel
theorem dX6_changes_16 : decode cX6_changes 16 = .ok (.iconst 0, 1) := by decide +kernel
theorem dX6_changes_17 : decode cX6_changes 17 = .ok (.istore_n 1, 1) := by decide +kernel
theorem dX6_changes_18 : decode cX6_changes 18 = .ok (.iload_n 1, 1) := by decide +kernel
theorem dX6_changes_19 : decode cX6_changes 19 = .ok (.sipush 819, 3) := by decide +kernel
theorem dX6_changes_22 : decode cX6_changes 22 = .ok (.if_icmp .ge 25, 3) := by decide +kernel
theorem dX6_changes_25 : decode cX6_changes 25 = .ok (.aload_n 0, 1) := by decide +kernel
theorem dX6_changes_26 : decode cX6_changes 26 = .ok (.getfield 13, 3) := by decide +kernel
theorem dX6_changes_29 : decode cX6_changes 29 = .ok (.iload_n 1, 1) := by decide +kernel
theorem dX6_changes_30 : decode cX6_changes 30 = .ok (.aload_n 0, 1) := by decide +kernel
theorem dX6_changes_31 : decode cX6_changes 31 = .ok (.getfield 13, 3) := by decide +kernel
theorem dX6_changes_34 : decode cX6_changes 34 = .ok (.iload_n 1, 1) := by decide +kernel
theorem dX6_changes_35 : decode cX6_changes 35 = .ok (.sipush 273, 3) := by decide +kernel
theorem dX6_changes_38 : decode cX6_changes 38 = .ok (.iadd, 1) := by decide +kernel
theorem dX6_changes_39 : decode cX6_changes 39 = .ok (.iaload, 1) := by decide +kernel
theorem dX6_changes_40 : decode cX6_changes 40 = .ok (.iastore, 1) := by decide +kernel
theorem dX6_changes_41 : decode cX6_changes 41 = .ok (.iinc 1 1, 3) := by decide +kernel
theorem dX6_changes_44 : decode cX6_changes 44 = .ok (.goto (-26), 3) := by decide +kernel
theorem dX6_changes_47 : decode cX6_changes 47 = .ok (.aload_n 0, 1) := by decide +kernel
theorem dX6_changes_48 : decode cX6_changes 48 = .ok (.dup, 1) := by decide +kernel
theorem dX6_changes_49 : decode cX6_changes 49 = .ok (.getfield 35, 3) := by decide +kernel
theorem dX6_changes_52 : decode cX6_changes 52 = .ok (.iconst 1, 1) := by decide +kernel
theorem dX6_changes_53 : decode cX6_changes 53 = .ok (.isub, 1) := by decide +kernel
theorem dX6_changes_54 : decode cX6_changes 54 = .ok (.putfield 35, 3) := by decide +kernel
theorem dX6_changes_57 : decode cX6_changes 57 = .ok (.iconst 0, 1) := by decide +kernel
theorem dX6_changes_58 : decode cX6_changes 58 = .ok (.istore_n 1, 1) := by decide +kernel
theorem dX6_changes_59 : decode cX6_changes 59 = .ok (.iload_n 1, 1) := by decide +kernel
theorem dX6_changes_60 : decode cX6_changes 60 = .ok (.sipush 273, 3) := by decide +kernel
theorem dX6_changes_63 : decode cX6_changes 63 = .ok (.if_icmp .ge 30, 3) := by decide +kernel
theorem dX6_changes_66 : decode cX6_changes 66 = .ok (.aload_n 0, 1) := by decide +kernel
theorem dX6_changes_67 : decode cX6_changes 67 = .ok (.getfield 13, 3) := by decide +kernel
theorem dX6_changes_70 : decode cX6_changes 70 = .ok (.sipush 273, 3) := by decide +kernel
theorem dX6_changes_73 : decode cX6_changes 73 = .ok (.aload_n 0, 1) := by decide +kernel
theorem dX6_changes_74 : decode cX6_changes 74 = .ok (.getfield 35, 3) := by decide +kernel
theorem dX6_changes_77 : decode cX6_changes 77 = .ok (.imul, 1) := by decide +kernel
theorem dX6_changes_78 : decode cX6_changes 78 = .ok (.iload_n 1, 1) := by decide +kernel
theorem dX6_changes_79 : decode cX6_changes 79 = .ok (.iadd, 1) := by decide +kernel
theorem dX6_changes_80 : decode cX6_changes 80 = .ok (.aload_n 0, 1) := by decide +kernel
theorem dX6_changes_81 : decode cX6_changes 81 = .ok (.getfield 7, 3) := by decide +kernel
theorem dX6_changes_84 : decode cX6_changes 84 = .ok (.iload_n 1, 1) := by decide +kernel
theorem dX6_changes_85 : decode cX6_changes 85 = .ok (.iaload, 1) := by decide +kernel
theorem dX6_changes_86 : decode cX6_changes 86 = .ok (.iastore, 1) := by decide +kernel
theorem dX6_changes_87 : decode cX6_changes 87 = .ok (.iinc 1 1, 3) := by decide +kernel
theorem dX6_changes_90 : decode cX6_changes 90 = .ok (.goto (-31), 3) := by decide +kernel
theorem dX6_changes_93 : decode cX6_changes 93 = .ok (.aload_n 0, 1) := by decide +kernel
theorem dX6_changes_94 : decode cX6_changes 94 = .ok (.dup, 1) := by decide +kernel
theorem dX6_changes_95 : decode cX6_changes 95 = .ok (.getfield 35, 3) := by decide +kernel
theorem dX6_changes_98 : decode cX6_changes 98 = .ok (.iconst 1, 1) := by decide +kernel
theorem dX6_changes_99 : decode cX6_changes 99 = .ok (.iadd, 1) := by decide +kernel
theorem dX6_changes_100 : decode cX6_changes 100 = .ok (.putfield 35, 3) := by decide +kernel
theorem dX6_changes_103 : decode cX6_changes 103 = .ok (.return_, 1) := by decide +kernel
theorem dX6_isSize_0 : decode cX6_isSize 0 = .ok (.iload_n 0, 1) := by decide +kernel
theorem dX6_isSize_1 : decode cX6_isSize 1 = .ok (.bipush 6, 2) := by decide +kernel
theorem dX6_isSize_3 : decode cX6_isSize 3 = .ok (.bipush 48, 2) := by decide +kernel
theorem dX6_isSize_5 : decode cX6_isSize 5 = .ok (.invokestatic 39, 3) := by decide +kernel
theorem dX6_isSize_8 : decode cX6_isSize 8 = .ok (.ireturn, 1) := by decide +kernel
theorem dX6_isGlyph_0 : decode cX6_isGlyph 0 = .ok (.iload_n 1, 1) := by decide +kernel
theorem dX6_isGlyph_1 : decode cX6_isGlyph 1 = .ok (.ifCond .lt 17, 3) := by decide +kernel
theorem dX6_isGlyph_4 : decode cX6_isGlyph 4 = .ok (.iload_n 1, 1) := by decide +kernel
theorem dX6_isGlyph_5 : decode cX6_isGlyph 5 = .ok (.aload_n 0, 1) := by decide +kernel
theorem dX6_isGlyph_6 : decode cX6_isGlyph 6 = .ok (.getfield 7, 3) := by decide +kernel
theorem dX6_isGlyph_9 : decode cX6_isGlyph 9 = .ok (.iconst 0, 1) := by decide +kernel
theorem dX6_isGlyph_10 : decode cX6_isGlyph 10 = .ok (.iaload, 1) := by decide +kernel
theorem dX6_isGlyph_11 : decode cX6_isGlyph 11 = .ok (.if_icmp .ge 7, 3) := by decide +kernel
theorem dX6_isGlyph_14 : decode cX6_isGlyph 14 = .ok (.iconst 1, 1) := by decide +kernel
theorem dX6_isGlyph_15 : decode cX6_isGlyph 15 = .ok (.goto 4, 3) := by decide +kernel
theorem dX6_isGlyph_18 : decode cX6_isGlyph 18 = .ok (.iconst 0, 1) := by decide +kernel
theorem dX6_isGlyph_19 : decode cX6_isGlyph 19 = .ok (.ireturn, 1) := by decide +kernel
theorem dX6_of_0 : decode cX6_of 0 = .ok (.aload_n 0, 1) := by decide +kernel
theorem dX6_of_1 : decode cX6_of 1 = .ok (.getfield 7, 3) := by decide +kernel
theorem dX6_of_4 : decode cX6_of 4 = .ok (.bipush 9, 2) := by decide +kernel
theorem dX6_of_6 : decode cX6_of 6 = .ok (.bipush 20, 2) := by decide +kernel
theorem dX6_of_8 : decode cX6_of 8 = .ok (.iload_n 1, 1) := by decide +kernel
theorem dX6_of_9 : decode cX6_of 9 = .ok (.imul, 1) := by decide +kernel
theorem dX6_of_10 : decode cX6_of 10 = .ok (.iadd, 1) := by decide +kernel
theorem dX6_of_11 : decode cX6_of 11 = .ok (.iload_n 2, 1) := by decide +kernel
theorem dX6_of_12 : decode cX6_of 12 = .ok (.iadd, 1) := by decide +kernel
theorem dX6_of_13 : decode cX6_of 13 = .ok (.iaload, 1) := by decide +kernel
theorem dX6_of_14 : decode cX6_of 14 = .ok (.ireturn, 1) := by decide +kernel
theorem dX6_isStem_0 : decode cX6_isStem 0 = .ok (.aload_n 0, 1) := by decide +kernel
theorem dX6_isStem_1 : decode cX6_isStem 1 = .ok (.iload_n 1, 1) := by decide +kernel
theorem dX6_isStem_2 : decode cX6_isStem 2 = .ok (.invokevirtual 43, 3) := by decide +kernel
theorem dX6_isStem_5 : decode cX6_isStem 5 = .ok (.ifCond .eq 21, 3) := by decide +kernel
theorem dX6_isStem_8 : decode cX6_isStem 8 = .ok (.iload_n 2, 1) := by decide +kernel
theorem dX6_isStem_9 : decode cX6_isStem 9 = .ok (.ifCond .lt 17, 3) := by decide +kernel
theorem dX6_isStem_12 : decode cX6_isStem 12 = .ok (.iload_n 2, 1) := by decide +kernel
theorem dX6_isStem_13 : decode cX6_isStem 13 = .ok (.aload_n 0, 1) := by decide +kernel
theorem dX6_isStem_14 : decode cX6_isStem 14 = .ok (.iload_n 1, 1) := by decide +kernel
theorem dX6_isStem_15 : decode cX6_isStem 15 = .ok (.iconst 1, 1) := by decide +kernel
theorem dX6_isStem_16 : decode cX6_isStem 16 = .ok (.invokevirtual 47, 3) := by decide +kernel
theorem dX6_isStem_19 : decode cX6_isStem 19 = .ok (.if_icmp .ge 7, 3) := by decide +kernel
theorem dX6_isStem_22 : decode cX6_isStem 22 = .ok (.iconst 1, 1) := by decide +kernel
theorem dX6_isStem_23 : decode cX6_isStem 23 = .ok (.goto 4, 3) := by decide +kernel
theorem dX6_isStem_26 : decode cX6_isStem 26 = .ok (.iconst 0, 1) := by decide +kernel
theorem dX6_isStem_27 : decode cX6_isStem 27 = .ok (.ireturn, 1) := by decide +kernel
theorem dX6_at_0 : decode cX6_at 0 = .ok (.bipush 9, 2) := by decide +kernel
theorem dX6_at_2 : decode cX6_at 2 = .ok (.bipush 20, 2) := by decide +kernel
theorem dX6_at_4 : decode cX6_at 4 = .ok (.iload_n 0, 1) := by decide +kernel
theorem dX6_at_5 : decode cX6_at 5 = .ok (.imul, 1) := by decide +kernel
theorem dX6_at_6 : decode cX6_at 6 = .ok (.iadd, 1) := by decide +kernel
theorem dX6_at_7 : decode cX6_at 7 = .ok (.iconst 2, 1) := by decide +kernel
theorem dX6_at_8 : decode cX6_at 8 = .ok (.iadd, 1) := by decide +kernel
theorem dX6_at_9 : decode cX6_at 9 = .ok (.iconst 3, 1) := by decide +kernel
theorem dX6_at_10 : decode cX6_at 10 = .ok (.iload_n 1, 1) := by decide +kernel
theorem dX6_at_11 : decode cX6_at 11 = .ok (.imul, 1) := by decide +kernel
theorem dX6_at_12 : decode cX6_at 12 = .ok (.iadd, 1) := by decide +kernel
theorem dX6_at_13 : decode cX6_at 13 = .ok (.iload_n 2, 1) := by decide +kernel
theorem dX6_at_14 : decode cX6_at 14 = .ok (.iadd, 1) := by decide +kernel
theorem dX6_at_15 : decode cX6_at 15 = .ok (.ireturn, 1) := by decide +kernel
theorem dX6_ofStem_0 : decode cX6_ofStem 0 = .ok (.aload_n 0, 1) := by decide +kernel
theorem dX6_ofStem_1 : decode cX6_ofStem 1 = .ok (.getfield 7, 3) := by decide +kernel
theorem dX6_ofStem_4 : decode cX6_ofStem 4 = .ok (.iload_n 1, 1) := by decide +kernel
theorem dX6_ofStem_5 : decode cX6_ofStem 5 = .ok (.iload_n 2, 1) := by decide +kernel
theorem dX6_ofStem_6 : decode cX6_ofStem 6 = .ok (.iload_n 3, 1) := by decide +kernel
theorem dX6_ofStem_7 : decode cX6_ofStem 7 = .ok (.invokestatic 51, 3) := by decide +kernel
theorem dX6_ofStem_10 : decode cX6_ofStem 10 = .ok (.iaload, 1) := by decide +kernel
theorem dX6_ofStem_11 : decode cX6_ofStem 11 = .ok (.ireturn, 1) := by decide +kernel
theorem dX6_endOf_0 : decode cX6_endOf 0 = .ok (.aload_n 0, 1) := by decide +kernel
theorem dX6_endOf_1 : decode cX6_endOf 1 = .ok (.iload_n 1, 1) := by decide +kernel
theorem dX6_endOf_2 : decode cX6_endOf 2 = .ok (.iload_n 2, 1) := by decide +kernel
theorem dX6_endOf_3 : decode cX6_endOf 3 = .ok (.iconst 0, 1) := by decide +kernel
theorem dX6_endOf_4 : decode cX6_endOf 4 = .ok (.invokevirtual 55, 3) := by decide +kernel
theorem dX6_endOf_7 : decode cX6_endOf 7 = .ok (.aload_n 0, 1) := by decide +kernel
theorem dX6_endOf_8 : decode cX6_endOf 8 = .ok (.iload_n 1, 1) := by decide +kernel
theorem dX6_endOf_9 : decode cX6_endOf 9 = .ok (.iload_n 2, 1) := by decide +kernel
theorem dX6_endOf_10 : decode cX6_endOf 10 = .ok (.iconst 1, 1) := by decide +kernel
theorem dX6_endOf_11 : decode cX6_endOf 11 = .ok (.invokevirtual 55, 3) := by decide +kernel
theorem dX6_endOf_14 : decode cX6_endOf 14 = .ok (.iadd, 1) := by decide +kernel
theorem dX6_endOf_15 : decode cX6_endOf 15 = .ok (.ireturn, 1) := by decide +kernel
theorem dX6_glyph_0 : decode cX6_glyph 0 = .ok (.iload_n 1, 1) := by decide +kernel
theorem dX6_glyph_1 : decode cX6_glyph 1 = .ok (.bipush 100, 2) := by decide +kernel
theorem dX6_glyph_3 : decode cX6_glyph 3 = .ok (.sipush 1500, 3) := by decide +kernel
theorem dX6_glyph_6 : decode cX6_glyph 6 = .ok (.invokestatic 39, 3) := by decide +kernel
theorem dX6_glyph_9 : decode cX6_glyph 9 = .ok (.ifCond .ne 6, 3) := by decide +kernel
theorem dX6_glyph_12 : decode cX6_glyph 12 = .ok (.ldc 58, 2) := by decide +kernel
theorem dX6_glyph_14 : decode cX6_glyph 14 = .ok (.ireturn, 1) := by decide +kernel
theorem dX6_glyph_15 : decode cX6_glyph 15 = .ok (.aload_n 0, 1) := by decide +kernel
theorem dX6_glyph_16 : decode cX6_glyph 16 = .ok (.getfield 7, 3) := by decide +kernel
theorem dX6_glyph_19 : decode cX6_glyph 19 = .ok (.iconst 0, 1) := by decide +kernel
theorem dX6_glyph_20 : decode cX6_glyph 20 = .ok (.iaload, 1) := by decide +kernel
theorem dX6_glyph_21 : decode cX6_glyph 21 = .ok (.istore_n 2, 1) := by decide +kernel
theorem dX6_glyph_22 : decode cX6_glyph 22 = .ok (.iload_n 2, 1) := by decide +kernel
theorem dX6_glyph_23 : decode cX6_glyph 23 = .ok (.bipush 8, 2) := by decide +kernel
theorem dX6_glyph_25 : decode cX6_glyph 25 = .ok (.if_icmp .ne 6, 3) := by decide +kernel
theorem dX6_glyph_28 : decode cX6_glyph 28 = .ok (.ldc 59, 2) := by decide +kernel
theorem dX6_glyph_30 : decode cX6_glyph 30 = .ok (.ireturn, 1) := by decide +kernel
theorem dX6_glyph_31 : decode cX6_glyph 31 = .ok (.aload_n 0, 1) := by decide +kernel
theorem dX6_glyph_32 : decode cX6_glyph 32 = .ok (.invokevirtual 60, 3) := by decide +kernel
theorem dX6_glyph_35 : decode cX6_glyph 35 = .ok (.aload_n 0, 1) := by decide +kernel
theorem dX6_glyph_36 : decode cX6_glyph 36 = .ok (.getfield 7, 3) := by decide +kernel
theorem dX6_glyph_39 : decode cX6_glyph 39 = .ok (.bipush 9, 2) := by decide +kernel
theorem dX6_glyph_41 : decode cX6_glyph 41 = .ok (.bipush 20, 2) := by decide +kernel
theorem dX6_glyph_43 : decode cX6_glyph 43 = .ok (.iload_n 2, 1) := by decide +kernel
theorem dX6_glyph_44 : decode cX6_glyph 44 = .ok (.imul, 1) := by decide +kernel
theorem dX6_glyph_45 : decode cX6_glyph 45 = .ok (.iadd, 1) := by decide +kernel
theorem dX6_glyph_46 : decode cX6_glyph 46 = .ok (.iconst 0, 1) := by decide +kernel
theorem dX6_glyph_47 : decode cX6_glyph 47 = .ok (.iadd, 1) := by decide +kernel
theorem dX6_glyph_48 : decode cX6_glyph 48 = .ok (.iload_n 1, 1) := by decide +kernel
theorem dX6_glyph_49 : decode cX6_glyph 49 = .ok (.iastore, 1) := by decide +kernel
theorem dX6_glyph_50 : decode cX6_glyph 50 = .ok (.aload_n 0, 1) := by decide +kernel
theorem dX6_glyph_51 : decode cX6_glyph 51 = .ok (.getfield 7, 3) := by decide +kernel
theorem dX6_glyph_54 : decode cX6_glyph 54 = .ok (.bipush 9, 2) := by decide +kernel
theorem dX6_glyph_56 : decode cX6_glyph 56 = .ok (.bipush 20, 2) := by decide +kernel
theorem dX6_glyph_58 : decode cX6_glyph 58 = .ok (.iload_n 2, 1) := by decide +kernel
theorem dX6_glyph_59 : decode cX6_glyph 59 = .ok (.imul, 1) := by decide +kernel
theorem dX6_glyph_60 : decode cX6_glyph 60 = .ok (.iadd, 1) := by decide +kernel
theorem dX6_glyph_61 : decode cX6_glyph 61 = .ok (.iconst 1, 1) := by decide +kernel
theorem dX6_glyph_62 : decode cX6_glyph 62 = .ok (.iadd, 1) := by decide +kernel
theorem dX6_glyph_63 : decode cX6_glyph 63 = .ok (.iconst 0, 1) := by decide +kernel
theorem dX6_glyph_64 : decode cX6_glyph 64 = .ok (.iastore, 1) := by decide +kernel
theorem dX6_glyph_65 : decode cX6_glyph 65 = .ok (.aload_n 0, 1) := by decide +kernel
theorem dX6_glyph_66 : decode cX6_glyph 66 = .ok (.getfield 7, 3) := by decide +kernel
theorem dX6_glyph_69 : decode cX6_glyph 69 = .ok (.iconst 0, 1) := by decide +kernel
theorem dX6_glyph_70 : decode cX6_glyph 70 = .ok (.dup2, 1) := by decide +kernel
theorem dX6_glyph_71 : decode cX6_glyph 71 = .ok (.iaload, 1) := by decide +kernel
theorem dX6_glyph_72 : decode cX6_glyph 72 = .ok (.iconst 1, 1) := by decide +kernel
theorem dX6_glyph_73 : decode cX6_glyph 73 = .ok (.iadd, 1) := by decide +kernel
theorem dX6_glyph_74 : decode cX6_glyph 74 = .ok (.iastore, 1) := by decide +kernel
theorem dX6_glyph_75 : decode cX6_glyph 75 = .ok (.iload_n 2, 1) := by decide +kernel
theorem dX6_glyph_76 : decode cX6_glyph 76 = .ok (.ireturn, 1) := by decide +kernel
theorem dX6_ahead_0 : decode cX6_ahead 0 = .ok (.iconst 0, 1) := by decide +kernel
theorem dX6_ahead_1 : decode cX6_ahead 1 = .ok (.istore_n 3, 1) := by decide +kernel
theorem dX6_ahead_2 : decode cX6_ahead 2 = .ok (.iload_n 3, 1) := by decide +kernel
theorem dX6_ahead_3 : decode cX6_ahead 3 = .ok (.aload_n 0, 1) := by decide +kernel
theorem dX6_ahead_4 : decode cX6_ahead 4 = .ok (.iload_n 1, 1) := by decide +kernel
theorem dX6_ahead_5 : decode cX6_ahead 5 = .ok (.iconst 1, 1) := by decide +kernel
theorem dX6_ahead_6 : decode cX6_ahead 6 = .ok (.invokevirtual 47, 3) := by decide +kernel
theorem dX6_ahead_9 : decode cX6_ahead 9 = .ok (.if_icmp .ge 20, 3) := by decide +kernel
theorem dX6_ahead_12 : decode cX6_ahead 12 = .ok (.aload_n 0, 1) := by decide +kernel
theorem dX6_ahead_13 : decode cX6_ahead 13 = .ok (.iload_n 1, 1) := by decide +kernel
theorem dX6_ahead_14 : decode cX6_ahead 14 = .ok (.iload_n 3, 1) := by decide +kernel
theorem dX6_ahead_15 : decode cX6_ahead 15 = .ok (.iconst 0, 1) := by decide +kernel
theorem dX6_ahead_16 : decode cX6_ahead 16 = .ok (.invokevirtual 55, 3) := by decide +kernel
theorem dX6_ahead_19 : decode cX6_ahead 19 = .ok (.iload_n 2, 1) := by decide +kernel
theorem dX6_ahead_20 : decode cX6_ahead 20 = .ok (.if_icmp .ge 9, 3) := by decide +kernel
theorem dX6_ahead_23 : decode cX6_ahead 23 = .ok (.iinc 3 1, 3) := by decide +kernel
theorem dX6_ahead_26 : decode cX6_ahead 26 = .ok (.goto (-24), 3) := by decide +kernel
theorem dX6_ahead_29 : decode cX6_ahead 29 = .ok (.iload_n 3, 1) := by decide +kernel
theorem dX6_ahead_30 : decode cX6_ahead 30 = .ok (.ireturn, 1) := by decide +kernel
theorem dX6_stem_0 : decode cX6_stem 0 = .ok (.aload_n 0, 1) := by decide +kernel
theorem dX6_stem_1 : decode cX6_stem 1 = .ok (.iload_n 1, 1) := by decide +kernel
theorem dX6_stem_2 : decode cX6_stem 2 = .ok (.invokevirtual 43, 3) := by decide +kernel
theorem dX6_stem_5 : decode cX6_stem 5 = .ok (.ifCond .eq 25, 3) := by decide +kernel
theorem dX6_stem_8 : decode cX6_stem 8 = .ok (.iload_n 2, 1) := by decide +kernel
theorem dX6_stem_9 : decode cX6_stem 9 = .ok (.iconst 0, 1) := by decide +kernel
theorem dX6_stem_10 : decode cX6_stem 10 = .ok (.sipush 999, 3) := by decide +kernel
theorem dX6_stem_13 : decode cX6_stem 13 = .ok (.invokestatic 39, 3) := by decide +kernel

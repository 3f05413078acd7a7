theorem dX6_glyphOf_124 : decode cX6_glyphOf 124 = .ok (.aload_n 0, 1) := by decide +kernel
theorem dX6_glyphOf_125 : decode cX6_glyphOf 125 = .ok (.iload_n 1, 1) := by decide +kernel
theorem dX6_glyphOf_126 : decode cX6_glyphOf 126 = .ok (.iload_n 2, 1) := by decide +kernel
theorem dX6_glyphOf_127 : decode cX6_glyphOf 127 = .ok (.invokevirtual 141, 3) := by decide +kernel
theorem dX6_glyphOf_130 : decode cX6_glyphOf 130 = .ok (.ireturn, 1) := by decide +kernel
theorem dX6_lit_0 : decode cX6_lit 0 = .ok (.aload_n 0, 1) := by decide +kernel
theorem dX6_lit_1 : decode cX6_lit 1 = .ok (.iload_n 1, 1) := by decide +kernel
theorem dX6_lit_2 : decode cX6_lit 2 = .ok (.invokevirtual 43, 3) := by decide +kernel
theorem dX6_lit_5 : decode cX6_lit 5 = .ok (.ifCond .eq 20, 3) := by decide +kernel
theorem dX6_lit_8 : decode cX6_lit 8 = .ok (.iload_n 2, 1) := by decide +kernel
theorem dX6_lit_9 : decode cX6_lit 9 = .ok (.invokestatic 119, 3) := by decide +kernel
theorem dX6_lit_12 : decode cX6_lit 12 = .ok (.ifCond .eq 13, 3) := by decide +kernel
theorem dX6_lit_15 : decode cX6_lit 15 = .ok (.iload_n 3, 1) := by decide +kernel
theorem dX6_lit_16 : decode cX6_lit 16 = .ok (.iconst 0, 1) := by decide +kernel
theorem dX6_lit_17 : decode cX6_lit 17 = .ok (.bipush 63, 2) := by decide +kernel
theorem dX6_lit_19 : decode cX6_lit 19 = .ok (.invokestatic 39, 3) := by decide +kernel
theorem dX6_lit_22 : decode cX6_lit 22 = .ok (.ifCond .ne 6, 3) := by decide +kernel
theorem dX6_lit_25 : decode cX6_lit 25 = .ok (.ldc 58, 2) := by decide +kernel
theorem dX6_lit_27 : decode cX6_lit 27 = .ok (.ireturn, 1) := by decide +kernel
theorem dX6_lit_28 : decode cX6_lit 28 = .ok (.aload_n 0, 1) := by decide +kernel
theorem dX6_lit_29 : decode cX6_lit 29 = .ok (.iload_n 1, 1) := by decide +kernel
theorem dX6_lit_30 : decode cX6_lit 30 = .ok (.iload_n 2, 1) := by decide +kernel
theorem dX6_lit_31 : decode cX6_lit 31 = .ok (.invokevirtual 106, 3) := by decide +kernel
theorem dX6_lit_34 : decode cX6_lit 34 = .ok (.iload_n 3, 1) := by decide +kernel
theorem dX6_lit_35 : decode cX6_lit 35 = .ok (.aload_n 0, 1) := by decide +kernel
theorem dX6_lit_36 : decode cX6_lit 36 = .ok (.iload_n 1, 1) := by decide +kernel
theorem dX6_lit_37 : decode cX6_lit 37 = .ok (.iload_n 2, 1) := by decide +kernel
theorem dX6_lit_38 : decode cX6_lit 38 = .ok (.invokevirtual 103, 3) := by decide +kernel
theorem dX6_lit_41 : decode cX6_lit 41 = .ok (.if_icmp .lt 8, 3) := by decide +kernel
theorem dX6_lit_44 : decode cX6_lit 44 = .ok (.ldc 74, 2) := by decide +kernel
theorem dX6_lit_46 : decode cX6_lit 46 = .ok (.goto 17, 3) := by decide +kernel
theorem dX6_lit_49 : decode cX6_lit 49 = .ok (.aload_n 0, 1) := by decide +kernel
theorem dX6_lit_50 : decode cX6_lit 50 = .ok (.iload_n 1, 1) := by decide +kernel
theorem dX6_lit_51 : decode cX6_lit 51 = .ok (.iload_n 3, 1) := by decide +kernel
theorem dX6_lit_52 : decode cX6_lit 52 = .ok (.invokevirtual 113, 3) := by decide +kernel
theorem dX6_lit_55 : decode cX6_lit 55 = .ok (.ifCond .eq 7, 3) := by decide +kernel
theorem dX6_lit_58 : decode cX6_lit 58 = .ok (.iconst 1, 1) := by decide +kernel
theorem dX6_lit_59 : decode cX6_lit 59 = .ok (.goto 4, 3) := by decide +kernel
theorem dX6_lit_62 : decode cX6_lit 62 = .ok (.iconst 0, 1) := by decide +kernel
theorem dX6_lit_63 : decode cX6_lit 63 = .ok (.ireturn, 1) := by decide +kernel
theorem dX6_inSheet_0 : decode cX6_inSheet 0 = .ok (.iload_n 1, 1) := by decide +kernel
theorem dX6_inSheet_1 : decode cX6_inSheet 1 = .ok (.invokestatic 119, 3) := by decide +kernel
theorem dX6_inSheet_4 : decode cX6_inSheet 4 = .ok (.ifCond .eq 23, 3) := by decide +kernel
theorem dX6_inSheet_7 : decode cX6_inSheet 7 = .ok (.iload_n 2, 1) := by decide +kernel
theorem dX6_inSheet_8 : decode cX6_inSheet 8 = .ok (.iconst 0, 1) := by decide +kernel
theorem dX6_inSheet_9 : decode cX6_inSheet 9 = .ok (.bipush 7, 2) := by decide +kernel
theorem dX6_inSheet_11 : decode cX6_inSheet 11 = .ok (.invokestatic 39, 3) := by decide +kernel
theorem dX6_inSheet_14 : decode cX6_inSheet 14 = .ok (.ifCond .eq 13, 3) := by decide +kernel
theorem dX6_inSheet_17 : decode cX6_inSheet 17 = .ok (.iload_n 3, 1) := by decide +kernel
theorem dX6_inSheet_18 : decode cX6_inSheet 18 = .ok (.iconst 0, 1) := by decide +kernel
theorem dX6_inSheet_19 : decode cX6_inSheet 19 = .ok (.bipush 63, 2) := by decide +kernel
theorem dX6_inSheet_21 : decode cX6_inSheet 21 = .ok (.invokestatic 39, 3) := by decide +kernel
theorem dX6_inSheet_24 : decode cX6_inSheet 24 = .ok (.ifCond .ne 6, 3) := by decide +kernel
theorem dX6_inSheet_27 : decode cX6_inSheet 27 = .ok (.ldc 58, 2) := by decide +kernel
theorem dX6_inSheet_29 : decode cX6_inSheet 29 = .ok (.ireturn, 1) := by decide +kernel
theorem dX6_inSheet_30 : decode cX6_inSheet 30 = .ok (.aload_n 0, 1) := by decide +kernel
theorem dX6_inSheet_31 : decode cX6_inSheet 31 = .ok (.iload_n 1, 1) := by decide +kernel
theorem dX6_inSheet_32 : decode cX6_inSheet 32 = .ok (.invokevirtual 122, 3) := by decide +kernel
theorem dX6_inSheet_35 : decode cX6_inSheet 35 = .ok (.istore 4, 2) := by decide +kernel
theorem dX6_inSheet_37 : decode cX6_inSheet 37 = .ok (.iload 4, 2) := by decide +kernel
theorem dX6_inSheet_39 : decode cX6_inSheet 39 = .ok (.ifCond .lt 16, 3) := by decide +kernel
theorem dX6_inSheet_42 : decode cX6_inSheet 42 = .ok (.iload_n 3, 1) := by decide +kernel
theorem dX6_inSheet_43 : decode cX6_inSheet 43 = .ok (.aload_n 0, 1) := by decide +kernel
theorem dX6_inSheet_44 : decode cX6_inSheet 44 = .ok (.iload 4, 2) := by decide +kernel
theorem dX6_inSheet_46 : decode cX6_inSheet 46 = .ok (.iconst 2, 1) := by decide +kernel
theorem dX6_inSheet_47 : decode cX6_inSheet 47 = .ok (.iload_n 2, 1) := by decide +kernel
theorem dX6_inSheet_48 : decode cX6_inSheet 48 = .ok (.iadd, 1) := by decide +kernel
theorem dX6_inSheet_49 : decode cX6_inSheet 49 = .ok (.invokevirtual 116, 3) := by decide +kernel
theorem dX6_inSheet_52 : decode cX6_inSheet 52 = .ok (.if_icmp .lt 6, 3) := by decide +kernel
theorem dX6_inSheet_55 : decode cX6_inSheet 55 = .ok (.ldc 74, 2) := by decide +kernel
theorem dX6_inSheet_57 : decode cX6_inSheet 57 = .ok (.ireturn, 1) := by decide +kernel
theorem dX6_inSheet_58 : decode cX6_inSheet 58 = .ok (.aload_n 0, 1) := by decide +kernel
theorem dX6_inSheet_59 : decode cX6_inSheet 59 = .ok (.getfield 7, 3) := by decide +kernel
theorem dX6_inSheet_62 : decode cX6_inSheet 62 = .ok (.sipush 209, 3) := by decide +kernel
theorem dX6_inSheet_65 : decode cX6_inSheet 65 = .ok (.bipush 16, 2) := by decide +kernel
theorem dX6_inSheet_67 : decode cX6_inSheet 67 = .ok (.iload 4, 2) := by decide +kernel
theorem dX6_inSheet_69 : decode cX6_inSheet 69 = .ok (.imul, 1) := by decide +kernel
theorem dX6_inSheet_70 : decode cX6_inSheet 70 = .ok (.iadd, 1) := by decide +kernel
theorem dX6_inSheet_71 : decode cX6_inSheet 71 = .ok (.iconst 2, 1) := by decide +kernel
theorem dX6_inSheet_72 : decode cX6_inSheet 72 = .ok (.iload_n 2, 1) := by decide +kernel
theorem dX6_inSheet_73 : decode cX6_inSheet 73 = .ok (.imul, 1) := by decide +kernel
theorem dX6_inSheet_74 : decode cX6_inSheet 74 = .ok (.iadd, 1) := by decide +kernel
theorem dX6_inSheet_75 : decode cX6_inSheet 75 = .ok (.iload_n 3, 1) := by decide +kernel
theorem dX6_inSheet_76 : decode cX6_inSheet 76 = .ok (.bipush 32, 2) := by decide +kernel
theorem dX6_inSheet_78 : decode cX6_inSheet 78 = .ok (.idiv, 1) := by decide +kernel
theorem dX6_inSheet_79 : decode cX6_inSheet 79 = .ok (.iadd, 1) := by decide +kernel
theorem dX6_inSheet_80 : decode cX6_inSheet 80 = .ok (.iaload, 1) := by decide +kernel
theorem dX6_inSheet_81 : decode cX6_inSheet 81 = .ok (.iload_n 3, 1) := by decide +kernel
theorem dX6_inSheet_82 : decode cX6_inSheet 82 = .ok (.bipush 32, 2) := by decide +kernel
theorem dX6_inSheet_84 : decode cX6_inSheet 84 = .ok (.irem, 1) := by decide +kernel
theorem dX6_inSheet_85 : decode cX6_inSheet 85 = .ok (.ishr, 1) := by decide +kernel
theorem dX6_inSheet_86 : decode cX6_inSheet 86 = .ok (.iconst 1, 1) := by decide +kernel
theorem dX6_inSheet_87 : decode cX6_inSheet 87 = .ok (.iand, 1) := by decide +kernel
theorem dX6_inSheet_88 : decode cX6_inSheet 88 = .ok (.ireturn, 1) := by decide +kernel
theorem dX6_sheetOf_0 : decode cX6_sheetOf 0 = .ok (.iload_n 1, 1) := by decide +kernel
theorem dX6_sheetOf_1 : decode cX6_sheetOf 1 = .ok (.ifCond .lt 12, 3) := by decide +kernel
theorem dX6_sheetOf_4 : decode cX6_sheetOf 4 = .ok (.iload_n 2, 1) := by decide +kernel
theorem dX6_sheetOf_5 : decode cX6_sheetOf 5 = .ok (.iconst 0, 1) := by decide +kernel
theorem dX6_sheetOf_6 : decode cX6_sheetOf 6 = .ok (.iconst 3, 1) := by decide +kernel
theorem dX6_sheetOf_7 : decode cX6_sheetOf 7 = .ok (.invokestatic 39, 3) := by decide +kernel
theorem dX6_sheetOf_10 : decode cX6_sheetOf 10 = .ok (.ifCond .ne 6, 3) := by decide +kernel
theorem dX6_sheetOf_13 : decode cX6_sheetOf 13 = .ok (.ldc 58, 2) := by decide +kernel
theorem dX6_sheetOf_15 : decode cX6_sheetOf 15 = .ok (.ireturn, 1) := by decide +kernel
theorem dX6_sheetOf_16 : decode cX6_sheetOf 16 = .ok (.iload_n 1, 1) := by decide +kernel
theorem dX6_sheetOf_17 : decode cX6_sheetOf 17 = .ok (.aload_n 0, 1) := by decide +kernel
theorem dX6_sheetOf_18 : decode cX6_sheetOf 18 = .ok (.getfield 7, 3) := by decide +kernel
theorem dX6_sheetOf_21 : decode cX6_sheetOf 21 = .ok (.bipush 7, 2) := by decide +kernel
theorem dX6_sheetOf_23 : decode cX6_sheetOf 23 = .ok (.iaload, 1) := by decide +kernel
theorem dX6_sheetOf_24 : decode cX6_sheetOf 24 = .ok (.if_icmp .lt 6, 3) := by decide +kernel
theorem dX6_sheetOf_27 : decode cX6_sheetOf 27 = .ok (.ldc 74, 2) := by decide +kernel
theorem dX6_sheetOf_29 : decode cX6_sheetOf 29 = .ok (.ireturn, 1) := by decide +kernel
theorem dX6_sheetOf_30 : decode cX6_sheetOf 30 = .ok (.iload_n 2, 1) := by decide +kernel
theorem dX6_sheetOf_31 : decode cX6_sheetOf 31 = .ok (.iconst 2, 1) := by decide +kernel
theorem dX6_sheetOf_32 : decode cX6_sheetOf 32 = .ok (.if_icmp .ge 12, 3) := by decide +kernel
theorem dX6_sheetOf_35 : decode cX6_sheetOf 35 = .ok (.aload_n 0, 1) := by decide +kernel
theorem dX6_sheetOf_36 : decode cX6_sheetOf 36 = .ok (.iload_n 1, 1) := by decide +kernel
theorem dX6_sheetOf_37 : decode cX6_sheetOf 37 = .ok (.iload_n 2, 1) := by decide +kernel
theorem dX6_sheetOf_38 : decode cX6_sheetOf 38 = .ok (.invokevirtual 116, 3) := by decide +kernel
theorem dX6_sheetOf_41 : decode cX6_sheetOf 41 = .ok (.goto 29, 3) := by decide +kernel
theorem dX6_sheetOf_44 : decode cX6_sheetOf 44 = .ok (.iload_n 2, 1) := by decide +kernel
theorem dX6_sheetOf_45 : decode cX6_sheetOf 45 = .ok (.iconst 2, 1) := by decide +kernel
theorem dX6_sheetOf_46 : decode cX6_sheetOf 46 = .ok (.if_icmp .ne 19, 3) := by decide +kernel
theorem dX6_sheetOf_49 : decode cX6_sheetOf 49 = .ok (.aload_n 0, 1) := by decide +kernel
theorem dX6_sheetOf_50 : decode cX6_sheetOf 50 = .ok (.iload_n 1, 1) := by decide +kernel
theorem dX6_sheetOf_51 : decode cX6_sheetOf 51 = .ok (.invokevirtual 144, 3) := by decide +kernel
theorem dX6_sheetOf_54 : decode cX6_sheetOf 54 = .ok (.ifCond .eq 7, 3) := by decide +kernel
theorem dX6_sheetOf_57 : decode cX6_sheetOf 57 = .ok (.iconst 1, 1) := by decide +kernel
theorem dX6_sheetOf_58 : decode cX6_sheetOf 58 = .ok (.goto 12, 3) := by decide +kernel
theorem dX6_sheetOf_61 : decode cX6_sheetOf 61 = .ok (.iconst 0, 1) := by decide +kernel
theorem dX6_sheetOf_62 : decode cX6_sheetOf 62 = .ok (.goto 8, 3) := by decide +kernel
theorem dX6_sheetOf_65 : decode cX6_sheetOf 65 = .ok (.aload_n 0, 1) := by decide +kernel
theorem dX6_sheetOf_66 : decode cX6_sheetOf 66 = .ok (.iload_n 1, 1) := by decide +kernel
theorem dX6_sheetOf_67 : decode cX6_sheetOf 67 = .ok (.invokevirtual 147, 3) := by decide +kernel
theorem dX6_sheetOf_70 : decode cX6_sheetOf 70 = .ok (.ireturn, 1) := by decide +kernel
theorem dX6_isEven_0 : decode cX6_isEven 0 = .ok (.iconst 1, 1) := by decide +kernel
theorem dX6_isEven_1 : decode cX6_isEven 1 = .ok (.istore 4, 2) := by decide +kernel
theorem dX6_isEven_3 : decode cX6_isEven 3 = .ok (.iconst 0, 1) := by decide +kernel
theorem dX6_isEven_4 : decode cX6_isEven 4 = .ok (.istore 5, 2) := by decide +kernel
theorem dX6_isEven_6 : decode cX6_isEven 6 = .ok (.iload 5, 2) := by decide +kernel
theorem dX6_isEven_8 : decode cX6_isEven 8 = .ok (.aload_n 0, 1) := by decide +kernel
theorem dX6_isEven_9 : decode cX6_isEven 9 = .ok (.getfield 7, 3) := by decide +kernel
theorem dX6_isEven_12 : decode cX6_isEven 12 = .ok (.iconst 0, 1) := by decide +kernel
theorem dX6_isEven_13 : decode cX6_isEven 13 = .ok (.iaload, 1) := by decide +kernel
theorem dX6_isEven_14 : decode cX6_isEven 14 = .ok (.if_icmp .ge 94, 3) := by decide +kernel
theorem dX6_isEven_17 : decode cX6_isEven 17 = .ok (.iconst 0, 1) := by decide +kernel
theorem dX6_isEven_18 : decode cX6_isEven 18 = .ok (.istore 6, 2) := by decide +kernel
theorem dX6_isEven_20 : decode cX6_isEven 20 = .ok (.iload 6, 2) := by decide +kernel
theorem dX6_isEven_22 : decode cX6_isEven 22 = .ok (.aload_n 0, 1) := by decide +kernel
theorem dX6_isEven_23 : decode cX6_isEven 23 = .ok (.iload 5, 2) := by decide +kernel
theorem dX6_isEven_25 : decode cX6_isEven 25 = .ok (.iconst 1, 1) := by decide +kernel
theorem dX6_isEven_26 : decode cX6_isEven 26 = .ok (.invokevirtual 47, 3) := by decide +kernel
theorem dX6_isEven_29 : decode cX6_isEven 29 = .ok (.if_icmp .ge 73, 3) := by decide +kernel
theorem dX6_isEven_32 : decode cX6_isEven 32 = .ok (.aload_n 0, 1) := by decide +kernel
theorem dX6_isEven_33 : decode cX6_isEven 33 = .ok (.iload 5, 2) := by decide +kernel
theorem dX6_isEven_35 : decode cX6_isEven 35 = .ok (.iload 6, 2) := by decide +kernel
theorem dX6_isEven_37 : decode cX6_isEven 37 = .ok (.iconst 1, 1) := by decide +kernel
theorem dX6_isEven_38 : decode cX6_isEven 38 = .ok (.invokevirtual 55, 3) := by decide +kernel
theorem dX6_isEven_41 : decode cX6_isEven 41 = .ok (.aload_n 0, 1) := by decide +kernel
theorem dX6_isEven_42 : decode cX6_isEven 42 = .ok (.iload_n 1, 1) := by decide +kernel
theorem dX6_isEven_43 : decode cX6_isEven 43 = .ok (.iload_n 2, 1) := by decide +kernel
theorem dX6_isEven_44 : decode cX6_isEven 44 = .ok (.iconst 1, 1) := by decide +kernel
theorem dX6_isEven_45 : decode cX6_isEven 45 = .ok (.invokevirtual 55, 3) := by decide +kernel
theorem dX6_isEven_48 : decode cX6_isEven 48 = .ok (.isub, 1) := by decide +kernel
theorem dX6_isEven_49 : decode cX6_isEven 49 = .ok (.invokestatic 75, 3) := by decide +kernel
theorem dX6_isEven_52 : decode cX6_isEven 52 = .ok (.istore 7, 2) := by decide +kernel
theorem dX6_isEven_54 : decode cX6_isEven 54 = .ok (.iload 4, 2) := by decide +kernel
theorem dX6_isEven_56 : decode cX6_isEven 56 = .ok (.ifCond .eq 37, 3) := by decide +kernel
theorem dX6_isEven_59 : decode cX6_isEven 59 = .ok (.iload 7, 2) := by decide +kernel
theorem dX6_isEven_61 : decode cX6_isEven 61 = .ok (.aload_n 0, 1) := by decide +kernel
theorem dX6_isEven_62 : decode cX6_isEven 62 = .ok (.getfield 7, 3) := by decide +kernel
theorem dX6_isEven_65 : decode cX6_isEven 65 = .ok (.iconst 5, 1) := by decide +kernel
theorem dX6_isEven_66 : decode cX6_isEven 66 = .ok (.iaload, 1) := by decide +kernel
theorem dX6_isEven_67 : decode cX6_isEven 67 = .ok (.if_icmp .gt 22, 3) := by decide +kernel
theorem dX6_isEven_70 : decode cX6_isEven 70 = .ok (.aload_n 0, 1) := by decide +kernel
theorem dX6_isEven_71 : decode cX6_isEven 71 = .ok (.iload 5, 2) := by decide +kernel
theorem dX6_isEven_73 : decode cX6_isEven 73 = .ok (.iload 6, 2) := by decide +kernel
theorem dX6_isEven_75 : decode cX6_isEven 75 = .ok (.iload_n 3, 1) := by decide +kernel
theorem dX6_isEven_76 : decode cX6_isEven 76 = .ok (.invokevirtual 97, 3) := by decide +kernel
theorem dX6_isEven_79 : decode cX6_isEven 79 = .ok (.aload_n 0, 1) := by decide +kernel
theorem dX6_isEven_80 : decode cX6_isEven 80 = .ok (.iload_n 1, 1) := by decide +kernel
theorem dX6_isEven_81 : decode cX6_isEven 81 = .ok (.iload_n 2, 1) := by decide +kernel
theorem dX6_isEven_82 : decode cX6_isEven 82 = .ok (.iload_n 3, 1) := by decide +kernel
theorem dX6_isEven_83 : decode cX6_isEven 83 = .ok (.invokevirtual 97, 3) := by decide +kernel
theorem dX6_isEven_86 : decode cX6_isEven 86 = .ok (.if_icmp .ne 7, 3) := by decide +kernel
theorem dX6_isEven_89 : decode cX6_isEven 89 = .ok (.iconst 1, 1) := by decide +kernel
theorem dX6_isEven_90 : decode cX6_isEven 90 = .ok (.goto 4, 3) := by decide +kernel
theorem dX6_isEven_93 : decode cX6_isEven 93 = .ok (.iconst 0, 1) := by decide +kernel
theorem dX6_isEven_94 : decode cX6_isEven 94 = .ok (.istore 4, 2) := by decide +kernel
theorem dX6_isEven_96 : decode cX6_isEven 96 = .ok (.iinc 6 1, 3) := by decide +kernel
theorem dX6_isEven_99 : decode cX6_isEven 99 = .ok (.goto (-79), 3) := by decide +kernel
theorem dX6_isEven_102 : decode cX6_isEven 102 = .ok (.iinc 5 1, 3) := by decide +kernel
theorem dX6_isEven_105 : decode cX6_isEven 105 = .ok (.goto (-99), 3) := by decide +kernel
theorem dX6_isEven_108 : decode cX6_isEven 108 = .ok (.iload 4, 2) := by decide +kernel
theorem dX6_isEven_110 : decode cX6_isEven 110 = .ok (.ireturn, 1) := by decide +kernel
theorem dX6_even_0 : decode cX6_even 0 = .ok (.iload_n 1, 1) := by decide +kernel
theorem dX6_even_1 : decode cX6_even 1 = .ok (.invokestatic 119, 3) := by decide +kernel
theorem dX6_even_4 : decode cX6_even 4 = .ok (.ifCond .ne 6, 3) := by decide +kernel
theorem dX6_even_7 : decode cX6_even 7 = .ok (.ldc 58, 2) := by decide +kernel
theorem dX6_even_9 : decode cX6_even 9 = .ok (.ireturn, 1) := by decide +kernel
theorem dX6_even_10 : decode cX6_even 10 = .ok (.iconst 1, 1) := by decide +kernel
theorem dX6_even_11 : decode cX6_even 11 = .ok (.istore_n 2, 1) := by decide +kernel
theorem dX6_even_12 : decode cX6_even 12 = .ok (.iconst 0, 1) := by decide +kernel
theorem dX6_even_13 : decode cX6_even 13 = .ok (.istore_n 3, 1) := by decide +kernel
theorem dX6_even_14 : decode cX6_even 14 = .ok (.iload_n 3, 1) := by decide +kernel
theorem dX6_even_15 : decode cX6_even 15 = .ok (.aload_n 0, 1) := by decide +kernel
theorem dX6_even_16 : decode cX6_even 16 = .ok (.getfield 7, 3) := by decide +kernel
theorem dX6_even_19 : decode cX6_even 19 = .ok (.iconst 0, 1) := by decide +kernel
theorem dX6_even_20 : decode cX6_even 20 = .ok (.iaload, 1) := by decide +kernel
theorem dX6_even_21 : decode cX6_even 21 = .ok (.if_icmp .ge 50, 3) := by decide +kernel
theorem dX6_even_24 : decode cX6_even 24 = .ok (.iconst 0, 1) := by decide +kernel
theorem dX6_even_25 : decode cX6_even 25 = .ok (.istore 4, 2) := by decide +kernel
theorem dX6_even_27 : decode cX6_even 27 = .ok (.iload 4, 2) := by decide +kernel
theorem dX6_even_29 : decode cX6_even 29 = .ok (.aload_n 0, 1) := by decide +kernel
theorem dX6_even_30 : decode cX6_even 30 = .ok (.iload_n 3, 1) := by decide +kernel
theorem dX6_even_31 : decode cX6_even 31 = .ok (.iconst 1, 1) := by decide +kernel
theorem dX6_even_32 : decode cX6_even 32 = .ok (.invokevirtual 47, 3) := by decide +kernel
theorem dX6_even_35 : decode cX6_even 35 = .ok (.if_icmp .ge 30, 3) := by decide +kernel
theorem dX6_even_38 : decode cX6_even 38 = .ok (.iload_n 2, 1) := by decide +kernel
theorem dX6_even_39 : decode cX6_even 39 = .ok (.ifCond .eq 18, 3) := by decide +kernel
theorem dX6_even_42 : decode cX6_even 42 = .ok (.aload_n 0, 1) := by decide +kernel
theorem dX6_even_43 : decode cX6_even 43 = .ok (.iload_n 3, 1) := by decide +kernel
theorem dX6_even_44 : decode cX6_even 44 = .ok (.iload 4, 2) := by decide +kernel
theorem dX6_even_46 : decode cX6_even 46 = .ok (.iload_n 1, 1) := by decide +kernel
theorem dX6_even_47 : decode cX6_even 47 = .ok (.invokevirtual 150, 3) := by decide +kernel
theorem dX6_even_50 : decode cX6_even 50 = .ok (.ifCond .eq 7, 3) := by decide +kernel
theorem dX6_even_53 : decode cX6_even 53 = .ok (.iconst 1, 1) := by decide +kernel
theorem dX6_even_54 : decode cX6_even 54 = .ok (.goto 4, 3) := by decide +kernel
theorem dX6_even_57 : decode cX6_even 57 = .ok (.iconst 0, 1) := by decide +kernel
theorem dX6_even_58 : decode cX6_even 58 = .ok (.istore_n 2, 1) := by decide +kernel
theorem dX6_even_59 : decode cX6_even 59 = .ok (.iinc 4 1, 3) := by decide +kernel
theorem dX6_even_62 : decode cX6_even 62 = .ok (.goto (-35), 3) := by decide +kernel
theorem dX6_even_65 : decode cX6_even 65 = .ok (.iinc 3 1, 3) := by decide +kernel
theorem dX6_even_68 : decode cX6_even 68 = .ok (.goto (-54), 3) := by decide +kernel
theorem dX6_even_71 : decode cX6_even 71 = .ok (.iload_n 2, 1) := by decide +kernel
theorem dX6_even_72 : decode cX6_even 72 = .ok (.ifCond .eq 7, 3) := by decide +kernel
theorem dX6_even_75 : decode cX6_even 75 = .ok (.iconst 1, 1) := by decide +kernel
theorem dX6_even_76 : decode cX6_even 76 = .ok (.goto 4, 3) := by decide +kernel
theorem dX6_even_79 : decode cX6_even 79 = .ok (.iconst 0, 1) := by decide +kernel
theorem dX6_even_80 : decode cX6_even 80 = .ok (.ireturn, 1) := by decide +kernel
theorem dX6_clear_0 : decode cX6_clear 0 = .ok (.aload_n 0, 1) := by decide +kernel
theorem dX6_clear_1 : decode cX6_clear 1 = .ok (.iload_n 1, 1) := by decide +kernel
theorem dX6_clear_2 : decode cX6_clear 2 = .ok (.invokevirtual 43, 3) := by decide +kernel
theorem dX6_clear_5 : decode cX6_clear 5 = .ok (.ifCond .ne 6, 3) := by decide +kernel
theorem dX6_clear_8 : decode cX6_clear 8 = .ok (.ldc 58, 2) := by decide +kernel
theorem dX6_clear_10 : decode cX6_clear 10 = .ok (.ireturn, 1) := by decide +kernel
theorem dX6_clear_11 : decode cX6_clear 11 = .ok (.bipush 6, 2) := by decide +kernel
theorem dX6_clear_13 : decode cX6_clear 13 = .ok (.istore_n 2, 1) := by decide +kernel
theorem dX6_clear_14 : decode cX6_clear 14 = .ok (.iload_n 2, 1) := by decide +kernel
theorem dX6_clear_15 : decode cX6_clear 15 = .ok (.bipush 48, 2) := by decide +kernel
theorem dX6_clear_17 : decode cX6_clear 17 = .ok (.if_icmp .gt 20, 3) := by decide +kernel
theorem dX6_clear_20 : decode cX6_clear 20 = .ok (.aload_n 0, 1) := by decide +kernel
theorem dX6_clear_21 : decode cX6_clear 21 = .ok (.iload_n 1, 1) := by decide +kernel
theorem dX6_clear_22 : decode cX6_clear 22 = .ok (.iload_n 2, 1) := by decide +kernel
theorem dX6_clear_23 : decode cX6_clear 23 = .ok (.invokevirtual 138, 3) := by decide +kernel
theorem dX6_clear_26 : decode cX6_clear 26 = .ok (.ifCond .eq 5, 3) := by decide +kernel
theorem dX6_clear_29 : decode cX6_clear 29 = .ok (.iload_n 2, 1) := by decide +kernel
theorem dX6_clear_30 : decode cX6_clear 30 = .ok (.ireturn, 1) := by decide +kernel
theorem dX6_clear_31 : decode cX6_clear 31 = .ok (.iinc 2 1, 3) := by decide +kernel
theorem dX6_clear_34 : decode cX6_clear 34 = .ok (.goto (-20), 3) := by decide +kernel
theorem dX6_clear_37 : decode cX6_clear 37 = .ok (.ldc 74, 2) := by decide +kernel
theorem dX6_clear_39 : decode cX6_clear 39 = .ok (.ireturn, 1) := by decide +kernel
theorem dX6_clearSizes_0 : decode cX6_clearSizes 0 = .ok (.iconst 0, 1) := by decide +kernel
theorem dX6_clearSizes_1 : decode cX6_clearSizes 1 = .ok (.istore_n 2, 1) := by decide +kernel
theorem dX6_clearSizes_2 : decode cX6_clearSizes 2 = .ok (.bipush 6, 2) := by decide +kernel
theorem dX6_clearSizes_4 : decode cX6_clearSizes 4 = .ok (.istore_n 3, 1) := by decide +kernel
theorem dX6_clearSizes_5 : decode cX6_clearSizes 5 = .ok (.iload_n 3, 1) := by decide +kernel
theorem dX6_clearSizes_6 : decode cX6_clearSizes 6 = .ok (.bipush 48, 2) := by decide +kernel
theorem dX6_clearSizes_8 : decode cX6_clearSizes 8 = .ok (.if_icmp .gt 26, 3) := by decide +kernel
theorem dX6_clearSizes_11 : decode cX6_clearSizes 11 = .ok (.iload_n 2, 1) := by decide +kernel
theorem dX6_clearSizes_12 : decode cX6_clearSizes 12 = .ok (.aload_n 0, 1) := by decide +kernel
theorem dX6_clearSizes_13 : decode cX6_clearSizes 13 = .ok (.iload_n 1, 1) := by decide +kernel
theorem dX6_clearSizes_14 : decode cX6_clearSizes 14 = .ok (.iload_n 3, 1) := by decide +kernel
theorem dX6_clearSizes_15 : decode cX6_clearSizes 15 = .ok (.invokevirtual 138, 3) := by decide +kernel
theorem dX6_clearSizes_18 : decode cX6_clearSizes 18 = .ok (.ifCond .eq 7, 3) := by decide +kernel
theorem dX6_clearSizes_21 : decode cX6_clearSizes 21 = .ok (.iconst 1, 1) := by decide +kernel
theorem dX6_clearSizes_22 : decode cX6_clearSizes 22 = .ok (.goto 4, 3) := by decide +kernel
theorem dX6_clearSizes_25 : decode cX6_clearSizes 25 = .ok (.iconst 0, 1) := by decide +kernel
theorem dX6_clearSizes_26 : decode cX6_clearSizes 26 = .ok (.iadd, 1) := by decide +kernel
theorem dX6_clearSizes_27 : decode cX6_clearSizes 27 = .ok (.istore_n 2, 1) := by decide +kernel
theorem dX6_clearSizes_28 : decode cX6_clearSizes 28 = .ok (.iinc 3 1, 3) := by decide +kernel
theorem dX6_clearSizes_31 : decode cX6_clearSizes 31 = .ok (.goto (-26), 3) := by decide +kernel
theorem dX6_clearSizes_34 : decode cX6_clearSizes 34 = .ok (.iload_n 2, 1) := by decide +kernel
theorem dX6_clearSizes_35 : decode cX6_clearSizes 35 = .ok (.ireturn, 1) := by decide +kernel
theorem dX6_best_0 : decode cX6_best 0 = .ok (.aload_n 0, 1) := by decide +kernel
theorem dX6_best_1 : decode cX6_best 1 = .ok (.iload_n 1, 1) := by decide +kernel
theorem dX6_best_2 : decode cX6_best 2 = .ok (.iload_n 2, 1) := by decide +kernel
theorem dX6_best_3 : decode cX6_best 3 = .ok (.invokevirtual 70, 3) := by decide +kernel
theorem dX6_best_6 : decode cX6_best 6 = .ok (.ifCond .eq 12, 3) := by decide +kernel
theorem dX6_best_9 : decode cX6_best 9 = .ok (.iload_n 3, 1) := by decide +kernel
theorem dX6_best_10 : decode cX6_best 10 = .ok (.iconst 0, 1) := by decide +kernel
theorem dX6_best_11 : decode cX6_best 11 = .ok (.iconst 1, 1) := by decide +kernel
theorem dX6_best_12 : decode cX6_best 12 = .ok (.invokestatic 39, 3) := by decide +kernel
theorem dX6_best_15 : decode cX6_best 15 = .ok (.ifCond .ne 6, 3) := by decide +kernel
theorem dX6_best_18 : decode cX6_best 18 = .ok (.ldc 58, 2) := by decide +kernel
theorem dX6_best_20 : decode cX6_best 20 = .ok (.ireturn, 1) := by decide +kernel
theorem dX6_best_21 : decode cX6_best 21 = .ok (.aload_n 0, 1) := by decide +kernel
theorem dX6_best_22 : decode cX6_best 22 = .ok (.iload_n 1, 1) := by decide +kernel
theorem dX6_best_23 : decode cX6_best 23 = .ok (.iload_n 2, 1) := by decide +kernel
theorem dX6_best_24 : decode cX6_best 24 = .ok (.iconst 2, 1) := by decide +kernel
theorem dX6_best_25 : decode cX6_best 25 = .ok (.invokevirtual 55, 3) := by decide +kernel
theorem dX6_best_28 : decode cX6_best 28 = .ok (.istore 4, 2) := by decide +kernel
theorem dX6_best_30 : decode cX6_best 30 = .ok (.iconst 0, 1) := by decide +kernel
theorem dX6_best_31 : decode cX6_best 31 = .ok (.istore 5, 2) := by decide +kernel
theorem dX6_best_33 : decode cX6_best 33 = .ok (.iconst 0, 1) := by decide +kernel
theorem dX6_best_34 : decode cX6_best 34 = .ok (.istore 6, 2) := by decide +kernel
theorem dX6_best_36 : decode cX6_best 36 = .ok (.iconst 0, 1) := by decide +kernel
theorem dX6_best_37 : decode cX6_best 37 = .ok (.istore 7, 2) := by decide +kernel
theorem dX6_best_39 : decode cX6_best 39 = .ok (.iload 7, 2) := by decide +kernel
theorem dX6_best_41 : decode cX6_best 41 = .ok (.iconst 4, 1) := by decide +kernel
theorem dX6_best_42 : decode cX6_best 42 = .ok (.if_icmp .ge 61, 3) := by decide +kernel
theorem dX6_best_45 : decode cX6_best 45 = .ok (.aload_n 0, 1) := by decide +kernel
theorem dX6_best_46 : decode cX6_best 46 = .ok (.getfield 7, 3) := by decide +kernel
theorem dX6_best_49 : decode cX6_best 49 = .ok (.iload_n 1, 1) := by decide +kernel
theorem dX6_best_50 : decode cX6_best 50 = .ok (.iload_n 2, 1) := by decide +kernel
theorem dX6_best_51 : decode cX6_best 51 = .ok (.iconst 2, 1) := by decide +kernel
theorem dX6_best_52 : decode cX6_best 52 = .ok (.invokestatic 51, 3) := by decide +kernel
theorem dX6_best_55 : decode cX6_best 55 = .ok (.iload 7, 2) := by decide +kernel
theorem dX6_best_57 : decode cX6_best 57 = .ok (.iastore, 1) := by decide +kernel
theorem dX6_best_58 : decode cX6_best 58 = .ok (.aload_n 0, 1) := by decide +kernel
theorem dX6_best_59 : decode cX6_best 59 = .ok (.iload_n 1, 1) := by decide +kernel
theorem dX6_best_60 : decode cX6_best 60 = .ok (.invokevirtual 153, 3) := by decide +kernel
theorem dX6_best_63 : decode cX6_best 63 = .ok (.istore 8, 2) := by decide +kernel
theorem dX6_best_65 : decode cX6_best 65 = .ok (.iload 8, 2) := by decide +kernel
theorem dX6_best_67 : decode cX6_best 67 = .ok (.iload 6, 2) := by decide +kernel
theorem dX6_best_69 : decode cX6_best 69 = .ok (.if_icmp .le 8, 3) := by decide +kernel
theorem dX6_best_72 : decode cX6_best 72 = .ok (.iload 7, 2) := by decide +kernel
theorem dX6_best_74 : decode cX6_best 74 = .ok (.goto 5, 3) := by decide +kernel
theorem dX6_best_77 : decode cX6_best 77 = .ok (.iload 5, 2) := by decide +kernel
theorem dX6_best_79 : decode cX6_best 79 = .ok (.istore 5, 2) := by decide +kernel
theorem dX6_best_81 : decode cX6_best 81 = .ok (.iload 8, 2) := by decide +kernel
theorem dX6_best_83 : decode cX6_best 83 = .ok (.iload 6, 2) := by decide +kernel
theorem dX6_best_85 : decode cX6_best 85 = .ok (.if_icmp .le 8, 3) := by decide +kernel
theorem dX6_best_88 : decode cX6_best 88 = .ok (.iload 8, 2) := by decide +kernel
theorem dX6_best_90 : decode cX6_best 90 = .ok (.goto 5, 3) := by decide +kernel
theorem dX6_best_93 : decode cX6_best 93 = .ok (.iload 6, 2) := by decide +kernel
theorem dX6_best_95 : decode cX6_best 95 = .ok (.istore 6, 2) := by decide +kernel
theorem dX6_best_97 : decode cX6_best 97 = .ok (.iinc 7 1, 3) := by decide +kernel
theorem dX6_best_100 : decode cX6_best 100 = .ok (.goto (-61), 3) := by decide +kernel
theorem dX6_best_103 : decode cX6_best 103 = .ok (.aload_n 0, 1) := by decide +kernel
theorem dX6_best_104 : decode cX6_best 104 = .ok (.getfield 7, 3) := by decide +kernel
theorem dX6_best_107 : decode cX6_best 107 = .ok (.iload_n 1, 1) := by decide +kernel
theorem dX6_best_108 : decode cX6_best 108 = .ok (.iload_n 2, 1) := by decide +kernel
theorem dX6_best_109 : decode cX6_best 109 = .ok (.iconst 2, 1) := by decide +kernel
theorem dX6_best_110 : decode cX6_best 110 = .ok (.invokestatic 51, 3) := by decide +kernel
theorem dX6_best_113 : decode cX6_best 113 = .ok (.iload 4, 2) := by decide +kernel
theorem dX6_best_115 : decode cX6_best 115 = .ok (.iastore, 1) := by decide +kernel
theorem dX6_best_116 : decode cX6_best 116 = .ok (.iload_n 3, 1) := by decide +kernel
theorem dX6_best_117 : decode cX6_best 117 = .ok (.ifCond .ne 8, 3) := by decide +kernel
theorem dX6_best_120 : decode cX6_best 120 = .ok (.iload 5, 2) := by decide +kernel
theorem dX6_best_122 : decode cX6_best 122 = .ok (.goto 5, 3) := by decide +kernel
theorem dX6_best_125 : decode cX6_best 125 = .ok (.iload 6, 2) := by decide +kernel
theorem dX6_best_127 : decode cX6_best 127 = .ok (.ireturn, 1) := by decide +kernel
theorem dX6_stems_0 : decode cX6_stems 0 = .ok (.iconst 0, 1) := by decide +kernel
theorem dX6_stems_1 : decode cX6_stems 1 = .ok (.istore_n 1, 1) := by decide +kernel
theorem dX6_stems_2 : decode cX6_stems 2 = .ok (.iconst 0, 1) := by decide +kernel
theorem dX6_stems_3 : decode cX6_stems 3 = .ok (.istore_n 2, 1) := by decide +kernel
theorem dX6_stems_4 : decode cX6_stems 4 = .ok (.iload_n 2, 1) := by decide +kernel
theorem dX6_stems_5 : decode cX6_stems 5 = .ok (.aload_n 0, 1) := by decide +kernel
theorem dX6_stems_6 : decode cX6_stems 6 = .ok (.getfield 7, 3) := by decide +kernel
theorem dX6_stems_9 : decode cX6_stems 9 = .ok (.iconst 0, 1) := by decide +kernel
theorem dX6_stems_10 : decode cX6_stems 10 = .ok (.iaload, 1) := by decide +kernel
theorem dX6_stems_11 : decode cX6_stems 11 = .ok (.if_icmp .ge 18, 3) := by decide +kernel
theorem dX6_stems_14 : decode cX6_stems 14 = .ok (.iload_n 1, 1) := by decide +kernel
theorem dX6_stems_15 : decode cX6_stems 15 = .ok (.aload_n 0, 1) := by decide +kernel
theorem dX6_stems_16 : decode cX6_stems 16 = .ok (.iload_n 2, 1) := by decide +kernel
theorem dX6_stems_17 : decode cX6_stems 17 = .ok (.iconst 1, 1) := by decide +kernel
theorem dX6_stems_18 : decode cX6_stems 18 = .ok (.invokevirtual 47, 3) := by decide +kernel
theorem dX6_stems_21 : decode cX6_stems 21 = .ok (.iadd, 1) := by decide +kernel
theorem dX6_stems_22 : decode cX6_stems 22 = .ok (.istore_n 1, 1) := by decide +kernel
theorem dX6_stems_23 : decode cX6_stems 23 = .ok (.iinc 2 1, 3) := by decide +kernel
theorem dX6_stems_26 : decode cX6_stems 26 = .ok (.goto (-22), 3) := by decide +kernel
theorem dX6_stems_29 : decode cX6_stems 29 = .ok (.iload_n 1, 1) := by decide +kernel
theorem dX6_stems_30 : decode cX6_stems 30 = .ok (.ireturn, 1) := by decide +kernel
theorem dX6_mean_0 : decode cX6_mean 0 = .ok (.iconst 0, 1) := by decide +kernel
theorem dX6_mean_1 : decode cX6_mean 1 = .ok (.istore_n 1, 1) := by decide +kernel
theorem dX6_mean_2 : decode cX6_mean 2 = .ok (.iconst 0, 1) := by decide +kernel
theorem dX6_mean_3 : decode cX6_mean 3 = .ok (.istore_n 2, 1) := by decide +kernel
theorem dX6_mean_4 : decode cX6_mean 4 = .ok (.iload_n 2, 1) := by decide +kernel
theorem dX6_mean_5 : decode cX6_mean 5 = .ok (.aload_n 0, 1) := by decide +kernel
theorem dX6_mean_6 : decode cX6_mean 6 = .ok (.getfield 7, 3) := by decide +kernel
theorem dX6_mean_9 : decode cX6_mean 9 = .ok (.iconst 0, 1) := by decide +kernel
theorem dX6_mean_10 : decode cX6_mean 10 = .ok (.iaload, 1) := by decide +kernel
theorem dX6_mean_11 : decode cX6_mean 11 = .ok (.if_icmp .ge 37, 3) := by decide +kernel
theorem dX6_mean_14 : decode cX6_mean 14 = .ok (.iconst 0, 1) := by decide +kernel
theorem dX6_mean_15 : decode cX6_mean 15 = .ok (.istore_n 3, 1) := by decide +kernel
theorem dX6_mean_16 : decode cX6_mean 16 = .ok (.iload_n 3, 1) := by decide +kernel
theorem dX6_mean_17 : decode cX6_mean 17 = .ok (.aload_n 0, 1) := by decide +kernel
theorem dX6_mean_18 : decode cX6_mean 18 = .ok (.iload_n 2, 1) := by decide +kernel
theorem dX6_mean_19 : decode cX6_mean 19 = .ok (.iconst 1, 1) := by decide +kernel
theorem dX6_mean_20 : decode cX6_mean 20 = .ok (.invokevirtual 47, 3) := by decide +kernel
theorem dX6_mean_23 : decode cX6_mean 23 = .ok (.if_icmp .ge 19, 3) := by decide +kernel
theorem dX6_mean_26 : decode cX6_mean 26 = .ok (.iload_n 1, 1) := by decide +kernel
theorem dX6_mean_27 : decode cX6_mean 27 = .ok (.aload_n 0, 1) := by decide +kernel
theorem dX6_mean_28 : decode cX6_mean 28 = .ok (.iload_n 2, 1) := by decide +kernel
theorem dX6_mean_29 : decode cX6_mean 29 = .ok (.iload_n 3, 1) := by decide +kernel
theorem dX6_mean_30 : decode cX6_mean 30 = .ok (.iconst 1, 1) := by decide +kernel
theorem dX6_mean_31 : decode cX6_mean 31 = .ok (.invokevirtual 55, 3) := by decide +kernel
theorem dX6_mean_34 : decode cX6_mean 34 = .ok (.iadd, 1) := by decide +kernel
theorem dX6_mean_35 : decode cX6_mean 35 = .ok (.istore_n 1, 1) := by decide +kernel
theorem dX6_mean_36 : decode cX6_mean 36 = .ok (.iinc 3 1, 3) := by decide +kernel
theorem dX6_mean_39 : decode cX6_mean 39 = .ok (.goto (-23), 3) := by decide +kernel
theorem dX6_mean_42 : decode cX6_mean 42 = .ok (.iinc 2 1, 3) := by decide +kernel
theorem dX6_mean_45 : decode cX6_mean 45 = .ok (.goto (-41), 3) := by decide +kernel
theorem dX6_mean_48 : decode cX6_mean 48 = .ok (.iload_n 1, 1) := by decide +kernel
theorem dX6_mean_49 : decode cX6_mean 49 = .ok (.i2f, 1) := by decide +kernel
theorem dX6_mean_50 : decode cX6_mean 50 = .ok (.aload_n 0, 1) := by decide +kernel
theorem dX6_mean_51 : decode cX6_mean 51 = .ok (.invokevirtual 156, 3) := by decide +kernel
theorem dX6_mean_54 : decode cX6_mean 54 = .ok (.ifCond .ne 7, 3) := by decide +kernel
theorem dX6_mean_57 : decode cX6_mean 57 = .ok (.iconst 1, 1) := by decide +kernel
theorem dX6_mean_58 : decode cX6_mean 58 = .ok (.goto 7, 3) := by decide +kernel
theorem dX6_mean_61 : decode cX6_mean 61 = .ok (.aload_n 0, 1) := by decide +kernel
theorem dX6_mean_62 : decode cX6_mean 62 = .ok (.invokevirtual 156, 3) := by decide +kernel
theorem dX6_mean_65 : decode cX6_mean 65 = .ok (.i2f, 1) := by decide +kernel
theorem dX6_mean_66 : decode cX6_mean 66 = .ok (.fdiv, 1) := by decide +kernel
theorem dX6_mean_67 : decode cX6_mean 67 = .ok (.fstore_n 2, 1) := by decide +kernel
theorem dX6_mean_68 : decode cX6_mean 68 = .ok (.aload_n 0, 1) := by decide +kernel
theorem dX6_mean_69 : decode cX6_mean 69 = .ok (.invokevirtual 156, 3) := by decide +kernel
theorem dX6_mean_72 : decode cX6_mean 72 = .ok (.ifCond .ne 8, 3) := by decide +kernel
theorem dX6_mean_75 : decode cX6_mean 75 = .ok (.ldc 74, 2) := by decide +kernel
theorem dX6_mean_77 : decode cX6_mean 77 = .ok (.goto 7, 3) := by decide +kernel
theorem dX6_mean_80 : decode cX6_mean 80 = .ok (.fload_n 2, 1) := by decide +kernel
theorem dX6_mean_81 : decode cX6_mean 81 = .ok (.invokestatic 160, 3) := by decide +kernel
theorem dX6_mean_84 : decode cX6_mean 84 = .ok (.ireturn, 1) := by decide +kernel
theorem dX6_stales_0 : decode cX6_stales 0 = .ok (.iconst 0, 1) := by decide +kernel
theorem dX6_stales_1 : decode cX6_stales 1 = .ok (.istore_n 1, 1) := by decide +kernel
theorem dX6_stales_2 : decode cX6_stales 2 = .ok (.iconst 0, 1) := by decide +kernel
theorem dX6_stales_3 : decode cX6_stales 3 = .ok (.istore_n 2, 1) := by decide +kernel
theorem dX6_stales_4 : decode cX6_stales 4 = .ok (.iload_n 2, 1) := by decide +kernel
theorem dX6_stales_5 : decode cX6_stales 5 = .ok (.aload_n 0, 1) := by decide +kernel
theorem dX6_stales_6 : decode cX6_stales 6 = .ok (.getfield 7, 3) := by decide +kernel
theorem dX6_stales_9 : decode cX6_stales 9 = .ok (.bipush 7, 2) := by decide +kernel
theorem dX6_stales_11 : decode cX6_stales 11 = .ok (.iaload, 1) := by decide +kernel
theorem dX6_stales_12 : decode cX6_stales 12 = .ok (.if_icmp .ge 25, 3) := by decide +kernel
theorem dX6_stales_15 : decode cX6_stales 15 = .ok (.iload_n 1, 1) := by decide +kernel
theorem dX6_stales_16 : decode cX6_stales 16 = .ok (.aload_n 0, 1) := by decide +kernel
theorem dX6_stales_17 : decode cX6_stales 17 = .ok (.iload_n 2, 1) := by decide +kernel
theorem dX6_stales_18 : decode cX6_stales 18 = .ok (.invokevirtual 144, 3) := by decide +kernel
theorem dX6_stales_21 : decode cX6_stales 21 = .ok (.ifCond .eq 7, 3) := by decide +kernel
theorem dX6_stales_24 : decode cX6_stales 24 = .ok (.iconst 1, 1) := by decide +kernel
theorem dX6_stales_25 : decode cX6_stales 25 = .ok (.goto 4, 3) := by decide +kernel
theorem dX6_stales_28 : decode cX6_stales 28 = .ok (.iconst 0, 1) := by decide +kernel
theorem dX6_stales_29 : decode cX6_stales 29 = .ok (.iadd, 1) := by decide +kernel
theorem dX6_stales_30 : decode cX6_stales 30 = .ok (.istore_n 1, 1) := by decide +kernel
theorem dX6_stales_31 : decode cX6_stales 31 = .ok (.iinc 2 1, 3) := by decide +kernel
theorem dX6_stales_34 : decode cX6_stales 34 = .ok (.goto (-30), 3) := by decide +kernel
theorem dX6_stales_37 : decode cX6_stales 37 = .ok (.iload_n 1, 1) := by decide +kernel
theorem dX6_stales_38 : decode cX6_stales 38 = .ok (.ireturn, 1) := by decide +kernel
theorem dX6_unlikeWidths_0 : decode cX6_unlikeWidths 0 = .ok (.iconst 0, 1) := by decide +kernel
theorem dX6_unlikeWidths_1 : decode cX6_unlikeWidths 1 = .ok (.istore_n 1, 1) := by decide +kernel
theorem dX6_unlikeWidths_2 : decode cX6_unlikeWidths 2 = .ok (.iconst 1, 1) := by decide +kernel
theorem dX6_unlikeWidths_3 : decode cX6_unlikeWidths 3 = .ok (.istore_n 2, 1) := by decide +kernel
theorem dX6_unlikeWidths_4 : decode cX6_unlikeWidths 4 = .ok (.iload_n 2, 1) := by decide +kernel
theorem dX6_unlikeWidths_5 : decode cX6_unlikeWidths 5 = .ok (.sipush 301, 3) := by decide +kernel
theorem dX6_unlikeWidths_8 : decode cX6_unlikeWidths 8 = .ok (.if_icmp .ge 25, 3) := by decide +kernel
theorem dX6_unlikeWidths_11 : decode cX6_unlikeWidths 11 = .ok (.iload_n 1, 1) := by decide +kernel
theorem dX6_unlikeWidths_12 : decode cX6_unlikeWidths 12 = .ok (.aload_n 0, 1) := by decide +kernel
theorem dX6_unlikeWidths_13 : decode cX6_unlikeWidths 13 = .ok (.iload_n 2, 1) := by decide +kernel
theorem dX6_unlikeWidths_14 : decode cX6_unlikeWidths 14 = .ok (.invokevirtual 135, 3) := by decide +kernel
theorem dX6_unlikeWidths_17 : decode cX6_unlikeWidths 17 = .ok (.ifCond .le 7, 3) := by decide +kernel
theorem dX6_unlikeWidths_20 : decode cX6_unlikeWidths 20 = .ok (.iconst 1, 1) := by decide +kernel
theorem dX6_unlikeWidths_21 : decode cX6_unlikeWidths 21 = .ok (.goto 4, 3) := by decide +kernel
theorem dX6_unlikeWidths_24 : decode cX6_unlikeWidths 24 = .ok (.iconst 0, 1) := by decide +kernel
theorem dX6_unlikeWidths_25 : decode cX6_unlikeWidths 25 = .ok (.iadd, 1) := by decide +kernel
theorem dX6_unlikeWidths_26 : decode cX6_unlikeWidths 26 = .ok (.istore_n 1, 1) := by decide +kernel
theorem dX6_unlikeWidths_27 : decode cX6_unlikeWidths 27 = .ok (.iinc 2 1, 3) := by decide +kernel
theorem dX6_unlikeWidths_30 : decode cX6_unlikeWidths 30 = .ok (.goto (-26), 3) := by decide +kernel
theorem dX6_unlikeWidths_33 : decode cX6_unlikeWidths 33 = .ok (.iload_n 1, 1) := by decide +kernel
theorem dX6_unlikeWidths_34 : decode cX6_unlikeWidths 34 = .ok (.ireturn, 1) := by decide +kernel
theorem dX6_count_0 : decode cX6_count 0 = .ok (.iload_n 1, 1) := by decide +kernel
theorem dX6_count_1 : decode cX6_count 1 = .ok (.tableswitch 152 0 12 #[67, 74, 79, 86, 94, 99, 104, 112, 117, 152, 122, 122, 122], 67) := by decide +kernel
theorem dX6_count_68 : decode cX6_count 68 = .ok (.aload_n 0, 1) := by decide +kernel
theorem dX6_count_69 : decode cX6_count 69 = .ok (.getfield 7, 3) := by decide +kernel
theorem dX6_count_72 : decode cX6_count 72 = .ok (.iconst 0, 1) := by decide +kernel
theorem dX6_count_73 : decode cX6_count 73 = .ok (.iaload, 1) := by decide +kernel
theorem dX6_count_74 : decode cX6_count 74 = .ok (.ireturn, 1) := by decide +kernel
theorem dX6_count_75 : decode cX6_count 75 = .ok (.aload_n 0, 1) := by decide +kernel
theorem dX6_count_76 : decode cX6_count 76 = .ok (.invokevirtual 156, 3) := by decide +kernel
theorem dX6_count_79 : decode cX6_count 79 = .ok (.ireturn, 1) := by decide +kernel
theorem dX6_count_80 : decode cX6_count 80 = .ok (.aload_n 0, 1) := by decide +kernel
theorem dX6_count_81 : decode cX6_count 81 = .ok (.getfield 7, 3) := by decide +kernel
theorem dX6_count_84 : decode cX6_count 84 = .ok (.iconst 1, 1) := by decide +kernel
theorem dX6_count_85 : decode cX6_count 85 = .ok (.iaload, 1) := by decide +kernel
theorem dX6_count_86 : decode cX6_count 86 = .ok (.ireturn, 1) := by decide +kernel
theorem dX6_count_87 : decode cX6_count 87 = .ok (.aload_n 0, 1) := by decide +kernel
theorem dX6_count_88 : decode cX6_count 88 = .ok (.getfield 7, 3) := by decide +kernel
theorem dX6_count_91 : decode cX6_count 91 = .ok (.bipush 7, 2) := by decide +kernel
theorem dX6_count_93 : decode cX6_count 93 = .ok (.iaload, 1) := by decide +kernel
theorem dX6_count_94 : decode cX6_count 94 = .ok (.ireturn, 1) := by decide +kernel
theorem dX6_count_95 : decode cX6_count 95 = .ok (.aload_n 0, 1) := by decide +kernel
theorem dX6_count_96 : decode cX6_count 96 = .ok (.invokevirtual 166, 3) := by decide +kernel
theorem dX6_count_99 : decode cX6_count 99 = .ok (.ireturn, 1) := by decide +kernel
theorem dX6_count_100 : decode cX6_count 100 = .ok (.aload_n 0, 1) := by decide +kernel
theorem dX6_count_101 : decode cX6_count 101 = .ok (.invokevirtual 169, 3) := by decide +kernel
theorem dX6_count_104 : decode cX6_count 104 = .ok (.ireturn, 1) := by decide +kernel
theorem dX6_count_105 : decode cX6_count 105 = .ok (.aload_n 0, 1) := by decide +kernel
theorem dX6_count_106 : decode cX6_count 106 = .ok (.getfield 7, 3) := by decide +kernel
theorem dX6_count_109 : decode cX6_count 109 = .ok (.bipush 8, 2) := by decide +kernel
theorem dX6_count_111 : decode cX6_count 111 = .ok (.iaload, 1) := by decide +kernel
theorem dX6_count_112 : decode cX6_count 112 = .ok (.ireturn, 1) := by decide +kernel
theorem dX6_count_113 : decode cX6_count 113 = .ok (.aload_n 0, 1) := by decide +kernel
theorem dX6_count_114 : decode cX6_count 114 = .ok (.getfield 35, 3) := by decide +kernel
theorem dX6_count_117 : decode cX6_count 117 = .ok (.ireturn, 1) := by decide +kernel
theorem dX6_count_118 : decode cX6_count 118 = .ok (.aload_n 0, 1) := by decide +kernel
theorem dX6_count_119 : decode cX6_count 119 = .ok (.getfield 172, 3) := by decide +kernel
theorem dX6_count_122 : decode cX6_count 122 = .ok (.ireturn, 1) := by decide +kernel
theorem dX6_count_123 : decode cX6_count 123 = .ok (.iload_n 1, 1) := by decide +kernel
theorem dX6_count_124 : decode cX6_count 124 = .ok (.bipush 10, 2) := by decide +kernel
theorem dX6_count_126 : decode cX6_count 126 = .ok (.isub, 1) := by decide +kernel
theorem dX6_count_127 : decode cX6_count 127 = .ok (.aload_n 0, 1) := by decide +kernel
theorem dX6_count_128 : decode cX6_count 128 = .ok (.getfield 7, 3) := by decide +kernel
theorem dX6_count_131 : decode cX6_count 131 = .ok (.iconst 1, 1) := by decide +kernel
theorem dX6_count_132 : decode cX6_count 132 = .ok (.iaload, 1) := by decide +kernel
theorem dX6_count_133 : decode cX6_count 133 = .ok (.if_icmp .ge 17, 3) := by decide +kernel
theorem dX6_count_136 : decode cX6_count 136 = .ok (.aload_n 0, 1) := by decide +kernel
theorem dX6_count_137 : decode cX6_count 137 = .ok (.getfield 7, 3) := by decide +kernel
theorem dX6_count_140 : decode cX6_count 140 = .ok (.iconst 2, 1) := by decide +kernel
theorem dX6_count_141 : decode cX6_count 141 = .ok (.iload_n 1, 1) := by decide +kernel
theorem dX6_count_142 : decode cX6_count 142 = .ok (.iadd, 1) := by decide +kernel
theorem dX6_count_143 : decode cX6_count 143 = .ok (.bipush 10, 2) := by decide +kernel
theorem dX6_count_145 : decode cX6_count 145 = .ok (.isub, 1) := by decide +kernel
theorem dX6_count_146 : decode cX6_count 146 = .ok (.iaload, 1) := by decide +kernel
theorem dX6_count_147 : decode cX6_count 147 = .ok (.goto 5, 3) := by decide +kernel
theorem dX6_count_150 : decode cX6_count 150 = .ok (.ldc 74, 2) := by decide +kernel
theorem dX6_count_152 : decode cX6_count 152 = .ok (.ireturn, 1) := by decide +kernel
theorem dX6_count_153 : decode cX6_count 153 = .ok (.iload_n 1, 1) := by decide +kernel
theorem dX6_count_154 : decode cX6_count 154 = .ok (.bipush 20, 2) := by decide +kernel
theorem dX6_count_156 : decode cX6_count 156 = .ok (.bipush 21, 2) := by decide +kernel
theorem dX6_count_158 : decode cX6_count 158 = .ok (.invokestatic 39, 3) := by decide +kernel
theorem dX6_count_161 : decode cX6_count 161 = .ok (.ifCond .eq 17, 3) := by decide +kernel
theorem dX6_count_164 : decode cX6_count 164 = .ok (.aload_n 0, 1) := by decide +kernel
theorem dX6_count_165 : decode cX6_count 165 = .ok (.getfield 7, 3) := by decide +kernel
theorem dX6_count_168 : decode cX6_count 168 = .ok (.iconst 5, 1) := by decide +kernel
theorem dX6_count_169 : decode cX6_count 169 = .ok (.iload_n 1, 1) := by decide +kernel
theorem dX6_count_170 : decode cX6_count 170 = .ok (.iadd, 1) := by decide +kernel
theorem dX6_count_171 : decode cX6_count 171 = .ok (.bipush 20, 2) := by decide +kernel
theorem dX6_count_173 : decode cX6_count 173 = .ok (.isub, 1) := by decide +kernel
theorem dX6_count_174 : decode cX6_count 174 = .ok (.iaload, 1) := by decide +kernel
theorem dX6_count_175 : decode cX6_count 175 = .ok (.goto 5, 3) := by decide +kernel
theorem dX6_count_178 : decode cX6_count 178 = .ok (.ldc 58, 2) := by decide +kernel
theorem dX6_count_180 : decode cX6_count 180 = .ok (.ireturn, 1) := by decide +kernel
theorem dX6_undo_0 : decode cX6_undo 0 = .ok (.aload_n 0, 1) := by decide +kernel
theorem dX6_undo_1 : decode cX6_undo 1 = .ok (.getfield 35, 3) := by decide +kernel
theorem dX6_undo_4 : decode cX6_undo 4 = .ok (.ifCond .ne 6, 3) := by decide +kernel
theorem dX6_undo_7 : decode cX6_undo 7 = .ok (.ldc 69, 2) := by decide +kernel
theorem dX6_undo_9 : decode cX6_undo 9 = .ok (.ireturn, 1) := by decide +kernel
theorem dX6_undo_10 : decode cX6_undo 10 = .ok (.aload_n 0, 1) := by decide +kernel
theorem dX6_undo_11 : decode cX6_undo 11 = .ok (.dup, 1) := by decide +kernel
theorem dX6_undo_12 : decode cX6_undo 12 = .ok (.getfield 35, 3) := by decide +kernel
theorem dX6_undo_15 : decode cX6_undo 15 = .ok (.iconst 1, 1) := by decide +kernel
theorem dX6_undo_16 : decode cX6_undo 16 = .ok (.isub, 1) := by decide +kernel
theorem dX6_undo_17 : decode cX6_undo 17 = .ok (.putfield 35, 3) := by decide +kernel
theorem dX6_undo_20 : decode cX6_undo 20 = .ok (.iconst 0, 1) := by decide +kernel
theorem dX6_undo_21 : decode cX6_undo 21 = .ok (.istore_n 1, 1) := by decide +kernel
theorem dX6_undo_22 : decode cX6_undo 22 = .ok (.iload_n 1, 1) := by decide +kernel
theorem dX6_undo_23 : decode cX6_undo 23 = .ok (.sipush 273, 3) := by decide +kernel
theorem dX6_undo_26 : decode cX6_undo 26 = .ok (.if_icmp .ge 30, 3) := by decide +kernel
theorem dX6_undo_29 : decode cX6_undo 29 = .ok (.aload_n 0, 1) := by decide +kernel
theorem dX6_undo_30 : decode cX6_undo 30 = .ok (.getfield 7, 3) := by decide +kernel
theorem dX6_undo_33 : decode cX6_undo 33 = .ok (.iload_n 1, 1) := by decide +kernel
theorem dX6_undo_34 : decode cX6_undo 34 = .ok (.aload_n 0, 1) := by decide +kernel
theorem dX6_undo_35 : decode cX6_undo 35 = .ok (.getfield 13, 3) := by decide +kernel
theorem dX6_undo_38 : decode cX6_undo 38 = .ok (.sipush 273, 3) := by decide +kernel
theorem dX6_undo_41 : decode cX6_undo 41 = .ok (.aload_n 0, 1) := by decide +kernel
theorem dX6_undo_42 : decode cX6_undo 42 = .ok (.getfield 35, 3) := by decide +kernel
theorem dX6_undo_45 : decode cX6_undo 45 = .ok (.imul, 1) := by decide +kernel
theorem dX6_undo_46 : decode cX6_undo 46 = .ok (.iload_n 1, 1) := by decide +kernel
theorem dX6_undo_47 : decode cX6_undo 47 = .ok (.iadd, 1) := by decide +kernel
theorem dX6_undo_48 : decode cX6_undo 48 = .ok (.iaload, 1) := by decide +kernel
theorem dX6_undo_49 : decode cX6_undo 49 = .ok (.iastore, 1) := by decide +kernel
theorem dX6_undo_50 : decode cX6_undo 50 = .ok (.iinc 1 1, 3) := by decide +kernel
theorem dX6_undo_53 : decode cX6_undo 53 = .ok (.goto (-31), 3) := by decide +kernel
theorem dX6_undo_56 : decode cX6_undo 56 = .ok (.aload_n 0, 1) := by decide +kernel
theorem dX6_undo_57 : decode cX6_undo 57 = .ok (.getfield 35, 3) := by decide +kernel
theorem dX6_undo_60 : decode cX6_undo 60 = .ok (.ireturn, 1) := by decide +kernel
theorem dX6_type_0 : decode cX6_type 0 = .ok (.iload_n 1, 1) := by decide +kernel
theorem dX6_type_1 : decode cX6_type 1 = .ok (.bipush 32, 2) := by decide +kernel
theorem dX6_type_3 : decode cX6_type 3 = .ok (.bipush 126, 2) := by decide +kernel
theorem dX6_type_5 : decode cX6_type 5 = .ok (.invokestatic 39, 3) := by decide +kernel
theorem dX6_type_8 : decode cX6_type 8 = .ok (.ifCond .ne 6, 3) := by decide +kernel
theorem dX6_type_11 : decode cX6_type 11 = .ok (.ldc 58, 2) := by decide +kernel
theorem dX6_type_13 : decode cX6_type 13 = .ok (.ireturn, 1) := by decide +kernel
theorem dX6_type_14 : decode cX6_type 14 = .ok (.aload_n 0, 1) := by decide +kernel
theorem dX6_type_15 : decode cX6_type 15 = .ok (.getfield 172, 3) := by decide +kernel
theorem dX6_type_18 : decode cX6_type 18 = .ok (.bipush 60, 2) := by decide +kernel
theorem dX6_type_20 : decode cX6_type 20 = .ok (.if_icmp .ne 6, 3) := by decide +kernel
theorem dX6_type_23 : decode cX6_type 23 = .ok (.ldc 59, 2) := by decide +kernel
theorem dX6_type_25 : decode cX6_type 25 = .ok (.ireturn, 1) := by decide +kernel
theorem dX6_type_26 : decode cX6_type 26 = .ok (.aload_n 0, 1) := by decide +kernel
theorem dX6_type_27 : decode cX6_type 27 = .ok (.getfield 19, 3) := by decide +kernel
theorem dX6_type_30 : decode cX6_type 30 = .ok (.aload_n 0, 1) := by decide +kernel
theorem dX6_type_31 : decode cX6_type 31 = .ok (.getfield 172, 3) := by decide +kernel
theorem dX6_type_34 : decode cX6_type 34 = .ok (.iload_n 1, 1) := by decide +kernel
theorem dX6_type_35 : decode cX6_type 35 = .ok (.iastore, 1) := by decide +kernel
theorem dX6_type_36 : decode cX6_type 36 = .ok (.aload_n 0, 1) := by decide +kernel
theorem dX6_type_37 : decode cX6_type 37 = .ok (.dup, 1) := by decide +kernel
theorem dX6_type_38 : decode cX6_type 38 = .ok (.getfield 172, 3) := by decide +kernel
theorem dX6_type_41 : decode cX6_type 41 = .ok (.iconst 1, 1) := by decide +kernel
theorem dX6_type_42 : decode cX6_type 42 = .ok (.iadd, 1) := by decide +kernel
theorem dX6_type_43 : decode cX6_type 43 = .ok (.putfield 172, 3) := by decide +kernel
theorem dX6_type_46 : decode cX6_type 46 = .ok (.aload_n 0, 1) := by decide +kernel
theorem dX6_type_47 : decode cX6_type 47 = .ok (.getfield 172, 3) := by decide +kernel
theorem dX6_type_50 : decode cX6_type 50 = .ok (.ireturn, 1) := by decide +kernel
theorem dX6_clearText_0 : decode cX6_clearText 0 = .ok (.aload_n 0, 1) := by decide +kernel
theorem dX6_clearText_1 : decode cX6_clearText 1 = .ok (.getfield 172, 3) := by decide +kernel
theorem dX6_clearText_4 : decode cX6_clearText 4 = .ok (.istore_n 1, 1) := by decide +kernel
theorem dX6_clearText_5 : decode cX6_clearText 5 = .ok (.aload_n 0, 1) := by decide +kernel
theorem dX6_clearText_6 : decode cX6_clearText 6 = .ok (.iconst 0, 1) := by decide +kernel
theorem dX6_clearText_7 : decode cX6_clearText 7 = .ok (.putfield 172, 3) := by decide +kernel
theorem dX6_clearText_10 : decode cX6_clearText 10 = .ok (.iload_n 1, 1) := by decide +kernel
theorem dX6_clearText_11 : decode cX6_clearText 11 = .ok (.ireturn, 1) := by decide +kernel
theorem dX6_isAt_0 : decode cX6_isAt 0 = .ok (.aload_n 0, 1) := by decide +kernel
theorem dX6_isAt_1 : decode cX6_isAt 1 = .ok (.getfield 175, 3) := by decide +kernel
theorem dX6_isAt_4 : decode cX6_isAt 4 = .ok (.aload_n 0, 1) := by decide +kernel
theorem dX6_isAt_5 : decode cX6_isAt 5 = .ok (.getfield 172, 3) := by decide +kernel
theorem dX6_isAt_8 : decode cX6_isAt 8 = .ok (.if_icmp .ge 24, 3) := by decide +kernel
theorem dX6_isAt_11 : decode cX6_isAt 11 = .ok (.aload_n 0, 1) := by decide +kernel
theorem dX6_isAt_12 : decode cX6_isAt 12 = .ok (.getfield 19, 3) := by decide +kernel
theorem dX6_isAt_15 : decode cX6_isAt 15 = .ok (.aload_n 0, 1) := by decide +kernel
theorem dX6_isAt_16 : decode cX6_isAt 16 = .ok (.getfield 175, 3) := by decide +kernel
theorem dX6_isAt_19 : decode cX6_isAt 19 = .ok (.iaload, 1) := by decide +kernel
theorem dX6_isAt_20 : decode cX6_isAt 20 = .ok (.iload_n 1, 1) := by decide +kernel
theorem dX6_isAt_21 : decode cX6_isAt 21 = .ok (.iload_n 2, 1) := by decide +kernel
theorem dX6_isAt_22 : decode cX6_isAt 22 = .ok (.invokestatic 39, 3) := by decide +kernel
theorem dX6_isAt_25 : decode cX6_isAt 25 = .ok (.ifCond .eq 7, 3) := by decide +kernel
theorem dX6_isAt_28 : decode cX6_isAt 28 = .ok (.iconst 1, 1) := by decide +kernel
theorem dX6_isAt_29 : decode cX6_isAt 29 = .ok (.goto 4, 3) := by decide +kernel
theorem dX6_isAt_32 : decode cX6_isAt 32 = .ok (.iconst 0, 1) := by decide +kernel
theorem dX6_isAt_33 : decode cX6_isAt 33 = .ok (.ireturn, 1) := by decide +kernel
theorem dX6_sign_0 : decode cX6_sign 0 = .ok (.aload_n 0, 1) := by decide +kernel
theorem dX6_sign_1 : decode cX6_sign 1 = .ok (.iload_n 1, 1) := by decide +kernel
theorem dX6_sign_2 : decode cX6_sign 2 = .ok (.iload_n 1, 1) := by decide +kernel
theorem dX6_sign_3 : decode cX6_sign 3 = .ok (.invokevirtual 178, 3) := by decide +kernel
theorem dX6_sign_6 : decode cX6_sign 6 = .ok (.istore_n 2, 1) := by decide +kernel
theorem dX6_sign_7 : decode cX6_sign 7 = .ok (.aload_n 0, 1) := by decide +kernel
theorem dX6_sign_8 : decode cX6_sign 8 = .ok (.dup, 1) := by decide +kernel
theorem dX6_sign_9 : decode cX6_sign 9 = .ok (.getfield 175, 3) := by decide +kernel
theorem dX6_sign_12 : decode cX6_sign 12 = .ok (.iload_n 2, 1) := by decide +kernel
theorem dX6_sign_13 : decode cX6_sign 13 = .ok (.ifCond .eq 7, 3) := by decide +kernel
theorem dX6_sign_16 : decode cX6_sign 16 = .ok (.iconst 1, 1) := by decide +kernel
theorem dX6_sign_17 : decode cX6_sign 17 = .ok (.goto 4, 3) := by decide +kernel
theorem dX6_sign_20 : decode cX6_sign 20 = .ok (.iconst 0, 1) := by decide +kernel
theorem dX6_sign_21 : decode cX6_sign 21 = .ok (.iadd, 1) := by decide +kernel
theorem dX6_sign_22 : decode cX6_sign 22 = .ok (.putfield 175, 3) := by decide +kernel
theorem dX6_sign_25 : decode cX6_sign 25 = .ok (.iload_n 2, 1) := by decide +kernel
theorem dX6_sign_26 : decode cX6_sign 26 = .ok (.ireturn, 1) := by decide +kernel
theorem dX6_numbered_0 : decode cX6_numbered 0 = .ok (.aload_n 0, 1) := by decide +kernel
theorem dX6_numbered_1 : decode cX6_numbered 1 = .ok (.getfield 175, 3) := by decide +kernel
theorem dX6_numbered_4 : decode cX6_numbered 4 = .ok (.istore_n 2, 1) := by decide +kernel
theorem dX6_numbered_5 : decode cX6_numbered 5 = .ok (.aload_n 0, 1) := by decide +kernel
theorem dX6_numbered_6 : decode cX6_numbered 6 = .ok (.getfield 28, 3) := by decide +kernel
theorem dX6_numbered_9 : decode cX6_numbered 9 = .ok (.iload_n 1, 1) := by decide +kernel
theorem dX6_numbered_10 : decode cX6_numbered 10 = .ok (.iconst 0, 1) := by decide +kernel
theorem dX6_numbered_11 : decode cX6_numbered 11 = .ok (.iastore, 1) := by decide +kernel
theorem dX6_numbered_12 : decode cX6_numbered 12 = .ok (.aload_n 0, 1) := by decide +kernel
theorem dX6_numbered_13 : decode cX6_numbered 13 = .ok (.bipush 48, 2) := by decide +kernel
theorem dX6_numbered_15 : decode cX6_numbered 15 = .ok (.bipush 57, 2) := by decide +kernel
theorem dX6_numbered_17 : decode cX6_numbered 17 = .ok (.invokevirtual 178, 3) := by decide +kernel
theorem dX6_numbered_20 : decode cX6_numbered 20 = .ok (.ifCond .eq 54, 3) := by decide +kernel
theorem dX6_numbered_23 : decode cX6_numbered 23 = .ok (.aload_n 0, 1) := by decide +kernel
theorem dX6_numbered_24 : decode cX6_numbered 24 = .ok (.getfield 175, 3) := by decide +kernel
theorem dX6_numbered_27 : decode cX6_numbered 27 = .ok (.iload_n 2, 1) := by decide +kernel
theorem dX6_numbered_28 : decode cX6_numbered 28 = .ok (.isub, 1) := by decide +kernel
theorem dX6_numbered_29 : decode cX6_numbered 29 = .ok (.iconst 4, 1) := by decide +kernel
theorem dX6_numbered_30 : decode cX6_numbered 30 = .ok (.if_icmp .ge 44, 3) := by decide +kernel
theorem dX6_numbered_33 : decode cX6_numbered 33 = .ok (.aload_n 0, 1) := by decide +kernel
theorem dX6_numbered_34 : decode cX6_numbered 34 = .ok (.getfield 28, 3) := by decide +kernel
theorem dX6_numbered_37 : decode cX6_numbered 37 = .ok (.iload_n 1, 1) := by decide +kernel
theorem dX6_numbered_38 : decode cX6_numbered 38 = .ok (.bipush 10, 2) := by decide +kernel
theorem dX6_numbered_40 : decode cX6_numbered 40 = .ok (.aload_n 0, 1) := by decide +kernel
theorem dX6_numbered_41 : decode cX6_numbered 41 = .ok (.getfield 28, 3) := by decide +kernel
theorem dX6_numbered_44 : decode cX6_numbered 44 = .ok (.iload_n 1, 1) := by decide +kernel
theorem dX6_numbered_45 : decode cX6_numbered 45 = .ok (.iaload, 1) := by decide +kernel
theorem dX6_numbered_46 : decode cX6_numbered 46 = .ok (.imul, 1) := by decide +kernel
theorem dX6_numbered_47 : decode cX6_numbered 47 = .ok (.aload_n 0, 1) := by decide +kernel
theorem dX6_numbered_48 : decode cX6_numbered 48 = .ok (.getfield 19, 3) := by decide +kernel
theorem dX6_numbered_51 : decode cX6_numbered 51 = .ok (.aload_n 0, 1) := by decide +kernel
theorem dX6_numbered_52 : decode cX6_numbered 52 = .ok (.getfield 175, 3) := by decide +kernel
theorem dX6_numbered_55 : decode cX6_numbered 55 = .ok (.iaload, 1) := by decide +kernel
theorem dX6_numbered_56 : decode cX6_numbered 56 = .ok (.iadd, 1) := by decide +kernel
theorem dX6_numbered_57 : decode cX6_numbered 57 = .ok (.bipush 48, 2) := by decide +kernel
theorem dX6_numbered_59 : decode cX6_numbered 59 = .ok (.isub, 1) := by decide +kernel
theorem dX6_numbered_60 : decode cX6_numbered 60 = .ok (.iastore, 1) := by decide +kernel
theorem dX6_numbered_61 : decode cX6_numbered 61 = .ok (.aload_n 0, 1) := by decide +kernel
theorem dX6_numbered_62 : decode cX6_numbered 62 = .ok (.dup, 1) := by decide +kernel
theorem dX6_numbered_63 : decode cX6_numbered 63 = .ok (.getfield 175, 3) := by decide +kernel
theorem dX6_numbered_66 : decode cX6_numbered 66 = .ok (.iconst 1, 1) := by decide +kernel
theorem dX6_numbered_67 : decode cX6_numbered 67 = .ok (.iadd, 1) := by decide +kernel
theorem dX6_numbered_68 : decode cX6_numbered 68 = .ok (.putfield 175, 3) := by decide +kernel
theorem dX6_numbered_71 : decode cX6_numbered 71 = .ok (.goto (-59), 3) := by decide +kernel
theorem dX6_numbered_74 : decode cX6_numbered 74 = .ok (.aload_n 0, 1) := by decide +kernel
theorem dX6_numbered_75 : decode cX6_numbered 75 = .ok (.getfield 175, 3) := by decide +kernel
theorem dX6_numbered_78 : decode cX6_numbered 78 = .ok (.iload_n 2, 1) := by decide +kernel
theorem dX6_numbered_79 : decode cX6_numbered 79 = .ok (.if_icmp .le 7, 3) := by decide +kernel
theorem dX6_numbered_82 : decode cX6_numbered 82 = .ok (.iconst 1, 1) := by decide +kernel
theorem dX6_numbered_83 : decode cX6_numbered 83 = .ok (.goto 4, 3) := by decide +kernel
theorem dX6_numbered_86 : decode cX6_numbered 86 = .ok (.iconst 0, 1) := by decide +kernel
theorem dX6_numbered_87 : decode cX6_numbered 87 = .ok (.ireturn, 1) := by decide +kernel
theorem dX6_numbersOf_0 : decode cX6_numbersOf 0 = .ok (.iload_n 0, 1) := by decide +kernel
theorem dX6_numbersOf_1 : decode cX6_numbersOf 1 = .ok (.bipush 115, 2) := by decide +kernel
theorem dX6_numbersOf_3 : decode cX6_numbersOf 3 = .ok (.if_icmp .eq 9, 3) := by decide +kernel
theorem dX6_numbersOf_6 : decode cX6_numbersOf 6 = .ok (.iload_n 0, 1) := by decide +kernel
theorem dX6_numbersOf_7 : decode cX6_numbersOf 7 = .ok (.bipush 104, 2) := by decide +kernel
theorem dX6_numbersOf_9 : decode cX6_numbersOf 9 = .ok (.if_icmp .ne 7, 3) := by decide +kernel
theorem dX6_numbersOf_12 : decode cX6_numbersOf 12 = .ok (.iconst 3, 1) := by decide +kernel
theorem dX6_numbersOf_13 : decode cX6_numbersOf 13 = .ok (.goto 26, 3) := by decide +kernel
theorem dX6_numbersOf_16 : decode cX6_numbersOf 16 = .ok (.iload_n 0, 1) := by decide +kernel
theorem dX6_numbersOf_17 : decode cX6_numbersOf 17 = .ok (.bipush 103, 2) := by decide +kernel
theorem dX6_numbersOf_19 : decode cX6_numbersOf 19 = .ok (.if_icmp .eq 15, 3) := by decide +kernel
theorem dX6_numbersOf_22 : decode cX6_numbersOf 22 = .ok (.iload_n 0, 1) := by decide +kernel
theorem dX6_numbersOf_23 : decode cX6_numbersOf 23 = .ok (.bipush 119, 2) := by decide +kernel
theorem dX6_numbersOf_25 : decode cX6_numbersOf 25 = .ok (.if_icmp .eq 9, 3) := by decide +kernel
theorem dX6_numbersOf_28 : decode cX6_numbersOf 28 = .ok (.iload_n 0, 1) := by decide +kernel
theorem dX6_numbersOf_29 : decode cX6_numbersOf 29 = .ok (.bipush 109, 2) := by decide +kernel
theorem dX6_numbersOf_31 : decode cX6_numbersOf 31 = .ok (.if_icmp .ne 7, 3) := by decide +kernel
theorem dX6_numbersOf_34 : decode cX6_numbersOf 34 = .ok (.iconst 1, 1) := by decide +kernel
theorem dX6_numbersOf_35 : decode cX6_numbersOf 35 = .ok (.goto 4, 3) := by decide +kernel
theorem dX6_numbersOf_38 : decode cX6_numbersOf 38 = .ok (.iconst 0, 1) := by decide +kernel
theorem dX6_numbersOf_39 : decode cX6_numbersOf 39 = .ok (.ireturn, 1) := by decide +kernel
theorem dX6_reads_0 : decode cX6_reads 0 = .ok (.aload_n 0, 1) := by decide +kernel
theorem dX6_reads_1 : decode cX6_reads 1 = .ok (.aload_n 0, 1) := by decide +kernel
theorem dX6_reads_2 : decode cX6_reads 2 = .ok (.bipush 33, 2) := by decide +kernel
theorem dX6_reads_4 : decode cX6_reads 4 = .ok (.bipush 126, 2) := by decide +kernel
theorem dX6_reads_6 : decode cX6_reads 6 = .ok (.invokevirtual 178, 3) := by decide +kernel
theorem dX6_reads_9 : decode cX6_reads 9 = .ok (.ifCond .eq 15, 3) := by decide +kernel
theorem dX6_reads_12 : decode cX6_reads 12 = .ok (.aload_n 0, 1) := by decide +kernel
theorem dX6_reads_13 : decode cX6_reads 13 = .ok (.getfield 19, 3) := by decide +kernel
theorem dX6_reads_16 : decode cX6_reads 16 = .ok (.aload_n 0, 1) := by decide +kernel
theorem dX6_reads_17 : decode cX6_reads 17 = .ok (.getfield 175, 3) := by decide +kernel
theorem dX6_reads_20 : decode cX6_reads 20 = .ok (.iaload, 1) := by decide +kernel
theorem dX6_reads_21 : decode cX6_reads 21 = .ok (.goto 4, 3) := by decide +kernel
theorem dX6_reads_24 : decode cX6_reads 24 = .ok (.iconst 0, 1) := by decide +kernel
theorem dX6_reads_25 : decode cX6_reads 25 = .ok (.putfield 181, 3) := by decide +kernel
theorem dX6_reads_28 : decode cX6_reads 28 = .ok (.aload_n 0, 1) := by decide +kernel
theorem dX6_reads_29 : decode cX6_reads 29 = .ok (.getfield 181, 3) := by decide +kernel
theorem dX6_reads_32 : decode cX6_reads 32 = .ok (.invokestatic 184, 3) := by decide +kernel
theorem dX6_reads_35 : decode cX6_reads 35 = .ok (.istore_n 1, 1) := by decide +kernel
theorem dX6_reads_36 : decode cX6_reads 36 = .ok (.iload_n 1, 1) := by decide +kernel
theorem dX6_reads_37 : decode cX6_reads 37 = .ok (.ifCond .ne 5, 3) := by decide +kernel
theorem dX6_reads_40 : decode cX6_reads 40 = .ok (.iconst 0, 1) := by decide +kernel
theorem dX6_reads_41 : decode cX6_reads 41 = .ok (.ireturn, 1) := by decide +kernel
theorem dX6_reads_42 : decode cX6_reads 42 = .ok (.aload_n 0, 1) := by decide +kernel
theorem dX6_reads_43 : decode cX6_reads 43 = .ok (.dup, 1) := by decide +kernel
theorem dX6_reads_44 : decode cX6_reads 44 = .ok (.getfield 175, 3) := by decide +kernel
theorem dX6_reads_47 : decode cX6_reads 47 = .ok (.iconst 1, 1) := by decide +kernel
theorem dX6_reads_48 : decode cX6_reads 48 = .ok (.iadd, 1) := by decide +kernel
theorem dX6_reads_49 : decode cX6_reads 49 = .ok (.putfield 175, 3) := by decide +kernel
theorem dX6_reads_52 : decode cX6_reads 52 = .ok (.aload_n 0, 1) := by decide +kernel
theorem dX6_reads_53 : decode cX6_reads 53 = .ok (.iconst 0, 1) := by decide +kernel
theorem dX6_reads_54 : decode cX6_reads 54 = .ok (.invokevirtual 187, 3) := by decide +kernel
theorem dX6_reads_57 : decode cX6_reads 57 = .ok (.istore_n 2, 1) := by decide +kernel
theorem dX6_reads_58 : decode cX6_reads 58 = .ok (.iconst 1, 1) := by decide +kernel
theorem dX6_reads_59 : decode cX6_reads 59 = .ok (.istore_n 3, 1) := by decide +kernel
theorem dX6_reads_60 : decode cX6_reads 60 = .ok (.iload_n 3, 1) := by decide +kernel
theorem dX6_reads_61 : decode cX6_reads 61 = .ok (.iload_n 1, 1) := by decide +kernel
theorem dX6_reads_62 : decode cX6_reads 62 = .ok (.if_icmp .ge 36, 3) := by decide +kernel
theorem dX6_reads_65 : decode cX6_reads 65 = .ok (.iload_n 2, 1) := by decide +kernel
theorem dX6_reads_66 : decode cX6_reads 66 = .ok (.ifCond .eq 32, 3) := by decide +kernel
theorem dX6_reads_69 : decode cX6_reads 69 = .ok (.aload_n 0, 1) := by decide +kernel
theorem dX6_reads_70 : decode cX6_reads 70 = .ok (.bipush 44, 2) := by decide +kernel
theorem dX6_reads_72 : decode cX6_reads 72 = .ok (.invokevirtual 190, 3) := by decide +kernel
theorem dX6_reads_75 : decode cX6_reads 75 = .ok (.ifCond .eq 15, 3) := by decide +kernel
theorem dX6_reads_78 : decode cX6_reads 78 = .ok (.aload_n 0, 1) := by decide +kernel
theorem dX6_reads_79 : decode cX6_reads 79 = .ok (.iload_n 3, 1) := by decide +kernel
theorem dX6_reads_80 : decode cX6_reads 80 = .ok (.invokevirtual 187, 3) := by decide +kernel
theorem dX6_reads_83 : decode cX6_reads 83 = .ok (.ifCond .eq 7, 3) := by decide +kernel
theorem dX6_reads_86 : decode cX6_reads 86 = .ok (.iconst 1, 1) := by decide +kernel
theorem dX6_reads_87 : decode cX6_reads 87 = .ok (.goto 4, 3) := by decide +kernel
theorem dX6_reads_90 : decode cX6_reads 90 = .ok (.iconst 0, 1) := by decide +kernel
theorem dX6_reads_91 : decode cX6_reads 91 = .ok (.istore_n 2, 1) := by decide +kernel
theorem dX6_reads_92 : decode cX6_reads 92 = .ok (.iinc 3 1, 3) := by decide +kernel
theorem dX6_reads_95 : decode cX6_reads 95 = .ok (.goto (-35), 3) := by decide +kernel
theorem dX6_reads_98 : decode cX6_reads 98 = .ok (.iload_n 2, 1) := by decide +kernel
theorem dX6_reads_99 : decode cX6_reads 99 = .ok (.ifCond .eq 16, 3) := by decide +kernel
theorem dX6_reads_102 : decode cX6_reads 102 = .ok (.aload_n 0, 1) := by decide +kernel
theorem dX6_reads_103 : decode cX6_reads 103 = .ok (.bipush 59, 2) := by decide +kernel
theorem dX6_reads_105 : decode cX6_reads 105 = .ok (.invokevirtual 190, 3) := by decide +kernel
theorem dX6_reads_108 : decode cX6_reads 108 = .ok (.ifCond .eq 7, 3) := by decide +kernel
theorem dX6_reads_111 : decode cX6_reads 111 = .ok (.iconst 1, 1) := by decide +kernel
theorem dX6_reads_112 : decode cX6_reads 112 = .ok (.goto 4, 3) := by decide +kernel
theorem dX6_reads_115 : decode cX6_reads 115 = .ok (.iconst 0, 1) := by decide +kernel
theorem dX6_reads_116 : decode cX6_reads 116 = .ok (.ireturn, 1) := by decide +kernel
theorem dX6_calls_0 : decode cX6_calls 0 = .ok (.aload_n 0, 1) := by decide +kernel
theorem dX6_calls_1 : decode cX6_calls 1 = .ok (.getfield 181, 3) := by decide +kernel
theorem dX6_calls_4 : decode cX6_calls 4 = .ok (.lookupswitch 112 #[(103, 44), (104, 78), (115, 55), (119, 101)], 44) := by decide +kernel
theorem dX6_calls_48 : decode cX6_calls 48 = .ok (.aload_n 0, 1) := by decide +kernel
theorem dX6_calls_49 : decode cX6_calls 49 = .ok (.aload_n 0, 1) := by decide +kernel
theorem dX6_calls_50 : decode cX6_calls 50 = .ok (.getfield 28, 3) := by decide +kernel
theorem dX6_calls_53 : decode cX6_calls 53 = .ok (.iconst 0, 1) := by decide +kernel
theorem dX6_calls_54 : decode cX6_calls 54 = .ok (.iaload, 1) := by decide +kernel
theorem dX6_calls_55 : decode cX6_calls 55 = .ok (.invokevirtual 193, 3) := by decide +kernel
theorem dX6_calls_58 : decode cX6_calls 58 = .ok (.ireturn, 1) := by decide +kernel
theorem dX6_calls_59 : decode cX6_calls 59 = .ok (.aload_n 0, 1) := by decide +kernel
theorem dX6_calls_60 : decode cX6_calls 60 = .ok (.aload_n 0, 1) := by decide +kernel
theorem dX6_calls_61 : decode cX6_calls 61 = .ok (.getfield 28, 3) := by decide +kernel
theorem dX6_calls_64 : decode cX6_calls 64 = .ok (.iconst 0, 1) := by decide +kernel
theorem dX6_calls_65 : decode cX6_calls 65 = .ok (.iaload, 1) := by decide +kernel
theorem dX6_calls_66 : decode cX6_calls 66 = .ok (.aload_n 0, 1) := by decide +kernel
theorem dX6_calls_67 : decode cX6_calls 67 = .ok (.getfield 28, 3) := by decide +kernel
theorem dX6_calls_70 : decode cX6_calls 70 = .ok (.iconst 1, 1) := by decide +kernel
theorem dX6_calls_71 : decode cX6_calls 71 = .ok (.iaload, 1) := by decide +kernel
theorem dX6_calls_72 : decode cX6_calls 72 = .ok (.aload_n 0, 1) := by decide +kernel
theorem dX6_calls_73 : decode cX6_calls 73 = .ok (.getfield 28, 3) := by decide +kernel
theorem dX6_calls_76 : decode cX6_calls 76 = .ok (.iconst 2, 1) := by decide +kernel
theorem dX6_calls_77 : decode cX6_calls 77 = .ok (.iaload, 1) := by decide +kernel
theorem dX6_calls_78 : decode cX6_calls 78 = .ok (.invokevirtual 196, 3) := by decide +kernel
theorem dX6_calls_81 : decode cX6_calls 81 = .ok (.ireturn, 1) := by decide +kernel
theorem dX6_calls_82 : decode cX6_calls 82 = .ok (.aload_n 0, 1) := by decide +kernel
theorem dX6_calls_83 : decode cX6_calls 83 = .ok (.aload_n 0, 1) := by decide +kernel
theorem dX6_calls_84 : decode cX6_calls 84 = .ok (.getfield 28, 3) := by decide +kernel
theorem dX6_calls_87 : decode cX6_calls 87 = .ok (.iconst 0, 1) := by decide +kernel
theorem dX6_calls_88 : decode cX6_calls 88 = .ok (.iaload, 1) := by decide +kernel
theorem dX6_calls_89 : decode cX6_calls 89 = .ok (.aload_n 0, 1) := by decide +kernel
theorem dX6_calls_90 : decode cX6_calls 90 = .ok (.getfield 28, 3) := by decide +kernel
theorem dX6_calls_93 : decode cX6_calls 93 = .ok (.iconst 1, 1) := by decide +kernel
theorem dX6_calls_94 : decode cX6_calls 94 = .ok (.iaload, 1) := by decide +kernel
theorem dX6_calls_95 : decode cX6_calls 95 = .ok (.aload_n 0, 1) := by decide +kernel
theorem dX6_calls_96 : decode cX6_calls 96 = .ok (.getfield 28, 3) := by decide +kernel
theorem dX6_calls_99 : decode cX6_calls 99 = .ok (.iconst 2, 1) := by decide +kernel
theorem dX6_calls_100 : decode cX6_calls 100 = .ok (.iaload, 1) := by decide +kernel
theorem dX6_calls_101 : decode cX6_calls 101 = .ok (.invokevirtual 199, 3) := by decide +kernel
theorem dX6_calls_104 : decode cX6_calls 104 = .ok (.ireturn, 1) := by decide +kernel
theorem dX6_calls_105 : decode cX6_calls 105 = .ok (.aload_n 0, 1) := by decide +kernel
theorem dX6_calls_106 : decode cX6_calls 106 = .ok (.aload_n 0, 1) := by decide +kernel
theorem dX6_calls_107 : decode cX6_calls 107 = .ok (.getfield 28, 3) := by decide +kernel
theorem dX6_calls_110 : decode cX6_calls 110 = .ok (.iconst 0, 1) := by decide +kernel
theorem dX6_calls_111 : decode cX6_calls 111 = .ok (.iaload, 1) := by decide +kernel
theorem dX6_calls_112 : decode cX6_calls 112 = .ok (.invokevirtual 202, 3) := by decide +kernel
theorem dX6_calls_115 : decode cX6_calls 115 = .ok (.ireturn, 1) := by decide +kernel
theorem dX6_calls_116 : decode cX6_calls 116 = .ok (.aload_n 0, 1) := by decide +kernel
theorem dX6_calls_117 : decode cX6_calls 117 = .ok (.aload_n 0, 1) := by decide +kernel
theorem dX6_calls_118 : decode cX6_calls 118 = .ok (.getfield 28, 3) := by decide +kernel
theorem dX6_calls_121 : decode cX6_calls 121 = .ok (.iconst 0, 1) := by decide +kernel
theorem dX6_calls_122 : decode cX6_calls 122 = .ok (.iaload, 1) := by decide +kernel
theorem dX6_calls_123 : decode cX6_calls 123 = .ok (.invokevirtual 205, 3) := by decide +kernel
theorem dX6_calls_126 : decode cX6_calls 126 = .ok (.ireturn, 1) := by decide +kernel
theorem dX6_plays_0 : decode cX6_plays 0 = .ok (.aload_n 0, 1) := by decide +kernel
theorem dX6_plays_1 : decode cX6_plays 1 = .ok (.iconst 1, 1) := by decide +kernel
theorem dX6_plays_2 : decode cX6_plays 2 = .ok (.putfield 31, 3) := by decide +kernel
theorem dX6_plays_5 : decode cX6_plays 5 = .ok (.aload_n 0, 1) := by decide +kernel
theorem dX6_plays_6 : decode cX6_plays 6 = .ok (.iconst 0, 1) := by decide +kernel
theorem dX6_plays_7 : decode cX6_plays 7 = .ok (.putfield 175, 3) := by decide +kernel
theorem dX6_plays_10 : decode cX6_plays 10 = .ok (.aload_n 0, 1) := by decide +kernel
theorem dX6_plays_11 : decode cX6_plays 11 = .ok (.iconst 0, 1) := by decide +kernel
theorem dX6_plays_12 : decode cX6_plays 12 = .ok (.putfield 208, 3) := by decide +kernel
theorem dX6_plays_15 : decode cX6_plays 15 = .ok (.aload_n 0, 1) := by decide +kernel
theorem dX6_plays_16 : decode cX6_plays 16 = .ok (.iconst 0, 1) := by decide +kernel
theorem dX6_plays_17 : decode cX6_plays 17 = .ok (.putfield 211, 3) := by decide +kernel
theorem dX6_plays_20 : decode cX6_plays 20 = .ok (.iconst 1, 1) := by decide +kernel
theorem dX6_plays_21 : decode cX6_plays 21 = .ok (.istore_n 1, 1) := by decide +kernel
theorem dX6_plays_22 : decode cX6_plays 22 = .ok (.aload_n 0, 1) := by decide +kernel
theorem dX6_plays_23 : decode cX6_plays 23 = .ok (.getfield 175, 3) := by decide +kernel
theorem dX6_plays_26 : decode cX6_plays 26 = .ok (.aload_n 0, 1) := by decide +kernel
theorem dX6_plays_27 : decode cX6_plays 27 = .ok (.getfield 172, 3) := by decide +kernel
theorem dX6_plays_30 : decode cX6_plays 30 = .ok (.if_icmp .ge 94, 3) := by decide +kernel
theorem dX6_plays_33 : decode cX6_plays 33 = .ok (.iload_n 1, 1) := by decide +kernel
theorem dX6_plays_34 : decode cX6_plays 34 = .ok (.ifCond .eq 90, 3) := by decide +kernel
theorem dX6_plays_37 : decode cX6_plays 37 = .ok (.aload_n 0, 1) := by decide +kernel
theorem dX6_plays_38 : decode cX6_plays 38 = .ok (.aload_n 0, 1) := by decide +kernel
theorem dX6_plays_39 : decode cX6_plays 39 = .ok (.getfield 175, 3) := by decide +kernel
theorem dX6_plays_42 : decode cX6_plays 42 = .ok (.putfield 208, 3) := by decide +kernel
theorem dX6_plays_45 : decode cX6_plays 45 = .ok (.aload_n 0, 1) := by decide +kernel
theorem dX6_plays_46 : decode cX6_plays 46 = .ok (.invokevirtual 214, 3) := by decide +kernel
theorem dX6_plays_49 : decode cX6_plays 49 = .ok (.istore_n 2, 1) := by decide +kernel
theorem dX6_plays_50 : decode cX6_plays 50 = .ok (.iload_n 2, 1) := by decide +kernel
theorem dX6_plays_51 : decode cX6_plays 51 = .ok (.ifCond .eq 10, 3) := by decide +kernel
theorem dX6_plays_54 : decode cX6_plays 54 = .ok (.aload_n 0, 1) := by decide +kernel
theorem dX6_plays_55 : decode cX6_plays 55 = .ok (.invokevirtual 218, 3) := by decide +kernel
theorem dX6_plays_58 : decode cX6_plays 58 = .ok (.goto 4, 3) := by decide +kernel
theorem dX6_plays_61 : decode cX6_plays 61 = .ok (.iconst 0, 1) := by decide +kernel
theorem dX6_plays_62 : decode cX6_plays 62 = .ok (.istore_n 3, 1) := by decide +kernel
theorem dX6_plays_63 : decode cX6_plays 63 = .ok (.iload_n 2, 1) := by decide +kernel
theorem dX6_plays_64 : decode cX6_plays 64 = .ok (.ifCond .eq 11, 3) := by decide +kernel
theorem dX6_plays_67 : decode cX6_plays 67 = .ok (.iload_n 3, 1) := by decide +kernel
theorem dX6_plays_68 : decode cX6_plays 68 = .ok (.ifCond .lt 7, 3) := by decide +kernel
theorem dX6_plays_71 : decode cX6_plays 71 = .ok (.iconst 1, 1) := by decide +kernel
theorem dX6_plays_72 : decode cX6_plays 72 = .ok (.goto 4, 3) := by decide +kernel
theorem dX6_plays_75 : decode cX6_plays 75 = .ok (.iconst 0, 1) := by decide +kernel
theorem dX6_plays_76 : decode cX6_plays 76 = .ok (.istore_n 1, 1) := by decide +kernel
theorem dX6_plays_77 : decode cX6_plays 77 = .ok (.aload_n 0, 1) := by decide +kernel
theorem dX6_plays_78 : decode cX6_plays 78 = .ok (.iload_n 2, 1) := by decide +kernel
theorem dX6_plays_79 : decode cX6_plays 79 = .ok (.ifCond .eq 7, 3) := by decide +kernel
theorem dX6_plays_82 : decode cX6_plays 82 = .ok (.iconst 2, 1) := by decide +kernel
theorem dX6_plays_83 : decode cX6_plays 83 = .ok (.goto 4, 3) := by decide +kernel
theorem dX6_plays_86 : decode cX6_plays 86 = .ok (.iconst 1, 1) := by decide +kernel
theorem dX6_plays_87 : decode cX6_plays 87 = .ok (.putfield 221, 3) := by decide +kernel
theorem dX6_plays_90 : decode cX6_plays 90 = .ok (.aload_n 0, 1) := by decide +kernel
theorem dX6_plays_91 : decode cX6_plays 91 = .ok (.iload_n 2, 1) := by decide +kernel
theorem dX6_plays_92 : decode cX6_plays 92 = .ok (.ifCond .eq 7, 3) := by decide +kernel
theorem dX6_plays_95 : decode cX6_plays 95 = .ok (.iload_n 3, 1) := by decide +kernel
theorem dX6_plays_96 : decode cX6_plays 96 = .ok (.goto 12, 3) := by decide +kernel
theorem dX6_plays_99 : decode cX6_plays 99 = .ok (.aload_n 0, 1) := by decide +kernel
theorem dX6_plays_100 : decode cX6_plays 100 = .ok (.getfield 175, 3) := by decide +kernel
theorem dX6_plays_103 : decode cX6_plays 103 = .ok (.aload_n 0, 1) := by decide +kernel
theorem dX6_plays_104 : decode cX6_plays 104 = .ok (.getfield 208, 3) := by decide +kernel
theorem dX6_plays_107 : decode cX6_plays 107 = .ok (.isub, 1) := by decide +kernel
theorem dX6_plays_108 : decode cX6_plays 108 = .ok (.putfield 224, 3) := by decide +kernel
theorem dX6_plays_111 : decode cX6_plays 111 = .ok (.aload_n 0, 1) := by decide +kernel
theorem dX6_plays_112 : decode cX6_plays 112 = .ok (.dup, 1) := by decide +kernel
theorem dX6_plays_113 : decode cX6_plays 113 = .ok (.getfield 211, 3) := by decide +kernel
theorem dX6_plays_116 : decode cX6_plays 116 = .ok (.iconst 1, 1) := by decide +kernel
theorem dX6_plays_117 : decode cX6_plays 117 = .ok (.iadd, 1) := by decide +kernel
theorem dX6_plays_118 : decode cX6_plays 118 = .ok (.putfield 211, 3) := by decide +kernel
theorem dX6_plays_121 : decode cX6_plays 121 = .ok (.goto (-99), 3) := by decide +kernel
theorem dX6_plays_124 : decode cX6_plays 124 = .ok (.aload_n 0, 1) := by decide +kernel
theorem dX6_plays_125 : decode cX6_plays 125 = .ok (.iconst 0, 1) := by decide +kernel
theorem dX6_plays_126 : decode cX6_plays 126 = .ok (.putfield 31, 3) := by decide +kernel
theorem dX6_plays_129 : decode cX6_plays 129 = .ok (.iload_n 1, 1) := by decide +kernel
theorem dX6_plays_130 : decode cX6_plays 130 = .ok (.ireturn, 1) := by decide +kernel
theorem dX6_fault_0 : decode cX6_fault 0 = .ok (.iload_n 1, 1) := by decide +kernel
theorem dX6_fault_1 : decode cX6_fault 1 = .ok (.iconst 0, 1) := by decide +kernel
theorem dX6_fault_2 : decode cX6_fault 2 = .ok (.iconst 2, 1) := by decide +kernel
theorem dX6_fault_3 : decode cX6_fault 3 = .ok (.invokestatic 39, 3) := by decide +kernel
theorem dX6_fault_6 : decode cX6_fault 6 = .ok (.ifCond .ne 6, 3) := by decide +kernel
theorem dX6_fault_9 : decode cX6_fault 9 = .ok (.ldc 58, 2) := by decide +kernel
theorem dX6_fault_11 : decode cX6_fault 11 = .ok (.ireturn, 1) := by decide +kernel
theorem dX6_fault_12 : decode cX6_fault 12 = .ok (.aload_n 0, 1) := by decide +kernel
theorem dX6_fault_13 : decode cX6_fault 13 = .ok (.getfield 7, 3) := by decide +kernel
theorem dX6_fault_16 : decode cX6_fault 16 = .ok (.aload_n 0, 1) := by decide +kernel
theorem dX6_fault_17 : decode cX6_fault 17 = .ok (.getfield 16, 3) := by decide +kernel
theorem dX6_fault_20 : decode cX6_fault 20 = .ok (.invokestatic 227, 3) := by decide +kernel
theorem dX6_fault_23 : decode cX6_fault 23 = .ok (.aload_n 0, 1) := by decide +kernel
theorem dX6_fault_24 : decode cX6_fault 24 = .ok (.invokevirtual 231, 3) := by decide +kernel
theorem dX6_fault_27 : decode cX6_fault 27 = .ok (.istore_n 2, 1) := by decide +kernel
theorem dX6_fault_28 : decode cX6_fault 28 = .ok (.aload_n 0, 1) := by decide +kernel
theorem dX6_fault_29 : decode cX6_fault 29 = .ok (.getfield 16, 3) := by decide +kernel
theorem dX6_fault_32 : decode cX6_fault 32 = .ok (.aload_n 0, 1) := by decide +kernel
theorem dX6_fault_33 : decode cX6_fault 33 = .ok (.getfield 7, 3) := by decide +kernel
theorem dX6_fault_36 : decode cX6_fault 36 = .ok (.invokestatic 227, 3) := by decide +kernel
theorem dX6_fault_39 : decode cX6_fault 39 = .ok (.iload_n 2, 1) := by decide +kernel
theorem dX6_fault_40 : decode cX6_fault 40 = .ok (.ifCond .eq 8, 3) := by decide +kernel
theorem dX6_fault_43 : decode cX6_fault 43 = .ok (.ldc 74, 2) := by decide +kernel
theorem dX6_fault_45 : decode cX6_fault 45 = .ok (.goto 30, 3) := by decide +kernel
theorem dX6_fault_48 : decode cX6_fault 48 = .ok (.iload_n 1, 1) := by decide +kernel
theorem dX6_fault_49 : decode cX6_fault 49 = .ok (.ifCond .ne 10, 3) := by decide +kernel
theorem dX6_fault_52 : decode cX6_fault 52 = .ok (.aload_n 0, 1) := by decide +kernel
theorem dX6_fault_53 : decode cX6_fault 53 = .ok (.getfield 208, 3) := by decide +kernel
theorem dX6_fault_56 : decode cX6_fault 56 = .ok (.goto 19, 3) := by decide +kernel
theorem dX6_fault_59 : decode cX6_fault 59 = .ok (.iload_n 1, 1) := by decide +kernel
theorem dX6_fault_60 : decode cX6_fault 60 = .ok (.iconst 1, 1) := by decide +kernel
theorem dX6_fault_61 : decode cX6_fault 61 = .ok (.if_icmp .ne 10, 3) := by decide +kernel
theorem dX6_fault_64 : decode cX6_fault 64 = .ok (.aload_n 0, 1) := by decide +kernel
theorem dX6_fault_65 : decode cX6_fault 65 = .ok (.getfield 221, 3) := by decide +kernel
theorem dX6_fault_68 : decode cX6_fault 68 = .ok (.goto 7, 3) := by decide +kernel
theorem dX6_fault_71 : decode cX6_fault 71 = .ok (.aload_n 0, 1) := by decide +kernel
theorem dX6_fault_72 : decode cX6_fault 72 = .ok (.getfield 224, 3) := by decide +kernel
theorem dX6_fault_75 : decode cX6_fault 75 = .ok (.ireturn, 1) := by decide +kernel
theorem dX6_play_0 : decode cX6_play 0 = .ok (.aload_n 0, 1) := by decide +kernel
theorem dX6_play_1 : decode cX6_play 1 = .ok (.getfield 7, 3) := by decide +kernel
theorem dX6_play_4 : decode cX6_play 4 = .ok (.aload_n 0, 1) := by decide +kernel
theorem dX6_play_5 : decode cX6_play 5 = .ok (.getfield 16, 3) := by decide +kernel
theorem dX6_play_8 : decode cX6_play 8 = .ok (.invokestatic 227, 3) := by decide +kernel
theorem dX6_play_11 : decode cX6_play 11 = .ok (.aload_n 0, 1) := by decide +kernel
theorem dX6_play_12 : decode cX6_play 12 = .ok (.invokevirtual 231, 3) := by decide +kernel
theorem dX6_play_15 : decode cX6_play 15 = .ok (.istore_n 1, 1) := by decide +kernel
theorem dX6_play_16 : decode cX6_play 16 = .ok (.aload_n 0, 1) := by decide +kernel
theorem dX6_play_17 : decode cX6_play 17 = .ok (.getfield 16, 3) := by decide +kernel
theorem dX6_play_20 : decode cX6_play 20 = .ok (.aload_n 0, 1) := by decide +kernel
theorem dX6_play_21 : decode cX6_play 21 = .ok (.getfield 7, 3) := by decide +kernel
theorem dX6_play_24 : decode cX6_play 24 = .ok (.invokestatic 227, 3) := by decide +kernel
theorem dX6_play_27 : decode cX6_play 27 = .ok (.iload_n 1, 1) := by decide +kernel
theorem dX6_play_28 : decode cX6_play 28 = .ok (.ifCond .ne 6, 3) := by decide +kernel
theorem dX6_play_31 : decode cX6_play 31 = .ok (.ldc 69, 2) := by decide +kernel
theorem dX6_play_33 : decode cX6_play 33 = .ok (.ireturn, 1) := by decide +kernel
theorem dX6_play_34 : decode cX6_play 34 = .ok (.aload_n 0, 1) := by decide +kernel
theorem dX6_play_35 : decode cX6_play 35 = .ok (.invokevirtual 60, 3) := by decide +kernel
theorem dX6_play_38 : decode cX6_play 38 = .ok (.aload_n 0, 1) := by decide +kernel
theorem dX6_play_39 : decode cX6_play 39 = .ok (.invokevirtual 231, 3) := by decide +kernel
theorem dX6_play_42 : decode cX6_play 42 = .ok (.ifCond .eq 10, 3) := by decide +kernel
theorem dX6_play_45 : decode cX6_play 45 = .ok (.aload_n 0, 1) := by decide +kernel
theorem dX6_play_46 : decode cX6_play 46 = .ok (.getfield 211, 3) := by decide +kernel
theorem dX6_play_49 : decode cX6_play 49 = .ok (.goto 5, 3) := by decide +kernel
theorem dX6_play_52 : decode cX6_play 52 = .ok (.ldc 74, 2) := by decide +kernel
theorem dX6_play_54 : decode cX6_play 54 = .ok (.ireturn, 1) := by decide +kernel
theorem dJxf58ca_isNaN_12338_0 : decode cJxf58ca_isNaN_12338 0 = .ok (.fload_n 0, 1) := by decide +kernel
theorem dJxf58ca_isNaN_12338_1 : decode cJxf58ca_isNaN_12338 1 = .ok (.fload_n 0, 1) := by decide +kernel
theorem dJxf58ca_isNaN_12338_2 : decode cJxf58ca_isNaN_12338 2 = .ok (.fcmp .l, 1) := by decide +kernel
theorem dJxf58ca_isNaN_12338_3 : decode cJxf58ca_isNaN_12338 3 = .ok (.ifCond .eq 7, 3) := by decide +kernel
theorem dJxf58ca_isNaN_12338_6 : decode cJxf58ca_isNaN_12338 6 = .ok (.iconst 1, 1) := by decide +kernel
theorem dJxf58ca_isNaN_12338_7 : decode cJxf58ca_isNaN_12338 7 = .ok (.goto 4, 3) := by decide +kernel
theorem dJxf58ca_isNaN_12338_10 : decode cJxf58ca_isNaN_12338 10 = .ok (.iconst 0, 1) := by decide +kernel
theorem dJxf58ca_isNaN_12338_11 : decode cJxf58ca_isNaN_12338 11 = .ok (.ireturn, 1) := by decide +kernel
theorem dJxf58ca_floatToIntBits_5c35a_0 : decode cJxf58ca_floatToIntBits_5c35a 0 = .ok (.fload_n 0, 1) := by decide +kernel
theorem dJxf58ca_floatToIntBits_5c35a_1 : decode cJxf58ca_floatToIntBits_5c35a 1 = .ok (.invokestatic 59, 3) := by decide +kernel
theorem dJxf58ca_floatToIntBits_5c35a_4 : decode cJxf58ca_floatToIntBits_5c35a 4 = .ok (.ifCond .ne 8, 3) := by decide +kernel
theorem dJxf58ca_floatToIntBits_5c35a_7 : decode cJxf58ca_floatToIntBits_5c35a 7 = .ok (.fload_n 0, 1) := by decide +kernel
theorem dJxf58ca_floatToIntBits_5c35a_8 : decode cJxf58ca_floatToIntBits_5c35a 8 = .ok (.invokestatic 74, 3) := by decide +kernel
theorem dJxf58ca_floatToIntBits_5c35a_11 : decode cJxf58ca_floatToIntBits_5c35a 11 = .ok (.ireturn, 1) := by decide +kernel
theorem dJxf58ca_floatToIntBits_5c35a_12 : decode cJxf58ca_floatToIntBits_5c35a 12 = .ok (.ldc 77, 2) := by decide +kernel
theorem dJxf58ca_floatToIntBits_5c35a_14 : decode cJxf58ca_floatToIntBits_5c35a 14 = .ok (.ireturn, 1) := by decide +kernel
theorem dJ13_bitCount_95d88_0 : decode cJ13_bitCount_95d88 0 = .ok (.lload_n 0, 1) := by decide +kernel
theorem dJ13_bitCount_95d88_1 : decode cJ13_bitCount_95d88 1 = .ok (.lload_n 0, 1) := by decide +kernel
theorem dJ13_bitCount_95d88_2 : decode cJ13_bitCount_95d88 2 = .ok (.iconst 1, 1) := by decide +kernel
theorem dJ13_bitCount_95d88_3 : decode cJ13_bitCount_95d88 3 = .ok (.lushr, 1) := by decide +kernel
theorem dJ13_bitCount_95d88_4 : decode cJ13_bitCount_95d88 4 = .ok (.ldc2_w 314, 3) := by decide +kernel
theorem dJ13_bitCount_95d88_7 : decode cJ13_bitCount_95d88 7 = .ok (.land, 1) := by decide +kernel
theorem dJ13_bitCount_95d88_8 : decode cJ13_bitCount_95d88 8 = .ok (.lsub, 1) := by decide +kernel
theorem dJ13_bitCount_95d88_9 : decode cJ13_bitCount_95d88 9 = .ok (.lstore_n 0, 1) := by decide +kernel
theorem dJ13_bitCount_95d88_10 : decode cJ13_bitCount_95d88 10 = .ok (.lload_n 0, 1) := by decide +kernel
theorem dJ13_bitCount_95d88_11 : decode cJ13_bitCount_95d88 11 = .ok (.ldc2_w 316, 3) := by decide +kernel
theorem dJ13_bitCount_95d88_14 : decode cJ13_bitCount_95d88 14 = .ok (.land, 1) := by decide +kernel
theorem dJ13_bitCount_95d88_15 : decode cJ13_bitCount_95d88 15 = .ok (.lload_n 0, 1) := by decide +kernel
theorem dJ13_bitCount_95d88_16 : decode cJ13_bitCount_95d88 16 = .ok (.iconst 2, 1) := by decide +kernel
theorem dJ13_bitCount_95d88_17 : decode cJ13_bitCount_95d88 17 = .ok (.lushr, 1) := by decide +kernel
theorem dJ13_bitCount_95d88_18 : decode cJ13_bitCount_95d88 18 = .ok (.ldc2_w 316, 3) := by decide +kernel
theorem dJ13_bitCount_95d88_21 : decode cJ13_bitCount_95d88 21 = .ok (.land, 1) := by decide +kernel
theorem dJ13_bitCount_95d88_22 : decode cJ13_bitCount_95d88 22 = .ok (.ladd, 1) := by decide +kernel
theorem dJ13_bitCount_95d88_23 : decode cJ13_bitCount_95d88 23 = .ok (.lstore_n 0, 1) := by decide +kernel
theorem dJ13_bitCount_95d88_24 : decode cJ13_bitCount_95d88 24 = .ok (.lload_n 0, 1) := by decide +kernel
theorem dJ13_bitCount_95d88_25 : decode cJ13_bitCount_95d88 25 = .ok (.lload_n 0, 1) := by decide +kernel
theorem dJ13_bitCount_95d88_26 : decode cJ13_bitCount_95d88 26 = .ok (.iconst 4, 1) := by decide +kernel
theorem dJ13_bitCount_95d88_27 : decode cJ13_bitCount_95d88 27 = .ok (.lushr, 1) := by decide +kernel
theorem dJ13_bitCount_95d88_28 : decode cJ13_bitCount_95d88 28 = .ok (.ladd, 1) := by decide +kernel
theorem dJ13_bitCount_95d88_29 : decode cJ13_bitCount_95d88 29 = .ok (.ldc2_w 318, 3) := by decide +kernel
theorem dJ13_bitCount_95d88_32 : decode cJ13_bitCount_95d88 32 = .ok (.land, 1) := by decide +kernel
theorem dJ13_bitCount_95d88_33 : decode cJ13_bitCount_95d88 33 = .ok (.lstore_n 0, 1) := by decide +kernel
theorem dJ13_bitCount_95d88_34 : decode cJ13_bitCount_95d88 34 = .ok (.lload_n 0, 1) := by decide +kernel
theorem dJ13_bitCount_95d88_35 : decode cJ13_bitCount_95d88 35 = .ok (.lload_n 0, 1) := by decide +kernel
theorem dJ13_bitCount_95d88_36 : decode cJ13_bitCount_95d88 36 = .ok (.bipush 8, 2) := by decide +kernel
theorem dJ13_bitCount_95d88_38 : decode cJ13_bitCount_95d88 38 = .ok (.lushr, 1) := by decide +kernel
theorem dJ13_bitCount_95d88_39 : decode cJ13_bitCount_95d88 39 = .ok (.ladd, 1) := by decide +kernel
theorem dJ13_bitCount_95d88_40 : decode cJ13_bitCount_95d88 40 = .ok (.lstore_n 0, 1) := by decide +kernel
theorem dJ13_bitCount_95d88_41 : decode cJ13_bitCount_95d88 41 = .ok (.lload_n 0, 1) := by decide +kernel
theorem dJ13_bitCount_95d88_42 : decode cJ13_bitCount_95d88 42 = .ok (.lload_n 0, 1) := by decide +kernel
theorem dJ13_bitCount_95d88_43 : decode cJ13_bitCount_95d88 43 = .ok (.bipush 16, 2) := by decide +kernel
theorem dJ13_bitCount_95d88_45 : decode cJ13_bitCount_95d88 45 = .ok (.lushr, 1) := by decide +kernel
theorem dJ13_bitCount_95d88_46 : decode cJ13_bitCount_95d88 46 = .ok (.ladd, 1) := by decide +kernel
theorem dJ13_bitCount_95d88_47 : decode cJ13_bitCount_95d88 47 = .ok (.lstore_n 0, 1) := by decide +kernel
theorem dJ13_bitCount_95d88_48 : decode cJ13_bitCount_95d88 48 = .ok (.lload_n 0, 1) := by decide +kernel
theorem dJ13_bitCount_95d88_49 : decode cJ13_bitCount_95d88 49 = .ok (.lload_n 0, 1) := by decide +kernel
theorem dJ13_bitCount_95d88_50 : decode cJ13_bitCount_95d88 50 = .ok (.bipush 32, 2) := by decide +kernel
theorem dJ13_bitCount_95d88_52 : decode cJ13_bitCount_95d88 52 = .ok (.lushr, 1) := by decide +kernel
theorem dJ13_bitCount_95d88_53 : decode cJ13_bitCount_95d88 53 = .ok (.ladd, 1) := by decide +kernel
theorem dJ13_bitCount_95d88_54 : decode cJ13_bitCount_95d88 54 = .ok (.lstore_n 0, 1) := by decide +kernel
theorem dJ13_bitCount_95d88_55 : decode cJ13_bitCount_95d88 55 = .ok (.lload_n 0, 1) := by decide +kernel
theorem dJ13_bitCount_95d88_56 : decode cJ13_bitCount_95d88 56 = .ok (.l2i, 1) := by decide +kernel
theorem dJ13_bitCount_95d88_57 : decode cJ13_bitCount_95d88 57 = .ok (.bipush 127, 2) := by decide +kernel
theorem dJ13_bitCount_95d88_59 : decode cJ13_bitCount_95d88 59 = .ok (.iand, 1) := by decide +kernel
theorem dJ13_bitCount_95d88_60 : decode cJ13_bitCount_95d88 60 = .ok (.ireturn, 1) := by decide +kernel
theorem dJ9_floorDiv_7cf53_0 : decode cJ9_floorDiv_7cf53 0 = .ok (.iload_n 0, 1) := by decide +kernel
theorem dJ9_floorDiv_7cf53_1 : decode cJ9_floorDiv_7cf53 1 = .ok (.iload_n 1, 1) := by decide +kernel
theorem dJ9_floorDiv_7cf53_2 : decode cJ9_floorDiv_7cf53 2 = .ok (.idiv, 1) := by decide +kernel
theorem dJ9_floorDiv_7cf53_3 : decode cJ9_floorDiv_7cf53 3 = .ok (.istore_n 2, 1) := by decide +kernel
theorem dJ9_floorDiv_7cf53_4 : decode cJ9_floorDiv_7cf53 4 = .ok (.iload_n 0, 1) := by decide +kernel
theorem dJ9_floorDiv_7cf53_5 : decode cJ9_floorDiv_7cf53 5 = .ok (.iload_n 1, 1) := by decide +kernel
theorem dJ9_floorDiv_7cf53_6 : decode cJ9_floorDiv_7cf53 6 = .ok (.ixor, 1) := by decide +kernel
theorem dJ9_floorDiv_7cf53_7 : decode cJ9_floorDiv_7cf53 7 = .ok (.ifCond .ge 14, 3) := by decide +kernel
theorem dJ9_floorDiv_7cf53_10 : decode cJ9_floorDiv_7cf53 10 = .ok (.iload_n 2, 1) := by decide +kernel
theorem dJ9_floorDiv_7cf53_11 : decode cJ9_floorDiv_7cf53 11 = .ok (.iload_n 1, 1) := by decide +kernel
theorem dJ9_floorDiv_7cf53_12 : decode cJ9_floorDiv_7cf53 12 = .ok (.imul, 1) := by decide +kernel
theorem dJ9_floorDiv_7cf53_13 : decode cJ9_floorDiv_7cf53 13 = .ok (.iload_n 0, 1) := by decide +kernel
theorem dJ9_floorDiv_7cf53_14 : decode cJ9_floorDiv_7cf53 14 = .ok (.if_icmp .eq 7, 3) := by decide +kernel
theorem dJ9_floorDiv_7cf53_17 : decode cJ9_floorDiv_7cf53 17 = .ok (.iload_n 2, 1) := by decide +kernel
theorem dJ9_floorDiv_7cf53_18 : decode cJ9_floorDiv_7cf53 18 = .ok (.iconst 1, 1) := by decide +kernel
theorem dJ9_floorDiv_7cf53_19 : decode cJ9_floorDiv_7cf53 19 = .ok (.isub, 1) := by decide +kernel
theorem dJ9_floorDiv_7cf53_20 : decode cJ9_floorDiv_7cf53 20 = .ok (.ireturn, 1) := by decide +kernel
theorem dJ9_floorDiv_7cf53_21 : decode cJ9_floorDiv_7cf53 21 = .ok (.iload_n 2, 1) := by decide +kernel
theorem dJ9_floorDiv_7cf53_22 : decode cJ9_floorDiv_7cf53 22 = .ok (.ireturn, 1) := by decide +kernel
theorem dJ9_floorMod_7cf53_0 : decode cJ9_floorMod_7cf53 0 = .ok (.iload_n 0, 1) := by decide +kernel
theorem dJ9_floorMod_7cf53_1 : decode cJ9_floorMod_7cf53 1 = .ok (.iload_n 1, 1) := by decide +kernel
theorem dJ9_floorMod_7cf53_2 : decode cJ9_floorMod_7cf53 2 = .ok (.irem, 1) := by decide +kernel
theorem dJ9_floorMod_7cf53_3 : decode cJ9_floorMod_7cf53 3 = .ok (.istore_n 2, 1) := by decide +kernel
theorem dJ9_floorMod_7cf53_4 : decode cJ9_floorMod_7cf53 4 = .ok (.iload_n 0, 1) := by decide +kernel
theorem dJ9_floorMod_7cf53_5 : decode cJ9_floorMod_7cf53 5 = .ok (.iload_n 1, 1) := by decide +kernel
theorem dJ9_floorMod_7cf53_6 : decode cJ9_floorMod_7cf53 6 = .ok (.ixor, 1) := by decide +kernel
theorem dJ9_floorMod_7cf53_7 : decode cJ9_floorMod_7cf53 7 = .ok (.ifCond .ge 11, 3) := by decide +kernel
theorem dJ9_floorMod_7cf53_10 : decode cJ9_floorMod_7cf53 10 = .ok (.iload_n 2, 1) := by decide +kernel
theorem dJ9_floorMod_7cf53_11 : decode cJ9_floorMod_7cf53 11 = .ok (.ifCond .eq 7, 3) := by decide +kernel
theorem dJ9_floorMod_7cf53_14 : decode cJ9_floorMod_7cf53 14 = .ok (.iload_n 2, 1) := by decide +kernel
theorem dJ9_floorMod_7cf53_15 : decode cJ9_floorMod_7cf53 15 = .ok (.iload_n 1, 1) := by decide +kernel
theorem dJ9_floorMod_7cf53_16 : decode cJ9_floorMod_7cf53 16 = .ok (.iadd, 1) := by decide +kernel
theorem dJ9_floorMod_7cf53_17 : decode cJ9_floorMod_7cf53 17 = .ok (.ireturn, 1) := by decide +kernel
theorem dJ9_floorMod_7cf53_18 : decode cJ9_floorMod_7cf53 18 = .ok (.iload_n 2, 1) := by decide +kernel
theorem dJ9_floorMod_7cf53_19 : decode cJ9_floorMod_7cf53 19 = .ok (.ireturn, 1) := by decide +kernel
theorem dJ9_abs_0f7a4_0 : decode cJ9_abs_0f7a4 0 = .ok (.iload_n 0, 1) := by decide +kernel
theorem dJ9_abs_0f7a4_1 : decode cJ9_abs_0f7a4 1 = .ok (.ifCond .ge 8, 3) := by decide +kernel
theorem dJ9_abs_0f7a4_4 : decode cJ9_abs_0f7a4 4 = .ok (.iload_n 0, 1) := by decide +kernel
theorem dJ9_abs_0f7a4_5 : decode cJ9_abs_0f7a4 5 = .ok (.ineg, 1) := by decide +kernel
theorem dJ9_abs_0f7a4_6 : decode cJ9_abs_0f7a4 6 = .ok (.goto 4, 3) := by decide +kernel
theorem dJ9_abs_0f7a4_9 : decode cJ9_abs_0f7a4 9 = .ok (.iload_n 0, 1) := by decide +kernel
theorem dJ9_abs_0f7a4_10 : decode cJ9_abs_0f7a4 10 = .ok (.ireturn, 1) := by decide +kernel
theorem dJ9_max_7cf53_0 : decode cJ9_max_7cf53 0 = .ok (.iload_n 0, 1) := by decide +kernel
theorem dJ9_max_7cf53_1 : decode cJ9_max_7cf53 1 = .ok (.iload_n 1, 1) := by decide +kernel
theorem dJ9_max_7cf53_2 : decode cJ9_max_7cf53 2 = .ok (.if_icmp .lt 7, 3) := by decide +kernel
theorem dJ9_max_7cf53_5 : decode cJ9_max_7cf53 5 = .ok (.iload_n 0, 1) := by decide +kernel
theorem dJ9_max_7cf53_6 : decode cJ9_max_7cf53 6 = .ok (.goto 4, 3) := by decide +kernel
theorem dJ9_max_7cf53_9 : decode cJ9_max_7cf53 9 = .ok (.iload_n 1, 1) := by decide +kernel
theorem dJ9_max_7cf53_10 : decode cJ9_max_7cf53 10 = .ok (.ireturn, 1) := by decide +kernel
theorem dJ9_min_7cf53_0 : decode cJ9_min_7cf53 0 = .ok (.iload_n 0, 1) := by decide +kernel
theorem dJ9_min_7cf53_1 : decode cJ9_min_7cf53 1 = .ok (.iload_n 1, 1) := by decide +kernel
theorem dJ9_min_7cf53_2 : decode cJ9_min_7cf53 2 = .ok (.if_icmp .gt 7, 3) := by decide +kernel
theorem dJ9_min_7cf53_5 : decode cJ9_min_7cf53 5 = .ok (.iload_n 0, 1) := by decide +kernel
theorem dJ9_min_7cf53_6 : decode cJ9_min_7cf53 6 = .ok (.goto 4, 3) := by decide +kernel
theorem dJ9_min_7cf53_9 : decode cJ9_min_7cf53 9 = .ok (.iload_n 1, 1) := by decide +kernel
theorem dJ9_min_7cf53_10 : decode cJ9_min_7cf53 10 = .ok (.ireturn, 1) := by decide +kernel
theorem dL_law_0 : decode cL_law 0 = .ok (.new 7, 3) := by decide +kernel
theorem dL_law_3 : decode cL_law 3 = .ok (.dup, 1) := by decide +kernel
theorem dL_law_4 : decode cL_law 4 = .ok (.invokespecial 9, 3) := by decide +kernel
theorem dL_law_7 : decode cL_law 7 = .ok (.astore_n 1, 1) := by decide +kernel
theorem dL_law_8 : decode cL_law 8 = .ok (.new 10, 3) := by decide +kernel
theorem dL_law_11 : decode cL_law 11 = .ok (.dup, 1) := by decide +kernel
theorem dL_law_12 : decode cL_law 12 = .ok (.invokespecial 12, 3) := by decide +kernel
theorem dL_law_15 : decode cL_law 15 = .ok (.astore_n 2, 1) := by decide +kernel
theorem dL_law_16 : decode cL_law 16 = .ok (.iconst 0, 1) := by decide +kernel
theorem dL_law_17 : decode cL_law 17 = .ok (.istore_n 3, 1) := by decide +kernel
theorem dL_law_18 : decode cL_law 18 = .ok (.iload_n 3, 1) := by decide +kernel
theorem dL_law_19 : decode cL_law 19 = .ok (.aload_n 0, 1) := by decide +kernel
theorem dL_law_20 : decode cL_law 20 = .ok (.arraylength, 1) := by decide +kernel
theorem dL_law_21 : decode cL_law 21 = .ok (.iconst 5, 1) := by decide +kernel
theorem dL_law_22 : decode cL_law 22 = .ok (.isub, 1) := by decide +kernel
theorem dL_law_23 : decode cL_law 23 = .ok (.if_icmp .gt 839, 3) := by decide +kernel
theorem dL_law_26 : decode cL_law 26 = .ok (.aload_n 0, 1) := by decide +kernel
theorem dL_law_27 : decode cL_law 27 = .ok (.iload_n 3, 1) := by decide +kernel
theorem dL_law_28 : decode cL_law 28 = .ok (.iaload, 1) := by decide +kernel
theorem dL_law_29 : decode cL_law 29 = .ok (.bipush 31, 2) := by decide +kernel
theorem dL_law_31 : decode cL_law 31 = .ok (.iand, 1) := by decide +kernel
theorem dL_law_32 : decode cL_law 32 = .ok (.tableswitch 824 0 23 #[112, 135, 178, 211, 254, 277, 300, 323, 356, 399, 452, 495, 538, 581, 614, 637, 660, 703, 716, 739, 752, 775, 788, 811], 112) := by decide +kernel
theorem dL_law_144 : decode cL_law 144 = .ok (.aload_n 1, 1) := by decide +kernel
theorem dL_law_145 : decode cL_law 145 = .ok (.aload_n 0, 1) := by decide +kernel
theorem dL_law_146 : decode cL_law 146 = .ok (.iload_n 3, 1) := by decide +kernel
theorem dL_law_147 : decode cL_law 147 = .ok (.iconst 1, 1) := by decide +kernel
theorem dL_law_148 : decode cL_law 148 = .ok (.iadd, 1) := by decide +kernel
theorem dL_law_149 : decode cL_law 149 = .ok (.iaload, 1) := by decide +kernel
theorem dL_law_150 : decode cL_law 150 = .ok (.invokevirtual 13, 3) := by decide +kernel
theorem dL_law_153 : decode cL_law 153 = .ok (.aload_n 2, 1) := by decide +kernel
theorem dL_law_154 : decode cL_law 154 = .ok (.aload_n 0, 1) := by decide +kernel
theorem dL_law_155 : decode cL_law 155 = .ok (.iload_n 3, 1) := by decide +kernel
theorem dL_law_156 : decode cL_law 156 = .ok (.iconst 1, 1) := by decide +kernel
theorem dL_law_157 : decode cL_law 157 = .ok (.iadd, 1) := by decide +kernel
theorem dL_law_158 : decode cL_law 158 = .ok (.iaload, 1) := by decide +kernel
theorem dL_law_159 : decode cL_law 159 = .ok (.invokevirtual 17, 3) := by decide +kernel
theorem dL_law_162 : decode cL_law 162 = .ok (.if_icmp .eq 694, 3) := by decide +kernel
theorem dL_law_165 : decode cL_law 165 = .ok (.iconst 0, 1) := by decide +kernel
theorem dL_law_166 : decode cL_law 166 = .ok (.ireturn, 1) := by decide +kernel
theorem dL_law_167 : decode cL_law 167 = .ok (.aload_n 1, 1) := by decide +kernel
theorem dL_law_168 : decode cL_law 168 = .ok (.aload_n 0, 1) := by decide +kernel
theorem dL_law_169 : decode cL_law 169 = .ok (.iload_n 3, 1) := by decide +kernel
theorem dL_law_170 : decode cL_law 170 = .ok (.iconst 1, 1) := by decide +kernel
theorem dL_law_171 : decode cL_law 171 = .ok (.iadd, 1) := by decide +kernel
theorem dL_law_172 : decode cL_law 172 = .ok (.iaload, 1) := by decide +kernel
theorem dL_law_173 : decode cL_law 173 = .ok (.aload_n 0, 1) := by decide +kernel
theorem dL_law_174 : decode cL_law 174 = .ok (.iload_n 3, 1) := by decide +kernel
theorem dL_law_175 : decode cL_law 175 = .ok (.iconst 2, 1) := by decide +kernel
theorem dL_law_176 : decode cL_law 176 = .ok (.iadd, 1) := by decide +kernel
theorem dL_law_177 : decode cL_law 177 = .ok (.iaload, 1) := by decide +kernel
theorem dL_law_178 : decode cL_law 178 = .ok (.aload_n 0, 1) := by decide +kernel
theorem dL_law_179 : decode cL_law 179 = .ok (.iload_n 3, 1) := by decide +kernel
theorem dL_law_180 : decode cL_law 180 = .ok (.iconst 3, 1) := by decide +kernel
theorem dL_law_181 : decode cL_law 181 = .ok (.iadd, 1) := by decide +kernel
theorem dL_law_182 : decode cL_law 182 = .ok (.iaload, 1) := by decide +kernel
theorem dL_law_183 : decode cL_law 183 = .ok (.invokevirtual 18, 3) := by decide +kernel
theorem dL_law_186 : decode cL_law 186 = .ok (.aload_n 2, 1) := by decide +kernel
theorem dL_law_187 : decode cL_law 187 = .ok (.aload_n 0, 1) := by decide +kernel
theorem dL_law_188 : decode cL_law 188 = .ok (.iload_n 3, 1) := by decide +kernel
theorem dL_law_189 : decode cL_law 189 = .ok (.iconst 1, 1) := by decide +kernel
theorem dL_law_190 : decode cL_law 190 = .ok (.iadd, 1) := by decide +kernel
theorem dL_law_191 : decode cL_law 191 = .ok (.iaload, 1) := by decide +kernel
theorem dL_law_192 : decode cL_law 192 = .ok (.aload_n 0, 1) := by decide +kernel
theorem dL_law_193 : decode cL_law 193 = .ok (.iload_n 3, 1) := by decide +kernel
theorem dL_law_194 : decode cL_law 194 = .ok (.iconst 2, 1) := by decide +kernel
theorem dL_law_195 : decode cL_law 195 = .ok (.iadd, 1) := by decide +kernel
theorem dL_law_196 : decode cL_law 196 = .ok (.iaload, 1) := by decide +kernel
theorem dL_law_197 : decode cL_law 197 = .ok (.aload_n 0, 1) := by decide +kernel
theorem dL_law_198 : decode cL_law 198 = .ok (.iload_n 3, 1) := by decide +kernel
theorem dL_law_199 : decode cL_law 199 = .ok (.iconst 3, 1) := by decide +kernel
theorem dL_law_200 : decode cL_law 200 = .ok (.iadd, 1) := by decide +kernel
theorem dL_law_201 : decode cL_law 201 = .ok (.iaload, 1) := by decide +kernel
theorem dL_law_202 : decode cL_law 202 = .ok (.invokevirtual 22, 3) := by decide +kernel
theorem dL_law_205 : decode cL_law 205 = .ok (.if_icmp .eq 651, 3) := by decide +kernel
theorem dL_law_208 : decode cL_law 208 = .ok (.iconst 0, 1) := by decide +kernel
theorem dL_law_209 : decode cL_law 209 = .ok (.ireturn, 1) := by decide +kernel
theorem dL_law_210 : decode cL_law 210 = .ok (.aload_n 1, 1) := by decide +kernel
theorem dL_law_211 : decode cL_law 211 = .ok (.aload_n 0, 1) := by decide +kernel
theorem dL_law_212 : decode cL_law 212 = .ok (.iload_n 3, 1) := by decide +kernel
theorem dL_law_213 : decode cL_law 213 = .ok (.iconst 1, 1) := by decide +kernel
theorem dL_law_214 : decode cL_law 214 = .ok (.iadd, 1) := by decide +kernel
theorem dL_law_215 : decode cL_law 215 = .ok (.iaload, 1) := by decide +kernel
theorem dL_law_216 : decode cL_law 216 = .ok (.aload_n 0, 1) := by decide +kernel
theorem dL_law_217 : decode cL_law 217 = .ok (.iload_n 3, 1) := by decide +kernel
theorem dL_law_218 : decode cL_law 218 = .ok (.iconst 2, 1) := by decide +kernel
theorem dL_law_219 : decode cL_law 219 = .ok (.iadd, 1) := by decide +kernel
theorem dL_law_220 : decode cL_law 220 = .ok (.iaload, 1) := by decide +kernel
theorem dL_law_221 : decode cL_law 221 = .ok (.invokevirtual 23, 3) := by decide +kernel
theorem dL_law_224 : decode cL_law 224 = .ok (.aload_n 2, 1) := by decide +kernel
theorem dL_law_225 : decode cL_law 225 = .ok (.aload_n 0, 1) := by decide +kernel
theorem dL_law_226 : decode cL_law 226 = .ok (.iload_n 3, 1) := by decide +kernel
theorem dL_law_227 : decode cL_law 227 = .ok (.iconst 1, 1) := by decide +kernel
theorem dL_law_228 : decode cL_law 228 = .ok (.iadd, 1) := by decide +kernel
theorem dL_law_229 : decode cL_law 229 = .ok (.iaload, 1) := by decide +kernel
theorem dL_law_230 : decode cL_law 230 = .ok (.aload_n 0, 1) := by decide +kernel
theorem dL_law_231 : decode cL_law 231 = .ok (.iload_n 3, 1) := by decide +kernel
theorem dL_law_232 : decode cL_law 232 = .ok (.iconst 2, 1) := by decide +kernel
theorem dL_law_233 : decode cL_law 233 = .ok (.iadd, 1) := by decide +kernel
theorem dL_law_234 : decode cL_law 234 = .ok (.iaload, 1) := by decide +kernel
theorem dL_law_235 : decode cL_law 235 = .ok (.invokevirtual 27, 3) := by decide +kernel
theorem dL_law_238 : decode cL_law 238 = .ok (.if_icmp .eq 618, 3) := by decide +kernel
theorem dL_law_241 : decode cL_law 241 = .ok (.iconst 0, 1) := by decide +kernel
theorem dL_law_242 : decode cL_law 242 = .ok (.ireturn, 1) := by decide +kernel
theorem dL_law_243 : decode cL_law 243 = .ok (.aload_n 1, 1) := by decide +kernel
theorem dL_law_244 : decode cL_law 244 = .ok (.aload_n 0, 1) := by decide +kernel
theorem dL_law_245 : decode cL_law 245 = .ok (.iload_n 3, 1) := by decide +kernel
theorem dL_law_246 : decode cL_law 246 = .ok (.iconst 1, 1) := by decide +kernel
theorem dL_law_247 : decode cL_law 247 = .ok (.iadd, 1) := by decide +kernel
theorem dL_law_248 : decode cL_law 248 = .ok (.iaload, 1) := by decide +kernel
theorem dL_law_249 : decode cL_law 249 = .ok (.aload_n 0, 1) := by decide +kernel
theorem dL_law_250 : decode cL_law 250 = .ok (.iload_n 3, 1) := by decide +kernel
theorem dL_law_251 : decode cL_law 251 = .ok (.iconst 2, 1) := by decide +kernel
theorem dL_law_252 : decode cL_law 252 = .ok (.iadd, 1) := by decide +kernel
theorem dL_law_253 : decode cL_law 253 = .ok (.iaload, 1) := by decide +kernel
theorem dL_law_254 : decode cL_law 254 = .ok (.aload_n 0, 1) := by decide +kernel
theorem dL_law_255 : decode cL_law 255 = .ok (.iload_n 3, 1) := by decide +kernel
theorem dL_law_256 : decode cL_law 256 = .ok (.iconst 3, 1) := by decide +kernel
theorem dL_law_257 : decode cL_law 257 = .ok (.iadd, 1) := by decide +kernel
theorem dL_law_258 : decode cL_law 258 = .ok (.iaload, 1) := by decide +kernel
theorem dL_law_259 : decode cL_law 259 = .ok (.invokevirtual 28, 3) := by decide +kernel
theorem dL_law_262 : decode cL_law 262 = .ok (.aload_n 2, 1) := by decide +kernel
theorem dL_law_263 : decode cL_law 263 = .ok (.aload_n 0, 1) := by decide +kernel
theorem dL_law_264 : decode cL_law 264 = .ok (.iload_n 3, 1) := by decide +kernel
theorem dL_law_265 : decode cL_law 265 = .ok (.iconst 1, 1) := by decide +kernel
theorem dL_law_266 : decode cL_law 266 = .ok (.iadd, 1) := by decide +kernel
theorem dL_law_267 : decode cL_law 267 = .ok (.iaload, 1) := by decide +kernel
theorem dL_law_268 : decode cL_law 268 = .ok (.aload_n 0, 1) := by decide +kernel
theorem dL_law_269 : decode cL_law 269 = .ok (.iload_n 3, 1) := by decide +kernel
theorem dL_law_270 : decode cL_law 270 = .ok (.iconst 2, 1) := by decide +kernel
theorem dL_law_271 : decode cL_law 271 = .ok (.iadd, 1) := by decide +kernel
theorem dL_law_272 : decode cL_law 272 = .ok (.iaload, 1) := by decide +kernel
theorem dL_law_273 : decode cL_law 273 = .ok (.aload_n 0, 1) := by decide +kernel
theorem dL_law_274 : decode cL_law 274 = .ok (.iload_n 3, 1) := by decide +kernel
theorem dL_law_275 : decode cL_law 275 = .ok (.iconst 3, 1) := by decide +kernel
theorem dL_law_276 : decode cL_law 276 = .ok (.iadd, 1) := by decide +kernel
theorem dL_law_277 : decode cL_law 277 = .ok (.iaload, 1) := by decide +kernel
theorem dL_law_278 : decode cL_law 278 = .ok (.invokevirtual 31, 3) := by decide +kernel
theorem dL_law_281 : decode cL_law 281 = .ok (.if_icmp .eq 575, 3) := by decide +kernel
theorem dL_law_284 : decode cL_law 284 = .ok (.iconst 0, 1) := by decide +kernel
theorem dL_law_285 : decode cL_law 285 = .ok (.ireturn, 1) := by decide +kernel
theorem dL_law_286 : decode cL_law 286 = .ok (.aload_n 1, 1) := by decide +kernel
theorem dL_law_287 : decode cL_law 287 = .ok (.aload_n 0, 1) := by decide +kernel
theorem dL_law_288 : decode cL_law 288 = .ok (.iload_n 3, 1) := by decide +kernel
theorem dL_law_289 : decode cL_law 289 = .ok (.iconst 1, 1) := by decide +kernel
theorem dL_law_290 : decode cL_law 290 = .ok (.iadd, 1) := by decide +kernel
theorem dL_law_291 : decode cL_law 291 = .ok (.iaload, 1) := by decide +kernel
theorem dL_law_292 : decode cL_law 292 = .ok (.invokevirtual 32, 3) := by decide +kernel
theorem dL_law_295 : decode cL_law 295 = .ok (.aload_n 2, 1) := by decide +kernel
theorem dL_law_296 : decode cL_law 296 = .ok (.aload_n 0, 1) := by decide +kernel
theorem dL_law_297 : decode cL_law 297 = .ok (.iload_n 3, 1) := by decide +kernel
theorem dL_law_298 : decode cL_law 298 = .ok (.iconst 1, 1) := by decide +kernel
theorem dL_law_299 : decode cL_law 299 = .ok (.iadd, 1) := by decide +kernel
theorem dL_law_300 : decode cL_law 300 = .ok (.iaload, 1) := by decide +kernel
theorem dL_law_301 : decode cL_law 301 = .ok (.invokevirtual 35, 3) := by decide +kernel
theorem dL_law_304 : decode cL_law 304 = .ok (.if_icmp .eq 552, 3) := by decide +kernel
theorem dL_law_307 : decode cL_law 307 = .ok (.iconst 0, 1) := by decide +kernel
theorem dL_law_308 : decode cL_law 308 = .ok (.ireturn, 1) := by decide +kernel
theorem dL_law_309 : decode cL_law 309 = .ok (.aload_n 1, 1) := by decide +kernel
theorem dL_law_310 : decode cL_law 310 = .ok (.aload_n 0, 1) := by decide +kernel
theorem dL_law_311 : decode cL_law 311 = .ok (.iload_n 3, 1) := by decide +kernel
theorem dL_law_312 : decode cL_law 312 = .ok (.iconst 1, 1) := by decide +kernel
theorem dL_law_313 : decode cL_law 313 = .ok (.iadd, 1) := by decide +kernel
theorem dL_law_314 : decode cL_law 314 = .ok (.iaload, 1) := by decide +kernel
theorem dL_law_315 : decode cL_law 315 = .ok (.invokevirtual 36, 3) := by decide +kernel
theorem dL_law_318 : decode cL_law 318 = .ok (.aload_n 2, 1) := by decide +kernel
theorem dL_law_319 : decode cL_law 319 = .ok (.aload_n 0, 1) := by decide +kernel
theorem dL_law_320 : decode cL_law 320 = .ok (.iload_n 3, 1) := by decide +kernel
theorem dL_law_321 : decode cL_law 321 = .ok (.iconst 1, 1) := by decide +kernel
theorem dL_law_322 : decode cL_law 322 = .ok (.iadd, 1) := by decide +kernel
theorem dL_law_323 : decode cL_law 323 = .ok (.iaload, 1) := by decide +kernel
theorem dL_law_324 : decode cL_law 324 = .ok (.invokevirtual 39, 3) := by decide +kernel
theorem dL_law_327 : decode cL_law 327 = .ok (.if_icmp .eq 529, 3) := by decide +kernel
theorem dL_law_330 : decode cL_law 330 = .ok (.iconst 0, 1) := by decide +kernel
theorem dL_law_331 : decode cL_law 331 = .ok (.ireturn, 1) := by decide +kernel
theorem dL_law_332 : decode cL_law 332 = .ok (.aload_n 1, 1) := by decide +kernel
theorem dL_law_333 : decode cL_law 333 = .ok (.aload_n 0, 1) := by decide +kernel
theorem dL_law_334 : decode cL_law 334 = .ok (.iload_n 3, 1) := by decide +kernel
theorem dL_law_335 : decode cL_law 335 = .ok (.iconst 1, 1) := by decide +kernel
theorem dL_law_336 : decode cL_law 336 = .ok (.iadd, 1) := by decide +kernel
theorem dL_law_337 : decode cL_law 337 = .ok (.iaload, 1) := by decide +kernel
theorem dL_law_338 : decode cL_law 338 = .ok (.invokevirtual 40, 3) := by decide +kernel
theorem dL_law_341 : decode cL_law 341 = .ok (.aload_n 2, 1) := by decide +kernel
theorem dL_law_342 : decode cL_law 342 = .ok (.aload_n 0, 1) := by decide +kernel
theorem dL_law_343 : decode cL_law 343 = .ok (.iload_n 3, 1) := by decide +kernel
theorem dL_law_344 : decode cL_law 344 = .ok (.iconst 1, 1) := by decide +kernel
theorem dL_law_345 : decode cL_law 345 = .ok (.iadd, 1) := by decide +kernel
theorem dL_law_346 : decode cL_law 346 = .ok (.iaload, 1) := by decide +kernel
theorem dL_law_347 : decode cL_law 347 = .ok (.invokevirtual 43, 3) := by decide +kernel
theorem dL_law_350 : decode cL_law 350 = .ok (.if_icmp .eq 506, 3) := by decide +kernel
theorem dL_law_353 : decode cL_law 353 = .ok (.iconst 0, 1) := by decide +kernel
theorem dL_law_354 : decode cL_law 354 = .ok (.ireturn, 1) := by decide +kernel
theorem dL_law_355 : decode cL_law 355 = .ok (.aload_n 1, 1) := by decide +kernel
theorem dL_law_356 : decode cL_law 356 = .ok (.aload_n 0, 1) := by decide +kernel
theorem dL_law_357 : decode cL_law 357 = .ok (.iload_n 3, 1) := by decide +kernel
theorem dL_law_358 : decode cL_law 358 = .ok (.iconst 1, 1) := by decide +kernel
theorem dL_law_359 : decode cL_law 359 = .ok (.iadd, 1) := by decide +kernel
theorem dL_law_360 : decode cL_law 360 = .ok (.iaload, 1) := by decide +kernel
theorem dL_law_361 : decode cL_law 361 = .ok (.aload_n 0, 1) := by decide +kernel
theorem dL_law_362 : decode cL_law 362 = .ok (.iload_n 3, 1) := by decide +kernel
theorem dL_law_363 : decode cL_law 363 = .ok (.iconst 2, 1) := by decide +kernel
theorem dL_law_364 : decode cL_law 364 = .ok (.iadd, 1) := by decide +kernel
theorem dL_law_365 : decode cL_law 365 = .ok (.iaload, 1) := by decide +kernel
theorem dL_law_366 : decode cL_law 366 = .ok (.invokevirtual 44, 3) := by decide +kernel
theorem dL_law_369 : decode cL_law 369 = .ok (.aload_n 2, 1) := by decide +kernel
theorem dL_law_370 : decode cL_law 370 = .ok (.aload_n 0, 1) := by decide +kernel
theorem dL_law_371 : decode cL_law 371 = .ok (.iload_n 3, 1) := by decide +kernel
theorem dL_law_372 : decode cL_law 372 = .ok (.iconst 1, 1) := by decide +kernel
theorem dL_law_373 : decode cL_law 373 = .ok (.iadd, 1) := by decide +kernel
theorem dL_law_374 : decode cL_law 374 = .ok (.iaload, 1) := by decide +kernel
theorem dL_law_375 : decode cL_law 375 = .ok (.aload_n 0, 1) := by decide +kernel
theorem dL_law_376 : decode cL_law 376 = .ok (.iload_n 3, 1) := by decide +kernel
theorem dL_law_377 : decode cL_law 377 = .ok (.iconst 2, 1) := by decide +kernel
theorem dL_law_378 : decode cL_law 378 = .ok (.iadd, 1) := by decide +kernel
theorem dL_law_379 : decode cL_law 379 = .ok (.iaload, 1) := by decide +kernel
theorem dL_law_380 : decode cL_law 380 = .ok (.invokevirtual 47, 3) := by decide +kernel
theorem dL_law_383 : decode cL_law 383 = .ok (.if_icmp .eq 473, 3) := by decide +kernel
theorem dL_law_386 : decode cL_law 386 = .ok (.iconst 0, 1) := by decide +kernel
theorem dL_law_387 : decode cL_law 387 = .ok (.ireturn, 1) := by decide +kernel
theorem dL_law_388 : decode cL_law 388 = .ok (.aload_n 1, 1) := by decide +kernel
theorem dL_law_389 : decode cL_law 389 = .ok (.aload_n 0, 1) := by decide +kernel
theorem dL_law_390 : decode cL_law 390 = .ok (.iload_n 3, 1) := by decide +kernel
theorem dL_law_391 : decode cL_law 391 = .ok (.iconst 1, 1) := by decide +kernel
theorem dL_law_392 : decode cL_law 392 = .ok (.iadd, 1) := by decide +kernel
theorem dL_law_393 : decode cL_law 393 = .ok (.iaload, 1) := by decide +kernel
theorem dL_law_394 : decode cL_law 394 = .ok (.aload_n 0, 1) := by decide +kernel
theorem dL_law_395 : decode cL_law 395 = .ok (.iload_n 3, 1) := by decide +kernel
theorem dL_law_396 : decode cL_law 396 = .ok (.iconst 2, 1) := by decide +kernel
theorem dL_law_397 : decode cL_law 397 = .ok (.iadd, 1) := by decide +kernel
theorem dL_law_398 : decode cL_law 398 = .ok (.iaload, 1) := by decide +kernel
theorem dL_law_399 : decode cL_law 399 = .ok (.aload_n 0, 1) := by decide +kernel
theorem dL_law_400 : decode cL_law 400 = .ok (.iload_n 3, 1) := by decide +kernel
theorem dL_law_401 : decode cL_law 401 = .ok (.iconst 3, 1) := by decide +kernel
theorem dL_law_402 : decode cL_law 402 = .ok (.iadd, 1) := by decide +kernel
theorem dL_law_403 : decode cL_law 403 = .ok (.iaload, 1) := by decide +kernel
theorem dL_law_404 : decode cL_law 404 = .ok (.invokevirtual 48, 3) := by decide +kernel
theorem dL_law_407 : decode cL_law 407 = .ok (.aload_n 2, 1) := by decide +kernel
theorem dL_law_408 : decode cL_law 408 = .ok (.aload_n 0, 1) := by decide +kernel
theorem dL_law_409 : decode cL_law 409 = .ok (.iload_n 3, 1) := by decide +kernel
theorem dL_law_410 : decode cL_law 410 = .ok (.iconst 1, 1) := by decide +kernel
theorem dL_law_411 : decode cL_law 411 = .ok (.iadd, 1) := by decide +kernel
theorem dL_law_412 : decode cL_law 412 = .ok (.iaload, 1) := by decide +kernel
theorem dL_law_413 : decode cL_law 413 = .ok (.aload_n 0, 1) := by decide +kernel
theorem dL_law_414 : decode cL_law 414 = .ok (.iload_n 3, 1) := by decide +kernel
theorem dL_law_415 : decode cL_law 415 = .ok (.iconst 2, 1) := by decide +kernel
theorem dL_law_416 : decode cL_law 416 = .ok (.iadd, 1) := by decide +kernel
theorem dL_law_417 : decode cL_law 417 = .ok (.iaload, 1) := by decide +kernel
theorem dL_law_418 : decode cL_law 418 = .ok (.aload_n 0, 1) := by decide +kernel
theorem dL_law_419 : decode cL_law 419 = .ok (.iload_n 3, 1) := by decide +kernel
theorem dL_law_420 : decode cL_law 420 = .ok (.iconst 3, 1) := by decide +kernel
theorem dL_law_421 : decode cL_law 421 = .ok (.iadd, 1) := by decide +kernel
theorem dL_law_422 : decode cL_law 422 = .ok (.iaload, 1) := by decide +kernel
theorem dL_law_423 : decode cL_law 423 = .ok (.invokevirtual 51, 3) := by decide +kernel
theorem dL_law_426 : decode cL_law 426 = .ok (.if_icmp .eq 430, 3) := by decide +kernel
theorem dL_law_429 : decode cL_law 429 = .ok (.iconst 0, 1) := by decide +kernel
theorem dL_law_430 : decode cL_law 430 = .ok (.ireturn, 1) := by decide +kernel
theorem dL_law_431 : decode cL_law 431 = .ok (.aload_n 1, 1) := by decide +kernel
theorem dL_law_432 : decode cL_law 432 = .ok (.aload_n 0, 1) := by decide +kernel
theorem dL_law_433 : decode cL_law 433 = .ok (.iload_n 3, 1) := by decide +kernel
theorem dL_law_434 : decode cL_law 434 = .ok (.iconst 1, 1) := by decide +kernel
theorem dL_law_435 : decode cL_law 435 = .ok (.iadd, 1) := by decide +kernel
theorem dL_law_436 : decode cL_law 436 = .ok (.iaload, 1) := by decide +kernel
theorem dL_law_437 : decode cL_law 437 = .ok (.aload_n 0, 1) := by decide +kernel
theorem dL_law_438 : decode cL_law 438 = .ok (.iload_n 3, 1) := by decide +kernel
theorem dL_law_439 : decode cL_law 439 = .ok (.iconst 2, 1) := by decide +kernel
theorem dL_law_440 : decode cL_law 440 = .ok (.iadd, 1) := by decide +kernel
theorem dL_law_441 : decode cL_law 441 = .ok (.iaload, 1) := by decide +kernel
theorem dL_law_442 : decode cL_law 442 = .ok (.aload_n 0, 1) := by decide +kernel
theorem dL_law_443 : decode cL_law 443 = .ok (.iload_n 3, 1) := by decide +kernel
theorem dL_law_444 : decode cL_law 444 = .ok (.iconst 3, 1) := by decide +kernel
theorem dL_law_445 : decode cL_law 445 = .ok (.iadd, 1) := by decide +kernel
theorem dL_law_446 : decode cL_law 446 = .ok (.iaload, 1) := by decide +kernel
theorem dL_law_447 : decode cL_law 447 = .ok (.aload_n 0, 1) := by decide +kernel
theorem dL_law_448 : decode cL_law 448 = .ok (.iload_n 3, 1) := by decide +kernel
theorem dL_law_449 : decode cL_law 449 = .ok (.iconst 4, 1) := by decide +kernel
theorem dL_law_450 : decode cL_law 450 = .ok (.iadd, 1) := by decide +kernel
theorem dL_law_451 : decode cL_law 451 = .ok (.iaload, 1) := by decide +kernel
theorem dL_law_452 : decode cL_law 452 = .ok (.invokevirtual 52, 3) := by decide +kernel
theorem dL_law_455 : decode cL_law 455 = .ok (.aload_n 2, 1) := by decide +kernel
theorem dL_law_456 : decode cL_law 456 = .ok (.aload_n 0, 1) := by decide +kernel
theorem dL_law_457 : decode cL_law 457 = .ok (.iload_n 3, 1) := by decide +kernel
theorem dL_law_458 : decode cL_law 458 = .ok (.iconst 1, 1) := by decide +kernel
theorem dL_law_459 : decode cL_law 459 = .ok (.iadd, 1) := by decide +kernel
theorem dL_law_460 : decode cL_law 460 = .ok (.iaload, 1) := by decide +kernel
theorem dL_law_461 : decode cL_law 461 = .ok (.aload_n 0, 1) := by decide +kernel
theorem dL_law_462 : decode cL_law 462 = .ok (.iload_n 3, 1) := by decide +kernel
theorem dL_law_463 : decode cL_law 463 = .ok (.iconst 2, 1) := by decide +kernel
theorem dL_law_464 : decode cL_law 464 = .ok (.iadd, 1) := by decide +kernel
theorem dL_law_465 : decode cL_law 465 = .ok (.iaload, 1) := by decide +kernel
theorem dL_law_466 : decode cL_law 466 = .ok (.aload_n 0, 1) := by decide +kernel
theorem dL_law_467 : decode cL_law 467 = .ok (.iload_n 3, 1) := by decide +kernel
theorem dL_law_468 : decode cL_law 468 = .ok (.iconst 3, 1) := by decide +kernel
theorem dL_law_469 : decode cL_law 469 = .ok (.iadd, 1) := by decide +kernel
theorem dL_law_470 : decode cL_law 470 = .ok (.iaload, 1) := by decide +kernel
theorem dL_law_471 : decode cL_law 471 = .ok (.aload_n 0, 1) := by decide +kernel
theorem dL_law_472 : decode cL_law 472 = .ok (.iload_n 3, 1) := by decide +kernel
theorem dL_law_473 : decode cL_law 473 = .ok (.iconst 4, 1) := by decide +kernel
theorem dL_law_474 : decode cL_law 474 = .ok (.iadd, 1) := by decide +kernel
theorem dL_law_475 : decode cL_law 475 = .ok (.iaload, 1) := by decide +kernel
theorem dL_law_476 : decode cL_law 476 = .ok (.invokevirtual 56, 3) := by decide +kernel
theorem dL_law_479 : decode cL_law 479 = .ok (.if_icmp .eq 377, 3) := by decide +kernel
theorem dL_law_482 : decode cL_law 482 = .ok (.iconst 0, 1) := by decide +kernel
theorem dL_law_483 : decode cL_law 483 = .ok (.ireturn, 1) := by decide +kernel
theorem dL_law_484 : decode cL_law 484 = .ok (.aload_n 1, 1) := by decide +kernel
theorem dL_law_485 : decode cL_law 485 = .ok (.aload_n 0, 1) := by decide +kernel
theorem dL_law_486 : decode cL_law 486 = .ok (.iload_n 3, 1) := by decide +kernel
theorem dL_law_487 : decode cL_law 487 = .ok (.iconst 1, 1) := by decide +kernel
theorem dL_law_488 : decode cL_law 488 = .ok (.iadd, 1) := by decide +kernel
theorem dL_law_489 : decode cL_law 489 = .ok (.iaload, 1) := by decide +kernel
theorem dL_law_490 : decode cL_law 490 = .ok (.aload_n 0, 1) := by decide +kernel
theorem dL_law_491 : decode cL_law 491 = .ok (.iload_n 3, 1) := by decide +kernel
theorem dL_law_492 : decode cL_law 492 = .ok (.iconst 2, 1) := by decide +kernel
theorem dL_law_493 : decode cL_law 493 = .ok (.iadd, 1) := by decide +kernel
theorem dL_law_494 : decode cL_law 494 = .ok (.iaload, 1) := by decide +kernel
theorem dL_law_495 : decode cL_law 495 = .ok (.aload_n 0, 1) := by decide +kernel
theorem dL_law_496 : decode cL_law 496 = .ok (.iload_n 3, 1) := by decide +kernel
theorem dL_law_497 : decode cL_law 497 = .ok (.iconst 3, 1) := by decide +kernel
theorem dL_law_498 : decode cL_law 498 = .ok (.iadd, 1) := by decide +kernel
theorem dL_law_499 : decode cL_law 499 = .ok (.iaload, 1) := by decide +kernel
theorem dL_law_500 : decode cL_law 500 = .ok (.invokevirtual 57, 3) := by decide +kernel
theorem dL_law_503 : decode cL_law 503 = .ok (.aload_n 2, 1) := by decide +kernel
theorem dL_law_504 : decode cL_law 504 = .ok (.aload_n 0, 1) := by decide +kernel
theorem dL_law_505 : decode cL_law 505 = .ok (.iload_n 3, 1) := by decide +kernel
theorem dL_law_506 : decode cL_law 506 = .ok (.iconst 1, 1) := by decide +kernel
theorem dL_law_507 : decode cL_law 507 = .ok (.iadd, 1) := by decide +kernel
theorem dL_law_508 : decode cL_law 508 = .ok (.iaload, 1) := by decide +kernel
theorem dL_law_509 : decode cL_law 509 = .ok (.aload_n 0, 1) := by decide +kernel
theorem dL_law_510 : decode cL_law 510 = .ok (.iload_n 3, 1) := by decide +kernel
theorem dL_law_511 : decode cL_law 511 = .ok (.iconst 2, 1) := by decide +kernel
theorem dL_law_512 : decode cL_law 512 = .ok (.iadd, 1) := by decide +kernel
theorem dL_law_513 : decode cL_law 513 = .ok (.iaload, 1) := by decide +kernel
theorem dL_law_514 : decode cL_law 514 = .ok (.aload_n 0, 1) := by decide +kernel
theorem dL_law_515 : decode cL_law 515 = .ok (.iload_n 3, 1) := by decide +kernel
theorem dL_law_516 : decode cL_law 516 = .ok (.iconst 3, 1) := by decide +kernel
theorem dL_law_517 : decode cL_law 517 = .ok (.iadd, 1) := by decide +kernel
theorem dL_law_518 : decode cL_law 518 = .ok (.iaload, 1) := by decide +kernel
theorem dL_law_519 : decode cL_law 519 = .ok (.invokevirtual 60, 3) := by decide +kernel
theorem dL_law_522 : decode cL_law 522 = .ok (.if_icmp .eq 334, 3) := by decide +kernel
theorem dL_law_525 : decode cL_law 525 = .ok (.iconst 0, 1) := by decide +kernel
theorem dL_law_526 : decode cL_law 526 = .ok (.ireturn, 1) := by decide +kernel
theorem dL_law_527 : decode cL_law 527 = .ok (.aload_n 1, 1) := by decide +kernel
theorem dL_law_528 : decode cL_law 528 = .ok (.aload_n 0, 1) := by decide +kernel
theorem dL_law_529 : decode cL_law 529 = .ok (.iload_n 3, 1) := by decide +kernel
theorem dL_law_530 : decode cL_law 530 = .ok (.iconst 1, 1) := by decide +kernel
theorem dL_law_531 : decode cL_law 531 = .ok (.iadd, 1) := by decide +kernel
theorem dL_law_532 : decode cL_law 532 = .ok (.iaload, 1) := by decide +kernel
theorem dL_law_533 : decode cL_law 533 = .ok (.aload_n 0, 1) := by decide +kernel
theorem dL_law_534 : decode cL_law 534 = .ok (.iload_n 3, 1) := by decide +kernel
theorem dL_law_535 : decode cL_law 535 = .ok (.iconst 2, 1) := by decide +kernel
theorem dL_law_536 : decode cL_law 536 = .ok (.iadd, 1) := by decide +kernel
theorem dL_law_537 : decode cL_law 537 = .ok (.iaload, 1) := by decide +kernel
theorem dL_law_538 : decode cL_law 538 = .ok (.aload_n 0, 1) := by decide +kernel
theorem dL_law_539 : decode cL_law 539 = .ok (.iload_n 3, 1) := by decide +kernel
theorem dL_law_540 : decode cL_law 540 = .ok (.iconst 3, 1) := by decide +kernel
theorem dL_law_541 : decode cL_law 541 = .ok (.iadd, 1) := by decide +kernel
theorem dL_law_542 : decode cL_law 542 = .ok (.iaload, 1) := by decide +kernel
theorem dL_law_543 : decode cL_law 543 = .ok (.invokevirtual 61, 3) := by decide +kernel
theorem dL_law_546 : decode cL_law 546 = .ok (.aload_n 2, 1) := by decide +kernel
theorem dL_law_547 : decode cL_law 547 = .ok (.aload_n 0, 1) := by decide +kernel
theorem dL_law_548 : decode cL_law 548 = .ok (.iload_n 3, 1) := by decide +kernel
theorem dL_law_549 : decode cL_law 549 = .ok (.iconst 1, 1) := by decide +kernel
theorem dL_law_550 : decode cL_law 550 = .ok (.iadd, 1) := by decide +kernel
theorem dL_law_551 : decode cL_law 551 = .ok (.iaload, 1) := by decide +kernel
theorem dL_law_552 : decode cL_law 552 = .ok (.aload_n 0, 1) := by decide +kernel
theorem dL_law_553 : decode cL_law 553 = .ok (.iload_n 3, 1) := by decide +kernel
theorem dL_law_554 : decode cL_law 554 = .ok (.iconst 2, 1) := by decide +kernel
theorem dL_law_555 : decode cL_law 555 = .ok (.iadd, 1) := by decide +kernel
theorem dL_law_556 : decode cL_law 556 = .ok (.iaload, 1) := by decide +kernel
theorem dL_law_557 : decode cL_law 557 = .ok (.aload_n 0, 1) := by decide +kernel
theorem dL_law_558 : decode cL_law 558 = .ok (.iload_n 3, 1) := by decide +kernel
theorem dL_law_559 : decode cL_law 559 = .ok (.iconst 3, 1) := by decide +kernel
theorem dL_law_560 : decode cL_law 560 = .ok (.iadd, 1) := by decide +kernel
theorem dL_law_561 : decode cL_law 561 = .ok (.iaload, 1) := by decide +kernel
theorem dL_law_562 : decode cL_law 562 = .ok (.invokevirtual 64, 3) := by decide +kernel
theorem dL_law_565 : decode cL_law 565 = .ok (.if_icmp .eq 291, 3) := by decide +kernel
theorem dL_law_568 : decode cL_law 568 = .ok (.iconst 0, 1) := by decide +kernel
theorem dL_law_569 : decode cL_law 569 = .ok (.ireturn, 1) := by decide +kernel
theorem dL_law_570 : decode cL_law 570 = .ok (.aload_n 1, 1) := by decide +kernel
theorem dL_law_571 : decode cL_law 571 = .ok (.aload_n 0, 1) := by decide +kernel
theorem dL_law_572 : decode cL_law 572 = .ok (.iload_n 3, 1) := by decide +kernel
theorem dL_law_573 : decode cL_law 573 = .ok (.iconst 1, 1) := by decide +kernel
theorem dL_law_574 : decode cL_law 574 = .ok (.iadd, 1) := by decide +kernel
theorem dL_law_575 : decode cL_law 575 = .ok (.iaload, 1) := by decide +kernel
theorem dL_law_576 : decode cL_law 576 = .ok (.aload_n 0, 1) := by decide +kernel
theorem dL_law_577 : decode cL_law 577 = .ok (.iload_n 3, 1) := by decide +kernel
theorem dL_law_578 : decode cL_law 578 = .ok (.iconst 2, 1) := by decide +kernel
theorem dL_law_579 : decode cL_law 579 = .ok (.iadd, 1) := by decide +kernel
theorem dL_law_580 : decode cL_law 580 = .ok (.iaload, 1) := by decide +kernel
theorem dL_law_581 : decode cL_law 581 = .ok (.aload_n 0, 1) := by decide +kernel
theorem dL_law_582 : decode cL_law 582 = .ok (.iload_n 3, 1) := by decide +kernel
theorem dL_law_583 : decode cL_law 583 = .ok (.iconst 3, 1) := by decide +kernel
theorem dL_law_584 : decode cL_law 584 = .ok (.iadd, 1) := by decide +kernel
theorem dL_law_585 : decode cL_law 585 = .ok (.iaload, 1) := by decide +kernel
theorem dL_law_586 : decode cL_law 586 = .ok (.invokevirtual 65, 3) := by decide +kernel
theorem dL_law_589 : decode cL_law 589 = .ok (.aload_n 2, 1) := by decide +kernel
theorem dL_law_590 : decode cL_law 590 = .ok (.aload_n 0, 1) := by decide +kernel
theorem dL_law_591 : decode cL_law 591 = .ok (.iload_n 3, 1) := by decide +kernel
theorem dL_law_592 : decode cL_law 592 = .ok (.iconst 1, 1) := by decide +kernel
theorem dL_law_593 : decode cL_law 593 = .ok (.iadd, 1) := by decide +kernel
theorem dL_law_594 : decode cL_law 594 = .ok (.iaload, 1) := by decide +kernel
theorem dL_law_595 : decode cL_law 595 = .ok (.aload_n 0, 1) := by decide +kernel
theorem dL_law_596 : decode cL_law 596 = .ok (.iload_n 3, 1) := by decide +kernel
theorem dL_law_597 : decode cL_law 597 = .ok (.iconst 2, 1) := by decide +kernel
theorem dL_law_598 : decode cL_law 598 = .ok (.iadd, 1) := by decide +kernel
theorem dL_law_599 : decode cL_law 599 = .ok (.iaload, 1) := by decide +kernel
theorem dL_law_600 : decode cL_law 600 = .ok (.aload_n 0, 1) := by decide +kernel
theorem dL_law_601 : decode cL_law 601 = .ok (.iload_n 3, 1) := by decide +kernel

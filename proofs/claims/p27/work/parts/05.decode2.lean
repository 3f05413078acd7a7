theorem dX5_drop_5 : decode cX5_drop 5 = .ok (.getfield 10, 3) := by decide +kernel
theorem dX5_drop_8 : decode cX5_drop 8 = .ok (.invokevirtual 40, 3) := by decide +kernel
theorem dX5_drop_11 : decode cX5_drop 11 = .ok (.aload_n 0, 1) := by decide +kernel
theorem dX5_drop_12 : decode cX5_drop 12 = .ok (.aload_n 0, 1) := by decide +kernel
theorem dX5_drop_13 : decode cX5_drop 13 = .ok (.getfield 10, 3) := by decide +kernel
theorem dX5_drop_16 : decode cX5_drop 16 = .ok (.iload_n 1, 1) := by decide +kernel
theorem dX5_drop_17 : decode cX5_drop 17 = .ok (.invokevirtual 65, 3) := by decide +kernel
theorem dX5_drop_20 : decode cX5_drop 20 = .ok (.invokevirtual 48, 3) := by decide +kernel
theorem dX5_drop_23 : decode cX5_drop 23 = .ok (.ireturn, 1) := by decide +kernel
theorem dX5_make_0 : decode cX5_make 0 = .ok (.aload_n 0, 1) := by decide +kernel
theorem dX5_make_1 : decode cX5_make 1 = .ok (.getfield 36, 3) := by decide +kernel
theorem dX5_make_4 : decode cX5_make 4 = .ok (.aload_n 0, 1) := by decide +kernel
theorem dX5_make_5 : decode cX5_make 5 = .ok (.getfield 10, 3) := by decide +kernel
theorem dX5_make_8 : decode cX5_make 8 = .ok (.invokevirtual 40, 3) := by decide +kernel
theorem dX5_make_11 : decode cX5_make 11 = .ok (.aload_n 0, 1) := by decide +kernel
theorem dX5_make_12 : decode cX5_make 12 = .ok (.aload_n 0, 1) := by decide +kernel
theorem dX5_make_13 : decode cX5_make 13 = .ok (.getfield 10, 3) := by decide +kernel
theorem dX5_make_16 : decode cX5_make 16 = .ok (.iload_n 1, 1) := by decide +kernel
theorem dX5_make_17 : decode cX5_make 17 = .ok (.aload_n 0, 1) := by decide +kernel
theorem dX5_make_18 : decode cX5_make 18 = .ok (.getfield 22, 3) := by decide +kernel
theorem dX5_make_21 : decode cX5_make 21 = .ok (.invokevirtual 68, 3) := by decide +kernel
theorem dX5_make_24 : decode cX5_make 24 = .ok (.invokevirtual 48, 3) := by decide +kernel
theorem dX5_make_27 : decode cX5_make 27 = .ok (.ireturn, 1) := by decide +kernel
theorem dX5_set_0 : decode cX5_set 0 = .ok (.aload_n 0, 1) := by decide +kernel
theorem dX5_set_1 : decode cX5_set 1 = .ok (.getfield 36, 3) := by decide +kernel
theorem dX5_set_4 : decode cX5_set 4 = .ok (.aload_n 0, 1) := by decide +kernel
theorem dX5_set_5 : decode cX5_set 5 = .ok (.getfield 10, 3) := by decide +kernel
theorem dX5_set_8 : decode cX5_set 8 = .ok (.invokevirtual 40, 3) := by decide +kernel
theorem dX5_set_11 : decode cX5_set 11 = .ok (.aload_n 0, 1) := by decide +kernel
theorem dX5_set_12 : decode cX5_set 12 = .ok (.aload_n 0, 1) := by decide +kernel
theorem dX5_set_13 : decode cX5_set 13 = .ok (.getfield 10, 3) := by decide +kernel
theorem dX5_set_16 : decode cX5_set 16 = .ok (.iload_n 1, 1) := by decide +kernel
theorem dX5_set_17 : decode cX5_set 17 = .ok (.iload_n 2, 1) := by decide +kernel
theorem dX5_set_18 : decode cX5_set 18 = .ok (.invokevirtual 72, 3) := by decide +kernel
theorem dX5_set_21 : decode cX5_set 21 = .ok (.invokevirtual 48, 3) := by decide +kernel
theorem dX5_set_24 : decode cX5_set 24 = .ok (.ireturn, 1) := by decide +kernel
theorem dX5_stemOf_0 : decode cX5_stemOf 0 = .ok (.aload_n 0, 1) := by decide +kernel
theorem dX5_stemOf_1 : decode cX5_stemOf 1 = .ok (.getfield 10, 3) := by decide +kernel
theorem dX5_stemOf_4 : decode cX5_stemOf 4 = .ok (.iload_n 1, 1) := by decide +kernel
theorem dX5_stemOf_5 : decode cX5_stemOf 5 = .ok (.iload_n 2, 1) := by decide +kernel
theorem dX5_stemOf_6 : decode cX5_stemOf 6 = .ok (.invokevirtual 75, 3) := by decide +kernel
theorem dX5_stemOf_9 : decode cX5_stemOf 9 = .ok (.ifCond .eq 13, 3) := by decide +kernel
theorem dX5_stemOf_12 : decode cX5_stemOf 12 = .ok (.iload_n 3, 1) := by decide +kernel
theorem dX5_stemOf_13 : decode cX5_stemOf 13 = .ok (.iconst 0, 1) := by decide +kernel
theorem dX5_stemOf_14 : decode cX5_stemOf 14 = .ok (.bipush 6, 2) := by decide +kernel
theorem dX5_stemOf_16 : decode cX5_stemOf 16 = .ok (.invokestatic 79, 3) := by decide +kernel
theorem dX5_stemOf_19 : decode cX5_stemOf 19 = .ok (.ifCond .ne 6, 3) := by decide +kernel
theorem dX5_stemOf_22 : decode cX5_stemOf 22 = .ok (.ldc 83, 2) := by decide +kernel
theorem dX5_stemOf_24 : decode cX5_stemOf 24 = .ok (.ireturn, 1) := by decide +kernel
theorem dX5_stemOf_25 : decode cX5_stemOf 25 = .ok (.iload_n 1, 1) := by decide +kernel
theorem dX5_stemOf_26 : decode cX5_stemOf 26 = .ok (.bipush 6, 2) := by decide +kernel
theorem dX5_stemOf_28 : decode cX5_stemOf 28 = .ok (.imul, 1) := by decide +kernel
theorem dX5_stemOf_29 : decode cX5_stemOf 29 = .ok (.iload_n 2, 1) := by decide +kernel
theorem dX5_stemOf_30 : decode cX5_stemOf 30 = .ok (.iadd, 1) := by decide +kernel
theorem dX5_stemOf_31 : decode cX5_stemOf 31 = .ok (.istore 4, 2) := by decide +kernel
theorem dX5_stemOf_33 : decode cX5_stemOf 33 = .ok (.aload_n 0, 1) := by decide +kernel
theorem dX5_stemOf_34 : decode cX5_stemOf 34 = .ok (.getfield 10, 3) := by decide +kernel
theorem dX5_stemOf_37 : decode cX5_stemOf 37 = .ok (.getfield 84, 3) := by decide +kernel
theorem dX5_stemOf_40 : decode cX5_stemOf 40 = .ok (.iload 4, 2) := by decide +kernel
theorem dX5_stemOf_42 : decode cX5_stemOf 42 = .ok (.invokestatic 88, 3) := by decide +kernel
theorem dX5_stemOf_45 : decode cX5_stemOf 45 = .ok (.istore 5, 2) := by decide +kernel
theorem dX5_stemOf_47 : decode cX5_stemOf 47 = .ok (.iload_n 3, 1) := by decide +kernel
theorem dX5_stemOf_48 : decode cX5_stemOf 48 = .ok (.tableswitch 113 0 5 #[40, 53, 56, 69, 79, 103], 40) := by decide +kernel
theorem dX5_stemOf_88 : decode cX5_stemOf 88 = .ok (.aload_n 0, 1) := by decide +kernel
theorem dX5_stemOf_89 : decode cX5_stemOf 89 = .ok (.getfield 10, 3) := by decide +kernel
theorem dX5_stemOf_92 : decode cX5_stemOf 92 = .ok (.getfield 92, 3) := by decide +kernel
theorem dX5_stemOf_95 : decode cX5_stemOf 95 = .ok (.iload 4, 2) := by decide +kernel
theorem dX5_stemOf_97 : decode cX5_stemOf 97 = .ok (.invokestatic 88, 3) := by decide +kernel
theorem dX5_stemOf_100 : decode cX5_stemOf 100 = .ok (.ireturn, 1) := by decide +kernel
theorem dX5_stemOf_101 : decode cX5_stemOf 101 = .ok (.iload 5, 2) := by decide +kernel
theorem dX5_stemOf_103 : decode cX5_stemOf 103 = .ok (.ireturn, 1) := by decide +kernel
theorem dX5_stemOf_104 : decode cX5_stemOf 104 = .ok (.aload_n 0, 1) := by decide +kernel
theorem dX5_stemOf_105 : decode cX5_stemOf 105 = .ok (.getfield 10, 3) := by decide +kernel
theorem dX5_stemOf_108 : decode cX5_stemOf 108 = .ok (.getfield 95, 3) := by decide +kernel
theorem dX5_stemOf_111 : decode cX5_stemOf 111 = .ok (.iload 4, 2) := by decide +kernel
theorem dX5_stemOf_113 : decode cX5_stemOf 113 = .ok (.invokestatic 88, 3) := by decide +kernel
theorem dX5_stemOf_116 : decode cX5_stemOf 116 = .ok (.ireturn, 1) := by decide +kernel
theorem dX5_stemOf_117 : decode cX5_stemOf 117 = .ok (.aload_n 0, 1) := by decide +kernel
theorem dX5_stemOf_118 : decode cX5_stemOf 118 = .ok (.getfield 10, 3) := by decide +kernel
theorem dX5_stemOf_121 : decode cX5_stemOf 121 = .ok (.iload 5, 2) := by decide +kernel
theorem dX5_stemOf_123 : decode cX5_stemOf 123 = .ok (.invokevirtual 98, 3) := by decide +kernel
theorem dX5_stemOf_126 : decode cX5_stemOf 126 = .ok (.ireturn, 1) := by decide +kernel
theorem dX5_stemOf_127 : decode cX5_stemOf 127 = .ok (.aload_n 0, 1) := by decide +kernel
theorem dX5_stemOf_128 : decode cX5_stemOf 128 = .ok (.getfield 10, 3) := by decide +kernel
theorem dX5_stemOf_131 : decode cX5_stemOf 131 = .ok (.iload 5, 2) := by decide +kernel
theorem dX5_stemOf_133 : decode cX5_stemOf 133 = .ok (.invokevirtual 101, 3) := by decide +kernel
theorem dX5_stemOf_136 : decode cX5_stemOf 136 = .ok (.istore 6, 2) := by decide +kernel
theorem dX5_stemOf_138 : decode cX5_stemOf 138 = .ok (.iload 6, 2) := by decide +kernel
theorem dX5_stemOf_140 : decode cX5_stemOf 140 = .ok (.ifCond .ne 8, 3) := by decide +kernel
theorem dX5_stemOf_143 : decode cX5_stemOf 143 = .ok (.ldc 104, 2) := by decide +kernel
theorem dX5_stemOf_145 : decode cX5_stemOf 145 = .ok (.goto 5, 3) := by decide +kernel
theorem dX5_stemOf_148 : decode cX5_stemOf 148 = .ok (.iload 6, 2) := by decide +kernel
theorem dX5_stemOf_150 : decode cX5_stemOf 150 = .ok (.ireturn, 1) := by decide +kernel
theorem dX5_stemOf_151 : decode cX5_stemOf 151 = .ok (.aload_n 0, 1) := by decide +kernel
theorem dX5_stemOf_152 : decode cX5_stemOf 152 = .ok (.getfield 10, 3) := by decide +kernel
theorem dX5_stemOf_155 : decode cX5_stemOf 155 = .ok (.iload 5, 2) := by decide +kernel
theorem dX5_stemOf_157 : decode cX5_stemOf 157 = .ok (.invokevirtual 105, 3) := by decide +kernel
theorem dX5_stemOf_160 : decode cX5_stemOf 160 = .ok (.ireturn, 1) := by decide +kernel
theorem dX5_stemOf_161 : decode cX5_stemOf 161 = .ok (.iload_n 2, 1) := by decide +kernel
theorem dX5_stemOf_162 : decode cX5_stemOf 162 = .ok (.ifCond .ne 8, 3) := by decide +kernel
theorem dX5_stemOf_165 : decode cX5_stemOf 165 = .ok (.ldc 104, 2) := by decide +kernel
theorem dX5_stemOf_167 : decode cX5_stemOf 167 = .ok (.goto 27, 3) := by decide +kernel
theorem dX5_stemOf_170 : decode cX5_stemOf 170 = .ok (.aload_n 0, 1) := by decide +kernel
theorem dX5_stemOf_171 : decode cX5_stemOf 171 = .ok (.getfield 10, 3) := by decide +kernel
theorem dX5_stemOf_174 : decode cX5_stemOf 174 = .ok (.getfield 92, 3) := by decide +kernel
theorem dX5_stemOf_177 : decode cX5_stemOf 177 = .ok (.iload 4, 2) := by decide +kernel
theorem dX5_stemOf_179 : decode cX5_stemOf 179 = .ok (.invokestatic 88, 3) := by decide +kernel
theorem dX5_stemOf_182 : decode cX5_stemOf 182 = .ok (.aload_n 0, 1) := by decide +kernel
theorem dX5_stemOf_183 : decode cX5_stemOf 183 = .ok (.getfield 10, 3) := by decide +kernel
theorem dX5_stemOf_186 : decode cX5_stemOf 186 = .ok (.iload 4, 2) := by decide +kernel
theorem dX5_stemOf_188 : decode cX5_stemOf 188 = .ok (.iconst 1, 1) := by decide +kernel
theorem dX5_stemOf_189 : decode cX5_stemOf 189 = .ok (.isub, 1) := by decide +kernel
theorem dX5_stemOf_190 : decode cX5_stemOf 190 = .ok (.invokevirtual 108, 3) := by decide +kernel
theorem dX5_stemOf_193 : decode cX5_stemOf 193 = .ok (.isub, 1) := by decide +kernel
theorem dX5_stemOf_194 : decode cX5_stemOf 194 = .ok (.ireturn, 1) := by decide +kernel
theorem dX5_inSheet_0 : decode cX5_inSheet 0 = .ok (.iload_n 1, 1) := by decide +kernel
theorem dX5_inSheet_1 : decode cX5_inSheet 1 = .ok (.invokestatic 111, 3) := by decide +kernel
theorem dX5_inSheet_4 : decode cX5_inSheet 4 = .ok (.ifCond .eq 23, 3) := by decide +kernel
theorem dX5_inSheet_7 : decode cX5_inSheet 7 = .ok (.iload_n 2, 1) := by decide +kernel
theorem dX5_inSheet_8 : decode cX5_inSheet 8 = .ok (.iconst 0, 1) := by decide +kernel
theorem dX5_inSheet_9 : decode cX5_inSheet 9 = .ok (.bipush 7, 2) := by decide +kernel
theorem dX5_inSheet_11 : decode cX5_inSheet 11 = .ok (.invokestatic 79, 3) := by decide +kernel
theorem dX5_inSheet_14 : decode cX5_inSheet 14 = .ok (.ifCond .eq 13, 3) := by decide +kernel
theorem dX5_inSheet_17 : decode cX5_inSheet 17 = .ok (.iload_n 3, 1) := by decide +kernel
theorem dX5_inSheet_18 : decode cX5_inSheet 18 = .ok (.iconst 0, 1) := by decide +kernel
theorem dX5_inSheet_19 : decode cX5_inSheet 19 = .ok (.bipush 63, 2) := by decide +kernel
theorem dX5_inSheet_21 : decode cX5_inSheet 21 = .ok (.invokestatic 79, 3) := by decide +kernel
theorem dX5_inSheet_24 : decode cX5_inSheet 24 = .ok (.ifCond .ne 6, 3) := by decide +kernel
theorem dX5_inSheet_27 : decode cX5_inSheet 27 = .ok (.ldc 83, 2) := by decide +kernel
theorem dX5_inSheet_29 : decode cX5_inSheet 29 = .ok (.ireturn, 1) := by decide +kernel
theorem dX5_inSheet_30 : decode cX5_inSheet 30 = .ok (.aload_n 0, 1) := by decide +kernel
theorem dX5_inSheet_31 : decode cX5_inSheet 31 = .ok (.getfield 10, 3) := by decide +kernel
theorem dX5_inSheet_34 : decode cX5_inSheet 34 = .ok (.getfield 159, 3) := by decide +kernel
theorem dX5_inSheet_37 : decode cX5_inSheet 37 = .ok (.astore 4, 2) := by decide +kernel
theorem dX5_inSheet_39 : decode cX5_inSheet 39 = .ok (.aload 4, 2) := by decide +kernel
theorem dX5_inSheet_41 : decode cX5_inSheet 41 = .ok (.iload_n 1, 1) := by decide +kernel
theorem dX5_inSheet_42 : decode cX5_inSheet 42 = .ok (.invokevirtual 163, 3) := by decide +kernel
theorem dX5_inSheet_45 : decode cX5_inSheet 45 = .ok (.istore 5, 2) := by decide +kernel
theorem dX5_inSheet_47 : decode cX5_inSheet 47 = .ok (.iload 5, 2) := by decide +kernel
theorem dX5_inSheet_49 : decode cX5_inSheet 49 = .ok (.ifCond .lt 17, 3) := by decide +kernel
theorem dX5_inSheet_52 : decode cX5_inSheet 52 = .ok (.iload_n 2, 1) := by decide +kernel
theorem dX5_inSheet_53 : decode cX5_inSheet 53 = .ok (.aload 4, 2) := by decide +kernel
theorem dX5_inSheet_55 : decode cX5_inSheet 55 = .ok (.getfield 168, 3) := by decide +kernel
theorem dX5_inSheet_58 : decode cX5_inSheet 58 = .ok (.iload 5, 2) := by decide +kernel
theorem dX5_inSheet_60 : decode cX5_inSheet 60 = .ok (.invokestatic 88, 3) := by decide +kernel
theorem dX5_inSheet_63 : decode cX5_inSheet 63 = .ok (.if_icmp .lt 6, 3) := by decide +kernel
theorem dX5_inSheet_66 : decode cX5_inSheet 66 = .ok (.ldc 104, 2) := by decide +kernel
theorem dX5_inSheet_68 : decode cX5_inSheet 68 = .ok (.ireturn, 1) := by decide +kernel
theorem dX5_inSheet_69 : decode cX5_inSheet 69 = .ok (.iload 5, 2) := by decide +kernel
theorem dX5_inSheet_71 : decode cX5_inSheet 71 = .ok (.bipush 8, 2) := by decide +kernel
theorem dX5_inSheet_73 : decode cX5_inSheet 73 = .ok (.imul, 1) := by decide +kernel
theorem dX5_inSheet_74 : decode cX5_inSheet 74 = .ok (.iload_n 2, 1) := by decide +kernel
theorem dX5_inSheet_75 : decode cX5_inSheet 75 = .ok (.iadd, 1) := by decide +kernel
theorem dX5_inSheet_76 : decode cX5_inSheet 76 = .ok (.istore 6, 2) := by decide +kernel
theorem dX5_inSheet_78 : decode cX5_inSheet 78 = .ok (.iload_n 3, 1) := by decide +kernel
theorem dX5_inSheet_79 : decode cX5_inSheet 79 = .ok (.aload 4, 2) := by decide +kernel
theorem dX5_inSheet_81 : decode cX5_inSheet 81 = .ok (.getfield 171, 3) := by decide +kernel
theorem dX5_inSheet_84 : decode cX5_inSheet 84 = .ok (.iload 6, 2) := by decide +kernel
theorem dX5_inSheet_86 : decode cX5_inSheet 86 = .ok (.invokestatic 88, 3) := by decide +kernel
theorem dX5_inSheet_89 : decode cX5_inSheet 89 = .ok (.if_icmp .ge 17, 3) := by decide +kernel
theorem dX5_inSheet_92 : decode cX5_inSheet 92 = .ok (.aload 4, 2) := by decide +kernel
theorem dX5_inSheet_94 : decode cX5_inSheet 94 = .ok (.iload 6, 2) := by decide +kernel
theorem dX5_inSheet_96 : decode cX5_inSheet 96 = .ok (.invokevirtual 173, 3) := by decide +kernel
theorem dX5_inSheet_99 : decode cX5_inSheet 99 = .ok (.iload_n 3, 1) := by decide +kernel
theorem dX5_inSheet_100 : decode cX5_inSheet 100 = .ok (.invokestatic 155, 3) := by decide +kernel
theorem dX5_inSheet_103 : decode cX5_inSheet 103 = .ok (.goto 5, 3) := by decide +kernel
theorem dX5_inSheet_106 : decode cX5_inSheet 106 = .ok (.ldc 104, 2) := by decide +kernel
theorem dX5_inSheet_108 : decode cX5_inSheet 108 = .ok (.ireturn, 1) := by decide +kernel
theorem dX5_sheetOf_0 : decode cX5_sheetOf 0 = .ok (.iload_n 1, 1) := by decide +kernel
theorem dX5_sheetOf_1 : decode cX5_sheetOf 1 = .ok (.ifCond .lt 12, 3) := by decide +kernel
theorem dX5_sheetOf_4 : decode cX5_sheetOf 4 = .ok (.iload_n 2, 1) := by decide +kernel
theorem dX5_sheetOf_5 : decode cX5_sheetOf 5 = .ok (.iconst 0, 1) := by decide +kernel
theorem dX5_sheetOf_6 : decode cX5_sheetOf 6 = .ok (.iconst 3, 1) := by decide +kernel
theorem dX5_sheetOf_7 : decode cX5_sheetOf 7 = .ok (.invokestatic 79, 3) := by decide +kernel
theorem dX5_sheetOf_10 : decode cX5_sheetOf 10 = .ok (.ifCond .ne 6, 3) := by decide +kernel
theorem dX5_sheetOf_13 : decode cX5_sheetOf 13 = .ok (.ldc 83, 2) := by decide +kernel
theorem dX5_sheetOf_15 : decode cX5_sheetOf 15 = .ok (.ireturn, 1) := by decide +kernel
theorem dX5_sheetOf_16 : decode cX5_sheetOf 16 = .ok (.aload_n 0, 1) := by decide +kernel
theorem dX5_sheetOf_17 : decode cX5_sheetOf 17 = .ok (.getfield 10, 3) := by decide +kernel
theorem dX5_sheetOf_20 : decode cX5_sheetOf 20 = .ok (.getfield 159, 3) := by decide +kernel
theorem dX5_sheetOf_23 : decode cX5_sheetOf 23 = .ok (.iload_n 1, 1) := by decide +kernel
theorem dX5_sheetOf_24 : decode cX5_sheetOf 24 = .ok (.invokevirtual 177, 3) := by decide +kernel
theorem dX5_sheetOf_27 : decode cX5_sheetOf 27 = .ok (.istore_n 3, 1) := by decide +kernel
theorem dX5_sheetOf_28 : decode cX5_sheetOf 28 = .ok (.iload_n 3, 1) := by decide +kernel
theorem dX5_sheetOf_29 : decode cX5_sheetOf 29 = .ok (.ifCond .ge 6, 3) := by decide +kernel
theorem dX5_sheetOf_32 : decode cX5_sheetOf 32 = .ok (.ldc 104, 2) := by decide +kernel
theorem dX5_sheetOf_34 : decode cX5_sheetOf 34 = .ok (.ireturn, 1) := by decide +kernel
theorem dX5_sheetOf_35 : decode cX5_sheetOf 35 = .ok (.iload_n 2, 1) := by decide +kernel
theorem dX5_sheetOf_36 : decode cX5_sheetOf 36 = .ok (.tableswitch 79 0 2 #[28, 43, 58], 28) := by decide +kernel
theorem dX5_sheetOf_64 : decode cX5_sheetOf 64 = .ok (.aload_n 0, 1) := by decide +kernel
theorem dX5_sheetOf_65 : decode cX5_sheetOf 65 = .ok (.getfield 10, 3) := by decide +kernel
theorem dX5_sheetOf_68 : decode cX5_sheetOf 68 = .ok (.getfield 159, 3) := by decide +kernel
theorem dX5_sheetOf_71 : decode cX5_sheetOf 71 = .ok (.getfield 180, 3) := by decide +kernel
theorem dX5_sheetOf_74 : decode cX5_sheetOf 74 = .ok (.iload_n 3, 1) := by decide +kernel
theorem dX5_sheetOf_75 : decode cX5_sheetOf 75 = .ok (.invokestatic 88, 3) := by decide +kernel
theorem dX5_sheetOf_78 : decode cX5_sheetOf 78 = .ok (.ireturn, 1) := by decide +kernel
theorem dX5_sheetOf_79 : decode cX5_sheetOf 79 = .ok (.aload_n 0, 1) := by decide +kernel
theorem dX5_sheetOf_80 : decode cX5_sheetOf 80 = .ok (.getfield 10, 3) := by decide +kernel
theorem dX5_sheetOf_83 : decode cX5_sheetOf 83 = .ok (.getfield 159, 3) := by decide +kernel
theorem dX5_sheetOf_86 : decode cX5_sheetOf 86 = .ok (.getfield 168, 3) := by decide +kernel
theorem dX5_sheetOf_89 : decode cX5_sheetOf 89 = .ok (.iload_n 3, 1) := by decide +kernel
theorem dX5_sheetOf_90 : decode cX5_sheetOf 90 = .ok (.invokestatic 88, 3) := by decide +kernel
theorem dX5_sheetOf_93 : decode cX5_sheetOf 93 = .ok (.ireturn, 1) := by decide +kernel
theorem dX5_sheetOf_94 : decode cX5_sheetOf 94 = .ok (.aload_n 0, 1) := by decide +kernel
theorem dX5_sheetOf_95 : decode cX5_sheetOf 95 = .ok (.getfield 10, 3) := by decide +kernel
theorem dX5_sheetOf_98 : decode cX5_sheetOf 98 = .ok (.iload_n 3, 1) := by decide +kernel
theorem dX5_sheetOf_99 : decode cX5_sheetOf 99 = .ok (.aload_n 0, 1) := by decide +kernel
theorem dX5_sheetOf_100 : decode cX5_sheetOf 100 = .ok (.getfield 22, 3) := by decide +kernel
theorem dX5_sheetOf_103 : decode cX5_sheetOf 103 = .ok (.invokevirtual 183, 3) := by decide +kernel
theorem dX5_sheetOf_106 : decode cX5_sheetOf 106 = .ok (.ifCond .eq 7, 3) := by decide +kernel
theorem dX5_sheetOf_109 : decode cX5_sheetOf 109 = .ok (.iconst 1, 1) := by decide +kernel
theorem dX5_sheetOf_110 : decode cX5_sheetOf 110 = .ok (.goto 4, 3) := by decide +kernel
theorem dX5_sheetOf_113 : decode cX5_sheetOf 113 = .ok (.iconst 0, 1) := by decide +kernel
theorem dX5_sheetOf_114 : decode cX5_sheetOf 114 = .ok (.ireturn, 1) := by decide +kernel
theorem dX5_sheetOf_115 : decode cX5_sheetOf 115 = .ok (.aload_n 0, 1) := by decide +kernel
theorem dX5_sheetOf_116 : decode cX5_sheetOf 116 = .ok (.getfield 10, 3) := by decide +kernel
theorem dX5_sheetOf_119 : decode cX5_sheetOf 119 = .ok (.getfield 159, 3) := by decide +kernel
theorem dX5_sheetOf_122 : decode cX5_sheetOf 122 = .ok (.iload_n 3, 1) := by decide +kernel
theorem dX5_sheetOf_123 : decode cX5_sheetOf 123 = .ok (.invokevirtual 187, 3) := by decide +kernel
theorem dX5_sheetOf_126 : decode cX5_sheetOf 126 = .ok (.ireturn, 1) := by decide +kernel
theorem dX5_count_0 : decode cX5_count 0 = .ok (.iload_n 1, 1) := by decide +kernel
theorem dX5_count_1 : decode cX5_count 1 = .ok (.tableswitch 228 0 21 #[103, 111, 119, 127, 138, 143, 151, 162, 170, 228, 178, 178, 178, 228, 228, 228, 228, 228, 228, 228, 212, 220], 103) := by decide +kernel
theorem dX5_count_104 : decode cX5_count 104 = .ok (.aload_n 0, 1) := by decide +kernel
theorem dX5_count_105 : decode cX5_count 105 = .ok (.getfield 10, 3) := by decide +kernel
theorem dX5_count_108 : decode cX5_count 108 = .ok (.getfield 216, 3) := by decide +kernel
theorem dX5_count_111 : decode cX5_count 111 = .ok (.ireturn, 1) := by decide +kernel
theorem dX5_count_112 : decode cX5_count 112 = .ok (.aload_n 0, 1) := by decide +kernel
theorem dX5_count_113 : decode cX5_count 113 = .ok (.getfield 10, 3) := by decide +kernel
theorem dX5_count_116 : decode cX5_count 116 = .ok (.invokevirtual 205, 3) := by decide +kernel
theorem dX5_count_119 : decode cX5_count 119 = .ok (.ireturn, 1) := by decide +kernel
theorem dX5_count_120 : decode cX5_count 120 = .ok (.aload_n 0, 1) := by decide +kernel
theorem dX5_count_121 : decode cX5_count 121 = .ok (.getfield 10, 3) := by decide +kernel
theorem dX5_count_124 : decode cX5_count 124 = .ok (.getfield 218, 3) := by decide +kernel
theorem dX5_count_127 : decode cX5_count 127 = .ok (.ireturn, 1) := by decide +kernel
theorem dX5_count_128 : decode cX5_count 128 = .ok (.aload_n 0, 1) := by decide +kernel
theorem dX5_count_129 : decode cX5_count 129 = .ok (.getfield 10, 3) := by decide +kernel
theorem dX5_count_132 : decode cX5_count 132 = .ok (.getfield 159, 3) := by decide +kernel
theorem dX5_count_135 : decode cX5_count 135 = .ok (.invokevirtual 221, 3) := by decide +kernel
theorem dX5_count_138 : decode cX5_count 138 = .ok (.ireturn, 1) := by decide +kernel
theorem dX5_count_139 : decode cX5_count 139 = .ok (.aload_n 0, 1) := by decide +kernel
theorem dX5_count_140 : decode cX5_count 140 = .ok (.invokevirtual 224, 3) := by decide +kernel
theorem dX5_count_143 : decode cX5_count 143 = .ok (.ireturn, 1) := by decide +kernel
theorem dX5_count_144 : decode cX5_count 144 = .ok (.aload_n 0, 1) := by decide +kernel
theorem dX5_count_145 : decode cX5_count 145 = .ok (.getfield 10, 3) := by decide +kernel
theorem dX5_count_148 : decode cX5_count 148 = .ok (.invokevirtual 227, 3) := by decide +kernel
theorem dX5_count_151 : decode cX5_count 151 = .ok (.ireturn, 1) := by decide +kernel
theorem dX5_count_152 : decode cX5_count 152 = .ok (.aload_n 0, 1) := by decide +kernel
theorem dX5_count_153 : decode cX5_count 153 = .ok (.getfield 10, 3) := by decide +kernel
theorem dX5_count_156 : decode cX5_count 156 = .ok (.getfield 159, 3) := by decide +kernel
theorem dX5_count_159 : decode cX5_count 159 = .ok (.getfield 230, 3) := by decide +kernel
theorem dX5_count_162 : decode cX5_count 162 = .ok (.ireturn, 1) := by decide +kernel
theorem dX5_count_163 : decode cX5_count 163 = .ok (.aload_n 0, 1) := by decide +kernel
theorem dX5_count_164 : decode cX5_count 164 = .ok (.getfield 36, 3) := by decide +kernel
theorem dX5_count_167 : decode cX5_count 167 = .ok (.getfield 233, 3) := by decide +kernel
theorem dX5_count_170 : decode cX5_count 170 = .ok (.ireturn, 1) := by decide +kernel
theorem dX5_count_171 : decode cX5_count 171 = .ok (.aload_n 0, 1) := by decide +kernel
theorem dX5_count_172 : decode cX5_count 172 = .ok (.getfield 29, 3) := by decide +kernel
theorem dX5_count_175 : decode cX5_count 175 = .ok (.getfield 236, 3) := by decide +kernel
theorem dX5_count_178 : decode cX5_count 178 = .ok (.ireturn, 1) := by decide +kernel
theorem dX5_count_179 : decode cX5_count 179 = .ok (.iload_n 1, 1) := by decide +kernel
theorem dX5_count_180 : decode cX5_count 180 = .ok (.bipush 10, 2) := by decide +kernel
theorem dX5_count_182 : decode cX5_count 182 = .ok (.isub, 1) := by decide +kernel
theorem dX5_count_183 : decode cX5_count 183 = .ok (.aload_n 0, 1) := by decide +kernel
theorem dX5_count_184 : decode cX5_count 184 = .ok (.getfield 10, 3) := by decide +kernel
theorem dX5_count_187 : decode cX5_count 187 = .ok (.getfield 218, 3) := by decide +kernel
theorem dX5_count_190 : decode cX5_count 190 = .ok (.if_icmp .ge 20, 3) := by decide +kernel
theorem dX5_count_193 : decode cX5_count 193 = .ok (.aload_n 0, 1) := by decide +kernel
theorem dX5_count_194 : decode cX5_count 194 = .ok (.getfield 10, 3) := by decide +kernel
theorem dX5_count_197 : decode cX5_count 197 = .ok (.getfield 239, 3) := by decide +kernel
theorem dX5_count_200 : decode cX5_count 200 = .ok (.iload_n 1, 1) := by decide +kernel
theorem dX5_count_201 : decode cX5_count 201 = .ok (.bipush 10, 2) := by decide +kernel
theorem dX5_count_203 : decode cX5_count 203 = .ok (.isub, 1) := by decide +kernel
theorem dX5_count_204 : decode cX5_count 204 = .ok (.invokestatic 88, 3) := by decide +kernel
theorem dX5_count_207 : decode cX5_count 207 = .ok (.goto 5, 3) := by decide +kernel
theorem dX5_count_210 : decode cX5_count 210 = .ok (.ldc 104, 2) := by decide +kernel
theorem dX5_count_212 : decode cX5_count 212 = .ok (.ireturn, 1) := by decide +kernel
theorem dX5_count_213 : decode cX5_count 213 = .ok (.aload_n 0, 1) := by decide +kernel
theorem dX5_count_214 : decode cX5_count 214 = .ok (.getfield 10, 3) := by decide +kernel
theorem dX5_count_217 : decode cX5_count 217 = .ok (.getfield 242, 3) := by decide +kernel
theorem dX5_count_220 : decode cX5_count 220 = .ok (.ireturn, 1) := by decide +kernel
theorem dX5_count_221 : decode cX5_count 221 = .ok (.aload_n 0, 1) := by decide +kernel
theorem dX5_count_222 : decode cX5_count 222 = .ok (.getfield 10, 3) := by decide +kernel
theorem dX5_count_225 : decode cX5_count 225 = .ok (.getfield 245, 3) := by decide +kernel
theorem dX5_count_228 : decode cX5_count 228 = .ok (.ireturn, 1) := by decide +kernel
theorem dX5_count_229 : decode cX5_count 229 = .ok (.ldc 83, 2) := by decide +kernel
theorem dX5_count_231 : decode cX5_count 231 = .ok (.ireturn, 1) := by decide +kernel
theorem dX5_settled_0 : decode cX5_settled 0 = .ok (.iload_n 1, 1) := by decide +kernel
theorem dX5_settled_1 : decode cX5_settled 1 = .ok (.ifCond .lt 10, 3) := by decide +kernel
theorem dX5_settled_4 : decode cX5_settled 4 = .ok (.aload_n 0, 1) := by decide +kernel
theorem dX5_settled_5 : decode cX5_settled 5 = .ok (.getfield 36, 3) := by decide +kernel
theorem dX5_settled_8 : decode cX5_settled 8 = .ok (.invokevirtual 273, 3) := by decide +kernel
theorem dX5_settled_11 : decode cX5_settled 11 = .ok (.iload_n 1, 1) := by decide +kernel
theorem dX5_settled_12 : decode cX5_settled 12 = .ok (.ireturn, 1) := by decide +kernel
theorem dX5_staleSheets_0 : decode cX5_staleSheets 0 = .ok (.iconst 0, 1) := by decide +kernel
theorem dX5_staleSheets_1 : decode cX5_staleSheets 1 = .ok (.istore_n 1, 1) := by decide +kernel
theorem dX5_staleSheets_2 : decode cX5_staleSheets 2 = .ok (.iconst 0, 1) := by decide +kernel
theorem dX5_staleSheets_3 : decode cX5_staleSheets 3 = .ok (.istore_n 2, 1) := by decide +kernel
theorem dX5_staleSheets_4 : decode cX5_staleSheets 4 = .ok (.iload_n 2, 1) := by decide +kernel
theorem dX5_staleSheets_5 : decode cX5_staleSheets 5 = .ok (.iconst 4, 1) := by decide +kernel
theorem dX5_staleSheets_6 : decode cX5_staleSheets 6 = .ok (.if_icmp .ge 41, 3) := by decide +kernel
theorem dX5_staleSheets_9 : decode cX5_staleSheets 9 = .ok (.aload_n 0, 1) := by decide +kernel
theorem dX5_staleSheets_10 : decode cX5_staleSheets 10 = .ok (.getfield 10, 3) := by decide +kernel
theorem dX5_staleSheets_13 : decode cX5_staleSheets 13 = .ok (.getfield 159, 3) := by decide +kernel
theorem dX5_staleSheets_16 : decode cX5_staleSheets 16 = .ok (.iload_n 2, 1) := by decide +kernel
theorem dX5_staleSheets_17 : decode cX5_staleSheets 17 = .ok (.invokevirtual 276, 3) := by decide +kernel
theorem dX5_staleSheets_20 : decode cX5_staleSheets 20 = .ok (.ifCond .eq 21, 3) := by decide +kernel
theorem dX5_staleSheets_23 : decode cX5_staleSheets 23 = .ok (.aload_n 0, 1) := by decide +kernel
theorem dX5_staleSheets_24 : decode cX5_staleSheets 24 = .ok (.getfield 10, 3) := by decide +kernel
theorem dX5_staleSheets_27 : decode cX5_staleSheets 27 = .ok (.iload_n 2, 1) := by decide +kernel
theorem dX5_staleSheets_28 : decode cX5_staleSheets 28 = .ok (.aload_n 0, 1) := by decide +kernel
theorem dX5_staleSheets_29 : decode cX5_staleSheets 29 = .ok (.getfield 22, 3) := by decide +kernel
theorem dX5_staleSheets_32 : decode cX5_staleSheets 32 = .ok (.invokevirtual 183, 3) := by decide +kernel
theorem dX5_staleSheets_35 : decode cX5_staleSheets 35 = .ok (.ifCond .eq 6, 3) := by decide +kernel
theorem dX5_staleSheets_38 : decode cX5_staleSheets 38 = .ok (.iinc 1 1, 3) := by decide +kernel
theorem dX5_staleSheets_41 : decode cX5_staleSheets 41 = .ok (.iinc 2 1, 3) := by decide +kernel
theorem dX5_staleSheets_44 : decode cX5_staleSheets 44 = .ok (.goto (-40), 3) := by decide +kernel
theorem dX5_staleSheets_47 : decode cX5_staleSheets 47 = .ok (.iload_n 1, 1) := by decide +kernel
theorem dX5_staleSheets_48 : decode cX5_staleSheets 48 = .ok (.ireturn, 1) := by decide +kernel
theorem dX5_within_0 : decode cX5_within 0 = .ok (.iload_n 0, 1) := by decide +kernel
theorem dX5_within_1 : decode cX5_within 1 = .ok (.iload_n 1, 1) := by decide +kernel
theorem dX5_within_2 : decode cX5_within 2 = .ok (.if_icmp .lt 12, 3) := by decide +kernel
theorem dX5_within_5 : decode cX5_within 5 = .ok (.iload_n 0, 1) := by decide +kernel
theorem dX5_within_6 : decode cX5_within 6 = .ok (.iload_n 2, 1) := by decide +kernel
theorem dX5_within_7 : decode cX5_within 7 = .ok (.if_icmp .gt 7, 3) := by decide +kernel
theorem dX5_within_10 : decode cX5_within 10 = .ok (.iconst 1, 1) := by decide +kernel
theorem dX5_within_11 : decode cX5_within 11 = .ok (.goto 4, 3) := by decide +kernel
theorem dX5_within_14 : decode cX5_within 14 = .ok (.iconst 0, 1) := by decide +kernel
theorem dX5_within_15 : decode cX5_within 15 = .ok (.ireturn, 1) := by decide +kernel
theorem dX5_isSize_0 : decode cX5_isSize 0 = .ok (.iload_n 0, 1) := by decide +kernel
theorem dX5_isSize_1 : decode cX5_isSize 1 = .ok (.bipush 6, 2) := by decide +kernel
theorem dX5_isSize_3 : decode cX5_isSize 3 = .ok (.bipush 48, 2) := by decide +kernel
theorem dX5_isSize_5 : decode cX5_isSize 5 = .ok (.invokestatic 79, 3) := by decide +kernel
theorem dX5_isSize_8 : decode cX5_isSize 8 = .ok (.ireturn, 1) := by decide +kernel
theorem dX5_inPixels_0 : decode cX5_inPixels 0 = .ok (.iload_n 0, 1) := by decide +kernel
theorem dX5_inPixels_1 : decode cX5_inPixels 1 = .ok (.iload_n 1, 1) := by decide +kernel
theorem dX5_inPixels_2 : decode cX5_inPixels 2 = .ok (.imul, 1) := by decide +kernel
theorem dX5_inPixels_3 : decode cX5_inPixels 3 = .ok (.sipush 500, 3) := by decide +kernel
theorem dX5_inPixels_6 : decode cX5_inPixels 6 = .ok (.iadd, 1) := by decide +kernel
theorem dX5_inPixels_7 : decode cX5_inPixels 7 = .ok (.sipush 1000, 3) := by decide +kernel
theorem dX5_inPixels_10 : decode cX5_inPixels 10 = .ok (.invokestatic 279, 3) := by decide +kernel
theorem dX5_inPixels_13 : decode cX5_inPixels 13 = .ok (.ireturn, 1) := by decide +kernel
theorem dX5_cell_0 : decode cX5_cell 0 = .ok (.iload_n 1, 1) := by decide +kernel
theorem dX5_cell_1 : decode cX5_cell 1 = .ok (.ifCond .lt 15, 3) := by decide +kernel
theorem dX5_cell_4 : decode cX5_cell 4 = .ok (.iload_n 1, 1) := by decide +kernel
theorem dX5_cell_5 : decode cX5_cell 5 = .ok (.aload_n 0, 1) := by decide +kernel
theorem dX5_cell_6 : decode cX5_cell 6 = .ok (.arraylength, 1) := by decide +kernel
theorem dX5_cell_7 : decode cX5_cell 7 = .ok (.if_icmp .ge 9, 3) := by decide +kernel
theorem dX5_cell_10 : decode cX5_cell 10 = .ok (.aload_n 0, 1) := by decide +kernel
theorem dX5_cell_11 : decode cX5_cell 11 = .ok (.iload_n 1, 1) := by decide +kernel
theorem dX5_cell_12 : decode cX5_cell 12 = .ok (.iaload, 1) := by decide +kernel
theorem dX5_cell_13 : decode cX5_cell 13 = .ok (.goto 4, 3) := by decide +kernel
theorem dX5_cell_16 : decode cX5_cell 16 = .ok (.iconst 0, 1) := by decide +kernel
theorem dX5_cell_17 : decode cX5_cell 17 = .ok (.ireturn, 1) := by decide +kernel
theorem dX5_put_0 : decode cX5_put 0 = .ok (.iload_n 1, 1) := by decide +kernel
theorem dX5_put_1 : decode cX5_put 1 = .ok (.ifCond .lt 13, 3) := by decide +kernel
theorem dX5_put_4 : decode cX5_put 4 = .ok (.iload_n 1, 1) := by decide +kernel
theorem dX5_put_5 : decode cX5_put 5 = .ok (.aload_n 0, 1) := by decide +kernel
theorem dX5_put_6 : decode cX5_put 6 = .ok (.arraylength, 1) := by decide +kernel
theorem dX5_put_7 : decode cX5_put 7 = .ok (.if_icmp .ge 7, 3) := by decide +kernel
theorem dX5_put_10 : decode cX5_put 10 = .ok (.aload_n 0, 1) := by decide +kernel
theorem dX5_put_11 : decode cX5_put 11 = .ok (.iload_n 1, 1) := by decide +kernel
theorem dX5_put_12 : decode cX5_put 12 = .ok (.iload_n 2, 1) := by decide +kernel
theorem dX5_put_13 : decode cX5_put 13 = .ok (.iastore, 1) := by decide +kernel
theorem dX5_put_14 : decode cX5_put 14 = .ok (.return_, 1) := by decide +kernel
theorem dX5_copyRow_0 : decode cX5_copyRow 0 = .ok (.iconst 0, 1) := by decide +kernel
theorem dX5_copyRow_1 : decode cX5_copyRow 1 = .ok (.istore_n 2, 1) := by decide +kernel
theorem dX5_copyRow_2 : decode cX5_copyRow 2 = .ok (.iload_n 2, 1) := by decide +kernel
theorem dX5_copyRow_3 : decode cX5_copyRow 3 = .ok (.aload_n 1, 1) := by decide +kernel
theorem dX5_copyRow_4 : decode cX5_copyRow 4 = .ok (.arraylength, 1) := by decide +kernel
theorem dX5_copyRow_5 : decode cX5_copyRow 5 = .ok (.if_icmp .ge 21, 3) := by decide +kernel
theorem dX5_copyRow_8 : decode cX5_copyRow 8 = .ok (.iload_n 2, 1) := by decide +kernel
theorem dX5_copyRow_9 : decode cX5_copyRow 9 = .ok (.aload_n 0, 1) := by decide +kernel
theorem dX5_copyRow_10 : decode cX5_copyRow 10 = .ok (.arraylength, 1) := by decide +kernel
theorem dX5_copyRow_11 : decode cX5_copyRow 11 = .ok (.if_icmp .ge 15, 3) := by decide +kernel
theorem dX5_copyRow_14 : decode cX5_copyRow 14 = .ok (.aload_n 1, 1) := by decide +kernel
theorem dX5_copyRow_15 : decode cX5_copyRow 15 = .ok (.iload_n 2, 1) := by decide +kernel
theorem dX5_copyRow_16 : decode cX5_copyRow 16 = .ok (.aload_n 0, 1) := by decide +kernel
theorem dX5_copyRow_17 : decode cX5_copyRow 17 = .ok (.iload_n 2, 1) := by decide +kernel
theorem dX5_copyRow_18 : decode cX5_copyRow 18 = .ok (.iaload, 1) := by decide +kernel
theorem dX5_copyRow_19 : decode cX5_copyRow 19 = .ok (.iastore, 1) := by decide +kernel
theorem dX5_copyRow_20 : decode cX5_copyRow 20 = .ok (.iinc 2 1, 3) := by decide +kernel
theorem dX5_copyRow_23 : decode cX5_copyRow 23 = .ok (.goto (-21), 3) := by decide +kernel
theorem dX5_copyRow_26 : decode cX5_copyRow 26 = .ok (.return_, 1) := by decide +kernel
theorem dX5_bitOf_0 : decode cX5_bitOf 0 = .ok (.lload_n 0, 1) := by decide +kernel
theorem dX5_bitOf_1 : decode cX5_bitOf 1 = .ok (.iload_n 2, 1) := by decide +kernel
theorem dX5_bitOf_2 : decode cX5_bitOf 2 = .ok (.lushr, 1) := by decide +kernel
theorem dX5_bitOf_3 : decode cX5_bitOf 3 = .ok (.lconst 1, 1) := by decide +kernel
theorem dX5_bitOf_4 : decode cX5_bitOf 4 = .ok (.land, 1) := by decide +kernel
theorem dX5_bitOf_5 : decode cX5_bitOf 5 = .ok (.l2i, 1) := by decide +kernel
theorem dX5_bitOf_6 : decode cX5_bitOf 6 = .ok (.ireturn, 1) := by decide +kernel
theorem dJ13_bitCount_95d88_0 : decode cJ13_bitCount_95d88 0 = .ok (.lload_n 0, 1) := by decide +kernel
theorem dJ13_bitCount_95d88_1 : decode cJ13_bitCount_95d88 1 = .ok (.lload_n 0, 1) := by decide +kernel
theorem dJ13_bitCount_95d88_2 : decode cJ13_bitCount_95d88 2 = .ok (.iconst 1, 1) := by decide +kernel
theorem dJ13_bitCount_95d88_3 : decode cJ13_bitCount_95d88 3 = .ok (.lushr, 1) := by decide +kernel
theorem dJ13_bitCount_95d88_4 : decode cJ13_bitCount_95d88 4 = .ok (.ldc2_w 314, 3) := by decide +kernel
theorem dJ13_bitCount_95d88_7 : decode cJ13_bitCount_95d88 7 = .ok (.land, 1) := by decide +kernel
theorem dJ13_bitCount_95d88_8 : decode cJ13_bitCount_95d88 8 = .ok (.lsub, 1) := by decide +kernel
theorem dJ13_bitCount_95d88_9 : decode cJ13_bitCount_95d88 9 = .ok (.lstore_n 0, 1) := by decide +kernel
theorem dJ13_bitCount_95d88_10 : decode cJ13_bitCount_95d88 10 = .ok (.lload_n 0, 1) := by decide +kernel
theorem dJ13_bitCount_95d88_11 : decode cJ13_bitCount_95d88 11 = .ok (.ldc2_w 316, 3) := by decide +kernel
theorem dJ13_bitCount_95d88_14 : decode cJ13_bitCount_95d88 14 = .ok (.land, 1) := by decide +kernel
theorem dJ13_bitCount_95d88_15 : decode cJ13_bitCount_95d88 15 = .ok (.lload_n 0, 1) := by decide +kernel
theorem dJ13_bitCount_95d88_16 : decode cJ13_bitCount_95d88 16 = .ok (.iconst 2, 1) := by decide +kernel
theorem dJ13_bitCount_95d88_17 : decode cJ13_bitCount_95d88 17 = .ok (.lushr, 1) := by decide +kernel
theorem dJ13_bitCount_95d88_18 : decode cJ13_bitCount_95d88 18 = .ok (.ldc2_w 316, 3) := by decide +kernel
theorem dJ13_bitCount_95d88_21 : decode cJ13_bitCount_95d88 21 = .ok (.land, 1) := by decide +kernel
theorem dJ13_bitCount_95d88_22 : decode cJ13_bitCount_95d88 22 = .ok (.ladd, 1) := by decide +kernel
theorem dJ13_bitCount_95d88_23 : decode cJ13_bitCount_95d88 23 = .ok (.lstore_n 0, 1) := by decide +kernel
theorem dJ13_bitCount_95d88_24 : decode cJ13_bitCount_95d88 24 = .ok (.lload_n 0, 1) := by decide +kernel
theorem dJ13_bitCount_95d88_25 : decode cJ13_bitCount_95d88 25 = .ok (.lload_n 0, 1) := by decide +kernel
theorem dJ13_bitCount_95d88_26 : decode cJ13_bitCount_95d88 26 = .ok (.iconst 4, 1) := by decide +kernel
theorem dJ13_bitCount_95d88_27 : decode cJ13_bitCount_95d88 27 = .ok (.lushr, 1) := by decide +kernel
theorem dJ13_bitCount_95d88_28 : decode cJ13_bitCount_95d88 28 = .ok (.ladd, 1) := by decide +kernel
theorem dJ13_bitCount_95d88_29 : decode cJ13_bitCount_95d88 29 = .ok (.ldc2_w 318, 3) := by decide +kernel
theorem dJ13_bitCount_95d88_32 : decode cJ13_bitCount_95d88 32 = .ok (.land, 1) := by decide +kernel
theorem dJ13_bitCount_95d88_33 : decode cJ13_bitCount_95d88 33 = .ok (.lstore_n 0, 1) := by decide +kernel
theorem dJ13_bitCount_95d88_34 : decode cJ13_bitCount_95d88 34 = .ok (.lload_n 0, 1) := by decide +kernel
theorem dJ13_bitCount_95d88_35 : decode cJ13_bitCount_95d88 35 = .ok (.lload_n 0, 1) := by decide +kernel
theorem dJ13_bitCount_95d88_36 : decode cJ13_bitCount_95d88 36 = .ok (.bipush 8, 2) := by decide +kernel
theorem dJ13_bitCount_95d88_38 : decode cJ13_bitCount_95d88 38 = .ok (.lushr, 1) := by decide +kernel
theorem dJ13_bitCount_95d88_39 : decode cJ13_bitCount_95d88 39 = .ok (.ladd, 1) := by decide +kernel
theorem dJ13_bitCount_95d88_40 : decode cJ13_bitCount_95d88 40 = .ok (.lstore_n 0, 1) := by decide +kernel
theorem dJ13_bitCount_95d88_41 : decode cJ13_bitCount_95d88 41 = .ok (.lload_n 0, 1) := by decide +kernel
theorem dJ13_bitCount_95d88_42 : decode cJ13_bitCount_95d88 42 = .ok (.lload_n 0, 1) := by decide +kernel
theorem dJ13_bitCount_95d88_43 : decode cJ13_bitCount_95d88 43 = .ok (.bipush 16, 2) := by decide +kernel
theorem dJ13_bitCount_95d88_45 : decode cJ13_bitCount_95d88 45 = .ok (.lushr, 1) := by decide +kernel
theorem dJ13_bitCount_95d88_46 : decode cJ13_bitCount_95d88 46 = .ok (.ladd, 1) := by decide +kernel
theorem dJ13_bitCount_95d88_47 : decode cJ13_bitCount_95d88 47 = .ok (.lstore_n 0, 1) := by decide +kernel
theorem dJ13_bitCount_95d88_48 : decode cJ13_bitCount_95d88 48 = .ok (.lload_n 0, 1) := by decide +kernel
theorem dJ13_bitCount_95d88_49 : decode cJ13_bitCount_95d88 49 = .ok (.lload_n 0, 1) := by decide +kernel
theorem dJ13_bitCount_95d88_50 : decode cJ13_bitCount_95d88 50 = .ok (.bipush 32, 2) := by decide +kernel
theorem dJ13_bitCount_95d88_52 : decode cJ13_bitCount_95d88 52 = .ok (.lushr, 1) := by decide +kernel
theorem dJ13_bitCount_95d88_53 : decode cJ13_bitCount_95d88 53 = .ok (.ladd, 1) := by decide +kernel
theorem dJ13_bitCount_95d88_54 : decode cJ13_bitCount_95d88 54 = .ok (.lstore_n 0, 1) := by decide +kernel
theorem dJ13_bitCount_95d88_55 : decode cJ13_bitCount_95d88 55 = .ok (.lload_n 0, 1) := by decide +kernel
theorem dJ13_bitCount_95d88_56 : decode cJ13_bitCount_95d88 56 = .ok (.l2i, 1) := by decide +kernel
theorem dJ13_bitCount_95d88_57 : decode cJ13_bitCount_95d88 57 = .ok (.bipush 127, 2) := by decide +kernel
theorem dJ13_bitCount_95d88_59 : decode cJ13_bitCount_95d88 59 = .ok (.iand, 1) := by decide +kernel
theorem dJ13_bitCount_95d88_60 : decode cJ13_bitCount_95d88 60 = .ok (.ireturn, 1) := by decide +kernel
theorem dJ9_floorDiv_7cf53_0 : decode cJ9_floorDiv_7cf53 0 = .ok (.iload_n 0, 1) := by decide +kernel
theorem dJ9_floorDiv_7cf53_1 : decode cJ9_floorDiv_7cf53 1 = .ok (.iload_n 1, 1) := by decide +kernel
theorem dJ9_floorDiv_7cf53_2 : decode cJ9_floorDiv_7cf53 2 = .ok (.idiv, 1) := by decide +kernel
theorem dJ9_floorDiv_7cf53_3 : decode cJ9_floorDiv_7cf53 3 = .ok (.istore_n 2, 1) := by decide +kernel
theorem dJ9_floorDiv_7cf53_4 : decode cJ9_floorDiv_7cf53 4 = .ok (.iload_n 0, 1) := by decide +kernel
theorem dJ9_floorDiv_7cf53_5 : decode cJ9_floorDiv_7cf53 5 = .ok (.iload_n 1, 1) := by decide +kernel
theorem dJ9_floorDiv_7cf53_6 : decode cJ9_floorDiv_7cf53 6 = .ok (.ixor, 1) := by decide +kernel
theorem dJ9_floorDiv_7cf53_7 : decode cJ9_floorDiv_7cf53 7 = .ok (.ifCond .ge 14, 3) := by decide +kernel
theorem dJ9_floorDiv_7cf53_10 : decode cJ9_floorDiv_7cf53 10 = .ok (.iload_n 2, 1) := by decide +kernel
theorem dJ9_floorDiv_7cf53_11 : decode cJ9_floorDiv_7cf53 11 = .ok (.iload_n 1, 1) := by decide +kernel
theorem dJ9_floorDiv_7cf53_12 : decode cJ9_floorDiv_7cf53 12 = .ok (.imul, 1) := by decide +kernel
theorem dJ9_floorDiv_7cf53_13 : decode cJ9_floorDiv_7cf53 13 = .ok (.iload_n 0, 1) := by decide +kernel
theorem dJ9_floorDiv_7cf53_14 : decode cJ9_floorDiv_7cf53 14 = .ok (.if_icmp .eq 7, 3) := by decide +kernel
theorem dJ9_floorDiv_7cf53_17 : decode cJ9_floorDiv_7cf53 17 = .ok (.iload_n 2, 1) := by decide +kernel
theorem dJ9_floorDiv_7cf53_18 : decode cJ9_floorDiv_7cf53 18 = .ok (.iconst 1, 1) := by decide +kernel
theorem dJ9_floorDiv_7cf53_19 : decode cJ9_floorDiv_7cf53 19 = .ok (.isub, 1) := by decide +kernel
theorem dJ9_floorDiv_7cf53_20 : decode cJ9_floorDiv_7cf53 20 = .ok (.ireturn, 1) := by decide +kernel
theorem dJ9_floorDiv_7cf53_21 : decode cJ9_floorDiv_7cf53 21 = .ok (.iload_n 2, 1) := by decide +kernel
theorem dJ9_floorDiv_7cf53_22 : decode cJ9_floorDiv_7cf53 22 = .ok (.ireturn, 1) := by decide +kernel
theorem dJ9_floorMod_7cf53_0 : decode cJ9_floorMod_7cf53 0 = .ok (.iload_n 0, 1) := by decide +kernel
theorem dJ9_floorMod_7cf53_1 : decode cJ9_floorMod_7cf53 1 = .ok (.iload_n 1, 1) := by decide +kernel
theorem dJ9_floorMod_7cf53_2 : decode cJ9_floorMod_7cf53 2 = .ok (.irem, 1) := by decide +kernel
theorem dJ9_floorMod_7cf53_3 : decode cJ9_floorMod_7cf53 3 = .ok (.istore_n 2, 1) := by decide +kernel
theorem dJ9_floorMod_7cf53_4 : decode cJ9_floorMod_7cf53 4 = .ok (.iload_n 0, 1) := by decide +kernel
theorem dJ9_floorMod_7cf53_5 : decode cJ9_floorMod_7cf53 5 = .ok (.iload_n 1, 1) := by decide +kernel
theorem dJ9_floorMod_7cf53_6 : decode cJ9_floorMod_7cf53 6 = .ok (.ixor, 1) := by decide +kernel
theorem dJ9_floorMod_7cf53_7 : decode cJ9_floorMod_7cf53 7 = .ok (.ifCond .ge 11, 3) := by decide +kernel
theorem dJ9_floorMod_7cf53_10 : decode cJ9_floorMod_7cf53 10 = .ok (.iload_n 2, 1) := by decide +kernel
theorem dJ9_floorMod_7cf53_11 : decode cJ9_floorMod_7cf53 11 = .ok (.ifCond .eq 7, 3) := by decide +kernel
theorem dJ9_floorMod_7cf53_14 : decode cJ9_floorMod_7cf53 14 = .ok (.iload_n 2, 1) := by decide +kernel
theorem dJ9_floorMod_7cf53_15 : decode cJ9_floorMod_7cf53 15 = .ok (.iload_n 1, 1) := by decide +kernel
theorem dJ9_floorMod_7cf53_16 : decode cJ9_floorMod_7cf53 16 = .ok (.iadd, 1) := by decide +kernel
theorem dJ9_floorMod_7cf53_17 : decode cJ9_floorMod_7cf53 17 = .ok (.ireturn, 1) := by decide +kernel
theorem dJ9_floorMod_7cf53_18 : decode cJ9_floorMod_7cf53 18 = .ok (.iload_n 2, 1) := by decide +kernel
theorem dJ9_floorMod_7cf53_19 : decode cJ9_floorMod_7cf53 19 = .ok (.ireturn, 1) := by decide +kernel
theorem dJ9_abs_0f7a4_0 : decode cJ9_abs_0f7a4 0 = .ok (.iload_n 0, 1) := by decide +kernel
theorem dJ9_abs_0f7a4_1 : decode cJ9_abs_0f7a4 1 = .ok (.ifCond .ge 8, 3) := by decide +kernel
theorem dJ9_abs_0f7a4_4 : decode cJ9_abs_0f7a4 4 = .ok (.iload_n 0, 1) := by decide +kernel
theorem dJ9_abs_0f7a4_5 : decode cJ9_abs_0f7a4 5 = .ok (.ineg, 1) := by decide +kernel
theorem dJ9_abs_0f7a4_6 : decode cJ9_abs_0f7a4 6 = .ok (.goto 4, 3) := by decide +kernel
theorem dJ9_abs_0f7a4_9 : decode cJ9_abs_0f7a4 9 = .ok (.iload_n 0, 1) := by decide +kernel
theorem dJ9_abs_0f7a4_10 : decode cJ9_abs_0f7a4 10 = .ok (.ireturn, 1) := by decide +kernel
theorem dJ9_max_7cf53_0 : decode cJ9_max_7cf53 0 = .ok (.iload_n 0, 1) := by decide +kernel
theorem dJ9_max_7cf53_1 : decode cJ9_max_7cf53 1 = .ok (.iload_n 1, 1) := by decide +kernel
theorem dJ9_max_7cf53_2 : decode cJ9_max_7cf53 2 = .ok (.if_icmp .lt 7, 3) := by decide +kernel
theorem dJ9_max_7cf53_5 : decode cJ9_max_7cf53 5 = .ok (.iload_n 0, 1) := by decide +kernel
theorem dJ9_max_7cf53_6 : decode cJ9_max_7cf53 6 = .ok (.goto 4, 3) := by decide +kernel
theorem dJ9_max_7cf53_9 : decode cJ9_max_7cf53 9 = .ok (.iload_n 1, 1) := by decide +kernel
theorem dJ9_max_7cf53_10 : decode cJ9_max_7cf53 10 = .ok (.ireturn, 1) := by decide +kernel
theorem dJ9_min_7cf53_0 : decode cJ9_min_7cf53 0 = .ok (.iload_n 0, 1) := by decide +kernel
theorem dJ9_min_7cf53_1 : decode cJ9_min_7cf53 1 = .ok (.iload_n 1, 1) := by decide +kernel
theorem dJ9_min_7cf53_2 : decode cJ9_min_7cf53 2 = .ok (.if_icmp .gt 7, 3) := by decide +kernel
theorem dJ9_min_7cf53_5 : decode cJ9_min_7cf53 5 = .ok (.iload_n 0, 1) := by decide +kernel
theorem dJ9_min_7cf53_6 : decode cJ9_min_7cf53 6 = .ok (.goto 4, 3) := by decide +kernel
theorem dJ9_min_7cf53_9 : decode cJ9_min_7cf53 9 = .ok (.iload_n 1, 1) := by decide +kernel
theorem dJ9_min_7cf53_10 : decode cJ9_min_7cf53 10 = .ok (.ireturn, 1) := by decide +kernel
theorem dL_cell_0 : decode cL_cell 0 = .ok (.iload_n 1, 1) := by decide +kernel
theorem dL_cell_1 : decode cL_cell 1 = .ok (.aload_n 0, 1) := by decide +kernel
theorem dL_cell_2 : decode cL_cell 2 = .ok (.arraylength, 1) := by decide +kernel
theorem dL_cell_3 : decode cL_cell 3 = .ok (.if_icmp .ge 9, 3) := by decide +kernel
theorem dL_cell_6 : decode cL_cell 6 = .ok (.aload_n 0, 1) := by decide +kernel
theorem dL_cell_7 : decode cL_cell 7 = .ok (.iload_n 1, 1) := by decide +kernel
theorem dL_cell_8 : decode cL_cell 8 = .ok (.iaload, 1) := by decide +kernel
theorem dL_cell_9 : decode cL_cell 9 = .ok (.goto 9, 3) := by decide +kernel
theorem dL_cell_12 : decode cL_cell 12 = .ok (.ldc 7, 2) := by decide +kernel
theorem dL_cell_14 : decode cL_cell 14 = .ok (.iload_n 1, 1) := by decide +kernel
theorem dL_cell_15 : decode cL_cell 15 = .ok (.iconst 3, 1) := by decide +kernel
theorem dL_cell_16 : decode cL_cell 16 = .ok (.iadd, 1) := by decide +kernel
theorem dL_cell_17 : decode cL_cell 17 = .ok (.imul, 1) := by decide +kernel
theorem dL_cell_18 : decode cL_cell 18 = .ok (.ireturn, 1) := by decide +kernel
theorem dL_low_0 : decode cL_low 0 = .ok (.iload_n 0, 1) := by decide +kernel
theorem dL_low_1 : decode cL_low 1 = .ok (.ldc 8, 2) := by decide +kernel
theorem dL_low_3 : decode cL_low 3 = .ok (.iand, 1) := by decide +kernel
theorem dL_low_4 : decode cL_low 4 = .ok (.iload_n 1, 1) := by decide +kernel
theorem dL_low_5 : decode cL_low 5 = .ok (.irem, 1) := by decide +kernel
theorem dL_low_6 : decode cL_low 6 = .ok (.ireturn, 1) := by decide +kernel
theorem dL_inPixels_0 : decode cL_inPixels 0 = .ok (.iload_n 0, 1) := by decide +kernel
theorem dL_inPixels_1 : decode cL_inPixels 1 = .ok (.iload_n 1, 1) := by decide +kernel
theorem dL_inPixels_2 : decode cL_inPixels 2 = .ok (.imul, 1) := by decide +kernel
theorem dL_inPixels_3 : decode cL_inPixels 3 = .ok (.sipush 500, 3) := by decide +kernel
theorem dL_inPixels_6 : decode cL_inPixels 6 = .ok (.iadd, 1) := by decide +kernel
theorem dL_inPixels_7 : decode cL_inPixels 7 = .ok (.sipush 1000, 3) := by decide +kernel
theorem dL_inPixels_10 : decode cL_inPixels 10 = .ok (.idiv, 1) := by decide +kernel
theorem dL_inPixels_11 : decode cL_inPixels 11 = .ok (.ireturn, 1) := by decide +kernel
theorem dL_gap_0 : decode cL_gap 0 = .ok (.iload_n 0, 1) := by decide +kernel
theorem dL_gap_1 : decode cL_gap 1 = .ok (.iload_n 1, 1) := by decide +kernel
theorem dL_gap_2 : decode cL_gap 2 = .ok (.if_icmp .le 9, 3) := by decide +kernel
theorem dL_gap_5 : decode cL_gap 5 = .ok (.iload_n 0, 1) := by decide +kernel
theorem dL_gap_6 : decode cL_gap 6 = .ok (.iload_n 1, 1) := by decide +kernel
theorem dL_gap_7 : decode cL_gap 7 = .ok (.isub, 1) := by decide +kernel
theorem dL_gap_8 : decode cL_gap 8 = .ok (.goto 6, 3) := by decide +kernel
theorem dL_gap_11 : decode cL_gap 11 = .ok (.iload_n 1, 1) := by decide +kernel
theorem dL_gap_12 : decode cL_gap 12 = .ok (.iload_n 0, 1) := by decide +kernel
theorem dL_gap_13 : decode cL_gap 13 = .ok (.isub, 1) := by decide +kernel
theorem dL_gap_14 : decode cL_gap 14 = .ok (.ireturn, 1) := by decide +kernel
theorem dL_snap_0 : decode cL_snap 0 = .ok (.iconst 0, 1) := by decide +kernel
theorem dL_snap_1 : decode cL_snap 1 = .ok (.istore_n 3, 1) := by decide +kernel
theorem dL_snap_2 : decode cL_snap 2 = .ok (.iconst 0, 1) := by decide +kernel
theorem dL_snap_3 : decode cL_snap 3 = .ok (.istore 4, 2) := by decide +kernel
theorem dL_snap_5 : decode cL_snap 5 = .ok (.iload 4, 2) := by decide +kernel
theorem dL_snap_7 : decode cL_snap 7 = .ok (.iconst 3, 1) := by decide +kernel
theorem dL_snap_8 : decode cL_snap 8 = .ok (.if_icmp .ge 87, 3) := by decide +kernel
theorem dL_snap_11 : decode cL_snap 11 = .ok (.aload_n 1, 1) := by decide +kernel
theorem dL_snap_12 : decode cL_snap 12 = .ok (.iload 4, 2) := by decide +kernel
theorem dL_snap_14 : decode cL_snap 14 = .ok (.iaload, 1) := by decide +kernel
theorem dL_snap_15 : decode cL_snap 15 = .ok (.iload_n 2, 1) := by decide +kernel
theorem dL_snap_16 : decode cL_snap 16 = .ok (.invokestatic 9, 3) := by decide +kernel
theorem dL_snap_19 : decode cL_snap 19 = .ok (.istore 5, 2) := by decide +kernel
theorem dL_snap_21 : decode cL_snap 21 = .ok (.iload_n 3, 1) := by decide +kernel
theorem dL_snap_22 : decode cL_snap 22 = .ok (.ifCond .eq 31, 3) := by decide +kernel
theorem dL_snap_25 : decode cL_snap 25 = .ok (.iload 5, 2) := by decide +kernel
theorem dL_snap_27 : decode cL_snap 27 = .ok (.iload_n 3, 1) := by decide +kernel
theorem dL_snap_28 : decode cL_snap 28 = .ok (.iload_n 2, 1) := by decide +kernel
theorem dL_snap_29 : decode cL_snap 29 = .ok (.invokestatic 9, 3) := by decide +kernel
theorem dL_snap_32 : decode cL_snap 32 = .ok (.if_icmp .lt 21, 3) := by decide +kernel
theorem dL_snap_35 : decode cL_snap 35 = .ok (.iload 5, 2) := by decide +kernel
theorem dL_snap_37 : decode cL_snap 37 = .ok (.iload_n 3, 1) := by decide +kernel
theorem dL_snap_38 : decode cL_snap 38 = .ok (.iload_n 2, 1) := by decide +kernel
theorem dL_snap_39 : decode cL_snap 39 = .ok (.invokestatic 9, 3) := by decide +kernel
theorem dL_snap_42 : decode cL_snap 42 = .ok (.if_icmp .ne 15, 3) := by decide +kernel
theorem dL_snap_45 : decode cL_snap 45 = .ok (.aload_n 1, 1) := by decide +kernel
theorem dL_snap_46 : decode cL_snap 46 = .ok (.iload 4, 2) := by decide +kernel
theorem dL_snap_48 : decode cL_snap 48 = .ok (.iaload, 1) := by decide +kernel
theorem dL_snap_49 : decode cL_snap 49 = .ok (.iload_n 3, 1) := by decide +kernel
theorem dL_snap_50 : decode cL_snap 50 = .ok (.if_icmp .ge 7, 3) := by decide +kernel
theorem dL_snap_53 : decode cL_snap 53 = .ok (.iconst 1, 1) := by decide +kernel
theorem dL_snap_54 : decode cL_snap 54 = .ok (.goto 4, 3) := by decide +kernel
theorem dL_snap_57 : decode cL_snap 57 = .ok (.iconst 0, 1) := by decide +kernel
theorem dL_snap_58 : decode cL_snap 58 = .ok (.istore 6, 2) := by decide +kernel
theorem dL_snap_60 : decode cL_snap 60 = .ok (.aload_n 1, 1) := by decide +kernel
theorem dL_snap_61 : decode cL_snap 61 = .ok (.iload 4, 2) := by decide +kernel
theorem dL_snap_63 : decode cL_snap 63 = .ok (.iaload, 1) := by decide +kernel
theorem dL_snap_64 : decode cL_snap 64 = .ok (.ifCond .le 23, 3) := by decide +kernel
theorem dL_snap_67 : decode cL_snap 67 = .ok (.iload 5, 2) := by decide +kernel
theorem dL_snap_69 : decode cL_snap 69 = .ok (.aload_n 0, 1) := by decide +kernel
theorem dL_snap_70 : decode cL_snap 70 = .ok (.iconst 1, 1) := by decide +kernel
theorem dL_snap_71 : decode cL_snap 71 = .ok (.iaload, 1) := by decide +kernel
theorem dL_snap_72 : decode cL_snap 72 = .ok (.if_icmp .gt 15, 3) := by decide +kernel
theorem dL_snap_75 : decode cL_snap 75 = .ok (.iload 6, 2) := by decide +kernel
theorem dL_snap_77 : decode cL_snap 77 = .ok (.ifCond .eq 10, 3) := by decide +kernel
theorem dL_snap_80 : decode cL_snap 80 = .ok (.aload_n 1, 1) := by decide +kernel
theorem dL_snap_81 : decode cL_snap 81 = .ok (.iload 4, 2) := by decide +kernel
theorem dL_snap_83 : decode cL_snap 83 = .ok (.iaload, 1) := by decide +kernel
theorem dL_snap_84 : decode cL_snap 84 = .ok (.goto 4, 3) := by decide +kernel
theorem dL_snap_87 : decode cL_snap 87 = .ok (.iload_n 3, 1) := by decide +kernel
theorem dL_snap_88 : decode cL_snap 88 = .ok (.istore_n 3, 1) := by decide +kernel
theorem dL_snap_89 : decode cL_snap 89 = .ok (.iinc 4 1, 3) := by decide +kernel
theorem dL_snap_92 : decode cL_snap 92 = .ok (.goto (-87), 3) := by decide +kernel
theorem dL_snap_95 : decode cL_snap 95 = .ok (.iload_n 3, 1) := by decide +kernel
theorem dL_snap_96 : decode cL_snap 96 = .ok (.ireturn, 1) := by decide +kernel
theorem dL_hinted_0 : decode cL_hinted 0 = .ok (.aload_n 0, 1) := by decide +kernel
theorem dL_hinted_1 : decode cL_hinted 1 = .ok (.aload_n 2, 1) := by decide +kernel
theorem dL_hinted_2 : decode cL_hinted 2 = .ok (.aload_n 1, 1) := by decide +kernel
theorem dL_hinted_3 : decode cL_hinted 3 = .ok (.iload_n 3, 1) := by decide +kernel
theorem dL_hinted_4 : decode cL_hinted 4 = .ok (.iaload, 1) := by decide +kernel
theorem dL_hinted_5 : decode cL_hinted 5 = .ok (.invokestatic 15, 3) := by decide +kernel
theorem dL_hinted_8 : decode cL_hinted 8 = .ok (.istore 4, 2) := by decide +kernel
theorem dL_hinted_10 : decode cL_hinted 10 = .ok (.iload 4, 2) := by decide +kernel
theorem dL_hinted_12 : decode cL_hinted 12 = .ok (.ifCond .ne 9, 3) := by decide +kernel
theorem dL_hinted_15 : decode cL_hinted 15 = .ok (.aload_n 1, 1) := by decide +kernel
theorem dL_hinted_16 : decode cL_hinted 16 = .ok (.iload_n 3, 1) := by decide +kernel
theorem dL_hinted_17 : decode cL_hinted 17 = .ok (.iaload, 1) := by decide +kernel
theorem dL_hinted_18 : decode cL_hinted 18 = .ok (.goto 5, 3) := by decide +kernel
theorem dL_hinted_21 : decode cL_hinted 21 = .ok (.iload 4, 2) := by decide +kernel
theorem dL_hinted_23 : decode cL_hinted 23 = .ok (.ireturn, 1) := by decide +kernel
theorem dL_wide_0 : decode cL_wide 0 = .ok (.aload_n 0, 1) := by decide +kernel
theorem dL_wide_1 : decode cL_wide 1 = .ok (.aload_n 1, 1) := by decide +kernel
theorem dL_wide_2 : decode cL_wide 2 = .ok (.aload_n 2, 1) := by decide +kernel
theorem dL_wide_3 : decode cL_wide 3 = .ok (.iload_n 3, 1) := by decide +kernel
theorem dL_wide_4 : decode cL_wide 4 = .ok (.invokestatic 19, 3) := by decide +kernel
theorem dL_wide_7 : decode cL_wide 7 = .ok (.iload 4, 2) := by decide +kernel
theorem dL_wide_9 : decode cL_wide 9 = .ok (.invokestatic 23, 3) := by decide +kernel
theorem dL_wide_12 : decode cL_wide 12 = .ok (.istore 5, 2) := by decide +kernel
theorem dL_wide_14 : decode cL_wide 14 = .ok (.iload 5, 2) := by decide +kernel
theorem dL_wide_16 : decode cL_wide 16 = .ok (.ifCond .ne 7, 3) := by decide +kernel
theorem dL_wide_19 : decode cL_wide 19 = .ok (.iconst 1, 1) := by decide +kernel
theorem dL_wide_20 : decode cL_wide 20 = .ok (.goto 5, 3) := by decide +kernel
theorem dL_wide_23 : decode cL_wide 23 = .ok (.iload 5, 2) := by decide +kernel
theorem dL_wide_25 : decode cL_wide 25 = .ok (.ireturn, 1) := by decide +kernel
theorem dL_columns_0 : decode cL_columns 0 = .ok (.aload_n 0, 1) := by decide +kernel
theorem dL_columns_1 : decode cL_columns 1 = .ok (.iload_n 1, 1) := by decide +kernel
theorem dL_columns_2 : decode cL_columns 2 = .ok (.iaload, 1) := by decide +kernel
theorem dL_columns_3 : decode cL_columns 3 = .ok (.iload_n 2, 1) := by decide +kernel
theorem dL_columns_4 : decode cL_columns 4 = .ok (.invokestatic 23, 3) := by decide +kernel
theorem dL_columns_7 : decode cL_columns 7 = .ok (.istore_n 3, 1) := by decide +kernel
theorem dL_columns_8 : decode cL_columns 8 = .ok (.iload_n 3, 1) := by decide +kernel
theorem dL_columns_9 : decode cL_columns 9 = .ok (.ifCond .ne 7, 3) := by decide +kernel
theorem dL_columns_12 : decode cL_columns 12 = .ok (.iconst 1, 1) := by decide +kernel
theorem dL_columns_13 : decode cL_columns 13 = .ok (.goto 15, 3) := by decide +kernel
theorem dL_columns_16 : decode cL_columns 16 = .ok (.iload_n 3, 1) := by decide +kernel
theorem dL_columns_17 : decode cL_columns 17 = .ok (.bipush 64, 2) := by decide +kernel
theorem dL_columns_19 : decode cL_columns 19 = .ok (.if_icmp .le 8, 3) := by decide +kernel
theorem dL_columns_22 : decode cL_columns 22 = .ok (.bipush 64, 2) := by decide +kernel
theorem dL_columns_24 : decode cL_columns 24 = .ok (.goto 4, 3) := by decide +kernel
theorem dL_columns_27 : decode cL_columns 27 = .ok (.iload_n 3, 1) := by decide +kernel
theorem dL_columns_28 : decode cL_columns 28 = .ok (.ireturn, 1) := by decide +kernel
theorem dL_lay_0 : decode cL_lay 0 = .ok (.aload 9, 2) := by decide +kernel
theorem dL_lay_2 : decode cL_lay 2 = .ok (.bipush 6, 2) := by decide +kernel
theorem dL_lay_4 : decode cL_lay 4 = .ok (.iconst 0, 1) := by decide +kernel
theorem dL_lay_5 : decode cL_lay 5 = .ok (.iastore, 1) := by decide +kernel
theorem dL_lay_6 : decode cL_lay 6 = .ok (.aload 9, 2) := by decide +kernel
theorem dL_lay_8 : decode cL_lay 8 = .ok (.bipush 7, 2) := by decide +kernel
theorem dL_lay_10 : decode cL_lay 10 = .ok (.iconst 0, 1) := by decide +kernel
theorem dL_lay_11 : decode cL_lay 11 = .ok (.iastore, 1) := by decide +kernel
theorem dL_lay_12 : decode cL_lay 12 = .ok (.iconst 0, 1) := by decide +kernel
theorem dL_lay_13 : decode cL_lay 13 = .ok (.istore 10, 2) := by decide +kernel
theorem dL_lay_15 : decode cL_lay 15 = .ok (.iconst 0, 1) := by decide +kernel
theorem dL_lay_16 : decode cL_lay 16 = .ok (.istore 11, 2) := by decide +kernel
theorem dL_lay_18 : decode cL_lay 18 = .ok (.iload 11, 2) := by decide +kernel
theorem dL_lay_20 : decode cL_lay 20 = .ok (.aload_n 2, 1) := by decide +kernel
theorem dL_lay_21 : decode cL_lay 21 = .ok (.iload 7, 2) := by decide +kernel
theorem dL_lay_23 : decode cL_lay 23 = .ok (.iaload, 1) := by decide +kernel
theorem dL_lay_24 : decode cL_lay 24 = .ok (.if_icmp .ge 307, 3) := by decide +kernel
theorem dL_lay_27 : decode cL_lay 27 = .ok (.bipush 6, 2) := by decide +kernel
theorem dL_lay_29 : decode cL_lay 29 = .ok (.iload 7, 2) := by decide +kernel
theorem dL_lay_31 : decode cL_lay 31 = .ok (.imul, 1) := by decide +kernel
theorem dL_lay_32 : decode cL_lay 32 = .ok (.iload 11, 2) := by decide +kernel
theorem dL_lay_34 : decode cL_lay 34 = .ok (.iadd, 1) := by decide +kernel
theorem dL_lay_35 : decode cL_lay 35 = .ok (.istore 12, 2) := by decide +kernel
theorem dL_lay_37 : decode cL_lay 37 = .ok (.aload_n 0, 1) := by decide +kernel
theorem dL_lay_38 : decode cL_lay 38 = .ok (.aload 4, 2) := by decide +kernel
theorem dL_lay_40 : decode cL_lay 40 = .ok (.aload 6, 2) := by decide +kernel
theorem dL_lay_42 : decode cL_lay 42 = .ok (.iload 12, 2) := by decide +kernel
theorem dL_lay_44 : decode cL_lay 44 = .ok (.iload 8, 2) := by decide +kernel
theorem dL_lay_46 : decode cL_lay 46 = .ok (.invokestatic 26, 3) := by decide +kernel
theorem dL_lay_49 : decode cL_lay 49 = .ok (.istore 13, 2) := by decide +kernel
theorem dL_lay_51 : decode cL_lay 51 = .ok (.iload 11, 2) := by decide +kernel
theorem dL_lay_53 : decode cL_lay 53 = .ok (.ifCond .ne 7, 3) := by decide +kernel
theorem dL_lay_56 : decode cL_lay 56 = .ok (.iconst 0, 1) := by decide +kernel
theorem dL_lay_57 : decode cL_lay 57 = .ok (.goto 22, 3) := by decide +kernel
theorem dL_lay_60 : decode cL_lay 60 = .ok (.aload_n 3, 1) := by decide +kernel
theorem dL_lay_61 : decode cL_lay 61 = .ok (.iload 12, 2) := by decide +kernel
theorem dL_lay_63 : decode cL_lay 63 = .ok (.iaload, 1) := by decide +kernel
theorem dL_lay_64 : decode cL_lay 64 = .ok (.aload_n 3, 1) := by decide +kernel
theorem dL_lay_65 : decode cL_lay 65 = .ok (.iload 12, 2) := by decide +kernel
theorem dL_lay_67 : decode cL_lay 67 = .ok (.iconst 1, 1) := by decide +kernel
theorem dL_lay_68 : decode cL_lay 68 = .ok (.isub, 1) := by decide +kernel
theorem dL_lay_69 : decode cL_lay 69 = .ok (.iaload, 1) := by decide +kernel
theorem dL_lay_70 : decode cL_lay 70 = .ok (.isub, 1) := by decide +kernel
theorem dL_lay_71 : decode cL_lay 71 = .ok (.aload 4, 2) := by decide +kernel
theorem dL_lay_73 : decode cL_lay 73 = .ok (.iload 12, 2) := by decide +kernel
theorem dL_lay_75 : decode cL_lay 75 = .ok (.iconst 1, 1) := by decide +kernel
theorem dL_lay_76 : decode cL_lay 76 = .ok (.isub, 1) := by decide +kernel
theorem dL_lay_77 : decode cL_lay 77 = .ok (.iaload, 1) := by decide +kernel
theorem dL_lay_78 : decode cL_lay 78 = .ok (.isub, 1) := by decide +kernel
theorem dL_lay_79 : decode cL_lay 79 = .ok (.istore 14, 2) := by decide +kernel
theorem dL_lay_81 : decode cL_lay 81 = .ok (.aload_n 3, 1) := by decide +kernel
theorem dL_lay_82 : decode cL_lay 82 = .ok (.iload 12, 2) := by decide +kernel
theorem dL_lay_84 : decode cL_lay 84 = .ok (.iaload, 1) := by decide +kernel
theorem dL_lay_85 : decode cL_lay 85 = .ok (.iload 8, 2) := by decide +kernel
theorem dL_lay_87 : decode cL_lay 87 = .ok (.invokestatic 23, 3) := by decide +kernel
theorem dL_lay_90 : decode cL_lay 90 = .ok (.istore 15, 2) := by decide +kernel
theorem dL_lay_92 : decode cL_lay 92 = .ok (.aload 5, 2) := by decide +kernel
theorem dL_lay_94 : decode cL_lay 94 = .ok (.iload 12, 2) := by decide +kernel
theorem dL_lay_96 : decode cL_lay 96 = .ok (.iaload, 1) := by decide +kernel
theorem dL_lay_97 : decode cL_lay 97 = .ok (.iconst 1, 1) := by decide +kernel
theorem dL_lay_98 : decode cL_lay 98 = .ok (.if_icmp .ne 34, 3) := by decide +kernel
theorem dL_lay_101 : decode cL_lay 101 = .ok (.iconst 2, 1) := by decide +kernel
theorem dL_lay_102 : decode cL_lay 102 = .ok (.aload_n 3, 1) := by decide +kernel
theorem dL_lay_103 : decode cL_lay 103 = .ok (.iload 12, 2) := by decide +kernel
theorem dL_lay_105 : decode cL_lay 105 = .ok (.iaload, 1) := by decide +kernel
theorem dL_lay_106 : decode cL_lay 106 = .ok (.imul, 1) := by decide +kernel
theorem dL_lay_107 : decode cL_lay 107 = .ok (.aload 4, 2) := by decide +kernel
theorem dL_lay_109 : decode cL_lay 109 = .ok (.iload 12, 2) := by decide +kernel
theorem dL_lay_111 : decode cL_lay 111 = .ok (.iaload, 1) := by decide +kernel
theorem dL_lay_112 : decode cL_lay 112 = .ok (.iadd, 1) := by decide +kernel
theorem dL_lay_113 : decode cL_lay 113 = .ok (.iload 8, 2) := by decide +kernel
theorem dL_lay_115 : decode cL_lay 115 = .ok (.invokestatic 23, 3) := by decide +kernel
theorem dL_lay_118 : decode cL_lay 118 = .ok (.iload 13, 2) := by decide +kernel
theorem dL_lay_120 : decode cL_lay 120 = .ok (.isub, 1) := by decide +kernel
theorem dL_lay_121 : decode cL_lay 121 = .ok (.istore 16, 2) := by decide +kernel
theorem dL_lay_123 : decode cL_lay 123 = .ok (.iload 16, 2) := by decide +kernel
theorem dL_lay_125 : decode cL_lay 125 = .ok (.iconst 1, 1) := by decide +kernel
theorem dL_lay_126 : decode cL_lay 126 = .ok (.ishr, 1) := by decide +kernel
theorem dL_lay_127 : decode cL_lay 127 = .ok (.istore 15, 2) := by decide +kernel
theorem dL_lay_129 : decode cL_lay 129 = .ok (.goto 79, 3) := by decide +kernel
theorem dL_lay_132 : decode cL_lay 132 = .ok (.aload 5, 2) := by decide +kernel
theorem dL_lay_134 : decode cL_lay 134 = .ok (.iload 12, 2) := by decide +kernel
theorem dL_lay_136 : decode cL_lay 136 = .ok (.iaload, 1) := by decide +kernel
theorem dL_lay_137 : decode cL_lay 137 = .ok (.iconst 2, 1) := by decide +kernel
theorem dL_lay_138 : decode cL_lay 138 = .ok (.if_icmp .ne 26, 3) := by decide +kernel
theorem dL_lay_141 : decode cL_lay 141 = .ok (.aload_n 3, 1) := by decide +kernel
theorem dL_lay_142 : decode cL_lay 142 = .ok (.iload 12, 2) := by decide +kernel
theorem dL_lay_144 : decode cL_lay 144 = .ok (.iaload, 1) := by decide +kernel
theorem dL_lay_145 : decode cL_lay 145 = .ok (.aload 4, 2) := by decide +kernel
theorem dL_lay_147 : decode cL_lay 147 = .ok (.iload 12, 2) := by decide +kernel
theorem dL_lay_149 : decode cL_lay 149 = .ok (.iaload, 1) := by decide +kernel
theorem dL_lay_150 : decode cL_lay 150 = .ok (.iadd, 1) := by decide +kernel
theorem dL_lay_151 : decode cL_lay 151 = .ok (.iload 8, 2) := by decide +kernel
theorem dL_lay_153 : decode cL_lay 153 = .ok (.invokestatic 23, 3) := by decide +kernel
theorem dL_lay_156 : decode cL_lay 156 = .ok (.iload 13, 2) := by decide +kernel
theorem dL_lay_158 : decode cL_lay 158 = .ok (.isub, 1) := by decide +kernel
theorem dL_lay_159 : decode cL_lay 159 = .ok (.istore 15, 2) := by decide +kernel
theorem dL_lay_161 : decode cL_lay 161 = .ok (.goto 47, 3) := by decide +kernel
theorem dL_lay_164 : decode cL_lay 164 = .ok (.aload 5, 2) := by decide +kernel
theorem dL_lay_166 : decode cL_lay 166 = .ok (.iload 12, 2) := by decide +kernel
theorem dL_lay_168 : decode cL_lay 168 = .ok (.iaload, 1) := by decide +kernel
theorem dL_lay_169 : decode cL_lay 169 = .ok (.iconst 3, 1) := by decide +kernel
theorem dL_lay_170 : decode cL_lay 170 = .ok (.if_icmp .ne 38, 3) := by decide +kernel
theorem dL_lay_173 : decode cL_lay 173 = .ok (.iload 11, 2) := by decide +kernel
theorem dL_lay_175 : decode cL_lay 175 = .ok (.ifCond .le 33, 3) := by decide +kernel
theorem dL_lay_178 : decode cL_lay 178 = .ok (.iload 14, 2) := by decide +kernel
theorem dL_lay_180 : decode cL_lay 180 = .ok (.iload 8, 2) := by decide +kernel
theorem dL_lay_182 : decode cL_lay 182 = .ok (.invokestatic 23, 3) := by decide +kernel
theorem dL_lay_185 : decode cL_lay 185 = .ok (.istore 16, 2) := by decide +kernel
theorem dL_lay_187 : decode cL_lay 187 = .ok (.iload 10, 2) := by decide +kernel
theorem dL_lay_189 : decode cL_lay 189 = .ok (.iload 16, 2) := by decide +kernel
theorem dL_lay_191 : decode cL_lay 191 = .ok (.aload_n 0, 1) := by decide +kernel
theorem dL_lay_192 : decode cL_lay 192 = .ok (.iconst 2, 1) := by decide +kernel
theorem dL_lay_193 : decode cL_lay 193 = .ok (.iaload, 1) := by decide +kernel
theorem dL_lay_194 : decode cL_lay 194 = .ok (.if_icmp .le 8, 3) := by decide +kernel
theorem dL_lay_197 : decode cL_lay 197 = .ok (.iload 16, 2) := by decide +kernel
theorem dL_lay_199 : decode cL_lay 199 = .ok (.goto 6, 3) := by decide +kernel
theorem dL_lay_202 : decode cL_lay 202 = .ok (.aload_n 0, 1) := by decide +kernel
theorem dL_lay_203 : decode cL_lay 203 = .ok (.iconst 2, 1) := by decide +kernel
theorem dL_lay_204 : decode cL_lay 204 = .ok (.iaload, 1) := by decide +kernel
theorem dL_lay_205 : decode cL_lay 205 = .ok (.iadd, 1) := by decide +kernel
theorem dL_lay_206 : decode cL_lay 206 = .ok (.istore 15, 2) := by decide +kernel
theorem dL_lay_208 : decode cL_lay 208 = .ok (.iload 10, 2) := by decide +kernel
theorem dL_lay_210 : decode cL_lay 210 = .ok (.iload 14, 2) := by decide +kernel
theorem dL_lay_212 : decode cL_lay 212 = .ok (.ifCond .le 7, 3) := by decide +kernel
theorem dL_lay_215 : decode cL_lay 215 = .ok (.iconst 1, 1) := by decide +kernel
theorem dL_lay_216 : decode cL_lay 216 = .ok (.goto 4, 3) := by decide +kernel
theorem dL_lay_219 : decode cL_lay 219 = .ok (.iconst 0, 1) := by decide +kernel
theorem dL_lay_220 : decode cL_lay 220 = .ok (.iadd, 1) := by decide +kernel
theorem dL_lay_221 : decode cL_lay 221 = .ok (.istore 16, 2) := by decide +kernel
theorem dL_lay_223 : decode cL_lay 223 = .ok (.iload 11, 2) := by decide +kernel
theorem dL_lay_225 : decode cL_lay 225 = .ok (.ifCond .le 14, 3) := by decide +kernel
theorem dL_lay_228 : decode cL_lay 228 = .ok (.iload 15, 2) := by decide +kernel
theorem dL_lay_230 : decode cL_lay 230 = .ok (.iload 16, 2) := by decide +kernel
theorem dL_lay_232 : decode cL_lay 232 = .ok (.if_icmp .ge 7, 3) := by decide +kernel
theorem dL_lay_235 : decode cL_lay 235 = .ok (.iconst 1, 1) := by decide +kernel
theorem dL_lay_236 : decode cL_lay 236 = .ok (.goto 4, 3) := by decide +kernel
theorem dL_lay_239 : decode cL_lay 239 = .ok (.iconst 0, 1) := by decide +kernel
theorem dL_lay_240 : decode cL_lay 240 = .ok (.istore 17, 2) := by decide +kernel
theorem dL_lay_242 : decode cL_lay 242 = .ok (.aload 9, 2) := by decide +kernel
theorem dL_lay_244 : decode cL_lay 244 = .ok (.bipush 6, 2) := by decide +kernel
theorem dL_lay_246 : decode cL_lay 246 = .ok (.dup2, 1) := by decide +kernel
theorem dL_lay_247 : decode cL_lay 247 = .ok (.iaload, 1) := by decide +kernel
theorem dL_lay_248 : decode cL_lay 248 = .ok (.iload 17, 2) := by decide +kernel
theorem dL_lay_250 : decode cL_lay 250 = .ok (.ifCond .eq 10, 3) := by decide +kernel
theorem dL_lay_253 : decode cL_lay 253 = .ok (.iconst 1, 1) := by decide +kernel
theorem dL_lay_254 : decode cL_lay 254 = .ok (.iload 11, 2) := by decide +kernel
theorem dL_lay_256 : decode cL_lay 256 = .ok (.ishl, 1) := by decide +kernel
theorem dL_lay_257 : decode cL_lay 257 = .ok (.goto 4, 3) := by decide +kernel
theorem dL_lay_260 : decode cL_lay 260 = .ok (.iconst 0, 1) := by decide +kernel
theorem dL_lay_261 : decode cL_lay 261 = .ok (.ior, 1) := by decide +kernel
theorem dL_lay_262 : decode cL_lay 262 = .ok (.iastore, 1) := by decide +kernel
theorem dL_lay_263 : decode cL_lay 263 = .ok (.iload 17, 2) := by decide +kernel
theorem dL_lay_265 : decode cL_lay 265 = .ok (.ifCond .eq 8, 3) := by decide +kernel
theorem dL_lay_268 : decode cL_lay 268 = .ok (.iload 16, 2) := by decide +kernel
theorem dL_lay_270 : decode cL_lay 270 = .ok (.goto 5, 3) := by decide +kernel
theorem dL_lay_273 : decode cL_lay 273 = .ok (.iload 15, 2) := by decide +kernel
theorem dL_lay_275 : decode cL_lay 275 = .ok (.istore 15, 2) := by decide +kernel
theorem dL_lay_277 : decode cL_lay 277 = .ok (.aload 9, 2) := by decide +kernel
theorem dL_lay_279 : decode cL_lay 279 = .ok (.iload 11, 2) := by decide +kernel
theorem dL_lay_281 : decode cL_lay 281 = .ok (.iload 15, 2) := by decide +kernel
theorem dL_lay_283 : decode cL_lay 283 = .ok (.iastore, 1) := by decide +kernel
theorem dL_lay_284 : decode cL_lay 284 = .ok (.iload 15, 2) := by decide +kernel
theorem dL_lay_286 : decode cL_lay 286 = .ok (.iload 13, 2) := by decide +kernel
theorem dL_lay_288 : decode cL_lay 288 = .ok (.iadd, 1) := by decide +kernel
theorem dL_lay_289 : decode cL_lay 289 = .ok (.istore 10, 2) := by decide +kernel
theorem dL_lay_291 : decode cL_lay 291 = .ok (.aload 9, 2) := by decide +kernel
theorem dL_lay_293 : decode cL_lay 293 = .ok (.bipush 7, 2) := by decide +kernel
theorem dL_lay_295 : decode cL_lay 295 = .ok (.dup2, 1) := by decide +kernel
theorem dL_lay_296 : decode cL_lay 296 = .ok (.iaload, 1) := by decide +kernel
theorem dL_lay_297 : decode cL_lay 297 = .ok (.iload 15, 2) := by decide +kernel
theorem dL_lay_299 : decode cL_lay 299 = .ok (.ifCond .lt 16, 3) := by decide +kernel
theorem dL_lay_302 : decode cL_lay 302 = .ok (.iload 10, 2) := by decide +kernel
theorem dL_lay_304 : decode cL_lay 304 = .ok (.aload_n 1, 1) := by decide +kernel
theorem dL_lay_305 : decode cL_lay 305 = .ok (.iload 7, 2) := by decide +kernel
theorem dL_lay_307 : decode cL_lay 307 = .ok (.iload 8, 2) := by decide +kernel
theorem dL_lay_309 : decode cL_lay 309 = .ok (.invokestatic 30, 3) := by decide +kernel
theorem dL_lay_312 : decode cL_lay 312 = .ok (.if_icmp .le 10, 3) := by decide +kernel
theorem dL_lay_315 : decode cL_lay 315 = .ok (.iconst 1, 1) := by decide +kernel
theorem dL_lay_316 : decode cL_lay 316 = .ok (.iload 11, 2) := by decide +kernel
theorem dL_lay_318 : decode cL_lay 318 = .ok (.ishl, 1) := by decide +kernel
theorem dL_lay_319 : decode cL_lay 319 = .ok (.goto 4, 3) := by decide +kernel
theorem dL_lay_322 : decode cL_lay 322 = .ok (.iconst 0, 1) := by decide +kernel
theorem dL_lay_323 : decode cL_lay 323 = .ok (.ior, 1) := by decide +kernel
theorem dL_lay_324 : decode cL_lay 324 = .ok (.iastore, 1) := by decide +kernel
theorem dL_lay_325 : decode cL_lay 325 = .ok (.iinc 11 1, 3) := by decide +kernel
theorem dL_lay_328 : decode cL_lay 328 = .ok (.goto (-310), 3) := by decide +kernel
theorem dL_lay_331 : decode cL_lay 331 = .ok (.return_, 1) := by decide +kernel
theorem dL_lit_0 : decode cL_lit 0 = .ok (.bipush 8, 2) := by decide +kernel
theorem dL_lit_2 : decode cL_lit 2 = .ok (.newarray .int, 2) := by decide +kernel
theorem dL_lit_4 : decode cL_lit 4 = .ok (.astore 9, 2) := by decide +kernel
theorem dL_lit_6 : decode cL_lit 6 = .ok (.aload_n 0, 1) := by decide +kernel
theorem dL_lit_7 : decode cL_lit 7 = .ok (.aload_n 1, 1) := by decide +kernel
theorem dL_lit_8 : decode cL_lit 8 = .ok (.aload_n 2, 1) := by decide +kernel
theorem dL_lit_9 : decode cL_lit 9 = .ok (.aload_n 3, 1) := by decide +kernel
theorem dL_lit_10 : decode cL_lit 10 = .ok (.aload 4, 2) := by decide +kernel
theorem dL_lit_12 : decode cL_lit 12 = .ok (.aload 5, 2) := by decide +kernel
theorem dL_lit_14 : decode cL_lit 14 = .ok (.aload 6, 2) := by decide +kernel
theorem dL_lit_16 : decode cL_lit 16 = .ok (.iload 7, 2) := by decide +kernel
theorem dL_lit_18 : decode cL_lit 18 = .ok (.iload 8, 2) := by decide +kernel
theorem dL_lit_20 : decode cL_lit 20 = .ok (.aload 9, 2) := by decide +kernel
theorem dL_lit_22 : decode cL_lit 22 = .ok (.invokestatic 34, 3) := by decide +kernel
theorem dL_lit_25 : decode cL_lit 25 = .ok (.lconst 0, 1) := by decide +kernel
theorem dL_lit_26 : decode cL_lit 26 = .ok (.lstore 10, 2) := by decide +kernel
theorem dL_lit_28 : decode cL_lit 28 = .ok (.iconst 0, 1) := by decide +kernel
theorem dL_lit_29 : decode cL_lit 29 = .ok (.istore 12, 2) := by decide +kernel
theorem dL_lit_31 : decode cL_lit 31 = .ok (.iload 12, 2) := by decide +kernel
theorem dL_lit_33 : decode cL_lit 33 = .ok (.aload_n 1, 1) := by decide +kernel
theorem dL_lit_34 : decode cL_lit 34 = .ok (.iload 7, 2) := by decide +kernel
theorem dL_lit_36 : decode cL_lit 36 = .ok (.iload 8, 2) := by decide +kernel
theorem dL_lit_38 : decode cL_lit 38 = .ok (.invokestatic 30, 3) := by decide +kernel
theorem dL_lit_41 : decode cL_lit 41 = .ok (.if_icmp .ge 79, 3) := by decide +kernel
theorem dL_lit_44 : decode cL_lit 44 = .ok (.iconst 0, 1) := by decide +kernel
theorem dL_lit_45 : decode cL_lit 45 = .ok (.istore 13, 2) := by decide +kernel
theorem dL_lit_47 : decode cL_lit 47 = .ok (.iload 13, 2) := by decide +kernel
theorem dL_lit_49 : decode cL_lit 49 = .ok (.aload_n 2, 1) := by decide +kernel
theorem dL_lit_50 : decode cL_lit 50 = .ok (.iload 7, 2) := by decide +kernel
theorem dL_lit_52 : decode cL_lit 52 = .ok (.iaload, 1) := by decide +kernel
theorem dL_lit_53 : decode cL_lit 53 = .ok (.if_icmp .ge 61, 3) := by decide +kernel
theorem dL_lit_56 : decode cL_lit 56 = .ok (.lload 10, 2) := by decide +kernel
theorem dL_lit_58 : decode cL_lit 58 = .ok (.iload 12, 2) := by decide +kernel
theorem dL_lit_60 : decode cL_lit 60 = .ok (.aload 9, 2) := by decide +kernel
theorem dL_lit_62 : decode cL_lit 62 = .ok (.iload 13, 2) := by decide +kernel
theorem dL_lit_64 : decode cL_lit 64 = .ok (.iaload, 1) := by decide +kernel
theorem dL_lit_65 : decode cL_lit 65 = .ok (.if_icmp .lt 39, 3) := by decide +kernel
theorem dL_lit_68 : decode cL_lit 68 = .ok (.iload 12, 2) := by decide +kernel
theorem dL_lit_70 : decode cL_lit 70 = .ok (.aload 9, 2) := by decide +kernel
theorem dL_lit_72 : decode cL_lit 72 = .ok (.iload 13, 2) := by decide +kernel
theorem dL_lit_74 : decode cL_lit 74 = .ok (.iaload, 1) := by decide +kernel
theorem dL_lit_75 : decode cL_lit 75 = .ok (.aload_n 0, 1) := by decide +kernel
theorem dL_lit_76 : decode cL_lit 76 = .ok (.aload 4, 2) := by decide +kernel
theorem dL_lit_78 : decode cL_lit 78 = .ok (.aload 6, 2) := by decide +kernel
theorem dL_lit_80 : decode cL_lit 80 = .ok (.bipush 6, 2) := by decide +kernel
theorem dL_lit_82 : decode cL_lit 82 = .ok (.iload 7, 2) := by decide +kernel
theorem dL_lit_84 : decode cL_lit 84 = .ok (.imul, 1) := by decide +kernel
theorem dL_lit_85 : decode cL_lit 85 = .ok (.iload 13, 2) := by decide +kernel
theorem dL_lit_87 : decode cL_lit 87 = .ok (.iadd, 1) := by decide +kernel
theorem dL_lit_88 : decode cL_lit 88 = .ok (.iload 8, 2) := by decide +kernel
theorem dL_lit_90 : decode cL_lit 90 = .ok (.invokestatic 26, 3) := by decide +kernel
theorem dL_lit_93 : decode cL_lit 93 = .ok (.iadd, 1) := by decide +kernel
theorem dL_lit_94 : decode cL_lit 94 = .ok (.if_icmp .ge 10, 3) := by decide +kernel
theorem dL_lit_97 : decode cL_lit 97 = .ok (.lconst 1, 1) := by decide +kernel
theorem dL_lit_98 : decode cL_lit 98 = .ok (.iload 12, 2) := by decide +kernel
theorem dL_lit_100 : decode cL_lit 100 = .ok (.lshl, 1) := by decide +kernel
theorem dL_lit_101 : decode cL_lit 101 = .ok (.goto 4, 3) := by decide +kernel
theorem dL_lit_104 : decode cL_lit 104 = .ok (.lconst 0, 1) := by decide +kernel
theorem dL_lit_105 : decode cL_lit 105 = .ok (.lor, 1) := by decide +kernel
theorem dL_lit_106 : decode cL_lit 106 = .ok (.lstore 10, 2) := by decide +kernel
theorem dL_lit_108 : decode cL_lit 108 = .ok (.iinc 13 1, 3) := by decide +kernel
theorem dL_lit_111 : decode cL_lit 111 = .ok (.goto (-64), 3) := by decide +kernel
theorem dL_lit_114 : decode cL_lit 114 = .ok (.iinc 12 1, 3) := by decide +kernel
theorem dL_lit_117 : decode cL_lit 117 = .ok (.goto (-86), 3) := by decide +kernel
theorem dL_lit_120 : decode cL_lit 120 = .ok (.lload 10, 2) := by decide +kernel
theorem dL_lit_122 : decode cL_lit 122 = .ok (.lreturn, 1) := by decide +kernel
theorem dL_many_0 : decode cL_many 0 = .ok (.iconst 0, 1) := by decide +kernel
theorem dL_many_1 : decode cL_many 1 = .ok (.istore_n 2, 1) := by decide +kernel
theorem dL_many_2 : decode cL_many 2 = .ok (.lload_n 0, 1) := by decide +kernel
theorem dL_many_3 : decode cL_many 3 = .ok (.lstore_n 3, 1) := by decide +kernel
theorem dL_many_4 : decode cL_many 4 = .ok (.lload_n 3, 1) := by decide +kernel
theorem dL_many_5 : decode cL_many 5 = .ok (.lconst 0, 1) := by decide +kernel
theorem dL_many_6 : decode cL_many 6 = .ok (.lcmp, 1) := by decide +kernel
theorem dL_many_7 : decode cL_many 7 = .ok (.ifCond .eq 15, 3) := by decide +kernel
theorem dL_many_10 : decode cL_many 10 = .ok (.iinc 2 1, 3) := by decide +kernel
theorem dL_many_13 : decode cL_many 13 = .ok (.lload_n 3, 1) := by decide +kernel
theorem dL_many_14 : decode cL_many 14 = .ok (.lload_n 3, 1) := by decide +kernel
theorem dL_many_15 : decode cL_many 15 = .ok (.lconst 1, 1) := by decide +kernel
theorem dL_many_16 : decode cL_many 16 = .ok (.lsub, 1) := by decide +kernel
theorem dL_many_17 : decode cL_many 17 = .ok (.land, 1) := by decide +kernel
theorem dL_many_18 : decode cL_many 18 = .ok (.lstore_n 3, 1) := by decide +kernel
theorem dL_many_19 : decode cL_many 19 = .ok (.goto (-15), 3) := by decide +kernel
theorem dL_many_22 : decode cL_many 22 = .ok (.iload_n 2, 1) := by decide +kernel
theorem dL_many_23 : decode cL_many 23 = .ok (.ireturn, 1) := by decide +kernel
theorem dL_make_0 : decode cL_make 0 = .ok (.aload 7, 2) := by decide +kernel
theorem dL_make_2 : decode cL_make 2 = .ok (.iconst 3, 1) := by decide +kernel
theorem dL_make_3 : decode cL_make 3 = .ok (.iaload, 1) := by decide +kernel
theorem dL_make_4 : decode cL_make 4 = .ok (.ifCond .le 7, 3) := by decide +kernel
theorem dL_make_7 : decode cL_make 7 = .ok (.iconst 0, 1) := by decide +kernel
theorem dL_make_8 : decode cL_make 8 = .ok (.goto 4, 3) := by decide +kernel
theorem dL_make_11 : decode cL_make 11 = .ok (.iconst 4, 1) := by decide +kernel
theorem dL_make_12 : decode cL_make 12 = .ok (.istore 12, 2) := by decide +kernel
theorem dL_make_14 : decode cL_make 14 = .ok (.iconst 0, 1) := by decide +kernel
theorem dL_make_15 : decode cL_make 15 = .ok (.istore 13, 2) := by decide +kernel
theorem dL_make_17 : decode cL_make 17 = .ok (.iconst 0, 1) := by decide +kernel
theorem dL_make_18 : decode cL_make 18 = .ok (.istore 14, 2) := by decide +kernel
theorem dL_make_20 : decode cL_make 20 = .ok (.iload 14, 2) := by decide +kernel
theorem dL_make_22 : decode cL_make 22 = .ok (.iconst 4, 1) := by decide +kernel
theorem dL_make_23 : decode cL_make 23 = .ok (.if_icmp .ge 46, 3) := by decide +kernel
theorem dL_make_26 : decode cL_make 26 = .ok (.aload 7, 2) := by decide +kernel
theorem dL_make_28 : decode cL_make 28 = .ok (.iload 14, 2) := by decide +kernel
theorem dL_make_30 : decode cL_make 30 = .ok (.iaload, 1) := by decide +kernel
theorem dL_make_31 : decode cL_make 31 = .ok (.iload 11, 2) := by decide +kernel
theorem dL_make_33 : decode cL_make 33 = .ok (.if_icmp .ne 8, 3) := by decide +kernel
theorem dL_make_36 : decode cL_make 36 = .ok (.iload 14, 2) := by decide +kernel
theorem dL_make_38 : decode cL_make 38 = .ok (.goto 5, 3) := by decide +kernel
theorem dL_make_41 : decode cL_make 41 = .ok (.iload 12, 2) := by decide +kernel
theorem dL_make_43 : decode cL_make 43 = .ok (.istore 12, 2) := by decide +kernel
theorem dL_make_45 : decode cL_make 45 = .ok (.iload 13, 2) := by decide +kernel
theorem dL_make_47 : decode cL_make 47 = .ok (.aload 7, 2) := by decide +kernel
theorem dL_make_49 : decode cL_make 49 = .ok (.iload 14, 2) := by decide +kernel
theorem dL_make_51 : decode cL_make 51 = .ok (.iaload, 1) := by decide +kernel
theorem dL_make_52 : decode cL_make 52 = .ok (.ifCond .le 7, 3) := by decide +kernel
theorem dL_make_55 : decode cL_make 55 = .ok (.iconst 1, 1) := by decide +kernel
theorem dL_make_56 : decode cL_make 56 = .ok (.goto 4, 3) := by decide +kernel
theorem dL_make_59 : decode cL_make 59 = .ok (.iconst 0, 1) := by decide +kernel
theorem dL_make_60 : decode cL_make 60 = .ok (.iadd, 1) := by decide +kernel
theorem dL_make_61 : decode cL_make 61 = .ok (.istore 13, 2) := by decide +kernel
theorem dL_make_63 : decode cL_make 63 = .ok (.iinc 14 1, 3) := by decide +kernel
theorem dL_make_66 : decode cL_make 66 = .ok (.goto (-46), 3) := by decide +kernel
theorem dL_make_69 : decode cL_make 69 = .ok (.iload 12, 2) := by decide +kernel
theorem dL_make_71 : decode cL_make 71 = .ok (.istore 14, 2) := by decide +kernel
theorem dL_make_73 : decode cL_make 73 = .ok (.iload 14, 2) := by decide +kernel
theorem dL_make_75 : decode cL_make 75 = .ok (.iconst 3, 1) := by decide +kernel
theorem dL_make_76 : decode cL_make 76 = .ok (.if_icmp .ge 99, 3) := by decide +kernel
theorem dL_make_79 : decode cL_make 79 = .ok (.aload 7, 2) := by decide +kernel
theorem dL_make_81 : decode cL_make 81 = .ok (.iload 14, 2) := by decide +kernel
theorem dL_make_83 : decode cL_make 83 = .ok (.aload 7, 2) := by decide +kernel
theorem dL_make_85 : decode cL_make 85 = .ok (.iload 14, 2) := by decide +kernel
theorem dL_make_87 : decode cL_make 87 = .ok (.iconst 1, 1) := by decide +kernel
theorem dL_make_88 : decode cL_make 88 = .ok (.iadd, 1) := by decide +kernel
theorem dL_make_89 : decode cL_make 89 = .ok (.iaload, 1) := by decide +kernel
theorem dL_make_90 : decode cL_make 90 = .ok (.iastore, 1) := by decide +kernel
theorem dL_make_91 : decode cL_make 91 = .ok (.aload 8, 2) := by decide +kernel
theorem dL_make_93 : decode cL_make 93 = .ok (.iload 14, 2) := by decide +kernel
theorem dL_make_95 : decode cL_make 95 = .ok (.aload 8, 2) := by decide +kernel
theorem dL_make_97 : decode cL_make 97 = .ok (.iload 14, 2) := by decide +kernel
theorem dL_make_99 : decode cL_make 99 = .ok (.iconst 1, 1) := by decide +kernel
theorem dL_make_100 : decode cL_make 100 = .ok (.iadd, 1) := by decide +kernel
theorem dL_make_101 : decode cL_make 101 = .ok (.iaload, 1) := by decide +kernel
theorem dL_make_102 : decode cL_make 102 = .ok (.iastore, 1) := by decide +kernel
theorem dL_make_103 : decode cL_make 103 = .ok (.iconst 0, 1) := by decide +kernel
theorem dL_make_104 : decode cL_make 104 = .ok (.istore 15, 2) := by decide +kernel
theorem dL_make_106 : decode cL_make 106 = .ok (.iload 15, 2) := by decide +kernel
theorem dL_make_108 : decode cL_make 108 = .ok (.bipush 8, 2) := by decide +kernel
theorem dL_make_110 : decode cL_make 110 = .ok (.if_icmp .ge 59, 3) := by decide +kernel
theorem dL_make_113 : decode cL_make 113 = .ok (.aload 9, 2) := by decide +kernel
theorem dL_make_115 : decode cL_make 115 = .ok (.bipush 8, 2) := by decide +kernel
theorem dL_make_117 : decode cL_make 117 = .ok (.iload 14, 2) := by decide +kernel
theorem dL_make_119 : decode cL_make 119 = .ok (.imul, 1) := by decide +kernel
theorem dL_make_120 : decode cL_make 120 = .ok (.iload 15, 2) := by decide +kernel
theorem dL_make_122 : decode cL_make 122 = .ok (.iadd, 1) := by decide +kernel
theorem dL_make_123 : decode cL_make 123 = .ok (.aload 9, 2) := by decide +kernel
theorem dL_make_125 : decode cL_make 125 = .ok (.bipush 8, 2) := by decide +kernel
theorem dL_make_127 : decode cL_make 127 = .ok (.iload 14, 2) := by decide +kernel
theorem dL_make_129 : decode cL_make 129 = .ok (.imul, 1) := by decide +kernel
theorem dL_make_130 : decode cL_make 130 = .ok (.bipush 8, 2) := by decide +kernel
theorem dL_make_132 : decode cL_make 132 = .ok (.iadd, 1) := by decide +kernel
theorem dL_make_133 : decode cL_make 133 = .ok (.iload 15, 2) := by decide +kernel
theorem dL_make_135 : decode cL_make 135 = .ok (.iadd, 1) := by decide +kernel
theorem dL_make_136 : decode cL_make 136 = .ok (.iaload, 1) := by decide +kernel
theorem dL_make_137 : decode cL_make 137 = .ok (.iastore, 1) := by decide +kernel
theorem dL_make_138 : decode cL_make 138 = .ok (.aload 10, 2) := by decide +kernel
theorem dL_make_140 : decode cL_make 140 = .ok (.bipush 8, 2) := by decide +kernel
theorem dL_make_142 : decode cL_make 142 = .ok (.iload 14, 2) := by decide +kernel
theorem dL_make_144 : decode cL_make 144 = .ok (.imul, 1) := by decide +kernel
theorem dL_make_145 : decode cL_make 145 = .ok (.iload 15, 2) := by decide +kernel
theorem dL_make_147 : decode cL_make 147 = .ok (.iadd, 1) := by decide +kernel
theorem dL_make_148 : decode cL_make 148 = .ok (.aload 10, 2) := by decide +kernel
theorem dL_make_150 : decode cL_make 150 = .ok (.bipush 8, 2) := by decide +kernel
theorem dL_make_152 : decode cL_make 152 = .ok (.iload 14, 2) := by decide +kernel
theorem dL_make_154 : decode cL_make 154 = .ok (.imul, 1) := by decide +kernel
theorem dL_make_155 : decode cL_make 155 = .ok (.bipush 8, 2) := by decide +kernel
theorem dL_make_157 : decode cL_make 157 = .ok (.iadd, 1) := by decide +kernel
theorem dL_make_158 : decode cL_make 158 = .ok (.iload 15, 2) := by decide +kernel
theorem dL_make_160 : decode cL_make 160 = .ok (.iadd, 1) := by decide +kernel
theorem dL_make_161 : decode cL_make 161 = .ok (.laload, 1) := by decide +kernel
theorem dL_make_162 : decode cL_make 162 = .ok (.lastore, 1) := by decide +kernel
theorem dL_make_163 : decode cL_make 163 = .ok (.iinc 15 1, 3) := by decide +kernel
theorem dL_make_166 : decode cL_make 166 = .ok (.goto (-60), 3) := by decide +kernel
theorem dL_make_169 : decode cL_make 169 = .ok (.iinc 14 1, 3) := by decide +kernel
theorem dL_make_172 : decode cL_make 172 = .ok (.goto (-99), 3) := by decide +kernel
theorem dL_make_175 : decode cL_make 175 = .ok (.iload 12, 2) := by decide +kernel
theorem dL_make_177 : decode cL_make 177 = .ok (.iconst 4, 1) := by decide +kernel
theorem dL_make_178 : decode cL_make 178 = .ok (.if_icmp .ge 10, 3) := by decide +kernel
theorem dL_make_181 : decode cL_make 181 = .ok (.iload 13, 2) := by decide +kernel
theorem dL_make_183 : decode cL_make 183 = .ok (.iconst 1, 1) := by decide +kernel
theorem dL_make_184 : decode cL_make 184 = .ok (.isub, 1) := by decide +kernel
theorem dL_make_185 : decode cL_make 185 = .ok (.goto 5, 3) := by decide +kernel
theorem dL_make_188 : decode cL_make 188 = .ok (.iload 13, 2) := by decide +kernel
theorem dL_make_190 : decode cL_make 190 = .ok (.istore 14, 2) := by decide +kernel
theorem dL_make_192 : decode cL_make 192 = .ok (.aload 7, 2) := by decide +kernel
theorem dL_make_194 : decode cL_make 194 = .ok (.iload 14, 2) := by decide +kernel
theorem dL_make_196 : decode cL_make 196 = .ok (.iload 11, 2) := by decide +kernel
theorem dL_make_198 : decode cL_make 198 = .ok (.iastore, 1) := by decide +kernel
theorem dL_make_199 : decode cL_make 199 = .ok (.aload 8, 2) := by decide +kernel
theorem dL_make_201 : decode cL_make 201 = .ok (.iload 14, 2) := by decide +kernel
theorem dL_make_203 : decode cL_make 203 = .ok (.aload_n 0, 1) := by decide +kernel
theorem dL_make_204 : decode cL_make 204 = .ok (.iconst 0, 1) := by decide +kernel
theorem dL_make_205 : decode cL_make 205 = .ok (.iaload, 1) := by decide +kernel
theorem dL_make_206 : decode cL_make 206 = .ok (.iastore, 1) := by decide +kernel
theorem dL_make_207 : decode cL_make 207 = .ok (.iconst 0, 1) := by decide +kernel
theorem dL_make_208 : decode cL_make 208 = .ok (.istore 15, 2) := by decide +kernel
theorem dL_make_210 : decode cL_make 210 = .ok (.iload 15, 2) := by decide +kernel
theorem dL_make_212 : decode cL_make 212 = .ok (.bipush 8, 2) := by decide +kernel
theorem dL_make_214 : decode cL_make 214 = .ok (.if_icmp .ge 80, 3) := by decide +kernel
theorem dL_make_217 : decode cL_make 217 = .ok (.aload 9, 2) := by decide +kernel
theorem dL_make_219 : decode cL_make 219 = .ok (.bipush 8, 2) := by decide +kernel
theorem dL_make_221 : decode cL_make 221 = .ok (.iload 14, 2) := by decide +kernel
theorem dL_make_223 : decode cL_make 223 = .ok (.imul, 1) := by decide +kernel
theorem dL_make_224 : decode cL_make 224 = .ok (.iload 15, 2) := by decide +kernel
theorem dL_make_226 : decode cL_make 226 = .ok (.iadd, 1) := by decide +kernel
theorem dL_make_227 : decode cL_make 227 = .ok (.iload 15, 2) := by decide +kernel
theorem dL_make_229 : decode cL_make 229 = .ok (.aload_n 0, 1) := by decide +kernel
theorem dL_make_230 : decode cL_make 230 = .ok (.iconst 0, 1) := by decide +kernel
theorem dL_make_231 : decode cL_make 231 = .ok (.iaload, 1) := by decide +kernel
theorem dL_make_232 : decode cL_make 232 = .ok (.if_icmp .ge 14, 3) := by decide +kernel
theorem dL_make_235 : decode cL_make 235 = .ok (.aload_n 1, 1) := by decide +kernel
theorem dL_make_236 : decode cL_make 236 = .ok (.iload 15, 2) := by decide +kernel
theorem dL_make_238 : decode cL_make 238 = .ok (.iload 11, 2) := by decide +kernel
theorem dL_make_240 : decode cL_make 240 = .ok (.invokestatic 30, 3) := by decide +kernel
theorem dL_make_243 : decode cL_make 243 = .ok (.goto 4, 3) := by decide +kernel
theorem dL_make_246 : decode cL_make 246 = .ok (.iconst 0, 1) := by decide +kernel
theorem dL_make_247 : decode cL_make 247 = .ok (.iastore, 1) := by decide +kernel
theorem dL_make_248 : decode cL_make 248 = .ok (.aload 10, 2) := by decide +kernel
theorem dL_make_250 : decode cL_make 250 = .ok (.bipush 8, 2) := by decide +kernel
theorem dL_make_252 : decode cL_make 252 = .ok (.iload 14, 2) := by decide +kernel
theorem dL_make_254 : decode cL_make 254 = .ok (.imul, 1) := by decide +kernel
theorem dL_make_255 : decode cL_make 255 = .ok (.iload 15, 2) := by decide +kernel
theorem dL_make_257 : decode cL_make 257 = .ok (.iadd, 1) := by decide +kernel
theorem dL_make_258 : decode cL_make 258 = .ok (.iload 15, 2) := by decide +kernel
theorem dL_make_260 : decode cL_make 260 = .ok (.aload_n 0, 1) := by decide +kernel
theorem dL_make_261 : decode cL_make 261 = .ok (.iconst 0, 1) := by decide +kernel
theorem dL_make_262 : decode cL_make 262 = .ok (.iaload, 1) := by decide +kernel
theorem dL_make_263 : decode cL_make 263 = .ok (.if_icmp .ge 23, 3) := by decide +kernel
theorem dL_make_266 : decode cL_make 266 = .ok (.aload_n 0, 1) := by decide +kernel
theorem dL_make_267 : decode cL_make 267 = .ok (.aload_n 1, 1) := by decide +kernel
theorem dL_make_268 : decode cL_make 268 = .ok (.aload_n 2, 1) := by decide +kernel
theorem dL_make_269 : decode cL_make 269 = .ok (.aload_n 3, 1) := by decide +kernel
theorem dL_make_270 : decode cL_make 270 = .ok (.aload 4, 2) := by decide +kernel
theorem dL_make_272 : decode cL_make 272 = .ok (.aload 5, 2) := by decide +kernel
theorem dL_make_274 : decode cL_make 274 = .ok (.aload 6, 2) := by decide +kernel
theorem dL_make_276 : decode cL_make 276 = .ok (.iload 15, 2) := by decide +kernel
theorem dL_make_278 : decode cL_make 278 = .ok (.iload 11, 2) := by decide +kernel
theorem dL_make_280 : decode cL_make 280 = .ok (.invokestatic 38, 3) := by decide +kernel
theorem dL_make_283 : decode cL_make 283 = .ok (.goto 4, 3) := by decide +kernel
theorem dL_make_286 : decode cL_make 286 = .ok (.lconst 0, 1) := by decide +kernel
theorem dL_make_287 : decode cL_make 287 = .ok (.lastore, 1) := by decide +kernel
theorem dL_make_288 : decode cL_make 288 = .ok (.iinc 15 1, 3) := by decide +kernel
theorem dL_make_291 : decode cL_make 291 = .ok (.goto (-81), 3) := by decide +kernel
theorem dL_make_294 : decode cL_make 294 = .ok (.aload_n 0, 1) := by decide +kernel
theorem dL_make_295 : decode cL_make 295 = .ok (.iconst 3, 1) := by decide +kernel
theorem dL_make_296 : decode cL_make 296 = .ok (.dup2, 1) := by decide +kernel
theorem dL_make_297 : decode cL_make 297 = .ok (.iaload, 1) := by decide +kernel
theorem dL_make_298 : decode cL_make 298 = .ok (.iconst 1, 1) := by decide +kernel
theorem dL_make_299 : decode cL_make 299 = .ok (.iadd, 1) := by decide +kernel
theorem dL_make_300 : decode cL_make 300 = .ok (.iastore, 1) := by decide +kernel
theorem dL_make_301 : decode cL_make 301 = .ok (.iload 14, 2) := by decide +kernel
theorem dL_make_303 : decode cL_make 303 = .ok (.iconst 1, 1) := by decide +kernel
theorem dL_make_304 : decode cL_make 304 = .ok (.iadd, 1) := by decide +kernel
theorem dL_make_305 : decode cL_make 305 = .ok (.ireturn, 1) := by decide +kernel
theorem dL_find_0 : decode cL_find 0 = .ok (.iconst (-1), 1) := by decide +kernel
theorem dL_find_1 : decode cL_find 1 = .ok (.istore_n 2, 1) := by decide +kernel
theorem dL_find_2 : decode cL_find 2 = .ok (.iconst 0, 1) := by decide +kernel
theorem dL_find_3 : decode cL_find 3 = .ok (.istore_n 3, 1) := by decide +kernel
theorem dL_find_4 : decode cL_find 4 = .ok (.iload_n 3, 1) := by decide +kernel
theorem dL_find_5 : decode cL_find 5 = .ok (.aload_n 0, 1) := by decide +kernel
theorem dL_find_6 : decode cL_find 6 = .ok (.arraylength, 1) := by decide +kernel
theorem dL_find_7 : decode cL_find 7 = .ok (.if_icmp .ge 22, 3) := by decide +kernel
theorem dL_find_10 : decode cL_find 10 = .ok (.aload_n 0, 1) := by decide +kernel
theorem dL_find_11 : decode cL_find 11 = .ok (.iload_n 3, 1) := by decide +kernel
theorem dL_find_12 : decode cL_find 12 = .ok (.iaload, 1) := by decide +kernel
theorem dL_find_13 : decode cL_find 13 = .ok (.iload_n 1, 1) := by decide +kernel
theorem dL_find_14 : decode cL_find 14 = .ok (.if_icmp .ne 7, 3) := by decide +kernel
theorem dL_find_17 : decode cL_find 17 = .ok (.iload_n 3, 1) := by decide +kernel
theorem dL_find_18 : decode cL_find 18 = .ok (.goto 4, 3) := by decide +kernel
theorem dL_find_21 : decode cL_find 21 = .ok (.iload_n 2, 1) := by decide +kernel
theorem dL_find_22 : decode cL_find 22 = .ok (.istore_n 2, 1) := by decide +kernel
theorem dL_find_23 : decode cL_find 23 = .ok (.iinc 3 1, 3) := by decide +kernel
theorem dL_find_26 : decode cL_find 26 = .ok (.goto (-22), 3) := by decide +kernel
theorem dL_find_29 : decode cL_find 29 = .ok (.iload_n 2, 1) := by decide +kernel
theorem dL_find_30 : decode cL_find 30 = .ok (.ireturn, 1) := by decide +kernel
theorem dL_stems_0 : decode cL_stems 0 = .ok (.aload_n 1, 1) := by decide +kernel
theorem dL_stems_1 : decode cL_stems 1 = .ok (.iconst 0, 1) := by decide +kernel
theorem dL_stems_2 : decode cL_stems 2 = .ok (.iaload, 1) := by decide +kernel
theorem dL_stems_3 : decode cL_stems 3 = .ok (.ifCond .ne 44, 3) := by decide +kernel
theorem dL_stems_6 : decode cL_stems 6 = .ok (.aload_n 0, 1) := by decide +kernel
theorem dL_stems_7 : decode cL_stems 7 = .ok (.iconst 0, 1) := by decide +kernel
theorem dL_stems_8 : decode cL_stems 8 = .ok (.iconst 0, 1) := by decide +kernel
theorem dL_stems_9 : decode cL_stems 9 = .ok (.iconst 1, 1) := by decide +kernel
theorem dL_stems_10 : decode cL_stems 10 = .ok (.invokevirtual 42, 3) := by decide +kernel
theorem dL_stems_13 : decode cL_stems 13 = .ok (.ldc 48, 2) := by decide +kernel
theorem dL_stems_15 : decode cL_stems 15 = .ok (.if_icmp .ne 30, 3) := by decide +kernel
theorem dL_stems_18 : decode cL_stems 18 = .ok (.aload_n 0, 1) := by decide +kernel
theorem dL_stems_19 : decode cL_stems 19 = .ok (.iconst 0, 1) := by decide +kernel
theorem dL_stems_20 : decode cL_stems 20 = .ok (.iconst 0, 1) := by decide +kernel
theorem dL_stems_21 : decode cL_stems 21 = .ok (.invokevirtual 49, 3) := by decide +kernel
theorem dL_stems_24 : decode cL_stems 24 = .ok (.ldc 48, 2) := by decide +kernel
theorem dL_stems_26 : decode cL_stems 26 = .ok (.if_icmp .ne 19, 3) := by decide +kernel
theorem dL_stems_29 : decode cL_stems 29 = .ok (.aload_n 0, 1) := by decide +kernel
theorem dL_stems_30 : decode cL_stems 30 = .ok (.iconst 0, 1) := by decide +kernel
theorem dL_stems_31 : decode cL_stems 31 = .ok (.iconst 0, 1) := by decide +kernel
theorem dL_stems_32 : decode cL_stems 32 = .ok (.iconst 0, 1) := by decide +kernel
theorem dL_stems_33 : decode cL_stems 33 = .ok (.invokevirtual 52, 3) := by decide +kernel
theorem dL_stems_36 : decode cL_stems 36 = .ok (.ldc 48, 2) := by decide +kernel
theorem dL_stems_38 : decode cL_stems 38 = .ok (.if_icmp .ne 7, 3) := by decide +kernel
theorem dL_stems_41 : decode cL_stems 41 = .ok (.iconst 1, 1) := by decide +kernel
theorem dL_stems_42 : decode cL_stems 42 = .ok (.goto 4, 3) := by decide +kernel
theorem dL_stems_45 : decode cL_stems 45 = .ok (.iconst 0, 1) := by decide +kernel
theorem dL_stems_46 : decode cL_stems 46 = .ok (.ireturn, 1) := by decide +kernel
theorem dL_stems_47 : decode cL_stems 47 = .ok (.iload 7, 2) := by decide +kernel
theorem dL_stems_49 : decode cL_stems 49 = .ok (.aload_n 1, 1) := by decide +kernel
theorem dL_stems_50 : decode cL_stems 50 = .ok (.iconst 0, 1) := by decide +kernel
theorem dL_stems_51 : decode cL_stems 51 = .ok (.iaload, 1) := by decide +kernel
theorem dL_stems_52 : decode cL_stems 52 = .ok (.irem, 1) := by decide +kernel
theorem dL_stems_53 : decode cL_stems 53 = .ok (.istore 8, 2) := by decide +kernel
theorem dL_stems_55 : decode cL_stems 55 = .ok (.bipush 6, 2) := by decide +kernel
theorem dL_stems_57 : decode cL_stems 57 = .ok (.iload 8, 2) := by decide +kernel
theorem dL_stems_59 : decode cL_stems 59 = .ok (.imul, 1) := by decide +kernel
theorem dL_stems_60 : decode cL_stems 60 = .ok (.istore 9, 2) := by decide +kernel
theorem dL_stems_62 : decode cL_stems 62 = .ok (.iload 6, 2) := by decide +kernel
theorem dL_stems_64 : decode cL_stems 64 = .ok (.ifCond .ne 299, 3) := by decide +kernel
theorem dL_stems_67 : decode cL_stems 67 = .ok (.iload 7, 2) := by decide +kernel
theorem dL_stems_69 : decode cL_stems 69 = .ok (.bipush 8, 2) := by decide +kernel
theorem dL_stems_71 : decode cL_stems 71 = .ok (.idiv, 1) := by decide +kernel
theorem dL_stems_72 : decode cL_stems 72 = .ok (.iload 7, 2) := by decide +kernel
theorem dL_stems_74 : decode cL_stems 74 = .ok (.iconst 3, 1) := by decide +kernel
theorem dL_stems_75 : decode cL_stems 75 = .ok (.irem, 1) := by decide +kernel
theorem dL_stems_76 : decode cL_stems 76 = .ok (.ifCond .ne 9, 3) := by decide +kernel
theorem dL_stems_79 : decode cL_stems 79 = .ok (.sipush 1000, 3) := by decide +kernel
theorem dL_stems_82 : decode cL_stems 82 = .ok (.goto 6, 3) := by decide +kernel
theorem dL_stems_85 : decode cL_stems 85 = .ok (.sipush 700, 3) := by decide +kernel
theorem dL_stems_88 : decode cL_stems 88 = .ok (.irem, 1) := by decide +kernel
theorem dL_stems_89 : decode cL_stems 89 = .ok (.istore 10, 2) := by decide +kernel
theorem dL_stems_91 : decode cL_stems 91 = .ok (.iconst 1, 1) := by decide +kernel
theorem dL_stems_92 : decode cL_stems 92 = .ok (.iload 7, 2) := by decide +kernel
theorem dL_stems_94 : decode cL_stems 94 = .ok (.bipush 7, 2) := by decide +kernel
theorem dL_stems_96 : decode cL_stems 96 = .ok (.idiv, 1) := by decide +kernel
theorem dL_stems_97 : decode cL_stems 97 = .ok (.iload 7, 2) := by decide +kernel
theorem dL_stems_99 : decode cL_stems 99 = .ok (.iconst 5, 1) := by decide +kernel
theorem dL_stems_100 : decode cL_stems 100 = .ok (.irem, 1) := by decide +kernel
theorem dL_stems_101 : decode cL_stems 101 = .ok (.ifCond .ne 9, 3) := by decide +kernel
theorem dL_stems_104 : decode cL_stems 104 = .ok (.sipush 300, 3) := by decide +kernel
theorem dL_stems_107 : decode cL_stems 107 = .ok (.goto 5, 3) := by decide +kernel
theorem dL_stems_110 : decode cL_stems 110 = .ok (.bipush 90, 2) := by decide +kernel
theorem dL_stems_112 : decode cL_stems 112 = .ok (.irem, 1) := by decide +kernel
theorem dL_stems_113 : decode cL_stems 113 = .ok (.iadd, 1) := by decide +kernel
theorem dL_stems_114 : decode cL_stems 114 = .ok (.istore 11, 2) := by decide +kernel
theorem dL_stems_116 : decode cL_stems 116 = .ok (.iconst 0, 1) := by decide +kernel
theorem dL_stems_117 : decode cL_stems 117 = .ok (.istore 12, 2) := by decide +kernel
theorem dL_stems_119 : decode cL_stems 119 = .ok (.iconst 0, 1) := by decide +kernel
theorem dL_stems_120 : decode cL_stems 120 = .ok (.istore 13, 2) := by decide +kernel
theorem dL_stems_122 : decode cL_stems 122 = .ok (.iload 9, 2) := by decide +kernel
theorem dL_stems_124 : decode cL_stems 124 = .ok (.istore 14, 2) := by decide +kernel
theorem dL_stems_126 : decode cL_stems 126 = .ok (.iload 14, 2) := by decide +kernel
theorem dL_stems_128 : decode cL_stems 128 = .ok (.iload 9, 2) := by decide +kernel
theorem dL_stems_130 : decode cL_stems 130 = .ok (.aload_n 2, 1) := by decide +kernel
theorem dL_stems_131 : decode cL_stems 131 = .ok (.iload 8, 2) := by decide +kernel
theorem dL_stems_133 : decode cL_stems 133 = .ok (.iaload, 1) := by decide +kernel
theorem dL_stems_134 : decode cL_stems 134 = .ok (.iadd, 1) := by decide +kernel
theorem dL_stems_135 : decode cL_stems 135 = .ok (.if_icmp .ge 67, 3) := by decide +kernel
theorem dL_stems_138 : decode cL_stems 138 = .ok (.iload 12, 2) := by decide +kernel
theorem dL_stems_140 : decode cL_stems 140 = .ok (.aload_n 3, 1) := by decide +kernel
theorem dL_stems_141 : decode cL_stems 141 = .ok (.iload 14, 2) := by decide +kernel
theorem dL_stems_143 : decode cL_stems 143 = .ok (.iaload, 1) := by decide +kernel
theorem dL_stems_144 : decode cL_stems 144 = .ok (.iload 10, 2) := by decide +kernel
theorem dL_stems_146 : decode cL_stems 146 = .ok (.if_icmp .ge 7, 3) := by decide +kernel
theorem dL_stems_149 : decode cL_stems 149 = .ok (.iconst 1, 1) := by decide +kernel
theorem dL_stems_150 : decode cL_stems 150 = .ok (.goto 4, 3) := by decide +kernel
theorem dL_stems_153 : decode cL_stems 153 = .ok (.iconst 0, 1) := by decide +kernel
theorem dL_stems_154 : decode cL_stems 154 = .ok (.iadd, 1) := by decide +kernel
theorem dL_stems_155 : decode cL_stems 155 = .ok (.istore 12, 2) := by decide +kernel
theorem dL_stems_157 : decode cL_stems 157 = .ok (.iload 13, 2) := by decide +kernel
theorem dL_stems_159 : decode cL_stems 159 = .ok (.ifCond .ne 30, 3) := by decide +kernel
theorem dL_stems_162 : decode cL_stems 162 = .ok (.iload 10, 2) := by decide +kernel
theorem dL_stems_164 : decode cL_stems 164 = .ok (.aload_n 3, 1) := by decide +kernel
theorem dL_stems_165 : decode cL_stems 165 = .ok (.iload 14, 2) := by decide +kernel
theorem dL_stems_167 : decode cL_stems 167 = .ok (.iaload, 1) := by decide +kernel
theorem dL_stems_168 : decode cL_stems 168 = .ok (.aload 4, 2) := by decide +kernel
theorem dL_stems_170 : decode cL_stems 170 = .ok (.iload 14, 2) := by decide +kernel
theorem dL_stems_172 : decode cL_stems 172 = .ok (.iaload, 1) := by decide +kernel
theorem dL_stems_173 : decode cL_stems 173 = .ok (.iadd, 1) := by decide +kernel
theorem dL_stems_174 : decode cL_stems 174 = .ok (.if_icmp .ge 19, 3) := by decide +kernel
theorem dL_stems_177 : decode cL_stems 177 = .ok (.aload_n 3, 1) := by decide +kernel
theorem dL_stems_178 : decode cL_stems 178 = .ok (.iload 14, 2) := by decide +kernel
theorem dL_stems_180 : decode cL_stems 180 = .ok (.iaload, 1) := by decide +kernel
theorem dL_stems_181 : decode cL_stems 181 = .ok (.iload 10, 2) := by decide +kernel
theorem dL_stems_183 : decode cL_stems 183 = .ok (.iload 11, 2) := by decide +kernel
theorem dL_stems_185 : decode cL_stems 185 = .ok (.iadd, 1) := by decide +kernel
theorem dL_stems_186 : decode cL_stems 186 = .ok (.if_icmp .ge 7, 3) := by decide +kernel
theorem dL_stems_189 : decode cL_stems 189 = .ok (.iconst 1, 1) := by decide +kernel
theorem dL_stems_190 : decode cL_stems 190 = .ok (.goto 4, 3) := by decide +kernel
theorem dL_stems_193 : decode cL_stems 193 = .ok (.iconst 0, 1) := by decide +kernel
theorem dL_stems_194 : decode cL_stems 194 = .ok (.istore 13, 2) := by decide +kernel
theorem dL_stems_196 : decode cL_stems 196 = .ok (.iinc 14 1, 3) := by decide +kernel
theorem dL_stems_199 : decode cL_stems 199 = .ok (.goto (-73), 3) := by decide +kernel
theorem dL_stems_202 : decode cL_stems 202 = .ok (.iload 13, 2) := by decide +kernel
theorem dL_stems_204 : decode cL_stems 204 = .ok (.ifCond .ne 12, 3) := by decide +kernel
theorem dL_stems_207 : decode cL_stems 207 = .ok (.aload_n 2, 1) := by decide +kernel
theorem dL_stems_208 : decode cL_stems 208 = .ok (.iload 8, 2) := by decide +kernel
theorem dL_stems_210 : decode cL_stems 210 = .ok (.iaload, 1) := by decide +kernel
theorem dL_stems_211 : decode cL_stems 211 = .ok (.bipush 6, 2) := by decide +kernel
theorem dL_stems_213 : decode cL_stems 213 = .ok (.if_icmp .ne 34, 3) := by decide +kernel
theorem dL_stems_216 : decode cL_stems 216 = .ok (.aload_n 0, 1) := by decide +kernel
theorem dL_stems_217 : decode cL_stems 217 = .ok (.iload 8, 2) := by decide +kernel
theorem dL_stems_219 : decode cL_stems 219 = .ok (.iload 10, 2) := by decide +kernel
theorem dL_stems_221 : decode cL_stems 221 = .ok (.iload 11, 2) := by decide +kernel
theorem dL_stems_223 : decode cL_stems 223 = .ok (.invokevirtual 42, 3) := by decide +kernel
theorem dL_stems_226 : decode cL_stems 226 = .ok (.iload 13, 2) := by decide +kernel
theorem dL_stems_228 : decode cL_stems 228 = .ok (.ifCond .eq 8, 3) := by decide +kernel
theorem dL_stems_231 : decode cL_stems 231 = .ok (.ldc 55, 2) := by decide +kernel
theorem dL_stems_233 : decode cL_stems 233 = .ok (.goto 5, 3) := by decide +kernel
theorem dL_stems_236 : decode cL_stems 236 = .ok (.ldc 56, 2) := by decide +kernel
theorem dL_stems_238 : decode cL_stems 238 = .ok (.if_icmp .ne 7, 3) := by decide +kernel
theorem dL_stems_241 : decode cL_stems 241 = .ok (.iconst 1, 1) := by decide +kernel
theorem dL_stems_242 : decode cL_stems 242 = .ok (.goto 4, 3) := by decide +kernel
theorem dL_stems_245 : decode cL_stems 245 = .ok (.iconst 0, 1) := by decide +kernel
theorem dL_stems_246 : decode cL_stems 246 = .ok (.ireturn, 1) := by decide +kernel
theorem dL_stems_247 : decode cL_stems 247 = .ok (.iload 9, 2) := by decide +kernel
theorem dL_stems_249 : decode cL_stems 249 = .ok (.aload_n 2, 1) := by decide +kernel
theorem dL_stems_250 : decode cL_stems 250 = .ok (.iload 8, 2) := by decide +kernel
theorem dL_stems_252 : decode cL_stems 252 = .ok (.iaload, 1) := by decide +kernel
theorem dL_stems_253 : decode cL_stems 253 = .ok (.iadd, 1) := by decide +kernel
theorem dL_stems_254 : decode cL_stems 254 = .ok (.istore 14, 2) := by decide +kernel
theorem dL_stems_256 : decode cL_stems 256 = .ok (.iload 14, 2) := by decide +kernel
theorem dL_stems_258 : decode cL_stems 258 = .ok (.iload 9, 2) := by decide +kernel
theorem dL_stems_260 : decode cL_stems 260 = .ok (.iload 12, 2) := by decide +kernel
theorem dL_stems_262 : decode cL_stems 262 = .ok (.iadd, 1) := by decide +kernel
theorem dL_stems_263 : decode cL_stems 263 = .ok (.if_icmp .le 43, 3) := by decide +kernel
theorem dL_stems_266 : decode cL_stems 266 = .ok (.aload_n 3, 1) := by decide +kernel
theorem dL_stems_267 : decode cL_stems 267 = .ok (.iload 14, 2) := by decide +kernel
theorem dL_stems_269 : decode cL_stems 269 = .ok (.aload_n 3, 1) := by decide +kernel
theorem dL_stems_270 : decode cL_stems 270 = .ok (.iload 14, 2) := by decide +kernel
theorem dL_stems_272 : decode cL_stems 272 = .ok (.iconst 1, 1) := by decide +kernel
theorem dL_stems_273 : decode cL_stems 273 = .ok (.isub, 1) := by decide +kernel
theorem dL_stems_274 : decode cL_stems 274 = .ok (.iaload, 1) := by decide +kernel
theorem dL_stems_275 : decode cL_stems 275 = .ok (.iastore, 1) := by decide +kernel
theorem dL_stems_276 : decode cL_stems 276 = .ok (.aload 4, 2) := by decide +kernel
theorem dL_stems_278 : decode cL_stems 278 = .ok (.iload 14, 2) := by decide +kernel
theorem dL_stems_280 : decode cL_stems 280 = .ok (.aload 4, 2) := by decide +kernel
theorem dL_stems_282 : decode cL_stems 282 = .ok (.iload 14, 2) := by decide +kernel
theorem dL_stems_284 : decode cL_stems 284 = .ok (.iconst 1, 1) := by decide +kernel
theorem dL_stems_285 : decode cL_stems 285 = .ok (.isub, 1) := by decide +kernel
theorem dL_stems_286 : decode cL_stems 286 = .ok (.iaload, 1) := by decide +kernel
theorem dL_stems_287 : decode cL_stems 287 = .ok (.iastore, 1) := by decide +kernel
theorem dL_stems_288 : decode cL_stems 288 = .ok (.aload 5, 2) := by decide +kernel
theorem dL_stems_290 : decode cL_stems 290 = .ok (.iload 14, 2) := by decide +kernel
theorem dL_stems_292 : decode cL_stems 292 = .ok (.aload 5, 2) := by decide +kernel
theorem dL_stems_294 : decode cL_stems 294 = .ok (.iload 14, 2) := by decide +kernel
theorem dL_stems_296 : decode cL_stems 296 = .ok (.iconst 1, 1) := by decide +kernel
theorem dL_stems_297 : decode cL_stems 297 = .ok (.isub, 1) := by decide +kernel
theorem dL_stems_298 : decode cL_stems 298 = .ok (.iaload, 1) := by decide +kernel
theorem dL_stems_299 : decode cL_stems 299 = .ok (.iastore, 1) := by decide +kernel
theorem dL_stems_300 : decode cL_stems 300 = .ok (.iinc 14 (-1), 3) := by decide +kernel
theorem dL_stems_303 : decode cL_stems 303 = .ok (.goto (-47), 3) := by decide +kernel
theorem dL_stems_306 : decode cL_stems 306 = .ok (.aload_n 3, 1) := by decide +kernel
theorem dL_stems_307 : decode cL_stems 307 = .ok (.iload 9, 2) := by decide +kernel
theorem dL_stems_309 : decode cL_stems 309 = .ok (.iload 12, 2) := by decide +kernel
theorem dL_stems_311 : decode cL_stems 311 = .ok (.iadd, 1) := by decide +kernel
theorem dL_stems_312 : decode cL_stems 312 = .ok (.iload 10, 2) := by decide +kernel
theorem dL_stems_314 : decode cL_stems 314 = .ok (.iastore, 1) := by decide +kernel
theorem dL_stems_315 : decode cL_stems 315 = .ok (.aload 4, 2) := by decide +kernel
theorem dL_stems_317 : decode cL_stems 317 = .ok (.iload 9, 2) := by decide +kernel
theorem dL_stems_319 : decode cL_stems 319 = .ok (.iload 12, 2) := by decide +kernel
theorem dL_stems_321 : decode cL_stems 321 = .ok (.iadd, 1) := by decide +kernel
theorem dL_stems_322 : decode cL_stems 322 = .ok (.iload 11, 2) := by decide +kernel
theorem dL_stems_324 : decode cL_stems 324 = .ok (.iastore, 1) := by decide +kernel
theorem dL_stems_325 : decode cL_stems 325 = .ok (.aload 5, 2) := by decide +kernel
theorem dL_stems_327 : decode cL_stems 327 = .ok (.iload 9, 2) := by decide +kernel
theorem dL_stems_329 : decode cL_stems 329 = .ok (.iload 12, 2) := by decide +kernel
theorem dL_stems_331 : decode cL_stems 331 = .ok (.iadd, 1) := by decide +kernel
theorem dL_stems_332 : decode cL_stems 332 = .ok (.iconst 0, 1) := by decide +kernel
theorem dL_stems_333 : decode cL_stems 333 = .ok (.iastore, 1) := by decide +kernel
theorem dL_stems_334 : decode cL_stems 334 = .ok (.aload_n 2, 1) := by decide +kernel
theorem dL_stems_335 : decode cL_stems 335 = .ok (.iload 8, 2) := by decide +kernel
theorem dL_stems_337 : decode cL_stems 337 = .ok (.dup2, 1) := by decide +kernel
theorem dL_stems_338 : decode cL_stems 338 = .ok (.iaload, 1) := by decide +kernel
theorem dL_stems_339 : decode cL_stems 339 = .ok (.iconst 1, 1) := by decide +kernel
theorem dL_stems_340 : decode cL_stems 340 = .ok (.iadd, 1) := by decide +kernel
theorem dL_stems_341 : decode cL_stems 341 = .ok (.iastore, 1) := by decide +kernel
theorem dL_stems_342 : decode cL_stems 342 = .ok (.aload_n 0, 1) := by decide +kernel
theorem dL_stems_343 : decode cL_stems 343 = .ok (.iload 8, 2) := by decide +kernel
theorem dL_stems_345 : decode cL_stems 345 = .ok (.iload 10, 2) := by decide +kernel
theorem dL_stems_347 : decode cL_stems 347 = .ok (.iload 11, 2) := by decide +kernel
theorem dL_stems_349 : decode cL_stems 349 = .ok (.invokevirtual 42, 3) := by decide +kernel
theorem dL_stems_352 : decode cL_stems 352 = .ok (.iload 12, 2) := by decide +kernel
theorem dL_stems_354 : decode cL_stems 354 = .ok (.if_icmp .ne 7, 3) := by decide +kernel
theorem dL_stems_357 : decode cL_stems 357 = .ok (.iconst 1, 1) := by decide +kernel
theorem dL_stems_358 : decode cL_stems 358 = .ok (.goto 4, 3) := by decide +kernel
theorem dL_stems_361 : decode cL_stems 361 = .ok (.iconst 0, 1) := by decide +kernel
theorem dL_stems_362 : decode cL_stems 362 = .ok (.ireturn, 1) := by decide +kernel
theorem dL_stems_363 : decode cL_stems 363 = .ok (.aload_n 2, 1) := by decide +kernel
theorem dL_stems_364 : decode cL_stems 364 = .ok (.iload 8, 2) := by decide +kernel
theorem dL_stems_366 : decode cL_stems 366 = .ok (.iaload, 1) := by decide +kernel
theorem dL_stems_367 : decode cL_stems 367 = .ok (.ifCond .ne 34, 3) := by decide +kernel
theorem dL_stems_370 : decode cL_stems 370 = .ok (.aload_n 0, 1) := by decide +kernel
theorem dL_stems_371 : decode cL_stems 371 = .ok (.iload 8, 2) := by decide +kernel
theorem dL_stems_373 : decode cL_stems 373 = .ok (.iconst 0, 1) := by decide +kernel
theorem dL_stems_374 : decode cL_stems 374 = .ok (.invokevirtual 49, 3) := by decide +kernel
theorem dL_stems_377 : decode cL_stems 377 = .ok (.ldc 48, 2) := by decide +kernel
theorem dL_stems_379 : decode cL_stems 379 = .ok (.if_icmp .ne 20, 3) := by decide +kernel
theorem dL_stems_382 : decode cL_stems 382 = .ok (.aload_n 0, 1) := by decide +kernel
theorem dL_stems_383 : decode cL_stems 383 = .ok (.iload 8, 2) := by decide +kernel
theorem dL_stems_385 : decode cL_stems 385 = .ok (.iconst 0, 1) := by decide +kernel
theorem dL_stems_386 : decode cL_stems 386 = .ok (.iconst 1, 1) := by decide +kernel
theorem dL_stems_387 : decode cL_stems 387 = .ok (.invokevirtual 52, 3) := by decide +kernel
theorem dL_stems_390 : decode cL_stems 390 = .ok (.ldc 48, 2) := by decide +kernel
theorem dL_stems_392 : decode cL_stems 392 = .ok (.if_icmp .ne 7, 3) := by decide +kernel
theorem dL_stems_395 : decode cL_stems 395 = .ok (.iconst 1, 1) := by decide +kernel
theorem dL_stems_396 : decode cL_stems 396 = .ok (.goto 4, 3) := by decide +kernel
theorem dL_stems_399 : decode cL_stems 399 = .ok (.iconst 0, 1) := by decide +kernel
theorem dL_stems_400 : decode cL_stems 400 = .ok (.ireturn, 1) := by decide +kernel
theorem dL_stems_401 : decode cL_stems 401 = .ok (.iload 7, 2) := by decide +kernel
theorem dL_stems_403 : decode cL_stems 403 = .ok (.bipush 8, 2) := by decide +kernel
theorem dL_stems_405 : decode cL_stems 405 = .ok (.idiv, 1) := by decide +kernel
theorem dL_stems_406 : decode cL_stems 406 = .ok (.aload_n 2, 1) := by decide +kernel
theorem dL_stems_407 : decode cL_stems 407 = .ok (.iload 8, 2) := by decide +kernel
theorem dL_stems_409 : decode cL_stems 409 = .ok (.iaload, 1) := by decide +kernel
theorem dL_stems_410 : decode cL_stems 410 = .ok (.irem, 1) := by decide +kernel
theorem dL_stems_411 : decode cL_stems 411 = .ok (.istore 10, 2) := by decide +kernel
theorem dL_stems_413 : decode cL_stems 413 = .ok (.iload 6, 2) := by decide +kernel
theorem dL_stems_415 : decode cL_stems 415 = .ok (.iconst 1, 1) := by decide +kernel
theorem dL_stems_416 : decode cL_stems 416 = .ok (.if_icmp .ne 55, 3) := by decide +kernel
theorem dL_stems_419 : decode cL_stems 419 = .ok (.aload 5, 2) := by decide +kernel
theorem dL_stems_421 : decode cL_stems 421 = .ok (.iload 9, 2) := by decide +kernel
theorem dL_stems_423 : decode cL_stems 423 = .ok (.iload 10, 2) := by decide +kernel
theorem dL_stems_425 : decode cL_stems 425 = .ok (.iadd, 1) := by decide +kernel
theorem dL_stems_426 : decode cL_stems 426 = .ok (.iaload, 1) := by decide +kernel
theorem dL_stems_427 : decode cL_stems 427 = .ok (.istore 11, 2) := by decide +kernel
theorem dL_stems_429 : decode cL_stems 429 = .ok (.aload 5, 2) := by decide +kernel
theorem dL_stems_431 : decode cL_stems 431 = .ok (.iload 9, 2) := by decide +kernel
theorem dL_stems_433 : decode cL_stems 433 = .ok (.iload 10, 2) := by decide +kernel
theorem dL_stems_435 : decode cL_stems 435 = .ok (.iadd, 1) := by decide +kernel
theorem dL_stems_436 : decode cL_stems 436 = .ok (.iload 7, 2) := by decide +kernel
theorem dL_stems_438 : decode cL_stems 438 = .ok (.bipush 48, 2) := by decide +kernel
theorem dL_stems_440 : decode cL_stems 440 = .ok (.idiv, 1) := by decide +kernel
theorem dL_stems_441 : decode cL_stems 441 = .ok (.iconst 4, 1) := by decide +kernel
theorem dL_stems_442 : decode cL_stems 442 = .ok (.irem, 1) := by decide +kernel
theorem dL_stems_443 : decode cL_stems 443 = .ok (.iastore, 1) := by decide +kernel
theorem dL_stems_444 : decode cL_stems 444 = .ok (.aload_n 0, 1) := by decide +kernel
theorem dL_stems_445 : decode cL_stems 445 = .ok (.iload 8, 2) := by decide +kernel
theorem dL_stems_447 : decode cL_stems 447 = .ok (.iload 10, 2) := by decide +kernel
theorem dL_stems_449 : decode cL_stems 449 = .ok (.aload 5, 2) := by decide +kernel
theorem dL_stems_451 : decode cL_stems 451 = .ok (.iload 9, 2) := by decide +kernel
theorem dL_stems_453 : decode cL_stems 453 = .ok (.iload 10, 2) := by decide +kernel
theorem dL_stems_455 : decode cL_stems 455 = .ok (.iadd, 1) := by decide +kernel
theorem dL_stems_456 : decode cL_stems 456 = .ok (.iaload, 1) := by decide +kernel
theorem dL_stems_457 : decode cL_stems 457 = .ok (.invokevirtual 52, 3) := by decide +kernel
theorem dL_stems_460 : decode cL_stems 460 = .ok (.iload 11, 2) := by decide +kernel
theorem dL_stems_462 : decode cL_stems 462 = .ok (.if_icmp .ne 7, 3) := by decide +kernel
theorem dL_stems_465 : decode cL_stems 465 = .ok (.iconst 1, 1) := by decide +kernel
theorem dL_stems_466 : decode cL_stems 466 = .ok (.goto 4, 3) := by decide +kernel
theorem dL_stems_469 : decode cL_stems 469 = .ok (.iconst 0, 1) := by decide +kernel
theorem dL_stems_470 : decode cL_stems 470 = .ok (.ireturn, 1) := by decide +kernel
theorem dL_stems_471 : decode cL_stems 471 = .ok (.aload_n 2, 1) := by decide +kernel
theorem dL_stems_472 : decode cL_stems 472 = .ok (.iload 8, 2) := by decide +kernel
theorem dL_stems_474 : decode cL_stems 474 = .ok (.dup2, 1) := by decide +kernel
theorem dL_stems_475 : decode cL_stems 475 = .ok (.iaload, 1) := by decide +kernel
theorem dL_stems_476 : decode cL_stems 476 = .ok (.iconst 1, 1) := by decide +kernel
theorem dL_stems_477 : decode cL_stems 477 = .ok (.isub, 1) := by decide +kernel
theorem dL_stems_478 : decode cL_stems 478 = .ok (.iastore, 1) := by decide +kernel
theorem dL_stems_479 : decode cL_stems 479 = .ok (.iload 9, 2) := by decide +kernel
theorem dL_stems_481 : decode cL_stems 481 = .ok (.iload 10, 2) := by decide +kernel
theorem dL_stems_483 : decode cL_stems 483 = .ok (.iadd, 1) := by decide +kernel
theorem dL_stems_484 : decode cL_stems 484 = .ok (.istore 11, 2) := by decide +kernel
theorem dL_stems_486 : decode cL_stems 486 = .ok (.iload 11, 2) := by decide +kernel
theorem dL_stems_488 : decode cL_stems 488 = .ok (.iload 9, 2) := by decide +kernel
theorem dL_stems_490 : decode cL_stems 490 = .ok (.aload_n 2, 1) := by decide +kernel
theorem dL_stems_491 : decode cL_stems 491 = .ok (.iload 8, 2) := by decide +kernel
theorem dL_stems_493 : decode cL_stems 493 = .ok (.iaload, 1) := by decide +kernel
theorem dL_stems_494 : decode cL_stems 494 = .ok (.iadd, 1) := by decide +kernel
theorem dL_stems_495 : decode cL_stems 495 = .ok (.if_icmp .ge 43, 3) := by decide +kernel
theorem dL_stems_498 : decode cL_stems 498 = .ok (.aload_n 3, 1) := by decide +kernel
theorem dL_stems_499 : decode cL_stems 499 = .ok (.iload 11, 2) := by decide +kernel
theorem dL_stems_501 : decode cL_stems 501 = .ok (.aload_n 3, 1) := by decide +kernel
theorem dL_stems_502 : decode cL_stems 502 = .ok (.iload 11, 2) := by decide +kernel
theorem dL_stems_504 : decode cL_stems 504 = .ok (.iconst 1, 1) := by decide +kernel
theorem dL_stems_505 : decode cL_stems 505 = .ok (.iadd, 1) := by decide +kernel
theorem dL_stems_506 : decode cL_stems 506 = .ok (.iaload, 1) := by decide +kernel
theorem dL_stems_507 : decode cL_stems 507 = .ok (.iastore, 1) := by decide +kernel
theorem dL_stems_508 : decode cL_stems 508 = .ok (.aload 4, 2) := by decide +kernel
theorem dL_stems_510 : decode cL_stems 510 = .ok (.iload 11, 2) := by decide +kernel
theorem dL_stems_512 : decode cL_stems 512 = .ok (.aload 4, 2) := by decide +kernel
theorem dL_stems_514 : decode cL_stems 514 = .ok (.iload 11, 2) := by decide +kernel
theorem dL_stems_516 : decode cL_stems 516 = .ok (.iconst 1, 1) := by decide +kernel
theorem dL_stems_517 : decode cL_stems 517 = .ok (.iadd, 1) := by decide +kernel
theorem dL_stems_518 : decode cL_stems 518 = .ok (.iaload, 1) := by decide +kernel
theorem dL_stems_519 : decode cL_stems 519 = .ok (.iastore, 1) := by decide +kernel
theorem dL_stems_520 : decode cL_stems 520 = .ok (.aload 5, 2) := by decide +kernel
theorem dL_stems_522 : decode cL_stems 522 = .ok (.iload 11, 2) := by decide +kernel
theorem dL_stems_524 : decode cL_stems 524 = .ok (.aload 5, 2) := by decide +kernel
theorem dL_stems_526 : decode cL_stems 526 = .ok (.iload 11, 2) := by decide +kernel
theorem dL_stems_528 : decode cL_stems 528 = .ok (.iconst 1, 1) := by decide +kernel
theorem dL_stems_529 : decode cL_stems 529 = .ok (.iadd, 1) := by decide +kernel
theorem dL_stems_530 : decode cL_stems 530 = .ok (.iaload, 1) := by decide +kernel
theorem dL_stems_531 : decode cL_stems 531 = .ok (.iastore, 1) := by decide +kernel
theorem dL_stems_532 : decode cL_stems 532 = .ok (.iinc 11 1, 3) := by decide +kernel
theorem dL_stems_535 : decode cL_stems 535 = .ok (.goto (-49), 3) := by decide +kernel
theorem dL_stems_538 : decode cL_stems 538 = .ok (.aload_n 0, 1) := by decide +kernel
theorem dL_stems_539 : decode cL_stems 539 = .ok (.iload 8, 2) := by decide +kernel
theorem dL_stems_541 : decode cL_stems 541 = .ok (.iload 10, 2) := by decide +kernel
theorem dL_stems_543 : decode cL_stems 543 = .ok (.invokevirtual 49, 3) := by decide +kernel
theorem dL_stems_546 : decode cL_stems 546 = .ok (.aload_n 2, 1) := by decide +kernel
theorem dL_stems_547 : decode cL_stems 547 = .ok (.iload 8, 2) := by decide +kernel
theorem dL_stems_549 : decode cL_stems 549 = .ok (.iaload, 1) := by decide +kernel
theorem dL_stems_550 : decode cL_stems 550 = .ok (.if_icmp .ne 7, 3) := by decide +kernel
theorem dL_stems_553 : decode cL_stems 553 = .ok (.iconst 1, 1) := by decide +kernel
theorem dL_stems_554 : decode cL_stems 554 = .ok (.goto 4, 3) := by decide +kernel
theorem dL_stems_557 : decode cL_stems 557 = .ok (.iconst 0, 1) := by decide +kernel
theorem dL_stems_558 : decode cL_stems 558 = .ok (.ireturn, 1) := by decide +kernel
theorem dL_acts_0 : decode cL_acts 0 = .ok (.iload 12, 2) := by decide +kernel
theorem dL_acts_2 : decode cL_acts 2 = .ok (.iconst 5, 1) := by decide +kernel
theorem dL_acts_3 : decode cL_acts 3 = .ok (.ishr, 1) := by decide +kernel
theorem dL_acts_4 : decode cL_acts 4 = .ok (.ldc 57, 2) := by decide +kernel
theorem dL_acts_6 : decode cL_acts 6 = .ok (.invokestatic 58, 3) := by decide +kernel
theorem dL_acts_9 : decode cL_acts 9 = .ok (.istore 13, 2) := by decide +kernel
theorem dL_acts_11 : decode cL_acts 11 = .ok (.iload 12, 2) := by decide +kernel
theorem dL_acts_13 : decode cL_acts 13 = .ok (.bipush 32, 2) := by decide +kernel
theorem dL_acts_15 : decode cL_acts 15 = .ok (.invokestatic 58, 3) := by decide +kernel
theorem dL_acts_18 : decode cL_acts 18 = .ok (.istore 14, 2) := by decide +kernel
theorem dL_acts_20 : decode cL_acts 20 = .ok (.iload 14, 2) := by decide +kernel
theorem dL_acts_22 : decode cL_acts 22 = .ok (.iconst 3, 1) := by decide +kernel
theorem dL_acts_23 : decode cL_acts 23 = .ok (.if_icmp .ge 79, 3) := by decide +kernel
theorem dL_acts_26 : decode cL_acts 26 = .ok (.bipush 100, 2) := by decide +kernel
theorem dL_acts_28 : decode cL_acts 28 = .ok (.iload 13, 2) := by decide +kernel
theorem dL_acts_30 : decode cL_acts 30 = .ok (.sipush 1401, 3) := by decide +kernel
theorem dL_acts_33 : decode cL_acts 33 = .ok (.irem, 1) := by decide +kernel
theorem dL_acts_34 : decode cL_acts 34 = .ok (.iadd, 1) := by decide +kernel
theorem dL_acts_35 : decode cL_acts 35 = .ok (.istore 15, 2) := by decide +kernel
theorem dL_acts_37 : decode cL_acts 37 = .ok (.aload_n 1, 1) := by decide +kernel
theorem dL_acts_38 : decode cL_acts 38 = .ok (.iconst 0, 1) := by decide +kernel
theorem dL_acts_39 : decode cL_acts 39 = .ok (.iaload, 1) := by decide +kernel
theorem dL_acts_40 : decode cL_acts 40 = .ok (.bipush 8, 2) := by decide +kernel
theorem dL_acts_42 : decode cL_acts 42 = .ok (.if_icmp .ne 20, 3) := by decide +kernel
theorem dL_acts_45 : decode cL_acts 45 = .ok (.aload_n 0, 1) := by decide +kernel
theorem dL_acts_46 : decode cL_acts 46 = .ok (.iload 15, 2) := by decide +kernel
theorem dL_acts_48 : decode cL_acts 48 = .ok (.invokevirtual 61, 3) := by decide +kernel
theorem dL_acts_51 : decode cL_acts 51 = .ok (.ldc 56, 2) := by decide +kernel
theorem dL_acts_53 : decode cL_acts 53 = .ok (.if_icmp .ne 7, 3) := by decide +kernel
theorem dL_acts_56 : decode cL_acts 56 = .ok (.iconst 1, 1) := by decide +kernel
theorem dL_acts_57 : decode cL_acts 57 = .ok (.goto 4, 3) := by decide +kernel
theorem dL_acts_60 : decode cL_acts 60 = .ok (.iconst 0, 1) := by decide +kernel
theorem dL_acts_61 : decode cL_acts 61 = .ok (.ireturn, 1) := by decide +kernel
theorem dL_acts_62 : decode cL_acts 62 = .ok (.aload_n 2, 1) := by decide +kernel
theorem dL_acts_63 : decode cL_acts 63 = .ok (.aload_n 1, 1) := by decide +kernel
theorem dL_acts_64 : decode cL_acts 64 = .ok (.iconst 0, 1) := by decide +kernel
theorem dL_acts_65 : decode cL_acts 65 = .ok (.iaload, 1) := by decide +kernel
theorem dL_acts_66 : decode cL_acts 66 = .ok (.iload 15, 2) := by decide +kernel
theorem dL_acts_68 : decode cL_acts 68 = .ok (.iastore, 1) := by decide +kernel
theorem dL_acts_69 : decode cL_acts 69 = .ok (.aload_n 3, 1) := by decide +kernel
theorem dL_acts_70 : decode cL_acts 70 = .ok (.aload_n 1, 1) := by decide +kernel
theorem dL_acts_71 : decode cL_acts 71 = .ok (.iconst 0, 1) := by decide +kernel
theorem dL_acts_72 : decode cL_acts 72 = .ok (.iaload, 1) := by decide +kernel
theorem dL_acts_73 : decode cL_acts 73 = .ok (.iconst 0, 1) := by decide +kernel
theorem dL_acts_74 : decode cL_acts 74 = .ok (.iastore, 1) := by decide +kernel
theorem dL_acts_75 : decode cL_acts 75 = .ok (.aload_n 1, 1) := by decide +kernel
theorem dL_acts_76 : decode cL_acts 76 = .ok (.iconst 0, 1) := by decide +kernel
theorem dL_acts_77 : decode cL_acts 77 = .ok (.dup2, 1) := by decide +kernel
theorem dL_acts_78 : decode cL_acts 78 = .ok (.iaload, 1) := by decide +kernel
theorem dL_acts_79 : decode cL_acts 79 = .ok (.iconst 1, 1) := by decide +kernel
theorem dL_acts_80 : decode cL_acts 80 = .ok (.iadd, 1) := by decide +kernel
theorem dL_acts_81 : decode cL_acts 81 = .ok (.iastore, 1) := by decide +kernel
theorem dL_acts_82 : decode cL_acts 82 = .ok (.aload_n 0, 1) := by decide +kernel
theorem dL_acts_83 : decode cL_acts 83 = .ok (.iload 15, 2) := by decide +kernel
theorem dL_acts_85 : decode cL_acts 85 = .ok (.invokevirtual 61, 3) := by decide +kernel
theorem dL_acts_88 : decode cL_acts 88 = .ok (.aload_n 1, 1) := by decide +kernel
theorem dL_acts_89 : decode cL_acts 89 = .ok (.iconst 0, 1) := by decide +kernel
theorem dL_acts_90 : decode cL_acts 90 = .ok (.iaload, 1) := by decide +kernel
theorem dL_acts_91 : decode cL_acts 91 = .ok (.iconst 1, 1) := by decide +kernel
theorem dL_acts_92 : decode cL_acts 92 = .ok (.isub, 1) := by decide +kernel
theorem dL_acts_93 : decode cL_acts 93 = .ok (.if_icmp .ne 7, 3) := by decide +kernel
theorem dL_acts_96 : decode cL_acts 96 = .ok (.iconst 1, 1) := by decide +kernel
theorem dL_acts_97 : decode cL_acts 97 = .ok (.goto 4, 3) := by decide +kernel
theorem dL_acts_100 : decode cL_acts 100 = .ok (.iconst 0, 1) := by decide +kernel
theorem dL_acts_101 : decode cL_acts 101 = .ok (.ireturn, 1) := by decide +kernel
theorem dL_acts_102 : decode cL_acts 102 = .ok (.iload 14, 2) := by decide +kernel
theorem dL_acts_104 : decode cL_acts 104 = .ok (.bipush 22, 2) := by decide +kernel

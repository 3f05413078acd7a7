theorem dX0_init_0 : decode cX0_init 0 = .ok (.aload_n 0, 1) := by decide +kernel
theorem dX0_init_1 : decode cX0_init 1 = .ok (.invokespecial 3, 3) := by decide +kernel
theorem dX0_init_4 : decode cX0_init 4 = .ok (.aload_n 0, 1) := by decide +kernel
theorem dX0_init_5 : decode cX0_init 5 = .ok (.bipush 6, 2) := by decide +kernel
theorem dX0_init_7 : decode cX0_init 7 = .ok (.newarray .int, 2) := by decide +kernel
theorem dX0_init_9 : decode cX0_init 9 = .ok (.putfield 9, 3) := by decide +kernel
theorem dX0_init_12 : decode cX0_init 12 = .ok (.aload_n 0, 1) := by decide +kernel
theorem dX0_init_13 : decode cX0_init 13 = .ok (.bipush 6, 2) := by decide +kernel
theorem dX0_init_15 : decode cX0_init 15 = .ok (.newarray .int, 2) := by decide +kernel
theorem dX0_init_17 : decode cX0_init 17 = .ok (.putfield 15, 3) := by decide +kernel
theorem dX0_init_20 : decode cX0_init 20 = .ok (.aload_n 0, 1) := by decide +kernel
theorem dX0_init_21 : decode cX0_init 21 = .ok (.bipush 48, 2) := by decide +kernel
theorem dX0_init_23 : decode cX0_init 23 = .ok (.newarray .int, 2) := by decide +kernel
theorem dX0_init_25 : decode cX0_init 25 = .ok (.putfield 18, 3) := by decide +kernel
theorem dX0_init_28 : decode cX0_init 28 = .ok (.return_, 1) := by decide +kernel
theorem dX0_lay_0 : decode cX0_lay 0 = .ok (.aload_n 1, 1) := by decide +kernel
theorem dX0_lay_1 : decode cX0_lay 1 = .ok (.getfield 21, 3) := by decide +kernel
theorem dX0_lay_4 : decode cX0_lay 4 = .ok (.iload_n 2, 1) := by decide +kernel
theorem dX0_lay_5 : decode cX0_lay 5 = .ok (.invokestatic 26, 3) := by decide +kernel
theorem dX0_lay_8 : decode cX0_lay 8 = .ok (.istore 4, 2) := by decide +kernel
theorem dX0_lay_10 : decode cX0_lay 10 = .ok (.aload_n 0, 1) := by decide +kernel
theorem dX0_lay_11 : decode cX0_lay 11 = .ok (.aload_n 1, 1) := by decide +kernel
theorem dX0_lay_12 : decode cX0_lay 12 = .ok (.getfield 30, 3) := by decide +kernel
theorem dX0_lay_15 : decode cX0_lay 15 = .ok (.iload_n 2, 1) := by decide +kernel
theorem dX0_lay_16 : decode cX0_lay 16 = .ok (.invokestatic 26, 3) := by decide +kernel
theorem dX0_lay_19 : decode cX0_lay 19 = .ok (.iload_n 3, 1) := by decide +kernel
theorem dX0_lay_20 : decode cX0_lay 20 = .ok (.invokestatic 33, 3) := by decide +kernel
theorem dX0_lay_23 : decode cX0_lay 23 = .ok (.putfield 37, 3) := by decide +kernel
theorem dX0_lay_26 : decode cX0_lay 26 = .ok (.aload_n 0, 1) := by decide +kernel
theorem dX0_lay_27 : decode cX0_lay 27 = .ok (.iconst 0, 1) := by decide +kernel
theorem dX0_lay_28 : decode cX0_lay 28 = .ok (.putfield 41, 3) := by decide +kernel
theorem dX0_lay_31 : decode cX0_lay 31 = .ok (.aload_n 0, 1) := by decide +kernel
theorem dX0_lay_32 : decode cX0_lay 32 = .ok (.iconst 0, 1) := by decide +kernel
theorem dX0_lay_33 : decode cX0_lay 33 = .ok (.putfield 44, 3) := by decide +kernel
theorem dX0_lay_36 : decode cX0_lay 36 = .ok (.aload_n 0, 1) := by decide +kernel
theorem dX0_lay_37 : decode cX0_lay 37 = .ok (.lconst 0, 1) := by decide +kernel
theorem dX0_lay_38 : decode cX0_lay 38 = .ok (.putfield 47, 3) := by decide +kernel
theorem dX0_lay_41 : decode cX0_lay 41 = .ok (.iconst 0, 1) := by decide +kernel
theorem dX0_lay_42 : decode cX0_lay 42 = .ok (.istore 5, 2) := by decide +kernel
theorem dX0_lay_44 : decode cX0_lay 44 = .ok (.iconst 0, 1) := by decide +kernel
theorem dX0_lay_45 : decode cX0_lay 45 = .ok (.istore 6, 2) := by decide +kernel
theorem dX0_lay_47 : decode cX0_lay 47 = .ok (.iconst 0, 1) := by decide +kernel
theorem dX0_lay_48 : decode cX0_lay 48 = .ok (.istore 7, 2) := by decide +kernel
theorem dX0_lay_50 : decode cX0_lay 50 = .ok (.iload 7, 2) := by decide +kernel
theorem dX0_lay_52 : decode cX0_lay 52 = .ok (.iload 4, 2) := by decide +kernel
theorem dX0_lay_54 : decode cX0_lay 54 = .ok (.if_icmp .ge 167, 3) := by decide +kernel
theorem dX0_lay_57 : decode cX0_lay 57 = .ok (.iload_n 2, 1) := by decide +kernel
theorem dX0_lay_58 : decode cX0_lay 58 = .ok (.bipush 6, 2) := by decide +kernel
theorem dX0_lay_60 : decode cX0_lay 60 = .ok (.imul, 1) := by decide +kernel
theorem dX0_lay_61 : decode cX0_lay 61 = .ok (.iload 7, 2) := by decide +kernel
theorem dX0_lay_63 : decode cX0_lay 63 = .ok (.iadd, 1) := by decide +kernel
theorem dX0_lay_64 : decode cX0_lay 64 = .ok (.istore 8, 2) := by decide +kernel
theorem dX0_lay_66 : decode cX0_lay 66 = .ok (.aload_n 1, 1) := by decide +kernel
theorem dX0_lay_67 : decode cX0_lay 67 = .ok (.getfield 51, 3) := by decide +kernel
theorem dX0_lay_70 : decode cX0_lay 70 = .ok (.iload 8, 2) := by decide +kernel
theorem dX0_lay_72 : decode cX0_lay 72 = .ok (.invokestatic 26, 3) := by decide +kernel
theorem dX0_lay_75 : decode cX0_lay 75 = .ok (.iload 6, 2) := by decide +kernel
theorem dX0_lay_77 : decode cX0_lay 77 = .ok (.isub, 1) := by decide +kernel
theorem dX0_lay_78 : decode cX0_lay 78 = .ok (.istore 9, 2) := by decide +kernel
theorem dX0_lay_80 : decode cX0_lay 80 = .ok (.aload_n 1, 1) := by decide +kernel
theorem dX0_lay_81 : decode cX0_lay 81 = .ok (.aload_n 1, 1) := by decide +kernel
theorem dX0_lay_82 : decode cX0_lay 82 = .ok (.getfield 54, 3) := by decide +kernel
theorem dX0_lay_85 : decode cX0_lay 85 = .ok (.iload 8, 2) := by decide +kernel
theorem dX0_lay_87 : decode cX0_lay 87 = .ok (.invokestatic 26, 3) := by decide +kernel
theorem dX0_lay_90 : decode cX0_lay 90 = .ok (.iload_n 3, 1) := by decide +kernel
theorem dX0_lay_91 : decode cX0_lay 91 = .ok (.invokevirtual 57, 3) := by decide +kernel
theorem dX0_lay_94 : decode cX0_lay 94 = .ok (.istore 10, 2) := by decide +kernel
theorem dX0_lay_96 : decode cX0_lay 96 = .ok (.iload 7, 2) := by decide +kernel
theorem dX0_lay_98 : decode cX0_lay 98 = .ok (.ifCond .le 37, 3) := by decide +kernel
theorem dX0_lay_101 : decode cX0_lay 101 = .ok (.aload_n 1, 1) := by decide +kernel
theorem dX0_lay_102 : decode cX0_lay 102 = .ok (.getfield 60, 3) := by decide +kernel
theorem dX0_lay_105 : decode cX0_lay 105 = .ok (.iload 8, 2) := by decide +kernel
theorem dX0_lay_107 : decode cX0_lay 107 = .ok (.invokestatic 26, 3) := by decide +kernel
theorem dX0_lay_110 : decode cX0_lay 110 = .ok (.iconst 3, 1) := by decide +kernel
theorem dX0_lay_111 : decode cX0_lay 111 = .ok (.if_icmp .ne 24, 3) := by decide +kernel
theorem dX0_lay_114 : decode cX0_lay 114 = .ok (.iload 5, 2) := by decide +kernel
theorem dX0_lay_116 : decode cX0_lay 116 = .ok (.iload 9, 2) := by decide +kernel
theorem dX0_lay_118 : decode cX0_lay 118 = .ok (.iload_n 3, 1) := by decide +kernel
theorem dX0_lay_119 : decode cX0_lay 119 = .ok (.invokestatic 63, 3) := by decide +kernel
theorem dX0_lay_122 : decode cX0_lay 122 = .ok (.aload_n 1, 1) := by decide +kernel
theorem dX0_lay_123 : decode cX0_lay 123 = .ok (.getfield 66, 3) := by decide +kernel
theorem dX0_lay_126 : decode cX0_lay 126 = .ok (.invokestatic 69, 3) := by decide +kernel
theorem dX0_lay_129 : decode cX0_lay 129 = .ok (.iadd, 1) := by decide +kernel
theorem dX0_lay_130 : decode cX0_lay 130 = .ok (.istore 11, 2) := by decide +kernel
theorem dX0_lay_132 : decode cX0_lay 132 = .ok (.goto 14, 3) := by decide +kernel
theorem dX0_lay_135 : decode cX0_lay 135 = .ok (.aload_n 1, 1) := by decide +kernel
theorem dX0_lay_136 : decode cX0_lay 136 = .ok (.iload 8, 2) := by decide +kernel
theorem dX0_lay_138 : decode cX0_lay 138 = .ok (.iload_n 3, 1) := by decide +kernel
theorem dX0_lay_139 : decode cX0_lay 139 = .ok (.iload 10, 2) := by decide +kernel
theorem dX0_lay_141 : decode cX0_lay 141 = .ok (.invokestatic 74, 3) := by decide +kernel
theorem dX0_lay_144 : decode cX0_lay 144 = .ok (.istore 11, 2) := by decide +kernel
theorem dX0_lay_146 : decode cX0_lay 146 = .ok (.iload 5, 2) := by decide +kernel
theorem dX0_lay_148 : decode cX0_lay 148 = .ok (.iload 9, 2) := by decide +kernel
theorem dX0_lay_150 : decode cX0_lay 150 = .ok (.ifCond .le 7, 3) := by decide +kernel
theorem dX0_lay_153 : decode cX0_lay 153 = .ok (.iconst 1, 1) := by decide +kernel
theorem dX0_lay_154 : decode cX0_lay 154 = .ok (.goto 4, 3) := by decide +kernel
theorem dX0_lay_157 : decode cX0_lay 157 = .ok (.iconst 0, 1) := by decide +kernel
theorem dX0_lay_158 : decode cX0_lay 158 = .ok (.iadd, 1) := by decide +kernel
theorem dX0_lay_159 : decode cX0_lay 159 = .ok (.istore 12, 2) := by decide +kernel
theorem dX0_lay_161 : decode cX0_lay 161 = .ok (.iload 7, 2) := by decide +kernel
theorem dX0_lay_163 : decode cX0_lay 163 = .ok (.ifCond .le 27, 3) := by decide +kernel
theorem dX0_lay_166 : decode cX0_lay 166 = .ok (.iload 11, 2) := by decide +kernel
theorem dX0_lay_168 : decode cX0_lay 168 = .ok (.iload 12, 2) := by decide +kernel
theorem dX0_lay_170 : decode cX0_lay 170 = .ok (.if_icmp .ge 20, 3) := by decide +kernel
theorem dX0_lay_173 : decode cX0_lay 173 = .ok (.iload 12, 2) := by decide +kernel
theorem dX0_lay_175 : decode cX0_lay 175 = .ok (.istore 11, 2) := by decide +kernel
theorem dX0_lay_177 : decode cX0_lay 177 = .ok (.aload_n 0, 1) := by decide +kernel
theorem dX0_lay_178 : decode cX0_lay 178 = .ok (.dup, 1) := by decide +kernel
theorem dX0_lay_179 : decode cX0_lay 179 = .ok (.getfield 41, 3) := by decide +kernel
theorem dX0_lay_182 : decode cX0_lay 182 = .ok (.iconst 1, 1) := by decide +kernel
theorem dX0_lay_183 : decode cX0_lay 183 = .ok (.iload 7, 2) := by decide +kernel
theorem dX0_lay_185 : decode cX0_lay 185 = .ok (.ishl, 1) := by decide +kernel
theorem dX0_lay_186 : decode cX0_lay 186 = .ok (.ior, 1) := by decide +kernel
theorem dX0_lay_187 : decode cX0_lay 187 = .ok (.putfield 41, 3) := by decide +kernel
theorem dX0_lay_190 : decode cX0_lay 190 = .ok (.aload_n 0, 1) := by decide +kernel
theorem dX0_lay_191 : decode cX0_lay 191 = .ok (.iload 7, 2) := by decide +kernel
theorem dX0_lay_193 : decode cX0_lay 193 = .ok (.iload 11, 2) := by decide +kernel
theorem dX0_lay_195 : decode cX0_lay 195 = .ok (.iload 10, 2) := by decide +kernel
theorem dX0_lay_197 : decode cX0_lay 197 = .ok (.invokevirtual 78, 3) := by decide +kernel
theorem dX0_lay_200 : decode cX0_lay 200 = .ok (.iload 11, 2) := by decide +kernel
theorem dX0_lay_202 : decode cX0_lay 202 = .ok (.iload 10, 2) := by decide +kernel
theorem dX0_lay_204 : decode cX0_lay 204 = .ok (.iadd, 1) := by decide +kernel
theorem dX0_lay_205 : decode cX0_lay 205 = .ok (.istore 5, 2) := by decide +kernel
theorem dX0_lay_207 : decode cX0_lay 207 = .ok (.aload_n 1, 1) := by decide +kernel
theorem dX0_lay_208 : decode cX0_lay 208 = .ok (.iload 8, 2) := by decide +kernel
theorem dX0_lay_210 : decode cX0_lay 210 = .ok (.invokevirtual 82, 3) := by decide +kernel
theorem dX0_lay_213 : decode cX0_lay 213 = .ok (.istore 6, 2) := by decide +kernel
theorem dX0_lay_215 : decode cX0_lay 215 = .ok (.iinc 7 1, 3) := by decide +kernel
theorem dX0_lay_218 : decode cX0_lay 218 = .ok (.goto (-168), 3) := by decide +kernel
theorem dX0_lay_221 : decode cX0_lay 221 = .ok (.return_, 1) := by decide +kernel
theorem dX0_light_0 : decode cX0_light 0 = .ok (.aload_n 0, 1) := by decide +kernel
theorem dX0_light_1 : decode cX0_light 1 = .ok (.getfield 9, 3) := by decide +kernel
theorem dX0_light_4 : decode cX0_light 4 = .ok (.iload_n 1, 1) := by decide +kernel
theorem dX0_light_5 : decode cX0_light 5 = .ok (.iload_n 2, 1) := by decide +kernel
theorem dX0_light_6 : decode cX0_light 6 = .ok (.invokestatic 86, 3) := by decide +kernel
theorem dX0_light_9 : decode cX0_light 9 = .ok (.aload_n 0, 1) := by decide +kernel
theorem dX0_light_10 : decode cX0_light 10 = .ok (.getfield 15, 3) := by decide +kernel
theorem dX0_light_13 : decode cX0_light 13 = .ok (.iload_n 1, 1) := by decide +kernel
theorem dX0_light_14 : decode cX0_light 14 = .ok (.iload_n 3, 1) := by decide +kernel
theorem dX0_light_15 : decode cX0_light 15 = .ok (.invokestatic 86, 3) := by decide +kernel
theorem dX0_light_18 : decode cX0_light 18 = .ok (.iload_n 2, 1) := by decide +kernel
theorem dX0_light_19 : decode cX0_light 19 = .ok (.ifCond .lt 13, 3) := by decide +kernel
theorem dX0_light_22 : decode cX0_light 22 = .ok (.iload_n 2, 1) := by decide +kernel
theorem dX0_light_23 : decode cX0_light 23 = .ok (.iload_n 3, 1) := by decide +kernel
theorem dX0_light_24 : decode cX0_light 24 = .ok (.iadd, 1) := by decide +kernel
theorem dX0_light_25 : decode cX0_light 25 = .ok (.aload_n 0, 1) := by decide +kernel
theorem dX0_light_26 : decode cX0_light 26 = .ok (.getfield 37, 3) := by decide +kernel
theorem dX0_light_29 : decode cX0_light 29 = .ok (.if_icmp .le 15, 3) := by decide +kernel
theorem dX0_light_32 : decode cX0_light 32 = .ok (.aload_n 0, 1) := by decide +kernel
theorem dX0_light_33 : decode cX0_light 33 = .ok (.dup, 1) := by decide +kernel
theorem dX0_light_34 : decode cX0_light 34 = .ok (.getfield 44, 3) := by decide +kernel
theorem dX0_light_37 : decode cX0_light 37 = .ok (.iconst 1, 1) := by decide +kernel
theorem dX0_light_38 : decode cX0_light 38 = .ok (.iload_n 1, 1) := by decide +kernel
theorem dX0_light_39 : decode cX0_light 39 = .ok (.ishl, 1) := by decide +kernel
theorem dX0_light_40 : decode cX0_light 40 = .ok (.ior, 1) := by decide +kernel
theorem dX0_light_41 : decode cX0_light 41 = .ok (.putfield 44, 3) := by decide +kernel
theorem dX0_light_44 : decode cX0_light 44 = .ok (.iload_n 2, 1) := by decide +kernel
theorem dX0_light_45 : decode cX0_light 45 = .ok (.iload_n 3, 1) := by decide +kernel
theorem dX0_light_46 : decode cX0_light 46 = .ok (.iadd, 1) := by decide +kernel
theorem dX0_light_47 : decode cX0_light 47 = .ok (.aload_n 0, 1) := by decide +kernel
theorem dX0_light_48 : decode cX0_light 48 = .ok (.getfield 37, 3) := by decide +kernel
theorem dX0_light_51 : decode cX0_light 51 = .ok (.invokestatic 90, 3) := by decide +kernel
theorem dX0_light_54 : decode cX0_light 54 = .ok (.istore 4, 2) := by decide +kernel
theorem dX0_light_56 : decode cX0_light 56 = .ok (.iload_n 2, 1) := by decide +kernel
theorem dX0_light_57 : decode cX0_light 57 = .ok (.iconst 0, 1) := by decide +kernel
theorem dX0_light_58 : decode cX0_light 58 = .ok (.invokestatic 69, 3) := by decide +kernel
theorem dX0_light_61 : decode cX0_light 61 = .ok (.istore 5, 2) := by decide +kernel
theorem dX0_light_63 : decode cX0_light 63 = .ok (.iload 5, 2) := by decide +kernel
theorem dX0_light_65 : decode cX0_light 65 = .ok (.iload 4, 2) := by decide +kernel
theorem dX0_light_67 : decode cX0_light 67 = .ok (.if_icmp .ge 22, 3) := by decide +kernel
theorem dX0_light_70 : decode cX0_light 70 = .ok (.aload_n 0, 1) := by decide +kernel
theorem dX0_light_71 : decode cX0_light 71 = .ok (.dup, 1) := by decide +kernel
theorem dX0_light_72 : decode cX0_light 72 = .ok (.getfield 47, 3) := by decide +kernel
theorem dX0_light_75 : decode cX0_light 75 = .ok (.lconst 1, 1) := by decide +kernel
theorem dX0_light_76 : decode cX0_light 76 = .ok (.iload 5, 2) := by decide +kernel
theorem dX0_light_78 : decode cX0_light 78 = .ok (.lshl, 1) := by decide +kernel
theorem dX0_light_79 : decode cX0_light 79 = .ok (.lor, 1) := by decide +kernel
theorem dX0_light_80 : decode cX0_light 80 = .ok (.putfield 47, 3) := by decide +kernel
theorem dX0_light_83 : decode cX0_light 83 = .ok (.iinc 5 1, 3) := by decide +kernel
theorem dX0_light_86 : decode cX0_light 86 = .ok (.goto (-23), 3) := by decide +kernel
theorem dX0_light_89 : decode cX0_light 89 = .ok (.return_, 1) := by decide +kernel
theorem dX0_columnsOf_0 : decode cX0_columnsOf 0 = .ok (.iconst 1, 1) := by decide +kernel
theorem dX0_columnsOf_1 : decode cX0_columnsOf 1 = .ok (.bipush 64, 2) := by decide +kernel
theorem dX0_columnsOf_3 : decode cX0_columnsOf 3 = .ok (.iload_n 0, 1) := by decide +kernel
theorem dX0_columnsOf_4 : decode cX0_columnsOf 4 = .ok (.iload_n 1, 1) := by decide +kernel
theorem dX0_columnsOf_5 : decode cX0_columnsOf 5 = .ok (.invokestatic 63, 3) := by decide +kernel
theorem dX0_columnsOf_8 : decode cX0_columnsOf 8 = .ok (.invokestatic 90, 3) := by decide +kernel
theorem dX0_columnsOf_11 : decode cX0_columnsOf 11 = .ok (.invokestatic 69, 3) := by decide +kernel
theorem dX0_columnsOf_14 : decode cX0_columnsOf 14 = .ok (.ireturn, 1) := by decide +kernel
theorem dX0_rounded_0 : decode cX0_rounded 0 = .ok (.aload_n 0, 1) := by decide +kernel
theorem dX0_rounded_1 : decode cX0_rounded 1 = .ok (.getfield 51, 3) := by decide +kernel
theorem dX0_rounded_4 : decode cX0_rounded 4 = .ok (.iload_n 1, 1) := by decide +kernel
theorem dX0_rounded_5 : decode cX0_rounded 5 = .ok (.invokestatic 26, 3) := by decide +kernel
theorem dX0_rounded_8 : decode cX0_rounded 8 = .ok (.istore 4, 2) := by decide +kernel
theorem dX0_rounded_10 : decode cX0_rounded 10 = .ok (.aload_n 0, 1) := by decide +kernel
theorem dX0_rounded_11 : decode cX0_rounded 11 = .ok (.getfield 54, 3) := by decide +kernel
theorem dX0_rounded_14 : decode cX0_rounded 14 = .ok (.iload_n 1, 1) := by decide +kernel
theorem dX0_rounded_15 : decode cX0_rounded 15 = .ok (.invokestatic 26, 3) := by decide +kernel
theorem dX0_rounded_18 : decode cX0_rounded 18 = .ok (.istore 5, 2) := by decide +kernel
theorem dX0_rounded_20 : decode cX0_rounded 20 = .ok (.aload_n 0, 1) := by decide +kernel
theorem dX0_rounded_21 : decode cX0_rounded 21 = .ok (.getfield 60, 3) := by decide +kernel
theorem dX0_rounded_24 : decode cX0_rounded 24 = .ok (.iload_n 1, 1) := by decide +kernel
theorem dX0_rounded_25 : decode cX0_rounded 25 = .ok (.invokestatic 26, 3) := by decide +kernel
theorem dX0_rounded_28 : decode cX0_rounded 28 = .ok (.lookupswitch 58 #[(1, 28), (2, 46)], 28) := by decide +kernel
theorem dX0_rounded_56 : decode cX0_rounded 56 = .ok (.iconst 2, 1) := by decide +kernel
theorem dX0_rounded_57 : decode cX0_rounded 57 = .ok (.iload 4, 2) := by decide +kernel
theorem dX0_rounded_59 : decode cX0_rounded 59 = .ok (.imul, 1) := by decide +kernel
theorem dX0_rounded_60 : decode cX0_rounded 60 = .ok (.iload 5, 2) := by decide +kernel
theorem dX0_rounded_62 : decode cX0_rounded 62 = .ok (.iadd, 1) := by decide +kernel
theorem dX0_rounded_63 : decode cX0_rounded 63 = .ok (.iload_n 2, 1) := by decide +kernel
theorem dX0_rounded_64 : decode cX0_rounded 64 = .ok (.invokestatic 63, 3) := by decide +kernel
theorem dX0_rounded_67 : decode cX0_rounded 67 = .ok (.iload_n 3, 1) := by decide +kernel
theorem dX0_rounded_68 : decode cX0_rounded 68 = .ok (.isub, 1) := by decide +kernel
theorem dX0_rounded_69 : decode cX0_rounded 69 = .ok (.iconst 2, 1) := by decide +kernel
theorem dX0_rounded_70 : decode cX0_rounded 70 = .ok (.invokestatic 103, 3) := by decide +kernel
theorem dX0_rounded_73 : decode cX0_rounded 73 = .ok (.ireturn, 1) := by decide +kernel
theorem dX0_rounded_74 : decode cX0_rounded 74 = .ok (.iload 4, 2) := by decide +kernel
theorem dX0_rounded_76 : decode cX0_rounded 76 = .ok (.iload 5, 2) := by decide +kernel
theorem dX0_rounded_78 : decode cX0_rounded 78 = .ok (.iadd, 1) := by decide +kernel
theorem dX0_rounded_79 : decode cX0_rounded 79 = .ok (.iload_n 2, 1) := by decide +kernel
theorem dX0_rounded_80 : decode cX0_rounded 80 = .ok (.invokestatic 63, 3) := by decide +kernel
theorem dX0_rounded_83 : decode cX0_rounded 83 = .ok (.iload_n 3, 1) := by decide +kernel
theorem dX0_rounded_84 : decode cX0_rounded 84 = .ok (.isub, 1) := by decide +kernel
theorem dX0_rounded_85 : decode cX0_rounded 85 = .ok (.ireturn, 1) := by decide +kernel
theorem dX0_rounded_86 : decode cX0_rounded 86 = .ok (.iload 4, 2) := by decide +kernel
theorem dX0_rounded_88 : decode cX0_rounded 88 = .ok (.iload_n 2, 1) := by decide +kernel
theorem dX0_rounded_89 : decode cX0_rounded 89 = .ok (.invokestatic 63, 3) := by decide +kernel
theorem dX0_rounded_92 : decode cX0_rounded 92 = .ok (.ireturn, 1) := by decide +kernel
theorem dX1_init_0 : decode cX1_init 0 = .ok (.aload_n 0, 1) := by decide +kernel
theorem dX1_init_1 : decode cX1_init 1 = .ok (.invokespecial 3, 3) := by decide +kernel
theorem dX1_init_4 : decode cX1_init 4 = .ok (.aload_n 0, 1) := by decide +kernel
theorem dX1_init_5 : decode cX1_init 5 = .ok (.bipush 20, 2) := by decide +kernel
theorem dX1_init_7 : decode cX1_init 7 = .ok (.putfield 9, 3) := by decide +kernel
theorem dX1_init_10 : decode cX1_init 10 = .ok (.aload_n 0, 1) := by decide +kernel
theorem dX1_init_11 : decode cX1_init 11 = .ok (.iconst 1, 1) := by decide +kernel
theorem dX1_init_12 : decode cX1_init 12 = .ok (.putfield 15, 3) := by decide +kernel
theorem dX1_init_15 : decode cX1_init 15 = .ok (.aload_n 0, 1) := by decide +kernel
theorem dX1_init_16 : decode cX1_init 16 = .ok (.bipush 8, 2) := by decide +kernel
theorem dX1_init_18 : decode cX1_init 18 = .ok (.newarray .int, 2) := by decide +kernel
theorem dX1_init_20 : decode cX1_init 20 = .ok (.putfield 18, 3) := by decide +kernel
theorem dX1_init_23 : decode cX1_init 23 = .ok (.aload_n 0, 1) := by decide +kernel
theorem dX1_init_24 : decode cX1_init 24 = .ok (.bipush 8, 2) := by decide +kernel
theorem dX1_init_26 : decode cX1_init 26 = .ok (.newarray .int, 2) := by decide +kernel
theorem dX1_init_28 : decode cX1_init 28 = .ok (.putfield 22, 3) := by decide +kernel
theorem dX1_init_31 : decode cX1_init 31 = .ok (.aload_n 0, 1) := by decide +kernel
theorem dX1_init_32 : decode cX1_init 32 = .ok (.bipush 48, 2) := by decide +kernel
theorem dX1_init_34 : decode cX1_init 34 = .ok (.newarray .int, 2) := by decide +kernel
theorem dX1_init_36 : decode cX1_init 36 = .ok (.putfield 25, 3) := by decide +kernel
theorem dX1_init_39 : decode cX1_init 39 = .ok (.aload_n 0, 1) := by decide +kernel
theorem dX1_init_40 : decode cX1_init 40 = .ok (.bipush 48, 2) := by decide +kernel
theorem dX1_init_42 : decode cX1_init 42 = .ok (.newarray .int, 2) := by decide +kernel
theorem dX1_init_44 : decode cX1_init 44 = .ok (.putfield 28, 3) := by decide +kernel
theorem dX1_init_47 : decode cX1_init 47 = .ok (.aload_n 0, 1) := by decide +kernel
theorem dX1_init_48 : decode cX1_init 48 = .ok (.bipush 48, 2) := by decide +kernel
theorem dX1_init_50 : decode cX1_init 50 = .ok (.newarray .int, 2) := by decide +kernel
theorem dX1_init_52 : decode cX1_init 52 = .ok (.putfield 31, 3) := by decide +kernel
theorem dX1_init_55 : decode cX1_init 55 = .ok (.aload_n 0, 1) := by decide +kernel
theorem dX1_init_56 : decode cX1_init 56 = .ok (.iconst 3, 1) := by decide +kernel
theorem dX1_init_57 : decode cX1_init 57 = .ok (.newarray .int, 2) := by decide +kernel
theorem dX1_init_59 : decode cX1_init 59 = .ok (.putfield 34, 3) := by decide +kernel
theorem dX1_init_62 : decode cX1_init 62 = .ok (.aload_n 0, 1) := by decide +kernel
theorem dX1_init_63 : decode cX1_init 63 = .ok (.new 37, 3) := by decide +kernel
theorem dX1_init_66 : decode cX1_init 66 = .ok (.dup, 1) := by decide +kernel
theorem dX1_init_67 : decode cX1_init 67 = .ok (.invokespecial 39, 3) := by decide +kernel
theorem dX1_init_70 : decode cX1_init 70 = .ok (.putfield 40, 3) := by decide +kernel
theorem dX1_init_73 : decode cX1_init 73 = .ok (.return_, 1) := by decide +kernel
theorem dX1_copy_0 : decode cX1_copy 0 = .ok (.aload_n 0, 1) := by decide +kernel
theorem dX1_copy_1 : decode cX1_copy 1 = .ok (.aload_n 1, 1) := by decide +kernel
theorem dX1_copy_2 : decode cX1_copy 2 = .ok (.getfield 44, 3) := by decide +kernel
theorem dX1_copy_5 : decode cX1_copy 5 = .ok (.putfield 44, 3) := by decide +kernel
theorem dX1_copy_8 : decode cX1_copy 8 = .ok (.aload_n 0, 1) := by decide +kernel
theorem dX1_copy_9 : decode cX1_copy 9 = .ok (.aload_n 1, 1) := by decide +kernel
theorem dX1_copy_10 : decode cX1_copy 10 = .ok (.getfield 47, 3) := by decide +kernel
theorem dX1_copy_13 : decode cX1_copy 13 = .ok (.putfield 47, 3) := by decide +kernel
theorem dX1_copy_16 : decode cX1_copy 16 = .ok (.aload_n 0, 1) := by decide +kernel
theorem dX1_copy_17 : decode cX1_copy 17 = .ok (.aload_n 1, 1) := by decide +kernel
theorem dX1_copy_18 : decode cX1_copy 18 = .ok (.getfield 9, 3) := by decide +kernel
theorem dX1_copy_21 : decode cX1_copy 21 = .ok (.putfield 9, 3) := by decide +kernel
theorem dX1_copy_24 : decode cX1_copy 24 = .ok (.aload_n 0, 1) := by decide +kernel
theorem dX1_copy_25 : decode cX1_copy 25 = .ok (.aload_n 1, 1) := by decide +kernel
theorem dX1_copy_26 : decode cX1_copy 26 = .ok (.getfield 15, 3) := by decide +kernel
theorem dX1_copy_29 : decode cX1_copy 29 = .ok (.putfield 15, 3) := by decide +kernel
theorem dX1_copy_32 : decode cX1_copy 32 = .ok (.aload_n 1, 1) := by decide +kernel
theorem dX1_copy_33 : decode cX1_copy 33 = .ok (.getfield 18, 3) := by decide +kernel
theorem dX1_copy_36 : decode cX1_copy 36 = .ok (.aload_n 0, 1) := by decide +kernel
theorem dX1_copy_37 : decode cX1_copy 37 = .ok (.getfield 18, 3) := by decide +kernel
theorem dX1_copy_40 : decode cX1_copy 40 = .ok (.invokestatic 50, 3) := by decide +kernel
theorem dX1_copy_43 : decode cX1_copy 43 = .ok (.aload_n 1, 1) := by decide +kernel
theorem dX1_copy_44 : decode cX1_copy 44 = .ok (.getfield 22, 3) := by decide +kernel
theorem dX1_copy_47 : decode cX1_copy 47 = .ok (.aload_n 0, 1) := by decide +kernel
theorem dX1_copy_48 : decode cX1_copy 48 = .ok (.getfield 22, 3) := by decide +kernel
theorem dX1_copy_51 : decode cX1_copy 51 = .ok (.invokestatic 50, 3) := by decide +kernel
theorem dX1_copy_54 : decode cX1_copy 54 = .ok (.aload_n 1, 1) := by decide +kernel
theorem dX1_copy_55 : decode cX1_copy 55 = .ok (.getfield 25, 3) := by decide +kernel
theorem dX1_copy_58 : decode cX1_copy 58 = .ok (.aload_n 0, 1) := by decide +kernel
theorem dX1_copy_59 : decode cX1_copy 59 = .ok (.getfield 25, 3) := by decide +kernel
theorem dX1_copy_62 : decode cX1_copy 62 = .ok (.invokestatic 50, 3) := by decide +kernel
theorem dX1_copy_65 : decode cX1_copy 65 = .ok (.aload_n 1, 1) := by decide +kernel
theorem dX1_copy_66 : decode cX1_copy 66 = .ok (.getfield 28, 3) := by decide +kernel
theorem dX1_copy_69 : decode cX1_copy 69 = .ok (.aload_n 0, 1) := by decide +kernel
theorem dX1_copy_70 : decode cX1_copy 70 = .ok (.getfield 28, 3) := by decide +kernel
theorem dX1_copy_73 : decode cX1_copy 73 = .ok (.invokestatic 50, 3) := by decide +kernel
theorem dX1_copy_76 : decode cX1_copy 76 = .ok (.aload_n 1, 1) := by decide +kernel
theorem dX1_copy_77 : decode cX1_copy 77 = .ok (.getfield 31, 3) := by decide +kernel
theorem dX1_copy_80 : decode cX1_copy 80 = .ok (.aload_n 0, 1) := by decide +kernel
theorem dX1_copy_81 : decode cX1_copy 81 = .ok (.getfield 31, 3) := by decide +kernel
theorem dX1_copy_84 : decode cX1_copy 84 = .ok (.invokestatic 50, 3) := by decide +kernel
theorem dX1_copy_87 : decode cX1_copy 87 = .ok (.aload_n 1, 1) := by decide +kernel
theorem dX1_copy_88 : decode cX1_copy 88 = .ok (.getfield 34, 3) := by decide +kernel
theorem dX1_copy_91 : decode cX1_copy 91 = .ok (.aload_n 0, 1) := by decide +kernel
theorem dX1_copy_92 : decode cX1_copy 92 = .ok (.getfield 34, 3) := by decide +kernel
theorem dX1_copy_95 : decode cX1_copy 95 = .ok (.invokestatic 50, 3) := by decide +kernel
theorem dX1_copy_98 : decode cX1_copy 98 = .ok (.aload_n 0, 1) := by decide +kernel
theorem dX1_copy_99 : decode cX1_copy 99 = .ok (.getfield 40, 3) := by decide +kernel
theorem dX1_copy_102 : decode cX1_copy 102 = .ok (.aload_n 1, 1) := by decide +kernel
theorem dX1_copy_103 : decode cX1_copy 103 = .ok (.getfield 40, 3) := by decide +kernel
theorem dX1_copy_106 : decode cX1_copy 106 = .ok (.invokevirtual 54, 3) := by decide +kernel
theorem dX1_copy_109 : decode cX1_copy 109 = .ok (.return_, 1) := by decide +kernel
theorem dX1_hasGlyph_0 : decode cX1_hasGlyph 0 = .ok (.iload_n 1, 1) := by decide +kernel
theorem dX1_hasGlyph_1 : decode cX1_hasGlyph 1 = .ok (.iconst 0, 1) := by decide +kernel
theorem dX1_hasGlyph_2 : decode cX1_hasGlyph 2 = .ok (.aload_n 0, 1) := by decide +kernel
theorem dX1_hasGlyph_3 : decode cX1_hasGlyph 3 = .ok (.getfield 44, 3) := by decide +kernel
theorem dX1_hasGlyph_6 : decode cX1_hasGlyph 6 = .ok (.iconst 1, 1) := by decide +kernel
theorem dX1_hasGlyph_7 : decode cX1_hasGlyph 7 = .ok (.isub, 1) := by decide +kernel
theorem dX1_hasGlyph_8 : decode cX1_hasGlyph 8 = .ok (.invokestatic 58, 3) := by decide +kernel
theorem dX1_hasGlyph_11 : decode cX1_hasGlyph 11 = .ok (.ireturn, 1) := by decide +kernel
theorem dX1_hasStem_0 : decode cX1_hasStem 0 = .ok (.aload_n 0, 1) := by decide +kernel
theorem dX1_hasStem_1 : decode cX1_hasStem 1 = .ok (.iload_n 1, 1) := by decide +kernel
theorem dX1_hasStem_2 : decode cX1_hasStem 2 = .ok (.invokevirtual 62, 3) := by decide +kernel
theorem dX1_hasStem_5 : decode cX1_hasStem 5 = .ok (.ifCond .eq 25, 3) := by decide +kernel
theorem dX1_hasStem_8 : decode cX1_hasStem 8 = .ok (.iload_n 2, 1) := by decide +kernel
theorem dX1_hasStem_9 : decode cX1_hasStem 9 = .ok (.iconst 0, 1) := by decide +kernel
theorem dX1_hasStem_10 : decode cX1_hasStem 10 = .ok (.aload_n 0, 1) := by decide +kernel
theorem dX1_hasStem_11 : decode cX1_hasStem 11 = .ok (.getfield 22, 3) := by decide +kernel
theorem dX1_hasStem_14 : decode cX1_hasStem 14 = .ok (.iload_n 1, 1) := by decide +kernel
theorem dX1_hasStem_15 : decode cX1_hasStem 15 = .ok (.invokestatic 66, 3) := by decide +kernel
theorem dX1_hasStem_18 : decode cX1_hasStem 18 = .ok (.iconst 1, 1) := by decide +kernel
theorem dX1_hasStem_19 : decode cX1_hasStem 19 = .ok (.isub, 1) := by decide +kernel
theorem dX1_hasStem_20 : decode cX1_hasStem 20 = .ok (.invokestatic 58, 3) := by decide +kernel
theorem dX1_hasStem_23 : decode cX1_hasStem 23 = .ok (.ifCond .eq 7, 3) := by decide +kernel
theorem dX1_hasStem_26 : decode cX1_hasStem 26 = .ok (.iconst 1, 1) := by decide +kernel
theorem dX1_hasStem_27 : decode cX1_hasStem 27 = .ok (.goto 4, 3) := by decide +kernel
theorem dX1_hasStem_30 : decode cX1_hasStem 30 = .ok (.iconst 0, 1) := by decide +kernel
theorem dX1_hasStem_31 : decode cX1_hasStem 31 = .ok (.ireturn, 1) := by decide +kernel
theorem dX1_endOf_0 : decode cX1_endOf 0 = .ok (.aload_n 0, 1) := by decide +kernel
theorem dX1_endOf_1 : decode cX1_endOf 1 = .ok (.getfield 25, 3) := by decide +kernel
theorem dX1_endOf_4 : decode cX1_endOf 4 = .ok (.iload_n 1, 1) := by decide +kernel
theorem dX1_endOf_5 : decode cX1_endOf 5 = .ok (.invokestatic 66, 3) := by decide +kernel
theorem dX1_endOf_8 : decode cX1_endOf 8 = .ok (.aload_n 0, 1) := by decide +kernel
theorem dX1_endOf_9 : decode cX1_endOf 9 = .ok (.getfield 28, 3) := by decide +kernel
theorem dX1_endOf_12 : decode cX1_endOf 12 = .ok (.iload_n 1, 1) := by decide +kernel
theorem dX1_endOf_13 : decode cX1_endOf 13 = .ok (.invokestatic 66, 3) := by decide +kernel
theorem dX1_endOf_16 : decode cX1_endOf 16 = .ok (.iadd, 1) := by decide +kernel
theorem dX1_endOf_17 : decode cX1_endOf 17 = .ok (.ireturn, 1) := by decide +kernel
theorem dX1_addGlyph_0 : decode cX1_addGlyph 0 = .ok (.iload_n 1, 1) := by decide +kernel
theorem dX1_addGlyph_1 : decode cX1_addGlyph 1 = .ok (.bipush 100, 2) := by decide +kernel
theorem dX1_addGlyph_3 : decode cX1_addGlyph 3 = .ok (.sipush 1500, 3) := by decide +kernel
theorem dX1_addGlyph_6 : decode cX1_addGlyph 6 = .ok (.invokestatic 58, 3) := by decide +kernel
theorem dX1_addGlyph_9 : decode cX1_addGlyph 9 = .ok (.ifCond .ne 6, 3) := by decide +kernel
theorem dX1_addGlyph_12 : decode cX1_addGlyph 12 = .ok (.ldc 70, 2) := by decide +kernel
theorem dX1_addGlyph_14 : decode cX1_addGlyph 14 = .ok (.ireturn, 1) := by decide +kernel
theorem dX1_addGlyph_15 : decode cX1_addGlyph 15 = .ok (.aload_n 0, 1) := by decide +kernel
theorem dX1_addGlyph_16 : decode cX1_addGlyph 16 = .ok (.getfield 44, 3) := by decide +kernel
theorem dX1_addGlyph_19 : decode cX1_addGlyph 19 = .ok (.bipush 8, 2) := by decide +kernel
theorem dX1_addGlyph_21 : decode cX1_addGlyph 21 = .ok (.if_icmp .lt 6, 3) := by decide +kernel
theorem dX1_addGlyph_24 : decode cX1_addGlyph 24 = .ok (.ldc 71, 2) := by decide +kernel
theorem dX1_addGlyph_26 : decode cX1_addGlyph 26 = .ok (.ireturn, 1) := by decide +kernel
theorem dX1_addGlyph_27 : decode cX1_addGlyph 27 = .ok (.aload_n 0, 1) := by decide +kernel
theorem dX1_addGlyph_28 : decode cX1_addGlyph 28 = .ok (.getfield 44, 3) := by decide +kernel
theorem dX1_addGlyph_31 : decode cX1_addGlyph 31 = .ok (.istore_n 2, 1) := by decide +kernel
theorem dX1_addGlyph_32 : decode cX1_addGlyph 32 = .ok (.aload_n 0, 1) := by decide +kernel
theorem dX1_addGlyph_33 : decode cX1_addGlyph 33 = .ok (.getfield 18, 3) := by decide +kernel
theorem dX1_addGlyph_36 : decode cX1_addGlyph 36 = .ok (.iload_n 2, 1) := by decide +kernel
theorem dX1_addGlyph_37 : decode cX1_addGlyph 37 = .ok (.iload_n 1, 1) := by decide +kernel
theorem dX1_addGlyph_38 : decode cX1_addGlyph 38 = .ok (.invokestatic 72, 3) := by decide +kernel
theorem dX1_addGlyph_41 : decode cX1_addGlyph 41 = .ok (.aload_n 0, 1) := by decide +kernel
theorem dX1_addGlyph_42 : decode cX1_addGlyph 42 = .ok (.dup, 1) := by decide +kernel
theorem dX1_addGlyph_43 : decode cX1_addGlyph 43 = .ok (.getfield 44, 3) := by decide +kernel
theorem dX1_addGlyph_46 : decode cX1_addGlyph 46 = .ok (.iconst 1, 1) := by decide +kernel
theorem dX1_addGlyph_47 : decode cX1_addGlyph 47 = .ok (.iadd, 1) := by decide +kernel
theorem dX1_addGlyph_48 : decode cX1_addGlyph 48 = .ok (.putfield 44, 3) := by decide +kernel
theorem dX1_addGlyph_51 : decode cX1_addGlyph 51 = .ok (.iload_n 2, 1) := by decide +kernel
theorem dX1_addGlyph_52 : decode cX1_addGlyph 52 = .ok (.ireturn, 1) := by decide +kernel
theorem dX1_addStem_0 : decode cX1_addStem 0 = .ok (.aload_n 0, 1) := by decide +kernel
theorem dX1_addStem_1 : decode cX1_addStem 1 = .ok (.iload_n 1, 1) := by decide +kernel
theorem dX1_addStem_2 : decode cX1_addStem 2 = .ok (.invokevirtual 62, 3) := by decide +kernel
theorem dX1_addStem_5 : decode cX1_addStem 5 = .ok (.ifCond .eq 25, 3) := by decide +kernel
theorem dX1_addStem_8 : decode cX1_addStem 8 = .ok (.iload_n 2, 1) := by decide +kernel
theorem dX1_addStem_9 : decode cX1_addStem 9 = .ok (.iconst 0, 1) := by decide +kernel
theorem dX1_addStem_10 : decode cX1_addStem 10 = .ok (.sipush 999, 3) := by decide +kernel
theorem dX1_addStem_13 : decode cX1_addStem 13 = .ok (.invokestatic 58, 3) := by decide +kernel
theorem dX1_addStem_16 : decode cX1_addStem 16 = .ok (.ifCond .eq 14, 3) := by decide +kernel
theorem dX1_addStem_19 : decode cX1_addStem 19 = .ok (.iload_n 3, 1) := by decide +kernel
theorem dX1_addStem_20 : decode cX1_addStem 20 = .ok (.iconst 1, 1) := by decide +kernel
theorem dX1_addStem_21 : decode cX1_addStem 21 = .ok (.sipush 300, 3) := by decide +kernel
theorem dX1_addStem_24 : decode cX1_addStem 24 = .ok (.invokestatic 58, 3) := by decide +kernel
theorem dX1_addStem_27 : decode cX1_addStem 27 = .ok (.ifCond .ne 6, 3) := by decide +kernel
theorem dX1_addStem_30 : decode cX1_addStem 30 = .ok (.ldc 70, 2) := by decide +kernel
theorem dX1_addStem_32 : decode cX1_addStem 32 = .ok (.ireturn, 1) := by decide +kernel
theorem dX1_addStem_33 : decode cX1_addStem 33 = .ok (.iload_n 1, 1) := by decide +kernel
theorem dX1_addStem_34 : decode cX1_addStem 34 = .ok (.bipush 6, 2) := by decide +kernel
theorem dX1_addStem_36 : decode cX1_addStem 36 = .ok (.imul, 1) := by decide +kernel
theorem dX1_addStem_37 : decode cX1_addStem 37 = .ok (.istore 4, 2) := by decide +kernel
theorem dX1_addStem_39 : decode cX1_addStem 39 = .ok (.aload_n 0, 1) := by decide +kernel
theorem dX1_addStem_40 : decode cX1_addStem 40 = .ok (.getfield 22, 3) := by decide +kernel
theorem dX1_addStem_43 : decode cX1_addStem 43 = .ok (.iload_n 1, 1) := by decide +kernel
theorem dX1_addStem_44 : decode cX1_addStem 44 = .ok (.invokestatic 66, 3) := by decide +kernel
theorem dX1_addStem_47 : decode cX1_addStem 47 = .ok (.istore 5, 2) := by decide +kernel
theorem dX1_addStem_49 : decode cX1_addStem 49 = .ok (.iconst 0, 1) := by decide +kernel
theorem dX1_addStem_50 : decode cX1_addStem 50 = .ok (.istore 6, 2) := by decide +kernel
theorem dX1_addStem_52 : decode cX1_addStem 52 = .ok (.iconst 0, 1) := by decide +kernel
theorem dX1_addStem_53 : decode cX1_addStem 53 = .ok (.istore 7, 2) := by decide +kernel
theorem dX1_addStem_55 : decode cX1_addStem 55 = .ok (.iload 7, 2) := by decide +kernel
theorem dX1_addStem_57 : decode cX1_addStem 57 = .ok (.iload 5, 2) := by decide +kernel
theorem dX1_addStem_59 : decode cX1_addStem 59 = .ok (.if_icmp .ge 56, 3) := by decide +kernel
theorem dX1_addStem_62 : decode cX1_addStem 62 = .ok (.aload_n 0, 1) := by decide +kernel
theorem dX1_addStem_63 : decode cX1_addStem 63 = .ok (.getfield 25, 3) := by decide +kernel
theorem dX1_addStem_66 : decode cX1_addStem 66 = .ok (.iload 4, 2) := by decide +kernel
theorem dX1_addStem_68 : decode cX1_addStem 68 = .ok (.iload 7, 2) := by decide +kernel
theorem dX1_addStem_70 : decode cX1_addStem 70 = .ok (.iadd, 1) := by decide +kernel
theorem dX1_addStem_71 : decode cX1_addStem 71 = .ok (.invokestatic 66, 3) := by decide +kernel
theorem dX1_addStem_74 : decode cX1_addStem 74 = .ok (.istore 8, 2) := by decide +kernel
theorem dX1_addStem_76 : decode cX1_addStem 76 = .ok (.iload_n 2, 1) := by decide +kernel
theorem dX1_addStem_77 : decode cX1_addStem 77 = .ok (.aload_n 0, 1) := by decide +kernel
theorem dX1_addStem_78 : decode cX1_addStem 78 = .ok (.iload 4, 2) := by decide +kernel
theorem dX1_addStem_80 : decode cX1_addStem 80 = .ok (.iload 7, 2) := by decide +kernel
theorem dX1_addStem_82 : decode cX1_addStem 82 = .ok (.iadd, 1) := by decide +kernel
theorem dX1_addStem_83 : decode cX1_addStem 83 = .ok (.invokevirtual 76, 3) := by decide +kernel
theorem dX1_addStem_86 : decode cX1_addStem 86 = .ok (.if_icmp .ge 14, 3) := by decide +kernel
theorem dX1_addStem_89 : decode cX1_addStem 89 = .ok (.iload 8, 2) := by decide +kernel
theorem dX1_addStem_91 : decode cX1_addStem 91 = .ok (.iload_n 2, 1) := by decide +kernel
theorem dX1_addStem_92 : decode cX1_addStem 92 = .ok (.iload_n 3, 1) := by decide +kernel
theorem dX1_addStem_93 : decode cX1_addStem 93 = .ok (.iadd, 1) := by decide +kernel
theorem dX1_addStem_94 : decode cX1_addStem 94 = .ok (.if_icmp .ge 6, 3) := by decide +kernel
theorem dX1_addStem_97 : decode cX1_addStem 97 = .ok (.ldc 80, 2) := by decide +kernel
theorem dX1_addStem_99 : decode cX1_addStem 99 = .ok (.ireturn, 1) := by decide +kernel
theorem dX1_addStem_100 : decode cX1_addStem 100 = .ok (.iload 8, 2) := by decide +kernel
theorem dX1_addStem_102 : decode cX1_addStem 102 = .ok (.iload_n 2, 1) := by decide +kernel
theorem dX1_addStem_103 : decode cX1_addStem 103 = .ok (.if_icmp .ge 6, 3) := by decide +kernel
theorem dX1_addStem_106 : decode cX1_addStem 106 = .ok (.iinc 6 1, 3) := by decide +kernel
theorem dX1_addStem_109 : decode cX1_addStem 109 = .ok (.iinc 7 1, 3) := by decide +kernel
theorem dX1_addStem_112 : decode cX1_addStem 112 = .ok (.goto (-57), 3) := by decide +kernel
theorem dX1_addStem_115 : decode cX1_addStem 115 = .ok (.iload 5, 2) := by decide +kernel
theorem dX1_addStem_117 : decode cX1_addStem 117 = .ok (.bipush 6, 2) := by decide +kernel
theorem dX1_addStem_119 : decode cX1_addStem 119 = .ok (.if_icmp .lt 6, 3) := by decide +kernel
theorem dX1_addStem_122 : decode cX1_addStem 122 = .ok (.ldc 71, 2) := by decide +kernel
theorem dX1_addStem_124 : decode cX1_addStem 124 = .ok (.ireturn, 1) := by decide +kernel
theorem dX1_addStem_125 : decode cX1_addStem 125 = .ok (.iload 5, 2) := by decide +kernel
theorem dX1_addStem_127 : decode cX1_addStem 127 = .ok (.istore 7, 2) := by decide +kernel
theorem dX1_addStem_129 : decode cX1_addStem 129 = .ok (.iload 7, 2) := by decide +kernel
theorem dX1_addStem_131 : decode cX1_addStem 131 = .ok (.iload 6, 2) := by decide +kernel
theorem dX1_addStem_133 : decode cX1_addStem 133 = .ok (.if_icmp .le 25, 3) := by decide +kernel
theorem dX1_addStem_136 : decode cX1_addStem 136 = .ok (.aload_n 0, 1) := by decide +kernel
theorem dX1_addStem_137 : decode cX1_addStem 137 = .ok (.iload 4, 2) := by decide +kernel
theorem dX1_addStem_139 : decode cX1_addStem 139 = .ok (.iload 7, 2) := by decide +kernel
theorem dX1_addStem_141 : decode cX1_addStem 141 = .ok (.iadd, 1) := by decide +kernel
theorem dX1_addStem_142 : decode cX1_addStem 142 = .ok (.iconst 1, 1) := by decide +kernel
theorem dX1_addStem_143 : decode cX1_addStem 143 = .ok (.isub, 1) := by decide +kernel
theorem dX1_addStem_144 : decode cX1_addStem 144 = .ok (.iload 4, 2) := by decide +kernel
theorem dX1_addStem_146 : decode cX1_addStem 146 = .ok (.iload 7, 2) := by decide +kernel
theorem dX1_addStem_148 : decode cX1_addStem 148 = .ok (.iadd, 1) := by decide +kernel
theorem dX1_addStem_149 : decode cX1_addStem 149 = .ok (.invokevirtual 81, 3) := by decide +kernel
theorem dX1_addStem_152 : decode cX1_addStem 152 = .ok (.iinc 7 (-1), 3) := by decide +kernel
theorem dX1_addStem_155 : decode cX1_addStem 155 = .ok (.goto (-26), 3) := by decide +kernel
theorem dX1_addStem_158 : decode cX1_addStem 158 = .ok (.aload_n 0, 1) := by decide +kernel
theorem dX1_addStem_159 : decode cX1_addStem 159 = .ok (.iload 4, 2) := by decide +kernel
theorem dX1_addStem_161 : decode cX1_addStem 161 = .ok (.iload 6, 2) := by decide +kernel
theorem dX1_addStem_163 : decode cX1_addStem 163 = .ok (.iadd, 1) := by decide +kernel
theorem dX1_addStem_164 : decode cX1_addStem 164 = .ok (.iload_n 2, 1) := by decide +kernel
theorem dX1_addStem_165 : decode cX1_addStem 165 = .ok (.iload_n 3, 1) := by decide +kernel
theorem dX1_addStem_166 : decode cX1_addStem 166 = .ok (.iconst 0, 1) := by decide +kernel
theorem dX1_addStem_167 : decode cX1_addStem 167 = .ok (.invokevirtual 85, 3) := by decide +kernel
theorem dX1_addStem_170 : decode cX1_addStem 170 = .ok (.aload_n 0, 1) := by decide +kernel
theorem dX1_addStem_171 : decode cX1_addStem 171 = .ok (.getfield 22, 3) := by decide +kernel
theorem dX1_addStem_174 : decode cX1_addStem 174 = .ok (.iload_n 1, 1) := by decide +kernel
theorem dX1_addStem_175 : decode cX1_addStem 175 = .ok (.iload 5, 2) := by decide +kernel
theorem dX1_addStem_177 : decode cX1_addStem 177 = .ok (.iconst 1, 1) := by decide +kernel
theorem dX1_addStem_178 : decode cX1_addStem 178 = .ok (.iadd, 1) := by decide +kernel
theorem dX1_addStem_179 : decode cX1_addStem 179 = .ok (.invokestatic 72, 3) := by decide +kernel
theorem dX1_addStem_182 : decode cX1_addStem 182 = .ok (.iload 6, 2) := by decide +kernel
theorem dX1_addStem_184 : decode cX1_addStem 184 = .ok (.ireturn, 1) := by decide +kernel
theorem dX1_cutStem_0 : decode cX1_cutStem 0 = .ok (.aload_n 0, 1) := by decide +kernel
theorem dX1_cutStem_1 : decode cX1_cutStem 1 = .ok (.iload_n 1, 1) := by decide +kernel
theorem dX1_cutStem_2 : decode cX1_cutStem 2 = .ok (.iload_n 2, 1) := by decide +kernel
theorem dX1_cutStem_3 : decode cX1_cutStem 3 = .ok (.invokevirtual 89, 3) := by decide +kernel
theorem dX1_cutStem_6 : decode cX1_cutStem 6 = .ok (.ifCond .ne 6, 3) := by decide +kernel
theorem dX1_cutStem_9 : decode cX1_cutStem 9 = .ok (.ldc 70, 2) := by decide +kernel
theorem dX1_cutStem_11 : decode cX1_cutStem 11 = .ok (.ireturn, 1) := by decide +kernel
theorem dX1_cutStem_12 : decode cX1_cutStem 12 = .ok (.iload_n 1, 1) := by decide +kernel
theorem dX1_cutStem_13 : decode cX1_cutStem 13 = .ok (.bipush 6, 2) := by decide +kernel
theorem dX1_cutStem_15 : decode cX1_cutStem 15 = .ok (.imul, 1) := by decide +kernel
theorem dX1_cutStem_16 : decode cX1_cutStem 16 = .ok (.istore_n 3, 1) := by decide +kernel
theorem dX1_cutStem_17 : decode cX1_cutStem 17 = .ok (.aload_n 0, 1) := by decide +kernel
theorem dX1_cutStem_18 : decode cX1_cutStem 18 = .ok (.getfield 22, 3) := by decide +kernel
theorem dX1_cutStem_21 : decode cX1_cutStem 21 = .ok (.iload_n 1, 1) := by decide +kernel
theorem dX1_cutStem_22 : decode cX1_cutStem 22 = .ok (.invokestatic 66, 3) := by decide +kernel
theorem dX1_cutStem_25 : decode cX1_cutStem 25 = .ok (.iconst 1, 1) := by decide +kernel
theorem dX1_cutStem_26 : decode cX1_cutStem 26 = .ok (.isub, 1) := by decide +kernel
theorem dX1_cutStem_27 : decode cX1_cutStem 27 = .ok (.istore 4, 2) := by decide +kernel
theorem dX1_cutStem_29 : decode cX1_cutStem 29 = .ok (.iload_n 2, 1) := by decide +kernel
theorem dX1_cutStem_30 : decode cX1_cutStem 30 = .ok (.istore 5, 2) := by decide +kernel
theorem dX1_cutStem_32 : decode cX1_cutStem 32 = .ok (.iload 5, 2) := by decide +kernel
theorem dX1_cutStem_34 : decode cX1_cutStem 34 = .ok (.iload 4, 2) := by decide +kernel
theorem dX1_cutStem_36 : decode cX1_cutStem 36 = .ok (.if_icmp .ge 23, 3) := by decide +kernel
theorem dX1_cutStem_39 : decode cX1_cutStem 39 = .ok (.aload_n 0, 1) := by decide +kernel
theorem dX1_cutStem_40 : decode cX1_cutStem 40 = .ok (.iload_n 3, 1) := by decide +kernel
theorem dX1_cutStem_41 : decode cX1_cutStem 41 = .ok (.iload 5, 2) := by decide +kernel
theorem dX1_cutStem_43 : decode cX1_cutStem 43 = .ok (.iadd, 1) := by decide +kernel
theorem dX1_cutStem_44 : decode cX1_cutStem 44 = .ok (.iconst 1, 1) := by decide +kernel
theorem dX1_cutStem_45 : decode cX1_cutStem 45 = .ok (.iadd, 1) := by decide +kernel
theorem dX1_cutStem_46 : decode cX1_cutStem 46 = .ok (.iload_n 3, 1) := by decide +kernel
theorem dX1_cutStem_47 : decode cX1_cutStem 47 = .ok (.iload 5, 2) := by decide +kernel
theorem dX1_cutStem_49 : decode cX1_cutStem 49 = .ok (.iadd, 1) := by decide +kernel
theorem dX1_cutStem_50 : decode cX1_cutStem 50 = .ok (.invokevirtual 81, 3) := by decide +kernel
theorem dX1_cutStem_53 : decode cX1_cutStem 53 = .ok (.iinc 5 1, 3) := by decide +kernel
theorem dX1_cutStem_56 : decode cX1_cutStem 56 = .ok (.goto (-24), 3) := by decide +kernel
theorem dX1_cutStem_59 : decode cX1_cutStem 59 = .ok (.aload_n 0, 1) := by decide +kernel
theorem dX1_cutStem_60 : decode cX1_cutStem 60 = .ok (.iload_n 3, 1) := by decide +kernel
theorem dX1_cutStem_61 : decode cX1_cutStem 61 = .ok (.iload 4, 2) := by decide +kernel
theorem dX1_cutStem_63 : decode cX1_cutStem 63 = .ok (.iadd, 1) := by decide +kernel
theorem dX1_cutStem_64 : decode cX1_cutStem 64 = .ok (.iconst 0, 1) := by decide +kernel
theorem dX1_cutStem_65 : decode cX1_cutStem 65 = .ok (.iconst 0, 1) := by decide +kernel
theorem dX1_cutStem_66 : decode cX1_cutStem 66 = .ok (.iconst 0, 1) := by decide +kernel
theorem dX1_cutStem_67 : decode cX1_cutStem 67 = .ok (.invokevirtual 85, 3) := by decide +kernel
theorem dX1_cutStem_70 : decode cX1_cutStem 70 = .ok (.aload_n 0, 1) := by decide +kernel
theorem dX1_cutStem_71 : decode cX1_cutStem 71 = .ok (.getfield 22, 3) := by decide +kernel
theorem dX1_cutStem_74 : decode cX1_cutStem 74 = .ok (.iload_n 1, 1) := by decide +kernel
theorem dX1_cutStem_75 : decode cX1_cutStem 75 = .ok (.iload 4, 2) := by decide +kernel
theorem dX1_cutStem_77 : decode cX1_cutStem 77 = .ok (.invokestatic 72, 3) := by decide +kernel
theorem dX1_cutStem_80 : decode cX1_cutStem 80 = .ok (.iload 4, 2) := by decide +kernel
theorem dX1_cutStem_82 : decode cX1_cutStem 82 = .ok (.ireturn, 1) := by decide +kernel
theorem dX1_moveStem_0 : decode cX1_moveStem 0 = .ok (.aload_n 0, 1) := by decide +kernel
theorem dX1_moveStem_1 : decode cX1_moveStem 1 = .ok (.iload_n 2, 1) := by decide +kernel
theorem dX1_moveStem_2 : decode cX1_moveStem 2 = .ok (.aload_n 0, 1) := by decide +kernel
theorem dX1_moveStem_3 : decode cX1_moveStem 3 = .ok (.getfield 25, 3) := by decide +kernel
theorem dX1_moveStem_6 : decode cX1_moveStem 6 = .ok (.iload_n 1, 1) := by decide +kernel
theorem dX1_moveStem_7 : decode cX1_moveStem 7 = .ok (.invokestatic 66, 3) := by decide +kernel
theorem dX1_moveStem_10 : decode cX1_moveStem 10 = .ok (.aload_n 0, 1) := by decide +kernel
theorem dX1_moveStem_11 : decode cX1_moveStem 11 = .ok (.getfield 28, 3) := by decide +kernel
theorem dX1_moveStem_14 : decode cX1_moveStem 14 = .ok (.iload_n 1, 1) := by decide +kernel
theorem dX1_moveStem_15 : decode cX1_moveStem 15 = .ok (.invokestatic 66, 3) := by decide +kernel
theorem dX1_moveStem_18 : decode cX1_moveStem 18 = .ok (.aload_n 0, 1) := by decide +kernel
theorem dX1_moveStem_19 : decode cX1_moveStem 19 = .ok (.getfield 31, 3) := by decide +kernel
theorem dX1_moveStem_22 : decode cX1_moveStem 22 = .ok (.iload_n 1, 1) := by decide +kernel
theorem dX1_moveStem_23 : decode cX1_moveStem 23 = .ok (.invokestatic 66, 3) := by decide +kernel
theorem dX1_moveStem_26 : decode cX1_moveStem 26 = .ok (.invokevirtual 85, 3) := by decide +kernel
theorem dX1_moveStem_29 : decode cX1_moveStem 29 = .ok (.return_, 1) := by decide +kernel
theorem dX1_putStem_0 : decode cX1_putStem 0 = .ok (.aload_n 0, 1) := by decide +kernel
theorem dX1_putStem_1 : decode cX1_putStem 1 = .ok (.getfield 25, 3) := by decide +kernel
theorem dX1_putStem_4 : decode cX1_putStem 4 = .ok (.iload_n 1, 1) := by decide +kernel
theorem dX1_putStem_5 : decode cX1_putStem 5 = .ok (.iload_n 2, 1) := by decide +kernel
theorem dX1_putStem_6 : decode cX1_putStem 6 = .ok (.invokestatic 72, 3) := by decide +kernel
theorem dX1_putStem_9 : decode cX1_putStem 9 = .ok (.aload_n 0, 1) := by decide +kernel
theorem dX1_putStem_10 : decode cX1_putStem 10 = .ok (.getfield 28, 3) := by decide +kernel
theorem dX1_putStem_13 : decode cX1_putStem 13 = .ok (.iload_n 1, 1) := by decide +kernel
theorem dX1_putStem_14 : decode cX1_putStem 14 = .ok (.iload_n 3, 1) := by decide +kernel
theorem dX1_putStem_15 : decode cX1_putStem 15 = .ok (.invokestatic 72, 3) := by decide +kernel
theorem dX1_putStem_18 : decode cX1_putStem 18 = .ok (.aload_n 0, 1) := by decide +kernel
theorem dX1_putStem_19 : decode cX1_putStem 19 = .ok (.getfield 31, 3) := by decide +kernel
theorem dX1_putStem_22 : decode cX1_putStem 22 = .ok (.iload_n 1, 1) := by decide +kernel
theorem dX1_putStem_23 : decode cX1_putStem 23 = .ok (.iload 4, 2) := by decide +kernel
theorem dX1_putStem_25 : decode cX1_putStem 25 = .ok (.invokestatic 72, 3) := by decide +kernel
theorem dX1_putStem_28 : decode cX1_putStem 28 = .ok (.return_, 1) := by decide +kernel
theorem dX1_hintStem_0 : decode cX1_hintStem 0 = .ok (.aload_n 0, 1) := by decide +kernel
theorem dX1_hintStem_1 : decode cX1_hintStem 1 = .ok (.iload_n 1, 1) := by decide +kernel
theorem dX1_hintStem_2 : decode cX1_hintStem 2 = .ok (.iload_n 2, 1) := by decide +kernel
theorem dX1_hintStem_3 : decode cX1_hintStem 3 = .ok (.invokevirtual 89, 3) := by decide +kernel
theorem dX1_hintStem_6 : decode cX1_hintStem 6 = .ok (.ifCond .eq 12, 3) := by decide +kernel
theorem dX1_hintStem_9 : decode cX1_hintStem 9 = .ok (.iload_n 3, 1) := by decide +kernel
theorem dX1_hintStem_10 : decode cX1_hintStem 10 = .ok (.iconst 0, 1) := by decide +kernel
theorem dX1_hintStem_11 : decode cX1_hintStem 11 = .ok (.iconst 3, 1) := by decide +kernel
theorem dX1_hintStem_12 : decode cX1_hintStem 12 = .ok (.invokestatic 58, 3) := by decide +kernel
theorem dX1_hintStem_15 : decode cX1_hintStem 15 = .ok (.ifCond .ne 6, 3) := by decide +kernel
theorem dX1_hintStem_18 : decode cX1_hintStem 18 = .ok (.ldc 70, 2) := by decide +kernel
theorem dX1_hintStem_20 : decode cX1_hintStem 20 = .ok (.ireturn, 1) := by decide +kernel
theorem dX1_hintStem_21 : decode cX1_hintStem 21 = .ok (.iload_n 1, 1) := by decide +kernel
theorem dX1_hintStem_22 : decode cX1_hintStem 22 = .ok (.bipush 6, 2) := by decide +kernel
theorem dX1_hintStem_24 : decode cX1_hintStem 24 = .ok (.imul, 1) := by decide +kernel
theorem dX1_hintStem_25 : decode cX1_hintStem 25 = .ok (.iload_n 2, 1) := by decide +kernel
theorem dX1_hintStem_26 : decode cX1_hintStem 26 = .ok (.iadd, 1) := by decide +kernel
theorem dX1_hintStem_27 : decode cX1_hintStem 27 = .ok (.istore 4, 2) := by decide +kernel
theorem dX1_hintStem_29 : decode cX1_hintStem 29 = .ok (.aload_n 0, 1) := by decide +kernel
theorem dX1_hintStem_30 : decode cX1_hintStem 30 = .ok (.getfield 31, 3) := by decide +kernel
theorem dX1_hintStem_33 : decode cX1_hintStem 33 = .ok (.iload 4, 2) := by decide +kernel
theorem dX1_hintStem_35 : decode cX1_hintStem 35 = .ok (.invokestatic 66, 3) := by decide +kernel
theorem dX1_hintStem_38 : decode cX1_hintStem 38 = .ok (.istore 5, 2) := by decide +kernel
theorem dX1_hintStem_40 : decode cX1_hintStem 40 = .ok (.aload_n 0, 1) := by decide +kernel
theorem dX1_hintStem_41 : decode cX1_hintStem 41 = .ok (.getfield 31, 3) := by decide +kernel
theorem dX1_hintStem_44 : decode cX1_hintStem 44 = .ok (.iload 4, 2) := by decide +kernel
theorem dX1_hintStem_46 : decode cX1_hintStem 46 = .ok (.iload_n 3, 1) := by decide +kernel
theorem dX1_hintStem_47 : decode cX1_hintStem 47 = .ok (.invokestatic 72, 3) := by decide +kernel
theorem dX1_hintStem_50 : decode cX1_hintStem 50 = .ok (.iload 5, 2) := by decide +kernel
theorem dX1_hintStem_52 : decode cX1_hintStem 52 = .ok (.ireturn, 1) := by decide +kernel
theorem dX1_addStandard_0 : decode cX1_addStandard 0 = .ok (.iload_n 1, 1) := by decide +kernel
theorem dX1_addStandard_1 : decode cX1_addStandard 1 = .ok (.iconst 1, 1) := by decide +kernel
theorem dX1_addStandard_2 : decode cX1_addStandard 2 = .ok (.sipush 300, 3) := by decide +kernel
theorem dX1_addStandard_5 : decode cX1_addStandard 5 = .ok (.invokestatic 58, 3) := by decide +kernel
theorem dX1_addStandard_8 : decode cX1_addStandard 8 = .ok (.ifCond .ne 6, 3) := by decide +kernel
theorem dX1_addStandard_11 : decode cX1_addStandard 11 = .ok (.ldc 70, 2) := by decide +kernel
theorem dX1_addStandard_13 : decode cX1_addStandard 13 = .ok (.ireturn, 1) := by decide +kernel
theorem dX1_addStandard_14 : decode cX1_addStandard 14 = .ok (.aload_n 0, 1) := by decide +kernel
theorem dX1_addStandard_15 : decode cX1_addStandard 15 = .ok (.iload_n 1, 1) := by decide +kernel
theorem dX1_addStandard_16 : decode cX1_addStandard 16 = .ok (.invokevirtual 93, 3) := by decide +kernel
theorem dX1_addStandard_19 : decode cX1_addStandard 19 = .ok (.ifCond .lt 6, 3) := by decide +kernel
theorem dX1_addStandard_22 : decode cX1_addStandard 22 = .ok (.ldc 80, 2) := by decide +kernel
theorem dX1_addStandard_24 : decode cX1_addStandard 24 = .ok (.ireturn, 1) := by decide +kernel
theorem dX1_addStandard_25 : decode cX1_addStandard 25 = .ok (.aload_n 0, 1) := by decide +kernel
theorem dX1_addStandard_26 : decode cX1_addStandard 26 = .ok (.getfield 47, 3) := by decide +kernel
theorem dX1_addStandard_29 : decode cX1_addStandard 29 = .ok (.iconst 3, 1) := by decide +kernel
theorem dX1_addStandard_30 : decode cX1_addStandard 30 = .ok (.if_icmp .lt 6, 3) := by decide +kernel
theorem dX1_addStandard_33 : decode cX1_addStandard 33 = .ok (.ldc 71, 2) := by decide +kernel
theorem dX1_addStandard_35 : decode cX1_addStandard 35 = .ok (.ireturn, 1) := by decide +kernel
theorem dX1_addStandard_36 : decode cX1_addStandard 36 = .ok (.aload_n 0, 1) := by decide +kernel
theorem dX1_addStandard_37 : decode cX1_addStandard 37 = .ok (.getfield 47, 3) := by decide +kernel
theorem dX1_addStandard_40 : decode cX1_addStandard 40 = .ok (.istore_n 2, 1) := by decide +kernel
theorem dX1_addStandard_41 : decode cX1_addStandard 41 = .ok (.iload_n 2, 1) := by decide +kernel
theorem dX1_addStandard_42 : decode cX1_addStandard 42 = .ok (.ifCond .le 41, 3) := by decide +kernel
theorem dX1_addStandard_45 : decode cX1_addStandard 45 = .ok (.aload_n 0, 1) := by decide +kernel
theorem dX1_addStandard_46 : decode cX1_addStandard 46 = .ok (.getfield 34, 3) := by decide +kernel
theorem dX1_addStandard_49 : decode cX1_addStandard 49 = .ok (.iload_n 2, 1) := by decide +kernel
theorem dX1_addStandard_50 : decode cX1_addStandard 50 = .ok (.iconst 1, 1) := by decide +kernel
theorem dX1_addStandard_51 : decode cX1_addStandard 51 = .ok (.isub, 1) := by decide +kernel
theorem dX1_addStandard_52 : decode cX1_addStandard 52 = .ok (.invokestatic 66, 3) := by decide +kernel
theorem dX1_addStandard_55 : decode cX1_addStandard 55 = .ok (.iload_n 1, 1) := by decide +kernel
theorem dX1_addStandard_56 : decode cX1_addStandard 56 = .ok (.if_icmp .le 27, 3) := by decide +kernel
theorem dX1_addStandard_59 : decode cX1_addStandard 59 = .ok (.aload_n 0, 1) := by decide +kernel
theorem dX1_addStandard_60 : decode cX1_addStandard 60 = .ok (.getfield 34, 3) := by decide +kernel
theorem dX1_addStandard_63 : decode cX1_addStandard 63 = .ok (.iload_n 2, 1) := by decide +kernel
theorem dX1_addStandard_64 : decode cX1_addStandard 64 = .ok (.aload_n 0, 1) := by decide +kernel
theorem dX1_addStandard_65 : decode cX1_addStandard 65 = .ok (.getfield 34, 3) := by decide +kernel
theorem dX1_addStandard_68 : decode cX1_addStandard 68 = .ok (.iload_n 2, 1) := by decide +kernel
theorem dX1_addStandard_69 : decode cX1_addStandard 69 = .ok (.iconst 1, 1) := by decide +kernel
theorem dX1_addStandard_70 : decode cX1_addStandard 70 = .ok (.isub, 1) := by decide +kernel
theorem dX1_addStandard_71 : decode cX1_addStandard 71 = .ok (.invokestatic 66, 3) := by decide +kernel
theorem dX1_addStandard_74 : decode cX1_addStandard 74 = .ok (.invokestatic 72, 3) := by decide +kernel
theorem dX1_addStandard_77 : decode cX1_addStandard 77 = .ok (.iinc 2 (-1), 3) := by decide +kernel
theorem dX1_addStandard_80 : decode cX1_addStandard 80 = .ok (.goto (-39), 3) := by decide +kernel
theorem dX1_addStandard_83 : decode cX1_addStandard 83 = .ok (.aload_n 0, 1) := by decide +kernel
theorem dX1_addStandard_84 : decode cX1_addStandard 84 = .ok (.getfield 34, 3) := by decide +kernel
theorem dX1_addStandard_87 : decode cX1_addStandard 87 = .ok (.iload_n 2, 1) := by decide +kernel
theorem dX1_addStandard_88 : decode cX1_addStandard 88 = .ok (.iload_n 1, 1) := by decide +kernel
theorem dX1_addStandard_89 : decode cX1_addStandard 89 = .ok (.invokestatic 72, 3) := by decide +kernel
theorem dX1_addStandard_92 : decode cX1_addStandard 92 = .ok (.aload_n 0, 1) := by decide +kernel
theorem dX1_addStandard_93 : decode cX1_addStandard 93 = .ok (.dup, 1) := by decide +kernel
theorem dX1_addStandard_94 : decode cX1_addStandard 94 = .ok (.getfield 47, 3) := by decide +kernel
theorem dX1_addStandard_97 : decode cX1_addStandard 97 = .ok (.iconst 1, 1) := by decide +kernel
theorem dX1_addStandard_98 : decode cX1_addStandard 98 = .ok (.iadd, 1) := by decide +kernel
theorem dX1_addStandard_99 : decode cX1_addStandard 99 = .ok (.putfield 47, 3) := by decide +kernel
theorem dX1_addStandard_102 : decode cX1_addStandard 102 = .ok (.aload_n 0, 1) := by decide +kernel
theorem dX1_addStandard_103 : decode cX1_addStandard 103 = .ok (.iload_n 1, 1) := by decide +kernel
theorem dX1_addStandard_104 : decode cX1_addStandard 104 = .ok (.invokevirtual 96, 3) := by decide +kernel
theorem dX1_addStandard_107 : decode cX1_addStandard 107 = .ok (.ireturn, 1) := by decide +kernel
theorem dX1_dropStandard_0 : decode cX1_dropStandard 0 = .ok (.iload_n 1, 1) := by decide +kernel
theorem dX1_dropStandard_1 : decode cX1_dropStandard 1 = .ok (.iconst 1, 1) := by decide +kernel
theorem dX1_dropStandard_2 : decode cX1_dropStandard 2 = .ok (.sipush 300, 3) := by decide +kernel
theorem dX1_dropStandard_5 : decode cX1_dropStandard 5 = .ok (.invokestatic 58, 3) := by decide +kernel
theorem dX1_dropStandard_8 : decode cX1_dropStandard 8 = .ok (.ifCond .ne 6, 3) := by decide +kernel
theorem dX1_dropStandard_11 : decode cX1_dropStandard 11 = .ok (.ldc 70, 2) := by decide +kernel
theorem dX1_dropStandard_13 : decode cX1_dropStandard 13 = .ok (.ireturn, 1) := by decide +kernel
theorem dX1_dropStandard_14 : decode cX1_dropStandard 14 = .ok (.aload_n 0, 1) := by decide +kernel
theorem dX1_dropStandard_15 : decode cX1_dropStandard 15 = .ok (.iload_n 1, 1) := by decide +kernel
theorem dX1_dropStandard_16 : decode cX1_dropStandard 16 = .ok (.invokevirtual 93, 3) := by decide +kernel
theorem dX1_dropStandard_19 : decode cX1_dropStandard 19 = .ok (.istore_n 2, 1) := by decide +kernel
theorem dX1_dropStandard_20 : decode cX1_dropStandard 20 = .ok (.iload_n 2, 1) := by decide +kernel
theorem dX1_dropStandard_21 : decode cX1_dropStandard 21 = .ok (.ifCond .ge 6, 3) := by decide +kernel
theorem dX1_dropStandard_24 : decode cX1_dropStandard 24 = .ok (.ldc 80, 2) := by decide +kernel
theorem dX1_dropStandard_26 : decode cX1_dropStandard 26 = .ok (.ireturn, 1) := by decide +kernel
theorem dX1_dropStandard_27 : decode cX1_dropStandard 27 = .ok (.aload_n 0, 1) := by decide +kernel
theorem dX1_dropStandard_28 : decode cX1_dropStandard 28 = .ok (.dup, 1) := by decide +kernel
theorem dX1_dropStandard_29 : decode cX1_dropStandard 29 = .ok (.getfield 47, 3) := by decide +kernel
theorem dX1_dropStandard_32 : decode cX1_dropStandard 32 = .ok (.iconst 1, 1) := by decide +kernel
theorem dX1_dropStandard_33 : decode cX1_dropStandard 33 = .ok (.isub, 1) := by decide +kernel
theorem dX1_dropStandard_34 : decode cX1_dropStandard 34 = .ok (.putfield 47, 3) := by decide +kernel
theorem dX1_dropStandard_37 : decode cX1_dropStandard 37 = .ok (.iload_n 2, 1) := by decide +kernel
theorem dX1_dropStandard_38 : decode cX1_dropStandard 38 = .ok (.istore_n 3, 1) := by decide +kernel
theorem dX1_dropStandard_39 : decode cX1_dropStandard 39 = .ok (.iload_n 3, 1) := by decide +kernel
theorem dX1_dropStandard_40 : decode cX1_dropStandard 40 = .ok (.aload_n 0, 1) := by decide +kernel
theorem dX1_dropStandard_41 : decode cX1_dropStandard 41 = .ok (.getfield 47, 3) := by decide +kernel
theorem dX1_dropStandard_44 : decode cX1_dropStandard 44 = .ok (.if_icmp .ge 27, 3) := by decide +kernel
theorem dX1_dropStandard_47 : decode cX1_dropStandard 47 = .ok (.aload_n 0, 1) := by decide +kernel
theorem dX1_dropStandard_48 : decode cX1_dropStandard 48 = .ok (.getfield 34, 3) := by decide +kernel
theorem dX1_dropStandard_51 : decode cX1_dropStandard 51 = .ok (.iload_n 3, 1) := by decide +kernel
theorem dX1_dropStandard_52 : decode cX1_dropStandard 52 = .ok (.aload_n 0, 1) := by decide +kernel
theorem dX1_dropStandard_53 : decode cX1_dropStandard 53 = .ok (.getfield 34, 3) := by decide +kernel
theorem dX1_dropStandard_56 : decode cX1_dropStandard 56 = .ok (.iload_n 3, 1) := by decide +kernel
theorem dX1_dropStandard_57 : decode cX1_dropStandard 57 = .ok (.iconst 1, 1) := by decide +kernel
theorem dX1_dropStandard_58 : decode cX1_dropStandard 58 = .ok (.iadd, 1) := by decide +kernel
theorem dX1_dropStandard_59 : decode cX1_dropStandard 59 = .ok (.invokestatic 66, 3) := by decide +kernel
theorem dX1_dropStandard_62 : decode cX1_dropStandard 62 = .ok (.invokestatic 72, 3) := by decide +kernel
theorem dX1_dropStandard_65 : decode cX1_dropStandard 65 = .ok (.iinc 3 1, 3) := by decide +kernel
theorem dX1_dropStandard_68 : decode cX1_dropStandard 68 = .ok (.goto (-29), 3) := by decide +kernel
theorem dX1_dropStandard_71 : decode cX1_dropStandard 71 = .ok (.aload_n 0, 1) := by decide +kernel
theorem dX1_dropStandard_72 : decode cX1_dropStandard 72 = .ok (.getfield 34, 3) := by decide +kernel
theorem dX1_dropStandard_75 : decode cX1_dropStandard 75 = .ok (.aload_n 0, 1) := by decide +kernel
theorem dX1_dropStandard_76 : decode cX1_dropStandard 76 = .ok (.getfield 47, 3) := by decide +kernel
theorem dX1_dropStandard_79 : decode cX1_dropStandard 79 = .ok (.iconst 0, 1) := by decide +kernel
theorem dX1_dropStandard_80 : decode cX1_dropStandard 80 = .ok (.invokestatic 72, 3) := by decide +kernel
theorem dX1_dropStandard_83 : decode cX1_dropStandard 83 = .ok (.aload_n 0, 1) := by decide +kernel
theorem dX1_dropStandard_84 : decode cX1_dropStandard 84 = .ok (.getfield 47, 3) := by decide +kernel
theorem dX1_dropStandard_87 : decode cX1_dropStandard 87 = .ok (.ireturn, 1) := by decide +kernel
theorem dX1_standardAt_0 : decode cX1_standardAt 0 = .ok (.iconst 0, 1) := by decide +kernel
theorem dX1_standardAt_1 : decode cX1_standardAt 1 = .ok (.istore_n 2, 1) := by decide +kernel
theorem dX1_standardAt_2 : decode cX1_standardAt 2 = .ok (.iload_n 2, 1) := by decide +kernel
theorem dX1_standardAt_3 : decode cX1_standardAt 3 = .ok (.aload_n 0, 1) := by decide +kernel
theorem dX1_standardAt_4 : decode cX1_standardAt 4 = .ok (.getfield 47, 3) := by decide +kernel
theorem dX1_standardAt_7 : decode cX1_standardAt 7 = .ok (.if_icmp .ge 23, 3) := by decide +kernel
theorem dX1_standardAt_10 : decode cX1_standardAt 10 = .ok (.aload_n 0, 1) := by decide +kernel
theorem dX1_standardAt_11 : decode cX1_standardAt 11 = .ok (.getfield 34, 3) := by decide +kernel
theorem dX1_standardAt_14 : decode cX1_standardAt 14 = .ok (.iload_n 2, 1) := by decide +kernel
theorem dX1_standardAt_15 : decode cX1_standardAt 15 = .ok (.invokestatic 66, 3) := by decide +kernel
theorem dX1_standardAt_18 : decode cX1_standardAt 18 = .ok (.iload_n 1, 1) := by decide +kernel
theorem dX1_standardAt_19 : decode cX1_standardAt 19 = .ok (.if_icmp .ne 5, 3) := by decide +kernel
theorem dX1_standardAt_22 : decode cX1_standardAt 22 = .ok (.iload_n 2, 1) := by decide +kernel
theorem dX1_standardAt_23 : decode cX1_standardAt 23 = .ok (.ireturn, 1) := by decide +kernel
theorem dX1_standardAt_24 : decode cX1_standardAt 24 = .ok (.iinc 2 1, 3) := by decide +kernel
theorem dX1_standardAt_27 : decode cX1_standardAt 27 = .ok (.goto (-25), 3) := by decide +kernel
theorem dX1_standardAt_30 : decode cX1_standardAt 30 = .ok (.iconst (-1), 1) := by decide +kernel
theorem dX1_standardAt_31 : decode cX1_standardAt 31 = .ok (.ireturn, 1) := by decide +kernel
theorem dX1_changeSetting_0 : decode cX1_changeSetting 0 = .ok (.iload_n 1, 1) := by decide +kernel
theorem dX1_changeSetting_1 : decode cX1_changeSetting 1 = .ok (.ifCond .ne 25, 3) := by decide +kernel
theorem dX1_changeSetting_4 : decode cX1_changeSetting 4 = .ok (.iload_n 2, 1) := by decide +kernel
theorem dX1_changeSetting_5 : decode cX1_changeSetting 5 = .ok (.iconst 0, 1) := by decide +kernel
theorem dX1_changeSetting_6 : decode cX1_changeSetting 6 = .ok (.bipush 100, 2) := by decide +kernel
theorem dX1_changeSetting_8 : decode cX1_changeSetting 8 = .ok (.invokestatic 58, 3) := by decide +kernel
theorem dX1_changeSetting_11 : decode cX1_changeSetting 11 = .ok (.ifCond .eq 15, 3) := by decide +kernel
theorem dX1_changeSetting_14 : decode cX1_changeSetting 14 = .ok (.aload_n 0, 1) := by decide +kernel
theorem dX1_changeSetting_15 : decode cX1_changeSetting 15 = .ok (.getfield 9, 3) := by decide +kernel
theorem dX1_changeSetting_18 : decode cX1_changeSetting 18 = .ok (.istore_n 3, 1) := by decide +kernel
theorem dX1_changeSetting_19 : decode cX1_changeSetting 19 = .ok (.aload_n 0, 1) := by decide +kernel
theorem dX1_changeSetting_20 : decode cX1_changeSetting 20 = .ok (.iload_n 2, 1) := by decide +kernel
theorem dX1_changeSetting_21 : decode cX1_changeSetting 21 = .ok (.putfield 9, 3) := by decide +kernel
theorem dX1_changeSetting_24 : decode cX1_changeSetting 24 = .ok (.iload_n 3, 1) := by decide +kernel
theorem dX1_changeSetting_25 : decode cX1_changeSetting 25 = .ok (.ireturn, 1) := by decide +kernel
theorem dX1_changeSetting_26 : decode cX1_changeSetting 26 = .ok (.iload_n 1, 1) := by decide +kernel
theorem dX1_changeSetting_27 : decode cX1_changeSetting 27 = .ok (.iconst 1, 1) := by decide +kernel
theorem dX1_changeSetting_28 : decode cX1_changeSetting 28 = .ok (.if_icmp .ne 24, 3) := by decide +kernel
theorem dX1_changeSetting_31 : decode cX1_changeSetting 31 = .ok (.iload_n 2, 1) := by decide +kernel
theorem dX1_changeSetting_32 : decode cX1_changeSetting 32 = .ok (.iconst 0, 1) := by decide +kernel
theorem dX1_changeSetting_33 : decode cX1_changeSetting 33 = .ok (.iconst 3, 1) := by decide +kernel
theorem dX1_changeSetting_34 : decode cX1_changeSetting 34 = .ok (.invokestatic 58, 3) := by decide +kernel
theorem dX1_changeSetting_37 : decode cX1_changeSetting 37 = .ok (.ifCond .eq 15, 3) := by decide +kernel
theorem dX1_changeSetting_40 : decode cX1_changeSetting 40 = .ok (.aload_n 0, 1) := by decide +kernel
theorem dX1_changeSetting_41 : decode cX1_changeSetting 41 = .ok (.getfield 15, 3) := by decide +kernel
theorem dX1_changeSetting_44 : decode cX1_changeSetting 44 = .ok (.istore_n 3, 1) := by decide +kernel
theorem dX1_changeSetting_45 : decode cX1_changeSetting 45 = .ok (.aload_n 0, 1) := by decide +kernel
theorem dX1_changeSetting_46 : decode cX1_changeSetting 46 = .ok (.iload_n 2, 1) := by decide +kernel
theorem dX1_changeSetting_47 : decode cX1_changeSetting 47 = .ok (.putfield 15, 3) := by decide +kernel
theorem dX1_changeSetting_50 : decode cX1_changeSetting 50 = .ok (.iload_n 3, 1) := by decide +kernel
theorem dX1_changeSetting_51 : decode cX1_changeSetting 51 = .ok (.ireturn, 1) := by decide +kernel
theorem dX1_changeSetting_52 : decode cX1_changeSetting 52 = .ok (.ldc 70, 2) := by decide +kernel
theorem dX1_changeSetting_54 : decode cX1_changeSetting 54 = .ok (.ireturn, 1) := by decide +kernel
theorem dX1_makeSheet_0 : decode cX1_makeSheet 0 = .ok (.iload_n 1, 1) := by decide +kernel
theorem dX1_makeSheet_1 : decode cX1_makeSheet 1 = .ok (.invokestatic 99, 3) := by decide +kernel
theorem dX1_makeSheet_4 : decode cX1_makeSheet 4 = .ok (.ifCond .ne 6, 3) := by decide +kernel
theorem dX1_makeSheet_7 : decode cX1_makeSheet 7 = .ok (.ldc 70, 2) := by decide +kernel
theorem dX1_makeSheet_9 : decode cX1_makeSheet 9 = .ok (.ireturn, 1) := by decide +kernel
theorem dX1_makeSheet_10 : decode cX1_makeSheet 10 = .ok (.aload_n 0, 1) := by decide +kernel
theorem dX1_makeSheet_11 : decode cX1_makeSheet 11 = .ok (.getfield 40, 3) := by decide +kernel
theorem dX1_makeSheet_14 : decode cX1_makeSheet 14 = .ok (.iload_n 1, 1) := by decide +kernel
theorem dX1_makeSheet_15 : decode cX1_makeSheet 15 = .ok (.invokevirtual 102, 3) := by decide +kernel
theorem dX1_makeSheet_18 : decode cX1_makeSheet 18 = .ok (.istore_n 3, 1) := by decide +kernel
theorem dX1_makeSheet_19 : decode cX1_makeSheet 19 = .ok (.aload_n 0, 1) := by decide +kernel
theorem dX1_makeSheet_20 : decode cX1_makeSheet 20 = .ok (.getfield 40, 3) := by decide +kernel
theorem dX1_makeSheet_23 : decode cX1_makeSheet 23 = .ok (.iload_n 3, 1) := by decide +kernel
theorem dX1_makeSheet_24 : decode cX1_makeSheet 24 = .ok (.iload_n 1, 1) := by decide +kernel
theorem dX1_makeSheet_25 : decode cX1_makeSheet 25 = .ok (.aload_n 0, 1) := by decide +kernel
theorem dX1_makeSheet_26 : decode cX1_makeSheet 26 = .ok (.getfield 44, 3) := by decide +kernel
theorem dX1_makeSheet_29 : decode cX1_makeSheet 29 = .ok (.invokevirtual 105, 3) := by decide +kernel
theorem dX1_makeSheet_32 : decode cX1_makeSheet 32 = .ok (.iconst 0, 1) := by decide +kernel
theorem dX1_makeSheet_33 : decode cX1_makeSheet 33 = .ok (.istore 4, 2) := by decide +kernel
theorem dX1_makeSheet_35 : decode cX1_makeSheet 35 = .ok (.iload 4, 2) := by decide +kernel
theorem dX1_makeSheet_37 : decode cX1_makeSheet 37 = .ok (.aload_n 0, 1) := by decide +kernel
theorem dX1_makeSheet_38 : decode cX1_makeSheet 38 = .ok (.getfield 44, 3) := by decide +kernel
theorem dX1_makeSheet_41 : decode cX1_makeSheet 41 = .ok (.if_icmp .ge 39, 3) := by decide +kernel
theorem dX1_makeSheet_44 : decode cX1_makeSheet 44 = .ok (.aload_n 2, 1) := by decide +kernel
theorem dX1_makeSheet_45 : decode cX1_makeSheet 45 = .ok (.aload_n 0, 1) := by decide +kernel
theorem dX1_makeSheet_46 : decode cX1_makeSheet 46 = .ok (.iload 4, 2) := by decide +kernel
theorem dX1_makeSheet_48 : decode cX1_makeSheet 48 = .ok (.iload_n 1, 1) := by decide +kernel
theorem dX1_makeSheet_49 : decode cX1_makeSheet 49 = .ok (.invokevirtual 109, 3) := by decide +kernel
theorem dX1_makeSheet_52 : decode cX1_makeSheet 52 = .ok (.aload_n 0, 1) := by decide +kernel
theorem dX1_makeSheet_53 : decode cX1_makeSheet 53 = .ok (.getfield 40, 3) := by decide +kernel
theorem dX1_makeSheet_56 : decode cX1_makeSheet 56 = .ok (.iload_n 3, 1) := by decide +kernel
theorem dX1_makeSheet_57 : decode cX1_makeSheet 57 = .ok (.bipush 8, 2) := by decide +kernel
theorem dX1_makeSheet_59 : decode cX1_makeSheet 59 = .ok (.imul, 1) := by decide +kernel
theorem dX1_makeSheet_60 : decode cX1_makeSheet 60 = .ok (.iload 4, 2) := by decide +kernel
theorem dX1_makeSheet_62 : decode cX1_makeSheet 62 = .ok (.iadd, 1) := by decide +kernel
theorem dX1_makeSheet_63 : decode cX1_makeSheet 63 = .ok (.aload_n 2, 1) := by decide +kernel
theorem dX1_makeSheet_64 : decode cX1_makeSheet 64 = .ok (.getfield 115, 3) := by decide +kernel
theorem dX1_makeSheet_67 : decode cX1_makeSheet 67 = .ok (.aload_n 2, 1) := by decide +kernel
theorem dX1_makeSheet_68 : decode cX1_makeSheet 68 = .ok (.getfield 118, 3) := by decide +kernel
theorem dX1_makeSheet_71 : decode cX1_makeSheet 71 = .ok (.invokevirtual 122, 3) := by decide +kernel
theorem dX1_makeSheet_74 : decode cX1_makeSheet 74 = .ok (.iinc 4 1, 3) := by decide +kernel
theorem dX1_makeSheet_77 : decode cX1_makeSheet 77 = .ok (.goto (-42), 3) := by decide +kernel
theorem dX1_makeSheet_80 : decode cX1_makeSheet 80 = .ok (.aload_n 0, 1) := by decide +kernel
theorem dX1_makeSheet_81 : decode cX1_makeSheet 81 = .ok (.getfield 40, 3) := by decide +kernel
theorem dX1_makeSheet_84 : decode cX1_makeSheet 84 = .ok (.invokevirtual 126, 3) := by decide +kernel
theorem dX1_makeSheet_87 : decode cX1_makeSheet 87 = .ok (.ireturn, 1) := by decide +kernel
theorem dX1_isStale_0 : decode cX1_isStale 0 = .ok (.aload_n 0, 1) := by decide +kernel
theorem dX1_isStale_1 : decode cX1_isStale 1 = .ok (.getfield 40, 3) := by decide +kernel
theorem dX1_isStale_4 : decode cX1_isStale 4 = .ok (.getfield 130, 3) := by decide +kernel
theorem dX1_isStale_7 : decode cX1_isStale 7 = .ok (.iload_n 1, 1) := by decide +kernel
theorem dX1_isStale_8 : decode cX1_isStale 8 = .ok (.invokestatic 66, 3) := by decide +kernel
theorem dX1_isStale_11 : decode cX1_isStale 11 = .ok (.istore_n 3, 1) := by decide +kernel
theorem dX1_isStale_12 : decode cX1_isStale 12 = .ok (.iload_n 3, 1) := by decide +kernel
theorem dX1_isStale_13 : decode cX1_isStale 13 = .ok (.aload_n 0, 1) := by decide +kernel
theorem dX1_isStale_14 : decode cX1_isStale 14 = .ok (.getfield 44, 3) := by decide +kernel
theorem dX1_isStale_17 : decode cX1_isStale 17 = .ok (.if_icmp .eq 5, 3) := by decide +kernel
theorem dX1_isStale_20 : decode cX1_isStale 20 = .ok (.iconst 1, 1) := by decide +kernel
theorem dX1_isStale_21 : decode cX1_isStale 21 = .ok (.ireturn, 1) := by decide +kernel
theorem dX1_isStale_22 : decode cX1_isStale 22 = .ok (.iconst 0, 1) := by decide +kernel
theorem dX1_isStale_23 : decode cX1_isStale 23 = .ok (.istore 4, 2) := by decide +kernel
theorem dX1_isStale_25 : decode cX1_isStale 25 = .ok (.iload 4, 2) := by decide +kernel
theorem dX1_isStale_27 : decode cX1_isStale 27 = .ok (.iload_n 3, 1) := by decide +kernel
theorem dX1_isStale_28 : decode cX1_isStale 28 = .ok (.if_icmp .ge 74, 3) := by decide +kernel
theorem dX1_isStale_31 : decode cX1_isStale 31 = .ok (.aload_n 2, 1) := by decide +kernel
theorem dX1_isStale_32 : decode cX1_isStale 32 = .ok (.aload_n 0, 1) := by decide +kernel
theorem dX1_isStale_33 : decode cX1_isStale 33 = .ok (.iload 4, 2) := by decide +kernel
theorem dX1_isStale_35 : decode cX1_isStale 35 = .ok (.aload_n 0, 1) := by decide +kernel
theorem dX1_isStale_36 : decode cX1_isStale 36 = .ok (.getfield 40, 3) := by decide +kernel
theorem dX1_isStale_39 : decode cX1_isStale 39 = .ok (.getfield 132, 3) := by decide +kernel
theorem dX1_isStale_42 : decode cX1_isStale 42 = .ok (.iload_n 1, 1) := by decide +kernel
theorem dX1_isStale_43 : decode cX1_isStale 43 = .ok (.invokestatic 66, 3) := by decide +kernel
theorem dX1_isStale_46 : decode cX1_isStale 46 = .ok (.invokevirtual 109, 3) := by decide +kernel
theorem dX1_isStale_49 : decode cX1_isStale 49 = .ok (.iload_n 1, 1) := by decide +kernel
theorem dX1_isStale_50 : decode cX1_isStale 50 = .ok (.bipush 8, 2) := by decide +kernel
theorem dX1_isStale_52 : decode cX1_isStale 52 = .ok (.imul, 1) := by decide +kernel
theorem dX1_isStale_53 : decode cX1_isStale 53 = .ok (.iload 4, 2) := by decide +kernel
theorem dX1_isStale_55 : decode cX1_isStale 55 = .ok (.iadd, 1) := by decide +kernel
theorem dX1_isStale_56 : decode cX1_isStale 56 = .ok (.istore 5, 2) := by decide +kernel
theorem dX1_isStale_58 : decode cX1_isStale 58 = .ok (.aload_n 2, 1) := by decide +kernel
theorem dX1_isStale_59 : decode cX1_isStale 59 = .ok (.getfield 115, 3) := by decide +kernel
theorem dX1_isStale_62 : decode cX1_isStale 62 = .ok (.aload_n 0, 1) := by decide +kernel
theorem dX1_isStale_63 : decode cX1_isStale 63 = .ok (.getfield 40, 3) := by decide +kernel
theorem dX1_isStale_66 : decode cX1_isStale 66 = .ok (.getfield 135, 3) := by decide +kernel
theorem dX1_isStale_69 : decode cX1_isStale 69 = .ok (.iload 5, 2) := by decide +kernel
theorem dX1_isStale_71 : decode cX1_isStale 71 = .ok (.invokestatic 66, 3) := by decide +kernel
theorem dX1_isStale_74 : decode cX1_isStale 74 = .ok (.if_icmp .ne 20, 3) := by decide +kernel
theorem dX1_isStale_77 : decode cX1_isStale 77 = .ok (.aload_n 2, 1) := by decide +kernel
theorem dX1_isStale_78 : decode cX1_isStale 78 = .ok (.getfield 118, 3) := by decide +kernel
theorem dX1_isStale_81 : decode cX1_isStale 81 = .ok (.aload_n 0, 1) := by decide +kernel
theorem dX1_isStale_82 : decode cX1_isStale 82 = .ok (.getfield 40, 3) := by decide +kernel
theorem dX1_isStale_85 : decode cX1_isStale 85 = .ok (.iload 5, 2) := by decide +kernel
theorem dX1_isStale_87 : decode cX1_isStale 87 = .ok (.invokevirtual 137, 3) := by decide +kernel
theorem dX1_isStale_90 : decode cX1_isStale 90 = .ok (.lcmp, 1) := by decide +kernel
theorem dX1_isStale_91 : decode cX1_isStale 91 = .ok (.ifCond .eq 5, 3) := by decide +kernel
theorem dX1_isStale_94 : decode cX1_isStale 94 = .ok (.iconst 1, 1) := by decide +kernel
theorem dX1_isStale_95 : decode cX1_isStale 95 = .ok (.ireturn, 1) := by decide +kernel
theorem dX1_isStale_96 : decode cX1_isStale 96 = .ok (.iinc 4 1, 3) := by decide +kernel
theorem dX1_isStale_99 : decode cX1_isStale 99 = .ok (.goto (-74), 3) := by decide +kernel
theorem dX1_isStale_102 : decode cX1_isStale 102 = .ok (.iconst 0, 1) := by decide +kernel
theorem dX1_isStale_103 : decode cX1_isStale 103 = .ok (.ireturn, 1) := by decide +kernel
theorem dX1_snapOf_0 : decode cX1_snapOf 0 = .ok (.iconst 0, 1) := by decide +kernel
theorem dX1_snapOf_1 : decode cX1_snapOf 1 = .ok (.istore_n 2, 1) := by decide +kernel
theorem dX1_snapOf_2 : decode cX1_snapOf 2 = .ok (.aload_n 0, 1) := by decide +kernel
theorem dX1_snapOf_3 : decode cX1_snapOf 3 = .ok (.getfield 9, 3) := by decide +kernel
theorem dX1_snapOf_6 : decode cX1_snapOf 6 = .ok (.iconst 1, 1) := by decide +kernel
theorem dX1_snapOf_7 : decode cX1_snapOf 7 = .ok (.iadd, 1) := by decide +kernel
theorem dX1_snapOf_8 : decode cX1_snapOf 8 = .ok (.istore_n 3, 1) := by decide +kernel
theorem dX1_snapOf_9 : decode cX1_snapOf 9 = .ok (.iconst 0, 1) := by decide +kernel
theorem dX1_snapOf_10 : decode cX1_snapOf 10 = .ok (.istore 4, 2) := by decide +kernel
theorem dX1_snapOf_12 : decode cX1_snapOf 12 = .ok (.iload 4, 2) := by decide +kernel
theorem dX1_snapOf_14 : decode cX1_snapOf 14 = .ok (.aload_n 0, 1) := by decide +kernel
theorem dX1_snapOf_15 : decode cX1_snapOf 15 = .ok (.getfield 47, 3) := by decide +kernel
theorem dX1_snapOf_18 : decode cX1_snapOf 18 = .ok (.if_icmp .ge 44, 3) := by decide +kernel
theorem dX1_snapOf_21 : decode cX1_snapOf 21 = .ok (.aload_n 0, 1) := by decide +kernel
theorem dX1_snapOf_22 : decode cX1_snapOf 22 = .ok (.getfield 34, 3) := by decide +kernel
theorem dX1_snapOf_25 : decode cX1_snapOf 25 = .ok (.iload 4, 2) := by decide +kernel
theorem dX1_snapOf_27 : decode cX1_snapOf 27 = .ok (.invokestatic 66, 3) := by decide +kernel
theorem dX1_snapOf_30 : decode cX1_snapOf 30 = .ok (.iload_n 1, 1) := by decide +kernel
theorem dX1_snapOf_31 : decode cX1_snapOf 31 = .ok (.isub, 1) := by decide +kernel
theorem dX1_snapOf_32 : decode cX1_snapOf 32 = .ok (.invokestatic 141, 3) := by decide +kernel
theorem dX1_snapOf_35 : decode cX1_snapOf 35 = .ok (.istore 5, 2) := by decide +kernel
theorem dX1_snapOf_37 : decode cX1_snapOf 37 = .ok (.iload 5, 2) := by decide +kernel
theorem dX1_snapOf_39 : decode cX1_snapOf 39 = .ok (.iload_n 3, 1) := by decide +kernel
theorem dX1_snapOf_40 : decode cX1_snapOf 40 = .ok (.if_icmp .ge 16, 3) := by decide +kernel
theorem dX1_snapOf_43 : decode cX1_snapOf 43 = .ok (.iload 5, 2) := by decide +kernel
theorem dX1_snapOf_45 : decode cX1_snapOf 45 = .ok (.istore_n 3, 1) := by decide +kernel
theorem dX1_snapOf_46 : decode cX1_snapOf 46 = .ok (.aload_n 0, 1) := by decide +kernel
theorem dX1_snapOf_47 : decode cX1_snapOf 47 = .ok (.getfield 34, 3) := by decide +kernel
theorem dX1_snapOf_50 : decode cX1_snapOf 50 = .ok (.iload 4, 2) := by decide +kernel
theorem dX1_snapOf_52 : decode cX1_snapOf 52 = .ok (.invokestatic 66, 3) := by decide +kernel
theorem dX1_snapOf_55 : decode cX1_snapOf 55 = .ok (.istore_n 2, 1) := by decide +kernel
theorem dX1_snapOf_56 : decode cX1_snapOf 56 = .ok (.iinc 4 1, 3) := by decide +kernel
theorem dX1_snapOf_59 : decode cX1_snapOf 59 = .ok (.goto (-47), 3) := by decide +kernel
theorem dX1_snapOf_62 : decode cX1_snapOf 62 = .ok (.iload_n 2, 1) := by decide +kernel
theorem dX1_snapOf_63 : decode cX1_snapOf 63 = .ok (.ireturn, 1) := by decide +kernel
theorem dX1_hintedWidth_0 : decode cX1_hintedWidth 0 = .ok (.aload_n 0, 1) := by decide +kernel
theorem dX1_hintedWidth_1 : decode cX1_hintedWidth 1 = .ok (.iload_n 1, 1) := by decide +kernel
theorem dX1_hintedWidth_2 : decode cX1_hintedWidth 2 = .ok (.invokevirtual 146, 3) := by decide +kernel
theorem dX1_hintedWidth_5 : decode cX1_hintedWidth 5 = .ok (.istore_n 2, 1) := by decide +kernel
theorem dX1_hintedWidth_6 : decode cX1_hintedWidth 6 = .ok (.iload_n 2, 1) := by decide +kernel
theorem dX1_hintedWidth_7 : decode cX1_hintedWidth 7 = .ok (.ifCond .ne 7, 3) := by decide +kernel
theorem dX1_hintedWidth_10 : decode cX1_hintedWidth 10 = .ok (.iload_n 1, 1) := by decide +kernel
theorem dX1_hintedWidth_11 : decode cX1_hintedWidth 11 = .ok (.goto 4, 3) := by decide +kernel
theorem dX1_hintedWidth_14 : decode cX1_hintedWidth 14 = .ok (.iload_n 2, 1) := by decide +kernel
theorem dX1_hintedWidth_15 : decode cX1_hintedWidth 15 = .ok (.ireturn, 1) := by decide +kernel
theorem dX1_wideOf_0 : decode cX1_wideOf 0 = .ok (.aload_n 0, 1) := by decide +kernel
theorem dX1_wideOf_1 : decode cX1_wideOf 1 = .ok (.iload_n 1, 1) := by decide +kernel
theorem dX1_wideOf_2 : decode cX1_wideOf 2 = .ok (.invokevirtual 146, 3) := by decide +kernel
theorem dX1_wideOf_5 : decode cX1_wideOf 5 = .ok (.istore_n 3, 1) := by decide +kernel
theorem dX1_wideOf_6 : decode cX1_wideOf 6 = .ok (.iconst 1, 1) := by decide +kernel
theorem dX1_wideOf_7 : decode cX1_wideOf 7 = .ok (.iload_n 3, 1) := by decide +kernel
theorem dX1_wideOf_8 : decode cX1_wideOf 8 = .ok (.ifCond .ne 7, 3) := by decide +kernel
theorem dX1_wideOf_11 : decode cX1_wideOf 11 = .ok (.iload_n 1, 1) := by decide +kernel
theorem dX1_wideOf_12 : decode cX1_wideOf 12 = .ok (.goto 4, 3) := by decide +kernel
theorem dX1_wideOf_15 : decode cX1_wideOf 15 = .ok (.iload_n 3, 1) := by decide +kernel
theorem dX1_wideOf_16 : decode cX1_wideOf 16 = .ok (.iload_n 2, 1) := by decide +kernel
theorem dX1_wideOf_17 : decode cX1_wideOf 17 = .ok (.invokestatic 149, 3) := by decide +kernel
theorem dX1_wideOf_20 : decode cX1_wideOf 20 = .ok (.invokestatic 153, 3) := by decide +kernel
theorem dX1_wideOf_23 : decode cX1_wideOf 23 = .ok (.ireturn, 1) := by decide +kernel
theorem dX1_alikeWith_0 : decode cX1_alikeWith 0 = .ok (.aload_n 0, 1) := by decide +kernel
theorem dX1_alikeWith_1 : decode cX1_alikeWith 1 = .ok (.iload_n 1, 1) := by decide +kernel
theorem dX1_alikeWith_2 : decode cX1_alikeWith 2 = .ok (.invokevirtual 156, 3) := by decide +kernel
theorem dX1_alikeWith_5 : decode cX1_alikeWith 5 = .ok (.istore_n 2, 1) := by decide +kernel
theorem dX1_alikeWith_6 : decode cX1_alikeWith 6 = .ok (.iconst 0, 1) := by decide +kernel
theorem dX1_alikeWith_7 : decode cX1_alikeWith 7 = .ok (.istore_n 3, 1) := by decide +kernel
theorem dX1_alikeWith_8 : decode cX1_alikeWith 8 = .ok (.iconst 0, 1) := by decide +kernel
theorem dX1_alikeWith_9 : decode cX1_alikeWith 9 = .ok (.istore 4, 2) := by decide +kernel
theorem dX1_alikeWith_11 : decode cX1_alikeWith 11 = .ok (.iload 4, 2) := by decide +kernel
theorem dX1_alikeWith_13 : decode cX1_alikeWith 13 = .ok (.aload_n 0, 1) := by decide +kernel
theorem dX1_alikeWith_14 : decode cX1_alikeWith 14 = .ok (.getfield 28, 3) := by decide +kernel
theorem dX1_alikeWith_17 : decode cX1_alikeWith 17 = .ok (.arraylength, 1) := by decide +kernel
theorem dX1_alikeWith_18 : decode cX1_alikeWith 18 = .ok (.if_icmp .ge 37, 3) := by decide +kernel
theorem dX1_alikeWith_21 : decode cX1_alikeWith 21 = .ok (.aload_n 0, 1) := by decide +kernel
theorem dX1_alikeWith_22 : decode cX1_alikeWith 22 = .ok (.getfield 28, 3) := by decide +kernel
theorem dX1_alikeWith_25 : decode cX1_alikeWith 25 = .ok (.iload 4, 2) := by decide +kernel
theorem dX1_alikeWith_27 : decode cX1_alikeWith 27 = .ok (.iaload, 1) := by decide +kernel
theorem dX1_alikeWith_28 : decode cX1_alikeWith 28 = .ok (.ifCond .le 21, 3) := by decide +kernel
theorem dX1_alikeWith_31 : decode cX1_alikeWith 31 = .ok (.aload_n 0, 1) := by decide +kernel
theorem dX1_alikeWith_32 : decode cX1_alikeWith 32 = .ok (.aload_n 0, 1) := by decide +kernel
theorem dX1_alikeWith_33 : decode cX1_alikeWith 33 = .ok (.getfield 28, 3) := by decide +kernel
theorem dX1_alikeWith_36 : decode cX1_alikeWith 36 = .ok (.iload 4, 2) := by decide +kernel
theorem dX1_alikeWith_38 : decode cX1_alikeWith 38 = .ok (.iaload, 1) := by decide +kernel
theorem dX1_alikeWith_39 : decode cX1_alikeWith 39 = .ok (.invokevirtual 156, 3) := by decide +kernel
theorem dX1_alikeWith_42 : decode cX1_alikeWith 42 = .ok (.iload_n 2, 1) := by decide +kernel
theorem dX1_alikeWith_43 : decode cX1_alikeWith 43 = .ok (.if_icmp .ne 6, 3) := by decide +kernel
theorem dX1_alikeWith_46 : decode cX1_alikeWith 46 = .ok (.iinc 3 1, 3) := by decide +kernel
theorem dX1_alikeWith_49 : decode cX1_alikeWith 49 = .ok (.iinc 4 1, 3) := by decide +kernel
theorem dX1_alikeWith_52 : decode cX1_alikeWith 52 = .ok (.goto (-41), 3) := by decide +kernel
theorem dX1_alikeWith_55 : decode cX1_alikeWith 55 = .ok (.iload_n 3, 1) := by decide +kernel
theorem dX1_alikeWith_56 : decode cX1_alikeWith 56 = .ok (.ireturn, 1) := by decide +kernel
theorem dX1_snappingTo_0 : decode cX1_snappingTo 0 = .ok (.iconst 0, 1) := by decide +kernel
theorem dX1_snappingTo_1 : decode cX1_snappingTo 1 = .ok (.istore_n 2, 1) := by decide +kernel
theorem dX1_snappingTo_2 : decode cX1_snappingTo 2 = .ok (.iconst 0, 1) := by decide +kernel
theorem dX1_snappingTo_3 : decode cX1_snappingTo 3 = .ok (.istore_n 3, 1) := by decide +kernel
theorem dX1_snappingTo_4 : decode cX1_snappingTo 4 = .ok (.iload_n 3, 1) := by decide +kernel
theorem dX1_snappingTo_5 : decode cX1_snappingTo 5 = .ok (.aload_n 0, 1) := by decide +kernel
theorem dX1_snappingTo_6 : decode cX1_snappingTo 6 = .ok (.getfield 28, 3) := by decide +kernel
theorem dX1_snappingTo_9 : decode cX1_snappingTo 9 = .ok (.arraylength, 1) := by decide +kernel
theorem dX1_snappingTo_10 : decode cX1_snappingTo 10 = .ok (.if_icmp .ge 35, 3) := by decide +kernel
theorem dX1_snappingTo_13 : decode cX1_snappingTo 13 = .ok (.aload_n 0, 1) := by decide +kernel
theorem dX1_snappingTo_14 : decode cX1_snappingTo 14 = .ok (.getfield 28, 3) := by decide +kernel
theorem dX1_snappingTo_17 : decode cX1_snappingTo 17 = .ok (.iload_n 3, 1) := by decide +kernel
theorem dX1_snappingTo_18 : decode cX1_snappingTo 18 = .ok (.iaload, 1) := by decide +kernel
theorem dX1_snappingTo_19 : decode cX1_snappingTo 19 = .ok (.ifCond .le 20, 3) := by decide +kernel
theorem dX1_snappingTo_22 : decode cX1_snappingTo 22 = .ok (.aload_n 0, 1) := by decide +kernel
theorem dX1_snappingTo_23 : decode cX1_snappingTo 23 = .ok (.aload_n 0, 1) := by decide +kernel
theorem dX1_snappingTo_24 : decode cX1_snappingTo 24 = .ok (.getfield 28, 3) := by decide +kernel
theorem dX1_snappingTo_27 : decode cX1_snappingTo 27 = .ok (.iload_n 3, 1) := by decide +kernel
theorem dX1_snappingTo_28 : decode cX1_snappingTo 28 = .ok (.iaload, 1) := by decide +kernel
theorem dX1_snappingTo_29 : decode cX1_snappingTo 29 = .ok (.invokevirtual 146, 3) := by decide +kernel
theorem dX1_snappingTo_32 : decode cX1_snappingTo 32 = .ok (.iload_n 1, 1) := by decide +kernel
theorem dX1_snappingTo_33 : decode cX1_snappingTo 33 = .ok (.if_icmp .ne 6, 3) := by decide +kernel
theorem dX1_snappingTo_36 : decode cX1_snappingTo 36 = .ok (.iinc 2 1, 3) := by decide +kernel
theorem dX1_snappingTo_39 : decode cX1_snappingTo 39 = .ok (.iinc 3 1, 3) := by decide +kernel
theorem dX1_snappingTo_42 : decode cX1_snappingTo 42 = .ok (.goto (-38), 3) := by decide +kernel
theorem dX1_snappingTo_45 : decode cX1_snappingTo 45 = .ok (.iload_n 2, 1) := by decide +kernel
theorem dX1_snappingTo_46 : decode cX1_snappingTo 46 = .ok (.ireturn, 1) := by decide +kernel
theorem dX1_unlikeWidths_0 : decode cX1_unlikeWidths 0 = .ok (.iconst 0, 1) := by decide +kernel
theorem dX1_unlikeWidths_1 : decode cX1_unlikeWidths 1 = .ok (.istore_n 1, 1) := by decide +kernel
theorem dX1_unlikeWidths_2 : decode cX1_unlikeWidths 2 = .ok (.iconst 0, 1) := by decide +kernel
theorem dX1_unlikeWidths_3 : decode cX1_unlikeWidths 3 = .ok (.istore_n 2, 1) := by decide +kernel
theorem dX1_unlikeWidths_4 : decode cX1_unlikeWidths 4 = .ok (.iload_n 2, 1) := by decide +kernel
theorem dX1_unlikeWidths_5 : decode cX1_unlikeWidths 5 = .ok (.aload_n 0, 1) := by decide +kernel
theorem dX1_unlikeWidths_6 : decode cX1_unlikeWidths 6 = .ok (.getfield 28, 3) := by decide +kernel
theorem dX1_unlikeWidths_9 : decode cX1_unlikeWidths 9 = .ok (.arraylength, 1) := by decide +kernel
theorem dX1_unlikeWidths_10 : decode cX1_unlikeWidths 10 = .ok (.if_icmp .ge 29, 3) := by decide +kernel
theorem dX1_unlikeWidths_13 : decode cX1_unlikeWidths 13 = .ok (.aload_n 0, 1) := by decide +kernel
theorem dX1_unlikeWidths_14 : decode cX1_unlikeWidths 14 = .ok (.getfield 28, 3) := by decide +kernel
theorem dX1_unlikeWidths_17 : decode cX1_unlikeWidths 17 = .ok (.iload_n 2, 1) := by decide +kernel
theorem dX1_unlikeWidths_18 : decode cX1_unlikeWidths 18 = .ok (.iaload, 1) := by decide +kernel
theorem dX1_unlikeWidths_19 : decode cX1_unlikeWidths 19 = .ok (.ifCond .le 14, 3) := by decide +kernel
theorem dX1_unlikeWidths_22 : decode cX1_unlikeWidths 22 = .ok (.aload_n 0, 1) := by decide +kernel
theorem dX1_unlikeWidths_23 : decode cX1_unlikeWidths 23 = .ok (.iload_n 2, 1) := by decide +kernel
theorem dX1_unlikeWidths_24 : decode cX1_unlikeWidths 24 = .ok (.invokevirtual 159, 3) := by decide +kernel
theorem dX1_unlikeWidths_27 : decode cX1_unlikeWidths 27 = .ok (.ifCond .ne 6, 3) := by decide +kernel
theorem dX1_unlikeWidths_30 : decode cX1_unlikeWidths 30 = .ok (.iinc 1 1, 3) := by decide +kernel
theorem dX1_unlikeWidths_33 : decode cX1_unlikeWidths 33 = .ok (.iinc 2 1, 3) := by decide +kernel
theorem dX1_unlikeWidths_36 : decode cX1_unlikeWidths 36 = .ok (.goto (-32), 3) := by decide +kernel
theorem dX1_unlikeWidths_39 : decode cX1_unlikeWidths 39 = .ok (.iload_n 1, 1) := by decide +kernel
theorem dX1_unlikeWidths_40 : decode cX1_unlikeWidths 40 = .ok (.ireturn, 1) := by decide +kernel
theorem dX1_isAlikeAhead_0 : decode cX1_isAlikeAhead 0 = .ok (.aload_n 0, 1) := by decide +kernel
theorem dX1_isAlikeAhead_1 : decode cX1_isAlikeAhead 1 = .ok (.aload_n 0, 1) := by decide +kernel
theorem dX1_isAlikeAhead_2 : decode cX1_isAlikeAhead 2 = .ok (.getfield 28, 3) := by decide +kernel
theorem dX1_isAlikeAhead_5 : decode cX1_isAlikeAhead 5 = .ok (.iload_n 1, 1) := by decide +kernel
theorem dX1_isAlikeAhead_6 : decode cX1_isAlikeAhead 6 = .ok (.invokestatic 66, 3) := by decide +kernel
theorem dX1_isAlikeAhead_9 : decode cX1_isAlikeAhead 9 = .ok (.invokevirtual 156, 3) := by decide +kernel
theorem dX1_isAlikeAhead_12 : decode cX1_isAlikeAhead 12 = .ok (.istore_n 2, 1) := by decide +kernel
theorem dX1_isAlikeAhead_13 : decode cX1_isAlikeAhead 13 = .ok (.iconst 0, 1) := by decide +kernel
theorem dX1_isAlikeAhead_14 : decode cX1_isAlikeAhead 14 = .ok (.istore_n 3, 1) := by decide +kernel
theorem dX1_isAlikeAhead_15 : decode cX1_isAlikeAhead 15 = .ok (.iload_n 3, 1) := by decide +kernel
theorem dX1_isAlikeAhead_16 : decode cX1_isAlikeAhead 16 = .ok (.iload_n 1, 1) := by decide +kernel
theorem dX1_isAlikeAhead_17 : decode cX1_isAlikeAhead 17 = .ok (.if_icmp .ge 43, 3) := by decide +kernel
theorem dX1_isAlikeAhead_20 : decode cX1_isAlikeAhead 20 = .ok (.iload_n 3, 1) := by decide +kernel
theorem dX1_isAlikeAhead_21 : decode cX1_isAlikeAhead 21 = .ok (.aload_n 0, 1) := by decide +kernel
theorem dX1_isAlikeAhead_22 : decode cX1_isAlikeAhead 22 = .ok (.getfield 28, 3) := by decide +kernel
theorem dX1_isAlikeAhead_25 : decode cX1_isAlikeAhead 25 = .ok (.arraylength, 1) := by decide +kernel
theorem dX1_isAlikeAhead_26 : decode cX1_isAlikeAhead 26 = .ok (.if_icmp .ge 34, 3) := by decide +kernel
theorem dX1_isAlikeAhead_29 : decode cX1_isAlikeAhead 29 = .ok (.aload_n 0, 1) := by decide +kernel
theorem dX1_isAlikeAhead_30 : decode cX1_isAlikeAhead 30 = .ok (.getfield 28, 3) := by decide +kernel
theorem dX1_isAlikeAhead_33 : decode cX1_isAlikeAhead 33 = .ok (.iload_n 3, 1) := by decide +kernel
theorem dX1_isAlikeAhead_34 : decode cX1_isAlikeAhead 34 = .ok (.iaload, 1) := by decide +kernel
theorem dX1_isAlikeAhead_35 : decode cX1_isAlikeAhead 35 = .ok (.ifCond .le 19, 3) := by decide +kernel
theorem dX1_isAlikeAhead_38 : decode cX1_isAlikeAhead 38 = .ok (.aload_n 0, 1) := by decide +kernel
theorem dX1_isAlikeAhead_39 : decode cX1_isAlikeAhead 39 = .ok (.aload_n 0, 1) := by decide +kernel
theorem dX1_isAlikeAhead_40 : decode cX1_isAlikeAhead 40 = .ok (.getfield 28, 3) := by decide +kernel
theorem dX1_isAlikeAhead_43 : decode cX1_isAlikeAhead 43 = .ok (.iload_n 3, 1) := by decide +kernel
theorem dX1_isAlikeAhead_44 : decode cX1_isAlikeAhead 44 = .ok (.iaload, 1) := by decide +kernel
theorem dX1_isAlikeAhead_45 : decode cX1_isAlikeAhead 45 = .ok (.invokevirtual 156, 3) := by decide +kernel
theorem dX1_isAlikeAhead_48 : decode cX1_isAlikeAhead 48 = .ok (.iload_n 2, 1) := by decide +kernel
theorem dX1_isAlikeAhead_49 : decode cX1_isAlikeAhead 49 = .ok (.if_icmp .ne 5, 3) := by decide +kernel
theorem dX1_isAlikeAhead_52 : decode cX1_isAlikeAhead 52 = .ok (.iconst 1, 1) := by decide +kernel
theorem dX1_isAlikeAhead_53 : decode cX1_isAlikeAhead 53 = .ok (.ireturn, 1) := by decide +kernel
theorem dX1_isAlikeAhead_54 : decode cX1_isAlikeAhead 54 = .ok (.iinc 3 1, 3) := by decide +kernel
theorem dX1_isAlikeAhead_57 : decode cX1_isAlikeAhead 57 = .ok (.goto (-42), 3) := by decide +kernel
theorem dX1_isAlikeAhead_60 : decode cX1_isAlikeAhead 60 = .ok (.iconst 0, 1) := by decide +kernel
theorem dX1_isAlikeAhead_61 : decode cX1_isAlikeAhead 61 = .ok (.ireturn, 1) := by decide +kernel
theorem dX1_stemsTogether_0 : decode cX1_stemsTogether 0 = .ok (.iconst 0, 1) := by decide +kernel
theorem dX1_stemsTogether_1 : decode cX1_stemsTogether 1 = .ok (.istore_n 1, 1) := by decide +kernel
theorem dX1_stemsTogether_2 : decode cX1_stemsTogether 2 = .ok (.iconst 0, 1) := by decide +kernel
theorem dX1_stemsTogether_3 : decode cX1_stemsTogether 3 = .ok (.istore_n 2, 1) := by decide +kernel
theorem dX1_stemsTogether_4 : decode cX1_stemsTogether 4 = .ok (.iload_n 2, 1) := by decide +kernel
theorem dX1_stemsTogether_5 : decode cX1_stemsTogether 5 = .ok (.aload_n 0, 1) := by decide +kernel
theorem dX1_stemsTogether_6 : decode cX1_stemsTogether 6 = .ok (.getfield 22, 3) := by decide +kernel
theorem dX1_stemsTogether_9 : decode cX1_stemsTogether 9 = .ok (.arraylength, 1) := by decide +kernel
theorem dX1_stemsTogether_10 : decode cX1_stemsTogether 10 = .ok (.if_icmp .ge 18, 3) := by decide +kernel
theorem dX1_stemsTogether_13 : decode cX1_stemsTogether 13 = .ok (.iload_n 1, 1) := by decide +kernel
theorem dX1_stemsTogether_14 : decode cX1_stemsTogether 14 = .ok (.aload_n 0, 1) := by decide +kernel
theorem dX1_stemsTogether_15 : decode cX1_stemsTogether 15 = .ok (.getfield 22, 3) := by decide +kernel
theorem dX1_stemsTogether_18 : decode cX1_stemsTogether 18 = .ok (.iload_n 2, 1) := by decide +kernel
theorem dX1_stemsTogether_19 : decode cX1_stemsTogether 19 = .ok (.iaload, 1) := by decide +kernel
theorem dX1_stemsTogether_20 : decode cX1_stemsTogether 20 = .ok (.iadd, 1) := by decide +kernel
theorem dX1_stemsTogether_21 : decode cX1_stemsTogether 21 = .ok (.istore_n 1, 1) := by decide +kernel
theorem dX1_stemsTogether_22 : decode cX1_stemsTogether 22 = .ok (.iinc 2 1, 3) := by decide +kernel
theorem dX1_stemsTogether_25 : decode cX1_stemsTogether 25 = .ok (.goto (-21), 3) := by decide +kernel
theorem dX1_stemsTogether_28 : decode cX1_stemsTogether 28 = .ok (.iload_n 1, 1) := by decide +kernel
theorem dX1_stemsTogether_29 : decode cX1_stemsTogether 29 = .ok (.ireturn, 1) := by decide +kernel
theorem dX2_init_0 : decode cX2_init 0 = .ok (.aload_n 0, 1) := by decide +kernel
theorem dX2_init_1 : decode cX2_init 1 = .ok (.invokespecial 3, 3) := by decide +kernel
theorem dX2_init_4 : decode cX2_init 4 = .ok (.aload_n 0, 1) := by decide +kernel
theorem dX2_init_5 : decode cX2_init 5 = .ok (.iconst 5, 1) := by decide +kernel
theorem dX2_init_6 : decode cX2_init 6 = .ok (.anewarray 9, 3) := by decide +kernel
theorem dX2_init_9 : decode cX2_init 9 = .ok (.putfield 11, 3) := by decide +kernel
theorem dX2_init_12 : decode cX2_init 12 = .ok (.iconst 0, 1) := by decide +kernel
theorem dX2_init_13 : decode cX2_init 13 = .ok (.istore_n 1, 1) := by decide +kernel
theorem dX2_init_14 : decode cX2_init 14 = .ok (.iload_n 1, 1) := by decide +kernel
theorem dX2_init_15 : decode cX2_init 15 = .ok (.aload_n 0, 1) := by decide +kernel
theorem dX2_init_16 : decode cX2_init 16 = .ok (.getfield 11, 3) := by decide +kernel
theorem dX2_init_19 : decode cX2_init 19 = .ok (.arraylength, 1) := by decide +kernel
theorem dX2_init_20 : decode cX2_init 20 = .ok (.if_icmp .ge 22, 3) := by decide +kernel
theorem dX2_init_23 : decode cX2_init 23 = .ok (.aload_n 0, 1) := by decide +kernel
theorem dX2_init_24 : decode cX2_init 24 = .ok (.getfield 11, 3) := by decide +kernel
theorem dX2_init_27 : decode cX2_init 27 = .ok (.iload_n 1, 1) := by decide +kernel
theorem dX2_init_28 : decode cX2_init 28 = .ok (.new 9, 3) := by decide +kernel
theorem dX2_init_31 : decode cX2_init 31 = .ok (.dup, 1) := by decide +kernel
theorem dX2_init_32 : decode cX2_init 32 = .ok (.invokespecial 17, 3) := by decide +kernel
theorem dX2_init_35 : decode cX2_init 35 = .ok (.aastore, 1) := by decide +kernel
theorem dX2_init_36 : decode cX2_init 36 = .ok (.iinc 1 1, 3) := by decide +kernel
theorem dX2_init_39 : decode cX2_init 39 = .ok (.goto (-25), 3) := by decide +kernel
theorem dX2_init_42 : decode cX2_init 42 = .ok (.return_, 1) := by decide +kernel
theorem dX2_note_0 : decode cX2_note 0 = .ok (.aload_n 0, 1) := by decide +kernel
theorem dX2_note_1 : decode cX2_note 1 = .ok (.aload_n 0, 1) := by decide +kernel
theorem dX2_note_2 : decode cX2_note 2 = .ok (.getfield 18, 3) := by decide +kernel
theorem dX2_note_5 : decode cX2_note 5 = .ok (.invokevirtual 22, 3) := by decide +kernel
theorem dX2_note_8 : decode cX2_note 8 = .ok (.astore_n 2, 1) := by decide +kernel
theorem dX2_note_9 : decode cX2_note 9 = .ok (.aload_n 2, 1) := by decide +kernel
theorem dX2_note_10 : decode cX2_note 10 = .ok (.ifnull 8, 3) := by decide +kernel
theorem dX2_note_13 : decode cX2_note 13 = .ok (.aload_n 2, 1) := by decide +kernel
theorem dX2_note_14 : decode cX2_note 14 = .ok (.aload_n 1, 1) := by decide +kernel
theorem dX2_note_15 : decode cX2_note 15 = .ok (.invokevirtual 26, 3) := by decide +kernel
theorem dX2_note_18 : decode cX2_note 18 = .ok (.return_, 1) := by decide +kernel
theorem dX2_keep_0 : decode cX2_keep 0 = .ok (.aload_n 0, 1) := by decide +kernel
theorem dX2_keep_1 : decode cX2_keep 1 = .ok (.getfield 18, 3) := by decide +kernel
theorem dX2_keep_4 : decode cX2_keep 4 = .ok (.iconst 4, 1) := by decide +kernel
theorem dX2_keep_5 : decode cX2_keep 5 = .ok (.if_icmp .ge 16, 3) := by decide +kernel
theorem dX2_keep_8 : decode cX2_keep 8 = .ok (.aload_n 0, 1) := by decide +kernel
theorem dX2_keep_9 : decode cX2_keep 9 = .ok (.dup, 1) := by decide +kernel
theorem dX2_keep_10 : decode cX2_keep 10 = .ok (.getfield 18, 3) := by decide +kernel
theorem dX2_keep_13 : decode cX2_keep 13 = .ok (.iconst 1, 1) := by decide +kernel
theorem dX2_keep_14 : decode cX2_keep 14 = .ok (.iadd, 1) := by decide +kernel
theorem dX2_keep_15 : decode cX2_keep 15 = .ok (.putfield 18, 3) := by decide +kernel
theorem dX2_keep_18 : decode cX2_keep 18 = .ok (.goto 15, 3) := by decide +kernel
theorem dX2_keep_21 : decode cX2_keep 21 = .ok (.aload_n 0, 1) := by decide +kernel
theorem dX2_keep_22 : decode cX2_keep 22 = .ok (.aload_n 0, 1) := by decide +kernel
theorem dX2_keep_23 : decode cX2_keep 23 = .ok (.getfield 30, 3) := by decide +kernel
theorem dX2_keep_26 : decode cX2_keep 26 = .ok (.iconst 1, 1) := by decide +kernel
theorem dX2_keep_27 : decode cX2_keep 27 = .ok (.iadd, 1) := by decide +kernel
theorem dX2_keep_28 : decode cX2_keep 28 = .ok (.iconst 5, 1) := by decide +kernel
theorem dX2_keep_29 : decode cX2_keep 29 = .ok (.irem, 1) := by decide +kernel
theorem dX2_keep_30 : decode cX2_keep 30 = .ok (.putfield 30, 3) := by decide +kernel
theorem dX2_keep_33 : decode cX2_keep 33 = .ok (.return_, 1) := by decide +kernel
theorem dX2_slotAt_0 : decode cX2_slotAt 0 = .ok (.aload_n 0, 1) := by decide +kernel
theorem dX2_slotAt_1 : decode cX2_slotAt 1 = .ok (.getfield 30, 3) := by decide +kernel
theorem dX2_slotAt_4 : decode cX2_slotAt 4 = .ok (.iload_n 1, 1) := by decide +kernel
theorem dX2_slotAt_5 : decode cX2_slotAt 5 = .ok (.iadd, 1) := by decide +kernel
theorem dX2_slotAt_6 : decode cX2_slotAt 6 = .ok (.iconst 5, 1) := by decide +kernel
theorem dX2_slotAt_7 : decode cX2_slotAt 7 = .ok (.invokestatic 33, 3) := by decide +kernel
theorem dX2_slotAt_10 : decode cX2_slotAt 10 = .ok (.istore_n 2, 1) := by decide +kernel
theorem dX2_slotAt_11 : decode cX2_slotAt 11 = .ok (.iload_n 2, 1) := by decide +kernel
theorem dX2_slotAt_12 : decode cX2_slotAt 12 = .ok (.ifCond .lt 21, 3) := by decide +kernel
theorem dX2_slotAt_15 : decode cX2_slotAt 15 = .ok (.iload_n 2, 1) := by decide +kernel
theorem dX2_slotAt_16 : decode cX2_slotAt 16 = .ok (.aload_n 0, 1) := by decide +kernel
theorem dX2_slotAt_17 : decode cX2_slotAt 17 = .ok (.getfield 11, 3) := by decide +kernel
theorem dX2_slotAt_20 : decode cX2_slotAt 20 = .ok (.arraylength, 1) := by decide +kernel
theorem dX2_slotAt_21 : decode cX2_slotAt 21 = .ok (.if_icmp .ge 12, 3) := by decide +kernel
theorem dX2_slotAt_24 : decode cX2_slotAt 24 = .ok (.aload_n 0, 1) := by decide +kernel
theorem dX2_slotAt_25 : decode cX2_slotAt 25 = .ok (.getfield 11, 3) := by decide +kernel
theorem dX2_slotAt_28 : decode cX2_slotAt 28 = .ok (.iload_n 2, 1) := by decide +kernel
theorem dX2_slotAt_29 : decode cX2_slotAt 29 = .ok (.aaload, 1) := by decide +kernel
theorem dX2_slotAt_30 : decode cX2_slotAt 30 = .ok (.goto 4, 3) := by decide +kernel
theorem dX2_slotAt_33 : decode cX2_slotAt 33 = .ok (.aconst_null, 1) := by decide +kernel
theorem dX2_slotAt_34 : decode cX2_slotAt 34 = .ok (.areturn, 1) := by decide +kernel
theorem dX3_init_0 : decode cX3_init 0 = .ok (.aload_n 0, 1) := by decide +kernel
theorem dX3_init_1 : decode cX3_init 1 = .ok (.invokespecial 3, 3) := by decide +kernel
theorem dX3_init_4 : decode cX3_init 4 = .ok (.aload_n 0, 1) := by decide +kernel
theorem dX3_init_5 : decode cX3_init 5 = .ok (.bipush 60, 2) := by decide +kernel
theorem dX3_init_7 : decode cX3_init 7 = .ok (.newarray .int, 2) := by decide +kernel
theorem dX3_init_9 : decode cX3_init 9 = .ok (.putfield 9, 3) := by decide +kernel
theorem dX3_init_12 : decode cX3_init 12 = .ok (.aload_n 0, 1) := by decide +kernel
theorem dX3_init_13 : decode cX3_init 13 = .ok (.iconst 3, 1) := by decide +kernel
theorem dX3_init_14 : decode cX3_init 14 = .ok (.newarray .int, 2) := by decide +kernel
theorem dX3_init_16 : decode cX3_init 16 = .ok (.putfield 15, 3) := by decide +kernel
theorem dX3_init_19 : decode cX3_init 19 = .ok (.return_, 1) := by decide +kernel
theorem dX4_init_0 : decode cX4_init 0 = .ok (.aload_n 0, 1) := by decide +kernel
theorem dX4_init_1 : decode cX4_init 1 = .ok (.invokespecial 3, 3) := by decide +kernel
theorem dX4_init_4 : decode cX4_init 4 = .ok (.aload_n 0, 1) := by decide +kernel
theorem dX4_init_5 : decode cX4_init 5 = .ok (.iconst 4, 1) := by decide +kernel
theorem dX4_init_6 : decode cX4_init 6 = .ok (.newarray .int, 2) := by decide +kernel
theorem dX4_init_8 : decode cX4_init 8 = .ok (.putfield 9, 3) := by decide +kernel
theorem dX4_init_11 : decode cX4_init 11 = .ok (.aload_n 0, 1) := by decide +kernel
theorem dX4_init_12 : decode cX4_init 12 = .ok (.iconst 4, 1) := by decide +kernel
theorem dX4_init_13 : decode cX4_init 13 = .ok (.newarray .int, 2) := by decide +kernel
theorem dX4_init_15 : decode cX4_init 15 = .ok (.putfield 15, 3) := by decide +kernel
theorem dX4_init_18 : decode cX4_init 18 = .ok (.aload_n 0, 1) := by decide +kernel
theorem dX4_init_19 : decode cX4_init 19 = .ok (.iconst 4, 1) := by decide +kernel
theorem dX4_init_20 : decode cX4_init 20 = .ok (.newarray .int, 2) := by decide +kernel
theorem dX4_init_22 : decode cX4_init 22 = .ok (.putfield 18, 3) := by decide +kernel
theorem dX4_init_25 : decode cX4_init 25 = .ok (.aload_n 0, 1) := by decide +kernel
theorem dX4_init_26 : decode cX4_init 26 = .ok (.bipush 32, 2) := by decide +kernel
theorem dX4_init_28 : decode cX4_init 28 = .ok (.newarray .int, 2) := by decide +kernel
theorem dX4_init_30 : decode cX4_init 30 = .ok (.putfield 21, 3) := by decide +kernel
theorem dX4_init_33 : decode cX4_init 33 = .ok (.aload_n 0, 1) := by decide +kernel
theorem dX4_init_34 : decode cX4_init 34 = .ok (.bipush 32, 2) := by decide +kernel
theorem dX4_init_36 : decode cX4_init 36 = .ok (.newarray .long, 2) := by decide +kernel
theorem dX4_init_38 : decode cX4_init 38 = .ok (.putfield 24, 3) := by decide +kernel
theorem dX4_init_41 : decode cX4_init 41 = .ok (.return_, 1) := by decide +kernel
theorem dX4_copy_0 : decode cX4_copy 0 = .ok (.aload_n 0, 1) := by decide +kernel
theorem dX4_copy_1 : decode cX4_copy 1 = .ok (.aload_n 1, 1) := by decide +kernel
theorem dX4_copy_2 : decode cX4_copy 2 = .ok (.getfield 28, 3) := by decide +kernel
theorem dX4_copy_5 : decode cX4_copy 5 = .ok (.putfield 28, 3) := by decide +kernel
theorem dX4_copy_8 : decode cX4_copy 8 = .ok (.aload_n 1, 1) := by decide +kernel
theorem dX4_copy_9 : decode cX4_copy 9 = .ok (.getfield 9, 3) := by decide +kernel
theorem dX4_copy_12 : decode cX4_copy 12 = .ok (.aload_n 0, 1) := by decide +kernel
theorem dX4_copy_13 : decode cX4_copy 13 = .ok (.getfield 9, 3) := by decide +kernel
theorem dX4_copy_16 : decode cX4_copy 16 = .ok (.invokestatic 32, 3) := by decide +kernel
theorem dX4_copy_19 : decode cX4_copy 19 = .ok (.aload_n 1, 1) := by decide +kernel
theorem dX4_copy_20 : decode cX4_copy 20 = .ok (.getfield 15, 3) := by decide +kernel
theorem dX4_copy_23 : decode cX4_copy 23 = .ok (.aload_n 0, 1) := by decide +kernel
theorem dX4_copy_24 : decode cX4_copy 24 = .ok (.getfield 15, 3) := by decide +kernel
theorem dX4_copy_27 : decode cX4_copy 27 = .ok (.invokestatic 32, 3) := by decide +kernel
theorem dX4_copy_30 : decode cX4_copy 30 = .ok (.aload_n 1, 1) := by decide +kernel
theorem dX4_copy_31 : decode cX4_copy 31 = .ok (.getfield 18, 3) := by decide +kernel
theorem dX4_copy_34 : decode cX4_copy 34 = .ok (.aload_n 0, 1) := by decide +kernel
theorem dX4_copy_35 : decode cX4_copy 35 = .ok (.getfield 18, 3) := by decide +kernel
theorem dX4_copy_38 : decode cX4_copy 38 = .ok (.invokestatic 32, 3) := by decide +kernel
theorem dX4_copy_41 : decode cX4_copy 41 = .ok (.aload_n 1, 1) := by decide +kernel
theorem dX4_copy_42 : decode cX4_copy 42 = .ok (.getfield 21, 3) := by decide +kernel
theorem dX4_copy_45 : decode cX4_copy 45 = .ok (.aload_n 0, 1) := by decide +kernel
theorem dX4_copy_46 : decode cX4_copy 46 = .ok (.getfield 21, 3) := by decide +kernel
theorem dX4_copy_49 : decode cX4_copy 49 = .ok (.invokestatic 32, 3) := by decide +kernel
theorem dX4_copy_52 : decode cX4_copy 52 = .ok (.iconst 0, 1) := by decide +kernel
theorem dX4_copy_53 : decode cX4_copy 53 = .ok (.istore_n 2, 1) := by decide +kernel
theorem dX4_copy_54 : decode cX4_copy 54 = .ok (.iload_n 2, 1) := by decide +kernel
theorem dX4_copy_55 : decode cX4_copy 55 = .ok (.aload_n 0, 1) := by decide +kernel
theorem dX4_copy_56 : decode cX4_copy 56 = .ok (.getfield 24, 3) := by decide +kernel
theorem dX4_copy_59 : decode cX4_copy 59 = .ok (.arraylength, 1) := by decide +kernel
theorem dX4_copy_60 : decode cX4_copy 60 = .ok (.if_icmp .ge 30, 3) := by decide +kernel
theorem dX4_copy_63 : decode cX4_copy 63 = .ok (.iload_n 2, 1) := by decide +kernel
theorem dX4_copy_64 : decode cX4_copy 64 = .ok (.aload_n 1, 1) := by decide +kernel
theorem dX4_copy_65 : decode cX4_copy 65 = .ok (.getfield 24, 3) := by decide +kernel
theorem dX4_copy_68 : decode cX4_copy 68 = .ok (.arraylength, 1) := by decide +kernel
theorem dX4_copy_69 : decode cX4_copy 69 = .ok (.if_icmp .ge 21, 3) := by decide +kernel
theorem dX4_copy_72 : decode cX4_copy 72 = .ok (.aload_n 0, 1) := by decide +kernel
theorem dX4_copy_73 : decode cX4_copy 73 = .ok (.getfield 24, 3) := by decide +kernel
theorem dX4_copy_76 : decode cX4_copy 76 = .ok (.iload_n 2, 1) := by decide +kernel
theorem dX4_copy_77 : decode cX4_copy 77 = .ok (.aload_n 1, 1) := by decide +kernel
theorem dX4_copy_78 : decode cX4_copy 78 = .ok (.getfield 24, 3) := by decide +kernel
theorem dX4_copy_81 : decode cX4_copy 81 = .ok (.iload_n 2, 1) := by decide +kernel
theorem dX4_copy_82 : decode cX4_copy 82 = .ok (.laload, 1) := by decide +kernel
theorem dX4_copy_83 : decode cX4_copy 83 = .ok (.lastore, 1) := by decide +kernel
theorem dX4_copy_84 : decode cX4_copy 84 = .ok (.iinc 2 1, 3) := by decide +kernel
theorem dX4_copy_87 : decode cX4_copy 87 = .ok (.goto (-33), 3) := by decide +kernel
theorem dX4_copy_90 : decode cX4_copy 90 = .ok (.return_, 1) := by decide +kernel
theorem dX4_isMade_0 : decode cX4_isMade 0 = .ok (.aload_n 0, 1) := by decide +kernel
theorem dX4_isMade_1 : decode cX4_isMade 1 = .ok (.getfield 9, 3) := by decide +kernel
theorem dX4_isMade_4 : decode cX4_isMade 4 = .ok (.iload_n 1, 1) := by decide +kernel
theorem dX4_isMade_5 : decode cX4_isMade 5 = .ok (.invokestatic 36, 3) := by decide +kernel
theorem dX4_isMade_8 : decode cX4_isMade 8 = .ok (.ifCond .le 7, 3) := by decide +kernel
theorem dX4_isMade_11 : decode cX4_isMade 11 = .ok (.iconst 1, 1) := by decide +kernel
theorem dX4_isMade_12 : decode cX4_isMade 12 = .ok (.goto 4, 3) := by decide +kernel
theorem dX4_isMade_15 : decode cX4_isMade 15 = .ok (.iconst 0, 1) := by decide +kernel
theorem dX4_isMade_16 : decode cX4_isMade 16 = .ok (.ireturn, 1) := by decide +kernel
theorem dX4_held_0 : decode cX4_held 0 = .ok (.iconst 0, 1) := by decide +kernel
theorem dX4_held_1 : decode cX4_held 1 = .ok (.istore_n 1, 1) := by decide +kernel
theorem dX4_held_2 : decode cX4_held 2 = .ok (.iconst 0, 1) := by decide +kernel
theorem dX4_held_3 : decode cX4_held 3 = .ok (.istore_n 2, 1) := by decide +kernel
theorem dX4_held_4 : decode cX4_held 4 = .ok (.iload_n 2, 1) := by decide +kernel
theorem dX4_held_5 : decode cX4_held 5 = .ok (.iconst 4, 1) := by decide +kernel
theorem dX4_held_6 : decode cX4_held 6 = .ok (.if_icmp .ge 20, 3) := by decide +kernel
theorem dX4_held_9 : decode cX4_held 9 = .ok (.aload_n 0, 1) := by decide +kernel
theorem dX4_held_10 : decode cX4_held 10 = .ok (.iload_n 2, 1) := by decide +kernel
theorem dX4_held_11 : decode cX4_held 11 = .ok (.invokevirtual 40, 3) := by decide +kernel
theorem dX4_held_14 : decode cX4_held 14 = .ok (.ifCond .eq 6, 3) := by decide +kernel
theorem dX4_held_17 : decode cX4_held 17 = .ok (.iinc 1 1, 3) := by decide +kernel
theorem dX4_held_20 : decode cX4_held 20 = .ok (.iinc 2 1, 3) := by decide +kernel
theorem dX4_held_23 : decode cX4_held 23 = .ok (.goto (-19), 3) := by decide +kernel
theorem dX4_held_26 : decode cX4_held 26 = .ok (.iload_n 1, 1) := by decide +kernel
theorem dX4_held_27 : decode cX4_held 27 = .ok (.ireturn, 1) := by decide +kernel
theorem dX4_slotOf_0 : decode cX4_slotOf 0 = .ok (.iconst 0, 1) := by decide +kernel
theorem dX4_slotOf_1 : decode cX4_slotOf 1 = .ok (.istore_n 2, 1) := by decide +kernel
theorem dX4_slotOf_2 : decode cX4_slotOf 2 = .ok (.iload_n 2, 1) := by decide +kernel
theorem dX4_slotOf_3 : decode cX4_slotOf 3 = .ok (.iconst 4, 1) := by decide +kernel
theorem dX4_slotOf_4 : decode cX4_slotOf 4 = .ok (.if_icmp .ge 31, 3) := by decide +kernel
theorem dX4_slotOf_7 : decode cX4_slotOf 7 = .ok (.aload_n 0, 1) := by decide +kernel
theorem dX4_slotOf_8 : decode cX4_slotOf 8 = .ok (.iload_n 2, 1) := by decide +kernel
theorem dX4_slotOf_9 : decode cX4_slotOf 9 = .ok (.invokevirtual 40, 3) := by decide +kernel
theorem dX4_slotOf_12 : decode cX4_slotOf 12 = .ok (.ifCond .eq 17, 3) := by decide +kernel
theorem dX4_slotOf_15 : decode cX4_slotOf 15 = .ok (.aload_n 0, 1) := by decide +kernel
theorem dX4_slotOf_16 : decode cX4_slotOf 16 = .ok (.getfield 15, 3) := by decide +kernel
theorem dX4_slotOf_19 : decode cX4_slotOf 19 = .ok (.iload_n 2, 1) := by decide +kernel
theorem dX4_slotOf_20 : decode cX4_slotOf 20 = .ok (.invokestatic 36, 3) := by decide +kernel
theorem dX4_slotOf_23 : decode cX4_slotOf 23 = .ok (.iload_n 1, 1) := by decide +kernel
theorem dX4_slotOf_24 : decode cX4_slotOf 24 = .ok (.if_icmp .ne 5, 3) := by decide +kernel
theorem dX4_slotOf_27 : decode cX4_slotOf 27 = .ok (.iload_n 2, 1) := by decide +kernel
theorem dX4_slotOf_28 : decode cX4_slotOf 28 = .ok (.ireturn, 1) := by decide +kernel
theorem dX4_slotOf_29 : decode cX4_slotOf 29 = .ok (.iinc 2 1, 3) := by decide +kernel
theorem dX4_slotOf_32 : decode cX4_slotOf 32 = .ok (.goto (-30), 3) := by decide +kernel
theorem dX4_slotOf_35 : decode cX4_slotOf 35 = .ok (.iconst (-1), 1) := by decide +kernel
theorem dX4_slotOf_36 : decode cX4_slotOf 36 = .ok (.ireturn, 1) := by decide +kernel
theorem dX4_slotAt_0 : decode cX4_slotAt 0 = .ok (.iconst 0, 1) := by decide +kernel
theorem dX4_slotAt_1 : decode cX4_slotAt 1 = .ok (.istore_n 2, 1) := by decide +kernel
theorem dX4_slotAt_2 : decode cX4_slotAt 2 = .ok (.iload_n 2, 1) := by decide +kernel
theorem dX4_slotAt_3 : decode cX4_slotAt 3 = .ok (.iconst 4, 1) := by decide +kernel
theorem dX4_slotAt_4 : decode cX4_slotAt 4 = .ok (.if_icmp .ge 28, 3) := by decide +kernel
theorem dX4_slotAt_7 : decode cX4_slotAt 7 = .ok (.aload_n 0, 1) := by decide +kernel
theorem dX4_slotAt_8 : decode cX4_slotAt 8 = .ok (.iload_n 2, 1) := by decide +kernel
theorem dX4_slotAt_9 : decode cX4_slotAt 9 = .ok (.invokevirtual 40, 3) := by decide +kernel
theorem dX4_slotAt_12 : decode cX4_slotAt 12 = .ok (.ifCond .eq 14, 3) := by decide +kernel
theorem dX4_slotAt_15 : decode cX4_slotAt 15 = .ok (.aload_n 0, 1) := by decide +kernel
theorem dX4_slotAt_16 : decode cX4_slotAt 16 = .ok (.iload_n 2, 1) := by decide +kernel
theorem dX4_slotAt_17 : decode cX4_slotAt 17 = .ok (.invokevirtual 44, 3) := by decide +kernel
theorem dX4_slotAt_20 : decode cX4_slotAt 20 = .ok (.iload_n 1, 1) := by decide +kernel
theorem dX4_slotAt_21 : decode cX4_slotAt 21 = .ok (.if_icmp .ne 5, 3) := by decide +kernel
theorem dX4_slotAt_24 : decode cX4_slotAt 24 = .ok (.iload_n 2, 1) := by decide +kernel
theorem dX4_slotAt_25 : decode cX4_slotAt 25 = .ok (.ireturn, 1) := by decide +kernel
theorem dX4_slotAt_26 : decode cX4_slotAt 26 = .ok (.iinc 2 1, 3) := by decide +kernel
theorem dX4_slotAt_29 : decode cX4_slotAt 29 = .ok (.goto (-27), 3) := by decide +kernel
theorem dX4_slotAt_32 : decode cX4_slotAt 32 = .ok (.iconst (-1), 1) := by decide +kernel
theorem dX4_slotAt_33 : decode cX4_slotAt 33 = .ok (.ireturn, 1) := by decide +kernel
theorem dX4_olderThan_0 : decode cX4_olderThan 0 = .ok (.iconst 0, 1) := by decide +kernel
theorem dX4_olderThan_1 : decode cX4_olderThan 1 = .ok (.istore_n 2, 1) := by decide +kernel
theorem dX4_olderThan_2 : decode cX4_olderThan 2 = .ok (.iconst 0, 1) := by decide +kernel
theorem dX4_olderThan_3 : decode cX4_olderThan 3 = .ok (.istore_n 3, 1) := by decide +kernel
theorem dX4_olderThan_4 : decode cX4_olderThan 4 = .ok (.iload_n 3, 1) := by decide +kernel
theorem dX4_olderThan_5 : decode cX4_olderThan 5 = .ok (.iconst 4, 1) := by decide +kernel
theorem dX4_olderThan_6 : decode cX4_olderThan 6 = .ok (.if_icmp .ge 39, 3) := by decide +kernel
theorem dX4_olderThan_9 : decode cX4_olderThan 9 = .ok (.aload_n 0, 1) := by decide +kernel
theorem dX4_olderThan_10 : decode cX4_olderThan 10 = .ok (.iload_n 3, 1) := by decide +kernel
theorem dX4_olderThan_11 : decode cX4_olderThan 11 = .ok (.invokevirtual 40, 3) := by decide +kernel
theorem dX4_olderThan_14 : decode cX4_olderThan 14 = .ok (.ifCond .eq 25, 3) := by decide +kernel
theorem dX4_olderThan_17 : decode cX4_olderThan 17 = .ok (.aload_n 0, 1) := by decide +kernel
theorem dX4_olderThan_18 : decode cX4_olderThan 18 = .ok (.getfield 9, 3) := by decide +kernel
theorem dX4_olderThan_21 : decode cX4_olderThan 21 = .ok (.iload_n 3, 1) := by decide +kernel
theorem dX4_olderThan_22 : decode cX4_olderThan 22 = .ok (.invokestatic 36, 3) := by decide +kernel
theorem dX4_olderThan_25 : decode cX4_olderThan 25 = .ok (.aload_n 0, 1) := by decide +kernel
theorem dX4_olderThan_26 : decode cX4_olderThan 26 = .ok (.getfield 9, 3) := by decide +kernel
theorem dX4_olderThan_29 : decode cX4_olderThan 29 = .ok (.iload_n 1, 1) := by decide +kernel
theorem dX4_olderThan_30 : decode cX4_olderThan 30 = .ok (.invokestatic 36, 3) := by decide +kernel
theorem dX4_olderThan_33 : decode cX4_olderThan 33 = .ok (.if_icmp .ge 6, 3) := by decide +kernel
theorem dX4_olderThan_36 : decode cX4_olderThan 36 = .ok (.iinc 2 1, 3) := by decide +kernel
theorem dX4_olderThan_39 : decode cX4_olderThan 39 = .ok (.iinc 3 1, 3) := by decide +kernel
theorem dX4_olderThan_42 : decode cX4_olderThan 42 = .ok (.goto (-38), 3) := by decide +kernel
theorem dX4_olderThan_45 : decode cX4_olderThan 45 = .ok (.iload_n 2, 1) := by decide +kernel
theorem dX4_olderThan_46 : decode cX4_olderThan 46 = .ok (.ireturn, 1) := by decide +kernel
theorem dX4_slotToMake_0 : decode cX4_slotToMake 0 = .ok (.aload_n 0, 1) := by decide +kernel
theorem dX4_slotToMake_1 : decode cX4_slotToMake 1 = .ok (.iload_n 1, 1) := by decide +kernel
theorem dX4_slotToMake_2 : decode cX4_slotToMake 2 = .ok (.invokevirtual 48, 3) := by decide +kernel
theorem dX4_slotToMake_5 : decode cX4_slotToMake 5 = .ok (.istore_n 2, 1) := by decide +kernel
theorem dX4_slotToMake_6 : decode cX4_slotToMake 6 = .ok (.iload_n 2, 1) := by decide +kernel
theorem dX4_slotToMake_7 : decode cX4_slotToMake 7 = .ok (.ifCond .lt 5, 3) := by decide +kernel
theorem dX4_slotToMake_10 : decode cX4_slotToMake 10 = .ok (.iload_n 2, 1) := by decide +kernel
theorem dX4_slotToMake_11 : decode cX4_slotToMake 11 = .ok (.ireturn, 1) := by decide +kernel
theorem dX4_slotToMake_12 : decode cX4_slotToMake 12 = .ok (.iconst 0, 1) := by decide +kernel
theorem dX4_slotToMake_13 : decode cX4_slotToMake 13 = .ok (.istore_n 3, 1) := by decide +kernel
theorem dX4_slotToMake_14 : decode cX4_slotToMake 14 = .ok (.iconst 1, 1) := by decide +kernel
theorem dX4_slotToMake_15 : decode cX4_slotToMake 15 = .ok (.istore 4, 2) := by decide +kernel
theorem dX4_slotToMake_17 : decode cX4_slotToMake 17 = .ok (.iload 4, 2) := by decide +kernel
theorem dX4_slotToMake_19 : decode cX4_slotToMake 19 = .ok (.iconst 4, 1) := by decide +kernel
theorem dX4_slotToMake_20 : decode cX4_slotToMake 20 = .ok (.if_icmp .ge 32, 3) := by decide +kernel
theorem dX4_slotToMake_23 : decode cX4_slotToMake 23 = .ok (.aload_n 0, 1) := by decide +kernel
theorem dX4_slotToMake_24 : decode cX4_slotToMake 24 = .ok (.getfield 9, 3) := by decide +kernel
theorem dX4_slotToMake_27 : decode cX4_slotToMake 27 = .ok (.iload 4, 2) := by decide +kernel
theorem dX4_slotToMake_29 : decode cX4_slotToMake 29 = .ok (.invokestatic 36, 3) := by decide +kernel
theorem dX4_slotToMake_32 : decode cX4_slotToMake 32 = .ok (.aload_n 0, 1) := by decide +kernel
theorem dX4_slotToMake_33 : decode cX4_slotToMake 33 = .ok (.getfield 9, 3) := by decide +kernel
theorem dX4_slotToMake_36 : decode cX4_slotToMake 36 = .ok (.iload_n 3, 1) := by decide +kernel
theorem dX4_slotToMake_37 : decode cX4_slotToMake 37 = .ok (.invokestatic 36, 3) := by decide +kernel
theorem dX4_slotToMake_40 : decode cX4_slotToMake 40 = .ok (.if_icmp .ge 6, 3) := by decide +kernel
theorem dX4_slotToMake_43 : decode cX4_slotToMake 43 = .ok (.iload 4, 2) := by decide +kernel
theorem dX4_slotToMake_45 : decode cX4_slotToMake 45 = .ok (.istore_n 3, 1) := by decide +kernel
theorem dX4_slotToMake_46 : decode cX4_slotToMake 46 = .ok (.iinc 4 1, 3) := by decide +kernel
theorem dX4_slotToMake_49 : decode cX4_slotToMake 49 = .ok (.goto (-32), 3) := by decide +kernel
theorem dX4_slotToMake_52 : decode cX4_slotToMake 52 = .ok (.iload_n 3, 1) := by decide +kernel
theorem dX4_slotToMake_53 : decode cX4_slotToMake 53 = .ok (.ireturn, 1) := by decide +kernel
theorem dX4_begin_0 : decode cX4_begin 0 = .ok (.aload_n 0, 1) := by decide +kernel
theorem dX4_begin_1 : decode cX4_begin 1 = .ok (.dup, 1) := by decide +kernel
theorem dX4_begin_2 : decode cX4_begin 2 = .ok (.getfield 28, 3) := by decide +kernel
theorem dX4_begin_5 : decode cX4_begin 5 = .ok (.iconst 1, 1) := by decide +kernel
theorem dX4_begin_6 : decode cX4_begin 6 = .ok (.iadd, 1) := by decide +kernel
theorem dX4_begin_7 : decode cX4_begin 7 = .ok (.putfield 28, 3) := by decide +kernel
theorem dX4_begin_10 : decode cX4_begin 10 = .ok (.aload_n 0, 1) := by decide +kernel
theorem dX4_begin_11 : decode cX4_begin 11 = .ok (.getfield 9, 3) := by decide +kernel
theorem dX4_begin_14 : decode cX4_begin 14 = .ok (.iload_n 1, 1) := by decide +kernel
theorem dX4_begin_15 : decode cX4_begin 15 = .ok (.aload_n 0, 1) := by decide +kernel
theorem dX4_begin_16 : decode cX4_begin 16 = .ok (.getfield 28, 3) := by decide +kernel
theorem dX4_begin_19 : decode cX4_begin 19 = .ok (.invokestatic 51, 3) := by decide +kernel
theorem dX4_begin_22 : decode cX4_begin 22 = .ok (.aload_n 0, 1) := by decide +kernel
theorem dX4_begin_23 : decode cX4_begin 23 = .ok (.getfield 15, 3) := by decide +kernel
theorem dX4_begin_26 : decode cX4_begin 26 = .ok (.iload_n 1, 1) := by decide +kernel
theorem dX4_begin_27 : decode cX4_begin 27 = .ok (.iload_n 2, 1) := by decide +kernel
theorem dX4_begin_28 : decode cX4_begin 28 = .ok (.invokestatic 51, 3) := by decide +kernel
theorem dX4_begin_31 : decode cX4_begin 31 = .ok (.aload_n 0, 1) := by decide +kernel
theorem dX4_begin_32 : decode cX4_begin 32 = .ok (.getfield 18, 3) := by decide +kernel
theorem dX4_begin_35 : decode cX4_begin 35 = .ok (.iload_n 1, 1) := by decide +kernel
theorem dX4_begin_36 : decode cX4_begin 36 = .ok (.iload_n 3, 1) := by decide +kernel
theorem dX4_begin_37 : decode cX4_begin 37 = .ok (.invokestatic 51, 3) := by decide +kernel
theorem dX4_begin_40 : decode cX4_begin 40 = .ok (.return_, 1) := by decide +kernel
theorem dX4_keep_0 : decode cX4_keep 0 = .ok (.aload_n 0, 1) := by decide +kernel
theorem dX4_keep_1 : decode cX4_keep 1 = .ok (.getfield 21, 3) := by decide +kernel
theorem dX4_keep_4 : decode cX4_keep 4 = .ok (.iload_n 1, 1) := by decide +kernel
theorem dX4_keep_5 : decode cX4_keep 5 = .ok (.iload_n 2, 1) := by decide +kernel
theorem dX4_keep_6 : decode cX4_keep 6 = .ok (.invokestatic 51, 3) := by decide +kernel
theorem dX4_keep_9 : decode cX4_keep 9 = .ok (.iload_n 1, 1) := by decide +kernel
theorem dX4_keep_10 : decode cX4_keep 10 = .ok (.ifCond .lt 19, 3) := by decide +kernel
theorem dX4_keep_13 : decode cX4_keep 13 = .ok (.iload_n 1, 1) := by decide +kernel
theorem dX4_keep_14 : decode cX4_keep 14 = .ok (.aload_n 0, 1) := by decide +kernel
theorem dX4_keep_15 : decode cX4_keep 15 = .ok (.getfield 24, 3) := by decide +kernel
theorem dX4_keep_18 : decode cX4_keep 18 = .ok (.arraylength, 1) := by decide +kernel
theorem dX4_keep_19 : decode cX4_keep 19 = .ok (.if_icmp .ge 10, 3) := by decide +kernel
theorem dX4_keep_22 : decode cX4_keep 22 = .ok (.aload_n 0, 1) := by decide +kernel
theorem dX4_keep_23 : decode cX4_keep 23 = .ok (.getfield 24, 3) := by decide +kernel
theorem dX4_keep_26 : decode cX4_keep 26 = .ok (.iload_n 1, 1) := by decide +kernel
theorem dX4_keep_27 : decode cX4_keep 27 = .ok (.lload_n 3, 1) := by decide +kernel
theorem dX4_keep_28 : decode cX4_keep 28 = .ok (.lastore, 1) := by decide +kernel
theorem dX4_keep_29 : decode cX4_keep 29 = .ok (.return_, 1) := by decide +kernel
theorem dX4_litAt_0 : decode cX4_litAt 0 = .ok (.iload_n 1, 1) := by decide +kernel
theorem dX4_litAt_1 : decode cX4_litAt 1 = .ok (.ifCond .lt 21, 3) := by decide +kernel
theorem dX4_litAt_4 : decode cX4_litAt 4 = .ok (.iload_n 1, 1) := by decide +kernel
theorem dX4_litAt_5 : decode cX4_litAt 5 = .ok (.aload_n 0, 1) := by decide +kernel
theorem dX4_litAt_6 : decode cX4_litAt 6 = .ok (.getfield 24, 3) := by decide +kernel
theorem dX4_litAt_9 : decode cX4_litAt 9 = .ok (.arraylength, 1) := by decide +kernel
theorem dX4_litAt_10 : decode cX4_litAt 10 = .ok (.if_icmp .ge 12, 3) := by decide +kernel
theorem dX4_litAt_13 : decode cX4_litAt 13 = .ok (.aload_n 0, 1) := by decide +kernel
theorem dX4_litAt_14 : decode cX4_litAt 14 = .ok (.getfield 24, 3) := by decide +kernel
theorem dX4_litAt_17 : decode cX4_litAt 17 = .ok (.iload_n 1, 1) := by decide +kernel
theorem dX4_litAt_18 : decode cX4_litAt 18 = .ok (.laload, 1) := by decide +kernel
theorem dX4_litAt_19 : decode cX4_litAt 19 = .ok (.goto 4, 3) := by decide +kernel
theorem dX4_litAt_22 : decode cX4_litAt 22 = .ok (.lconst 0, 1) := by decide +kernel
theorem dX4_litAt_23 : decode cX4_litAt 23 = .ok (.lreturn, 1) := by decide +kernel
theorem dX4_litTogether_0 : decode cX4_litTogether 0 = .ok (.iconst 0, 1) := by decide +kernel
theorem dX4_litTogether_1 : decode cX4_litTogether 1 = .ok (.istore_n 2, 1) := by decide +kernel
theorem dX4_litTogether_2 : decode cX4_litTogether 2 = .ok (.iconst 0, 1) := by decide +kernel
theorem dX4_litTogether_3 : decode cX4_litTogether 3 = .ok (.istore_n 3, 1) := by decide +kernel
theorem dX4_litTogether_4 : decode cX4_litTogether 4 = .ok (.iload_n 3, 1) := by decide +kernel
theorem dX4_litTogether_5 : decode cX4_litTogether 5 = .ok (.aload_n 0, 1) := by decide +kernel
theorem dX4_litTogether_6 : decode cX4_litTogether 6 = .ok (.getfield 18, 3) := by decide +kernel
theorem dX4_litTogether_9 : decode cX4_litTogether 9 = .ok (.iload_n 1, 1) := by decide +kernel
theorem dX4_litTogether_10 : decode cX4_litTogether 10 = .ok (.invokestatic 36, 3) := by decide +kernel
theorem dX4_litTogether_13 : decode cX4_litTogether 13 = .ok (.if_icmp .ge 25, 3) := by decide +kernel
theorem dX4_litTogether_16 : decode cX4_litTogether 16 = .ok (.iload_n 2, 1) := by decide +kernel
theorem dX4_litTogether_17 : decode cX4_litTogether 17 = .ok (.aload_n 0, 1) := by decide +kernel
theorem dX4_litTogether_18 : decode cX4_litTogether 18 = .ok (.iload_n 1, 1) := by decide +kernel
theorem dX4_litTogether_19 : decode cX4_litTogether 19 = .ok (.bipush 8, 2) := by decide +kernel
theorem dX4_litTogether_21 : decode cX4_litTogether 21 = .ok (.imul, 1) := by decide +kernel
theorem dX4_litTogether_22 : decode cX4_litTogether 22 = .ok (.iload_n 3, 1) := by decide +kernel
theorem dX4_litTogether_23 : decode cX4_litTogether 23 = .ok (.iadd, 1) := by decide +kernel
theorem dX4_litTogether_24 : decode cX4_litTogether 24 = .ok (.invokevirtual 55, 3) := by decide +kernel
theorem dX4_litTogether_27 : decode cX4_litTogether 27 = .ok (.invokestatic 59, 3) := by decide +kernel
theorem dX4_litTogether_30 : decode cX4_litTogether 30 = .ok (.iadd, 1) := by decide +kernel
theorem dX4_litTogether_31 : decode cX4_litTogether 31 = .ok (.istore_n 2, 1) := by decide +kernel
theorem dX4_litTogether_32 : decode cX4_litTogether 32 = .ok (.iinc 3 1, 3) := by decide +kernel
theorem dX4_litTogether_35 : decode cX4_litTogether 35 = .ok (.goto (-31), 3) := by decide +kernel
theorem dX4_litTogether_38 : decode cX4_litTogether 38 = .ok (.iload_n 2, 1) := by decide +kernel
theorem dX4_litTogether_39 : decode cX4_litTogether 39 = .ok (.ireturn, 1) := by decide +kernel
theorem dX5_init_0 : decode cX5_init 0 = .ok (.aload_n 0, 1) := by decide +kernel
theorem dX5_init_1 : decode cX5_init 1 = .ok (.invokespecial 1, 3) := by decide +kernel
theorem dX5_init_4 : decode cX5_init 4 = .ok (.aload_n 0, 1) := by decide +kernel
theorem dX5_init_5 : decode cX5_init 5 = .ok (.new 7, 3) := by decide +kernel
theorem dX5_init_8 : decode cX5_init 8 = .ok (.dup, 1) := by decide +kernel
theorem dX5_init_9 : decode cX5_init 9 = .ok (.invokespecial 9, 3) := by decide +kernel
theorem dX5_init_12 : decode cX5_init 12 = .ok (.putfield 10, 3) := by decide +kernel
theorem dX5_init_15 : decode cX5_init 15 = .ok (.aload_n 0, 1) := by decide +kernel
theorem dX5_init_16 : decode cX5_init 16 = .ok (.new 7, 3) := by decide +kernel
theorem dX5_init_19 : decode cX5_init 19 = .ok (.dup, 1) := by decide +kernel
theorem dX5_init_20 : decode cX5_init 20 = .ok (.invokespecial 9, 3) := by decide +kernel
theorem dX5_init_23 : decode cX5_init 23 = .ok (.putfield 16, 3) := by decide +kernel
theorem dX5_init_26 : decode cX5_init 26 = .ok (.aload_n 0, 1) := by decide +kernel
theorem dX5_init_27 : decode cX5_init 27 = .ok (.new 19, 3) := by decide +kernel
theorem dX5_init_30 : decode cX5_init 30 = .ok (.dup, 1) := by decide +kernel
theorem dX5_init_31 : decode cX5_init 31 = .ok (.invokespecial 21, 3) := by decide +kernel
theorem dX5_init_34 : decode cX5_init 34 = .ok (.putfield 22, 3) := by decide +kernel
theorem dX5_init_37 : decode cX5_init 37 = .ok (.aload_n 0, 1) := by decide +kernel
theorem dX5_init_38 : decode cX5_init 38 = .ok (.new 26, 3) := by decide +kernel
theorem dX5_init_41 : decode cX5_init 41 = .ok (.dup, 1) := by decide +kernel
theorem dX5_init_42 : decode cX5_init 42 = .ok (.invokespecial 28, 3) := by decide +kernel
theorem dX5_init_45 : decode cX5_init 45 = .ok (.putfield 29, 3) := by decide +kernel
theorem dX5_init_48 : decode cX5_init 48 = .ok (.aload_n 0, 1) := by decide +kernel
theorem dX5_init_49 : decode cX5_init 49 = .ok (.new 33, 3) := by decide +kernel
theorem dX5_init_52 : decode cX5_init 52 = .ok (.dup, 1) := by decide +kernel
theorem dX5_init_53 : decode cX5_init 53 = .ok (.invokespecial 35, 3) := by decide +kernel
theorem dX5_init_56 : decode cX5_init 56 = .ok (.putfield 36, 3) := by decide +kernel
theorem dX5_init_59 : decode cX5_init 59 = .ok (.return_, 1) := by decide +kernel
theorem dX5_glyph_0 : decode cX5_glyph 0 = .ok (.aload_n 0, 1) := by decide +kernel
theorem dX5_glyph_1 : decode cX5_glyph 1 = .ok (.getfield 36, 3) := by decide +kernel
theorem dX5_glyph_4 : decode cX5_glyph 4 = .ok (.aload_n 0, 1) := by decide +kernel
theorem dX5_glyph_5 : decode cX5_glyph 5 = .ok (.getfield 10, 3) := by decide +kernel
theorem dX5_glyph_8 : decode cX5_glyph 8 = .ok (.invokevirtual 40, 3) := by decide +kernel
theorem dX5_glyph_11 : decode cX5_glyph 11 = .ok (.aload_n 0, 1) := by decide +kernel
theorem dX5_glyph_12 : decode cX5_glyph 12 = .ok (.aload_n 0, 1) := by decide +kernel
theorem dX5_glyph_13 : decode cX5_glyph 13 = .ok (.getfield 10, 3) := by decide +kernel
theorem dX5_glyph_16 : decode cX5_glyph 16 = .ok (.iload_n 1, 1) := by decide +kernel
theorem dX5_glyph_17 : decode cX5_glyph 17 = .ok (.invokevirtual 44, 3) := by decide +kernel
theorem dX5_glyph_20 : decode cX5_glyph 20 = .ok (.invokevirtual 48, 3) := by decide +kernel
theorem dX5_glyph_23 : decode cX5_glyph 23 = .ok (.ireturn, 1) := by decide +kernel
theorem dX5_stem_0 : decode cX5_stem 0 = .ok (.aload_n 0, 1) := by decide +kernel
theorem dX5_stem_1 : decode cX5_stem 1 = .ok (.getfield 36, 3) := by decide +kernel
theorem dX5_stem_4 : decode cX5_stem 4 = .ok (.aload_n 0, 1) := by decide +kernel
theorem dX5_stem_5 : decode cX5_stem 5 = .ok (.getfield 10, 3) := by decide +kernel
theorem dX5_stem_8 : decode cX5_stem 8 = .ok (.invokevirtual 40, 3) := by decide +kernel
theorem dX5_stem_11 : decode cX5_stem 11 = .ok (.aload_n 0, 1) := by decide +kernel
theorem dX5_stem_12 : decode cX5_stem 12 = .ok (.aload_n 0, 1) := by decide +kernel
theorem dX5_stem_13 : decode cX5_stem 13 = .ok (.getfield 10, 3) := by decide +kernel
theorem dX5_stem_16 : decode cX5_stem 16 = .ok (.iload_n 1, 1) := by decide +kernel
theorem dX5_stem_17 : decode cX5_stem 17 = .ok (.iload_n 2, 1) := by decide +kernel
theorem dX5_stem_18 : decode cX5_stem 18 = .ok (.iload_n 3, 1) := by decide +kernel
theorem dX5_stem_19 : decode cX5_stem 19 = .ok (.invokevirtual 51, 3) := by decide +kernel
theorem dX5_stem_22 : decode cX5_stem 22 = .ok (.invokevirtual 48, 3) := by decide +kernel
theorem dX5_stem_25 : decode cX5_stem 25 = .ok (.ireturn, 1) := by decide +kernel
theorem dX5_cut_0 : decode cX5_cut 0 = .ok (.aload_n 0, 1) := by decide +kernel
theorem dX5_cut_1 : decode cX5_cut 1 = .ok (.getfield 36, 3) := by decide +kernel
theorem dX5_cut_4 : decode cX5_cut 4 = .ok (.aload_n 0, 1) := by decide +kernel
theorem dX5_cut_5 : decode cX5_cut 5 = .ok (.getfield 10, 3) := by decide +kernel
theorem dX5_cut_8 : decode cX5_cut 8 = .ok (.invokevirtual 40, 3) := by decide +kernel
theorem dX5_cut_11 : decode cX5_cut 11 = .ok (.aload_n 0, 1) := by decide +kernel
theorem dX5_cut_12 : decode cX5_cut 12 = .ok (.aload_n 0, 1) := by decide +kernel
theorem dX5_cut_13 : decode cX5_cut 13 = .ok (.getfield 10, 3) := by decide +kernel
theorem dX5_cut_16 : decode cX5_cut 16 = .ok (.iload_n 1, 1) := by decide +kernel
theorem dX5_cut_17 : decode cX5_cut 17 = .ok (.iload_n 2, 1) := by decide +kernel
theorem dX5_cut_18 : decode cX5_cut 18 = .ok (.invokevirtual 55, 3) := by decide +kernel
theorem dX5_cut_21 : decode cX5_cut 21 = .ok (.invokevirtual 48, 3) := by decide +kernel
theorem dX5_cut_24 : decode cX5_cut 24 = .ok (.ireturn, 1) := by decide +kernel
theorem dX5_hint_0 : decode cX5_hint 0 = .ok (.aload_n 0, 1) := by decide +kernel
theorem dX5_hint_1 : decode cX5_hint 1 = .ok (.getfield 36, 3) := by decide +kernel
theorem dX5_hint_4 : decode cX5_hint 4 = .ok (.aload_n 0, 1) := by decide +kernel
theorem dX5_hint_5 : decode cX5_hint 5 = .ok (.getfield 10, 3) := by decide +kernel
theorem dX5_hint_8 : decode cX5_hint 8 = .ok (.invokevirtual 40, 3) := by decide +kernel
theorem dX5_hint_11 : decode cX5_hint 11 = .ok (.aload_n 0, 1) := by decide +kernel
theorem dX5_hint_12 : decode cX5_hint 12 = .ok (.aload_n 0, 1) := by decide +kernel
theorem dX5_hint_13 : decode cX5_hint 13 = .ok (.getfield 10, 3) := by decide +kernel
theorem dX5_hint_16 : decode cX5_hint 16 = .ok (.iload_n 1, 1) := by decide +kernel
theorem dX5_hint_17 : decode cX5_hint 17 = .ok (.iload_n 2, 1) := by decide +kernel
theorem dX5_hint_18 : decode cX5_hint 18 = .ok (.iload_n 3, 1) := by decide +kernel
theorem dX5_hint_19 : decode cX5_hint 19 = .ok (.invokevirtual 59, 3) := by decide +kernel
theorem dX5_hint_22 : decode cX5_hint 22 = .ok (.invokevirtual 48, 3) := by decide +kernel
theorem dX5_hint_25 : decode cX5_hint 25 = .ok (.ireturn, 1) := by decide +kernel
theorem dX5_standard_0 : decode cX5_standard 0 = .ok (.aload_n 0, 1) := by decide +kernel
theorem dX5_standard_1 : decode cX5_standard 1 = .ok (.getfield 36, 3) := by decide +kernel
theorem dX5_standard_4 : decode cX5_standard 4 = .ok (.aload_n 0, 1) := by decide +kernel
theorem dX5_standard_5 : decode cX5_standard 5 = .ok (.getfield 10, 3) := by decide +kernel
theorem dX5_standard_8 : decode cX5_standard 8 = .ok (.invokevirtual 40, 3) := by decide +kernel
theorem dX5_standard_11 : decode cX5_standard 11 = .ok (.aload_n 0, 1) := by decide +kernel
theorem dX5_standard_12 : decode cX5_standard 12 = .ok (.aload_n 0, 1) := by decide +kernel
theorem dX5_standard_13 : decode cX5_standard 13 = .ok (.getfield 10, 3) := by decide +kernel
theorem dX5_standard_16 : decode cX5_standard 16 = .ok (.iload_n 1, 1) := by decide +kernel
theorem dX5_standard_17 : decode cX5_standard 17 = .ok (.invokevirtual 62, 3) := by decide +kernel
theorem dX5_standard_20 : decode cX5_standard 20 = .ok (.invokevirtual 48, 3) := by decide +kernel
theorem dX5_standard_23 : decode cX5_standard 23 = .ok (.ireturn, 1) := by decide +kernel
theorem dX5_drop_0 : decode cX5_drop 0 = .ok (.aload_n 0, 1) := by decide +kernel
theorem dX5_drop_1 : decode cX5_drop 1 = .ok (.getfield 36, 3) := by decide +kernel
theorem dX5_drop_4 : decode cX5_drop 4 = .ok (.aload_n 0, 1) := by decide +kernel

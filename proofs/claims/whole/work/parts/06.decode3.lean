theorem dX6_stem_16 : decode cX6_stem 16 = .ok (.ifCond .eq 14, 3) := by decide +kernel
theorem dX6_stem_19 : decode cX6_stem 19 = .ok (.iload_n 3, 1) := by decide +kernel
theorem dX6_stem_20 : decode cX6_stem 20 = .ok (.iconst 1, 1) := by decide +kernel
theorem dX6_stem_21 : decode cX6_stem 21 = .ok (.sipush 300, 3) := by decide +kernel
theorem dX6_stem_24 : decode cX6_stem 24 = .ok (.invokestatic 39, 3) := by decide +kernel
theorem dX6_stem_27 : decode cX6_stem 27 = .ok (.ifCond .ne 6, 3) := by decide +kernel
theorem dX6_stem_30 : decode cX6_stem 30 = .ok (.ldc 58, 2) := by decide +kernel
theorem dX6_stem_32 : decode cX6_stem 32 = .ok (.ireturn, 1) := by decide +kernel
theorem dX6_stem_33 : decode cX6_stem 33 = .ok (.aload_n 0, 1) := by decide +kernel
theorem dX6_stem_34 : decode cX6_stem 34 = .ok (.iload_n 1, 1) := by decide +kernel
theorem dX6_stem_35 : decode cX6_stem 35 = .ok (.iload_n 2, 1) := by decide +kernel
theorem dX6_stem_36 : decode cX6_stem 36 = .ok (.invokevirtual 63, 3) := by decide +kernel
theorem dX6_stem_39 : decode cX6_stem 39 = .ok (.istore 4, 2) := by decide +kernel
theorem dX6_stem_41 : decode cX6_stem 41 = .ok (.iload 4, 2) := by decide +kernel
theorem dX6_stem_43 : decode cX6_stem 43 = .ok (.ifCond .eq 16, 3) := by decide +kernel
theorem dX6_stem_46 : decode cX6_stem 46 = .ok (.aload_n 0, 1) := by decide +kernel
theorem dX6_stem_47 : decode cX6_stem 47 = .ok (.iload_n 1, 1) := by decide +kernel
theorem dX6_stem_48 : decode cX6_stem 48 = .ok (.iload 4, 2) := by decide +kernel
theorem dX6_stem_50 : decode cX6_stem 50 = .ok (.iconst 1, 1) := by decide +kernel
theorem dX6_stem_51 : decode cX6_stem 51 = .ok (.isub, 1) := by decide +kernel
theorem dX6_stem_52 : decode cX6_stem 52 = .ok (.invokevirtual 66, 3) := by decide +kernel
theorem dX6_stem_55 : decode cX6_stem 55 = .ok (.iload_n 2, 1) := by decide +kernel
theorem dX6_stem_56 : decode cX6_stem 56 = .ok (.if_icmp .gt 7, 3) := by decide +kernel
theorem dX6_stem_59 : decode cX6_stem 59 = .ok (.iconst 1, 1) := by decide +kernel
theorem dX6_stem_60 : decode cX6_stem 60 = .ok (.goto 4, 3) := by decide +kernel
theorem dX6_stem_63 : decode cX6_stem 63 = .ok (.iconst 0, 1) := by decide +kernel
theorem dX6_stem_64 : decode cX6_stem 64 = .ok (.istore 5, 2) := by decide +kernel
theorem dX6_stem_66 : decode cX6_stem 66 = .ok (.iload 4, 2) := by decide +kernel
theorem dX6_stem_68 : decode cX6_stem 68 = .ok (.aload_n 0, 1) := by decide +kernel
theorem dX6_stem_69 : decode cX6_stem 69 = .ok (.iload_n 1, 1) := by decide +kernel
theorem dX6_stem_70 : decode cX6_stem 70 = .ok (.iconst 1, 1) := by decide +kernel
theorem dX6_stem_71 : decode cX6_stem 71 = .ok (.invokevirtual 47, 3) := by decide +kernel
theorem dX6_stem_74 : decode cX6_stem 74 = .ok (.if_icmp .eq 17, 3) := by decide +kernel
theorem dX6_stem_77 : decode cX6_stem 77 = .ok (.iload_n 2, 1) := by decide +kernel
theorem dX6_stem_78 : decode cX6_stem 78 = .ok (.iload_n 3, 1) := by decide +kernel
theorem dX6_stem_79 : decode cX6_stem 79 = .ok (.iadd, 1) := by decide +kernel
theorem dX6_stem_80 : decode cX6_stem 80 = .ok (.aload_n 0, 1) := by decide +kernel
theorem dX6_stem_81 : decode cX6_stem 81 = .ok (.iload_n 1, 1) := by decide +kernel
theorem dX6_stem_82 : decode cX6_stem 82 = .ok (.iload 4, 2) := by decide +kernel
theorem dX6_stem_84 : decode cX6_stem 84 = .ok (.iconst 0, 1) := by decide +kernel
theorem dX6_stem_85 : decode cX6_stem 85 = .ok (.invokevirtual 55, 3) := by decide +kernel
theorem dX6_stem_88 : decode cX6_stem 88 = .ok (.if_icmp .gt 7, 3) := by decide +kernel
theorem dX6_stem_91 : decode cX6_stem 91 = .ok (.iconst 1, 1) := by decide +kernel
theorem dX6_stem_92 : decode cX6_stem 92 = .ok (.goto 4, 3) := by decide +kernel
theorem dX6_stem_95 : decode cX6_stem 95 = .ok (.iconst 0, 1) := by decide +kernel
theorem dX6_stem_96 : decode cX6_stem 96 = .ok (.istore 6, 2) := by decide +kernel
theorem dX6_stem_98 : decode cX6_stem 98 = .ok (.iload 5, 2) := by decide +kernel
theorem dX6_stem_100 : decode cX6_stem 100 = .ok (.ifCond .eq 8, 3) := by decide +kernel
theorem dX6_stem_103 : decode cX6_stem 103 = .ok (.iload 6, 2) := by decide +kernel
theorem dX6_stem_105 : decode cX6_stem 105 = .ok (.ifCond .ne 6, 3) := by decide +kernel
theorem dX6_stem_108 : decode cX6_stem 108 = .ok (.ldc 69, 2) := by decide +kernel
theorem dX6_stem_110 : decode cX6_stem 110 = .ok (.ireturn, 1) := by decide +kernel
theorem dX6_stem_111 : decode cX6_stem 111 = .ok (.aload_n 0, 1) := by decide +kernel
theorem dX6_stem_112 : decode cX6_stem 112 = .ok (.iload_n 1, 1) := by decide +kernel
theorem dX6_stem_113 : decode cX6_stem 113 = .ok (.iconst 1, 1) := by decide +kernel
theorem dX6_stem_114 : decode cX6_stem 114 = .ok (.invokevirtual 47, 3) := by decide +kernel
theorem dX6_stem_117 : decode cX6_stem 117 = .ok (.bipush 6, 2) := by decide +kernel
theorem dX6_stem_119 : decode cX6_stem 119 = .ok (.if_icmp .ne 6, 3) := by decide +kernel
theorem dX6_stem_122 : decode cX6_stem 122 = .ok (.ldc 59, 2) := by decide +kernel
theorem dX6_stem_124 : decode cX6_stem 124 = .ok (.ireturn, 1) := by decide +kernel
theorem dX6_stem_125 : decode cX6_stem 125 = .ok (.aload_n 0, 1) := by decide +kernel
theorem dX6_stem_126 : decode cX6_stem 126 = .ok (.invokevirtual 60, 3) := by decide +kernel
theorem dX6_stem_129 : decode cX6_stem 129 = .ok (.iload_n 1, 1) := by decide +kernel
theorem dX6_stem_130 : decode cX6_stem 130 = .ok (.aload_n 0, 1) := by decide +kernel
theorem dX6_stem_131 : decode cX6_stem 131 = .ok (.iload_n 1, 1) := by decide +kernel
theorem dX6_stem_132 : decode cX6_stem 132 = .ok (.iconst 1, 1) := by decide +kernel
theorem dX6_stem_133 : decode cX6_stem 133 = .ok (.invokevirtual 47, 3) := by decide +kernel
theorem dX6_stem_136 : decode cX6_stem 136 = .ok (.iconst 0, 1) := by decide +kernel
theorem dX6_stem_137 : decode cX6_stem 137 = .ok (.invokestatic 51, 3) := by decide +kernel
theorem dX6_stem_140 : decode cX6_stem 140 = .ok (.iconst 1, 1) := by decide +kernel
theorem dX6_stem_141 : decode cX6_stem 141 = .ok (.isub, 1) := by decide +kernel
theorem dX6_stem_142 : decode cX6_stem 142 = .ok (.istore 7, 2) := by decide +kernel
theorem dX6_stem_144 : decode cX6_stem 144 = .ok (.iload 7, 2) := by decide +kernel
theorem dX6_stem_146 : decode cX6_stem 146 = .ok (.iload_n 1, 1) := by decide +kernel
theorem dX6_stem_147 : decode cX6_stem 147 = .ok (.iload 4, 2) := by decide +kernel
theorem dX6_stem_149 : decode cX6_stem 149 = .ok (.iconst 0, 1) := by decide +kernel
theorem dX6_stem_150 : decode cX6_stem 150 = .ok (.invokestatic 51, 3) := by decide +kernel
theorem dX6_stem_153 : decode cX6_stem 153 = .ok (.if_icmp .lt 25, 3) := by decide +kernel
theorem dX6_stem_156 : decode cX6_stem 156 = .ok (.aload_n 0, 1) := by decide +kernel
theorem dX6_stem_157 : decode cX6_stem 157 = .ok (.getfield 7, 3) := by decide +kernel
theorem dX6_stem_160 : decode cX6_stem 160 = .ok (.iload 7, 2) := by decide +kernel
theorem dX6_stem_162 : decode cX6_stem 162 = .ok (.iconst 3, 1) := by decide +kernel
theorem dX6_stem_163 : decode cX6_stem 163 = .ok (.iadd, 1) := by decide +kernel
theorem dX6_stem_164 : decode cX6_stem 164 = .ok (.aload_n 0, 1) := by decide +kernel
theorem dX6_stem_165 : decode cX6_stem 165 = .ok (.getfield 7, 3) := by decide +kernel
theorem dX6_stem_168 : decode cX6_stem 168 = .ok (.iload 7, 2) := by decide +kernel
theorem dX6_stem_170 : decode cX6_stem 170 = .ok (.iaload, 1) := by decide +kernel
theorem dX6_stem_171 : decode cX6_stem 171 = .ok (.iastore, 1) := by decide +kernel
theorem dX6_stem_172 : decode cX6_stem 172 = .ok (.iinc 7 (-1), 3) := by decide +kernel
theorem dX6_stem_175 : decode cX6_stem 175 = .ok (.goto (-31), 3) := by decide +kernel
theorem dX6_stem_178 : decode cX6_stem 178 = .ok (.aload_n 0, 1) := by decide +kernel
theorem dX6_stem_179 : decode cX6_stem 179 = .ok (.getfield 7, 3) := by decide +kernel
theorem dX6_stem_182 : decode cX6_stem 182 = .ok (.iload_n 1, 1) := by decide +kernel
theorem dX6_stem_183 : decode cX6_stem 183 = .ok (.iload 4, 2) := by decide +kernel
theorem dX6_stem_185 : decode cX6_stem 185 = .ok (.iconst 0, 1) := by decide +kernel
theorem dX6_stem_186 : decode cX6_stem 186 = .ok (.invokestatic 51, 3) := by decide +kernel
theorem dX6_stem_189 : decode cX6_stem 189 = .ok (.iload_n 2, 1) := by decide +kernel
theorem dX6_stem_190 : decode cX6_stem 190 = .ok (.iastore, 1) := by decide +kernel
theorem dX6_stem_191 : decode cX6_stem 191 = .ok (.aload_n 0, 1) := by decide +kernel
theorem dX6_stem_192 : decode cX6_stem 192 = .ok (.getfield 7, 3) := by decide +kernel
theorem dX6_stem_195 : decode cX6_stem 195 = .ok (.iload_n 1, 1) := by decide +kernel
theorem dX6_stem_196 : decode cX6_stem 196 = .ok (.iload 4, 2) := by decide +kernel
theorem dX6_stem_198 : decode cX6_stem 198 = .ok (.iconst 1, 1) := by decide +kernel
theorem dX6_stem_199 : decode cX6_stem 199 = .ok (.invokestatic 51, 3) := by decide +kernel
theorem dX6_stem_202 : decode cX6_stem 202 = .ok (.iload_n 3, 1) := by decide +kernel
theorem dX6_stem_203 : decode cX6_stem 203 = .ok (.iastore, 1) := by decide +kernel
theorem dX6_stem_204 : decode cX6_stem 204 = .ok (.aload_n 0, 1) := by decide +kernel
theorem dX6_stem_205 : decode cX6_stem 205 = .ok (.getfield 7, 3) := by decide +kernel
theorem dX6_stem_208 : decode cX6_stem 208 = .ok (.iload_n 1, 1) := by decide +kernel
theorem dX6_stem_209 : decode cX6_stem 209 = .ok (.iload 4, 2) := by decide +kernel
theorem dX6_stem_211 : decode cX6_stem 211 = .ok (.iconst 2, 1) := by decide +kernel
theorem dX6_stem_212 : decode cX6_stem 212 = .ok (.invokestatic 51, 3) := by decide +kernel
theorem dX6_stem_215 : decode cX6_stem 215 = .ok (.iconst 0, 1) := by decide +kernel
theorem dX6_stem_216 : decode cX6_stem 216 = .ok (.iastore, 1) := by decide +kernel
theorem dX6_stem_217 : decode cX6_stem 217 = .ok (.aload_n 0, 1) := by decide +kernel
theorem dX6_stem_218 : decode cX6_stem 218 = .ok (.getfield 7, 3) := by decide +kernel
theorem dX6_stem_221 : decode cX6_stem 221 = .ok (.bipush 9, 2) := by decide +kernel
theorem dX6_stem_223 : decode cX6_stem 223 = .ok (.bipush 20, 2) := by decide +kernel
theorem dX6_stem_225 : decode cX6_stem 225 = .ok (.iload_n 1, 1) := by decide +kernel
theorem dX6_stem_226 : decode cX6_stem 226 = .ok (.imul, 1) := by decide +kernel
theorem dX6_stem_227 : decode cX6_stem 227 = .ok (.iadd, 1) := by decide +kernel
theorem dX6_stem_228 : decode cX6_stem 228 = .ok (.iconst 1, 1) := by decide +kernel
theorem dX6_stem_229 : decode cX6_stem 229 = .ok (.iadd, 1) := by decide +kernel
theorem dX6_stem_230 : decode cX6_stem 230 = .ok (.dup2, 1) := by decide +kernel
theorem dX6_stem_231 : decode cX6_stem 231 = .ok (.iaload, 1) := by decide +kernel
theorem dX6_stem_232 : decode cX6_stem 232 = .ok (.iconst 1, 1) := by decide +kernel
theorem dX6_stem_233 : decode cX6_stem 233 = .ok (.iadd, 1) := by decide +kernel
theorem dX6_stem_234 : decode cX6_stem 234 = .ok (.iastore, 1) := by decide +kernel
theorem dX6_stem_235 : decode cX6_stem 235 = .ok (.iload 4, 2) := by decide +kernel
theorem dX6_stem_237 : decode cX6_stem 237 = .ok (.ireturn, 1) := by decide +kernel
theorem dX6_cut_0 : decode cX6_cut 0 = .ok (.aload_n 0, 1) := by decide +kernel
theorem dX6_cut_1 : decode cX6_cut 1 = .ok (.iload_n 1, 1) := by decide +kernel
theorem dX6_cut_2 : decode cX6_cut 2 = .ok (.iload_n 2, 1) := by decide +kernel
theorem dX6_cut_3 : decode cX6_cut 3 = .ok (.invokevirtual 70, 3) := by decide +kernel
theorem dX6_cut_6 : decode cX6_cut 6 = .ok (.ifCond .ne 6, 3) := by decide +kernel
theorem dX6_cut_9 : decode cX6_cut 9 = .ok (.ldc 58, 2) := by decide +kernel
theorem dX6_cut_11 : decode cX6_cut 11 = .ok (.ireturn, 1) := by decide +kernel
theorem dX6_cut_12 : decode cX6_cut 12 = .ok (.aload_n 0, 1) := by decide +kernel
theorem dX6_cut_13 : decode cX6_cut 13 = .ok (.invokevirtual 60, 3) := by decide +kernel
theorem dX6_cut_16 : decode cX6_cut 16 = .ok (.aload_n 0, 1) := by decide +kernel
theorem dX6_cut_17 : decode cX6_cut 17 = .ok (.getfield 7, 3) := by decide +kernel
theorem dX6_cut_20 : decode cX6_cut 20 = .ok (.bipush 9, 2) := by decide +kernel
theorem dX6_cut_22 : decode cX6_cut 22 = .ok (.bipush 20, 2) := by decide +kernel
theorem dX6_cut_24 : decode cX6_cut 24 = .ok (.iload_n 1, 1) := by decide +kernel
theorem dX6_cut_25 : decode cX6_cut 25 = .ok (.imul, 1) := by decide +kernel
theorem dX6_cut_26 : decode cX6_cut 26 = .ok (.iadd, 1) := by decide +kernel
theorem dX6_cut_27 : decode cX6_cut 27 = .ok (.iconst 1, 1) := by decide +kernel
theorem dX6_cut_28 : decode cX6_cut 28 = .ok (.iadd, 1) := by decide +kernel
theorem dX6_cut_29 : decode cX6_cut 29 = .ok (.dup2, 1) := by decide +kernel
theorem dX6_cut_30 : decode cX6_cut 30 = .ok (.iaload, 1) := by decide +kernel
theorem dX6_cut_31 : decode cX6_cut 31 = .ok (.iconst 1, 1) := by decide +kernel
theorem dX6_cut_32 : decode cX6_cut 32 = .ok (.isub, 1) := by decide +kernel
theorem dX6_cut_33 : decode cX6_cut 33 = .ok (.iastore, 1) := by decide +kernel
theorem dX6_cut_34 : decode cX6_cut 34 = .ok (.iload_n 1, 1) := by decide +kernel
theorem dX6_cut_35 : decode cX6_cut 35 = .ok (.iload_n 2, 1) := by decide +kernel
theorem dX6_cut_36 : decode cX6_cut 36 = .ok (.iconst 0, 1) := by decide +kernel
theorem dX6_cut_37 : decode cX6_cut 37 = .ok (.invokestatic 51, 3) := by decide +kernel
theorem dX6_cut_40 : decode cX6_cut 40 = .ok (.istore_n 3, 1) := by decide +kernel
theorem dX6_cut_41 : decode cX6_cut 41 = .ok (.iload_n 3, 1) := by decide +kernel
theorem dX6_cut_42 : decode cX6_cut 42 = .ok (.iload_n 1, 1) := by decide +kernel
theorem dX6_cut_43 : decode cX6_cut 43 = .ok (.aload_n 0, 1) := by decide +kernel
theorem dX6_cut_44 : decode cX6_cut 44 = .ok (.iload_n 1, 1) := by decide +kernel
theorem dX6_cut_45 : decode cX6_cut 45 = .ok (.iconst 1, 1) := by decide +kernel
theorem dX6_cut_46 : decode cX6_cut 46 = .ok (.invokevirtual 47, 3) := by decide +kernel
theorem dX6_cut_49 : decode cX6_cut 49 = .ok (.iconst 0, 1) := by decide +kernel
theorem dX6_cut_50 : decode cX6_cut 50 = .ok (.invokestatic 51, 3) := by decide +kernel
theorem dX6_cut_53 : decode cX6_cut 53 = .ok (.if_icmp .ge 23, 3) := by decide +kernel
theorem dX6_cut_56 : decode cX6_cut 56 = .ok (.aload_n 0, 1) := by decide +kernel
theorem dX6_cut_57 : decode cX6_cut 57 = .ok (.getfield 7, 3) := by decide +kernel
theorem dX6_cut_60 : decode cX6_cut 60 = .ok (.iload_n 3, 1) := by decide +kernel
theorem dX6_cut_61 : decode cX6_cut 61 = .ok (.aload_n 0, 1) := by decide +kernel
theorem dX6_cut_62 : decode cX6_cut 62 = .ok (.getfield 7, 3) := by decide +kernel
theorem dX6_cut_65 : decode cX6_cut 65 = .ok (.iload_n 3, 1) := by decide +kernel
theorem dX6_cut_66 : decode cX6_cut 66 = .ok (.iconst 3, 1) := by decide +kernel
theorem dX6_cut_67 : decode cX6_cut 67 = .ok (.iadd, 1) := by decide +kernel
theorem dX6_cut_68 : decode cX6_cut 68 = .ok (.iaload, 1) := by decide +kernel
theorem dX6_cut_69 : decode cX6_cut 69 = .ok (.iastore, 1) := by decide +kernel
theorem dX6_cut_70 : decode cX6_cut 70 = .ok (.iinc 3 1, 3) := by decide +kernel
theorem dX6_cut_73 : decode cX6_cut 73 = .ok (.goto (-32), 3) := by decide +kernel
theorem dX6_cut_76 : decode cX6_cut 76 = .ok (.aload_n 0, 1) := by decide +kernel
theorem dX6_cut_77 : decode cX6_cut 77 = .ok (.iload_n 1, 1) := by decide +kernel
theorem dX6_cut_78 : decode cX6_cut 78 = .ok (.iconst 1, 1) := by decide +kernel
theorem dX6_cut_79 : decode cX6_cut 79 = .ok (.invokevirtual 47, 3) := by decide +kernel
theorem dX6_cut_82 : decode cX6_cut 82 = .ok (.ireturn, 1) := by decide +kernel
theorem dX6_hint_0 : decode cX6_hint 0 = .ok (.aload_n 0, 1) := by decide +kernel
theorem dX6_hint_1 : decode cX6_hint 1 = .ok (.iload_n 1, 1) := by decide +kernel
theorem dX6_hint_2 : decode cX6_hint 2 = .ok (.iload_n 2, 1) := by decide +kernel
theorem dX6_hint_3 : decode cX6_hint 3 = .ok (.invokevirtual 70, 3) := by decide +kernel
theorem dX6_hint_6 : decode cX6_hint 6 = .ok (.ifCond .eq 12, 3) := by decide +kernel
theorem dX6_hint_9 : decode cX6_hint 9 = .ok (.iload_n 3, 1) := by decide +kernel
theorem dX6_hint_10 : decode cX6_hint 10 = .ok (.iconst 0, 1) := by decide +kernel
theorem dX6_hint_11 : decode cX6_hint 11 = .ok (.iconst 3, 1) := by decide +kernel
theorem dX6_hint_12 : decode cX6_hint 12 = .ok (.invokestatic 39, 3) := by decide +kernel
theorem dX6_hint_15 : decode cX6_hint 15 = .ok (.ifCond .ne 6, 3) := by decide +kernel
theorem dX6_hint_18 : decode cX6_hint 18 = .ok (.ldc 58, 2) := by decide +kernel
theorem dX6_hint_20 : decode cX6_hint 20 = .ok (.ireturn, 1) := by decide +kernel
theorem dX6_hint_21 : decode cX6_hint 21 = .ok (.aload_n 0, 1) := by decide +kernel
theorem dX6_hint_22 : decode cX6_hint 22 = .ok (.invokevirtual 60, 3) := by decide +kernel
theorem dX6_hint_25 : decode cX6_hint 25 = .ok (.aload_n 0, 1) := by decide +kernel
theorem dX6_hint_26 : decode cX6_hint 26 = .ok (.iload_n 1, 1) := by decide +kernel
theorem dX6_hint_27 : decode cX6_hint 27 = .ok (.iload_n 2, 1) := by decide +kernel
theorem dX6_hint_28 : decode cX6_hint 28 = .ok (.iconst 2, 1) := by decide +kernel
theorem dX6_hint_29 : decode cX6_hint 29 = .ok (.invokevirtual 55, 3) := by decide +kernel
theorem dX6_hint_32 : decode cX6_hint 32 = .ok (.istore 4, 2) := by decide +kernel
theorem dX6_hint_34 : decode cX6_hint 34 = .ok (.aload_n 0, 1) := by decide +kernel
theorem dX6_hint_35 : decode cX6_hint 35 = .ok (.getfield 7, 3) := by decide +kernel
theorem dX6_hint_38 : decode cX6_hint 38 = .ok (.iload_n 1, 1) := by decide +kernel
theorem dX6_hint_39 : decode cX6_hint 39 = .ok (.iload_n 2, 1) := by decide +kernel
theorem dX6_hint_40 : decode cX6_hint 40 = .ok (.iconst 2, 1) := by decide +kernel
theorem dX6_hint_41 : decode cX6_hint 41 = .ok (.invokestatic 51, 3) := by decide +kernel
theorem dX6_hint_44 : decode cX6_hint 44 = .ok (.iload_n 3, 1) := by decide +kernel
theorem dX6_hint_45 : decode cX6_hint 45 = .ok (.iastore, 1) := by decide +kernel
theorem dX6_hint_46 : decode cX6_hint 46 = .ok (.iload 4, 2) := by decide +kernel
theorem dX6_hint_48 : decode cX6_hint 48 = .ok (.ireturn, 1) := by decide +kernel
theorem dX6_wideAt_0 : decode cX6_wideAt 0 = .ok (.iconst 0, 1) := by decide +kernel
theorem dX6_wideAt_1 : decode cX6_wideAt 1 = .ok (.istore_n 2, 1) := by decide +kernel
theorem dX6_wideAt_2 : decode cX6_wideAt 2 = .ok (.iload_n 2, 1) := by decide +kernel
theorem dX6_wideAt_3 : decode cX6_wideAt 3 = .ok (.aload_n 0, 1) := by decide +kernel
theorem dX6_wideAt_4 : decode cX6_wideAt 4 = .ok (.getfield 7, 3) := by decide +kernel
theorem dX6_wideAt_7 : decode cX6_wideAt 7 = .ok (.iconst 1, 1) := by decide +kernel
theorem dX6_wideAt_8 : decode cX6_wideAt 8 = .ok (.iaload, 1) := by decide +kernel
theorem dX6_wideAt_9 : decode cX6_wideAt 9 = .ok (.if_icmp .ge 23, 3) := by decide +kernel
theorem dX6_wideAt_12 : decode cX6_wideAt 12 = .ok (.aload_n 0, 1) := by decide +kernel
theorem dX6_wideAt_13 : decode cX6_wideAt 13 = .ok (.getfield 7, 3) := by decide +kernel
theorem dX6_wideAt_16 : decode cX6_wideAt 16 = .ok (.iconst 2, 1) := by decide +kernel
theorem dX6_wideAt_17 : decode cX6_wideAt 17 = .ok (.iload_n 2, 1) := by decide +kernel
theorem dX6_wideAt_18 : decode cX6_wideAt 18 = .ok (.iadd, 1) := by decide +kernel
theorem dX6_wideAt_19 : decode cX6_wideAt 19 = .ok (.iaload, 1) := by decide +kernel
theorem dX6_wideAt_20 : decode cX6_wideAt 20 = .ok (.iload_n 1, 1) := by decide +kernel
theorem dX6_wideAt_21 : decode cX6_wideAt 21 = .ok (.if_icmp .ne 5, 3) := by decide +kernel
theorem dX6_wideAt_24 : decode cX6_wideAt 24 = .ok (.iload_n 2, 1) := by decide +kernel
theorem dX6_wideAt_25 : decode cX6_wideAt 25 = .ok (.ireturn, 1) := by decide +kernel
theorem dX6_wideAt_26 : decode cX6_wideAt 26 = .ok (.iinc 2 1, 3) := by decide +kernel
theorem dX6_wideAt_29 : decode cX6_wideAt 29 = .ok (.goto (-27), 3) := by decide +kernel
theorem dX6_wideAt_32 : decode cX6_wideAt 32 = .ok (.ldc 74, 2) := by decide +kernel
theorem dX6_wideAt_34 : decode cX6_wideAt 34 = .ok (.ireturn, 1) := by decide +kernel
theorem dX6_size_0 : decode cX6_size 0 = .ok (.iload_n 0, 1) := by decide +kernel
theorem dX6_size_1 : decode cX6_size 1 = .ok (.ifCond .ge 8, 3) := by decide +kernel
theorem dX6_size_4 : decode cX6_size 4 = .ok (.iload_n 0, 1) := by decide +kernel
theorem dX6_size_5 : decode cX6_size 5 = .ok (.ineg, 1) := by decide +kernel
theorem dX6_size_6 : decode cX6_size 6 = .ok (.goto 4, 3) := by decide +kernel
theorem dX6_size_9 : decode cX6_size 9 = .ok (.iload_n 0, 1) := by decide +kernel
theorem dX6_size_10 : decode cX6_size 10 = .ok (.ireturn, 1) := by decide +kernel
theorem dX6_snaps_0 : decode cX6_snaps 0 = .ok (.ldc 74, 2) := by decide +kernel
theorem dX6_snaps_2 : decode cX6_snaps 2 = .ok (.istore_n 2, 1) := by decide +kernel
theorem dX6_snaps_3 : decode cX6_snaps 3 = .ok (.aload_n 0, 1) := by decide +kernel
theorem dX6_snaps_4 : decode cX6_snaps 4 = .ok (.getfield 7, 3) := by decide +kernel
theorem dX6_snaps_7 : decode cX6_snaps 7 = .ok (.iconst 5, 1) := by decide +kernel
theorem dX6_snaps_8 : decode cX6_snaps 8 = .ok (.iaload, 1) := by decide +kernel
theorem dX6_snaps_9 : decode cX6_snaps 9 = .ok (.istore_n 3, 1) := by decide +kernel
theorem dX6_snaps_10 : decode cX6_snaps 10 = .ok (.iconst 0, 1) := by decide +kernel
theorem dX6_snaps_11 : decode cX6_snaps 11 = .ok (.istore 4, 2) := by decide +kernel
theorem dX6_snaps_13 : decode cX6_snaps 13 = .ok (.iload 4, 2) := by decide +kernel
theorem dX6_snaps_15 : decode cX6_snaps 15 = .ok (.aload_n 0, 1) := by decide +kernel
theorem dX6_snaps_16 : decode cX6_snaps 16 = .ok (.getfield 7, 3) := by decide +kernel
theorem dX6_snaps_19 : decode cX6_snaps 19 = .ok (.iconst 1, 1) := by decide +kernel
theorem dX6_snaps_20 : decode cX6_snaps 20 = .ok (.iaload, 1) := by decide +kernel
theorem dX6_snaps_21 : decode cX6_snaps 21 = .ok (.if_icmp .ge 87, 3) := by decide +kernel
theorem dX6_snaps_24 : decode cX6_snaps 24 = .ok (.aload_n 0, 1) := by decide +kernel
theorem dX6_snaps_25 : decode cX6_snaps 25 = .ok (.getfield 7, 3) := by decide +kernel
theorem dX6_snaps_28 : decode cX6_snaps 28 = .ok (.iconst 2, 1) := by decide +kernel
theorem dX6_snaps_29 : decode cX6_snaps 29 = .ok (.iload 4, 2) := by decide +kernel
theorem dX6_snaps_31 : decode cX6_snaps 31 = .ok (.iadd, 1) := by decide +kernel
theorem dX6_snaps_32 : decode cX6_snaps 32 = .ok (.iaload, 1) := by decide +kernel
theorem dX6_snaps_33 : decode cX6_snaps 33 = .ok (.iload_n 1, 1) := by decide +kernel
theorem dX6_snaps_34 : decode cX6_snaps 34 = .ok (.isub, 1) := by decide +kernel
theorem dX6_snaps_35 : decode cX6_snaps 35 = .ok (.invokestatic 75, 3) := by decide +kernel
theorem dX6_snaps_38 : decode cX6_snaps 38 = .ok (.istore 5, 2) := by decide +kernel
theorem dX6_snaps_40 : decode cX6_snaps 40 = .ok (.iload_n 2, 1) := by decide +kernel
theorem dX6_snaps_41 : decode cX6_snaps 41 = .ok (.ifCond .ge 17, 3) := by decide +kernel
theorem dX6_snaps_44 : decode cX6_snaps 44 = .ok (.iload 5, 2) := by decide +kernel
theorem dX6_snaps_46 : decode cX6_snaps 46 = .ok (.iload_n 3, 1) := by decide +kernel
theorem dX6_snaps_47 : decode cX6_snaps 47 = .ok (.if_icmp .gt 7, 3) := by decide +kernel
theorem dX6_snaps_50 : decode cX6_snaps 50 = .ok (.iconst 1, 1) := by decide +kernel
theorem dX6_snaps_51 : decode cX6_snaps 51 = .ok (.goto 18, 3) := by decide +kernel
theorem dX6_snaps_54 : decode cX6_snaps 54 = .ok (.iconst 0, 1) := by decide +kernel
theorem dX6_snaps_55 : decode cX6_snaps 55 = .ok (.goto 14, 3) := by decide +kernel
theorem dX6_snaps_58 : decode cX6_snaps 58 = .ok (.iload 5, 2) := by decide +kernel
theorem dX6_snaps_60 : decode cX6_snaps 60 = .ok (.iload_n 3, 1) := by decide +kernel
theorem dX6_snaps_61 : decode cX6_snaps 61 = .ok (.if_icmp .ge 7, 3) := by decide +kernel
theorem dX6_snaps_64 : decode cX6_snaps 64 = .ok (.iconst 1, 1) := by decide +kernel
theorem dX6_snaps_65 : decode cX6_snaps 65 = .ok (.goto 4, 3) := by decide +kernel
theorem dX6_snaps_68 : decode cX6_snaps 68 = .ok (.iconst 0, 1) := by decide +kernel
theorem dX6_snaps_69 : decode cX6_snaps 69 = .ok (.istore 6, 2) := by decide +kernel
theorem dX6_snaps_71 : decode cX6_snaps 71 = .ok (.iload 6, 2) := by decide +kernel
theorem dX6_snaps_73 : decode cX6_snaps 73 = .ok (.ifCond .eq 15, 3) := by decide +kernel
theorem dX6_snaps_76 : decode cX6_snaps 76 = .ok (.aload_n 0, 1) := by decide +kernel
theorem dX6_snaps_77 : decode cX6_snaps 77 = .ok (.getfield 7, 3) := by decide +kernel
theorem dX6_snaps_80 : decode cX6_snaps 80 = .ok (.iconst 2, 1) := by decide +kernel
theorem dX6_snaps_81 : decode cX6_snaps 81 = .ok (.iload 4, 2) := by decide +kernel
theorem dX6_snaps_83 : decode cX6_snaps 83 = .ok (.iadd, 1) := by decide +kernel
theorem dX6_snaps_84 : decode cX6_snaps 84 = .ok (.iaload, 1) := by decide +kernel
theorem dX6_snaps_85 : decode cX6_snaps 85 = .ok (.goto 4, 3) := by decide +kernel
theorem dX6_snaps_88 : decode cX6_snaps 88 = .ok (.iload_n 2, 1) := by decide +kernel
theorem dX6_snaps_89 : decode cX6_snaps 89 = .ok (.istore_n 2, 1) := by decide +kernel
theorem dX6_snaps_90 : decode cX6_snaps 90 = .ok (.iload 6, 2) := by decide +kernel
theorem dX6_snaps_92 : decode cX6_snaps 92 = .ok (.ifCond .eq 8, 3) := by decide +kernel
theorem dX6_snaps_95 : decode cX6_snaps 95 = .ok (.iload 5, 2) := by decide +kernel
theorem dX6_snaps_97 : decode cX6_snaps 97 = .ok (.goto 4, 3) := by decide +kernel
theorem dX6_snaps_100 : decode cX6_snaps 100 = .ok (.iload_n 3, 1) := by decide +kernel
theorem dX6_snaps_101 : decode cX6_snaps 101 = .ok (.istore_n 3, 1) := by decide +kernel
theorem dX6_snaps_102 : decode cX6_snaps 102 = .ok (.iinc 4 1, 3) := by decide +kernel
theorem dX6_snaps_105 : decode cX6_snaps 105 = .ok (.goto (-92), 3) := by decide +kernel
theorem dX6_snaps_108 : decode cX6_snaps 108 = .ok (.iload_n 2, 1) := by decide +kernel
theorem dX6_snaps_109 : decode cX6_snaps 109 = .ok (.ireturn, 1) := by decide +kernel
theorem dX6_hinted_0 : decode cX6_hinted 0 = .ok (.aload_n 0, 1) := by decide +kernel
theorem dX6_hinted_1 : decode cX6_hinted 1 = .ok (.iload_n 1, 1) := by decide +kernel
theorem dX6_hinted_2 : decode cX6_hinted 2 = .ok (.iload_n 2, 1) := by decide +kernel
theorem dX6_hinted_3 : decode cX6_hinted 3 = .ok (.iconst 1, 1) := by decide +kernel
theorem dX6_hinted_4 : decode cX6_hinted 4 = .ok (.invokevirtual 55, 3) := by decide +kernel
theorem dX6_hinted_7 : decode cX6_hinted 7 = .ok (.istore_n 3, 1) := by decide +kernel
theorem dX6_hinted_8 : decode cX6_hinted 8 = .ok (.aload_n 0, 1) := by decide +kernel
theorem dX6_hinted_9 : decode cX6_hinted 9 = .ok (.iload_n 3, 1) := by decide +kernel
theorem dX6_hinted_10 : decode cX6_hinted 10 = .ok (.invokevirtual 79, 3) := by decide +kernel
theorem dX6_hinted_13 : decode cX6_hinted 13 = .ok (.ifCond .ge 7, 3) := by decide +kernel
theorem dX6_hinted_16 : decode cX6_hinted 16 = .ok (.iload_n 3, 1) := by decide +kernel
theorem dX6_hinted_17 : decode cX6_hinted 17 = .ok (.goto 8, 3) := by decide +kernel
theorem dX6_hinted_20 : decode cX6_hinted 20 = .ok (.aload_n 0, 1) := by decide +kernel
theorem dX6_hinted_21 : decode cX6_hinted 21 = .ok (.iload_n 3, 1) := by decide +kernel
theorem dX6_hinted_22 : decode cX6_hinted 22 = .ok (.invokevirtual 79, 3) := by decide +kernel
theorem dX6_hinted_25 : decode cX6_hinted 25 = .ok (.ireturn, 1) := by decide +kernel
theorem dX6_standard_0 : decode cX6_standard 0 = .ok (.iload_n 1, 1) := by decide +kernel
theorem dX6_standard_1 : decode cX6_standard 1 = .ok (.iconst 1, 1) := by decide +kernel
theorem dX6_standard_2 : decode cX6_standard 2 = .ok (.sipush 300, 3) := by decide +kernel
theorem dX6_standard_5 : decode cX6_standard 5 = .ok (.invokestatic 39, 3) := by decide +kernel
theorem dX6_standard_8 : decode cX6_standard 8 = .ok (.ifCond .ne 6, 3) := by decide +kernel
theorem dX6_standard_11 : decode cX6_standard 11 = .ok (.ldc 58, 2) := by decide +kernel
theorem dX6_standard_13 : decode cX6_standard 13 = .ok (.ireturn, 1) := by decide +kernel
theorem dX6_standard_14 : decode cX6_standard 14 = .ok (.aload_n 0, 1) := by decide +kernel
theorem dX6_standard_15 : decode cX6_standard 15 = .ok (.iload_n 1, 1) := by decide +kernel
theorem dX6_standard_16 : decode cX6_standard 16 = .ok (.invokevirtual 82, 3) := by decide +kernel
theorem dX6_standard_19 : decode cX6_standard 19 = .ok (.ifCond .lt 6, 3) := by decide +kernel
theorem dX6_standard_22 : decode cX6_standard 22 = .ok (.ldc 69, 2) := by decide +kernel
theorem dX6_standard_24 : decode cX6_standard 24 = .ok (.ireturn, 1) := by decide +kernel
theorem dX6_standard_25 : decode cX6_standard 25 = .ok (.aload_n 0, 1) := by decide +kernel
theorem dX6_standard_26 : decode cX6_standard 26 = .ok (.getfield 7, 3) := by decide +kernel
theorem dX6_standard_29 : decode cX6_standard 29 = .ok (.iconst 1, 1) := by decide +kernel
theorem dX6_standard_30 : decode cX6_standard 30 = .ok (.iaload, 1) := by decide +kernel
theorem dX6_standard_31 : decode cX6_standard 31 = .ok (.iconst 3, 1) := by decide +kernel
theorem dX6_standard_32 : decode cX6_standard 32 = .ok (.if_icmp .ne 6, 3) := by decide +kernel
theorem dX6_standard_35 : decode cX6_standard 35 = .ok (.ldc 59, 2) := by decide +kernel
theorem dX6_standard_37 : decode cX6_standard 37 = .ok (.ireturn, 1) := by decide +kernel
theorem dX6_standard_38 : decode cX6_standard 38 = .ok (.aload_n 0, 1) := by decide +kernel
theorem dX6_standard_39 : decode cX6_standard 39 = .ok (.invokevirtual 60, 3) := by decide +kernel
theorem dX6_standard_42 : decode cX6_standard 42 = .ok (.aload_n 0, 1) := by decide +kernel
theorem dX6_standard_43 : decode cX6_standard 43 = .ok (.getfield 7, 3) := by decide +kernel
theorem dX6_standard_46 : decode cX6_standard 46 = .ok (.iconst 1, 1) := by decide +kernel
theorem dX6_standard_47 : decode cX6_standard 47 = .ok (.iaload, 1) := by decide +kernel
theorem dX6_standard_48 : decode cX6_standard 48 = .ok (.istore_n 2, 1) := by decide +kernel
theorem dX6_standard_49 : decode cX6_standard 49 = .ok (.iload_n 2, 1) := by decide +kernel
theorem dX6_standard_50 : decode cX6_standard 50 = .ok (.ifCond .le 41, 3) := by decide +kernel
theorem dX6_standard_53 : decode cX6_standard 53 = .ok (.aload_n 0, 1) := by decide +kernel
theorem dX6_standard_54 : decode cX6_standard 54 = .ok (.getfield 7, 3) := by decide +kernel
theorem dX6_standard_57 : decode cX6_standard 57 = .ok (.iconst 2, 1) := by decide +kernel
theorem dX6_standard_58 : decode cX6_standard 58 = .ok (.iload_n 2, 1) := by decide +kernel
theorem dX6_standard_59 : decode cX6_standard 59 = .ok (.iadd, 1) := by decide +kernel
theorem dX6_standard_60 : decode cX6_standard 60 = .ok (.iconst 1, 1) := by decide +kernel
theorem dX6_standard_61 : decode cX6_standard 61 = .ok (.isub, 1) := by decide +kernel
theorem dX6_standard_62 : decode cX6_standard 62 = .ok (.iaload, 1) := by decide +kernel
theorem dX6_standard_63 : decode cX6_standard 63 = .ok (.iload_n 1, 1) := by decide +kernel
theorem dX6_standard_64 : decode cX6_standard 64 = .ok (.if_icmp .le 27, 3) := by decide +kernel
theorem dX6_standard_67 : decode cX6_standard 67 = .ok (.aload_n 0, 1) := by decide +kernel
theorem dX6_standard_68 : decode cX6_standard 68 = .ok (.getfield 7, 3) := by decide +kernel
theorem dX6_standard_71 : decode cX6_standard 71 = .ok (.iconst 2, 1) := by decide +kernel
theorem dX6_standard_72 : decode cX6_standard 72 = .ok (.iload_n 2, 1) := by decide +kernel
theorem dX6_standard_73 : decode cX6_standard 73 = .ok (.iadd, 1) := by decide +kernel
theorem dX6_standard_74 : decode cX6_standard 74 = .ok (.aload_n 0, 1) := by decide +kernel
theorem dX6_standard_75 : decode cX6_standard 75 = .ok (.getfield 7, 3) := by decide +kernel
theorem dX6_standard_78 : decode cX6_standard 78 = .ok (.iconst 2, 1) := by decide +kernel
theorem dX6_standard_79 : decode cX6_standard 79 = .ok (.iload_n 2, 1) := by decide +kernel
theorem dX6_standard_80 : decode cX6_standard 80 = .ok (.iadd, 1) := by decide +kernel
theorem dX6_standard_81 : decode cX6_standard 81 = .ok (.iconst 1, 1) := by decide +kernel
theorem dX6_standard_82 : decode cX6_standard 82 = .ok (.isub, 1) := by decide +kernel
theorem dX6_standard_83 : decode cX6_standard 83 = .ok (.iaload, 1) := by decide +kernel
theorem dX6_standard_84 : decode cX6_standard 84 = .ok (.iastore, 1) := by decide +kernel
theorem dX6_standard_85 : decode cX6_standard 85 = .ok (.iinc 2 (-1), 3) := by decide +kernel
theorem dX6_standard_88 : decode cX6_standard 88 = .ok (.goto (-39), 3) := by decide +kernel
theorem dX6_standard_91 : decode cX6_standard 91 = .ok (.aload_n 0, 1) := by decide +kernel
theorem dX6_standard_92 : decode cX6_standard 92 = .ok (.getfield 7, 3) := by decide +kernel
theorem dX6_standard_95 : decode cX6_standard 95 = .ok (.iconst 2, 1) := by decide +kernel
theorem dX6_standard_96 : decode cX6_standard 96 = .ok (.iload_n 2, 1) := by decide +kernel
theorem dX6_standard_97 : decode cX6_standard 97 = .ok (.iadd, 1) := by decide +kernel
theorem dX6_standard_98 : decode cX6_standard 98 = .ok (.iload_n 1, 1) := by decide +kernel
theorem dX6_standard_99 : decode cX6_standard 99 = .ok (.iastore, 1) := by decide +kernel
theorem dX6_standard_100 : decode cX6_standard 100 = .ok (.aload_n 0, 1) := by decide +kernel
theorem dX6_standard_101 : decode cX6_standard 101 = .ok (.getfield 7, 3) := by decide +kernel
theorem dX6_standard_104 : decode cX6_standard 104 = .ok (.iconst 1, 1) := by decide +kernel
theorem dX6_standard_105 : decode cX6_standard 105 = .ok (.dup2, 1) := by decide +kernel
theorem dX6_standard_106 : decode cX6_standard 106 = .ok (.iaload, 1) := by decide +kernel
theorem dX6_standard_107 : decode cX6_standard 107 = .ok (.iconst 1, 1) := by decide +kernel
theorem dX6_standard_108 : decode cX6_standard 108 = .ok (.iadd, 1) := by decide +kernel
theorem dX6_standard_109 : decode cX6_standard 109 = .ok (.iastore, 1) := by decide +kernel
theorem dX6_standard_110 : decode cX6_standard 110 = .ok (.iconst 0, 1) := by decide +kernel
theorem dX6_standard_111 : decode cX6_standard 111 = .ok (.istore_n 3, 1) := by decide +kernel
theorem dX6_standard_112 : decode cX6_standard 112 = .ok (.iconst 0, 1) := by decide +kernel
theorem dX6_standard_113 : decode cX6_standard 113 = .ok (.istore 4, 2) := by decide +kernel
theorem dX6_standard_115 : decode cX6_standard 115 = .ok (.iload 4, 2) := by decide +kernel
theorem dX6_standard_117 : decode cX6_standard 117 = .ok (.aload_n 0, 1) := by decide +kernel
theorem dX6_standard_118 : decode cX6_standard 118 = .ok (.getfield 7, 3) := by decide +kernel
theorem dX6_standard_121 : decode cX6_standard 121 = .ok (.iconst 0, 1) := by decide +kernel
theorem dX6_standard_122 : decode cX6_standard 122 = .ok (.iaload, 1) := by decide +kernel
theorem dX6_standard_123 : decode cX6_standard 123 = .ok (.if_icmp .ge 55, 3) := by decide +kernel
theorem dX6_standard_126 : decode cX6_standard 126 = .ok (.iconst 0, 1) := by decide +kernel
theorem dX6_standard_127 : decode cX6_standard 127 = .ok (.istore 5, 2) := by decide +kernel
theorem dX6_standard_129 : decode cX6_standard 129 = .ok (.iload 5, 2) := by decide +kernel
theorem dX6_standard_131 : decode cX6_standard 131 = .ok (.aload_n 0, 1) := by decide +kernel
theorem dX6_standard_132 : decode cX6_standard 132 = .ok (.iload 4, 2) := by decide +kernel
theorem dX6_standard_134 : decode cX6_standard 134 = .ok (.iconst 1, 1) := by decide +kernel
theorem dX6_standard_135 : decode cX6_standard 135 = .ok (.invokevirtual 47, 3) := by decide +kernel
theorem dX6_standard_138 : decode cX6_standard 138 = .ok (.if_icmp .ge 34, 3) := by decide +kernel
theorem dX6_standard_141 : decode cX6_standard 141 = .ok (.iload_n 3, 1) := by decide +kernel
theorem dX6_standard_142 : decode cX6_standard 142 = .ok (.aload_n 0, 1) := by decide +kernel
theorem dX6_standard_143 : decode cX6_standard 143 = .ok (.aload_n 0, 1) := by decide +kernel
theorem dX6_standard_144 : decode cX6_standard 144 = .ok (.iload 4, 2) := by decide +kernel
theorem dX6_standard_146 : decode cX6_standard 146 = .ok (.iload 5, 2) := by decide +kernel
theorem dX6_standard_148 : decode cX6_standard 148 = .ok (.iconst 1, 1) := by decide +kernel
theorem dX6_standard_149 : decode cX6_standard 149 = .ok (.invokevirtual 55, 3) := by decide +kernel
theorem dX6_standard_152 : decode cX6_standard 152 = .ok (.invokevirtual 79, 3) := by decide +kernel
theorem dX6_standard_155 : decode cX6_standard 155 = .ok (.iload_n 1, 1) := by decide +kernel
theorem dX6_standard_156 : decode cX6_standard 156 = .ok (.if_icmp .ne 7, 3) := by decide +kernel
theorem dX6_standard_159 : decode cX6_standard 159 = .ok (.iconst 1, 1) := by decide +kernel
theorem dX6_standard_160 : decode cX6_standard 160 = .ok (.goto 4, 3) := by decide +kernel
theorem dX6_standard_163 : decode cX6_standard 163 = .ok (.iconst 0, 1) := by decide +kernel
theorem dX6_standard_164 : decode cX6_standard 164 = .ok (.iadd, 1) := by decide +kernel
theorem dX6_standard_165 : decode cX6_standard 165 = .ok (.istore_n 3, 1) := by decide +kernel
theorem dX6_standard_166 : decode cX6_standard 166 = .ok (.iinc 5 1, 3) := by decide +kernel
theorem dX6_standard_169 : decode cX6_standard 169 = .ok (.goto (-40), 3) := by decide +kernel
theorem dX6_standard_172 : decode cX6_standard 172 = .ok (.iinc 4 1, 3) := by decide +kernel
theorem dX6_standard_175 : decode cX6_standard 175 = .ok (.goto (-60), 3) := by decide +kernel
theorem dX6_standard_178 : decode cX6_standard 178 = .ok (.iload_n 3, 1) := by decide +kernel
theorem dX6_standard_179 : decode cX6_standard 179 = .ok (.ireturn, 1) := by decide +kernel
theorem dX6_drop_0 : decode cX6_drop 0 = .ok (.iload_n 1, 1) := by decide +kernel
theorem dX6_drop_1 : decode cX6_drop 1 = .ok (.iconst 1, 1) := by decide +kernel
theorem dX6_drop_2 : decode cX6_drop 2 = .ok (.sipush 300, 3) := by decide +kernel
theorem dX6_drop_5 : decode cX6_drop 5 = .ok (.invokestatic 39, 3) := by decide +kernel
theorem dX6_drop_8 : decode cX6_drop 8 = .ok (.ifCond .ne 6, 3) := by decide +kernel
theorem dX6_drop_11 : decode cX6_drop 11 = .ok (.ldc 58, 2) := by decide +kernel
theorem dX6_drop_13 : decode cX6_drop 13 = .ok (.ireturn, 1) := by decide +kernel
theorem dX6_drop_14 : decode cX6_drop 14 = .ok (.aload_n 0, 1) := by decide +kernel
theorem dX6_drop_15 : decode cX6_drop 15 = .ok (.iload_n 1, 1) := by decide +kernel
theorem dX6_drop_16 : decode cX6_drop 16 = .ok (.invokevirtual 82, 3) := by decide +kernel
theorem dX6_drop_19 : decode cX6_drop 19 = .ok (.istore_n 2, 1) := by decide +kernel
theorem dX6_drop_20 : decode cX6_drop 20 = .ok (.iload_n 2, 1) := by decide +kernel
theorem dX6_drop_21 : decode cX6_drop 21 = .ok (.ifCond .ge 6, 3) := by decide +kernel
theorem dX6_drop_24 : decode cX6_drop 24 = .ok (.ldc 69, 2) := by decide +kernel
theorem dX6_drop_26 : decode cX6_drop 26 = .ok (.ireturn, 1) := by decide +kernel
theorem dX6_drop_27 : decode cX6_drop 27 = .ok (.aload_n 0, 1) := by decide +kernel
theorem dX6_drop_28 : decode cX6_drop 28 = .ok (.invokevirtual 60, 3) := by decide +kernel
theorem dX6_drop_31 : decode cX6_drop 31 = .ok (.aload_n 0, 1) := by decide +kernel
theorem dX6_drop_32 : decode cX6_drop 32 = .ok (.getfield 7, 3) := by decide +kernel
theorem dX6_drop_35 : decode cX6_drop 35 = .ok (.iconst 1, 1) := by decide +kernel
theorem dX6_drop_36 : decode cX6_drop 36 = .ok (.dup2, 1) := by decide +kernel
theorem dX6_drop_37 : decode cX6_drop 37 = .ok (.iaload, 1) := by decide +kernel
theorem dX6_drop_38 : decode cX6_drop 38 = .ok (.iconst 1, 1) := by decide +kernel
theorem dX6_drop_39 : decode cX6_drop 39 = .ok (.isub, 1) := by decide +kernel
theorem dX6_drop_40 : decode cX6_drop 40 = .ok (.iastore, 1) := by decide +kernel
theorem dX6_drop_41 : decode cX6_drop 41 = .ok (.iload_n 2, 1) := by decide +kernel
theorem dX6_drop_42 : decode cX6_drop 42 = .ok (.istore_n 3, 1) := by decide +kernel
theorem dX6_drop_43 : decode cX6_drop 43 = .ok (.iload_n 3, 1) := by decide +kernel
theorem dX6_drop_44 : decode cX6_drop 44 = .ok (.aload_n 0, 1) := by decide +kernel
theorem dX6_drop_45 : decode cX6_drop 45 = .ok (.getfield 7, 3) := by decide +kernel
theorem dX6_drop_48 : decode cX6_drop 48 = .ok (.iconst 1, 1) := by decide +kernel
theorem dX6_drop_49 : decode cX6_drop 49 = .ok (.iaload, 1) := by decide +kernel
theorem dX6_drop_50 : decode cX6_drop 50 = .ok (.if_icmp .ge 27, 3) := by decide +kernel
theorem dX6_drop_53 : decode cX6_drop 53 = .ok (.aload_n 0, 1) := by decide +kernel
theorem dX6_drop_54 : decode cX6_drop 54 = .ok (.getfield 7, 3) := by decide +kernel
theorem dX6_drop_57 : decode cX6_drop 57 = .ok (.iconst 2, 1) := by decide +kernel
theorem dX6_drop_58 : decode cX6_drop 58 = .ok (.iload_n 3, 1) := by decide +kernel
theorem dX6_drop_59 : decode cX6_drop 59 = .ok (.iadd, 1) := by decide +kernel
theorem dX6_drop_60 : decode cX6_drop 60 = .ok (.aload_n 0, 1) := by decide +kernel
theorem dX6_drop_61 : decode cX6_drop 61 = .ok (.getfield 7, 3) := by decide +kernel
theorem dX6_drop_64 : decode cX6_drop 64 = .ok (.iconst 2, 1) := by decide +kernel
theorem dX6_drop_65 : decode cX6_drop 65 = .ok (.iload_n 3, 1) := by decide +kernel
theorem dX6_drop_66 : decode cX6_drop 66 = .ok (.iadd, 1) := by decide +kernel
theorem dX6_drop_67 : decode cX6_drop 67 = .ok (.iconst 1, 1) := by decide +kernel
theorem dX6_drop_68 : decode cX6_drop 68 = .ok (.iadd, 1) := by decide +kernel
theorem dX6_drop_69 : decode cX6_drop 69 = .ok (.iaload, 1) := by decide +kernel
theorem dX6_drop_70 : decode cX6_drop 70 = .ok (.iastore, 1) := by decide +kernel
theorem dX6_drop_71 : decode cX6_drop 71 = .ok (.iinc 3 1, 3) := by decide +kernel
theorem dX6_drop_74 : decode cX6_drop 74 = .ok (.goto (-31), 3) := by decide +kernel
theorem dX6_drop_77 : decode cX6_drop 77 = .ok (.aload_n 0, 1) := by decide +kernel
theorem dX6_drop_78 : decode cX6_drop 78 = .ok (.getfield 7, 3) := by decide +kernel
theorem dX6_drop_81 : decode cX6_drop 81 = .ok (.iconst 1, 1) := by decide +kernel
theorem dX6_drop_82 : decode cX6_drop 82 = .ok (.iaload, 1) := by decide +kernel
theorem dX6_drop_83 : decode cX6_drop 83 = .ok (.ireturn, 1) := by decide +kernel
theorem dX6_inPixels_0 : decode cX6_inPixels 0 = .ok (.iload_n 0, 1) := by decide +kernel
theorem dX6_inPixels_1 : decode cX6_inPixels 1 = .ok (.iload_n 1, 1) := by decide +kernel
theorem dX6_inPixels_2 : decode cX6_inPixels 2 = .ok (.imul, 1) := by decide +kernel
theorem dX6_inPixels_3 : decode cX6_inPixels 3 = .ok (.sipush 500, 3) := by decide +kernel
theorem dX6_inPixels_6 : decode cX6_inPixels 6 = .ok (.iadd, 1) := by decide +kernel
theorem dX6_inPixels_7 : decode cX6_inPixels 7 = .ok (.sipush 1000, 3) := by decide +kernel
theorem dX6_inPixels_10 : decode cX6_inPixels 10 = .ok (.idiv, 1) := by decide +kernel
theorem dX6_inPixels_11 : decode cX6_inPixels 11 = .ok (.ireturn, 1) := by decide +kernel
theorem dX6_pixelsOf_0 : decode cX6_pixelsOf 0 = .ok (.aload_n 0, 1) := by decide +kernel
theorem dX6_pixelsOf_1 : decode cX6_pixelsOf 1 = .ok (.iload_n 1, 1) := by decide +kernel
theorem dX6_pixelsOf_2 : decode cX6_pixelsOf 2 = .ok (.iload_n 2, 1) := by decide +kernel
theorem dX6_pixelsOf_3 : decode cX6_pixelsOf 3 = .ok (.invokevirtual 85, 3) := by decide +kernel
theorem dX6_pixelsOf_6 : decode cX6_pixelsOf 6 = .ok (.iload_n 3, 1) := by decide +kernel
theorem dX6_pixelsOf_7 : decode cX6_pixelsOf 7 = .ok (.invokestatic 88, 3) := by decide +kernel
theorem dX6_pixelsOf_10 : decode cX6_pixelsOf 10 = .ok (.istore 4, 2) := by decide +kernel
theorem dX6_pixelsOf_12 : decode cX6_pixelsOf 12 = .ok (.iload 4, 2) := by decide +kernel
theorem dX6_pixelsOf_14 : decode cX6_pixelsOf 14 = .ok (.iconst 1, 1) := by decide +kernel
theorem dX6_pixelsOf_15 : decode cX6_pixelsOf 15 = .ok (.if_icmp .ge 7, 3) := by decide +kernel
theorem dX6_pixelsOf_18 : decode cX6_pixelsOf 18 = .ok (.iconst 1, 1) := by decide +kernel
theorem dX6_pixelsOf_19 : decode cX6_pixelsOf 19 = .ok (.goto 5, 3) := by decide +kernel
theorem dX6_pixelsOf_22 : decode cX6_pixelsOf 22 = .ok (.iload 4, 2) := by decide +kernel
theorem dX6_pixelsOf_24 : decode cX6_pixelsOf 24 = .ok (.ireturn, 1) := by decide +kernel
theorem dX6_columns_0 : decode cX6_columns 0 = .ok (.aload_n 0, 1) := by decide +kernel
theorem dX6_columns_1 : decode cX6_columns 1 = .ok (.iload_n 1, 1) := by decide +kernel
theorem dX6_columns_2 : decode cX6_columns 2 = .ok (.iconst 0, 1) := by decide +kernel
theorem dX6_columns_3 : decode cX6_columns 3 = .ok (.invokevirtual 47, 3) := by decide +kernel
theorem dX6_columns_6 : decode cX6_columns 6 = .ok (.iload_n 2, 1) := by decide +kernel
theorem dX6_columns_7 : decode cX6_columns 7 = .ok (.invokestatic 88, 3) := by decide +kernel
theorem dX6_columns_10 : decode cX6_columns 10 = .ok (.istore_n 3, 1) := by decide +kernel
theorem dX6_columns_11 : decode cX6_columns 11 = .ok (.iload_n 3, 1) := by decide +kernel
theorem dX6_columns_12 : decode cX6_columns 12 = .ok (.iconst 1, 1) := by decide +kernel
theorem dX6_columns_13 : decode cX6_columns 13 = .ok (.if_icmp .ge 7, 3) := by decide +kernel
theorem dX6_columns_16 : decode cX6_columns 16 = .ok (.iconst 1, 1) := by decide +kernel
theorem dX6_columns_17 : decode cX6_columns 17 = .ok (.goto 15, 3) := by decide +kernel
theorem dX6_columns_20 : decode cX6_columns 20 = .ok (.iload_n 3, 1) := by decide +kernel
theorem dX6_columns_21 : decode cX6_columns 21 = .ok (.bipush 64, 2) := by decide +kernel
theorem dX6_columns_23 : decode cX6_columns 23 = .ok (.if_icmp .le 8, 3) := by decide +kernel
theorem dX6_columns_26 : decode cX6_columns 26 = .ok (.bipush 64, 2) := by decide +kernel
theorem dX6_columns_28 : decode cX6_columns 28 = .ok (.goto 4, 3) := by decide +kernel
theorem dX6_columns_31 : decode cX6_columns 31 = .ok (.iload_n 3, 1) := by decide +kernel
theorem dX6_columns_32 : decode cX6_columns 32 = .ok (.ireturn, 1) := by decide +kernel
theorem dX6_rounded_0 : decode cX6_rounded 0 = .ok (.aload_n 0, 1) := by decide +kernel
theorem dX6_rounded_1 : decode cX6_rounded 1 = .ok (.iload_n 1, 1) := by decide +kernel
theorem dX6_rounded_2 : decode cX6_rounded 2 = .ok (.iload_n 2, 1) := by decide +kernel
theorem dX6_rounded_3 : decode cX6_rounded 3 = .ok (.iconst 0, 1) := by decide +kernel
theorem dX6_rounded_4 : decode cX6_rounded 4 = .ok (.invokevirtual 55, 3) := by decide +kernel
theorem dX6_rounded_7 : decode cX6_rounded 7 = .ok (.istore 4, 2) := by decide +kernel
theorem dX6_rounded_9 : decode cX6_rounded 9 = .ok (.aload_n 0, 1) := by decide +kernel
theorem dX6_rounded_10 : decode cX6_rounded 10 = .ok (.iload_n 1, 1) := by decide +kernel
theorem dX6_rounded_11 : decode cX6_rounded 11 = .ok (.iload_n 2, 1) := by decide +kernel
theorem dX6_rounded_12 : decode cX6_rounded 12 = .ok (.iconst 1, 1) := by decide +kernel
theorem dX6_rounded_13 : decode cX6_rounded 13 = .ok (.invokevirtual 55, 3) := by decide +kernel
theorem dX6_rounded_16 : decode cX6_rounded 16 = .ok (.istore 5, 2) := by decide +kernel
theorem dX6_rounded_18 : decode cX6_rounded 18 = .ok (.aload_n 0, 1) := by decide +kernel
theorem dX6_rounded_19 : decode cX6_rounded 19 = .ok (.iload_n 1, 1) := by decide +kernel
theorem dX6_rounded_20 : decode cX6_rounded 20 = .ok (.iload_n 2, 1) := by decide +kernel
theorem dX6_rounded_21 : decode cX6_rounded 21 = .ok (.iconst 2, 1) := by decide +kernel
theorem dX6_rounded_22 : decode cX6_rounded 22 = .ok (.invokevirtual 55, 3) := by decide +kernel
theorem dX6_rounded_25 : decode cX6_rounded 25 = .ok (.istore 6, 2) := by decide +kernel
theorem dX6_rounded_27 : decode cX6_rounded 27 = .ok (.iload 6, 2) := by decide +kernel
theorem dX6_rounded_29 : decode cX6_rounded 29 = .ok (.iconst 1, 1) := by decide +kernel
theorem dX6_rounded_30 : decode cX6_rounded 30 = .ok (.if_icmp .ne 26, 3) := by decide +kernel
theorem dX6_rounded_33 : decode cX6_rounded 33 = .ok (.iconst 2, 1) := by decide +kernel
theorem dX6_rounded_34 : decode cX6_rounded 34 = .ok (.iload 4, 2) := by decide +kernel
theorem dX6_rounded_36 : decode cX6_rounded 36 = .ok (.imul, 1) := by decide +kernel
theorem dX6_rounded_37 : decode cX6_rounded 37 = .ok (.iload 5, 2) := by decide +kernel
theorem dX6_rounded_39 : decode cX6_rounded 39 = .ok (.iadd, 1) := by decide +kernel
theorem dX6_rounded_40 : decode cX6_rounded 40 = .ok (.iload_n 3, 1) := by decide +kernel
theorem dX6_rounded_41 : decode cX6_rounded 41 = .ok (.invokestatic 88, 3) := by decide +kernel
theorem dX6_rounded_44 : decode cX6_rounded 44 = .ok (.aload_n 0, 1) := by decide +kernel
theorem dX6_rounded_45 : decode cX6_rounded 45 = .ok (.getfield 25, 3) := by decide +kernel
theorem dX6_rounded_48 : decode cX6_rounded 48 = .ok (.iload_n 2, 1) := by decide +kernel
theorem dX6_rounded_49 : decode cX6_rounded 49 = .ok (.iaload, 1) := by decide +kernel
theorem dX6_rounded_50 : decode cX6_rounded 50 = .ok (.isub, 1) := by decide +kernel
theorem dX6_rounded_51 : decode cX6_rounded 51 = .ok (.iconst 2, 1) := by decide +kernel
theorem dX6_rounded_52 : decode cX6_rounded 52 = .ok (.invokestatic 91, 3) := by decide +kernel
theorem dX6_rounded_55 : decode cX6_rounded 55 = .ok (.ireturn, 1) := by decide +kernel
theorem dX6_rounded_56 : decode cX6_rounded 56 = .ok (.iload 6, 2) := by decide +kernel
theorem dX6_rounded_58 : decode cX6_rounded 58 = .ok (.iconst 2, 1) := by decide +kernel
theorem dX6_rounded_59 : decode cX6_rounded 59 = .ok (.if_icmp .ne 20, 3) := by decide +kernel
theorem dX6_rounded_62 : decode cX6_rounded 62 = .ok (.iload 4, 2) := by decide +kernel
theorem dX6_rounded_64 : decode cX6_rounded 64 = .ok (.iload 5, 2) := by decide +kernel
theorem dX6_rounded_66 : decode cX6_rounded 66 = .ok (.iadd, 1) := by decide +kernel
theorem dX6_rounded_67 : decode cX6_rounded 67 = .ok (.iload_n 3, 1) := by decide +kernel
theorem dX6_rounded_68 : decode cX6_rounded 68 = .ok (.invokestatic 88, 3) := by decide +kernel
theorem dX6_rounded_71 : decode cX6_rounded 71 = .ok (.aload_n 0, 1) := by decide +kernel
theorem dX6_rounded_72 : decode cX6_rounded 72 = .ok (.getfield 25, 3) := by decide +kernel
theorem dX6_rounded_75 : decode cX6_rounded 75 = .ok (.iload_n 2, 1) := by decide +kernel
theorem dX6_rounded_76 : decode cX6_rounded 76 = .ok (.iaload, 1) := by decide +kernel
theorem dX6_rounded_77 : decode cX6_rounded 77 = .ok (.isub, 1) := by decide +kernel
theorem dX6_rounded_78 : decode cX6_rounded 78 = .ok (.ireturn, 1) := by decide +kernel
theorem dX6_rounded_79 : decode cX6_rounded 79 = .ok (.iload 6, 2) := by decide +kernel
theorem dX6_rounded_81 : decode cX6_rounded 81 = .ok (.iconst 3, 1) := by decide +kernel
theorem dX6_rounded_82 : decode cX6_rounded 82 = .ok (.if_icmp .ne 67, 3) := by decide +kernel
theorem dX6_rounded_85 : decode cX6_rounded 85 = .ok (.iload_n 2, 1) := by decide +kernel
theorem dX6_rounded_86 : decode cX6_rounded 86 = .ok (.ifCond .le 63, 3) := by decide +kernel
theorem dX6_rounded_89 : decode cX6_rounded 89 = .ok (.iload 4, 2) := by decide +kernel
theorem dX6_rounded_91 : decode cX6_rounded 91 = .ok (.aload_n 0, 1) := by decide +kernel
theorem dX6_rounded_92 : decode cX6_rounded 92 = .ok (.iload_n 1, 1) := by decide +kernel
theorem dX6_rounded_93 : decode cX6_rounded 93 = .ok (.iload_n 2, 1) := by decide +kernel
theorem dX6_rounded_94 : decode cX6_rounded 94 = .ok (.iconst 1, 1) := by decide +kernel
theorem dX6_rounded_95 : decode cX6_rounded 95 = .ok (.isub, 1) := by decide +kernel
theorem dX6_rounded_96 : decode cX6_rounded 96 = .ok (.invokevirtual 66, 3) := by decide +kernel
theorem dX6_rounded_99 : decode cX6_rounded 99 = .ok (.isub, 1) := by decide +kernel
theorem dX6_rounded_100 : decode cX6_rounded 100 = .ok (.iload_n 3, 1) := by decide +kernel
theorem dX6_rounded_101 : decode cX6_rounded 101 = .ok (.invokestatic 88, 3) := by decide +kernel
theorem dX6_rounded_104 : decode cX6_rounded 104 = .ok (.istore 7, 2) := by decide +kernel
theorem dX6_rounded_106 : decode cX6_rounded 106 = .ok (.aload_n 0, 1) := by decide +kernel
theorem dX6_rounded_107 : decode cX6_rounded 107 = .ok (.getfield 22, 3) := by decide +kernel
theorem dX6_rounded_110 : decode cX6_rounded 110 = .ok (.iload_n 2, 1) := by decide +kernel
theorem dX6_rounded_111 : decode cX6_rounded 111 = .ok (.iconst 1, 1) := by decide +kernel
theorem dX6_rounded_112 : decode cX6_rounded 112 = .ok (.isub, 1) := by decide +kernel
theorem dX6_rounded_113 : decode cX6_rounded 113 = .ok (.iaload, 1) := by decide +kernel
theorem dX6_rounded_114 : decode cX6_rounded 114 = .ok (.aload_n 0, 1) := by decide +kernel
theorem dX6_rounded_115 : decode cX6_rounded 115 = .ok (.getfield 25, 3) := by decide +kernel
theorem dX6_rounded_118 : decode cX6_rounded 118 = .ok (.iload_n 2, 1) := by decide +kernel
theorem dX6_rounded_119 : decode cX6_rounded 119 = .ok (.iconst 1, 1) := by decide +kernel
theorem dX6_rounded_120 : decode cX6_rounded 120 = .ok (.isub, 1) := by decide +kernel
theorem dX6_rounded_121 : decode cX6_rounded 121 = .ok (.iaload, 1) := by decide +kernel
theorem dX6_rounded_122 : decode cX6_rounded 122 = .ok (.iadd, 1) := by decide +kernel
theorem dX6_rounded_123 : decode cX6_rounded 123 = .ok (.iload 7, 2) := by decide +kernel
theorem dX6_rounded_125 : decode cX6_rounded 125 = .ok (.aload_n 0, 1) := by decide +kernel
theorem dX6_rounded_126 : decode cX6_rounded 126 = .ok (.getfield 7, 3) := by decide +kernel
theorem dX6_rounded_129 : decode cX6_rounded 129 = .ok (.bipush 6, 2) := by decide +kernel
theorem dX6_rounded_131 : decode cX6_rounded 131 = .ok (.iaload, 1) := by decide +kernel
theorem dX6_rounded_132 : decode cX6_rounded 132 = .ok (.if_icmp .ge 13, 3) := by decide +kernel
theorem dX6_rounded_135 : decode cX6_rounded 135 = .ok (.aload_n 0, 1) := by decide +kernel
theorem dX6_rounded_136 : decode cX6_rounded 136 = .ok (.getfield 7, 3) := by decide +kernel
theorem dX6_rounded_139 : decode cX6_rounded 139 = .ok (.bipush 6, 2) := by decide +kernel
theorem dX6_rounded_141 : decode cX6_rounded 141 = .ok (.iaload, 1) := by decide +kernel
theorem dX6_rounded_142 : decode cX6_rounded 142 = .ok (.goto 5, 3) := by decide +kernel
theorem dX6_rounded_145 : decode cX6_rounded 145 = .ok (.iload 7, 2) := by decide +kernel
theorem dX6_rounded_147 : decode cX6_rounded 147 = .ok (.iadd, 1) := by decide +kernel
theorem dX6_rounded_148 : decode cX6_rounded 148 = .ok (.ireturn, 1) := by decide +kernel
theorem dX6_rounded_149 : decode cX6_rounded 149 = .ok (.iload 4, 2) := by decide +kernel
theorem dX6_rounded_151 : decode cX6_rounded 151 = .ok (.iload_n 3, 1) := by decide +kernel
theorem dX6_rounded_152 : decode cX6_rounded 152 = .ok (.invokestatic 88, 3) := by decide +kernel
theorem dX6_rounded_155 : decode cX6_rounded 155 = .ok (.ireturn, 1) := by decide +kernel
theorem dX6_lays_0 : decode cX6_lays 0 = .ok (.aload_n 0, 1) := by decide +kernel
theorem dX6_lays_1 : decode cX6_lays 1 = .ok (.iconst 0, 1) := by decide +kernel
theorem dX6_lays_2 : decode cX6_lays 2 = .ok (.putfield 94, 3) := by decide +kernel
theorem dX6_lays_5 : decode cX6_lays 5 = .ok (.iconst 0, 1) := by decide +kernel
theorem dX6_lays_6 : decode cX6_lays 6 = .ok (.istore_n 3, 1) := by decide +kernel
theorem dX6_lays_7 : decode cX6_lays 7 = .ok (.iload_n 3, 1) := by decide +kernel
theorem dX6_lays_8 : decode cX6_lays 8 = .ok (.aload_n 0, 1) := by decide +kernel
theorem dX6_lays_9 : decode cX6_lays 9 = .ok (.iload_n 1, 1) := by decide +kernel
theorem dX6_lays_10 : decode cX6_lays 10 = .ok (.iconst 1, 1) := by decide +kernel
theorem dX6_lays_11 : decode cX6_lays 11 = .ok (.invokevirtual 47, 3) := by decide +kernel
theorem dX6_lays_14 : decode cX6_lays 14 = .ok (.if_icmp .ge 142, 3) := by decide +kernel
theorem dX6_lays_17 : decode cX6_lays 17 = .ok (.aload_n 0, 1) := by decide +kernel
theorem dX6_lays_18 : decode cX6_lays 18 = .ok (.getfield 25, 3) := by decide +kernel
theorem dX6_lays_21 : decode cX6_lays 21 = .ok (.iload_n 3, 1) := by decide +kernel
theorem dX6_lays_22 : decode cX6_lays 22 = .ok (.aload_n 0, 1) := by decide +kernel
theorem dX6_lays_23 : decode cX6_lays 23 = .ok (.iload_n 1, 1) := by decide +kernel
theorem dX6_lays_24 : decode cX6_lays 24 = .ok (.iload_n 3, 1) := by decide +kernel
theorem dX6_lays_25 : decode cX6_lays 25 = .ok (.iload_n 2, 1) := by decide +kernel
theorem dX6_lays_26 : decode cX6_lays 26 = .ok (.invokevirtual 97, 3) := by decide +kernel
theorem dX6_lays_29 : decode cX6_lays 29 = .ok (.iastore, 1) := by decide +kernel
theorem dX6_lays_30 : decode cX6_lays 30 = .ok (.aload_n 0, 1) := by decide +kernel
theorem dX6_lays_31 : decode cX6_lays 31 = .ok (.getfield 22, 3) := by decide +kernel
theorem dX6_lays_34 : decode cX6_lays 34 = .ok (.iload_n 3, 1) := by decide +kernel
theorem dX6_lays_35 : decode cX6_lays 35 = .ok (.aload_n 0, 1) := by decide +kernel
theorem dX6_lays_36 : decode cX6_lays 36 = .ok (.iload_n 1, 1) := by decide +kernel
theorem dX6_lays_37 : decode cX6_lays 37 = .ok (.iload_n 3, 1) := by decide +kernel
theorem dX6_lays_38 : decode cX6_lays 38 = .ok (.iload_n 2, 1) := by decide +kernel
theorem dX6_lays_39 : decode cX6_lays 39 = .ok (.invokevirtual 100, 3) := by decide +kernel
theorem dX6_lays_42 : decode cX6_lays 42 = .ok (.iastore, 1) := by decide +kernel
theorem dX6_lays_43 : decode cX6_lays 43 = .ok (.iload_n 3, 1) := by decide +kernel
theorem dX6_lays_44 : decode cX6_lays 44 = .ok (.ifCond .le 106, 3) := by decide +kernel
theorem dX6_lays_47 : decode cX6_lays 47 = .ok (.aload_n 0, 1) := by decide +kernel
theorem dX6_lays_48 : decode cX6_lays 48 = .ok (.iload_n 1, 1) := by decide +kernel
theorem dX6_lays_49 : decode cX6_lays 49 = .ok (.iload_n 3, 1) := by decide +kernel
theorem dX6_lays_50 : decode cX6_lays 50 = .ok (.iconst 0, 1) := by decide +kernel
theorem dX6_lays_51 : decode cX6_lays 51 = .ok (.invokevirtual 55, 3) := by decide +kernel
theorem dX6_lays_54 : decode cX6_lays 54 = .ok (.aload_n 0, 1) := by decide +kernel
theorem dX6_lays_55 : decode cX6_lays 55 = .ok (.iload_n 1, 1) := by decide +kernel
theorem dX6_lays_56 : decode cX6_lays 56 = .ok (.iload_n 3, 1) := by decide +kernel
theorem dX6_lays_57 : decode cX6_lays 57 = .ok (.iconst 1, 1) := by decide +kernel
theorem dX6_lays_58 : decode cX6_lays 58 = .ok (.isub, 1) := by decide +kernel
theorem dX6_lays_59 : decode cX6_lays 59 = .ok (.invokevirtual 66, 3) := by decide +kernel
theorem dX6_lays_62 : decode cX6_lays 62 = .ok (.isub, 1) := by decide +kernel
theorem dX6_lays_63 : decode cX6_lays 63 = .ok (.istore 4, 2) := by decide +kernel
theorem dX6_lays_65 : decode cX6_lays 65 = .ok (.aload_n 0, 1) := by decide +kernel
theorem dX6_lays_66 : decode cX6_lays 66 = .ok (.getfield 22, 3) := by decide +kernel
theorem dX6_lays_69 : decode cX6_lays 69 = .ok (.iload_n 3, 1) := by decide +kernel
theorem dX6_lays_70 : decode cX6_lays 70 = .ok (.iconst 1, 1) := by decide +kernel
theorem dX6_lays_71 : decode cX6_lays 71 = .ok (.isub, 1) := by decide +kernel
theorem dX6_lays_72 : decode cX6_lays 72 = .ok (.iaload, 1) := by decide +kernel
theorem dX6_lays_73 : decode cX6_lays 73 = .ok (.aload_n 0, 1) := by decide +kernel
theorem dX6_lays_74 : decode cX6_lays 74 = .ok (.getfield 25, 3) := by decide +kernel
theorem dX6_lays_77 : decode cX6_lays 77 = .ok (.iload_n 3, 1) := by decide +kernel
theorem dX6_lays_78 : decode cX6_lays 78 = .ok (.iconst 1, 1) := by decide +kernel
theorem dX6_lays_79 : decode cX6_lays 79 = .ok (.isub, 1) := by decide +kernel
theorem dX6_lays_80 : decode cX6_lays 80 = .ok (.iaload, 1) := by decide +kernel
theorem dX6_lays_81 : decode cX6_lays 81 = .ok (.iadd, 1) := by decide +kernel
theorem dX6_lays_82 : decode cX6_lays 82 = .ok (.iload 4, 2) := by decide +kernel
theorem dX6_lays_84 : decode cX6_lays 84 = .ok (.ifCond .le 7, 3) := by decide +kernel
theorem dX6_lays_87 : decode cX6_lays 87 = .ok (.iconst 1, 1) := by decide +kernel
theorem dX6_lays_88 : decode cX6_lays 88 = .ok (.goto 4, 3) := by decide +kernel
theorem dX6_lays_91 : decode cX6_lays 91 = .ok (.iconst 0, 1) := by decide +kernel
theorem dX6_lays_92 : decode cX6_lays 92 = .ok (.iadd, 1) := by decide +kernel
theorem dX6_lays_93 : decode cX6_lays 93 = .ok (.istore 5, 2) := by decide +kernel
theorem dX6_lays_95 : decode cX6_lays 95 = .ok (.aload_n 0, 1) := by decide +kernel
theorem dX6_lays_96 : decode cX6_lays 96 = .ok (.dup, 1) := by decide +kernel
theorem dX6_lays_97 : decode cX6_lays 97 = .ok (.getfield 94, 3) := by decide +kernel
theorem dX6_lays_100 : decode cX6_lays 100 = .ok (.aload_n 0, 1) := by decide +kernel
theorem dX6_lays_101 : decode cX6_lays 101 = .ok (.getfield 22, 3) := by decide +kernel
theorem dX6_lays_104 : decode cX6_lays 104 = .ok (.iload_n 3, 1) := by decide +kernel
theorem dX6_lays_105 : decode cX6_lays 105 = .ok (.iaload, 1) := by decide +kernel
theorem dX6_lays_106 : decode cX6_lays 106 = .ok (.iload 5, 2) := by decide +kernel
theorem dX6_lays_108 : decode cX6_lays 108 = .ok (.if_icmp .ge 9, 3) := by decide +kernel
theorem dX6_lays_111 : decode cX6_lays 111 = .ok (.iconst 1, 1) := by decide +kernel
theorem dX6_lays_112 : decode cX6_lays 112 = .ok (.iload_n 3, 1) := by decide +kernel
theorem dX6_lays_113 : decode cX6_lays 113 = .ok (.ishl, 1) := by decide +kernel
theorem dX6_lays_114 : decode cX6_lays 114 = .ok (.goto 4, 3) := by decide +kernel
theorem dX6_lays_117 : decode cX6_lays 117 = .ok (.iconst 0, 1) := by decide +kernel
theorem dX6_lays_118 : decode cX6_lays 118 = .ok (.ior, 1) := by decide +kernel
theorem dX6_lays_119 : decode cX6_lays 119 = .ok (.putfield 94, 3) := by decide +kernel
theorem dX6_lays_122 : decode cX6_lays 122 = .ok (.aload_n 0, 1) := by decide +kernel
theorem dX6_lays_123 : decode cX6_lays 123 = .ok (.getfield 22, 3) := by decide +kernel
theorem dX6_lays_126 : decode cX6_lays 126 = .ok (.iload_n 3, 1) := by decide +kernel
theorem dX6_lays_127 : decode cX6_lays 127 = .ok (.aload_n 0, 1) := by decide +kernel
theorem dX6_lays_128 : decode cX6_lays 128 = .ok (.getfield 22, 3) := by decide +kernel
theorem dX6_lays_131 : decode cX6_lays 131 = .ok (.iload_n 3, 1) := by decide +kernel
theorem dX6_lays_132 : decode cX6_lays 132 = .ok (.iaload, 1) := by decide +kernel
theorem dX6_lays_133 : decode cX6_lays 133 = .ok (.iload 5, 2) := by decide +kernel
theorem dX6_lays_135 : decode cX6_lays 135 = .ok (.if_icmp .ge 8, 3) := by decide +kernel
theorem dX6_lays_138 : decode cX6_lays 138 = .ok (.iload 5, 2) := by decide +kernel
theorem dX6_lays_140 : decode cX6_lays 140 = .ok (.goto 9, 3) := by decide +kernel
theorem dX6_lays_143 : decode cX6_lays 143 = .ok (.aload_n 0, 1) := by decide +kernel
theorem dX6_lays_144 : decode cX6_lays 144 = .ok (.getfield 22, 3) := by decide +kernel
theorem dX6_lays_147 : decode cX6_lays 147 = .ok (.iload_n 3, 1) := by decide +kernel
theorem dX6_lays_148 : decode cX6_lays 148 = .ok (.iaload, 1) := by decide +kernel
theorem dX6_lays_149 : decode cX6_lays 149 = .ok (.iastore, 1) := by decide +kernel
theorem dX6_lays_150 : decode cX6_lays 150 = .ok (.iinc 3 1, 3) := by decide +kernel
theorem dX6_lays_153 : decode cX6_lays 153 = .ok (.goto (-146), 3) := by decide +kernel
theorem dX6_lays_156 : decode cX6_lays 156 = .ok (.return_, 1) := by decide +kernel
theorem dX6_cuts_0 : decode cX6_cuts 0 = .ok (.iconst 0, 1) := by decide +kernel
theorem dX6_cuts_1 : decode cX6_cuts 1 = .ok (.istore_n 3, 1) := by decide +kernel
theorem dX6_cuts_2 : decode cX6_cuts 2 = .ok (.iconst 0, 1) := by decide +kernel
theorem dX6_cuts_3 : decode cX6_cuts 3 = .ok (.istore 4, 2) := by decide +kernel
theorem dX6_cuts_5 : decode cX6_cuts 5 = .ok (.iload 4, 2) := by decide +kernel
theorem dX6_cuts_7 : decode cX6_cuts 7 = .ok (.aload_n 0, 1) := by decide +kernel
theorem dX6_cuts_8 : decode cX6_cuts 8 = .ok (.iload_n 1, 1) := by decide +kernel
theorem dX6_cuts_9 : decode cX6_cuts 9 = .ok (.iconst 1, 1) := by decide +kernel
theorem dX6_cuts_10 : decode cX6_cuts 10 = .ok (.invokevirtual 47, 3) := by decide +kernel
theorem dX6_cuts_13 : decode cX6_cuts 13 = .ok (.if_icmp .ge 54, 3) := by decide +kernel
theorem dX6_cuts_16 : decode cX6_cuts 16 = .ok (.iload_n 3, 1) := by decide +kernel
theorem dX6_cuts_17 : decode cX6_cuts 17 = .ok (.aload_n 0, 1) := by decide +kernel
theorem dX6_cuts_18 : decode cX6_cuts 18 = .ok (.getfield 22, 3) := by decide +kernel
theorem dX6_cuts_21 : decode cX6_cuts 21 = .ok (.iload 4, 2) := by decide +kernel
theorem dX6_cuts_23 : decode cX6_cuts 23 = .ok (.iaload, 1) := by decide +kernel
theorem dX6_cuts_24 : decode cX6_cuts 24 = .ok (.ifCond .lt 27, 3) := by decide +kernel
theorem dX6_cuts_27 : decode cX6_cuts 27 = .ok (.aload_n 0, 1) := by decide +kernel
theorem dX6_cuts_28 : decode cX6_cuts 28 = .ok (.getfield 22, 3) := by decide +kernel
theorem dX6_cuts_31 : decode cX6_cuts 31 = .ok (.iload 4, 2) := by decide +kernel
theorem dX6_cuts_33 : decode cX6_cuts 33 = .ok (.iaload, 1) := by decide +kernel
theorem dX6_cuts_34 : decode cX6_cuts 34 = .ok (.aload_n 0, 1) := by decide +kernel
theorem dX6_cuts_35 : decode cX6_cuts 35 = .ok (.getfield 25, 3) := by decide +kernel
theorem dX6_cuts_38 : decode cX6_cuts 38 = .ok (.iload 4, 2) := by decide +kernel
theorem dX6_cuts_40 : decode cX6_cuts 40 = .ok (.iaload, 1) := by decide +kernel
theorem dX6_cuts_41 : decode cX6_cuts 41 = .ok (.iadd, 1) := by decide +kernel
theorem dX6_cuts_42 : decode cX6_cuts 42 = .ok (.aload_n 0, 1) := by decide +kernel
theorem dX6_cuts_43 : decode cX6_cuts 43 = .ok (.iload_n 1, 1) := by decide +kernel
theorem dX6_cuts_44 : decode cX6_cuts 44 = .ok (.iload_n 2, 1) := by decide +kernel
theorem dX6_cuts_45 : decode cX6_cuts 45 = .ok (.invokevirtual 103, 3) := by decide +kernel
theorem dX6_cuts_48 : decode cX6_cuts 48 = .ok (.if_icmp .le 10, 3) := by decide +kernel
theorem dX6_cuts_51 : decode cX6_cuts 51 = .ok (.iconst 1, 1) := by decide +kernel
theorem dX6_cuts_52 : decode cX6_cuts 52 = .ok (.iload 4, 2) := by decide +kernel
theorem dX6_cuts_54 : decode cX6_cuts 54 = .ok (.ishl, 1) := by decide +kernel
theorem dX6_cuts_55 : decode cX6_cuts 55 = .ok (.goto 4, 3) := by decide +kernel
theorem dX6_cuts_58 : decode cX6_cuts 58 = .ok (.iconst 0, 1) := by decide +kernel
theorem dX6_cuts_59 : decode cX6_cuts 59 = .ok (.ior, 1) := by decide +kernel
theorem dX6_cuts_60 : decode cX6_cuts 60 = .ok (.istore_n 3, 1) := by decide +kernel
theorem dX6_cuts_61 : decode cX6_cuts 61 = .ok (.iinc 4 1, 3) := by decide +kernel
theorem dX6_cuts_64 : decode cX6_cuts 64 = .ok (.goto (-59), 3) := by decide +kernel
theorem dX6_cuts_67 : decode cX6_cuts 67 = .ok (.iload_n 3, 1) := by decide +kernel
theorem dX6_cuts_68 : decode cX6_cuts 68 = .ok (.ireturn, 1) := by decide +kernel
theorem dX6_isClear_0 : decode cX6_isClear 0 = .ok (.aload_n 0, 1) := by decide +kernel
theorem dX6_isClear_1 : decode cX6_isClear 1 = .ok (.iload_n 1, 1) := by decide +kernel
theorem dX6_isClear_2 : decode cX6_isClear 2 = .ok (.iload_n 2, 1) := by decide +kernel
theorem dX6_isClear_3 : decode cX6_isClear 3 = .ok (.invokevirtual 106, 3) := by decide +kernel
theorem dX6_isClear_6 : decode cX6_isClear 6 = .ok (.aload_n 0, 1) := by decide +kernel
theorem dX6_isClear_7 : decode cX6_isClear 7 = .ok (.getfield 94, 3) := by decide +kernel
theorem dX6_isClear_10 : decode cX6_isClear 10 = .ok (.ifCond .ne 16, 3) := by decide +kernel
theorem dX6_isClear_13 : decode cX6_isClear 13 = .ok (.aload_n 0, 1) := by decide +kernel
theorem dX6_isClear_14 : decode cX6_isClear 14 = .ok (.iload_n 1, 1) := by decide +kernel
theorem dX6_isClear_15 : decode cX6_isClear 15 = .ok (.iload_n 2, 1) := by decide +kernel
theorem dX6_isClear_16 : decode cX6_isClear 16 = .ok (.invokevirtual 110, 3) := by decide +kernel
theorem dX6_isClear_19 : decode cX6_isClear 19 = .ok (.ifCond .ne 7, 3) := by decide +kernel
theorem dX6_isClear_22 : decode cX6_isClear 22 = .ok (.iconst 1, 1) := by decide +kernel
theorem dX6_isClear_23 : decode cX6_isClear 23 = .ok (.goto 4, 3) := by decide +kernel
theorem dX6_isClear_26 : decode cX6_isClear 26 = .ok (.iconst 0, 1) := by decide +kernel
theorem dX6_isClear_27 : decode cX6_isClear 27 = .ok (.ireturn, 1) := by decide +kernel
theorem dX6_isLit_0 : decode cX6_isLit 0 = .ok (.iconst 0, 1) := by decide +kernel
theorem dX6_isLit_1 : decode cX6_isLit 1 = .ok (.istore_n 3, 1) := by decide +kernel
theorem dX6_isLit_2 : decode cX6_isLit 2 = .ok (.iconst 0, 1) := by decide +kernel
theorem dX6_isLit_3 : decode cX6_isLit 3 = .ok (.istore 4, 2) := by decide +kernel
theorem dX6_isLit_5 : decode cX6_isLit 5 = .ok (.iload 4, 2) := by decide +kernel
theorem dX6_isLit_7 : decode cX6_isLit 7 = .ok (.aload_n 0, 1) := by decide +kernel
theorem dX6_isLit_8 : decode cX6_isLit 8 = .ok (.iload_n 1, 1) := by decide +kernel
theorem dX6_isLit_9 : decode cX6_isLit 9 = .ok (.iconst 1, 1) := by decide +kernel
theorem dX6_isLit_10 : decode cX6_isLit 10 = .ok (.invokevirtual 47, 3) := by decide +kernel
theorem dX6_isLit_13 : decode cX6_isLit 13 = .ok (.if_icmp .ge 44, 3) := by decide +kernel
theorem dX6_isLit_16 : decode cX6_isLit 16 = .ok (.iload_n 3, 1) := by decide +kernel
theorem dX6_isLit_17 : decode cX6_isLit 17 = .ok (.ifCond .ne 28, 3) := by decide +kernel
theorem dX6_isLit_20 : decode cX6_isLit 20 = .ok (.iload_n 2, 1) := by decide +kernel
theorem dX6_isLit_21 : decode cX6_isLit 21 = .ok (.aload_n 0, 1) := by decide +kernel
theorem dX6_isLit_22 : decode cX6_isLit 22 = .ok (.getfield 22, 3) := by decide +kernel
theorem dX6_isLit_25 : decode cX6_isLit 25 = .ok (.iload 4, 2) := by decide +kernel
theorem dX6_isLit_27 : decode cX6_isLit 27 = .ok (.iaload, 1) := by decide +kernel
theorem dX6_isLit_28 : decode cX6_isLit 28 = .ok (.isub, 1) := by decide +kernel
theorem dX6_isLit_29 : decode cX6_isLit 29 = .ok (.iconst 0, 1) := by decide +kernel
theorem dX6_isLit_30 : decode cX6_isLit 30 = .ok (.aload_n 0, 1) := by decide +kernel
theorem dX6_isLit_31 : decode cX6_isLit 31 = .ok (.getfield 25, 3) := by decide +kernel
theorem dX6_isLit_34 : decode cX6_isLit 34 = .ok (.iload 4, 2) := by decide +kernel
theorem dX6_isLit_36 : decode cX6_isLit 36 = .ok (.iaload, 1) := by decide +kernel
theorem dX6_isLit_37 : decode cX6_isLit 37 = .ok (.iconst 1, 1) := by decide +kernel
theorem dX6_isLit_38 : decode cX6_isLit 38 = .ok (.isub, 1) := by decide +kernel
theorem dX6_isLit_39 : decode cX6_isLit 39 = .ok (.invokestatic 39, 3) := by decide +kernel
theorem dX6_isLit_42 : decode cX6_isLit 42 = .ok (.ifCond .eq 7, 3) := by decide +kernel
theorem dX6_isLit_45 : decode cX6_isLit 45 = .ok (.iconst 1, 1) := by decide +kernel
theorem dX6_isLit_46 : decode cX6_isLit 46 = .ok (.goto 4, 3) := by decide +kernel
theorem dX6_isLit_49 : decode cX6_isLit 49 = .ok (.iconst 0, 1) := by decide +kernel
theorem dX6_isLit_50 : decode cX6_isLit 50 = .ok (.istore_n 3, 1) := by decide +kernel
theorem dX6_isLit_51 : decode cX6_isLit 51 = .ok (.iinc 4 1, 3) := by decide +kernel
theorem dX6_isLit_54 : decode cX6_isLit 54 = .ok (.goto (-49), 3) := by decide +kernel
theorem dX6_isLit_57 : decode cX6_isLit 57 = .ok (.iload_n 3, 1) := by decide +kernel
theorem dX6_isLit_58 : decode cX6_isLit 58 = .ok (.ireturn, 1) := by decide +kernel
theorem dX6_litHalf_0 : decode cX6_litHalf 0 = .ok (.iconst 0, 1) := by decide +kernel
theorem dX6_litHalf_1 : decode cX6_litHalf 1 = .ok (.istore 4, 2) := by decide +kernel
theorem dX6_litHalf_3 : decode cX6_litHalf 3 = .ok (.iconst 0, 1) := by decide +kernel
theorem dX6_litHalf_4 : decode cX6_litHalf 4 = .ok (.istore 5, 2) := by decide +kernel
theorem dX6_litHalf_6 : decode cX6_litHalf 6 = .ok (.iload 5, 2) := by decide +kernel
theorem dX6_litHalf_8 : decode cX6_litHalf 8 = .ok (.bipush 32, 2) := by decide +kernel
theorem dX6_litHalf_10 : decode cX6_litHalf 10 = .ok (.if_icmp .ge 53, 3) := by decide +kernel
theorem dX6_litHalf_13 : decode cX6_litHalf 13 = .ok (.iload 4, 2) := by decide +kernel
theorem dX6_litHalf_15 : decode cX6_litHalf 15 = .ok (.bipush 32, 2) := by decide +kernel
theorem dX6_litHalf_17 : decode cX6_litHalf 17 = .ok (.iload_n 3, 1) := by decide +kernel
theorem dX6_litHalf_18 : decode cX6_litHalf 18 = .ok (.imul, 1) := by decide +kernel
theorem dX6_litHalf_19 : decode cX6_litHalf 19 = .ok (.iload 5, 2) := by decide +kernel
theorem dX6_litHalf_21 : decode cX6_litHalf 21 = .ok (.iadd, 1) := by decide +kernel
theorem dX6_litHalf_22 : decode cX6_litHalf 22 = .ok (.aload_n 0, 1) := by decide +kernel
theorem dX6_litHalf_23 : decode cX6_litHalf 23 = .ok (.iload_n 1, 1) := by decide +kernel
theorem dX6_litHalf_24 : decode cX6_litHalf 24 = .ok (.iload_n 2, 1) := by decide +kernel
theorem dX6_litHalf_25 : decode cX6_litHalf 25 = .ok (.invokevirtual 103, 3) := by decide +kernel
theorem dX6_litHalf_28 : decode cX6_litHalf 28 = .ok (.if_icmp .ge 25, 3) := by decide +kernel
theorem dX6_litHalf_31 : decode cX6_litHalf 31 = .ok (.aload_n 0, 1) := by decide +kernel
theorem dX6_litHalf_32 : decode cX6_litHalf 32 = .ok (.iload_n 1, 1) := by decide +kernel
theorem dX6_litHalf_33 : decode cX6_litHalf 33 = .ok (.bipush 32, 2) := by decide +kernel
theorem dX6_litHalf_35 : decode cX6_litHalf 35 = .ok (.iload_n 3, 1) := by decide +kernel
theorem dX6_litHalf_36 : decode cX6_litHalf 36 = .ok (.imul, 1) := by decide +kernel
theorem dX6_litHalf_37 : decode cX6_litHalf 37 = .ok (.iload 5, 2) := by decide +kernel
theorem dX6_litHalf_39 : decode cX6_litHalf 39 = .ok (.iadd, 1) := by decide +kernel
theorem dX6_litHalf_40 : decode cX6_litHalf 40 = .ok (.invokevirtual 113, 3) := by decide +kernel
theorem dX6_litHalf_43 : decode cX6_litHalf 43 = .ok (.ifCond .eq 10, 3) := by decide +kernel
theorem dX6_litHalf_46 : decode cX6_litHalf 46 = .ok (.iconst 1, 1) := by decide +kernel
theorem dX6_litHalf_47 : decode cX6_litHalf 47 = .ok (.iload 5, 2) := by decide +kernel
theorem dX6_litHalf_49 : decode cX6_litHalf 49 = .ok (.ishl, 1) := by decide +kernel
theorem dX6_litHalf_50 : decode cX6_litHalf 50 = .ok (.goto 4, 3) := by decide +kernel
theorem dX6_litHalf_53 : decode cX6_litHalf 53 = .ok (.iconst 0, 1) := by decide +kernel
theorem dX6_litHalf_54 : decode cX6_litHalf 54 = .ok (.ior, 1) := by decide +kernel
theorem dX6_litHalf_55 : decode cX6_litHalf 55 = .ok (.istore 4, 2) := by decide +kernel
theorem dX6_litHalf_57 : decode cX6_litHalf 57 = .ok (.iinc 5 1, 3) := by decide +kernel
theorem dX6_litHalf_60 : decode cX6_litHalf 60 = .ok (.goto (-54), 3) := by decide +kernel
theorem dX6_litHalf_63 : decode cX6_litHalf 63 = .ok (.iload 4, 2) := by decide +kernel
theorem dX6_litHalf_65 : decode cX6_litHalf 65 = .ok (.ireturn, 1) := by decide +kernel
theorem dX6_ofSheet_0 : decode cX6_ofSheet 0 = .ok (.aload_n 0, 1) := by decide +kernel
theorem dX6_ofSheet_1 : decode cX6_ofSheet 1 = .ok (.getfield 7, 3) := by decide +kernel
theorem dX6_ofSheet_4 : decode cX6_ofSheet 4 = .ok (.sipush 169, 3) := by decide +kernel
theorem dX6_ofSheet_7 : decode cX6_ofSheet 7 = .ok (.bipush 10, 2) := by decide +kernel
theorem dX6_ofSheet_9 : decode cX6_ofSheet 9 = .ok (.iload_n 1, 1) := by decide +kernel
theorem dX6_ofSheet_10 : decode cX6_ofSheet 10 = .ok (.imul, 1) := by decide +kernel
theorem dX6_ofSheet_11 : decode cX6_ofSheet 11 = .ok (.iadd, 1) := by decide +kernel
theorem dX6_ofSheet_12 : decode cX6_ofSheet 12 = .ok (.iload_n 2, 1) := by decide +kernel
theorem dX6_ofSheet_13 : decode cX6_ofSheet 13 = .ok (.iadd, 1) := by decide +kernel
theorem dX6_ofSheet_14 : decode cX6_ofSheet 14 = .ok (.iaload, 1) := by decide +kernel
theorem dX6_ofSheet_15 : decode cX6_ofSheet 15 = .ok (.ireturn, 1) := by decide +kernel
theorem dX6_sheetAt_0 : decode cX6_sheetAt 0 = .ok (.iconst 0, 1) := by decide +kernel
theorem dX6_sheetAt_1 : decode cX6_sheetAt 1 = .ok (.istore_n 2, 1) := by decide +kernel
theorem dX6_sheetAt_2 : decode cX6_sheetAt 2 = .ok (.iload_n 2, 1) := by decide +kernel
theorem dX6_sheetAt_3 : decode cX6_sheetAt 3 = .ok (.aload_n 0, 1) := by decide +kernel
theorem dX6_sheetAt_4 : decode cX6_sheetAt 4 = .ok (.getfield 7, 3) := by decide +kernel
theorem dX6_sheetAt_7 : decode cX6_sheetAt 7 = .ok (.bipush 7, 2) := by decide +kernel
theorem dX6_sheetAt_9 : decode cX6_sheetAt 9 = .ok (.iaload, 1) := by decide +kernel
theorem dX6_sheetAt_10 : decode cX6_sheetAt 10 = .ok (.if_icmp .ge 21, 3) := by decide +kernel
theorem dX6_sheetAt_13 : decode cX6_sheetAt 13 = .ok (.aload_n 0, 1) := by decide +kernel
theorem dX6_sheetAt_14 : decode cX6_sheetAt 14 = .ok (.iload_n 2, 1) := by decide +kernel
theorem dX6_sheetAt_15 : decode cX6_sheetAt 15 = .ok (.iconst 0, 1) := by decide +kernel
theorem dX6_sheetAt_16 : decode cX6_sheetAt 16 = .ok (.invokevirtual 116, 3) := by decide +kernel
theorem dX6_sheetAt_19 : decode cX6_sheetAt 19 = .ok (.iload_n 1, 1) := by decide +kernel
theorem dX6_sheetAt_20 : decode cX6_sheetAt 20 = .ok (.if_icmp .ne 5, 3) := by decide +kernel
theorem dX6_sheetAt_23 : decode cX6_sheetAt 23 = .ok (.iload_n 2, 1) := by decide +kernel
theorem dX6_sheetAt_24 : decode cX6_sheetAt 24 = .ok (.ireturn, 1) := by decide +kernel
theorem dX6_sheetAt_25 : decode cX6_sheetAt 25 = .ok (.iinc 2 1, 3) := by decide +kernel
theorem dX6_sheetAt_28 : decode cX6_sheetAt 28 = .ok (.goto (-26), 3) := by decide +kernel
theorem dX6_sheetAt_31 : decode cX6_sheetAt 31 = .ok (.ldc 74, 2) := by decide +kernel
theorem dX6_sheetAt_33 : decode cX6_sheetAt 33 = .ok (.ireturn, 1) := by decide +kernel
theorem dX6_takesSheet_0 : decode cX6_takesSheet 0 = .ok (.aload_n 0, 1) := by decide +kernel
theorem dX6_takesSheet_1 : decode cX6_takesSheet 1 = .ok (.getfield 7, 3) := by decide +kernel
theorem dX6_takesSheet_4 : decode cX6_takesSheet 4 = .ok (.bipush 7, 2) := by decide +kernel
theorem dX6_takesSheet_6 : decode cX6_takesSheet 6 = .ok (.dup2, 1) := by decide +kernel
theorem dX6_takesSheet_7 : decode cX6_takesSheet 7 = .ok (.iaload, 1) := by decide +kernel
theorem dX6_takesSheet_8 : decode cX6_takesSheet 8 = .ok (.iconst 1, 1) := by decide +kernel
theorem dX6_takesSheet_9 : decode cX6_takesSheet 9 = .ok (.isub, 1) := by decide +kernel
theorem dX6_takesSheet_10 : decode cX6_takesSheet 10 = .ok (.iastore, 1) := by decide +kernel
theorem dX6_takesSheet_11 : decode cX6_takesSheet 11 = .ok (.sipush 169, 3) := by decide +kernel
theorem dX6_takesSheet_14 : decode cX6_takesSheet 14 = .ok (.bipush 10, 2) := by decide +kernel
theorem dX6_takesSheet_16 : decode cX6_takesSheet 16 = .ok (.iload_n 1, 1) := by decide +kernel
theorem dX6_takesSheet_17 : decode cX6_takesSheet 17 = .ok (.imul, 1) := by decide +kernel
theorem dX6_takesSheet_18 : decode cX6_takesSheet 18 = .ok (.iadd, 1) := by decide +kernel
theorem dX6_takesSheet_19 : decode cX6_takesSheet 19 = .ok (.istore_n 2, 1) := by decide +kernel
theorem dX6_takesSheet_20 : decode cX6_takesSheet 20 = .ok (.iload_n 2, 1) := by decide +kernel
theorem dX6_takesSheet_21 : decode cX6_takesSheet 21 = .ok (.sipush 169, 3) := by decide +kernel
theorem dX6_takesSheet_24 : decode cX6_takesSheet 24 = .ok (.bipush 10, 2) := by decide +kernel
theorem dX6_takesSheet_26 : decode cX6_takesSheet 26 = .ok (.aload_n 0, 1) := by decide +kernel
theorem dX6_takesSheet_27 : decode cX6_takesSheet 27 = .ok (.getfield 7, 3) := by decide +kernel
theorem dX6_takesSheet_30 : decode cX6_takesSheet 30 = .ok (.bipush 7, 2) := by decide +kernel
theorem dX6_takesSheet_32 : decode cX6_takesSheet 32 = .ok (.iaload, 1) := by decide +kernel
theorem dX6_takesSheet_33 : decode cX6_takesSheet 33 = .ok (.imul, 1) := by decide +kernel
theorem dX6_takesSheet_34 : decode cX6_takesSheet 34 = .ok (.iadd, 1) := by decide +kernel
theorem dX6_takesSheet_35 : decode cX6_takesSheet 35 = .ok (.if_icmp .ge 24, 3) := by decide +kernel
theorem dX6_takesSheet_38 : decode cX6_takesSheet 38 = .ok (.aload_n 0, 1) := by decide +kernel
theorem dX6_takesSheet_39 : decode cX6_takesSheet 39 = .ok (.getfield 7, 3) := by decide +kernel
theorem dX6_takesSheet_42 : decode cX6_takesSheet 42 = .ok (.iload_n 2, 1) := by decide +kernel
theorem dX6_takesSheet_43 : decode cX6_takesSheet 43 = .ok (.aload_n 0, 1) := by decide +kernel
theorem dX6_takesSheet_44 : decode cX6_takesSheet 44 = .ok (.getfield 7, 3) := by decide +kernel
theorem dX6_takesSheet_47 : decode cX6_takesSheet 47 = .ok (.iload_n 2, 1) := by decide +kernel
theorem dX6_takesSheet_48 : decode cX6_takesSheet 48 = .ok (.bipush 10, 2) := by decide +kernel
theorem dX6_takesSheet_50 : decode cX6_takesSheet 50 = .ok (.iadd, 1) := by decide +kernel
theorem dX6_takesSheet_51 : decode cX6_takesSheet 51 = .ok (.iaload, 1) := by decide +kernel
theorem dX6_takesSheet_52 : decode cX6_takesSheet 52 = .ok (.iastore, 1) := by decide +kernel
theorem dX6_takesSheet_53 : decode cX6_takesSheet 53 = .ok (.iinc 2 1, 3) := by decide +kernel
theorem dX6_takesSheet_56 : decode cX6_takesSheet 56 = .ok (.goto (-36), 3) := by decide +kernel
theorem dX6_takesSheet_59 : decode cX6_takesSheet 59 = .ok (.sipush 209, 3) := by decide +kernel
theorem dX6_takesSheet_62 : decode cX6_takesSheet 62 = .ok (.bipush 16, 2) := by decide +kernel
theorem dX6_takesSheet_64 : decode cX6_takesSheet 64 = .ok (.iload_n 1, 1) := by decide +kernel
theorem dX6_takesSheet_65 : decode cX6_takesSheet 65 = .ok (.imul, 1) := by decide +kernel
theorem dX6_takesSheet_66 : decode cX6_takesSheet 66 = .ok (.iadd, 1) := by decide +kernel
theorem dX6_takesSheet_67 : decode cX6_takesSheet 67 = .ok (.istore_n 2, 1) := by decide +kernel
theorem dX6_takesSheet_68 : decode cX6_takesSheet 68 = .ok (.iload_n 2, 1) := by decide +kernel
theorem dX6_takesSheet_69 : decode cX6_takesSheet 69 = .ok (.sipush 209, 3) := by decide +kernel
theorem dX6_takesSheet_72 : decode cX6_takesSheet 72 = .ok (.bipush 16, 2) := by decide +kernel
theorem dX6_takesSheet_74 : decode cX6_takesSheet 74 = .ok (.aload_n 0, 1) := by decide +kernel
theorem dX6_takesSheet_75 : decode cX6_takesSheet 75 = .ok (.getfield 7, 3) := by decide +kernel
theorem dX6_takesSheet_78 : decode cX6_takesSheet 78 = .ok (.bipush 7, 2) := by decide +kernel
theorem dX6_takesSheet_80 : decode cX6_takesSheet 80 = .ok (.iaload, 1) := by decide +kernel
theorem dX6_takesSheet_81 : decode cX6_takesSheet 81 = .ok (.imul, 1) := by decide +kernel
theorem dX6_takesSheet_82 : decode cX6_takesSheet 82 = .ok (.iadd, 1) := by decide +kernel
theorem dX6_takesSheet_83 : decode cX6_takesSheet 83 = .ok (.if_icmp .ge 24, 3) := by decide +kernel
theorem dX6_takesSheet_86 : decode cX6_takesSheet 86 = .ok (.aload_n 0, 1) := by decide +kernel
theorem dX6_takesSheet_87 : decode cX6_takesSheet 87 = .ok (.getfield 7, 3) := by decide +kernel
theorem dX6_takesSheet_90 : decode cX6_takesSheet 90 = .ok (.iload_n 2, 1) := by decide +kernel
theorem dX6_takesSheet_91 : decode cX6_takesSheet 91 = .ok (.aload_n 0, 1) := by decide +kernel
theorem dX6_takesSheet_92 : decode cX6_takesSheet 92 = .ok (.getfield 7, 3) := by decide +kernel
theorem dX6_takesSheet_95 : decode cX6_takesSheet 95 = .ok (.iload_n 2, 1) := by decide +kernel
theorem dX6_takesSheet_96 : decode cX6_takesSheet 96 = .ok (.bipush 16, 2) := by decide +kernel
theorem dX6_takesSheet_98 : decode cX6_takesSheet 98 = .ok (.iadd, 1) := by decide +kernel
theorem dX6_takesSheet_99 : decode cX6_takesSheet 99 = .ok (.iaload, 1) := by decide +kernel
theorem dX6_takesSheet_100 : decode cX6_takesSheet 100 = .ok (.iastore, 1) := by decide +kernel
theorem dX6_takesSheet_101 : decode cX6_takesSheet 101 = .ok (.iinc 2 1, 3) := by decide +kernel
theorem dX6_takesSheet_104 : decode cX6_takesSheet 104 = .ok (.goto (-36), 3) := by decide +kernel
theorem dX6_takesSheet_107 : decode cX6_takesSheet 107 = .ok (.return_, 1) := by decide +kernel
theorem dX6_make_0 : decode cX6_make 0 = .ok (.iload_n 1, 1) := by decide +kernel
theorem dX6_make_1 : decode cX6_make 1 = .ok (.invokestatic 119, 3) := by decide +kernel
theorem dX6_make_4 : decode cX6_make 4 = .ok (.ifCond .ne 6, 3) := by decide +kernel
theorem dX6_make_7 : decode cX6_make 7 = .ok (.ldc 58, 2) := by decide +kernel
theorem dX6_make_9 : decode cX6_make 9 = .ok (.ireturn, 1) := by decide +kernel
theorem dX6_make_10 : decode cX6_make 10 = .ok (.aload_n 0, 1) := by decide +kernel
theorem dX6_make_11 : decode cX6_make 11 = .ok (.invokevirtual 60, 3) := by decide +kernel
theorem dX6_make_14 : decode cX6_make 14 = .ok (.aload_n 0, 1) := by decide +kernel
theorem dX6_make_15 : decode cX6_make 15 = .ok (.iload_n 1, 1) := by decide +kernel
theorem dX6_make_16 : decode cX6_make 16 = .ok (.invokevirtual 122, 3) := by decide +kernel
theorem dX6_make_19 : decode cX6_make 19 = .ok (.istore_n 2, 1) := by decide +kernel
theorem dX6_make_20 : decode cX6_make 20 = .ok (.iload_n 2, 1) := by decide +kernel
theorem dX6_make_21 : decode cX6_make 21 = .ok (.ifCond .ge 14, 3) := by decide +kernel
theorem dX6_make_24 : decode cX6_make 24 = .ok (.aload_n 0, 1) := by decide +kernel
theorem dX6_make_25 : decode cX6_make 25 = .ok (.getfield 7, 3) := by decide +kernel
theorem dX6_make_28 : decode cX6_make 28 = .ok (.bipush 7, 2) := by decide +kernel
theorem dX6_make_30 : decode cX6_make 30 = .ok (.iaload, 1) := by decide +kernel
theorem dX6_make_31 : decode cX6_make 31 = .ok (.iconst 4, 1) := by decide +kernel
theorem dX6_make_32 : decode cX6_make 32 = .ok (.if_icmp .ne 16, 3) := by decide +kernel
theorem dX6_make_35 : decode cX6_make 35 = .ok (.aload_n 0, 1) := by decide +kernel
theorem dX6_make_36 : decode cX6_make 36 = .ok (.iload_n 2, 1) := by decide +kernel
theorem dX6_make_37 : decode cX6_make 37 = .ok (.ifCond .lt 7, 3) := by decide +kernel
theorem dX6_make_40 : decode cX6_make 40 = .ok (.iload_n 2, 1) := by decide +kernel
theorem dX6_make_41 : decode cX6_make 41 = .ok (.goto 4, 3) := by decide +kernel
theorem dX6_make_44 : decode cX6_make 44 = .ok (.iconst 0, 1) := by decide +kernel
theorem dX6_make_45 : decode cX6_make 45 = .ok (.invokevirtual 125, 3) := by decide +kernel
theorem dX6_make_48 : decode cX6_make 48 = .ok (.aload_n 0, 1) := by decide +kernel
theorem dX6_make_49 : decode cX6_make 49 = .ok (.getfield 7, 3) := by decide +kernel
theorem dX6_make_52 : decode cX6_make 52 = .ok (.bipush 7, 2) := by decide +kernel
theorem dX6_make_54 : decode cX6_make 54 = .ok (.iaload, 1) := by decide +kernel
theorem dX6_make_55 : decode cX6_make 55 = .ok (.istore_n 3, 1) := by decide +kernel
theorem dX6_make_56 : decode cX6_make 56 = .ok (.aload_n 0, 1) := by decide +kernel
theorem dX6_make_57 : decode cX6_make 57 = .ok (.getfield 7, 3) := by decide +kernel
theorem dX6_make_60 : decode cX6_make 60 = .ok (.sipush 169, 3) := by decide +kernel
theorem dX6_make_63 : decode cX6_make 63 = .ok (.bipush 10, 2) := by decide +kernel
theorem dX6_make_65 : decode cX6_make 65 = .ok (.iload_n 3, 1) := by decide +kernel
theorem dX6_make_66 : decode cX6_make 66 = .ok (.imul, 1) := by decide +kernel
theorem dX6_make_67 : decode cX6_make 67 = .ok (.iadd, 1) := by decide +kernel
theorem dX6_make_68 : decode cX6_make 68 = .ok (.iload_n 1, 1) := by decide +kernel
theorem dX6_make_69 : decode cX6_make 69 = .ok (.iastore, 1) := by decide +kernel
theorem dX6_make_70 : decode cX6_make 70 = .ok (.aload_n 0, 1) := by decide +kernel
theorem dX6_make_71 : decode cX6_make 71 = .ok (.getfield 7, 3) := by decide +kernel
theorem dX6_make_74 : decode cX6_make 74 = .ok (.sipush 169, 3) := by decide +kernel
theorem dX6_make_77 : decode cX6_make 77 = .ok (.bipush 10, 2) := by decide +kernel
theorem dX6_make_79 : decode cX6_make 79 = .ok (.iload_n 3, 1) := by decide +kernel
theorem dX6_make_80 : decode cX6_make 80 = .ok (.imul, 1) := by decide +kernel
theorem dX6_make_81 : decode cX6_make 81 = .ok (.iadd, 1) := by decide +kernel
theorem dX6_make_82 : decode cX6_make 82 = .ok (.iconst 1, 1) := by decide +kernel
theorem dX6_make_83 : decode cX6_make 83 = .ok (.iadd, 1) := by decide +kernel
theorem dX6_make_84 : decode cX6_make 84 = .ok (.aload_n 0, 1) := by decide +kernel
theorem dX6_make_85 : decode cX6_make 85 = .ok (.getfield 7, 3) := by decide +kernel
theorem dX6_make_88 : decode cX6_make 88 = .ok (.iconst 0, 1) := by decide +kernel
theorem dX6_make_89 : decode cX6_make 89 = .ok (.iaload, 1) := by decide +kernel
theorem dX6_make_90 : decode cX6_make 90 = .ok (.iastore, 1) := by decide +kernel
theorem dX6_make_91 : decode cX6_make 91 = .ok (.iconst 0, 1) := by decide +kernel
theorem dX6_make_92 : decode cX6_make 92 = .ok (.istore 4, 2) := by decide +kernel
theorem dX6_make_94 : decode cX6_make 94 = .ok (.iload 4, 2) := by decide +kernel
theorem dX6_make_96 : decode cX6_make 96 = .ok (.bipush 8, 2) := by decide +kernel
theorem dX6_make_98 : decode cX6_make 98 = .ok (.if_icmp .ge 145, 3) := by decide +kernel
theorem dX6_make_101 : decode cX6_make 101 = .ok (.iload 4, 2) := by decide +kernel
theorem dX6_make_103 : decode cX6_make 103 = .ok (.aload_n 0, 1) := by decide +kernel
theorem dX6_make_104 : decode cX6_make 104 = .ok (.getfield 7, 3) := by decide +kernel
theorem dX6_make_107 : decode cX6_make 107 = .ok (.iconst 0, 1) := by decide +kernel
theorem dX6_make_108 : decode cX6_make 108 = .ok (.iaload, 1) := by decide +kernel
theorem dX6_make_109 : decode cX6_make 109 = .ok (.if_icmp .ge 7, 3) := by decide +kernel
theorem dX6_make_112 : decode cX6_make 112 = .ok (.iconst 1, 1) := by decide +kernel
theorem dX6_make_113 : decode cX6_make 113 = .ok (.goto 4, 3) := by decide +kernel
theorem dX6_make_116 : decode cX6_make 116 = .ok (.iconst 0, 1) := by decide +kernel
theorem dX6_make_117 : decode cX6_make 117 = .ok (.istore 5, 2) := by decide +kernel
theorem dX6_make_119 : decode cX6_make 119 = .ok (.iload 5, 2) := by decide +kernel
theorem dX6_make_121 : decode cX6_make 121 = .ok (.ifCond .eq 10, 3) := by decide +kernel
theorem dX6_make_124 : decode cX6_make 124 = .ok (.aload_n 0, 1) := by decide +kernel
theorem dX6_make_125 : decode cX6_make 125 = .ok (.iload 4, 2) := by decide +kernel
theorem dX6_make_127 : decode cX6_make 127 = .ok (.iload_n 1, 1) := by decide +kernel
theorem dX6_make_128 : decode cX6_make 128 = .ok (.invokevirtual 106, 3) := by decide +kernel
theorem dX6_make_131 : decode cX6_make 131 = .ok (.aload_n 0, 1) := by decide +kernel
theorem dX6_make_132 : decode cX6_make 132 = .ok (.getfield 7, 3) := by decide +kernel
theorem dX6_make_135 : decode cX6_make 135 = .ok (.sipush 169, 3) := by decide +kernel
theorem dX6_make_138 : decode cX6_make 138 = .ok (.bipush 10, 2) := by decide +kernel
theorem dX6_make_140 : decode cX6_make 140 = .ok (.iload_n 3, 1) := by decide +kernel
theorem dX6_make_141 : decode cX6_make 141 = .ok (.imul, 1) := by decide +kernel
theorem dX6_make_142 : decode cX6_make 142 = .ok (.iadd, 1) := by decide +kernel
theorem dX6_make_143 : decode cX6_make 143 = .ok (.iconst 2, 1) := by decide +kernel
theorem dX6_make_144 : decode cX6_make 144 = .ok (.iadd, 1) := by decide +kernel
theorem dX6_make_145 : decode cX6_make 145 = .ok (.iload 4, 2) := by decide +kernel
theorem dX6_make_147 : decode cX6_make 147 = .ok (.iadd, 1) := by decide +kernel
theorem dX6_make_148 : decode cX6_make 148 = .ok (.iload 5, 2) := by decide +kernel
theorem dX6_make_150 : decode cX6_make 150 = .ok (.ifCond .eq 13, 3) := by decide +kernel
theorem dX6_make_153 : decode cX6_make 153 = .ok (.aload_n 0, 1) := by decide +kernel
theorem dX6_make_154 : decode cX6_make 154 = .ok (.iload 4, 2) := by decide +kernel
theorem dX6_make_156 : decode cX6_make 156 = .ok (.iload_n 1, 1) := by decide +kernel
theorem dX6_make_157 : decode cX6_make 157 = .ok (.invokevirtual 103, 3) := by decide +kernel
theorem dX6_make_160 : decode cX6_make 160 = .ok (.goto 4, 3) := by decide +kernel
theorem dX6_make_163 : decode cX6_make 163 = .ok (.iconst 0, 1) := by decide +kernel
theorem dX6_make_164 : decode cX6_make 164 = .ok (.iastore, 1) := by decide +kernel
theorem dX6_make_165 : decode cX6_make 165 = .ok (.aload_n 0, 1) := by decide +kernel
theorem dX6_make_166 : decode cX6_make 166 = .ok (.getfield 7, 3) := by decide +kernel
theorem dX6_make_169 : decode cX6_make 169 = .ok (.sipush 209, 3) := by decide +kernel
theorem dX6_make_172 : decode cX6_make 172 = .ok (.bipush 16, 2) := by decide +kernel
theorem dX6_make_174 : decode cX6_make 174 = .ok (.iload_n 3, 1) := by decide +kernel
theorem dX6_make_175 : decode cX6_make 175 = .ok (.imul, 1) := by decide +kernel
theorem dX6_make_176 : decode cX6_make 176 = .ok (.iadd, 1) := by decide +kernel
theorem dX6_make_177 : decode cX6_make 177 = .ok (.iconst 2, 1) := by decide +kernel
theorem dX6_make_178 : decode cX6_make 178 = .ok (.iload 4, 2) := by decide +kernel
theorem dX6_make_180 : decode cX6_make 180 = .ok (.imul, 1) := by decide +kernel
theorem dX6_make_181 : decode cX6_make 181 = .ok (.iadd, 1) := by decide +kernel
theorem dX6_make_182 : decode cX6_make 182 = .ok (.iload 5, 2) := by decide +kernel
theorem dX6_make_184 : decode cX6_make 184 = .ok (.ifCond .eq 14, 3) := by decide +kernel
theorem dX6_make_187 : decode cX6_make 187 = .ok (.aload_n 0, 1) := by decide +kernel
theorem dX6_make_188 : decode cX6_make 188 = .ok (.iload 4, 2) := by decide +kernel
theorem dX6_make_190 : decode cX6_make 190 = .ok (.iload_n 1, 1) := by decide +kernel
theorem dX6_make_191 : decode cX6_make 191 = .ok (.iconst 0, 1) := by decide +kernel
theorem dX6_make_192 : decode cX6_make 192 = .ok (.invokevirtual 129, 3) := by decide +kernel
theorem dX6_make_195 : decode cX6_make 195 = .ok (.goto 4, 3) := by decide +kernel
theorem dX6_make_198 : decode cX6_make 198 = .ok (.iconst 0, 1) := by decide +kernel
theorem dX6_make_199 : decode cX6_make 199 = .ok (.iastore, 1) := by decide +kernel
theorem dX6_make_200 : decode cX6_make 200 = .ok (.aload_n 0, 1) := by decide +kernel
theorem dX6_make_201 : decode cX6_make 201 = .ok (.getfield 7, 3) := by decide +kernel
theorem dX6_make_204 : decode cX6_make 204 = .ok (.sipush 209, 3) := by decide +kernel
theorem dX6_make_207 : decode cX6_make 207 = .ok (.bipush 16, 2) := by decide +kernel
theorem dX6_make_209 : decode cX6_make 209 = .ok (.iload_n 3, 1) := by decide +kernel
theorem dX6_make_210 : decode cX6_make 210 = .ok (.imul, 1) := by decide +kernel
theorem dX6_make_211 : decode cX6_make 211 = .ok (.iadd, 1) := by decide +kernel
theorem dX6_make_212 : decode cX6_make 212 = .ok (.iconst 2, 1) := by decide +kernel
theorem dX6_make_213 : decode cX6_make 213 = .ok (.iload 4, 2) := by decide +kernel
theorem dX6_make_215 : decode cX6_make 215 = .ok (.imul, 1) := by decide +kernel
theorem dX6_make_216 : decode cX6_make 216 = .ok (.iadd, 1) := by decide +kernel
theorem dX6_make_217 : decode cX6_make 217 = .ok (.iconst 1, 1) := by decide +kernel
theorem dX6_make_218 : decode cX6_make 218 = .ok (.iadd, 1) := by decide +kernel
theorem dX6_make_219 : decode cX6_make 219 = .ok (.iload 5, 2) := by decide +kernel
theorem dX6_make_221 : decode cX6_make 221 = .ok (.ifCond .eq 14, 3) := by decide +kernel
theorem dX6_make_224 : decode cX6_make 224 = .ok (.aload_n 0, 1) := by decide +kernel
theorem dX6_make_225 : decode cX6_make 225 = .ok (.iload 4, 2) := by decide +kernel
theorem dX6_make_227 : decode cX6_make 227 = .ok (.iload_n 1, 1) := by decide +kernel
theorem dX6_make_228 : decode cX6_make 228 = .ok (.iconst 1, 1) := by decide +kernel
theorem dX6_make_229 : decode cX6_make 229 = .ok (.invokevirtual 129, 3) := by decide +kernel
theorem dX6_make_232 : decode cX6_make 232 = .ok (.goto 4, 3) := by decide +kernel
theorem dX6_make_235 : decode cX6_make 235 = .ok (.iconst 0, 1) := by decide +kernel
theorem dX6_make_236 : decode cX6_make 236 = .ok (.iastore, 1) := by decide +kernel
theorem dX6_make_237 : decode cX6_make 237 = .ok (.iinc 4 1, 3) := by decide +kernel
theorem dX6_make_240 : decode cX6_make 240 = .ok (.goto (-146), 3) := by decide +kernel
theorem dX6_make_243 : decode cX6_make 243 = .ok (.aload_n 0, 1) := by decide +kernel
theorem dX6_make_244 : decode cX6_make 244 = .ok (.getfield 7, 3) := by decide +kernel
theorem dX6_make_247 : decode cX6_make 247 = .ok (.bipush 7, 2) := by decide +kernel
theorem dX6_make_249 : decode cX6_make 249 = .ok (.dup2, 1) := by decide +kernel
theorem dX6_make_250 : decode cX6_make 250 = .ok (.iaload, 1) := by decide +kernel
theorem dX6_make_251 : decode cX6_make 251 = .ok (.iconst 1, 1) := by decide +kernel
theorem dX6_make_252 : decode cX6_make 252 = .ok (.iadd, 1) := by decide +kernel
theorem dX6_make_253 : decode cX6_make 253 = .ok (.iastore, 1) := by decide +kernel
theorem dX6_make_254 : decode cX6_make 254 = .ok (.aload_n 0, 1) := by decide +kernel
theorem dX6_make_255 : decode cX6_make 255 = .ok (.getfield 7, 3) := by decide +kernel
theorem dX6_make_258 : decode cX6_make 258 = .ok (.bipush 8, 2) := by decide +kernel
theorem dX6_make_260 : decode cX6_make 260 = .ok (.dup2, 1) := by decide +kernel
theorem dX6_make_261 : decode cX6_make 261 = .ok (.iaload, 1) := by decide +kernel
theorem dX6_make_262 : decode cX6_make 262 = .ok (.iconst 1, 1) := by decide +kernel
theorem dX6_make_263 : decode cX6_make 263 = .ok (.iadd, 1) := by decide +kernel
theorem dX6_make_264 : decode cX6_make 264 = .ok (.iastore, 1) := by decide +kernel
theorem dX6_make_265 : decode cX6_make 265 = .ok (.aload_n 0, 1) := by decide +kernel
theorem dX6_make_266 : decode cX6_make 266 = .ok (.getfield 7, 3) := by decide +kernel
theorem dX6_make_269 : decode cX6_make 269 = .ok (.bipush 7, 2) := by decide +kernel
theorem dX6_make_271 : decode cX6_make 271 = .ok (.iaload, 1) := by decide +kernel
theorem dX6_make_272 : decode cX6_make 272 = .ok (.ireturn, 1) := by decide +kernel
theorem dX6_isStale_0 : decode cX6_isStale 0 = .ok (.aload_n 0, 1) := by decide +kernel
theorem dX6_isStale_1 : decode cX6_isStale 1 = .ok (.iload_n 1, 1) := by decide +kernel
theorem dX6_isStale_2 : decode cX6_isStale 2 = .ok (.iconst 0, 1) := by decide +kernel
theorem dX6_isStale_3 : decode cX6_isStale 3 = .ok (.invokevirtual 116, 3) := by decide +kernel
theorem dX6_isStale_6 : decode cX6_isStale 6 = .ok (.istore_n 2, 1) := by decide +kernel
theorem dX6_isStale_7 : decode cX6_isStale 7 = .ok (.aload_n 0, 1) := by decide +kernel
theorem dX6_isStale_8 : decode cX6_isStale 8 = .ok (.getfield 7, 3) := by decide +kernel
theorem dX6_isStale_11 : decode cX6_isStale 11 = .ok (.iconst 0, 1) := by decide +kernel
theorem dX6_isStale_12 : decode cX6_isStale 12 = .ok (.iaload, 1) := by decide +kernel
theorem dX6_isStale_13 : decode cX6_isStale 13 = .ok (.aload_n 0, 1) := by decide +kernel
theorem dX6_isStale_14 : decode cX6_isStale 14 = .ok (.iload_n 1, 1) := by decide +kernel
theorem dX6_isStale_15 : decode cX6_isStale 15 = .ok (.iconst 1, 1) := by decide +kernel
theorem dX6_isStale_16 : decode cX6_isStale 16 = .ok (.invokevirtual 116, 3) := by decide +kernel
theorem dX6_isStale_19 : decode cX6_isStale 19 = .ok (.if_icmp .le 7, 3) := by decide +kernel
theorem dX6_isStale_22 : decode cX6_isStale 22 = .ok (.iconst 1, 1) := by decide +kernel
theorem dX6_isStale_23 : decode cX6_isStale 23 = .ok (.goto 4, 3) := by decide +kernel
theorem dX6_isStale_26 : decode cX6_isStale 26 = .ok (.iconst 0, 1) := by decide +kernel
theorem dX6_isStale_27 : decode cX6_isStale 27 = .ok (.istore_n 3, 1) := by decide +kernel
theorem dX6_isStale_28 : decode cX6_isStale 28 = .ok (.iconst 0, 1) := by decide +kernel
theorem dX6_isStale_29 : decode cX6_isStale 29 = .ok (.istore 4, 2) := by decide +kernel
theorem dX6_isStale_31 : decode cX6_isStale 31 = .ok (.iload 4, 2) := by decide +kernel
theorem dX6_isStale_33 : decode cX6_isStale 33 = .ok (.aload_n 0, 1) := by decide +kernel
theorem dX6_isStale_34 : decode cX6_isStale 34 = .ok (.iload_n 1, 1) := by decide +kernel
theorem dX6_isStale_35 : decode cX6_isStale 35 = .ok (.iconst 1, 1) := by decide +kernel
theorem dX6_isStale_36 : decode cX6_isStale 36 = .ok (.invokevirtual 116, 3) := by decide +kernel
theorem dX6_isStale_39 : decode cX6_isStale 39 = .ok (.if_icmp .ge 98, 3) := by decide +kernel
theorem dX6_isStale_42 : decode cX6_isStale 42 = .ok (.aload_n 0, 1) := by decide +kernel
theorem dX6_isStale_43 : decode cX6_isStale 43 = .ok (.iload 4, 2) := by decide +kernel
theorem dX6_isStale_45 : decode cX6_isStale 45 = .ok (.iload_n 2, 1) := by decide +kernel
theorem dX6_isStale_46 : decode cX6_isStale 46 = .ok (.invokevirtual 106, 3) := by decide +kernel
theorem dX6_isStale_49 : decode cX6_isStale 49 = .ok (.sipush 209, 3) := by decide +kernel
theorem dX6_isStale_52 : decode cX6_isStale 52 = .ok (.bipush 16, 2) := by decide +kernel
theorem dX6_isStale_54 : decode cX6_isStale 54 = .ok (.iload_n 1, 1) := by decide +kernel
theorem dX6_isStale_55 : decode cX6_isStale 55 = .ok (.imul, 1) := by decide +kernel
theorem dX6_isStale_56 : decode cX6_isStale 56 = .ok (.iadd, 1) := by decide +kernel
theorem dX6_isStale_57 : decode cX6_isStale 57 = .ok (.iconst 2, 1) := by decide +kernel
theorem dX6_isStale_58 : decode cX6_isStale 58 = .ok (.iload 4, 2) := by decide +kernel
theorem dX6_isStale_60 : decode cX6_isStale 60 = .ok (.imul, 1) := by decide +kernel
theorem dX6_isStale_61 : decode cX6_isStale 61 = .ok (.iadd, 1) := by decide +kernel
theorem dX6_isStale_62 : decode cX6_isStale 62 = .ok (.istore 5, 2) := by decide +kernel
theorem dX6_isStale_64 : decode cX6_isStale 64 = .ok (.iload_n 3, 1) := by decide +kernel
theorem dX6_isStale_65 : decode cX6_isStale 65 = .ok (.ifCond .ne 60, 3) := by decide +kernel
theorem dX6_isStale_68 : decode cX6_isStale 68 = .ok (.aload_n 0, 1) := by decide +kernel
theorem dX6_isStale_69 : decode cX6_isStale 69 = .ok (.iload_n 1, 1) := by decide +kernel
theorem dX6_isStale_70 : decode cX6_isStale 70 = .ok (.iconst 2, 1) := by decide +kernel
theorem dX6_isStale_71 : decode cX6_isStale 71 = .ok (.iload 4, 2) := by decide +kernel
theorem dX6_isStale_73 : decode cX6_isStale 73 = .ok (.iadd, 1) := by decide +kernel
theorem dX6_isStale_74 : decode cX6_isStale 74 = .ok (.invokevirtual 116, 3) := by decide +kernel
theorem dX6_isStale_77 : decode cX6_isStale 77 = .ok (.aload_n 0, 1) := by decide +kernel
theorem dX6_isStale_78 : decode cX6_isStale 78 = .ok (.iload 4, 2) := by decide +kernel
theorem dX6_isStale_80 : decode cX6_isStale 80 = .ok (.iload_n 2, 1) := by decide +kernel
theorem dX6_isStale_81 : decode cX6_isStale 81 = .ok (.invokevirtual 103, 3) := by decide +kernel
theorem dX6_isStale_84 : decode cX6_isStale 84 = .ok (.if_icmp .ne 41, 3) := by decide +kernel
theorem dX6_isStale_87 : decode cX6_isStale 87 = .ok (.aload_n 0, 1) := by decide +kernel
theorem dX6_isStale_88 : decode cX6_isStale 88 = .ok (.getfield 7, 3) := by decide +kernel
theorem dX6_isStale_91 : decode cX6_isStale 91 = .ok (.iload 5, 2) := by decide +kernel
theorem dX6_isStale_93 : decode cX6_isStale 93 = .ok (.iaload, 1) := by decide +kernel
theorem dX6_isStale_94 : decode cX6_isStale 94 = .ok (.aload_n 0, 1) := by decide +kernel
theorem dX6_isStale_95 : decode cX6_isStale 95 = .ok (.iload 4, 2) := by decide +kernel
theorem dX6_isStale_97 : decode cX6_isStale 97 = .ok (.iload_n 2, 1) := by decide +kernel
theorem dX6_isStale_98 : decode cX6_isStale 98 = .ok (.iconst 0, 1) := by decide +kernel
theorem dX6_isStale_99 : decode cX6_isStale 99 = .ok (.invokevirtual 129, 3) := by decide +kernel
theorem dX6_isStale_102 : decode cX6_isStale 102 = .ok (.if_icmp .ne 23, 3) := by decide +kernel
theorem dX6_isStale_105 : decode cX6_isStale 105 = .ok (.aload_n 0, 1) := by decide +kernel
theorem dX6_isStale_106 : decode cX6_isStale 106 = .ok (.getfield 7, 3) := by decide +kernel
theorem dX6_isStale_109 : decode cX6_isStale 109 = .ok (.iload 5, 2) := by decide +kernel
theorem dX6_isStale_111 : decode cX6_isStale 111 = .ok (.iconst 1, 1) := by decide +kernel
theorem dX6_isStale_112 : decode cX6_isStale 112 = .ok (.iadd, 1) := by decide +kernel
theorem dX6_isStale_113 : decode cX6_isStale 113 = .ok (.iaload, 1) := by decide +kernel
theorem dX6_isStale_114 : decode cX6_isStale 114 = .ok (.aload_n 0, 1) := by decide +kernel
theorem dX6_isStale_115 : decode cX6_isStale 115 = .ok (.iload 4, 2) := by decide +kernel
theorem dX6_isStale_117 : decode cX6_isStale 117 = .ok (.iload_n 2, 1) := by decide +kernel
theorem dX6_isStale_118 : decode cX6_isStale 118 = .ok (.iconst 1, 1) := by decide +kernel
theorem dX6_isStale_119 : decode cX6_isStale 119 = .ok (.invokevirtual 129, 3) := by decide +kernel
theorem dX6_isStale_122 : decode cX6_isStale 122 = .ok (.if_icmp .eq 7, 3) := by decide +kernel
theorem dX6_isStale_125 : decode cX6_isStale 125 = .ok (.iconst 1, 1) := by decide +kernel
theorem dX6_isStale_126 : decode cX6_isStale 126 = .ok (.goto 4, 3) := by decide +kernel
theorem dX6_isStale_129 : decode cX6_isStale 129 = .ok (.iconst 0, 1) := by decide +kernel
theorem dX6_isStale_130 : decode cX6_isStale 130 = .ok (.istore_n 3, 1) := by decide +kernel
theorem dX6_isStale_131 : decode cX6_isStale 131 = .ok (.iinc 4 1, 3) := by decide +kernel
theorem dX6_isStale_134 : decode cX6_isStale 134 = .ok (.goto (-103), 3) := by decide +kernel
theorem dX6_isStale_137 : decode cX6_isStale 137 = .ok (.iload_n 3, 1) := by decide +kernel
theorem dX6_isStale_138 : decode cX6_isStale 138 = .ok (.ireturn, 1) := by decide +kernel
theorem dX6_ones_0 : decode cX6_ones 0 = .ok (.iconst 0, 1) := by decide +kernel
theorem dX6_ones_1 : decode cX6_ones 1 = .ok (.istore_n 1, 1) := by decide +kernel
theorem dX6_ones_2 : decode cX6_ones 2 = .ok (.iload_n 0, 1) := by decide +kernel
theorem dX6_ones_3 : decode cX6_ones 3 = .ok (.istore_n 2, 1) := by decide +kernel
theorem dX6_ones_4 : decode cX6_ones 4 = .ok (.iload_n 2, 1) := by decide +kernel
theorem dX6_ones_5 : decode cX6_ones 5 = .ok (.ifCond .eq 15, 3) := by decide +kernel
theorem dX6_ones_8 : decode cX6_ones 8 = .ok (.iinc 1 1, 3) := by decide +kernel
theorem dX6_ones_11 : decode cX6_ones 11 = .ok (.iload_n 2, 1) := by decide +kernel
theorem dX6_ones_12 : decode cX6_ones 12 = .ok (.iload_n 2, 1) := by decide +kernel
theorem dX6_ones_13 : decode cX6_ones 13 = .ok (.iconst 1, 1) := by decide +kernel
theorem dX6_ones_14 : decode cX6_ones 14 = .ok (.isub, 1) := by decide +kernel
theorem dX6_ones_15 : decode cX6_ones 15 = .ok (.iand, 1) := by decide +kernel
theorem dX6_ones_16 : decode cX6_ones 16 = .ok (.istore_n 2, 1) := by decide +kernel
theorem dX6_ones_17 : decode cX6_ones 17 = .ok (.goto (-13), 3) := by decide +kernel
theorem dX6_ones_20 : decode cX6_ones 20 = .ok (.iload_n 1, 1) := by decide +kernel
theorem dX6_ones_21 : decode cX6_ones 21 = .ok (.ireturn, 1) := by decide +kernel
theorem dX6_litIn_0 : decode cX6_litIn 0 = .ok (.iconst 0, 1) := by decide +kernel
theorem dX6_litIn_1 : decode cX6_litIn 1 = .ok (.istore_n 2, 1) := by decide +kernel
theorem dX6_litIn_2 : decode cX6_litIn 2 = .ok (.iconst 0, 1) := by decide +kernel
theorem dX6_litIn_3 : decode cX6_litIn 3 = .ok (.istore_n 3, 1) := by decide +kernel
theorem dX6_litIn_4 : decode cX6_litIn 4 = .ok (.iload_n 3, 1) := by decide +kernel
theorem dX6_litIn_5 : decode cX6_litIn 5 = .ok (.bipush 16, 2) := by decide +kernel
theorem dX6_litIn_7 : decode cX6_litIn 7 = .ok (.if_icmp .ge 30, 3) := by decide +kernel
theorem dX6_litIn_10 : decode cX6_litIn 10 = .ok (.iload_n 2, 1) := by decide +kernel
theorem dX6_litIn_11 : decode cX6_litIn 11 = .ok (.aload_n 0, 1) := by decide +kernel
theorem dX6_litIn_12 : decode cX6_litIn 12 = .ok (.getfield 7, 3) := by decide +kernel
theorem dX6_litIn_15 : decode cX6_litIn 15 = .ok (.sipush 209, 3) := by decide +kernel
theorem dX6_litIn_18 : decode cX6_litIn 18 = .ok (.bipush 16, 2) := by decide +kernel
theorem dX6_litIn_20 : decode cX6_litIn 20 = .ok (.iload_n 1, 1) := by decide +kernel
theorem dX6_litIn_21 : decode cX6_litIn 21 = .ok (.imul, 1) := by decide +kernel
theorem dX6_litIn_22 : decode cX6_litIn 22 = .ok (.iadd, 1) := by decide +kernel
theorem dX6_litIn_23 : decode cX6_litIn 23 = .ok (.iload_n 3, 1) := by decide +kernel
theorem dX6_litIn_24 : decode cX6_litIn 24 = .ok (.iadd, 1) := by decide +kernel
theorem dX6_litIn_25 : decode cX6_litIn 25 = .ok (.iaload, 1) := by decide +kernel
theorem dX6_litIn_26 : decode cX6_litIn 26 = .ok (.invokestatic 132, 3) := by decide +kernel
theorem dX6_litIn_29 : decode cX6_litIn 29 = .ok (.iadd, 1) := by decide +kernel
theorem dX6_litIn_30 : decode cX6_litIn 30 = .ok (.istore_n 2, 1) := by decide +kernel
theorem dX6_litIn_31 : decode cX6_litIn 31 = .ok (.iinc 3 1, 3) := by decide +kernel
theorem dX6_litIn_34 : decode cX6_litIn 34 = .ok (.goto (-30), 3) := by decide +kernel
theorem dX6_litIn_37 : decode cX6_litIn 37 = .ok (.iload_n 2, 1) := by decide +kernel
theorem dX6_litIn_38 : decode cX6_litIn 38 = .ok (.ireturn, 1) := by decide +kernel
theorem dX6_set_0 : decode cX6_set 0 = .ok (.iload_n 1, 1) := by decide +kernel
theorem dX6_set_1 : decode cX6_set 1 = .ok (.iconst 0, 1) := by decide +kernel
theorem dX6_set_2 : decode cX6_set 2 = .ok (.iconst 1, 1) := by decide +kernel
theorem dX6_set_3 : decode cX6_set 3 = .ok (.invokestatic 39, 3) := by decide +kernel
theorem dX6_set_6 : decode cX6_set 6 = .ok (.ifCond .eq 21, 3) := by decide +kernel
theorem dX6_set_9 : decode cX6_set 9 = .ok (.iload_n 2, 1) := by decide +kernel
theorem dX6_set_10 : decode cX6_set 10 = .ok (.iconst 0, 1) := by decide +kernel
theorem dX6_set_11 : decode cX6_set 11 = .ok (.iload_n 1, 1) := by decide +kernel
theorem dX6_set_12 : decode cX6_set 12 = .ok (.ifCond .ne 8, 3) := by decide +kernel
theorem dX6_set_15 : decode cX6_set 15 = .ok (.bipush 100, 2) := by decide +kernel
theorem dX6_set_17 : decode cX6_set 17 = .ok (.goto 4, 3) := by decide +kernel
theorem dX6_set_20 : decode cX6_set 20 = .ok (.iconst 3, 1) := by decide +kernel
theorem dX6_set_21 : decode cX6_set 21 = .ok (.invokestatic 39, 3) := by decide +kernel
theorem dX6_set_24 : decode cX6_set 24 = .ok (.ifCond .ne 6, 3) := by decide +kernel
theorem dX6_set_27 : decode cX6_set 27 = .ok (.ldc 58, 2) := by decide +kernel
theorem dX6_set_29 : decode cX6_set 29 = .ok (.ireturn, 1) := by decide +kernel
theorem dX6_set_30 : decode cX6_set 30 = .ok (.aload_n 0, 1) := by decide +kernel
theorem dX6_set_31 : decode cX6_set 31 = .ok (.invokevirtual 60, 3) := by decide +kernel
theorem dX6_set_34 : decode cX6_set 34 = .ok (.aload_n 0, 1) := by decide +kernel
theorem dX6_set_35 : decode cX6_set 35 = .ok (.getfield 7, 3) := by decide +kernel
theorem dX6_set_38 : decode cX6_set 38 = .ok (.iconst 5, 1) := by decide +kernel
theorem dX6_set_39 : decode cX6_set 39 = .ok (.iload_n 1, 1) := by decide +kernel
theorem dX6_set_40 : decode cX6_set 40 = .ok (.iadd, 1) := by decide +kernel
theorem dX6_set_41 : decode cX6_set 41 = .ok (.iaload, 1) := by decide +kernel
theorem dX6_set_42 : decode cX6_set 42 = .ok (.istore_n 3, 1) := by decide +kernel
theorem dX6_set_43 : decode cX6_set 43 = .ok (.aload_n 0, 1) := by decide +kernel
theorem dX6_set_44 : decode cX6_set 44 = .ok (.getfield 7, 3) := by decide +kernel
theorem dX6_set_47 : decode cX6_set 47 = .ok (.iconst 5, 1) := by decide +kernel
theorem dX6_set_48 : decode cX6_set 48 = .ok (.iload_n 1, 1) := by decide +kernel
theorem dX6_set_49 : decode cX6_set 49 = .ok (.iadd, 1) := by decide +kernel
theorem dX6_set_50 : decode cX6_set 50 = .ok (.iload_n 2, 1) := by decide +kernel
theorem dX6_set_51 : decode cX6_set 51 = .ok (.iastore, 1) := by decide +kernel
theorem dX6_set_52 : decode cX6_set 52 = .ok (.iload_n 3, 1) := by decide +kernel
theorem dX6_set_53 : decode cX6_set 53 = .ok (.ireturn, 1) := by decide +kernel
theorem dX6_alike_0 : decode cX6_alike 0 = .ok (.iconst 0, 1) := by decide +kernel
theorem dX6_alike_1 : decode cX6_alike 1 = .ok (.istore_n 2, 1) := by decide +kernel
theorem dX6_alike_2 : decode cX6_alike 2 = .ok (.iconst 0, 1) := by decide +kernel
theorem dX6_alike_3 : decode cX6_alike 3 = .ok (.istore_n 3, 1) := by decide +kernel
theorem dX6_alike_4 : decode cX6_alike 4 = .ok (.iload_n 3, 1) := by decide +kernel
theorem dX6_alike_5 : decode cX6_alike 5 = .ok (.aload_n 0, 1) := by decide +kernel
theorem dX6_alike_6 : decode cX6_alike 6 = .ok (.getfield 7, 3) := by decide +kernel
theorem dX6_alike_9 : decode cX6_alike 9 = .ok (.iconst 0, 1) := by decide +kernel
theorem dX6_alike_10 : decode cX6_alike 10 = .ok (.iaload, 1) := by decide +kernel
theorem dX6_alike_11 : decode cX6_alike 11 = .ok (.if_icmp .ge 48, 3) := by decide +kernel
theorem dX6_alike_14 : decode cX6_alike 14 = .ok (.iconst 0, 1) := by decide +kernel
theorem dX6_alike_15 : decode cX6_alike 15 = .ok (.istore 4, 2) := by decide +kernel
theorem dX6_alike_17 : decode cX6_alike 17 = .ok (.iload 4, 2) := by decide +kernel
theorem dX6_alike_19 : decode cX6_alike 19 = .ok (.aload_n 0, 1) := by decide +kernel
theorem dX6_alike_20 : decode cX6_alike 20 = .ok (.iload_n 3, 1) := by decide +kernel
theorem dX6_alike_21 : decode cX6_alike 21 = .ok (.iconst 1, 1) := by decide +kernel
theorem dX6_alike_22 : decode cX6_alike 22 = .ok (.invokevirtual 47, 3) := by decide +kernel
theorem dX6_alike_25 : decode cX6_alike 25 = .ok (.if_icmp .ge 28, 3) := by decide +kernel
theorem dX6_alike_28 : decode cX6_alike 28 = .ok (.iload_n 2, 1) := by decide +kernel
theorem dX6_alike_29 : decode cX6_alike 29 = .ok (.aload_n 0, 1) := by decide +kernel
theorem dX6_alike_30 : decode cX6_alike 30 = .ok (.iload_n 3, 1) := by decide +kernel
theorem dX6_alike_31 : decode cX6_alike 31 = .ok (.iload 4, 2) := by decide +kernel
theorem dX6_alike_33 : decode cX6_alike 33 = .ok (.invokevirtual 85, 3) := by decide +kernel
theorem dX6_alike_36 : decode cX6_alike 36 = .ok (.iload_n 1, 1) := by decide +kernel
theorem dX6_alike_37 : decode cX6_alike 37 = .ok (.if_icmp .ne 7, 3) := by decide +kernel
theorem dX6_alike_40 : decode cX6_alike 40 = .ok (.iconst 1, 1) := by decide +kernel
theorem dX6_alike_41 : decode cX6_alike 41 = .ok (.goto 4, 3) := by decide +kernel
theorem dX6_alike_44 : decode cX6_alike 44 = .ok (.iconst 0, 1) := by decide +kernel
theorem dX6_alike_45 : decode cX6_alike 45 = .ok (.iadd, 1) := by decide +kernel
theorem dX6_alike_46 : decode cX6_alike 46 = .ok (.istore_n 2, 1) := by decide +kernel
theorem dX6_alike_47 : decode cX6_alike 47 = .ok (.iinc 4 1, 3) := by decide +kernel
theorem dX6_alike_50 : decode cX6_alike 50 = .ok (.goto (-33), 3) := by decide +kernel
theorem dX6_alike_53 : decode cX6_alike 53 = .ok (.iinc 3 1, 3) := by decide +kernel
theorem dX6_alike_56 : decode cX6_alike 56 = .ok (.goto (-52), 3) := by decide +kernel
theorem dX6_alike_59 : decode cX6_alike 59 = .ok (.iload_n 2, 1) := by decide +kernel
theorem dX6_alike_60 : decode cX6_alike 60 = .ok (.ireturn, 1) := by decide +kernel
theorem dX6_stemOf_0 : decode cX6_stemOf 0 = .ok (.aload_n 0, 1) := by decide +kernel
theorem dX6_stemOf_1 : decode cX6_stemOf 1 = .ok (.iload_n 1, 1) := by decide +kernel
theorem dX6_stemOf_2 : decode cX6_stemOf 2 = .ok (.iload_n 2, 1) := by decide +kernel
theorem dX6_stemOf_3 : decode cX6_stemOf 3 = .ok (.invokevirtual 70, 3) := by decide +kernel
theorem dX6_stemOf_6 : decode cX6_stemOf 6 = .ok (.ifCond .eq 13, 3) := by decide +kernel
theorem dX6_stemOf_9 : decode cX6_stemOf 9 = .ok (.iload_n 3, 1) := by decide +kernel
theorem dX6_stemOf_10 : decode cX6_stemOf 10 = .ok (.iconst 0, 1) := by decide +kernel
theorem dX6_stemOf_11 : decode cX6_stemOf 11 = .ok (.bipush 6, 2) := by decide +kernel
theorem dX6_stemOf_13 : decode cX6_stemOf 13 = .ok (.invokestatic 39, 3) := by decide +kernel
theorem dX6_stemOf_16 : decode cX6_stemOf 16 = .ok (.ifCond .ne 6, 3) := by decide +kernel
theorem dX6_stemOf_19 : decode cX6_stemOf 19 = .ok (.ldc 58, 2) := by decide +kernel
theorem dX6_stemOf_21 : decode cX6_stemOf 21 = .ok (.ireturn, 1) := by decide +kernel
theorem dX6_stemOf_22 : decode cX6_stemOf 22 = .ok (.iload_n 3, 1) := by decide +kernel
theorem dX6_stemOf_23 : decode cX6_stemOf 23 = .ok (.tableswitch 85 3 6 #[29, 36, 48, 59], 29) := by decide +kernel
theorem dX6_stemOf_52 : decode cX6_stemOf 52 = .ok (.aload_n 0, 1) := by decide +kernel
theorem dX6_stemOf_53 : decode cX6_stemOf 53 = .ok (.iload_n 1, 1) := by decide +kernel
theorem dX6_stemOf_54 : decode cX6_stemOf 54 = .ok (.iload_n 2, 1) := by decide +kernel
theorem dX6_stemOf_55 : decode cX6_stemOf 55 = .ok (.invokevirtual 85, 3) := by decide +kernel
theorem dX6_stemOf_58 : decode cX6_stemOf 58 = .ok (.ireturn, 1) := by decide +kernel
theorem dX6_stemOf_59 : decode cX6_stemOf 59 = .ok (.aload_n 0, 1) := by decide +kernel
theorem dX6_stemOf_60 : decode cX6_stemOf 60 = .ok (.aload_n 0, 1) := by decide +kernel
theorem dX6_stemOf_61 : decode cX6_stemOf 61 = .ok (.iload_n 1, 1) := by decide +kernel
theorem dX6_stemOf_62 : decode cX6_stemOf 62 = .ok (.iload_n 2, 1) := by decide +kernel
theorem dX6_stemOf_63 : decode cX6_stemOf 63 = .ok (.iconst 1, 1) := by decide +kernel
theorem dX6_stemOf_64 : decode cX6_stemOf 64 = .ok (.invokevirtual 55, 3) := by decide +kernel
theorem dX6_stemOf_67 : decode cX6_stemOf 67 = .ok (.invokevirtual 79, 3) := by decide +kernel
theorem dX6_stemOf_70 : decode cX6_stemOf 70 = .ok (.ireturn, 1) := by decide +kernel
theorem dX6_stemOf_71 : decode cX6_stemOf 71 = .ok (.aload_n 0, 1) := by decide +kernel
theorem dX6_stemOf_72 : decode cX6_stemOf 72 = .ok (.aload_n 0, 1) := by decide +kernel
theorem dX6_stemOf_73 : decode cX6_stemOf 73 = .ok (.iload_n 1, 1) := by decide +kernel
theorem dX6_stemOf_74 : decode cX6_stemOf 74 = .ok (.iload_n 2, 1) := by decide +kernel
theorem dX6_stemOf_75 : decode cX6_stemOf 75 = .ok (.invokevirtual 85, 3) := by decide +kernel
theorem dX6_stemOf_78 : decode cX6_stemOf 78 = .ok (.invokevirtual 135, 3) := by decide +kernel
theorem dX6_stemOf_81 : decode cX6_stemOf 81 = .ok (.ireturn, 1) := by decide +kernel
theorem dX6_stemOf_82 : decode cX6_stemOf 82 = .ok (.iload_n 2, 1) := by decide +kernel
theorem dX6_stemOf_83 : decode cX6_stemOf 83 = .ok (.ifCond .ne 8, 3) := by decide +kernel
theorem dX6_stemOf_86 : decode cX6_stemOf 86 = .ok (.ldc 74, 2) := by decide +kernel
theorem dX6_stemOf_88 : decode cX6_stemOf 88 = .ok (.goto 19, 3) := by decide +kernel
theorem dX6_stemOf_91 : decode cX6_stemOf 91 = .ok (.aload_n 0, 1) := by decide +kernel
theorem dX6_stemOf_92 : decode cX6_stemOf 92 = .ok (.iload_n 1, 1) := by decide +kernel
theorem dX6_stemOf_93 : decode cX6_stemOf 93 = .ok (.iload_n 2, 1) := by decide +kernel
theorem dX6_stemOf_94 : decode cX6_stemOf 94 = .ok (.iconst 0, 1) := by decide +kernel
theorem dX6_stemOf_95 : decode cX6_stemOf 95 = .ok (.invokevirtual 55, 3) := by decide +kernel
theorem dX6_stemOf_98 : decode cX6_stemOf 98 = .ok (.aload_n 0, 1) := by decide +kernel
theorem dX6_stemOf_99 : decode cX6_stemOf 99 = .ok (.iload_n 1, 1) := by decide +kernel
theorem dX6_stemOf_100 : decode cX6_stemOf 100 = .ok (.iload_n 2, 1) := by decide +kernel
theorem dX6_stemOf_101 : decode cX6_stemOf 101 = .ok (.iconst 1, 1) := by decide +kernel
theorem dX6_stemOf_102 : decode cX6_stemOf 102 = .ok (.isub, 1) := by decide +kernel
theorem dX6_stemOf_103 : decode cX6_stemOf 103 = .ok (.invokevirtual 66, 3) := by decide +kernel
theorem dX6_stemOf_106 : decode cX6_stemOf 106 = .ok (.isub, 1) := by decide +kernel
theorem dX6_stemOf_107 : decode cX6_stemOf 107 = .ok (.ireturn, 1) := by decide +kernel
theorem dX6_stemOf_108 : decode cX6_stemOf 108 = .ok (.aload_n 0, 1) := by decide +kernel
theorem dX6_stemOf_109 : decode cX6_stemOf 109 = .ok (.iload_n 1, 1) := by decide +kernel
theorem dX6_stemOf_110 : decode cX6_stemOf 110 = .ok (.iload_n 2, 1) := by decide +kernel
theorem dX6_stemOf_111 : decode cX6_stemOf 111 = .ok (.iload_n 3, 1) := by decide +kernel
theorem dX6_stemOf_112 : decode cX6_stemOf 112 = .ok (.invokevirtual 55, 3) := by decide +kernel
theorem dX6_stemOf_115 : decode cX6_stemOf 115 = .ok (.ireturn, 1) := by decide +kernel
theorem dX6_pixels_0 : decode cX6_pixels 0 = .ok (.aload_n 0, 1) := by decide +kernel
theorem dX6_pixels_1 : decode cX6_pixels 1 = .ok (.iload_n 1, 1) := by decide +kernel
theorem dX6_pixels_2 : decode cX6_pixels 2 = .ok (.iload_n 2, 1) := by decide +kernel
theorem dX6_pixels_3 : decode cX6_pixels 3 = .ok (.invokevirtual 70, 3) := by decide +kernel
theorem dX6_pixels_6 : decode cX6_pixels 6 = .ok (.ifCond .eq 20, 3) := by decide +kernel
theorem dX6_pixels_9 : decode cX6_pixels 9 = .ok (.iload_n 3, 1) := by decide +kernel
theorem dX6_pixels_10 : decode cX6_pixels 10 = .ok (.invokestatic 119, 3) := by decide +kernel
theorem dX6_pixels_13 : decode cX6_pixels 13 = .ok (.ifCond .eq 13, 3) := by decide +kernel
theorem dX6_pixels_16 : decode cX6_pixels 16 = .ok (.iload 4, 2) := by decide +kernel
theorem dX6_pixels_18 : decode cX6_pixels 18 = .ok (.iconst 0, 1) := by decide +kernel
theorem dX6_pixels_19 : decode cX6_pixels 19 = .ok (.iconst 3, 1) := by decide +kernel
theorem dX6_pixels_20 : decode cX6_pixels 20 = .ok (.invokestatic 39, 3) := by decide +kernel
theorem dX6_pixels_23 : decode cX6_pixels 23 = .ok (.ifCond .ne 6, 3) := by decide +kernel
theorem dX6_pixels_26 : decode cX6_pixels 26 = .ok (.ldc 58, 2) := by decide +kernel
theorem dX6_pixels_28 : decode cX6_pixels 28 = .ok (.ireturn, 1) := by decide +kernel
theorem dX6_pixels_29 : decode cX6_pixels 29 = .ok (.aload_n 0, 1) := by decide +kernel
theorem dX6_pixels_30 : decode cX6_pixels 30 = .ok (.iload_n 1, 1) := by decide +kernel
theorem dX6_pixels_31 : decode cX6_pixels 31 = .ok (.iload_n 3, 1) := by decide +kernel
theorem dX6_pixels_32 : decode cX6_pixels 32 = .ok (.invokevirtual 106, 3) := by decide +kernel
theorem dX6_pixels_35 : decode cX6_pixels 35 = .ok (.iload 4, 2) := by decide +kernel
theorem dX6_pixels_37 : decode cX6_pixels 37 = .ok (.ifCond .ne 12, 3) := by decide +kernel
theorem dX6_pixels_40 : decode cX6_pixels 40 = .ok (.aload_n 0, 1) := by decide +kernel
theorem dX6_pixels_41 : decode cX6_pixels 41 = .ok (.getfield 22, 3) := by decide +kernel
theorem dX6_pixels_44 : decode cX6_pixels 44 = .ok (.iload_n 2, 1) := by decide +kernel
theorem dX6_pixels_45 : decode cX6_pixels 45 = .ok (.iaload, 1) := by decide +kernel
theorem dX6_pixels_46 : decode cX6_pixels 46 = .ok (.goto 41, 3) := by decide +kernel
theorem dX6_pixels_49 : decode cX6_pixels 49 = .ok (.iload 4, 2) := by decide +kernel
theorem dX6_pixels_51 : decode cX6_pixels 51 = .ok (.iconst 1, 1) := by decide +kernel
theorem dX6_pixels_52 : decode cX6_pixels 52 = .ok (.if_icmp .ne 12, 3) := by decide +kernel
theorem dX6_pixels_55 : decode cX6_pixels 55 = .ok (.aload_n 0, 1) := by decide +kernel
theorem dX6_pixels_56 : decode cX6_pixels 56 = .ok (.getfield 25, 3) := by decide +kernel
theorem dX6_pixels_59 : decode cX6_pixels 59 = .ok (.iload_n 2, 1) := by decide +kernel
theorem dX6_pixels_60 : decode cX6_pixels 60 = .ok (.iaload, 1) := by decide +kernel
theorem dX6_pixels_61 : decode cX6_pixels 61 = .ok (.goto 26, 3) := by decide +kernel
theorem dX6_pixels_64 : decode cX6_pixels 64 = .ok (.iload 4, 2) := by decide +kernel
theorem dX6_pixels_66 : decode cX6_pixels 66 = .ok (.iconst 2, 1) := by decide +kernel
theorem dX6_pixels_67 : decode cX6_pixels 67 = .ok (.if_icmp .ne 10, 3) := by decide +kernel
theorem dX6_pixels_70 : decode cX6_pixels 70 = .ok (.aload_n 0, 1) := by decide +kernel
theorem dX6_pixels_71 : decode cX6_pixels 71 = .ok (.getfield 94, 3) := by decide +kernel
theorem dX6_pixels_74 : decode cX6_pixels 74 = .ok (.goto 9, 3) := by decide +kernel
theorem dX6_pixels_77 : decode cX6_pixels 77 = .ok (.aload_n 0, 1) := by decide +kernel
theorem dX6_pixels_78 : decode cX6_pixels 78 = .ok (.iload_n 1, 1) := by decide +kernel
theorem dX6_pixels_79 : decode cX6_pixels 79 = .ok (.iload_n 3, 1) := by decide +kernel
theorem dX6_pixels_80 : decode cX6_pixels 80 = .ok (.invokevirtual 110, 3) := by decide +kernel
theorem dX6_pixels_83 : decode cX6_pixels 83 = .ok (.iload_n 2, 1) := by decide +kernel
theorem dX6_pixels_84 : decode cX6_pixels 84 = .ok (.ishr, 1) := by decide +kernel
theorem dX6_pixels_85 : decode cX6_pixels 85 = .ok (.iconst 1, 1) := by decide +kernel
theorem dX6_pixels_86 : decode cX6_pixels 86 = .ok (.iand, 1) := by decide +kernel
theorem dX6_pixels_87 : decode cX6_pixels 87 = .ok (.ireturn, 1) := by decide +kernel
theorem dX6_runsOf_0 : decode cX6_runsOf 0 = .ok (.iconst 0, 1) := by decide +kernel
theorem dX6_runsOf_1 : decode cX6_runsOf 1 = .ok (.istore_n 3, 1) := by decide +kernel
theorem dX6_runsOf_2 : decode cX6_runsOf 2 = .ok (.iconst 0, 1) := by decide +kernel
theorem dX6_runsOf_3 : decode cX6_runsOf 3 = .ok (.istore 4, 2) := by decide +kernel
theorem dX6_runsOf_5 : decode cX6_runsOf 5 = .ok (.iload 4, 2) := by decide +kernel
theorem dX6_runsOf_7 : decode cX6_runsOf 7 = .ok (.aload_n 0, 1) := by decide +kernel
theorem dX6_runsOf_8 : decode cX6_runsOf 8 = .ok (.iload_n 1, 1) := by decide +kernel
theorem dX6_runsOf_9 : decode cX6_runsOf 9 = .ok (.iload_n 2, 1) := by decide +kernel
theorem dX6_runsOf_10 : decode cX6_runsOf 10 = .ok (.invokevirtual 103, 3) := by decide +kernel
theorem dX6_runsOf_13 : decode cX6_runsOf 13 = .ok (.if_icmp .ge 44, 3) := by decide +kernel
theorem dX6_runsOf_16 : decode cX6_runsOf 16 = .ok (.iload_n 3, 1) := by decide +kernel
theorem dX6_runsOf_17 : decode cX6_runsOf 17 = .ok (.aload_n 0, 1) := by decide +kernel
theorem dX6_runsOf_18 : decode cX6_runsOf 18 = .ok (.iload_n 1, 1) := by decide +kernel
theorem dX6_runsOf_19 : decode cX6_runsOf 19 = .ok (.iload 4, 2) := by decide +kernel
theorem dX6_runsOf_21 : decode cX6_runsOf 21 = .ok (.invokevirtual 113, 3) := by decide +kernel
theorem dX6_runsOf_24 : decode cX6_runsOf 24 = .ok (.ifCond .eq 24, 3) := by decide +kernel
theorem dX6_runsOf_27 : decode cX6_runsOf 27 = .ok (.iload 4, 2) := by decide +kernel
theorem dX6_runsOf_29 : decode cX6_runsOf 29 = .ok (.ifCond .eq 15, 3) := by decide +kernel
theorem dX6_runsOf_32 : decode cX6_runsOf 32 = .ok (.aload_n 0, 1) := by decide +kernel
theorem dX6_runsOf_33 : decode cX6_runsOf 33 = .ok (.iload_n 1, 1) := by decide +kernel
theorem dX6_runsOf_34 : decode cX6_runsOf 34 = .ok (.iload 4, 2) := by decide +kernel
theorem dX6_runsOf_36 : decode cX6_runsOf 36 = .ok (.iconst 1, 1) := by decide +kernel
theorem dX6_runsOf_37 : decode cX6_runsOf 37 = .ok (.isub, 1) := by decide +kernel
theorem dX6_runsOf_38 : decode cX6_runsOf 38 = .ok (.invokevirtual 113, 3) := by decide +kernel
theorem dX6_runsOf_41 : decode cX6_runsOf 41 = .ok (.ifCond .ne 7, 3) := by decide +kernel
theorem dX6_runsOf_44 : decode cX6_runsOf 44 = .ok (.iconst 1, 1) := by decide +kernel
theorem dX6_runsOf_45 : decode cX6_runsOf 45 = .ok (.goto 4, 3) := by decide +kernel
theorem dX6_runsOf_48 : decode cX6_runsOf 48 = .ok (.iconst 0, 1) := by decide +kernel
theorem dX6_runsOf_49 : decode cX6_runsOf 49 = .ok (.iadd, 1) := by decide +kernel
theorem dX6_runsOf_50 : decode cX6_runsOf 50 = .ok (.istore_n 3, 1) := by decide +kernel
theorem dX6_runsOf_51 : decode cX6_runsOf 51 = .ok (.iinc 4 1, 3) := by decide +kernel
theorem dX6_runsOf_54 : decode cX6_runsOf 54 = .ok (.goto (-49), 3) := by decide +kernel
theorem dX6_runsOf_57 : decode cX6_runsOf 57 = .ok (.iload_n 3, 1) := by decide +kernel
theorem dX6_runsOf_58 : decode cX6_runsOf 58 = .ok (.ireturn, 1) := by decide +kernel
theorem dX6_glyphOf_0 : decode cX6_glyphOf 0 = .ok (.aload_n 0, 1) := by decide +kernel
theorem dX6_glyphOf_1 : decode cX6_glyphOf 1 = .ok (.iload_n 1, 1) := by decide +kernel
theorem dX6_glyphOf_2 : decode cX6_glyphOf 2 = .ok (.invokevirtual 43, 3) := by decide +kernel
theorem dX6_glyphOf_5 : decode cX6_glyphOf 5 = .ok (.ifCond .eq 19, 3) := by decide +kernel
theorem dX6_glyphOf_8 : decode cX6_glyphOf 8 = .ok (.iload_n 2, 1) := by decide +kernel
theorem dX6_glyphOf_9 : decode cX6_glyphOf 9 = .ok (.invokestatic 119, 3) := by decide +kernel
theorem dX6_glyphOf_12 : decode cX6_glyphOf 12 = .ok (.ifCond .eq 12, 3) := by decide +kernel
theorem dX6_glyphOf_15 : decode cX6_glyphOf 15 = .ok (.iload_n 3, 1) := by decide +kernel
theorem dX6_glyphOf_16 : decode cX6_glyphOf 16 = .ok (.iconst 0, 1) := by decide +kernel
theorem dX6_glyphOf_17 : decode cX6_glyphOf 17 = .ok (.iconst 5, 1) := by decide +kernel
theorem dX6_glyphOf_18 : decode cX6_glyphOf 18 = .ok (.invokestatic 39, 3) := by decide +kernel
theorem dX6_glyphOf_21 : decode cX6_glyphOf 21 = .ok (.ifCond .ne 6, 3) := by decide +kernel
theorem dX6_glyphOf_24 : decode cX6_glyphOf 24 = .ok (.ldc 58, 2) := by decide +kernel
theorem dX6_glyphOf_26 : decode cX6_glyphOf 26 = .ok (.ireturn, 1) := by decide +kernel
theorem dX6_glyphOf_27 : decode cX6_glyphOf 27 = .ok (.aload_n 0, 1) := by decide +kernel
theorem dX6_glyphOf_28 : decode cX6_glyphOf 28 = .ok (.iload_n 1, 1) := by decide +kernel
theorem dX6_glyphOf_29 : decode cX6_glyphOf 29 = .ok (.iload_n 2, 1) := by decide +kernel
theorem dX6_glyphOf_30 : decode cX6_glyphOf 30 = .ok (.invokevirtual 106, 3) := by decide +kernel
theorem dX6_glyphOf_33 : decode cX6_glyphOf 33 = .ok (.iload_n 3, 1) := by decide +kernel
theorem dX6_glyphOf_34 : decode cX6_glyphOf 34 = .ok (.tableswitch 90 0 4 #[34, 41, 63, 78, 83], 34) := by decide +kernel
theorem dX6_glyphOf_68 : decode cX6_glyphOf 68 = .ok (.aload_n 0, 1) := by decide +kernel
theorem dX6_glyphOf_69 : decode cX6_glyphOf 69 = .ok (.iload_n 1, 1) := by decide +kernel
theorem dX6_glyphOf_70 : decode cX6_glyphOf 70 = .ok (.iload_n 2, 1) := by decide +kernel
theorem dX6_glyphOf_71 : decode cX6_glyphOf 71 = .ok (.invokevirtual 103, 3) := by decide +kernel
theorem dX6_glyphOf_74 : decode cX6_glyphOf 74 = .ok (.ireturn, 1) := by decide +kernel
theorem dX6_glyphOf_75 : decode cX6_glyphOf 75 = .ok (.aload_n 0, 1) := by decide +kernel
theorem dX6_glyphOf_76 : decode cX6_glyphOf 76 = .ok (.iload_n 1, 1) := by decide +kernel
theorem dX6_glyphOf_77 : decode cX6_glyphOf 77 = .ok (.iload_n 2, 1) := by decide +kernel
theorem dX6_glyphOf_78 : decode cX6_glyphOf 78 = .ok (.iconst 0, 1) := by decide +kernel
theorem dX6_glyphOf_79 : decode cX6_glyphOf 79 = .ok (.invokevirtual 129, 3) := by decide +kernel
theorem dX6_glyphOf_82 : decode cX6_glyphOf 82 = .ok (.invokestatic 132, 3) := by decide +kernel
theorem dX6_glyphOf_85 : decode cX6_glyphOf 85 = .ok (.aload_n 0, 1) := by decide +kernel
theorem dX6_glyphOf_86 : decode cX6_glyphOf 86 = .ok (.iload_n 1, 1) := by decide +kernel
theorem dX6_glyphOf_87 : decode cX6_glyphOf 87 = .ok (.iload_n 2, 1) := by decide +kernel
theorem dX6_glyphOf_88 : decode cX6_glyphOf 88 = .ok (.iconst 1, 1) := by decide +kernel
theorem dX6_glyphOf_89 : decode cX6_glyphOf 89 = .ok (.invokevirtual 129, 3) := by decide +kernel
theorem dX6_glyphOf_92 : decode cX6_glyphOf 92 = .ok (.invokestatic 132, 3) := by decide +kernel
theorem dX6_glyphOf_95 : decode cX6_glyphOf 95 = .ok (.iadd, 1) := by decide +kernel
theorem dX6_glyphOf_96 : decode cX6_glyphOf 96 = .ok (.ireturn, 1) := by decide +kernel
theorem dX6_glyphOf_97 : decode cX6_glyphOf 97 = .ok (.aload_n 0, 1) := by decide +kernel
theorem dX6_glyphOf_98 : decode cX6_glyphOf 98 = .ok (.iload_n 1, 1) := by decide +kernel
theorem dX6_glyphOf_99 : decode cX6_glyphOf 99 = .ok (.iload_n 2, 1) := by decide +kernel
theorem dX6_glyphOf_100 : decode cX6_glyphOf 100 = .ok (.invokevirtual 138, 3) := by decide +kernel
theorem dX6_glyphOf_103 : decode cX6_glyphOf 103 = .ok (.ifCond .eq 7, 3) := by decide +kernel
theorem dX6_glyphOf_106 : decode cX6_glyphOf 106 = .ok (.iconst 1, 1) := by decide +kernel
theorem dX6_glyphOf_107 : decode cX6_glyphOf 107 = .ok (.goto 4, 3) := by decide +kernel
theorem dX6_glyphOf_110 : decode cX6_glyphOf 110 = .ok (.iconst 0, 1) := by decide +kernel
theorem dX6_glyphOf_111 : decode cX6_glyphOf 111 = .ok (.ireturn, 1) := by decide +kernel
theorem dX6_glyphOf_112 : decode cX6_glyphOf 112 = .ok (.aload_n 0, 1) := by decide +kernel
theorem dX6_glyphOf_113 : decode cX6_glyphOf 113 = .ok (.getfield 94, 3) := by decide +kernel
theorem dX6_glyphOf_116 : decode cX6_glyphOf 116 = .ok (.ireturn, 1) := by decide +kernel
theorem dX6_glyphOf_117 : decode cX6_glyphOf 117 = .ok (.aload_n 0, 1) := by decide +kernel
theorem dX6_glyphOf_118 : decode cX6_glyphOf 118 = .ok (.iload_n 1, 1) := by decide +kernel
theorem dX6_glyphOf_119 : decode cX6_glyphOf 119 = .ok (.iload_n 2, 1) := by decide +kernel
theorem dX6_glyphOf_120 : decode cX6_glyphOf 120 = .ok (.invokevirtual 110, 3) := by decide +kernel
theorem dX6_glyphOf_123 : decode cX6_glyphOf 123 = .ok (.ireturn, 1) := by decide +kernel

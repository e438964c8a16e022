theorem dX8_offAfter_8 : decode cX8_offAfter 8 = .ok (.getfield 152, 3) := by decide +kernel
theorem dX8_offAfter_11 : decode cX8_offAfter 11 = .ok (.invokevirtual 149, 3) := by decide +kernel
theorem dX8_offAfter_14 : decode cX8_offAfter 14 = .ok (.aload_n 0, 1) := by decide +kernel
theorem dX8_offAfter_15 : decode cX8_offAfter 15 = .ok (.getfield 16, 3) := by decide +kernel
theorem dX8_offAfter_18 : decode cX8_offAfter 18 = .ok (.iload_n 1, 1) := by decide +kernel
theorem dX8_offAfter_19 : decode cX8_offAfter 19 = .ok (.iload_n 2, 1) := by decide +kernel
theorem dX8_offAfter_20 : decode cX8_offAfter 20 = .ok (.iconst 3, 1) := by decide +kernel
theorem dX8_offAfter_21 : decode cX8_offAfter 21 = .ok (.idiv, 1) := by decide +kernel
theorem dX8_offAfter_22 : decode cX8_offAfter 22 = .ok (.iload_n 2, 1) := by decide +kernel
theorem dX8_offAfter_23 : decode cX8_offAfter 23 = .ok (.iconst 3, 1) := by decide +kernel
theorem dX8_offAfter_24 : decode cX8_offAfter 24 = .ok (.irem, 1) := by decide +kernel
theorem dX8_offAfter_25 : decode cX8_offAfter 25 = .ok (.invokevirtual 128, 3) := by decide +kernel
theorem dX8_offAfter_28 : decode cX8_offAfter 28 = .ok (.iadd, 1) := by decide +kernel
theorem dX8_offAfter_29 : decode cX8_offAfter 29 = .ok (.iload_n 1, 1) := by decide +kernel
theorem dX8_offAfter_30 : decode cX8_offAfter 30 = .ok (.isub, 1) := by decide +kernel
theorem dX8_offAfter_31 : decode cX8_offAfter 31 = .ok (.invokestatic 155, 3) := by decide +kernel
theorem dX8_offAfter_34 : decode cX8_offAfter 34 = .ok (.ireturn, 1) := by decide +kernel
theorem dX8_stonesFor_0 : decode cX8_stonesFor 0 = .ok (.iload_n 0, 1) := by decide +kernel
theorem dX8_stonesFor_1 : decode cX8_stonesFor 1 = .ok (.ineg, 1) := by decide +kernel
theorem dX8_stonesFor_2 : decode cX8_stonesFor 2 = .ok (.bipush 10, 2) := by decide +kernel
theorem dX8_stonesFor_4 : decode cX8_stonesFor 4 = .ok (.invokestatic 358, 3) := by decide +kernel
theorem dX8_stonesFor_7 : decode cX8_stonesFor 7 = .ok (.ineg, 1) := by decide +kernel
theorem dX8_stonesFor_8 : decode cX8_stonesFor 8 = .ok (.ireturn, 1) := by decide +kernel
theorem dX9_init_0 : decode cX9_init 0 = .ok (.aload_n 0, 1) := by decide +kernel
theorem dX9_init_1 : decode cX9_init 1 = .ok (.invokespecial 1, 3) := by decide +kernel
theorem dX9_init_4 : decode cX9_init 4 = .ok (.aload_n 0, 1) := by decide +kernel
theorem dX9_init_5 : decode cX9_init 5 = .ok (.iconst 3, 1) := by decide +kernel
theorem dX9_init_6 : decode cX9_init 6 = .ok (.newarray .int, 2) := by decide +kernel
theorem dX9_init_8 : decode cX9_init 8 = .ok (.putfield 7, 3) := by decide +kernel
theorem dX9_init_11 : decode cX9_init 11 = .ok (.aload_n 0, 1) := by decide +kernel
theorem dX9_init_12 : decode cX9_init 12 = .ok (.iconst 3, 1) := by decide +kernel
theorem dX9_init_13 : decode cX9_init 13 = .ok (.newarray .int, 2) := by decide +kernel
theorem dX9_init_15 : decode cX9_init 15 = .ok (.putfield 13, 3) := by decide +kernel
theorem dX9_init_18 : decode cX9_init 18 = .ok (.aload_n 0, 1) := by decide +kernel
theorem dX9_init_19 : decode cX9_init 19 = .ok (.iconst 4, 1) := by decide +kernel
theorem dX9_init_20 : decode cX9_init 20 = .ok (.newarray .int, 2) := by decide +kernel
theorem dX9_init_22 : decode cX9_init 22 = .ok (.putfield 16, 3) := by decide +kernel
theorem dX9_init_25 : decode cX9_init 25 = .ok (.aload_n 0, 1) := by decide +kernel
theorem dX9_init_26 : decode cX9_init 26 = .ok (.bipush 80, 2) := by decide +kernel
theorem dX9_init_28 : decode cX9_init 28 = .ok (.newarray .int, 2) := by decide +kernel
theorem dX9_init_30 : decode cX9_init 30 = .ok (.putfield 19, 3) := by decide +kernel
theorem dX9_init_33 : decode cX9_init 33 = .ok (.aload_n 0, 1) := by decide +kernel
theorem dX9_init_34 : decode cX9_init 34 = .ok (.bipush 11, 2) := by decide +kernel
theorem dX9_init_36 : decode cX9_init 36 = .ok (.newarray .int, 2) := by decide +kernel
theorem dX9_init_38 : decode cX9_init 38 = .ok (.putfield 22, 3) := by decide +kernel
theorem dX9_init_41 : decode cX9_init 41 = .ok (.aload_n 0, 1) := by decide +kernel
theorem dX9_init_42 : decode cX9_init 42 = .ok (.bipush 11, 2) := by decide +kernel
theorem dX9_init_44 : decode cX9_init 44 = .ok (.newarray .int, 2) := by decide +kernel
theorem dX9_init_46 : decode cX9_init 46 = .ok (.putfield 25, 3) := by decide +kernel
theorem dX9_init_49 : decode cX9_init 49 = .ok (.aload_n 0, 1) := by decide +kernel
theorem dX9_init_50 : decode cX9_init 50 = .ok (.bipush 10, 2) := by decide +kernel
theorem dX9_init_52 : decode cX9_init 52 = .ok (.newarray .int, 2) := by decide +kernel
theorem dX9_init_54 : decode cX9_init 54 = .ok (.putfield 28, 3) := by decide +kernel
theorem dX9_init_57 : decode cX9_init 57 = .ok (.aload_n 0, 1) := by decide +kernel
theorem dX9_init_58 : decode cX9_init 58 = .ok (.bipush 10, 2) := by decide +kernel
theorem dX9_init_60 : decode cX9_init 60 = .ok (.newarray .int, 2) := by decide +kernel
theorem dX9_init_62 : decode cX9_init 62 = .ok (.putfield 31, 3) := by decide +kernel
theorem dX9_init_65 : decode cX9_init 65 = .ok (.aload_n 0, 1) := by decide +kernel
theorem dX9_init_66 : decode cX9_init 66 = .ok (.bipush 11, 2) := by decide +kernel
theorem dX9_init_68 : decode cX9_init 68 = .ok (.newarray .int, 2) := by decide +kernel
theorem dX9_init_70 : decode cX9_init 70 = .ok (.putfield 34, 3) := by decide +kernel
theorem dX9_init_73 : decode cX9_init 73 = .ok (.aload_n 0, 1) := by decide +kernel
theorem dX9_init_74 : decode cX9_init 74 = .ok (.bipush 10, 2) := by decide +kernel
theorem dX9_init_76 : decode cX9_init 76 = .ok (.newarray .int, 2) := by decide +kernel
theorem dX9_init_78 : decode cX9_init 78 = .ok (.putfield 37, 3) := by decide +kernel
theorem dX9_init_81 : decode cX9_init 81 = .ok (.aload_n 0, 1) := by decide +kernel
theorem dX9_init_82 : decode cX9_init 82 = .ok (.bipush 9, 2) := by decide +kernel
theorem dX9_init_84 : decode cX9_init 84 = .ok (.newarray .long, 2) := by decide +kernel
theorem dX9_init_86 : decode cX9_init 86 = .ok (.putfield 40, 3) := by decide +kernel
theorem dX9_init_89 : decode cX9_init 89 = .ok (.aload_n 0, 1) := by decide +kernel
theorem dX9_init_90 : decode cX9_init 90 = .ok (.bipush 9, 2) := by decide +kernel
theorem dX9_init_92 : decode cX9_init 92 = .ok (.newarray .long, 2) := by decide +kernel
theorem dX9_init_94 : decode cX9_init 94 = .ok (.putfield 44, 3) := by decide +kernel
theorem dX9_init_97 : decode cX9_init 97 = .ok (.aload_n 0, 1) := by decide +kernel
theorem dX9_init_98 : decode cX9_init 98 = .ok (.bipush 10, 2) := by decide +kernel
theorem dX9_init_100 : decode cX9_init 100 = .ok (.newarray .int, 2) := by decide +kernel
theorem dX9_init_102 : decode cX9_init 102 = .ok (.putfield 47, 3) := by decide +kernel
theorem dX9_init_105 : decode cX9_init 105 = .ok (.aload_n 0, 1) := by decide +kernel
theorem dX9_init_106 : decode cX9_init 106 = .ok (.iconst 4, 1) := by decide +kernel
theorem dX9_init_107 : decode cX9_init 107 = .ok (.newarray .boolean, 2) := by decide +kernel
theorem dX9_init_109 : decode cX9_init 109 = .ok (.putfield 50, 3) := by decide +kernel
theorem dX9_init_112 : decode cX9_init 112 = .ok (.aload_n 0, 1) := by decide +kernel
theorem dX9_init_113 : decode cX9_init 113 = .ok (.iconst 4, 1) := by decide +kernel
theorem dX9_init_114 : decode cX9_init 114 = .ok (.newarray .int, 2) := by decide +kernel
theorem dX9_init_116 : decode cX9_init 116 = .ok (.putfield 54, 3) := by decide +kernel
theorem dX9_init_119 : decode cX9_init 119 = .ok (.aload_n 0, 1) := by decide +kernel
theorem dX9_init_120 : decode cX9_init 120 = .ok (.iconst 4, 1) := by decide +kernel
theorem dX9_init_121 : decode cX9_init 121 = .ok (.newarray .int, 2) := by decide +kernel
theorem dX9_init_123 : decode cX9_init 123 = .ok (.putfield 57, 3) := by decide +kernel
theorem dX9_init_126 : decode cX9_init 126 = .ok (.aload_n 0, 1) := by decide +kernel
theorem dX9_init_127 : decode cX9_init 127 = .ok (.sipush 192, 3) := by decide +kernel
theorem dX9_init_130 : decode cX9_init 130 = .ok (.newarray .int, 2) := by decide +kernel
theorem dX9_init_132 : decode cX9_init 132 = .ok (.putfield 60, 3) := by decide +kernel
theorem dX9_init_135 : decode cX9_init 135 = .ok (.aload_n 0, 1) := by decide +kernel
theorem dX9_init_136 : decode cX9_init 136 = .ok (.bipush 48, 2) := by decide +kernel
theorem dX9_init_138 : decode cX9_init 138 = .ok (.newarray .int, 2) := by decide +kernel
theorem dX9_init_140 : decode cX9_init 140 = .ok (.putfield 63, 3) := by decide +kernel
theorem dX9_init_143 : decode cX9_init 143 = .ok (.aload_n 0, 1) := by decide +kernel
theorem dX9_init_144 : decode cX9_init 144 = .ok (.getfield 7, 3) := by decide +kernel
theorem dX9_init_147 : decode cX9_init 147 = .ok (.iconst 0, 1) := by decide +kernel
theorem dX9_init_148 : decode cX9_init 148 = .ok (.bipush 12, 2) := by decide +kernel
theorem dX9_init_150 : decode cX9_init 150 = .ok (.iastore, 1) := by decide +kernel
theorem dX9_init_151 : decode cX9_init 151 = .ok (.aload_n 0, 1) := by decide +kernel
theorem dX9_init_152 : decode cX9_init 152 = .ok (.getfield 7, 3) := by decide +kernel
theorem dX9_init_155 : decode cX9_init 155 = .ok (.iconst 1, 1) := by decide +kernel
theorem dX9_init_156 : decode cX9_init 156 = .ok (.bipush 45, 2) := by decide +kernel
theorem dX9_init_158 : decode cX9_init 158 = .ok (.iastore, 1) := by decide +kernel
theorem dX9_init_159 : decode cX9_init 159 = .ok (.aload_n 0, 1) := by decide +kernel
theorem dX9_init_160 : decode cX9_init 160 = .ok (.getfield 7, 3) := by decide +kernel
theorem dX9_init_163 : decode cX9_init 163 = .ok (.iconst 2, 1) := by decide +kernel
theorem dX9_init_164 : decode cX9_init 164 = .ok (.bipush 9, 2) := by decide +kernel
theorem dX9_init_166 : decode cX9_init 166 = .ok (.iastore, 1) := by decide +kernel
theorem dX9_init_167 : decode cX9_init 167 = .ok (.iconst 0, 1) := by decide +kernel
theorem dX9_init_168 : decode cX9_init 168 = .ok (.istore_n 1, 1) := by decide +kernel
theorem dX9_init_169 : decode cX9_init 169 = .ok (.iload_n 1, 1) := by decide +kernel
theorem dX9_init_170 : decode cX9_init 170 = .ok (.iconst 3, 1) := by decide +kernel
theorem dX9_init_171 : decode cX9_init 171 = .ok (.if_icmp .ge 16, 3) := by decide +kernel
theorem dX9_init_174 : decode cX9_init 174 = .ok (.aload_n 0, 1) := by decide +kernel
theorem dX9_init_175 : decode cX9_init 175 = .ok (.getfield 13, 3) := by decide +kernel
theorem dX9_init_178 : decode cX9_init 178 = .ok (.iload_n 1, 1) := by decide +kernel
theorem dX9_init_179 : decode cX9_init 179 = .ok (.iconst 1, 1) := by decide +kernel
theorem dX9_init_180 : decode cX9_init 180 = .ok (.iastore, 1) := by decide +kernel
theorem dX9_init_181 : decode cX9_init 181 = .ok (.iinc 1 1, 3) := by decide +kernel
theorem dX9_init_184 : decode cX9_init 184 = .ok (.goto (-15), 3) := by decide +kernel
theorem dX9_init_187 : decode cX9_init 187 = .ok (.iconst 0, 1) := by decide +kernel
theorem dX9_init_188 : decode cX9_init 188 = .ok (.istore_n 1, 1) := by decide +kernel
theorem dX9_init_189 : decode cX9_init 189 = .ok (.iload_n 1, 1) := by decide +kernel
theorem dX9_init_190 : decode cX9_init 190 = .ok (.bipush 10, 2) := by decide +kernel
theorem dX9_init_192 : decode cX9_init 192 = .ok (.if_icmp .ge 16, 3) := by decide +kernel
theorem dX9_init_195 : decode cX9_init 195 = .ok (.aload_n 0, 1) := by decide +kernel
theorem dX9_init_196 : decode cX9_init 196 = .ok (.getfield 31, 3) := by decide +kernel
theorem dX9_init_199 : decode cX9_init 199 = .ok (.iload_n 1, 1) := by decide +kernel
theorem dX9_init_200 : decode cX9_init 200 = .ok (.iconst (-1), 1) := by decide +kernel
theorem dX9_init_201 : decode cX9_init 201 = .ok (.iastore, 1) := by decide +kernel
theorem dX9_init_202 : decode cX9_init 202 = .ok (.iinc 1 1, 3) := by decide +kernel
theorem dX9_init_205 : decode cX9_init 205 = .ok (.goto (-16), 3) := by decide +kernel
theorem dX9_init_208 : decode cX9_init 208 = .ok (.aload_n 0, 1) := by decide +kernel
theorem dX9_init_209 : decode cX9_init 209 = .ok (.getfield 16, 3) := by decide +kernel
theorem dX9_init_212 : decode cX9_init 212 = .ok (.iconst 1, 1) := by decide +kernel
theorem dX9_init_213 : decode cX9_init 213 = .ok (.sipush 200, 3) := by decide +kernel
theorem dX9_init_216 : decode cX9_init 216 = .ok (.iastore, 1) := by decide +kernel
theorem dX9_init_217 : decode cX9_init 217 = .ok (.aload_n 0, 1) := by decide +kernel
theorem dX9_init_218 : decode cX9_init 218 = .ok (.getfield 16, 3) := by decide +kernel
theorem dX9_init_221 : decode cX9_init 221 = .ok (.iconst 2, 1) := by decide +kernel
theorem dX9_init_222 : decode cX9_init 222 = .ok (.iconst 2, 1) := by decide +kernel
theorem dX9_init_223 : decode cX9_init 223 = .ok (.iastore, 1) := by decide +kernel
theorem dX9_init_224 : decode cX9_init 224 = .ok (.aload_n 0, 1) := by decide +kernel
theorem dX9_init_225 : decode cX9_init 225 = .ok (.getfield 16, 3) := by decide +kernel
theorem dX9_init_228 : decode cX9_init 228 = .ok (.iconst 3, 1) := by decide +kernel
theorem dX9_init_229 : decode cX9_init 229 = .ok (.iconst 5, 1) := by decide +kernel
theorem dX9_init_230 : decode cX9_init 230 = .ok (.iastore, 1) := by decide +kernel
theorem dX9_init_231 : decode cX9_init 231 = .ok (.return_, 1) := by decide +kernel
theorem dX9_in_0 : decode cX9_in 0 = .ok (.iload_n 0, 1) := by decide +kernel
theorem dX9_in_1 : decode cX9_in 1 = .ok (.iload_n 1, 1) := by decide +kernel
theorem dX9_in_2 : decode cX9_in 2 = .ok (.if_icmp .lt 12, 3) := by decide +kernel
theorem dX9_in_5 : decode cX9_in 5 = .ok (.iload_n 0, 1) := by decide +kernel
theorem dX9_in_6 : decode cX9_in 6 = .ok (.iload_n 2, 1) := by decide +kernel
theorem dX9_in_7 : decode cX9_in 7 = .ok (.if_icmp .gt 7, 3) := by decide +kernel
theorem dX9_in_10 : decode cX9_in 10 = .ok (.iconst 1, 1) := by decide +kernel
theorem dX9_in_11 : decode cX9_in 11 = .ok (.goto 4, 3) := by decide +kernel
theorem dX9_in_14 : decode cX9_in 14 = .ok (.iconst 0, 1) := by decide +kernel
theorem dX9_in_15 : decode cX9_in 15 = .ok (.ireturn, 1) := by decide +kernel
theorem dX9_amount_0 : decode cX9_amount 0 = .ok (.iload_n 0, 1) := by decide +kernel
theorem dX9_amount_1 : decode cX9_amount 1 = .ok (.ifCond .ge 8, 3) := by decide +kernel
theorem dX9_amount_4 : decode cX9_amount 4 = .ok (.iload_n 0, 1) := by decide +kernel
theorem dX9_amount_5 : decode cX9_amount 5 = .ok (.ineg, 1) := by decide +kernel
theorem dX9_amount_6 : decode cX9_amount 6 = .ok (.goto 4, 3) := by decide +kernel
theorem dX9_amount_9 : decode cX9_amount 9 = .ok (.iload_n 0, 1) := by decide +kernel
theorem dX9_amount_10 : decode cX9_amount 10 = .ok (.ireturn, 1) := by decide +kernel
theorem dX9_no_0 : decode cX9_no 0 = .ok (.ldc2_w 66, 3) := by decide +kernel
theorem dX9_no_3 : decode cX9_no 3 = .ok (.iload_n 0, 1) := by decide +kernel
theorem dX9_no_4 : decode cX9_no 4 = .ok (.i2l, 1) := by decide +kernel
theorem dX9_no_5 : decode cX9_no 5 = .ok (.lsub, 1) := by decide +kernel
theorem dX9_no_6 : decode cX9_no 6 = .ok (.lreturn, 1) := by decide +kernel
theorem dX9_lowest_0 : decode cX9_lowest 0 = .ok (.lload_n 0, 1) := by decide +kernel
theorem dX9_lowest_1 : decode cX9_lowest 1 = .ok (.lstore 5, 2) := by decide +kernel
theorem dX9_lowest_3 : decode cX9_lowest 3 = .ok (.lload_n 2, 1) := by decide +kernel
theorem dX9_lowest_4 : decode cX9_lowest 4 = .ok (.lstore 7, 2) := by decide +kernel
theorem dX9_lowest_6 : decode cX9_lowest 6 = .ok (.lload 7, 2) := by decide +kernel
theorem dX9_lowest_8 : decode cX9_lowest 8 = .ok (.lconst 0, 1) := by decide +kernel
theorem dX9_lowest_9 : decode cX9_lowest 9 = .ok (.lcmp, 1) := by decide +kernel
theorem dX9_lowest_10 : decode cX9_lowest 10 = .ok (.ifCond .eq 21, 3) := by decide +kernel
theorem dX9_lowest_13 : decode cX9_lowest 13 = .ok (.lload 5, 2) := by decide +kernel
theorem dX9_lowest_15 : decode cX9_lowest 15 = .ok (.lload 7, 2) := by decide +kernel
theorem dX9_lowest_17 : decode cX9_lowest 17 = .ok (.lrem, 1) := by decide +kernel
theorem dX9_lowest_18 : decode cX9_lowest 18 = .ok (.lstore 9, 2) := by decide +kernel
theorem dX9_lowest_20 : decode cX9_lowest 20 = .ok (.lload 7, 2) := by decide +kernel
theorem dX9_lowest_22 : decode cX9_lowest 22 = .ok (.lstore 5, 2) := by decide +kernel
theorem dX9_lowest_24 : decode cX9_lowest 24 = .ok (.lload 9, 2) := by decide +kernel
theorem dX9_lowest_26 : decode cX9_lowest 26 = .ok (.lstore 7, 2) := by decide +kernel
theorem dX9_lowest_28 : decode cX9_lowest 28 = .ok (.goto (-22), 3) := by decide +kernel
theorem dX9_lowest_31 : decode cX9_lowest 31 = .ok (.iload 4, 2) := by decide +kernel
theorem dX9_lowest_33 : decode cX9_lowest 33 = .ok (.ifCond .ne 10, 3) := by decide +kernel
theorem dX9_lowest_36 : decode cX9_lowest 36 = .ok (.lload_n 0, 1) := by decide +kernel
theorem dX9_lowest_37 : decode cX9_lowest 37 = .ok (.lload 5, 2) := by decide +kernel
theorem dX9_lowest_39 : decode cX9_lowest 39 = .ok (.ldiv, 1) := by decide +kernel
theorem dX9_lowest_40 : decode cX9_lowest 40 = .ok (.goto 7, 3) := by decide +kernel
theorem dX9_lowest_43 : decode cX9_lowest 43 = .ok (.lload_n 2, 1) := by decide +kernel
theorem dX9_lowest_44 : decode cX9_lowest 44 = .ok (.lload 5, 2) := by decide +kernel
theorem dX9_lowest_46 : decode cX9_lowest 46 = .ok (.ldiv, 1) := by decide +kernel
theorem dX9_lowest_47 : decode cX9_lowest 47 = .ok (.lreturn, 1) := by decide +kernel
theorem dX9_measure_0 : decode cX9_measure 0 = .ok (.iload_n 1, 1) := by decide +kernel
theorem dX9_measure_1 : decode cX9_measure 1 = .ok (.iconst 0, 1) := by decide +kernel
theorem dX9_measure_2 : decode cX9_measure 2 = .ok (.iconst 2, 1) := by decide +kernel
theorem dX9_measure_3 : decode cX9_measure 3 = .ok (.invokestatic 68, 3) := by decide +kernel
theorem dX9_measure_6 : decode cX9_measure 6 = .ok (.ifCond .eq 32, 3) := by decide +kernel
theorem dX9_measure_9 : decode cX9_measure 9 = .ok (.iload_n 2, 1) := by decide +kernel
theorem dX9_measure_10 : decode cX9_measure 10 = .ok (.iconst 0, 1) := by decide +kernel
theorem dX9_measure_11 : decode cX9_measure 11 = .ok (.iconst 1, 1) := by decide +kernel
theorem dX9_measure_12 : decode cX9_measure 12 = .ok (.invokestatic 68, 3) := by decide +kernel
theorem dX9_measure_15 : decode cX9_measure 15 = .ok (.ifCond .eq 23, 3) := by decide +kernel
theorem dX9_measure_18 : decode cX9_measure 18 = .ok (.iload_n 3, 1) := by decide +kernel
theorem dX9_measure_19 : decode cX9_measure 19 = .ok (.iconst 1, 1) := by decide +kernel
theorem dX9_measure_20 : decode cX9_measure 20 = .ok (.iload_n 2, 1) := by decide +kernel
theorem dX9_measure_21 : decode cX9_measure 21 = .ok (.ifCond .ne 9, 3) := by decide +kernel
theorem dX9_measure_24 : decode cX9_measure 24 = .ok (.sipush 999, 3) := by decide +kernel
theorem dX9_measure_27 : decode cX9_measure 27 = .ok (.goto 5, 3) := by decide +kernel
theorem dX9_measure_30 : decode cX9_measure 30 = .ok (.bipush 9, 2) := by decide +kernel
theorem dX9_measure_32 : decode cX9_measure 32 = .ok (.invokestatic 68, 3) := by decide +kernel
theorem dX9_measure_35 : decode cX9_measure 35 = .ok (.ifCond .ne 6, 3) := by decide +kernel
theorem dX9_measure_38 : decode cX9_measure 38 = .ok (.bipush (-2), 2) := by decide +kernel
theorem dX9_measure_40 : decode cX9_measure 40 = .ok (.ireturn, 1) := by decide +kernel
theorem dX9_measure_41 : decode cX9_measure 41 = .ok (.iload_n 2, 1) := by decide +kernel
theorem dX9_measure_42 : decode cX9_measure 42 = .ok (.ifCond .ne 12, 3) := by decide +kernel
theorem dX9_measure_45 : decode cX9_measure 45 = .ok (.aload_n 0, 1) := by decide +kernel
theorem dX9_measure_46 : decode cX9_measure 46 = .ok (.getfield 7, 3) := by decide +kernel
theorem dX9_measure_49 : decode cX9_measure 49 = .ok (.iload_n 1, 1) := by decide +kernel
theorem dX9_measure_50 : decode cX9_measure 50 = .ok (.iaload, 1) := by decide +kernel
theorem dX9_measure_51 : decode cX9_measure 51 = .ok (.goto 9, 3) := by decide +kernel
theorem dX9_measure_54 : decode cX9_measure 54 = .ok (.aload_n 0, 1) := by decide +kernel
theorem dX9_measure_55 : decode cX9_measure 55 = .ok (.getfield 13, 3) := by decide +kernel
theorem dX9_measure_58 : decode cX9_measure 58 = .ok (.iload_n 1, 1) := by decide +kernel
theorem dX9_measure_59 : decode cX9_measure 59 = .ok (.iaload, 1) := by decide +kernel
theorem dX9_measure_60 : decode cX9_measure 60 = .ok (.istore 4, 2) := by decide +kernel
theorem dX9_measure_62 : decode cX9_measure 62 = .ok (.iload_n 2, 1) := by decide +kernel
theorem dX9_measure_63 : decode cX9_measure 63 = .ok (.ifCond .ne 13, 3) := by decide +kernel
theorem dX9_measure_66 : decode cX9_measure 66 = .ok (.aload_n 0, 1) := by decide +kernel
theorem dX9_measure_67 : decode cX9_measure 67 = .ok (.getfield 7, 3) := by decide +kernel
theorem dX9_measure_70 : decode cX9_measure 70 = .ok (.iload_n 1, 1) := by decide +kernel
theorem dX9_measure_71 : decode cX9_measure 71 = .ok (.iload_n 3, 1) := by decide +kernel
theorem dX9_measure_72 : decode cX9_measure 72 = .ok (.iastore, 1) := by decide +kernel
theorem dX9_measure_73 : decode cX9_measure 73 = .ok (.goto 10, 3) := by decide +kernel
theorem dX9_measure_76 : decode cX9_measure 76 = .ok (.aload_n 0, 1) := by decide +kernel
theorem dX9_measure_77 : decode cX9_measure 77 = .ok (.getfield 13, 3) := by decide +kernel
theorem dX9_measure_80 : decode cX9_measure 80 = .ok (.iload_n 1, 1) := by decide +kernel
theorem dX9_measure_81 : decode cX9_measure 81 = .ok (.iload_n 3, 1) := by decide +kernel
theorem dX9_measure_82 : decode cX9_measure 82 = .ok (.iastore, 1) := by decide +kernel
theorem dX9_measure_83 : decode cX9_measure 83 = .ok (.iload 4, 2) := by decide +kernel
theorem dX9_measure_85 : decode cX9_measure 85 = .ok (.ireturn, 1) := by decide +kernel
theorem dX9_type_0 : decode cX9_type 0 = .ok (.iload_n 1, 1) := by decide +kernel
theorem dX9_type_1 : decode cX9_type 1 = .ok (.iconst 0, 1) := by decide +kernel
theorem dX9_type_2 : decode cX9_type 2 = .ok (.sipush 255, 3) := by decide +kernel
theorem dX9_type_5 : decode cX9_type 5 = .ok (.invokestatic 68, 3) := by decide +kernel
theorem dX9_type_8 : decode cX9_type 8 = .ok (.ifCond .ne 6, 3) := by decide +kernel
theorem dX9_type_11 : decode cX9_type 11 = .ok (.bipush (-2), 2) := by decide +kernel
theorem dX9_type_13 : decode cX9_type 13 = .ok (.ireturn, 1) := by decide +kernel
theorem dX9_type_14 : decode cX9_type 14 = .ok (.aload_n 0, 1) := by decide +kernel
theorem dX9_type_15 : decode cX9_type 15 = .ok (.getfield 72, 3) := by decide +kernel
theorem dX9_type_18 : decode cX9_type 18 = .ok (.bipush 80, 2) := by decide +kernel
theorem dX9_type_20 : decode cX9_type 20 = .ok (.if_icmp .ne 6, 3) := by decide +kernel
theorem dX9_type_23 : decode cX9_type 23 = .ok (.bipush (-4), 2) := by decide +kernel
theorem dX9_type_25 : decode cX9_type 25 = .ok (.ireturn, 1) := by decide +kernel
theorem dX9_type_26 : decode cX9_type 26 = .ok (.aload_n 0, 1) := by decide +kernel
theorem dX9_type_27 : decode cX9_type 27 = .ok (.getfield 19, 3) := by decide +kernel
theorem dX9_type_30 : decode cX9_type 30 = .ok (.aload_n 0, 1) := by decide +kernel
theorem dX9_type_31 : decode cX9_type 31 = .ok (.getfield 72, 3) := by decide +kernel
theorem dX9_type_34 : decode cX9_type 34 = .ok (.iload_n 1, 1) := by decide +kernel
theorem dX9_type_35 : decode cX9_type 35 = .ok (.iastore, 1) := by decide +kernel
theorem dX9_type_36 : decode cX9_type 36 = .ok (.aload_n 0, 1) := by decide +kernel
theorem dX9_type_37 : decode cX9_type 37 = .ok (.dup, 1) := by decide +kernel
theorem dX9_type_38 : decode cX9_type 38 = .ok (.getfield 72, 3) := by decide +kernel
theorem dX9_type_41 : decode cX9_type 41 = .ok (.iconst 1, 1) := by decide +kernel
theorem dX9_type_42 : decode cX9_type 42 = .ok (.iadd, 1) := by decide +kernel
theorem dX9_type_43 : decode cX9_type 43 = .ok (.putfield 72, 3) := by decide +kernel
theorem dX9_type_46 : decode cX9_type 46 = .ok (.aload_n 0, 1) := by decide +kernel
theorem dX9_type_47 : decode cX9_type 47 = .ok (.getfield 72, 3) := by decide +kernel
theorem dX9_type_50 : decode cX9_type 50 = .ok (.ireturn, 1) := by decide +kernel
theorem dX9_wipe_0 : decode cX9_wipe 0 = .ok (.aload_n 0, 1) := by decide +kernel
theorem dX9_wipe_1 : decode cX9_wipe 1 = .ok (.getfield 72, 3) := by decide +kernel
theorem dX9_wipe_4 : decode cX9_wipe 4 = .ok (.istore_n 1, 1) := by decide +kernel
theorem dX9_wipe_5 : decode cX9_wipe 5 = .ok (.aload_n 0, 1) := by decide +kernel
theorem dX9_wipe_6 : decode cX9_wipe 6 = .ok (.iconst 0, 1) := by decide +kernel
theorem dX9_wipe_7 : decode cX9_wipe 7 = .ok (.putfield 72, 3) := by decide +kernel
theorem dX9_wipe_10 : decode cX9_wipe 10 = .ok (.iload_n 1, 1) := by decide +kernel
theorem dX9_wipe_11 : decode cX9_wipe 11 = .ok (.ireturn, 1) := by decide +kernel
theorem dX9_byteAt_0 : decode cX9_byteAt 0 = .ok (.iload_n 1, 1) := by decide +kernel
theorem dX9_byteAt_1 : decode cX9_byteAt 1 = .ok (.aload_n 0, 1) := by decide +kernel
theorem dX9_byteAt_2 : decode cX9_byteAt 2 = .ok (.getfield 72, 3) := by decide +kernel
theorem dX9_byteAt_5 : decode cX9_byteAt 5 = .ok (.if_icmp .ge 12, 3) := by decide +kernel
theorem dX9_byteAt_8 : decode cX9_byteAt 8 = .ok (.aload_n 0, 1) := by decide +kernel
theorem dX9_byteAt_9 : decode cX9_byteAt 9 = .ok (.getfield 19, 3) := by decide +kernel
theorem dX9_byteAt_12 : decode cX9_byteAt 12 = .ok (.iload_n 1, 1) := by decide +kernel
theorem dX9_byteAt_13 : decode cX9_byteAt 13 = .ok (.iaload, 1) := by decide +kernel
theorem dX9_byteAt_14 : decode cX9_byteAt 14 = .ok (.goto 4, 3) := by decide +kernel
theorem dX9_byteAt_17 : decode cX9_byteAt 17 = .ok (.iconst (-1), 1) := by decide +kernel
theorem dX9_byteAt_18 : decode cX9_byteAt 18 = .ok (.ireturn, 1) := by decide +kernel
theorem dX9_figures_0 : decode cX9_figures 0 = .ok (.iconst 0, 1) := by decide +kernel
theorem dX9_figures_1 : decode cX9_figures 1 = .ok (.istore_n 2, 1) := by decide +kernel
theorem dX9_figures_2 : decode cX9_figures 2 = .ok (.iload_n 2, 1) := by decide +kernel
theorem dX9_figures_3 : decode cX9_figures 3 = .ok (.iconst 2, 1) := by decide +kernel
theorem dX9_figures_4 : decode cX9_figures 4 = .ok (.if_icmp .ge 26, 3) := by decide +kernel
theorem dX9_figures_7 : decode cX9_figures 7 = .ok (.aload_n 0, 1) := by decide +kernel
theorem dX9_figures_8 : decode cX9_figures 8 = .ok (.iload_n 1, 1) := by decide +kernel
theorem dX9_figures_9 : decode cX9_figures 9 = .ok (.iload_n 2, 1) := by decide +kernel
theorem dX9_figures_10 : decode cX9_figures 10 = .ok (.iadd, 1) := by decide +kernel
theorem dX9_figures_11 : decode cX9_figures 11 = .ok (.invokevirtual 76, 3) := by decide +kernel
theorem dX9_figures_14 : decode cX9_figures 14 = .ok (.bipush 48, 2) := by decide +kernel
theorem dX9_figures_16 : decode cX9_figures 16 = .ok (.bipush 57, 2) := by decide +kernel
theorem dX9_figures_18 : decode cX9_figures 18 = .ok (.invokestatic 68, 3) := by decide +kernel
theorem dX9_figures_21 : decode cX9_figures 21 = .ok (.ifCond .eq 9, 3) := by decide +kernel
theorem dX9_figures_24 : decode cX9_figures 24 = .ok (.iinc 2 1, 3) := by decide +kernel
theorem dX9_figures_27 : decode cX9_figures 27 = .ok (.goto (-25), 3) := by decide +kernel
theorem dX9_figures_30 : decode cX9_figures 30 = .ok (.iload_n 2, 1) := by decide +kernel
theorem dX9_figures_31 : decode cX9_figures 31 = .ok (.ireturn, 1) := by decide +kernel
theorem dX9_numberAt_0 : decode cX9_numberAt 0 = .ok (.aload_n 0, 1) := by decide +kernel
theorem dX9_numberAt_1 : decode cX9_numberAt 1 = .ok (.iload_n 1, 1) := by decide +kernel
theorem dX9_numberAt_2 : decode cX9_numberAt 2 = .ok (.invokevirtual 80, 3) := by decide +kernel
theorem dX9_numberAt_5 : decode cX9_numberAt 5 = .ok (.istore_n 2, 1) := by decide +kernel
theorem dX9_numberAt_6 : decode cX9_numberAt 6 = .ok (.iload_n 2, 1) := by decide +kernel
theorem dX9_numberAt_7 : decode cX9_numberAt 7 = .ok (.ifCond .ne 7, 3) := by decide +kernel
theorem dX9_numberAt_10 : decode cX9_numberAt 10 = .ok (.iconst (-1), 1) := by decide +kernel
theorem dX9_numberAt_11 : decode cX9_numberAt 11 = .ok (.goto 41, 3) := by decide +kernel
theorem dX9_numberAt_14 : decode cX9_numberAt 14 = .ok (.iload_n 2, 1) := by decide +kernel
theorem dX9_numberAt_15 : decode cX9_numberAt 15 = .ok (.iconst 1, 1) := by decide +kernel
theorem dX9_numberAt_16 : decode cX9_numberAt 16 = .ok (.if_icmp .ne 14, 3) := by decide +kernel
theorem dX9_numberAt_19 : decode cX9_numberAt 19 = .ok (.aload_n 0, 1) := by decide +kernel
theorem dX9_numberAt_20 : decode cX9_numberAt 20 = .ok (.iload_n 1, 1) := by decide +kernel
theorem dX9_numberAt_21 : decode cX9_numberAt 21 = .ok (.invokevirtual 76, 3) := by decide +kernel
theorem dX9_numberAt_24 : decode cX9_numberAt 24 = .ok (.bipush 48, 2) := by decide +kernel
theorem dX9_numberAt_26 : decode cX9_numberAt 26 = .ok (.isub, 1) := by decide +kernel
theorem dX9_numberAt_27 : decode cX9_numberAt 27 = .ok (.goto 25, 3) := by decide +kernel
theorem dX9_numberAt_30 : decode cX9_numberAt 30 = .ok (.bipush 10, 2) := by decide +kernel
theorem dX9_numberAt_32 : decode cX9_numberAt 32 = .ok (.aload_n 0, 1) := by decide +kernel
theorem dX9_numberAt_33 : decode cX9_numberAt 33 = .ok (.iload_n 1, 1) := by decide +kernel
theorem dX9_numberAt_34 : decode cX9_numberAt 34 = .ok (.invokevirtual 76, 3) := by decide +kernel
theorem dX9_numberAt_37 : decode cX9_numberAt 37 = .ok (.bipush 48, 2) := by decide +kernel
theorem dX9_numberAt_39 : decode cX9_numberAt 39 = .ok (.isub, 1) := by decide +kernel
theorem dX9_numberAt_40 : decode cX9_numberAt 40 = .ok (.imul, 1) := by decide +kernel
theorem dX9_numberAt_41 : decode cX9_numberAt 41 = .ok (.aload_n 0, 1) := by decide +kernel
theorem dX9_numberAt_42 : decode cX9_numberAt 42 = .ok (.iload_n 1, 1) := by decide +kernel
theorem dX9_numberAt_43 : decode cX9_numberAt 43 = .ok (.iconst 1, 1) := by decide +kernel
theorem dX9_numberAt_44 : decode cX9_numberAt 44 = .ok (.iadd, 1) := by decide +kernel
theorem dX9_numberAt_45 : decode cX9_numberAt 45 = .ok (.invokevirtual 76, 3) := by decide +kernel
theorem dX9_numberAt_48 : decode cX9_numberAt 48 = .ok (.iadd, 1) := by decide +kernel
theorem dX9_numberAt_49 : decode cX9_numberAt 49 = .ok (.bipush 48, 2) := by decide +kernel
theorem dX9_numberAt_51 : decode cX9_numberAt 51 = .ok (.isub, 1) := by decide +kernel
theorem dX9_numberAt_52 : decode cX9_numberAt 52 = .ok (.ireturn, 1) := by decide +kernel
theorem dX9_reads_0 : decode cX9_reads 0 = .ok (.aload_n 0, 1) := by decide +kernel
theorem dX9_reads_1 : decode cX9_reads 1 = .ok (.iconst 0, 1) := by decide +kernel
theorem dX9_reads_2 : decode cX9_reads 2 = .ok (.putfield 83, 3) := by decide +kernel
theorem dX9_reads_5 : decode cX9_reads 5 = .ok (.iconst 0, 1) := by decide +kernel
theorem dX9_reads_6 : decode cX9_reads 6 = .ok (.istore_n 1, 1) := by decide +kernel
theorem dX9_reads_7 : decode cX9_reads 7 = .ok (.iconst 0, 1) := by decide +kernel
theorem dX9_reads_8 : decode cX9_reads 8 = .ok (.istore_n 2, 1) := by decide +kernel
theorem dX9_reads_9 : decode cX9_reads 9 = .ok (.iload_n 2, 1) := by decide +kernel
theorem dX9_reads_10 : decode cX9_reads 10 = .ok (.aload_n 0, 1) := by decide +kernel
theorem dX9_reads_11 : decode cX9_reads 11 = .ok (.getfield 72, 3) := by decide +kernel
theorem dX9_reads_14 : decode cX9_reads 14 = .ok (.if_icmp .lt 7, 3) := by decide +kernel
theorem dX9_reads_17 : decode cX9_reads 17 = .ok (.iload_n 2, 1) := by decide +kernel
theorem dX9_reads_18 : decode cX9_reads 18 = .ok (.ifCond .le 253, 3) := by decide +kernel
theorem dX9_reads_21 : decode cX9_reads 21 = .ok (.iload_n 1, 1) := by decide +kernel
theorem dX9_reads_22 : decode cX9_reads 22 = .ok (.bipush 10, 2) := by decide +kernel
theorem dX9_reads_24 : decode cX9_reads 24 = .ok (.if_icmp .eq 17, 3) := by decide +kernel
theorem dX9_reads_27 : decode cX9_reads 27 = .ok (.aload_n 0, 1) := by decide +kernel
theorem dX9_reads_28 : decode cX9_reads 28 = .ok (.iload_n 2, 1) := by decide +kernel
theorem dX9_reads_29 : decode cX9_reads 29 = .ok (.invokevirtual 86, 3) := by decide +kernel
theorem dX9_reads_32 : decode cX9_reads 32 = .ok (.iconst 1, 1) := by decide +kernel
theorem dX9_reads_33 : decode cX9_reads 33 = .ok (.bipush 99, 2) := by decide +kernel
theorem dX9_reads_35 : decode cX9_reads 35 = .ok (.invokestatic 68, 3) := by decide +kernel
theorem dX9_reads_38 : decode cX9_reads 38 = .ok (.ifCond .ne 5, 3) := by decide +kernel
theorem dX9_reads_41 : decode cX9_reads 41 = .ok (.iload_n 2, 1) := by decide +kernel
theorem dX9_reads_42 : decode cX9_reads 42 = .ok (.ireturn, 1) := by decide +kernel
theorem dX9_reads_43 : decode cX9_reads 43 = .ok (.aload_n 0, 1) := by decide +kernel
theorem dX9_reads_44 : decode cX9_reads 44 = .ok (.iload_n 2, 1) := by decide +kernel
theorem dX9_reads_45 : decode cX9_reads 45 = .ok (.invokevirtual 86, 3) := by decide +kernel
theorem dX9_reads_48 : decode cX9_reads 48 = .ok (.istore_n 3, 1) := by decide +kernel
theorem dX9_reads_49 : decode cX9_reads 49 = .ok (.iload_n 2, 1) := by decide +kernel
theorem dX9_reads_50 : decode cX9_reads 50 = .ok (.aload_n 0, 1) := by decide +kernel
theorem dX9_reads_51 : decode cX9_reads 51 = .ok (.iload_n 2, 1) := by decide +kernel
theorem dX9_reads_52 : decode cX9_reads 52 = .ok (.invokevirtual 80, 3) := by decide +kernel
theorem dX9_reads_55 : decode cX9_reads 55 = .ok (.iadd, 1) := by decide +kernel
theorem dX9_reads_56 : decode cX9_reads 56 = .ok (.istore_n 2, 1) := by decide +kernel
theorem dX9_reads_57 : decode cX9_reads 57 = .ok (.aload_n 0, 1) := by decide +kernel
theorem dX9_reads_58 : decode cX9_reads 58 = .ok (.iload_n 2, 1) := by decide +kernel
theorem dX9_reads_59 : decode cX9_reads 59 = .ok (.invokevirtual 76, 3) := by decide +kernel
theorem dX9_reads_62 : decode cX9_reads 62 = .ok (.istore 4, 2) := by decide +kernel
theorem dX9_reads_64 : decode cX9_reads 64 = .ok (.iload 4, 2) := by decide +kernel
theorem dX9_reads_66 : decode cX9_reads 66 = .ok (.bipush 102, 2) := by decide +kernel
theorem dX9_reads_68 : decode cX9_reads 68 = .ok (.if_icmp .eq 19, 3) := by decide +kernel
theorem dX9_reads_71 : decode cX9_reads 71 = .ok (.iload 4, 2) := by decide +kernel
theorem dX9_reads_73 : decode cX9_reads 73 = .ok (.bipush 101, 2) := by decide +kernel
theorem dX9_reads_75 : decode cX9_reads 75 = .ok (.if_icmp .eq 12, 3) := by decide +kernel
theorem dX9_reads_78 : decode cX9_reads 78 = .ok (.iload 4, 2) := by decide +kernel
theorem dX9_reads_80 : decode cX9_reads 80 = .ok (.bipush 115, 2) := by decide +kernel
theorem dX9_reads_82 : decode cX9_reads 82 = .ok (.if_icmp .eq 5, 3) := by decide +kernel
theorem dX9_reads_85 : decode cX9_reads 85 = .ok (.iload_n 2, 1) := by decide +kernel
theorem dX9_reads_86 : decode cX9_reads 86 = .ok (.ireturn, 1) := by decide +kernel
theorem dX9_reads_87 : decode cX9_reads 87 = .ok (.iload 4, 2) := by decide +kernel
theorem dX9_reads_89 : decode cX9_reads 89 = .ok (.bipush 102, 2) := by decide +kernel
theorem dX9_reads_91 : decode cX9_reads 91 = .ok (.if_icmp .ne 7, 3) := by decide +kernel
theorem dX9_reads_94 : decode cX9_reads 94 = .ok (.iconst 0, 1) := by decide +kernel
theorem dX9_reads_95 : decode cX9_reads 95 = .ok (.goto 15, 3) := by decide +kernel
theorem dX9_reads_98 : decode cX9_reads 98 = .ok (.iload 4, 2) := by decide +kernel
theorem dX9_reads_100 : decode cX9_reads 100 = .ok (.bipush 101, 2) := by decide +kernel
theorem dX9_reads_102 : decode cX9_reads 102 = .ok (.if_icmp .ne 7, 3) := by decide +kernel
theorem dX9_reads_105 : decode cX9_reads 105 = .ok (.iconst 1, 1) := by decide +kernel
theorem dX9_reads_106 : decode cX9_reads 106 = .ok (.goto 4, 3) := by decide +kernel
theorem dX9_reads_109 : decode cX9_reads 109 = .ok (.iconst 2, 1) := by decide +kernel
theorem dX9_reads_110 : decode cX9_reads 110 = .ok (.istore 5, 2) := by decide +kernel
theorem dX9_reads_112 : decode cX9_reads 112 = .ok (.iinc 2 1, 3) := by decide +kernel
theorem dX9_reads_115 : decode cX9_reads 115 = .ok (.iconst 0, 1) := by decide +kernel
theorem dX9_reads_116 : decode cX9_reads 116 = .ok (.istore 6, 2) := by decide +kernel
theorem dX9_reads_118 : decode cX9_reads 118 = .ok (.aload_n 0, 1) := by decide +kernel
theorem dX9_reads_119 : decode cX9_reads 119 = .ok (.iload_n 2, 1) := by decide +kernel
theorem dX9_reads_120 : decode cX9_reads 120 = .ok (.invokevirtual 76, 3) := by decide +kernel
theorem dX9_reads_123 : decode cX9_reads 123 = .ok (.bipush 43, 2) := by decide +kernel
theorem dX9_reads_125 : decode cX9_reads 125 = .ok (.if_icmp .ne 37, 3) := by decide +kernel
theorem dX9_reads_128 : decode cX9_reads 128 = .ok (.iinc 2 1, 3) := by decide +kernel
theorem dX9_reads_131 : decode cX9_reads 131 = .ok (.aload_n 0, 1) := by decide +kernel
theorem dX9_reads_132 : decode cX9_reads 132 = .ok (.iload_n 2, 1) := by decide +kernel
theorem dX9_reads_133 : decode cX9_reads 133 = .ok (.invokevirtual 86, 3) := by decide +kernel
theorem dX9_reads_136 : decode cX9_reads 136 = .ok (.iconst 1, 1) := by decide +kernel
theorem dX9_reads_137 : decode cX9_reads 137 = .ok (.bipush 11, 2) := by decide +kernel
theorem dX9_reads_139 : decode cX9_reads 139 = .ok (.invokestatic 68, 3) := by decide +kernel
theorem dX9_reads_142 : decode cX9_reads 142 = .ok (.ifCond .ne 5, 3) := by decide +kernel
theorem dX9_reads_145 : decode cX9_reads 145 = .ok (.iload_n 2, 1) := by decide +kernel
theorem dX9_reads_146 : decode cX9_reads 146 = .ok (.ireturn, 1) := by decide +kernel
theorem dX9_reads_147 : decode cX9_reads 147 = .ok (.aload_n 0, 1) := by decide +kernel
theorem dX9_reads_148 : decode cX9_reads 148 = .ok (.iload_n 2, 1) := by decide +kernel
theorem dX9_reads_149 : decode cX9_reads 149 = .ok (.invokevirtual 86, 3) := by decide +kernel
theorem dX9_reads_152 : decode cX9_reads 152 = .ok (.istore 6, 2) := by decide +kernel
theorem dX9_reads_154 : decode cX9_reads 154 = .ok (.iload_n 2, 1) := by decide +kernel
theorem dX9_reads_155 : decode cX9_reads 155 = .ok (.aload_n 0, 1) := by decide +kernel
theorem dX9_reads_156 : decode cX9_reads 156 = .ok (.iload_n 2, 1) := by decide +kernel
theorem dX9_reads_157 : decode cX9_reads 157 = .ok (.invokevirtual 80, 3) := by decide +kernel
theorem dX9_reads_160 : decode cX9_reads 160 = .ok (.iadd, 1) := by decide +kernel
theorem dX9_reads_161 : decode cX9_reads 161 = .ok (.istore_n 2, 1) := by decide +kernel
theorem dX9_reads_162 : decode cX9_reads 162 = .ok (.aload_n 0, 1) := by decide +kernel
theorem dX9_reads_163 : decode cX9_reads 163 = .ok (.iload_n 2, 1) := by decide +kernel
theorem dX9_reads_164 : decode cX9_reads 164 = .ok (.invokevirtual 76, 3) := by decide +kernel
theorem dX9_reads_167 : decode cX9_reads 167 = .ok (.bipush 61, 2) := by decide +kernel
theorem dX9_reads_169 : decode cX9_reads 169 = .ok (.if_icmp .eq 5, 3) := by decide +kernel
theorem dX9_reads_172 : decode cX9_reads 172 = .ok (.iload_n 2, 1) := by decide +kernel
theorem dX9_reads_173 : decode cX9_reads 173 = .ok (.ireturn, 1) := by decide +kernel
theorem dX9_reads_174 : decode cX9_reads 174 = .ok (.iinc 2 1, 3) := by decide +kernel
theorem dX9_reads_177 : decode cX9_reads 177 = .ok (.aload_n 0, 1) := by decide +kernel
theorem dX9_reads_178 : decode cX9_reads 178 = .ok (.iload_n 2, 1) := by decide +kernel
theorem dX9_reads_179 : decode cX9_reads 179 = .ok (.invokevirtual 76, 3) := by decide +kernel
theorem dX9_reads_182 : decode cX9_reads 182 = .ok (.bipush 48, 2) := by decide +kernel
theorem dX9_reads_184 : decode cX9_reads 184 = .ok (.bipush 56, 2) := by decide +kernel
theorem dX9_reads_186 : decode cX9_reads 186 = .ok (.invokestatic 68, 3) := by decide +kernel
theorem dX9_reads_189 : decode cX9_reads 189 = .ok (.ifCond .ne 5, 3) := by decide +kernel
theorem dX9_reads_192 : decode cX9_reads 192 = .ok (.iload_n 2, 1) := by decide +kernel
theorem dX9_reads_193 : decode cX9_reads 193 = .ok (.ireturn, 1) := by decide +kernel
theorem dX9_reads_194 : decode cX9_reads 194 = .ok (.aload_n 0, 1) := by decide +kernel
theorem dX9_reads_195 : decode cX9_reads 195 = .ok (.getfield 25, 3) := by decide +kernel
theorem dX9_reads_198 : decode cX9_reads 198 = .ok (.iload_n 1, 1) := by decide +kernel
theorem dX9_reads_199 : decode cX9_reads 199 = .ok (.aload_n 0, 1) := by decide +kernel
theorem dX9_reads_200 : decode cX9_reads 200 = .ok (.iload_n 2, 1) := by decide +kernel
theorem dX9_reads_201 : decode cX9_reads 201 = .ok (.invokevirtual 76, 3) := by decide +kernel
theorem dX9_reads_204 : decode cX9_reads 204 = .ok (.bipush 48, 2) := by decide +kernel
theorem dX9_reads_206 : decode cX9_reads 206 = .ok (.isub, 1) := by decide +kernel
theorem dX9_reads_207 : decode cX9_reads 207 = .ok (.iastore, 1) := by decide +kernel
theorem dX9_reads_208 : decode cX9_reads 208 = .ok (.aload_n 0, 1) := by decide +kernel
theorem dX9_reads_209 : decode cX9_reads 209 = .ok (.getfield 22, 3) := by decide +kernel
theorem dX9_reads_212 : decode cX9_reads 212 = .ok (.iload_n 1, 1) := by decide +kernel
theorem dX9_reads_213 : decode cX9_reads 213 = .ok (.aload_n 0, 1) := by decide +kernel
theorem dX9_reads_214 : decode cX9_reads 214 = .ok (.getfield 7, 3) := by decide +kernel
theorem dX9_reads_217 : decode cX9_reads 217 = .ok (.iload 5, 2) := by decide +kernel
theorem dX9_reads_219 : decode cX9_reads 219 = .ok (.iaload, 1) := by decide +kernel
theorem dX9_reads_220 : decode cX9_reads 220 = .ok (.bipush 12, 2) := by decide +kernel
theorem dX9_reads_222 : decode cX9_reads 222 = .ok (.iload_n 3, 1) := by decide +kernel
theorem dX9_reads_223 : decode cX9_reads 223 = .ok (.imul, 1) := by decide +kernel
theorem dX9_reads_224 : decode cX9_reads 224 = .ok (.iload 6, 2) := by decide +kernel
theorem dX9_reads_226 : decode cX9_reads 226 = .ok (.iadd, 1) := by decide +kernel
theorem dX9_reads_227 : decode cX9_reads 227 = .ok (.imul, 1) := by decide +kernel
theorem dX9_reads_228 : decode cX9_reads 228 = .ok (.bipush 12, 2) := by decide +kernel
theorem dX9_reads_230 : decode cX9_reads 230 = .ok (.idiv, 1) := by decide +kernel
theorem dX9_reads_231 : decode cX9_reads 231 = .ok (.iastore, 1) := by decide +kernel
theorem dX9_reads_232 : decode cX9_reads 232 = .ok (.iinc 1 1, 3) := by decide +kernel
theorem dX9_reads_235 : decode cX9_reads 235 = .ok (.iinc 2 1, 3) := by decide +kernel
theorem dX9_reads_238 : decode cX9_reads 238 = .ok (.iload_n 2, 1) := by decide +kernel
theorem dX9_reads_239 : decode cX9_reads 239 = .ok (.aload_n 0, 1) := by decide +kernel
theorem dX9_reads_240 : decode cX9_reads 240 = .ok (.getfield 72, 3) := by decide +kernel
theorem dX9_reads_243 : decode cX9_reads 243 = .ok (.if_icmp .ne 10, 3) := by decide +kernel
theorem dX9_reads_246 : decode cX9_reads 246 = .ok (.aload_n 0, 1) := by decide +kernel
theorem dX9_reads_247 : decode cX9_reads 247 = .ok (.iload_n 1, 1) := by decide +kernel
theorem dX9_reads_248 : decode cX9_reads 248 = .ok (.putfield 83, 3) := by decide +kernel
theorem dX9_reads_251 : decode cX9_reads 251 = .ok (.iconst (-1), 1) := by decide +kernel
theorem dX9_reads_252 : decode cX9_reads 252 = .ok (.ireturn, 1) := by decide +kernel
theorem dX9_reads_253 : decode cX9_reads 253 = .ok (.aload_n 0, 1) := by decide +kernel
theorem dX9_reads_254 : decode cX9_reads 254 = .ok (.iload_n 2, 1) := by decide +kernel
theorem dX9_reads_255 : decode cX9_reads 255 = .ok (.invokevirtual 76, 3) := by decide +kernel
theorem dX9_reads_258 : decode cX9_reads 258 = .ok (.bipush 59, 2) := by decide +kernel
theorem dX9_reads_260 : decode cX9_reads 260 = .ok (.if_icmp .eq 5, 3) := by decide +kernel
theorem dX9_reads_263 : decode cX9_reads 263 = .ok (.iload_n 2, 1) := by decide +kernel
theorem dX9_reads_264 : decode cX9_reads 264 = .ok (.ireturn, 1) := by decide +kernel
theorem dX9_reads_265 : decode cX9_reads 265 = .ok (.iinc 2 1, 3) := by decide +kernel
theorem dX9_reads_268 : decode cX9_reads 268 = .ok (.goto (-259), 3) := by decide +kernel
theorem dX9_reads_271 : decode cX9_reads 271 = .ok (.iconst (-1), 1) := by decide +kernel
theorem dX9_reads_272 : decode cX9_reads 272 = .ok (.ireturn, 1) := by decide +kernel
theorem dX9_fault_0 : decode cX9_fault 0 = .ok (.aload_n 0, 1) := by decide +kernel
theorem dX9_fault_1 : decode cX9_fault 1 = .ok (.invokevirtual 89, 3) := by decide +kernel
theorem dX9_fault_4 : decode cX9_fault 4 = .ok (.ireturn, 1) := by decide +kernel
theorem dX9_floorsNow_0 : decode cX9_floorsNow 0 = .ok (.aload_n 0, 1) := by decide +kernel
theorem dX9_floorsNow_1 : decode cX9_floorsNow 1 = .ok (.invokevirtual 89, 3) := by decide +kernel
theorem dX9_floorsNow_4 : decode cX9_floorsNow 4 = .ok (.istore_n 1, 1) := by decide +kernel
theorem dX9_floorsNow_5 : decode cX9_floorsNow 5 = .ok (.aload_n 0, 1) := by decide +kernel
theorem dX9_floorsNow_6 : decode cX9_floorsNow 6 = .ok (.getfield 83, 3) := by decide +kernel
theorem dX9_floorsNow_9 : decode cX9_floorsNow 9 = .ok (.ireturn, 1) := by decide +kernel
theorem dX9_cutBy_0 : decode cX9_cutBy 0 = .ok (.aload_n 0, 1) := by decide +kernel
theorem dX9_cutBy_1 : decode cX9_cutBy 1 = .ok (.getfield 7, 3) := by decide +kernel
theorem dX9_cutBy_4 : decode cX9_cutBy 4 = .ok (.iload_n 2, 1) := by decide +kernel
theorem dX9_cutBy_5 : decode cX9_cutBy 5 = .ok (.iconst 3, 1) := by decide +kernel
theorem dX9_cutBy_6 : decode cX9_cutBy 6 = .ok (.idiv, 1) := by decide +kernel
theorem dX9_cutBy_7 : decode cX9_cutBy 7 = .ok (.iaload, 1) := by decide +kernel
theorem dX9_cutBy_8 : decode cX9_cutBy 8 = .ok (.istore_n 3, 1) := by decide +kernel
theorem dX9_cutBy_9 : decode cX9_cutBy 9 = .ok (.aload_n 0, 1) := by decide +kernel
theorem dX9_cutBy_10 : decode cX9_cutBy 10 = .ok (.getfield 13, 3) := by decide +kernel
theorem dX9_cutBy_13 : decode cX9_cutBy 13 = .ok (.iload_n 2, 1) := by decide +kernel
theorem dX9_cutBy_14 : decode cX9_cutBy 14 = .ok (.iconst 3, 1) := by decide +kernel
theorem dX9_cutBy_15 : decode cX9_cutBy 15 = .ok (.idiv, 1) := by decide +kernel
theorem dX9_cutBy_16 : decode cX9_cutBy 16 = .ok (.iaload, 1) := by decide +kernel
theorem dX9_cutBy_17 : decode cX9_cutBy 17 = .ok (.istore 4, 2) := by decide +kernel
theorem dX9_cutBy_19 : decode cX9_cutBy 19 = .ok (.iload_n 1, 1) := by decide +kernel
theorem dX9_cutBy_20 : decode cX9_cutBy 20 = .ok (.iload 4, 2) := by decide +kernel
theorem dX9_cutBy_22 : decode cX9_cutBy 22 = .ok (.imul, 1) := by decide +kernel
theorem dX9_cutBy_23 : decode cX9_cutBy 23 = .ok (.istore 5, 2) := by decide +kernel
theorem dX9_cutBy_25 : decode cX9_cutBy 25 = .ok (.iload_n 2, 1) := by decide +kernel
theorem dX9_cutBy_26 : decode cX9_cutBy 26 = .ok (.iconst 3, 1) := by decide +kernel
theorem dX9_cutBy_27 : decode cX9_cutBy 27 = .ok (.irem, 1) := by decide +kernel
theorem dX9_cutBy_28 : decode cX9_cutBy 28 = .ok (.ifCond .ne 10, 3) := by decide +kernel
theorem dX9_cutBy_31 : decode cX9_cutBy 31 = .ok (.iload 5, 2) := by decide +kernel
theorem dX9_cutBy_33 : decode cX9_cutBy 33 = .ok (.iload_n 3, 1) := by decide +kernel
theorem dX9_cutBy_34 : decode cX9_cutBy 34 = .ok (.idiv, 1) := by decide +kernel
theorem dX9_cutBy_35 : decode cX9_cutBy 35 = .ok (.goto 33, 3) := by decide +kernel
theorem dX9_cutBy_38 : decode cX9_cutBy 38 = .ok (.iload_n 2, 1) := by decide +kernel
theorem dX9_cutBy_39 : decode cX9_cutBy 39 = .ok (.iconst 3, 1) := by decide +kernel
theorem dX9_cutBy_40 : decode cX9_cutBy 40 = .ok (.irem, 1) := by decide +kernel
theorem dX9_cutBy_41 : decode cX9_cutBy 41 = .ok (.iconst 1, 1) := by decide +kernel
theorem dX9_cutBy_42 : decode cX9_cutBy 42 = .ok (.if_icmp .ne 14, 3) := by decide +kernel
theorem dX9_cutBy_45 : decode cX9_cutBy 45 = .ok (.iload 5, 2) := by decide +kernel
theorem dX9_cutBy_47 : decode cX9_cutBy 47 = .ok (.iload_n 3, 1) := by decide +kernel
theorem dX9_cutBy_48 : decode cX9_cutBy 48 = .ok (.iadd, 1) := by decide +kernel
theorem dX9_cutBy_49 : decode cX9_cutBy 49 = .ok (.iconst 1, 1) := by decide +kernel
theorem dX9_cutBy_50 : decode cX9_cutBy 50 = .ok (.isub, 1) := by decide +kernel
theorem dX9_cutBy_51 : decode cX9_cutBy 51 = .ok (.iload_n 3, 1) := by decide +kernel
theorem dX9_cutBy_52 : decode cX9_cutBy 52 = .ok (.idiv, 1) := by decide +kernel
theorem dX9_cutBy_53 : decode cX9_cutBy 53 = .ok (.goto 15, 3) := by decide +kernel
theorem dX9_cutBy_56 : decode cX9_cutBy 56 = .ok (.iconst 2, 1) := by decide +kernel
theorem dX9_cutBy_57 : decode cX9_cutBy 57 = .ok (.iload 5, 2) := by decide +kernel
theorem dX9_cutBy_59 : decode cX9_cutBy 59 = .ok (.imul, 1) := by decide +kernel
theorem dX9_cutBy_60 : decode cX9_cutBy 60 = .ok (.iload_n 3, 1) := by decide +kernel
theorem dX9_cutBy_61 : decode cX9_cutBy 61 = .ok (.iadd, 1) := by decide +kernel
theorem dX9_cutBy_62 : decode cX9_cutBy 62 = .ok (.iconst 1, 1) := by decide +kernel
theorem dX9_cutBy_63 : decode cX9_cutBy 63 = .ok (.isub, 1) := by decide +kernel
theorem dX9_cutBy_64 : decode cX9_cutBy 64 = .ok (.iconst 2, 1) := by decide +kernel
theorem dX9_cutBy_65 : decode cX9_cutBy 65 = .ok (.iload_n 3, 1) := by decide +kernel
theorem dX9_cutBy_66 : decode cX9_cutBy 66 = .ok (.imul, 1) := by decide +kernel
theorem dX9_cutBy_67 : decode cX9_cutBy 67 = .ok (.idiv, 1) := by decide +kernel
theorem dX9_cutBy_68 : decode cX9_cutBy 68 = .ok (.istore 6, 2) := by decide +kernel
theorem dX9_cutBy_70 : decode cX9_cutBy 70 = .ok (.iload 6, 2) := by decide +kernel
theorem dX9_cutBy_72 : decode cX9_cutBy 72 = .ok (.iload_n 3, 1) := by decide +kernel
theorem dX9_cutBy_73 : decode cX9_cutBy 73 = .ok (.imul, 1) := by decide +kernel
theorem dX9_cutBy_74 : decode cX9_cutBy 74 = .ok (.iload 4, 2) := by decide +kernel
theorem dX9_cutBy_76 : decode cX9_cutBy 76 = .ok (.idiv, 1) := by decide +kernel
theorem dX9_cutBy_77 : decode cX9_cutBy 77 = .ok (.ireturn, 1) := by decide +kernel
theorem dX9_builtOf_0 : decode cX9_builtOf 0 = .ok (.aload_n 0, 1) := by decide +kernel
theorem dX9_builtOf_1 : decode cX9_builtOf 1 = .ok (.aload_n 0, 1) := by decide +kernel
theorem dX9_builtOf_2 : decode cX9_builtOf 2 = .ok (.getfield 22, 3) := by decide +kernel
theorem dX9_builtOf_5 : decode cX9_builtOf 5 = .ok (.iload_n 1, 1) := by decide +kernel
theorem dX9_builtOf_6 : decode cX9_builtOf 6 = .ok (.iaload, 1) := by decide +kernel
theorem dX9_builtOf_7 : decode cX9_builtOf 7 = .ok (.aload_n 0, 1) := by decide +kernel
theorem dX9_builtOf_8 : decode cX9_builtOf 8 = .ok (.getfield 25, 3) := by decide +kernel
theorem dX9_builtOf_11 : decode cX9_builtOf 11 = .ok (.iload_n 1, 1) := by decide +kernel
theorem dX9_builtOf_12 : decode cX9_builtOf 12 = .ok (.iaload, 1) := by decide +kernel
theorem dX9_builtOf_13 : decode cX9_builtOf 13 = .ok (.invokevirtual 93, 3) := by decide +kernel
theorem dX9_builtOf_16 : decode cX9_builtOf 16 = .ok (.aload_n 0, 1) := by decide +kernel
theorem dX9_builtOf_17 : decode cX9_builtOf 17 = .ok (.getfield 28, 3) := by decide +kernel
theorem dX9_builtOf_20 : decode cX9_builtOf 20 = .ok (.iload_n 1, 1) := by decide +kernel
theorem dX9_builtOf_21 : decode cX9_builtOf 21 = .ok (.iaload, 1) := by decide +kernel
theorem dX9_builtOf_22 : decode cX9_builtOf 22 = .ok (.iadd, 1) := by decide +kernel
theorem dX9_builtOf_23 : decode cX9_builtOf 23 = .ok (.ireturn, 1) := by decide +kernel
theorem dX9_isFloor_0 : decode cX9_isFloor 0 = .ok (.iload_n 1, 1) := by decide +kernel
theorem dX9_isFloor_1 : decode cX9_isFloor 1 = .ok (.iconst 0, 1) := by decide +kernel
theorem dX9_isFloor_2 : decode cX9_isFloor 2 = .ok (.aload_n 0, 1) := by decide +kernel
theorem dX9_isFloor_3 : decode cX9_isFloor 3 = .ok (.invokevirtual 97, 3) := by decide +kernel
theorem dX9_isFloor_6 : decode cX9_isFloor 6 = .ok (.iconst 1, 1) := by decide +kernel
theorem dX9_isFloor_7 : decode cX9_isFloor 7 = .ok (.isub, 1) := by decide +kernel
theorem dX9_isFloor_8 : decode cX9_isFloor 8 = .ok (.invokestatic 68, 3) := by decide +kernel
theorem dX9_isFloor_11 : decode cX9_isFloor 11 = .ok (.ireturn, 1) := by decide +kernel
theorem dX9_floorOf_0 : decode cX9_floorOf 0 = .ok (.iload_n 2, 1) := by decide +kernel
theorem dX9_floorOf_1 : decode cX9_floorOf 1 = .ok (.ifCond .ne 12, 3) := by decide +kernel
theorem dX9_floorOf_4 : decode cX9_floorOf 4 = .ok (.aload_n 0, 1) := by decide +kernel
theorem dX9_floorOf_5 : decode cX9_floorOf 5 = .ok (.getfield 22, 3) := by decide +kernel
theorem dX9_floorOf_8 : decode cX9_floorOf 8 = .ok (.iload_n 1, 1) := by decide +kernel
theorem dX9_floorOf_9 : decode cX9_floorOf 9 = .ok (.iaload, 1) := by decide +kernel
theorem dX9_floorOf_10 : decode cX9_floorOf 10 = .ok (.goto 68, 3) := by decide +kernel
theorem dX9_floorOf_13 : decode cX9_floorOf 13 = .ok (.iload_n 2, 1) := by decide +kernel
theorem dX9_floorOf_14 : decode cX9_floorOf 14 = .ok (.iconst 1, 1) := by decide +kernel
theorem dX9_floorOf_15 : decode cX9_floorOf 15 = .ok (.if_icmp .ne 11, 3) := by decide +kernel
theorem dX9_floorOf_18 : decode cX9_floorOf 18 = .ok (.aload_n 0, 1) := by decide +kernel
theorem dX9_floorOf_19 : decode cX9_floorOf 19 = .ok (.iload_n 1, 1) := by decide +kernel
theorem dX9_floorOf_20 : decode cX9_floorOf 20 = .ok (.invokevirtual 100, 3) := by decide +kernel
theorem dX9_floorOf_23 : decode cX9_floorOf 23 = .ok (.goto 55, 3) := by decide +kernel
theorem dX9_floorOf_26 : decode cX9_floorOf 26 = .ok (.iload_n 2, 1) := by decide +kernel
theorem dX9_floorOf_27 : decode cX9_floorOf 27 = .ok (.iconst 2, 1) := by decide +kernel
theorem dX9_floorOf_28 : decode cX9_floorOf 28 = .ok (.if_icmp .ne 14, 3) := by decide +kernel
theorem dX9_floorOf_31 : decode cX9_floorOf 31 = .ok (.aload_n 0, 1) := by decide +kernel
theorem dX9_floorOf_32 : decode cX9_floorOf 32 = .ok (.getfield 25, 3) := by decide +kernel
theorem dX9_floorOf_35 : decode cX9_floorOf 35 = .ok (.iload_n 1, 1) := by decide +kernel
theorem dX9_floorOf_36 : decode cX9_floorOf 36 = .ok (.iaload, 1) := by decide +kernel
theorem dX9_floorOf_37 : decode cX9_floorOf 37 = .ok (.iconst 3, 1) := by decide +kernel
theorem dX9_floorOf_38 : decode cX9_floorOf 38 = .ok (.idiv, 1) := by decide +kernel
theorem dX9_floorOf_39 : decode cX9_floorOf 39 = .ok (.goto 39, 3) := by decide +kernel
theorem dX9_floorOf_42 : decode cX9_floorOf 42 = .ok (.iload_n 2, 1) := by decide +kernel
theorem dX9_floorOf_43 : decode cX9_floorOf 43 = .ok (.iconst 3, 1) := by decide +kernel
theorem dX9_floorOf_44 : decode cX9_floorOf 44 = .ok (.if_icmp .ne 14, 3) := by decide +kernel
theorem dX9_floorOf_47 : decode cX9_floorOf 47 = .ok (.aload_n 0, 1) := by decide +kernel
theorem dX9_floorOf_48 : decode cX9_floorOf 48 = .ok (.getfield 25, 3) := by decide +kernel
theorem dX9_floorOf_51 : decode cX9_floorOf 51 = .ok (.iload_n 1, 1) := by decide +kernel
theorem dX9_floorOf_52 : decode cX9_floorOf 52 = .ok (.iaload, 1) := by decide +kernel
theorem dX9_floorOf_53 : decode cX9_floorOf 53 = .ok (.iconst 3, 1) := by decide +kernel
theorem dX9_floorOf_54 : decode cX9_floorOf 54 = .ok (.irem, 1) := by decide +kernel
theorem dX9_floorOf_55 : decode cX9_floorOf 55 = .ok (.goto 23, 3) := by decide +kernel
theorem dX9_floorOf_58 : decode cX9_floorOf 58 = .ok (.iload_n 2, 1) := by decide +kernel
theorem dX9_floorOf_59 : decode cX9_floorOf 59 = .ok (.iconst 4, 1) := by decide +kernel
theorem dX9_floorOf_60 : decode cX9_floorOf 60 = .ok (.if_icmp .ne 12, 3) := by decide +kernel
theorem dX9_floorOf_63 : decode cX9_floorOf 63 = .ok (.aload_n 0, 1) := by decide +kernel
theorem dX9_floorOf_64 : decode cX9_floorOf 64 = .ok (.getfield 31, 3) := by decide +kernel
theorem dX9_floorOf_67 : decode cX9_floorOf 67 = .ok (.iload_n 1, 1) := by decide +kernel
theorem dX9_floorOf_68 : decode cX9_floorOf 68 = .ok (.iaload, 1) := by decide +kernel
theorem dX9_floorOf_69 : decode cX9_floorOf 69 = .ok (.goto 9, 3) := by decide +kernel
theorem dX9_floorOf_72 : decode cX9_floorOf 72 = .ok (.aload_n 0, 1) := by decide +kernel
theorem dX9_floorOf_73 : decode cX9_floorOf 73 = .ok (.getfield 28, 3) := by decide +kernel
theorem dX9_floorOf_76 : decode cX9_floorOf 76 = .ok (.iload_n 1, 1) := by decide +kernel
theorem dX9_floorOf_77 : decode cX9_floorOf 77 = .ok (.iaload, 1) := by decide +kernel
theorem dX9_floorOf_78 : decode cX9_floorOf 78 = .ok (.ireturn, 1) := by decide +kernel
theorem dX9_floor_0 : decode cX9_floor 0 = .ok (.aload_n 0, 1) := by decide +kernel
theorem dX9_floor_1 : decode cX9_floor 1 = .ok (.iload_n 1, 1) := by decide +kernel
theorem dX9_floor_2 : decode cX9_floor 2 = .ok (.invokevirtual 103, 3) := by decide +kernel
theorem dX9_floor_5 : decode cX9_floor 5 = .ok (.ifCond .eq 21, 3) := by decide +kernel
theorem dX9_floor_8 : decode cX9_floor 8 = .ok (.iload_n 2, 1) := by decide +kernel
theorem dX9_floor_9 : decode cX9_floor 9 = .ok (.iconst 0, 1) := by decide +kernel
theorem dX9_floor_10 : decode cX9_floor 10 = .ok (.iconst 5, 1) := by decide +kernel
theorem dX9_floor_11 : decode cX9_floor 11 = .ok (.invokestatic 68, 3) := by decide +kernel
theorem dX9_floor_14 : decode cX9_floor 14 = .ok (.ifCond .eq 12, 3) := by decide +kernel
theorem dX9_floor_17 : decode cX9_floor 17 = .ok (.aload_n 0, 1) := by decide +kernel
theorem dX9_floor_18 : decode cX9_floor 18 = .ok (.iload_n 1, 1) := by decide +kernel
theorem dX9_floor_19 : decode cX9_floor 19 = .ok (.iload_n 2, 1) := by decide +kernel
theorem dX9_floor_20 : decode cX9_floor 20 = .ok (.invokevirtual 107, 3) := by decide +kernel
theorem dX9_floor_23 : decode cX9_floor 23 = .ok (.goto 5, 3) := by decide +kernel
theorem dX9_floor_26 : decode cX9_floor 26 = .ok (.ldc 110, 2) := by decide +kernel
theorem dX9_floor_28 : decode cX9_floor 28 = .ok (.ireturn, 1) := by decide +kernel
theorem dX9_cut_0 : decode cX9_cut 0 = .ok (.iload_n 1, 1) := by decide +kernel
theorem dX9_cut_1 : decode cX9_cut 1 = .ok (.iconst 0, 1) := by decide +kernel
theorem dX9_cut_2 : decode cX9_cut 2 = .ok (.ldc 111, 2) := by decide +kernel
theorem dX9_cut_4 : decode cX9_cut 4 = .ok (.invokestatic 68, 3) := by decide +kernel
theorem dX9_cut_7 : decode cX9_cut 7 = .ok (.ifCond .eq 34, 3) := by decide +kernel
theorem dX9_cut_10 : decode cX9_cut 10 = .ok (.iload_n 2, 1) := by decide +kernel
theorem dX9_cut_11 : decode cX9_cut 11 = .ok (.iconst 0, 1) := by decide +kernel
theorem dX9_cut_12 : decode cX9_cut 12 = .ok (.iconst 2, 1) := by decide +kernel
theorem dX9_cut_13 : decode cX9_cut 13 = .ok (.invokestatic 68, 3) := by decide +kernel
theorem dX9_cut_16 : decode cX9_cut 16 = .ok (.ifCond .eq 25, 3) := by decide +kernel
theorem dX9_cut_19 : decode cX9_cut 19 = .ok (.iload_n 3, 1) := by decide +kernel
theorem dX9_cut_20 : decode cX9_cut 20 = .ok (.iconst 0, 1) := by decide +kernel
theorem dX9_cut_21 : decode cX9_cut 21 = .ok (.iconst 2, 1) := by decide +kernel
theorem dX9_cut_22 : decode cX9_cut 22 = .ok (.invokestatic 68, 3) := by decide +kernel
theorem dX9_cut_25 : decode cX9_cut 25 = .ok (.ifCond .eq 16, 3) := by decide +kernel
theorem dX9_cut_28 : decode cX9_cut 28 = .ok (.aload_n 0, 1) := by decide +kernel
theorem dX9_cut_29 : decode cX9_cut 29 = .ok (.iload_n 1, 1) := by decide +kernel
theorem dX9_cut_30 : decode cX9_cut 30 = .ok (.iconst 3, 1) := by decide +kernel
theorem dX9_cut_31 : decode cX9_cut 31 = .ok (.iload_n 2, 1) := by decide +kernel
theorem dX9_cut_32 : decode cX9_cut 32 = .ok (.imul, 1) := by decide +kernel
theorem dX9_cut_33 : decode cX9_cut 33 = .ok (.iload_n 3, 1) := by decide +kernel
theorem dX9_cut_34 : decode cX9_cut 34 = .ok (.iadd, 1) := by decide +kernel
theorem dX9_cut_35 : decode cX9_cut 35 = .ok (.invokevirtual 93, 3) := by decide +kernel
theorem dX9_cut_38 : decode cX9_cut 38 = .ok (.goto 5, 3) := by decide +kernel
theorem dX9_cut_41 : decode cX9_cut 41 = .ok (.bipush (-2), 2) := by decide +kernel
theorem dX9_cut_43 : decode cX9_cut 43 = .ok (.ireturn, 1) := by decide +kernel
theorem dX9_shim_0 : decode cX9_shim 0 = .ok (.iload_n 1, 1) := by decide +kernel
theorem dX9_shim_1 : decode cX9_shim 1 = .ok (.iconst 0, 1) := by decide +kernel
theorem dX9_shim_2 : decode cX9_shim 2 = .ok (.bipush 9, 2) := by decide +kernel
theorem dX9_shim_4 : decode cX9_shim 4 = .ok (.invokestatic 68, 3) := by decide +kernel
theorem dX9_shim_7 : decode cX9_shim 7 = .ok (.ifCond .eq 14, 3) := by decide +kernel
theorem dX9_shim_10 : decode cX9_shim 10 = .ok (.iload_n 2, 1) := by decide +kernel
theorem dX9_shim_11 : decode cX9_shim 11 = .ok (.bipush (-99), 2) := by decide +kernel
theorem dX9_shim_13 : decode cX9_shim 13 = .ok (.bipush 99, 2) := by decide +kernel
theorem dX9_shim_15 : decode cX9_shim 15 = .ok (.invokestatic 68, 3) := by decide +kernel
theorem dX9_shim_18 : decode cX9_shim 18 = .ok (.ifCond .ne 6, 3) := by decide +kernel
theorem dX9_shim_21 : decode cX9_shim 21 = .ok (.ldc 110, 2) := by decide +kernel
theorem dX9_shim_23 : decode cX9_shim 23 = .ok (.ireturn, 1) := by decide +kernel
theorem dX9_shim_24 : decode cX9_shim 24 = .ok (.aload_n 0, 1) := by decide +kernel
theorem dX9_shim_25 : decode cX9_shim 25 = .ok (.getfield 28, 3) := by decide +kernel
theorem dX9_shim_28 : decode cX9_shim 28 = .ok (.iload_n 1, 1) := by decide +kernel
theorem dX9_shim_29 : decode cX9_shim 29 = .ok (.iaload, 1) := by decide +kernel
theorem dX9_shim_30 : decode cX9_shim 30 = .ok (.istore_n 3, 1) := by decide +kernel
theorem dX9_shim_31 : decode cX9_shim 31 = .ok (.aload_n 0, 1) := by decide +kernel
theorem dX9_shim_32 : decode cX9_shim 32 = .ok (.getfield 28, 3) := by decide +kernel
theorem dX9_shim_35 : decode cX9_shim 35 = .ok (.iload_n 1, 1) := by decide +kernel

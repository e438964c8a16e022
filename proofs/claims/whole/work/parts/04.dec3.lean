theorem dX8_digest_204 : decode cX8_digest 204 = .ok (.lstore_n 1, 1) := by decide +kernel
theorem dX8_digest_205 : decode cX8_digest 205 = .ok (.lload_n 1, 1) := by decide +kernel
theorem dX8_digest_206 : decode cX8_digest 206 = .ok (.aload_n 0, 1) := by decide +kernel
theorem dX8_digest_207 : decode cX8_digest 207 = .ok (.bipush 100, 2) := by decide +kernel
theorem dX8_digest_209 : decode cX8_digest 209 = .ok (.iconst 1, 1) := by decide +kernel
theorem dX8_digest_210 : decode cX8_digest 210 = .ok (.invokevirtual 320, 3) := by decide +kernel
theorem dX8_digest_213 : decode cX8_digest 213 = .ok (.i2l, 1) := by decide +kernel
theorem dX8_digest_214 : decode cX8_digest 214 = .ok (.invokestatic 292, 3) := by decide +kernel
theorem dX8_digest_217 : decode cX8_digest 217 = .ok (.lstore_n 1, 1) := by decide +kernel
theorem dX8_digest_218 : decode cX8_digest 218 = .ok (.lload_n 1, 1) := by decide +kernel
theorem dX8_digest_219 : decode cX8_digest 219 = .ok (.aload_n 0, 1) := by decide +kernel
theorem dX8_digest_220 : decode cX8_digest 220 = .ok (.invokevirtual 323, 3) := by decide +kernel
theorem dX8_digest_223 : decode cX8_digest 223 = .ok (.i2l, 1) := by decide +kernel
theorem dX8_digest_224 : decode cX8_digest 224 = .ok (.invokestatic 292, 3) := by decide +kernel
theorem dX8_digest_227 : decode cX8_digest 227 = .ok (.lstore_n 1, 1) := by decide +kernel
theorem dX8_digest_228 : decode cX8_digest 228 = .ok (.lload_n 1, 1) := by decide +kernel
theorem dX8_digest_229 : decode cX8_digest 229 = .ok (.aload_n 0, 1) := by decide +kernel
theorem dX8_digest_230 : decode cX8_digest 230 = .ok (.iconst 0, 1) := by decide +kernel
theorem dX8_digest_231 : decode cX8_digest 231 = .ok (.invokevirtual 326, 3) := by decide +kernel
theorem dX8_digest_234 : decode cX8_digest 234 = .ok (.i2l, 1) := by decide +kernel
theorem dX8_digest_235 : decode cX8_digest 235 = .ok (.invokestatic 292, 3) := by decide +kernel
theorem dX8_digest_238 : decode cX8_digest 238 = .ok (.lstore_n 1, 1) := by decide +kernel
theorem dX8_digest_239 : decode cX8_digest 239 = .ok (.lload_n 1, 1) := by decide +kernel
theorem dX8_digest_240 : decode cX8_digest 240 = .ok (.aload_n 0, 1) := by decide +kernel
theorem dX8_digest_241 : decode cX8_digest 241 = .ok (.iconst 1, 1) := by decide +kernel
theorem dX8_digest_242 : decode cX8_digest 242 = .ok (.invokevirtual 326, 3) := by decide +kernel
theorem dX8_digest_245 : decode cX8_digest 245 = .ok (.i2l, 1) := by decide +kernel
theorem dX8_digest_246 : decode cX8_digest 246 = .ok (.invokestatic 292, 3) := by decide +kernel
theorem dX8_digest_249 : decode cX8_digest 249 = .ok (.lreturn, 1) := by decide +kernel
theorem dX8_mixFloor_0 : decode cX8_mixFloor 0 = .ok (.lload_n 1, 1) := by decide +kernel
theorem dX8_mixFloor_1 : decode cX8_mixFloor 1 = .ok (.lstore 4, 2) := by decide +kernel
theorem dX8_mixFloor_3 : decode cX8_mixFloor 3 = .ok (.iconst 0, 1) := by decide +kernel
theorem dX8_mixFloor_4 : decode cX8_mixFloor 4 = .ok (.istore 6, 2) := by decide +kernel
theorem dX8_mixFloor_6 : decode cX8_mixFloor 6 = .ok (.iload 6, 2) := by decide +kernel
theorem dX8_mixFloor_8 : decode cX8_mixFloor 8 = .ok (.iconst 5, 1) := by decide +kernel
theorem dX8_mixFloor_9 : decode cX8_mixFloor 9 = .ok (.if_icmp .gt 24, 3) := by decide +kernel
theorem dX8_mixFloor_12 : decode cX8_mixFloor 12 = .ok (.lload 4, 2) := by decide +kernel
theorem dX8_mixFloor_14 : decode cX8_mixFloor 14 = .ok (.aload_n 0, 1) := by decide +kernel
theorem dX8_mixFloor_15 : decode cX8_mixFloor 15 = .ok (.iload_n 3, 1) := by decide +kernel
theorem dX8_mixFloor_16 : decode cX8_mixFloor 16 = .ok (.iload 6, 2) := by decide +kernel
theorem dX8_mixFloor_18 : decode cX8_mixFloor 18 = .ok (.invokevirtual 329, 3) := by decide +kernel
theorem dX8_mixFloor_21 : decode cX8_mixFloor 21 = .ok (.i2l, 1) := by decide +kernel
theorem dX8_mixFloor_22 : decode cX8_mixFloor 22 = .ok (.invokestatic 292, 3) := by decide +kernel
theorem dX8_mixFloor_25 : decode cX8_mixFloor 25 = .ok (.lstore 4, 2) := by decide +kernel
theorem dX8_mixFloor_27 : decode cX8_mixFloor 27 = .ok (.iinc 6 1, 3) := by decide +kernel
theorem dX8_mixFloor_30 : decode cX8_mixFloor 30 = .ok (.goto (-24), 3) := by decide +kernel
theorem dX8_mixFloor_33 : decode cX8_mixFloor 33 = .ok (.lload 4, 2) := by decide +kernel
theorem dX8_mixFloor_35 : decode cX8_mixFloor 35 = .ok (.aload_n 0, 1) := by decide +kernel
theorem dX8_mixFloor_36 : decode cX8_mixFloor 36 = .ok (.iload_n 3, 1) := by decide +kernel
theorem dX8_mixFloor_37 : decode cX8_mixFloor 37 = .ok (.iconst 0, 1) := by decide +kernel
theorem dX8_mixFloor_38 : decode cX8_mixFloor 38 = .ok (.invokevirtual 302, 3) := by decide +kernel
theorem dX8_mixFloor_41 : decode cX8_mixFloor 41 = .ok (.i2l, 1) := by decide +kernel
theorem dX8_mixFloor_42 : decode cX8_mixFloor 42 = .ok (.invokestatic 292, 3) := by decide +kernel
theorem dX8_mixFloor_45 : decode cX8_mixFloor 45 = .ok (.lstore 4, 2) := by decide +kernel
theorem dX8_mixFloor_47 : decode cX8_mixFloor 47 = .ok (.lload 4, 2) := by decide +kernel
theorem dX8_mixFloor_49 : decode cX8_mixFloor 49 = .ok (.aload_n 0, 1) := by decide +kernel
theorem dX8_mixFloor_50 : decode cX8_mixFloor 50 = .ok (.iload_n 3, 1) := by decide +kernel
theorem dX8_mixFloor_51 : decode cX8_mixFloor 51 = .ok (.iconst 2, 1) := by decide +kernel
theorem dX8_mixFloor_52 : decode cX8_mixFloor 52 = .ok (.invokevirtual 302, 3) := by decide +kernel
theorem dX8_mixFloor_55 : decode cX8_mixFloor 55 = .ok (.i2l, 1) := by decide +kernel
theorem dX8_mixFloor_56 : decode cX8_mixFloor 56 = .ok (.invokestatic 292, 3) := by decide +kernel
theorem dX8_mixFloor_59 : decode cX8_mixFloor 59 = .ok (.lstore 4, 2) := by decide +kernel
theorem dX8_mixFloor_61 : decode cX8_mixFloor 61 = .ok (.lload 4, 2) := by decide +kernel
theorem dX8_mixFloor_63 : decode cX8_mixFloor 63 = .ok (.aload_n 0, 1) := by decide +kernel
theorem dX8_mixFloor_64 : decode cX8_mixFloor 64 = .ok (.iload_n 3, 1) := by decide +kernel
theorem dX8_mixFloor_65 : decode cX8_mixFloor 65 = .ok (.invokevirtual 332, 3) := by decide +kernel
theorem dX8_mixFloor_68 : decode cX8_mixFloor 68 = .ok (.i2l, 1) := by decide +kernel
theorem dX8_mixFloor_69 : decode cX8_mixFloor 69 = .ok (.invokestatic 292, 3) := by decide +kernel
theorem dX8_mixFloor_72 : decode cX8_mixFloor 72 = .ok (.lstore 4, 2) := by decide +kernel
theorem dX8_mixFloor_74 : decode cX8_mixFloor 74 = .ok (.iconst 0, 1) := by decide +kernel
theorem dX8_mixFloor_75 : decode cX8_mixFloor 75 = .ok (.istore 6, 2) := by decide +kernel
theorem dX8_mixFloor_77 : decode cX8_mixFloor 77 = .ok (.iload 6, 2) := by decide +kernel
theorem dX8_mixFloor_79 : decode cX8_mixFloor 79 = .ok (.iconst 2, 1) := by decide +kernel
theorem dX8_mixFloor_80 : decode cX8_mixFloor 80 = .ok (.if_icmp .gt 28, 3) := by decide +kernel
theorem dX8_mixFloor_83 : decode cX8_mixFloor 83 = .ok (.lload 4, 2) := by decide +kernel
theorem dX8_mixFloor_85 : decode cX8_mixFloor 85 = .ok (.aload_n 0, 1) := by decide +kernel
theorem dX8_mixFloor_86 : decode cX8_mixFloor 86 = .ok (.iload_n 3, 1) := by decide +kernel
theorem dX8_mixFloor_87 : decode cX8_mixFloor 87 = .ok (.bipush 15, 2) := by decide +kernel
theorem dX8_mixFloor_89 : decode cX8_mixFloor 89 = .ok (.bipush 20, 2) := by decide +kernel
theorem dX8_mixFloor_91 : decode cX8_mixFloor 91 = .ok (.iload 6, 2) := by decide +kernel
theorem dX8_mixFloor_93 : decode cX8_mixFloor 93 = .ok (.invokevirtual 335, 3) := by decide +kernel
theorem dX8_mixFloor_96 : decode cX8_mixFloor 96 = .ok (.i2l, 1) := by decide +kernel
theorem dX8_mixFloor_97 : decode cX8_mixFloor 97 = .ok (.invokestatic 292, 3) := by decide +kernel
theorem dX8_mixFloor_100 : decode cX8_mixFloor 100 = .ok (.lstore 4, 2) := by decide +kernel
theorem dX8_mixFloor_102 : decode cX8_mixFloor 102 = .ok (.iinc 6 1, 3) := by decide +kernel
theorem dX8_mixFloor_105 : decode cX8_mixFloor 105 = .ok (.goto (-28), 3) := by decide +kernel
theorem dX8_mixFloor_108 : decode cX8_mixFloor 108 = .ok (.lload 4, 2) := by decide +kernel
theorem dX8_mixFloor_110 : decode cX8_mixFloor 110 = .ok (.aload_n 0, 1) := by decide +kernel
theorem dX8_mixFloor_111 : decode cX8_mixFloor 111 = .ok (.iload_n 3, 1) := by decide +kernel
theorem dX8_mixFloor_112 : decode cX8_mixFloor 112 = .ok (.iconst 0, 1) := by decide +kernel
theorem dX8_mixFloor_113 : decode cX8_mixFloor 113 = .ok (.iconst 0, 1) := by decide +kernel
theorem dX8_mixFloor_114 : decode cX8_mixFloor 114 = .ok (.invokevirtual 338, 3) := by decide +kernel
theorem dX8_mixFloor_117 : decode cX8_mixFloor 117 = .ok (.invokestatic 292, 3) := by decide +kernel
theorem dX8_mixFloor_120 : decode cX8_mixFloor 120 = .ok (.lstore 4, 2) := by decide +kernel
theorem dX8_mixFloor_122 : decode cX8_mixFloor 122 = .ok (.lload 4, 2) := by decide +kernel
theorem dX8_mixFloor_124 : decode cX8_mixFloor 124 = .ok (.aload_n 0, 1) := by decide +kernel
theorem dX8_mixFloor_125 : decode cX8_mixFloor 125 = .ok (.iload_n 3, 1) := by decide +kernel
theorem dX8_mixFloor_126 : decode cX8_mixFloor 126 = .ok (.iconst 0, 1) := by decide +kernel
theorem dX8_mixFloor_127 : decode cX8_mixFloor 127 = .ok (.iconst 1, 1) := by decide +kernel
theorem dX8_mixFloor_128 : decode cX8_mixFloor 128 = .ok (.invokevirtual 338, 3) := by decide +kernel
theorem dX8_mixFloor_131 : decode cX8_mixFloor 131 = .ok (.invokestatic 292, 3) := by decide +kernel
theorem dX8_mixFloor_134 : decode cX8_mixFloor 134 = .ok (.lstore 4, 2) := by decide +kernel
theorem dX8_mixFloor_136 : decode cX8_mixFloor 136 = .ok (.iconst 0, 1) := by decide +kernel
theorem dX8_mixFloor_137 : decode cX8_mixFloor 137 = .ok (.istore 6, 2) := by decide +kernel
theorem dX8_mixFloor_139 : decode cX8_mixFloor 139 = .ok (.iload 6, 2) := by decide +kernel
theorem dX8_mixFloor_141 : decode cX8_mixFloor 141 = .ok (.iconst 3, 1) := by decide +kernel
theorem dX8_mixFloor_142 : decode cX8_mixFloor 142 = .ok (.if_icmp .ge 24, 3) := by decide +kernel
theorem dX8_mixFloor_145 : decode cX8_mixFloor 145 = .ok (.lload 4, 2) := by decide +kernel
theorem dX8_mixFloor_147 : decode cX8_mixFloor 147 = .ok (.aload_n 0, 1) := by decide +kernel
theorem dX8_mixFloor_148 : decode cX8_mixFloor 148 = .ok (.iload_n 3, 1) := by decide +kernel
theorem dX8_mixFloor_149 : decode cX8_mixFloor 149 = .ok (.iload 6, 2) := by decide +kernel
theorem dX8_mixFloor_151 : decode cX8_mixFloor 151 = .ok (.invokevirtual 341, 3) := by decide +kernel
theorem dX8_mixFloor_154 : decode cX8_mixFloor 154 = .ok (.i2l, 1) := by decide +kernel
theorem dX8_mixFloor_155 : decode cX8_mixFloor 155 = .ok (.invokestatic 292, 3) := by decide +kernel
theorem dX8_mixFloor_158 : decode cX8_mixFloor 158 = .ok (.lstore 4, 2) := by decide +kernel
theorem dX8_mixFloor_160 : decode cX8_mixFloor 160 = .ok (.iinc 6 1, 3) := by decide +kernel
theorem dX8_mixFloor_163 : decode cX8_mixFloor 163 = .ok (.goto (-24), 3) := by decide +kernel
theorem dX8_mixFloor_166 : decode cX8_mixFloor 166 = .ok (.lload 4, 2) := by decide +kernel
theorem dX8_mixFloor_168 : decode cX8_mixFloor 168 = .ok (.lreturn, 1) := by decide +kernel
theorem dX8_mixMaster_0 : decode cX8_mixMaster 0 = .ok (.lload_n 1, 1) := by decide +kernel
theorem dX8_mixMaster_1 : decode cX8_mixMaster 1 = .ok (.aload_n 0, 1) := by decide +kernel
theorem dX8_mixMaster_2 : decode cX8_mixMaster 2 = .ok (.iload_n 3, 1) := by decide +kernel
theorem dX8_mixMaster_3 : decode cX8_mixMaster 3 = .ok (.iconst 0, 1) := by decide +kernel
theorem dX8_mixMaster_4 : decode cX8_mixMaster 4 = .ok (.iconst 0, 1) := by decide +kernel
theorem dX8_mixMaster_5 : decode cX8_mixMaster 5 = .ok (.invokevirtual 344, 3) := by decide +kernel
theorem dX8_mixMaster_8 : decode cX8_mixMaster 8 = .ok (.invokestatic 292, 3) := by decide +kernel
theorem dX8_mixMaster_11 : decode cX8_mixMaster 11 = .ok (.lstore 4, 2) := by decide +kernel
theorem dX8_mixMaster_13 : decode cX8_mixMaster 13 = .ok (.lload 4, 2) := by decide +kernel
theorem dX8_mixMaster_15 : decode cX8_mixMaster 15 = .ok (.aload_n 0, 1) := by decide +kernel
theorem dX8_mixMaster_16 : decode cX8_mixMaster 16 = .ok (.iload_n 3, 1) := by decide +kernel
theorem dX8_mixMaster_17 : decode cX8_mixMaster 17 = .ok (.iconst 0, 1) := by decide +kernel
theorem dX8_mixMaster_18 : decode cX8_mixMaster 18 = .ok (.iconst 1, 1) := by decide +kernel
theorem dX8_mixMaster_19 : decode cX8_mixMaster 19 = .ok (.invokevirtual 344, 3) := by decide +kernel
theorem dX8_mixMaster_22 : decode cX8_mixMaster 22 = .ok (.invokestatic 292, 3) := by decide +kernel
theorem dX8_mixMaster_25 : decode cX8_mixMaster 25 = .ok (.lstore 4, 2) := by decide +kernel
theorem dX8_mixMaster_27 : decode cX8_mixMaster 27 = .ok (.lload 4, 2) := by decide +kernel
theorem dX8_mixMaster_29 : decode cX8_mixMaster 29 = .ok (.aload_n 0, 1) := by decide +kernel
theorem dX8_mixMaster_30 : decode cX8_mixMaster 30 = .ok (.iload_n 3, 1) := by decide +kernel
theorem dX8_mixMaster_31 : decode cX8_mixMaster 31 = .ok (.iconst 1, 1) := by decide +kernel
theorem dX8_mixMaster_32 : decode cX8_mixMaster 32 = .ok (.iconst 0, 1) := by decide +kernel
theorem dX8_mixMaster_33 : decode cX8_mixMaster 33 = .ok (.invokevirtual 344, 3) := by decide +kernel
theorem dX8_mixMaster_36 : decode cX8_mixMaster 36 = .ok (.invokestatic 292, 3) := by decide +kernel
theorem dX8_mixMaster_39 : decode cX8_mixMaster 39 = .ok (.lstore 4, 2) := by decide +kernel
theorem dX8_mixMaster_41 : decode cX8_mixMaster 41 = .ok (.lload 4, 2) := by decide +kernel
theorem dX8_mixMaster_43 : decode cX8_mixMaster 43 = .ok (.aload_n 0, 1) := by decide +kernel
theorem dX8_mixMaster_44 : decode cX8_mixMaster 44 = .ok (.iload_n 3, 1) := by decide +kernel
theorem dX8_mixMaster_45 : decode cX8_mixMaster 45 = .ok (.iconst 1, 1) := by decide +kernel
theorem dX8_mixMaster_46 : decode cX8_mixMaster 46 = .ok (.iconst 1, 1) := by decide +kernel
theorem dX8_mixMaster_47 : decode cX8_mixMaster 47 = .ok (.invokevirtual 344, 3) := by decide +kernel
theorem dX8_mixMaster_50 : decode cX8_mixMaster 50 = .ok (.invokestatic 292, 3) := by decide +kernel
theorem dX8_mixMaster_53 : decode cX8_mixMaster 53 = .ok (.lstore 4, 2) := by decide +kernel
theorem dX8_mixMaster_55 : decode cX8_mixMaster 55 = .ok (.lload 4, 2) := by decide +kernel
theorem dX8_mixMaster_57 : decode cX8_mixMaster 57 = .ok (.aload_n 0, 1) := by decide +kernel
theorem dX8_mixMaster_58 : decode cX8_mixMaster 58 = .ok (.iload_n 3, 1) := by decide +kernel
theorem dX8_mixMaster_59 : decode cX8_mixMaster 59 = .ok (.invokevirtual 347, 3) := by decide +kernel
theorem dX8_mixMaster_62 : decode cX8_mixMaster 62 = .ok (.i2l, 1) := by decide +kernel
theorem dX8_mixMaster_63 : decode cX8_mixMaster 63 = .ok (.invokestatic 292, 3) := by decide +kernel
theorem dX8_mixMaster_66 : decode cX8_mixMaster 66 = .ok (.lreturn, 1) := by decide +kernel
theorem dX8_mix_0 : decode cX8_mix 0 = .ok (.ldc2_w 350, 3) := by decide +kernel
theorem dX8_mix_3 : decode cX8_mix 3 = .ok (.lload_n 0, 1) := by decide +kernel
theorem dX8_mix_4 : decode cX8_mix 4 = .ok (.lmul, 1) := by decide +kernel
theorem dX8_mix_5 : decode cX8_mix 5 = .ok (.lload_n 2, 1) := by decide +kernel
theorem dX8_mix_6 : decode cX8_mix 6 = .ok (.ladd, 1) := by decide +kernel
theorem dX8_mix_7 : decode cX8_mix 7 = .ok (.lreturn, 1) := by decide +kernel
theorem dX8_within_0 : decode cX8_within 0 = .ok (.iload_n 0, 1) := by decide +kernel
theorem dX8_within_1 : decode cX8_within 1 = .ok (.iload_n 1, 1) := by decide +kernel
theorem dX8_within_2 : decode cX8_within 2 = .ok (.if_icmp .lt 12, 3) := by decide +kernel
theorem dX8_within_5 : decode cX8_within 5 = .ok (.iload_n 0, 1) := by decide +kernel
theorem dX8_within_6 : decode cX8_within 6 = .ok (.iload_n 2, 1) := by decide +kernel
theorem dX8_within_7 : decode cX8_within 7 = .ok (.if_icmp .gt 7, 3) := by decide +kernel
theorem dX8_within_10 : decode cX8_within 10 = .ok (.iconst 1, 1) := by decide +kernel
theorem dX8_within_11 : decode cX8_within 11 = .ok (.goto 4, 3) := by decide +kernel
theorem dX8_within_14 : decode cX8_within 14 = .ok (.iconst 0, 1) := by decide +kernel
theorem dX8_within_15 : decode cX8_within 15 = .ok (.ireturn, 1) := by decide +kernel
theorem dX8_isMaster_0 : decode cX8_isMaster 0 = .ok (.iload_n 0, 1) := by decide +kernel
theorem dX8_isMaster_1 : decode cX8_isMaster 1 = .ok (.iconst 0, 1) := by decide +kernel
theorem dX8_isMaster_2 : decode cX8_isMaster 2 = .ok (.iconst 2, 1) := by decide +kernel
theorem dX8_isMaster_3 : decode cX8_isMaster 3 = .ok (.invokestatic 79, 3) := by decide +kernel
theorem dX8_isMaster_6 : decode cX8_isMaster 6 = .ok (.ireturn, 1) := by decide +kernel
theorem dX8_isSheet_0 : decode cX8_isSheet 0 = .ok (.iload_n 0, 1) := by decide +kernel
theorem dX8_isSheet_1 : decode cX8_isSheet 1 = .ok (.iconst 0, 1) := by decide +kernel
theorem dX8_isSheet_2 : decode cX8_isSheet 2 = .ok (.iconst 3, 1) := by decide +kernel
theorem dX8_isSheet_3 : decode cX8_isSheet 3 = .ok (.invokestatic 79, 3) := by decide +kernel
theorem dX8_isSheet_6 : decode cX8_isSheet 6 = .ok (.ireturn, 1) := by decide +kernel
theorem dX8_isForm_0 : decode cX8_isForm 0 = .ok (.iload_n 0, 1) := by decide +kernel
theorem dX8_isForm_1 : decode cX8_isForm 1 = .ok (.iconst 0, 1) := by decide +kernel
theorem dX8_isForm_2 : decode cX8_isForm 2 = .ok (.iconst 2, 1) := by decide +kernel
theorem dX8_isForm_3 : decode cX8_isForm 3 = .ok (.invokestatic 79, 3) := by decide +kernel
theorem dX8_isForm_6 : decode cX8_isForm 6 = .ok (.ireturn, 1) := by decide +kernel
theorem dX8_isHeight_0 : decode cX8_isHeight 0 = .ok (.iload_n 0, 1) := by decide +kernel
theorem dX8_isHeight_1 : decode cX8_isHeight 1 = .ok (.iconst (-1), 1) := by decide +kernel
theorem dX8_isHeight_2 : decode cX8_isHeight 2 = .ok (.if_icmp .eq 13, 3) := by decide +kernel
theorem dX8_isHeight_5 : decode cX8_isHeight 5 = .ok (.iload_n 0, 1) := by decide +kernel
theorem dX8_isHeight_6 : decode cX8_isHeight 6 = .ok (.iconst 1, 1) := by decide +kernel
theorem dX8_isHeight_7 : decode cX8_isHeight 7 = .ok (.ldc 127, 2) := by decide +kernel
theorem dX8_isHeight_9 : decode cX8_isHeight 9 = .ok (.invokestatic 79, 3) := by decide +kernel
theorem dX8_isHeight_12 : decode cX8_isHeight 12 = .ok (.ifCond .eq 7, 3) := by decide +kernel
theorem dX8_isHeight_15 : decode cX8_isHeight 15 = .ok (.iconst 1, 1) := by decide +kernel
theorem dX8_isHeight_16 : decode cX8_isHeight 16 = .ok (.goto 4, 3) := by decide +kernel
theorem dX8_isHeight_19 : decode cX8_isHeight 19 = .ok (.iconst 0, 1) := by decide +kernel
theorem dX8_isHeight_20 : decode cX8_isHeight 20 = .ok (.ireturn, 1) := by decide +kernel
theorem dX8_isSpot_0 : decode cX8_isSpot 0 = .ok (.iload_n 0, 1) := by decide +kernel
theorem dX8_isSpot_1 : decode cX8_isSpot 1 = .ok (.iconst 0, 1) := by decide +kernel
theorem dX8_isSpot_2 : decode cX8_isSpot 2 = .ok (.bipush 9, 2) := by decide +kernel
theorem dX8_isSpot_4 : decode cX8_isSpot 4 = .ok (.invokestatic 79, 3) := by decide +kernel
theorem dX8_isSpot_7 : decode cX8_isSpot 7 = .ok (.ireturn, 1) := by decide +kernel
theorem dX8_isFloor_0 : decode cX8_isFloor 0 = .ok (.iload_n 1, 1) := by decide +kernel
theorem dX8_isFloor_1 : decode cX8_isFloor 1 = .ok (.iconst 0, 1) := by decide +kernel
theorem dX8_isFloor_2 : decode cX8_isFloor 2 = .ok (.aload_n 0, 1) := by decide +kernel
theorem dX8_isFloor_3 : decode cX8_isFloor 3 = .ok (.getfield 23, 3) := by decide +kernel
theorem dX8_isFloor_6 : decode cX8_isFloor 6 = .ok (.getfield 152, 3) := by decide +kernel
theorem dX8_isFloor_9 : decode cX8_isFloor 9 = .ok (.iconst 1, 1) := by decide +kernel
theorem dX8_isFloor_10 : decode cX8_isFloor 10 = .ok (.isub, 1) := by decide +kernel
theorem dX8_isFloor_11 : decode cX8_isFloor 11 = .ok (.invokestatic 79, 3) := by decide +kernel
theorem dX8_isFloor_14 : decode cX8_isFloor 14 = .ok (.ireturn, 1) := by decide +kernel
theorem dX8_isSill_0 : decode cX8_isSill 0 = .ok (.iload_n 1, 1) := by decide +kernel
theorem dX8_isSill_1 : decode cX8_isSill 1 = .ok (.iconst 0, 1) := by decide +kernel
theorem dX8_isSill_2 : decode cX8_isSill 2 = .ok (.aload_n 0, 1) := by decide +kernel
theorem dX8_isSill_3 : decode cX8_isSill 3 = .ok (.getfield 23, 3) := by decide +kernel
theorem dX8_isSill_6 : decode cX8_isSill 6 = .ok (.getfield 152, 3) := by decide +kernel
theorem dX8_isSill_9 : decode cX8_isSill 9 = .ok (.invokestatic 79, 3) := by decide +kernel
theorem dX8_isSill_12 : decode cX8_isSill 12 = .ok (.ireturn, 1) := by decide +kernel
theorem dX8_refuseLong_0 : decode cX8_refuseLong 0 = .ok (.ldc2_w 352, 3) := by decide +kernel
theorem dX8_refuseLong_3 : decode cX8_refuseLong 3 = .ok (.iload_n 0, 1) := by decide +kernel
theorem dX8_refuseLong_4 : decode cX8_refuseLong 4 = .ok (.i2l, 1) := by decide +kernel
theorem dX8_refuseLong_5 : decode cX8_refuseLong 5 = .ok (.lsub, 1) := by decide +kernel
theorem dX8_refuseLong_6 : decode cX8_refuseLong 6 = .ok (.lreturn, 1) := by decide +kernel
theorem dX8_finding_0 : decode cX8_finding 0 = .ok (.aload_n 0, 1) := by decide +kernel
theorem dX8_finding_1 : decode cX8_finding 1 = .ok (.iload_n 1, 1) := by decide +kernel
theorem dX8_finding_2 : decode cX8_finding 2 = .ok (.putfield 284, 3) := by decide +kernel
theorem dX8_finding_5 : decode cX8_finding 5 = .ok (.bipush (-10), 2) := by decide +kernel
theorem dX8_finding_7 : decode cX8_finding 7 = .ok (.iload_n 1, 1) := by decide +kernel
theorem dX8_finding_8 : decode cX8_finding 8 = .ok (.isub, 1) := by decide +kernel
theorem dX8_finding_9 : decode cX8_finding 9 = .ok (.ireturn, 1) := by decide +kernel
theorem dX8_refuseSheet_0 : decode cX8_refuseSheet 0 = .ok (.iload_n 1, 1) := by decide +kernel
theorem dX8_refuseSheet_1 : decode cX8_refuseSheet 1 = .ok (.invokestatic 244, 3) := by decide +kernel
theorem dX8_refuseSheet_4 : decode cX8_refuseSheet 4 = .ok (.ifCond .ne 6, 3) := by decide +kernel
theorem dX8_refuseSheet_7 : decode cX8_refuseSheet 7 = .ok (.bipush (-2), 2) := by decide +kernel
theorem dX8_refuseSheet_9 : decode cX8_refuseSheet 9 = .ok (.ireturn, 1) := by decide +kernel
theorem dX8_refuseSheet_10 : decode cX8_refuseSheet 10 = .ok (.aload_n 0, 1) := by decide +kernel
theorem dX8_refuseSheet_11 : decode cX8_refuseSheet 11 = .ok (.getfield 70, 3) := by decide +kernel
theorem dX8_refuseSheet_14 : decode cX8_refuseSheet 14 = .ok (.iload_n 1, 1) := by decide +kernel
theorem dX8_refuseSheet_15 : decode cX8_refuseSheet 15 = .ok (.aaload, 1) := by decide +kernel
theorem dX8_refuseSheet_16 : decode cX8_refuseSheet 16 = .ok (.invokevirtual 264, 3) := by decide +kernel
theorem dX8_refuseSheet_19 : decode cX8_refuseSheet 19 = .ok (.ifCond .eq 11, 3) := by decide +kernel
theorem dX8_refuseSheet_22 : decode cX8_refuseSheet 22 = .ok (.aload_n 0, 1) := by decide +kernel
theorem dX8_refuseSheet_23 : decode cX8_refuseSheet 23 = .ok (.iconst 1, 1) := by decide +kernel
theorem dX8_refuseSheet_24 : decode cX8_refuseSheet 24 = .ok (.invokevirtual 250, 3) := by decide +kernel
theorem dX8_refuseSheet_27 : decode cX8_refuseSheet 27 = .ok (.goto 4, 3) := by decide +kernel
theorem dX8_refuseSheet_30 : decode cX8_refuseSheet 30 = .ok (.iconst 0, 1) := by decide +kernel
theorem dX8_refuseSheet_31 : decode cX8_refuseSheet 31 = .ok (.ireturn, 1) := by decide +kernel
theorem dX8_refuseItem_0 : decode cX8_refuseItem 0 = .ok (.iload_n 2, 1) := by decide +kernel
theorem dX8_refuseItem_1 : decode cX8_refuseItem 1 = .ok (.invokestatic 247, 3) := by decide +kernel
theorem dX8_refuseItem_4 : decode cX8_refuseItem 4 = .ok (.ifCond .ne 6, 3) := by decide +kernel
theorem dX8_refuseItem_7 : decode cX8_refuseItem 7 = .ok (.bipush (-2), 2) := by decide +kernel
theorem dX8_refuseItem_9 : decode cX8_refuseItem 9 = .ok (.ireturn, 1) := by decide +kernel
theorem dX8_refuseItem_10 : decode cX8_refuseItem 10 = .ok (.aload_n 0, 1) := by decide +kernel
theorem dX8_refuseItem_11 : decode cX8_refuseItem 11 = .ok (.iload_n 1, 1) := by decide +kernel
theorem dX8_refuseItem_12 : decode cX8_refuseItem 12 = .ok (.invokevirtual 181, 3) := by decide +kernel
theorem dX8_refuseItem_15 : decode cX8_refuseItem 15 = .ok (.istore 4, 2) := by decide +kernel
theorem dX8_refuseItem_17 : decode cX8_refuseItem 17 = .ok (.iload 4, 2) := by decide +kernel
theorem dX8_refuseItem_19 : decode cX8_refuseItem 19 = .ok (.ifCond .eq 6, 3) := by decide +kernel
theorem dX8_refuseItem_22 : decode cX8_refuseItem 22 = .ok (.iload 4, 2) := by decide +kernel
theorem dX8_refuseItem_24 : decode cX8_refuseItem 24 = .ok (.ireturn, 1) := by decide +kernel
theorem dX8_refuseItem_25 : decode cX8_refuseItem 25 = .ok (.aload_n 0, 1) := by decide +kernel
theorem dX8_refuseItem_26 : decode cX8_refuseItem 26 = .ok (.getfield 70, 3) := by decide +kernel
theorem dX8_refuseItem_29 : decode cX8_refuseItem 29 = .ok (.iload_n 1, 1) := by decide +kernel
theorem dX8_refuseItem_30 : decode cX8_refuseItem 30 = .ok (.aaload, 1) := by decide +kernel
theorem dX8_refuseItem_31 : decode cX8_refuseItem 31 = .ok (.getfield 268, 3) := by decide +kernel
theorem dX8_refuseItem_34 : decode cX8_refuseItem 34 = .ok (.iload_n 2, 1) := by decide +kernel
theorem dX8_refuseItem_35 : decode cX8_refuseItem 35 = .ok (.if_icmp .eq 9, 3) := by decide +kernel
theorem dX8_refuseItem_38 : decode cX8_refuseItem 38 = .ok (.aload_n 0, 1) := by decide +kernel
theorem dX8_refuseItem_39 : decode cX8_refuseItem 39 = .ok (.iconst 3, 1) := by decide +kernel
theorem dX8_refuseItem_40 : decode cX8_refuseItem 40 = .ok (.invokevirtual 250, 3) := by decide +kernel
theorem dX8_refuseItem_43 : decode cX8_refuseItem 43 = .ok (.ireturn, 1) := by decide +kernel
theorem dX8_refuseItem_44 : decode cX8_refuseItem 44 = .ok (.iload_n 3, 1) := by decide +kernel
theorem dX8_refuseItem_45 : decode cX8_refuseItem 45 = .ok (.iconst 0, 1) := by decide +kernel
theorem dX8_refuseItem_46 : decode cX8_refuseItem 46 = .ok (.aload_n 0, 1) := by decide +kernel
theorem dX8_refuseItem_47 : decode cX8_refuseItem 47 = .ok (.getfield 70, 3) := by decide +kernel
theorem dX8_refuseItem_50 : decode cX8_refuseItem 50 = .ok (.iload_n 1, 1) := by decide +kernel
theorem dX8_refuseItem_51 : decode cX8_refuseItem 51 = .ok (.aaload, 1) := by decide +kernel
theorem dX8_refuseItem_52 : decode cX8_refuseItem 52 = .ok (.getfield 184, 3) := by decide +kernel
theorem dX8_refuseItem_55 : decode cX8_refuseItem 55 = .ok (.iconst 1, 1) := by decide +kernel
theorem dX8_refuseItem_56 : decode cX8_refuseItem 56 = .ok (.isub, 1) := by decide +kernel
theorem dX8_refuseItem_57 : decode cX8_refuseItem 57 = .ok (.invokestatic 79, 3) := by decide +kernel
theorem dX8_refuseItem_60 : decode cX8_refuseItem 60 = .ok (.ifCond .eq 7, 3) := by decide +kernel
theorem dX8_refuseItem_63 : decode cX8_refuseItem 63 = .ok (.iconst 0, 1) := by decide +kernel
theorem dX8_refuseItem_64 : decode cX8_refuseItem 64 = .ok (.goto 8, 3) := by decide +kernel
theorem dX8_refuseItem_67 : decode cX8_refuseItem 67 = .ok (.aload_n 0, 1) := by decide +kernel
theorem dX8_refuseItem_68 : decode cX8_refuseItem 68 = .ok (.iconst 2, 1) := by decide +kernel
theorem dX8_refuseItem_69 : decode cX8_refuseItem 69 = .ok (.invokevirtual 250, 3) := by decide +kernel
theorem dX8_refuseItem_72 : decode cX8_refuseItem 72 = .ok (.ireturn, 1) := by decide +kernel
theorem dX8_inLowestTerms_0 : decode cX8_inLowestTerms 0 = .ok (.lload_n 2, 1) := by decide +kernel
theorem dX8_inLowestTerms_1 : decode cX8_inLowestTerms 1 = .ok (.lstore 5, 2) := by decide +kernel
theorem dX8_inLowestTerms_3 : decode cX8_inLowestTerms 3 = .ok (.lload_n 0, 1) := by decide +kernel
theorem dX8_inLowestTerms_4 : decode cX8_inLowestTerms 4 = .ok (.lstore 7, 2) := by decide +kernel
theorem dX8_inLowestTerms_6 : decode cX8_inLowestTerms 6 = .ok (.iconst 0, 1) := by decide +kernel
theorem dX8_inLowestTerms_7 : decode cX8_inLowestTerms 7 = .ok (.istore 9, 2) := by decide +kernel
theorem dX8_inLowestTerms_9 : decode cX8_inLowestTerms 9 = .ok (.iload 9, 2) := by decide +kernel
theorem dX8_inLowestTerms_11 : decode cX8_inLowestTerms 11 = .ok (.sipush 128, 3) := by decide +kernel
theorem dX8_inLowestTerms_14 : decode cX8_inLowestTerms 14 = .ok (.if_icmp .ge 31, 3) := by decide +kernel
theorem dX8_inLowestTerms_17 : decode cX8_inLowestTerms 17 = .ok (.lload 7, 2) := by decide +kernel
theorem dX8_inLowestTerms_19 : decode cX8_inLowestTerms 19 = .ok (.lconst 0, 1) := by decide +kernel
theorem dX8_inLowestTerms_20 : decode cX8_inLowestTerms 20 = .ok (.lcmp, 1) := by decide +kernel
theorem dX8_inLowestTerms_21 : decode cX8_inLowestTerms 21 = .ok (.ifCond .eq 24, 3) := by decide +kernel
theorem dX8_inLowestTerms_24 : decode cX8_inLowestTerms 24 = .ok (.lload 5, 2) := by decide +kernel
theorem dX8_inLowestTerms_26 : decode cX8_inLowestTerms 26 = .ok (.lload 7, 2) := by decide +kernel
theorem dX8_inLowestTerms_28 : decode cX8_inLowestTerms 28 = .ok (.lrem, 1) := by decide +kernel
theorem dX8_inLowestTerms_29 : decode cX8_inLowestTerms 29 = .ok (.lstore 10, 2) := by decide +kernel
theorem dX8_inLowestTerms_31 : decode cX8_inLowestTerms 31 = .ok (.lload 7, 2) := by decide +kernel
theorem dX8_inLowestTerms_33 : decode cX8_inLowestTerms 33 = .ok (.lstore 5, 2) := by decide +kernel
theorem dX8_inLowestTerms_35 : decode cX8_inLowestTerms 35 = .ok (.lload 10, 2) := by decide +kernel
theorem dX8_inLowestTerms_37 : decode cX8_inLowestTerms 37 = .ok (.lstore 7, 2) := by decide +kernel
theorem dX8_inLowestTerms_39 : decode cX8_inLowestTerms 39 = .ok (.iinc 9 1, 3) := by decide +kernel
theorem dX8_inLowestTerms_42 : decode cX8_inLowestTerms 42 = .ok (.goto (-33), 3) := by decide +kernel
theorem dX8_inLowestTerms_45 : decode cX8_inLowestTerms 45 = .ok (.iload 4, 2) := by decide +kernel
theorem dX8_inLowestTerms_47 : decode cX8_inLowestTerms 47 = .ok (.ifCond .ne 7, 3) := by decide +kernel
theorem dX8_inLowestTerms_50 : decode cX8_inLowestTerms 50 = .ok (.lload_n 0, 1) := by decide +kernel
theorem dX8_inLowestTerms_51 : decode cX8_inLowestTerms 51 = .ok (.goto 4, 3) := by decide +kernel
theorem dX8_inLowestTerms_54 : decode cX8_inLowestTerms 54 = .ok (.lload_n 2, 1) := by decide +kernel
theorem dX8_inLowestTerms_55 : decode cX8_inLowestTerms 55 = .ok (.lstore 9, 2) := by decide +kernel
theorem dX8_inLowestTerms_57 : decode cX8_inLowestTerms 57 = .ok (.lload 5, 2) := by decide +kernel
theorem dX8_inLowestTerms_59 : decode cX8_inLowestTerms 59 = .ok (.lconst 0, 1) := by decide +kernel
theorem dX8_inLowestTerms_60 : decode cX8_inLowestTerms 60 = .ok (.lcmp, 1) := by decide +kernel
theorem dX8_inLowestTerms_61 : decode cX8_inLowestTerms 61 = .ok (.ifCond .ne 8, 3) := by decide +kernel
theorem dX8_inLowestTerms_64 : decode cX8_inLowestTerms 64 = .ok (.lload 9, 2) := by decide +kernel
theorem dX8_inLowestTerms_66 : decode cX8_inLowestTerms 66 = .ok (.goto 8, 3) := by decide +kernel
theorem dX8_inLowestTerms_69 : decode cX8_inLowestTerms 69 = .ok (.lload 9, 2) := by decide +kernel
theorem dX8_inLowestTerms_71 : decode cX8_inLowestTerms 71 = .ok (.lload 5, 2) := by decide +kernel
theorem dX8_inLowestTerms_73 : decode cX8_inLowestTerms 73 = .ok (.ldiv, 1) := by decide +kernel
theorem dX8_inLowestTerms_74 : decode cX8_inLowestTerms 74 = .ok (.lreturn, 1) := by decide +kernel
theorem dX8_evenSteps_0 : decode cX8_evenSteps 0 = .ok (.iconst 1, 1) := by decide +kernel
theorem dX8_evenSteps_1 : decode cX8_evenSteps 1 = .ok (.istore_n 3, 1) := by decide +kernel
theorem dX8_evenSteps_2 : decode cX8_evenSteps 2 = .ok (.iload_n 0, 1) := by decide +kernel
theorem dX8_evenSteps_3 : decode cX8_evenSteps 3 = .ok (.iload_n 0, 1) := by decide +kernel
theorem dX8_evenSteps_4 : decode cX8_evenSteps 4 = .ok (.iconst 1, 1) := by decide +kernel
theorem dX8_evenSteps_5 : decode cX8_evenSteps 5 = .ok (.iload_n 1, 1) := by decide +kernel
theorem dX8_evenSteps_6 : decode cX8_evenSteps 6 = .ok (.iload_n 2, 1) := by decide +kernel
theorem dX8_evenSteps_7 : decode cX8_evenSteps 7 = .ok (.invokestatic 163, 3) := by decide +kernel
theorem dX8_evenSteps_10 : decode cX8_evenSteps 10 = .ok (.isub, 1) := by decide +kernel
theorem dX8_evenSteps_11 : decode cX8_evenSteps 11 = .ok (.invokestatic 155, 3) := by decide +kernel
theorem dX8_evenSteps_14 : decode cX8_evenSteps 14 = .ok (.istore 4, 2) := by decide +kernel
theorem dX8_evenSteps_16 : decode cX8_evenSteps 16 = .ok (.iconst 2, 1) := by decide +kernel
theorem dX8_evenSteps_17 : decode cX8_evenSteps 17 = .ok (.istore 5, 2) := by decide +kernel
theorem dX8_evenSteps_19 : decode cX8_evenSteps 19 = .ok (.iload 5, 2) := by decide +kernel
theorem dX8_evenSteps_21 : decode cX8_evenSteps 21 = .ok (.bipush 40, 2) := by decide +kernel
theorem dX8_evenSteps_23 : decode cX8_evenSteps 23 = .ok (.if_icmp .gt 41, 3) := by decide +kernel
theorem dX8_evenSteps_26 : decode cX8_evenSteps 26 = .ok (.iload_n 0, 1) := by decide +kernel
theorem dX8_evenSteps_27 : decode cX8_evenSteps 27 = .ok (.iload 5, 2) := by decide +kernel
theorem dX8_evenSteps_29 : decode cX8_evenSteps 29 = .ok (.iload_n 0, 1) := by decide +kernel
theorem dX8_evenSteps_30 : decode cX8_evenSteps 30 = .ok (.iload 5, 2) := by decide +kernel
theorem dX8_evenSteps_32 : decode cX8_evenSteps 32 = .ok (.iload_n 1, 1) := by decide +kernel
theorem dX8_evenSteps_33 : decode cX8_evenSteps 33 = .ok (.iload_n 2, 1) := by decide +kernel
theorem dX8_evenSteps_34 : decode cX8_evenSteps 34 = .ok (.invokestatic 163, 3) := by decide +kernel
theorem dX8_evenSteps_37 : decode cX8_evenSteps 37 = .ok (.imul, 1) := by decide +kernel
theorem dX8_evenSteps_38 : decode cX8_evenSteps 38 = .ok (.isub, 1) := by decide +kernel
theorem dX8_evenSteps_39 : decode cX8_evenSteps 39 = .ok (.invokestatic 155, 3) := by decide +kernel
theorem dX8_evenSteps_42 : decode cX8_evenSteps 42 = .ok (.istore 6, 2) := by decide +kernel
theorem dX8_evenSteps_44 : decode cX8_evenSteps 44 = .ok (.iload 6, 2) := by decide +kernel
theorem dX8_evenSteps_46 : decode cX8_evenSteps 46 = .ok (.iload 4, 2) := by decide +kernel
theorem dX8_evenSteps_48 : decode cX8_evenSteps 48 = .ok (.if_icmp .ge 10, 3) := by decide +kernel
theorem dX8_evenSteps_51 : decode cX8_evenSteps 51 = .ok (.iload 6, 2) := by decide +kernel
theorem dX8_evenSteps_53 : decode cX8_evenSteps 53 = .ok (.istore 4, 2) := by decide +kernel
theorem dX8_evenSteps_55 : decode cX8_evenSteps 55 = .ok (.iload 5, 2) := by decide +kernel
theorem dX8_evenSteps_57 : decode cX8_evenSteps 57 = .ok (.istore_n 3, 1) := by decide +kernel
theorem dX8_evenSteps_58 : decode cX8_evenSteps 58 = .ok (.iinc 5 1, 3) := by decide +kernel
theorem dX8_evenSteps_61 : decode cX8_evenSteps 61 = .ok (.goto (-42), 3) := by decide +kernel
theorem dX8_evenSteps_64 : decode cX8_evenSteps 64 = .ok (.iload_n 3, 1) := by decide +kernel
theorem dX8_evenSteps_65 : decode cX8_evenSteps 65 = .ok (.ireturn, 1) := by decide +kernel
theorem dX8_evenHeight_0 : decode cX8_evenHeight 0 = .ok (.iload_n 1, 1) := by decide +kernel
theorem dX8_evenHeight_1 : decode cX8_evenHeight 1 = .ok (.ifCond .gt 7, 3) := by decide +kernel
theorem dX8_evenHeight_4 : decode cX8_evenHeight 4 = .ok (.iload_n 2, 1) := by decide +kernel
theorem dX8_evenHeight_5 : decode cX8_evenHeight 5 = .ok (.goto 16, 3) := by decide +kernel
theorem dX8_evenHeight_8 : decode cX8_evenHeight 8 = .ok (.iload_n 2, 1) := by decide +kernel
theorem dX8_evenHeight_9 : decode cX8_evenHeight 9 = .ok (.iload_n 3, 1) := by decide +kernel
theorem dX8_evenHeight_10 : decode cX8_evenHeight 10 = .ok (.iload_n 0, 1) := by decide +kernel
theorem dX8_evenHeight_11 : decode cX8_evenHeight 11 = .ok (.iload_n 1, 1) := by decide +kernel
theorem dX8_evenHeight_12 : decode cX8_evenHeight 12 = .ok (.invokestatic 354, 3) := by decide +kernel
theorem dX8_evenHeight_15 : decode cX8_evenHeight 15 = .ok (.invokestatic 187, 3) := by decide +kernel
theorem dX8_evenHeight_18 : decode cX8_evenHeight 18 = .ok (.invokestatic 211, 3) := by decide +kernel
theorem dX8_evenHeight_21 : decode cX8_evenHeight 21 = .ok (.istore 4, 2) := by decide +kernel
theorem dX8_evenHeight_23 : decode cX8_evenHeight 23 = .ok (.iload_n 3, 1) := by decide +kernel
theorem dX8_evenHeight_24 : decode cX8_evenHeight 24 = .ok (.iload 4, 2) := by decide +kernel
theorem dX8_evenHeight_26 : decode cX8_evenHeight 26 = .ok (.iconst 1, 1) := by decide +kernel
theorem dX8_evenHeight_27 : decode cX8_evenHeight 27 = .ok (.iadd, 1) := by decide +kernel
theorem dX8_evenHeight_28 : decode cX8_evenHeight 28 = .ok (.invokestatic 187, 3) := by decide +kernel
theorem dX8_evenHeight_31 : decode cX8_evenHeight 31 = .ok (.istore 5, 2) := by decide +kernel
theorem dX8_evenHeight_33 : decode cX8_evenHeight 33 = .ok (.iload_n 0, 1) := by decide +kernel
theorem dX8_evenHeight_34 : decode cX8_evenHeight 34 = .ok (.iload_n 1, 1) := by decide +kernel
theorem dX8_evenHeight_35 : decode cX8_evenHeight 35 = .ok (.iload 5, 2) := by decide +kernel
theorem dX8_evenHeight_37 : decode cX8_evenHeight 37 = .ok (.imul, 1) := by decide +kernel
theorem dX8_evenHeight_38 : decode cX8_evenHeight 38 = .ok (.isub, 1) := by decide +kernel
theorem dX8_evenHeight_39 : decode cX8_evenHeight 39 = .ok (.invokestatic 155, 3) := by decide +kernel
theorem dX8_evenHeight_42 : decode cX8_evenHeight 42 = .ok (.iload_n 0, 1) := by decide +kernel
theorem dX8_evenHeight_43 : decode cX8_evenHeight 43 = .ok (.iload_n 1, 1) := by decide +kernel
theorem dX8_evenHeight_44 : decode cX8_evenHeight 44 = .ok (.iload 4, 2) := by decide +kernel
theorem dX8_evenHeight_46 : decode cX8_evenHeight 46 = .ok (.imul, 1) := by decide +kernel
theorem dX8_evenHeight_47 : decode cX8_evenHeight 47 = .ok (.isub, 1) := by decide +kernel
theorem dX8_evenHeight_48 : decode cX8_evenHeight 48 = .ok (.invokestatic 155, 3) := by decide +kernel
theorem dX8_evenHeight_51 : decode cX8_evenHeight 51 = .ok (.if_icmp .ge 8, 3) := by decide +kernel
theorem dX8_evenHeight_54 : decode cX8_evenHeight 54 = .ok (.iload 5, 2) := by decide +kernel
theorem dX8_evenHeight_56 : decode cX8_evenHeight 56 = .ok (.goto 5, 3) := by decide +kernel
theorem dX8_evenHeight_59 : decode cX8_evenHeight 59 = .ok (.iload 4, 2) := by decide +kernel
theorem dX8_evenHeight_61 : decode cX8_evenHeight 61 = .ok (.ireturn, 1) := by decide +kernel
theorem dX8_offAfter_0 : decode cX8_offAfter 0 = .ok (.aload_n 0, 1) := by decide +kernel
theorem dX8_offAfter_1 : decode cX8_offAfter 1 = .ok (.getfield 32, 3) := by decide +kernel
theorem dX8_offAfter_4 : decode cX8_offAfter 4 = .ok (.aload_n 0, 1) := by decide +kernel
theorem dX8_offAfter_5 : decode cX8_offAfter 5 = .ok (.getfield 23, 3) := by decide +kernel
theorem dX8_offAfter_8 : decode cX8_offAfter 8 = .ok (.getfield 152, 3) := by decide +kernel
theorem dX8_offAfter_11 : decode cX8_offAfter 11 = .ok (.invokevirtual 149, 3) := by decide +kernel
theorem dX8_offAfter_14 : decode cX8_offAfter 14 = .ok (.aload_n 0, 1) := by decide +kernel
theorem dX8_offAfter_15 : decode cX8_offAfter 15 = .ok (.getfield 16, 3) := by decide +kernel
theorem dX8_offAfter_18 : decode cX8_offAfter 18 = .ok (.iload_n 1, 1) := by decide +kernel
theorem dX8_offAfter_19 : decode cX8_offAfter 19 = .ok (.iload_n 2, 1) := by decide +kernel
theorem dX8_offAfter_20 : decode cX8_offAfter 20 = .ok (.iconst 3, 1) := by decide +kernel
theorem dX8_offAfter_21 : decode cX8_offAfter 21 = .ok (.idiv, 1) := by decide +kernel
theorem dX8_offAfter_22 : decode cX8_offAfter 22 = .ok (.iload_n 2, 1) := by decide +kernel
theorem dX8_offAfter_23 : decode cX8_offAfter 23 = .ok (.iconst 3, 1) := by decide +kernel
theorem dX8_offAfter_24 : decode cX8_offAfter 24 = .ok (.irem, 1) := by decide +kernel
theorem dX8_offAfter_25 : decode cX8_offAfter 25 = .ok (.invokevirtual 128, 3) := by decide +kernel
theorem dX8_offAfter_28 : decode cX8_offAfter 28 = .ok (.iadd, 1) := by decide +kernel
theorem dX8_offAfter_29 : decode cX8_offAfter 29 = .ok (.iload_n 1, 1) := by decide +kernel
theorem dX8_offAfter_30 : decode cX8_offAfter 30 = .ok (.isub, 1) := by decide +kernel
theorem dX8_offAfter_31 : decode cX8_offAfter 31 = .ok (.invokestatic 155, 3) := by decide +kernel
theorem dX8_offAfter_34 : decode cX8_offAfter 34 = .ok (.ireturn, 1) := by decide +kernel
theorem dX8_stonesFor_0 : decode cX8_stonesFor 0 = .ok (.iload_n 0, 1) := by decide +kernel
theorem dX8_stonesFor_1 : decode cX8_stonesFor 1 = .ok (.ineg, 1) := by decide +kernel
theorem dX8_stonesFor_2 : decode cX8_stonesFor 2 = .ok (.bipush 10, 2) := by decide +kernel
theorem dX8_stonesFor_4 : decode cX8_stonesFor 4 = .ok (.invokestatic 354, 3) := by decide +kernel
theorem dX8_stonesFor_7 : decode cX8_stonesFor 7 = .ok (.ineg, 1) := by decide +kernel
theorem dX8_stonesFor_8 : decode cX8_stonesFor 8 = .ok (.ireturn, 1) := by decide +kernel
theorem dX9_init_0 : decode cX9_init 0 = .ok (.aload_n 0, 1) := by decide +kernel
theorem dX9_init_1 : decode cX9_init 1 = .ok (.invokespecial 1, 3) := by decide +kernel
theorem dX9_init_4 : decode cX9_init 4 = .ok (.aload_n 0, 1) := by decide +kernel
theorem dX9_init_5 : decode cX9_init 5 = .ok (.iconst 3, 1) := by decide +kernel
theorem dX9_init_6 : decode cX9_init 6 = .ok (.newarray .int, 2) := by decide +kernel
theorem dX9_init_8 : decode cX9_init 8 = .ok (.putfield 7, 3) := by decide +kernel
theorem dX9_init_11 : decode cX9_init 11 = .ok (.aload_n 0, 1) := by decide +kernel
theorem dX9_init_12 : decode cX9_init 12 = .ok (.iconst 3, 1) := by decide +kernel
theorem dX9_init_13 : decode cX9_init 13 = .ok (.newarray .int, 2) := by decide +kernel
theorem dX9_init_15 : decode cX9_init 15 = .ok (.putfield 13, 3) := by decide +kernel
theorem dX9_init_18 : decode cX9_init 18 = .ok (.aload_n 0, 1) := by decide +kernel
theorem dX9_init_19 : decode cX9_init 19 = .ok (.iconst 4, 1) := by decide +kernel
theorem dX9_init_20 : decode cX9_init 20 = .ok (.newarray .int, 2) := by decide +kernel
theorem dX9_init_22 : decode cX9_init 22 = .ok (.putfield 16, 3) := by decide +kernel
theorem dX9_init_25 : decode cX9_init 25 = .ok (.aload_n 0, 1) := by decide +kernel
theorem dX9_init_26 : decode cX9_init 26 = .ok (.bipush 80, 2) := by decide +kernel
theorem dX9_init_28 : decode cX9_init 28 = .ok (.newarray .int, 2) := by decide +kernel
theorem dX9_init_30 : decode cX9_init 30 = .ok (.putfield 19, 3) := by decide +kernel
theorem dX9_init_33 : decode cX9_init 33 = .ok (.aload_n 0, 1) := by decide +kernel
theorem dX9_init_34 : decode cX9_init 34 = .ok (.bipush 11, 2) := by decide +kernel
theorem dX9_init_36 : decode cX9_init 36 = .ok (.newarray .int, 2) := by decide +kernel
theorem dX9_init_38 : decode cX9_init 38 = .ok (.putfield 22, 3) := by decide +kernel
theorem dX9_init_41 : decode cX9_init 41 = .ok (.aload_n 0, 1) := by decide +kernel
theorem dX9_init_42 : decode cX9_init 42 = .ok (.bipush 11, 2) := by decide +kernel
theorem dX9_init_44 : decode cX9_init 44 = .ok (.newarray .int, 2) := by decide +kernel
theorem dX9_init_46 : decode cX9_init 46 = .ok (.putfield 25, 3) := by decide +kernel
theorem dX9_init_49 : decode cX9_init 49 = .ok (.aload_n 0, 1) := by decide +kernel
theorem dX9_init_50 : decode cX9_init 50 = .ok (.bipush 10, 2) := by decide +kernel
theorem dX9_init_52 : decode cX9_init 52 = .ok (.newarray .int, 2) := by decide +kernel
theorem dX9_init_54 : decode cX9_init 54 = .ok (.putfield 28, 3) := by decide +kernel
theorem dX9_init_57 : decode cX9_init 57 = .ok (.aload_n 0, 1) := by decide +kernel
theorem dX9_init_58 : decode cX9_init 58 = .ok (.bipush 10, 2) := by decide +kernel
theorem dX9_init_60 : decode cX9_init 60 = .ok (.newarray .int, 2) := by decide +kernel
theorem dX9_init_62 : decode cX9_init 62 = .ok (.putfield 31, 3) := by decide +kernel
theorem dX9_init_65 : decode cX9_init 65 = .ok (.aload_n 0, 1) := by decide +kernel
theorem dX9_init_66 : decode cX9_init 66 = .ok (.bipush 11, 2) := by decide +kernel
theorem dX9_init_68 : decode cX9_init 68 = .ok (.newarray .int, 2) := by decide +kernel
theorem dX9_init_70 : decode cX9_init 70 = .ok (.putfield 34, 3) := by decide +kernel
theorem dX9_init_73 : decode cX9_init 73 = .ok (.aload_n 0, 1) := by decide +kernel
theorem dX9_init_74 : decode cX9_init 74 = .ok (.bipush 10, 2) := by decide +kernel
theorem dX9_init_76 : decode cX9_init 76 = .ok (.newarray .int, 2) := by decide +kernel
theorem dX9_init_78 : decode cX9_init 78 = .ok (.putfield 37, 3) := by decide +kernel
theorem dX9_init_81 : decode cX9_init 81 = .ok (.aload_n 0, 1) := by decide +kernel
theorem dX9_init_82 : decode cX9_init 82 = .ok (.bipush 9, 2) := by decide +kernel
theorem dX9_init_84 : decode cX9_init 84 = .ok (.newarray .long, 2) := by decide +kernel
theorem dX9_init_86 : decode cX9_init 86 = .ok (.putfield 40, 3) := by decide +kernel
theorem dX9_init_89 : decode cX9_init 89 = .ok (.aload_n 0, 1) := by decide +kernel
theorem dX9_init_90 : decode cX9_init 90 = .ok (.bipush 9, 2) := by decide +kernel
theorem dX9_init_92 : decode cX9_init 92 = .ok (.newarray .long, 2) := by decide +kernel
theorem dX9_init_94 : decode cX9_init 94 = .ok (.putfield 44, 3) := by decide +kernel
theorem dX9_init_97 : decode cX9_init 97 = .ok (.aload_n 0, 1) := by decide +kernel
theorem dX9_init_98 : decode cX9_init 98 = .ok (.bipush 10, 2) := by decide +kernel
theorem dX9_init_100 : decode cX9_init 100 = .ok (.newarray .int, 2) := by decide +kernel
theorem dX9_init_102 : decode cX9_init 102 = .ok (.putfield 47, 3) := by decide +kernel
theorem dX9_init_105 : decode cX9_init 105 = .ok (.aload_n 0, 1) := by decide +kernel
theorem dX9_init_106 : decode cX9_init 106 = .ok (.iconst 4, 1) := by decide +kernel
theorem dX9_init_107 : decode cX9_init 107 = .ok (.newarray .boolean, 2) := by decide +kernel
theorem dX9_init_109 : decode cX9_init 109 = .ok (.putfield 50, 3) := by decide +kernel
theorem dX9_init_112 : decode cX9_init 112 = .ok (.aload_n 0, 1) := by decide +kernel
theorem dX9_init_113 : decode cX9_init 113 = .ok (.iconst 4, 1) := by decide +kernel
theorem dX9_init_114 : decode cX9_init 114 = .ok (.newarray .int, 2) := by decide +kernel
theorem dX9_init_116 : decode cX9_init 116 = .ok (.putfield 54, 3) := by decide +kernel
theorem dX9_init_119 : decode cX9_init 119 = .ok (.aload_n 0, 1) := by decide +kernel
theorem dX9_init_120 : decode cX9_init 120 = .ok (.iconst 4, 1) := by decide +kernel
theorem dX9_init_121 : decode cX9_init 121 = .ok (.newarray .int, 2) := by decide +kernel
theorem dX9_init_123 : decode cX9_init 123 = .ok (.putfield 57, 3) := by decide +kernel
theorem dX9_init_126 : decode cX9_init 126 = .ok (.aload_n 0, 1) := by decide +kernel
theorem dX9_init_127 : decode cX9_init 127 = .ok (.sipush 192, 3) := by decide +kernel
theorem dX9_init_130 : decode cX9_init 130 = .ok (.newarray .int, 2) := by decide +kernel
theorem dX9_init_132 : decode cX9_init 132 = .ok (.putfield 60, 3) := by decide +kernel
theorem dX9_init_135 : decode cX9_init 135 = .ok (.aload_n 0, 1) := by decide +kernel
theorem dX9_init_136 : decode cX9_init 136 = .ok (.bipush 48, 2) := by decide +kernel
theorem dX9_init_138 : decode cX9_init 138 = .ok (.newarray .int, 2) := by decide +kernel
theorem dX9_init_140 : decode cX9_init 140 = .ok (.putfield 63, 3) := by decide +kernel
theorem dX9_init_143 : decode cX9_init 143 = .ok (.aload_n 0, 1) := by decide +kernel
theorem dX9_init_144 : decode cX9_init 144 = .ok (.getfield 7, 3) := by decide +kernel
theorem dX9_init_147 : decode cX9_init 147 = .ok (.iconst 0, 1) := by decide +kernel
theorem dX9_init_148 : decode cX9_init 148 = .ok (.bipush 12, 2) := by decide +kernel
theorem dX9_init_150 : decode cX9_init 150 = .ok (.iastore, 1) := by decide +kernel
theorem dX9_init_151 : decode cX9_init 151 = .ok (.aload_n 0, 1) := by decide +kernel
theorem dX9_init_152 : decode cX9_init 152 = .ok (.getfield 7, 3) := by decide +kernel
theorem dX9_init_155 : decode cX9_init 155 = .ok (.iconst 1, 1) := by decide +kernel
theorem dX9_init_156 : decode cX9_init 156 = .ok (.bipush 45, 2) := by decide +kernel
theorem dX9_init_158 : decode cX9_init 158 = .ok (.iastore, 1) := by decide +kernel
theorem dX9_init_159 : decode cX9_init 159 = .ok (.aload_n 0, 1) := by decide +kernel
theorem dX9_init_160 : decode cX9_init 160 = .ok (.getfield 7, 3) := by decide +kernel
theorem dX9_init_163 : decode cX9_init 163 = .ok (.iconst 2, 1) := by decide +kernel
theorem dX9_init_164 : decode cX9_init 164 = .ok (.bipush 9, 2) := by decide +kernel
theorem dX9_init_166 : decode cX9_init 166 = .ok (.iastore, 1) := by decide +kernel
theorem dX9_init_167 : decode cX9_init 167 = .ok (.iconst 0, 1) := by decide +kernel
theorem dX9_init_168 : decode cX9_init 168 = .ok (.istore_n 1, 1) := by decide +kernel
theorem dX9_init_169 : decode cX9_init 169 = .ok (.iload_n 1, 1) := by decide +kernel
theorem dX9_init_170 : decode cX9_init 170 = .ok (.iconst 3, 1) := by decide +kernel
theorem dX9_init_171 : decode cX9_init 171 = .ok (.if_icmp .ge 16, 3) := by decide +kernel
theorem dX9_init_174 : decode cX9_init 174 = .ok (.aload_n 0, 1) := by decide +kernel
theorem dX9_init_175 : decode cX9_init 175 = .ok (.getfield 13, 3) := by decide +kernel
theorem dX9_init_178 : decode cX9_init 178 = .ok (.iload_n 1, 1) := by decide +kernel
theorem dX9_init_179 : decode cX9_init 179 = .ok (.iconst 1, 1) := by decide +kernel
theorem dX9_init_180 : decode cX9_init 180 = .ok (.iastore, 1) := by decide +kernel
theorem dX9_init_181 : decode cX9_init 181 = .ok (.iinc 1 1, 3) := by decide +kernel
theorem dX9_init_184 : decode cX9_init 184 = .ok (.goto (-15), 3) := by decide +kernel
theorem dX9_init_187 : decode cX9_init 187 = .ok (.iconst 0, 1) := by decide +kernel
theorem dX9_init_188 : decode cX9_init 188 = .ok (.istore_n 1, 1) := by decide +kernel
theorem dX9_init_189 : decode cX9_init 189 = .ok (.iload_n 1, 1) := by decide +kernel
theorem dX9_init_190 : decode cX9_init 190 = .ok (.bipush 10, 2) := by decide +kernel
theorem dX9_init_192 : decode cX9_init 192 = .ok (.if_icmp .ge 16, 3) := by decide +kernel
theorem dX9_init_195 : decode cX9_init 195 = .ok (.aload_n 0, 1) := by decide +kernel
theorem dX9_init_196 : decode cX9_init 196 = .ok (.getfield 31, 3) := by decide +kernel
theorem dX9_init_199 : decode cX9_init 199 = .ok (.iload_n 1, 1) := by decide +kernel
theorem dX9_init_200 : decode cX9_init 200 = .ok (.iconst (-1), 1) := by decide +kernel
theorem dX9_init_201 : decode cX9_init 201 = .ok (.iastore, 1) := by decide +kernel
theorem dX9_init_202 : decode cX9_init 202 = .ok (.iinc 1 1, 3) := by decide +kernel
theorem dX9_init_205 : decode cX9_init 205 = .ok (.goto (-16), 3) := by decide +kernel
theorem dX9_init_208 : decode cX9_init 208 = .ok (.aload_n 0, 1) := by decide +kernel
theorem dX9_init_209 : decode cX9_init 209 = .ok (.getfield 16, 3) := by decide +kernel
theorem dX9_init_212 : decode cX9_init 212 = .ok (.iconst 1, 1) := by decide +kernel
theorem dX9_init_213 : decode cX9_init 213 = .ok (.sipush 200, 3) := by decide +kernel
theorem dX9_init_216 : decode cX9_init 216 = .ok (.iastore, 1) := by decide +kernel
theorem dX9_init_217 : decode cX9_init 217 = .ok (.aload_n 0, 1) := by decide +kernel
theorem dX9_init_218 : decode cX9_init 218 = .ok (.getfield 16, 3) := by decide +kernel
theorem dX9_init_221 : decode cX9_init 221 = .ok (.iconst 2, 1) := by decide +kernel
theorem dX9_init_222 : decode cX9_init 222 = .ok (.iconst 2, 1) := by decide +kernel
theorem dX9_init_223 : decode cX9_init 223 = .ok (.iastore, 1) := by decide +kernel
theorem dX9_init_224 : decode cX9_init 224 = .ok (.aload_n 0, 1) := by decide +kernel
theorem dX9_init_225 : decode cX9_init 225 = .ok (.getfield 16, 3) := by decide +kernel
theorem dX9_init_228 : decode cX9_init 228 = .ok (.iconst 3, 1) := by decide +kernel
theorem dX9_init_229 : decode cX9_init 229 = .ok (.iconst 5, 1) := by decide +kernel
theorem dX9_init_230 : decode cX9_init 230 = .ok (.iastore, 1) := by decide +kernel
theorem dX9_init_231 : decode cX9_init 231 = .ok (.return_, 1) := by decide +kernel
theorem dX9_in_0 : decode cX9_in 0 = .ok (.iload_n 0, 1) := by decide +kernel
theorem dX9_in_1 : decode cX9_in 1 = .ok (.iload_n 1, 1) := by decide +kernel
theorem dX9_in_2 : decode cX9_in 2 = .ok (.if_icmp .lt 12, 3) := by decide +kernel
theorem dX9_in_5 : decode cX9_in 5 = .ok (.iload_n 0, 1) := by decide +kernel
theorem dX9_in_6 : decode cX9_in 6 = .ok (.iload_n 2, 1) := by decide +kernel
theorem dX9_in_7 : decode cX9_in 7 = .ok (.if_icmp .gt 7, 3) := by decide +kernel
theorem dX9_in_10 : decode cX9_in 10 = .ok (.iconst 1, 1) := by decide +kernel
theorem dX9_in_11 : decode cX9_in 11 = .ok (.goto 4, 3) := by decide +kernel
theorem dX9_in_14 : decode cX9_in 14 = .ok (.iconst 0, 1) := by decide +kernel
theorem dX9_in_15 : decode cX9_in 15 = .ok (.ireturn, 1) := by decide +kernel
theorem dX9_amount_0 : decode cX9_amount 0 = .ok (.iload_n 0, 1) := by decide +kernel
theorem dX9_amount_1 : decode cX9_amount 1 = .ok (.ifCond .ge 8, 3) := by decide +kernel
theorem dX9_amount_4 : decode cX9_amount 4 = .ok (.iload_n 0, 1) := by decide +kernel
theorem dX9_amount_5 : decode cX9_amount 5 = .ok (.ineg, 1) := by decide +kernel
theorem dX9_amount_6 : decode cX9_amount 6 = .ok (.goto 4, 3) := by decide +kernel
theorem dX9_amount_9 : decode cX9_amount 9 = .ok (.iload_n 0, 1) := by decide +kernel
theorem dX9_amount_10 : decode cX9_amount 10 = .ok (.ireturn, 1) := by decide +kernel
theorem dX9_no_0 : decode cX9_no 0 = .ok (.ldc2_w 66, 3) := by decide +kernel
theorem dX9_no_3 : decode cX9_no 3 = .ok (.iload_n 0, 1) := by decide +kernel
theorem dX9_no_4 : decode cX9_no 4 = .ok (.i2l, 1) := by decide +kernel
theorem dX9_no_5 : decode cX9_no 5 = .ok (.lsub, 1) := by decide +kernel
theorem dX9_no_6 : decode cX9_no 6 = .ok (.lreturn, 1) := by decide +kernel
theorem dX9_lowest_0 : decode cX9_lowest 0 = .ok (.lload_n 0, 1) := by decide +kernel
theorem dX9_lowest_1 : decode cX9_lowest 1 = .ok (.lstore 5, 2) := by decide +kernel
theorem dX9_lowest_3 : decode cX9_lowest 3 = .ok (.lload_n 2, 1) := by decide +kernel
theorem dX9_lowest_4 : decode cX9_lowest 4 = .ok (.lstore 7, 2) := by decide +kernel
theorem dX9_lowest_6 : decode cX9_lowest 6 = .ok (.lload 7, 2) := by decide +kernel
theorem dX9_lowest_8 : decode cX9_lowest 8 = .ok (.lconst 0, 1) := by decide +kernel
theorem dX9_lowest_9 : decode cX9_lowest 9 = .ok (.lcmp, 1) := by decide +kernel
theorem dX9_lowest_10 : decode cX9_lowest 10 = .ok (.ifCond .eq 21, 3) := by decide +kernel
theorem dX9_lowest_13 : decode cX9_lowest 13 = .ok (.lload 5, 2) := by decide +kernel
theorem dX9_lowest_15 : decode cX9_lowest 15 = .ok (.lload 7, 2) := by decide +kernel
theorem dX9_lowest_17 : decode cX9_lowest 17 = .ok (.lrem, 1) := by decide +kernel
theorem dX9_lowest_18 : decode cX9_lowest 18 = .ok (.lstore 9, 2) := by decide +kernel
theorem dX9_lowest_20 : decode cX9_lowest 20 = .ok (.lload 7, 2) := by decide +kernel
theorem dX9_lowest_22 : decode cX9_lowest 22 = .ok (.lstore 5, 2) := by decide +kernel
theorem dX9_lowest_24 : decode cX9_lowest 24 = .ok (.lload 9, 2) := by decide +kernel
theorem dX9_lowest_26 : decode cX9_lowest 26 = .ok (.lstore 7, 2) := by decide +kernel
theorem dX9_lowest_28 : decode cX9_lowest 28 = .ok (.goto (-22), 3) := by decide +kernel
theorem dX9_lowest_31 : decode cX9_lowest 31 = .ok (.iload 4, 2) := by decide +kernel
theorem dX9_lowest_33 : decode cX9_lowest 33 = .ok (.ifCond .ne 10, 3) := by decide +kernel
theorem dX9_lowest_36 : decode cX9_lowest 36 = .ok (.lload_n 0, 1) := by decide +kernel
theorem dX9_lowest_37 : decode cX9_lowest 37 = .ok (.lload 5, 2) := by decide +kernel
theorem dX9_lowest_39 : decode cX9_lowest 39 = .ok (.ldiv, 1) := by decide +kernel
theorem dX9_lowest_40 : decode cX9_lowest 40 = .ok (.goto 7, 3) := by decide +kernel
theorem dX9_lowest_43 : decode cX9_lowest 43 = .ok (.lload_n 2, 1) := by decide +kernel
theorem dX9_lowest_44 : decode cX9_lowest 44 = .ok (.lload 5, 2) := by decide +kernel
theorem dX9_lowest_46 : decode cX9_lowest 46 = .ok (.ldiv, 1) := by decide +kernel
theorem dX9_lowest_47 : decode cX9_lowest 47 = .ok (.lreturn, 1) := by decide +kernel
theorem dX9_measure_0 : decode cX9_measure 0 = .ok (.iload_n 1, 1) := by decide +kernel
theorem dX9_measure_1 : decode cX9_measure 1 = .ok (.iconst 0, 1) := by decide +kernel
theorem dX9_measure_2 : decode cX9_measure 2 = .ok (.iconst 2, 1) := by decide +kernel
theorem dX9_measure_3 : decode cX9_measure 3 = .ok (.invokestatic 68, 3) := by decide +kernel
theorem dX9_measure_6 : decode cX9_measure 6 = .ok (.ifCond .eq 32, 3) := by decide +kernel
theorem dX9_measure_9 : decode cX9_measure 9 = .ok (.iload_n 2, 1) := by decide +kernel
theorem dX9_measure_10 : decode cX9_measure 10 = .ok (.iconst 0, 1) := by decide +kernel
theorem dX9_measure_11 : decode cX9_measure 11 = .ok (.iconst 1, 1) := by decide +kernel
theorem dX9_measure_12 : decode cX9_measure 12 = .ok (.invokestatic 68, 3) := by decide +kernel
theorem dX9_measure_15 : decode cX9_measure 15 = .ok (.ifCond .eq 23, 3) := by decide +kernel
theorem dX9_measure_18 : decode cX9_measure 18 = .ok (.iload_n 3, 1) := by decide +kernel
theorem dX9_measure_19 : decode cX9_measure 19 = .ok (.iconst 1, 1) := by decide +kernel
theorem dX9_measure_20 : decode cX9_measure 20 = .ok (.iload_n 2, 1) := by decide +kernel
theorem dX9_measure_21 : decode cX9_measure 21 = .ok (.ifCond .ne 9, 3) := by decide +kernel
theorem dX9_measure_24 : decode cX9_measure 24 = .ok (.sipush 999, 3) := by decide +kernel
theorem dX9_measure_27 : decode cX9_measure 27 = .ok (.goto 5, 3) := by decide +kernel
theorem dX9_measure_30 : decode cX9_measure 30 = .ok (.bipush 9, 2) := by decide +kernel
theorem dX9_measure_32 : decode cX9_measure 32 = .ok (.invokestatic 68, 3) := by decide +kernel
theorem dX9_measure_35 : decode cX9_measure 35 = .ok (.ifCond .ne 6, 3) := by decide +kernel
theorem dX9_measure_38 : decode cX9_measure 38 = .ok (.bipush (-2), 2) := by decide +kernel
theorem dX9_measure_40 : decode cX9_measure 40 = .ok (.ireturn, 1) := by decide +kernel
theorem dX9_measure_41 : decode cX9_measure 41 = .ok (.iload_n 2, 1) := by decide +kernel
theorem dX9_measure_42 : decode cX9_measure 42 = .ok (.ifCond .ne 12, 3) := by decide +kernel
theorem dX9_measure_45 : decode cX9_measure 45 = .ok (.aload_n 0, 1) := by decide +kernel
theorem dX9_measure_46 : decode cX9_measure 46 = .ok (.getfield 7, 3) := by decide +kernel
theorem dX9_measure_49 : decode cX9_measure 49 = .ok (.iload_n 1, 1) := by decide +kernel
theorem dX9_measure_50 : decode cX9_measure 50 = .ok (.iaload, 1) := by decide +kernel
theorem dX9_measure_51 : decode cX9_measure 51 = .ok (.goto 9, 3) := by decide +kernel
theorem dX9_measure_54 : decode cX9_measure 54 = .ok (.aload_n 0, 1) := by decide +kernel
theorem dX9_measure_55 : decode cX9_measure 55 = .ok (.getfield 13, 3) := by decide +kernel
theorem dX9_measure_58 : decode cX9_measure 58 = .ok (.iload_n 1, 1) := by decide +kernel
theorem dX9_measure_59 : decode cX9_measure 59 = .ok (.iaload, 1) := by decide +kernel
theorem dX9_measure_60 : decode cX9_measure 60 = .ok (.istore 4, 2) := by decide +kernel
theorem dX9_measure_62 : decode cX9_measure 62 = .ok (.iload_n 2, 1) := by decide +kernel
theorem dX9_measure_63 : decode cX9_measure 63 = .ok (.ifCond .ne 13, 3) := by decide +kernel
theorem dX9_measure_66 : decode cX9_measure 66 = .ok (.aload_n 0, 1) := by decide +kernel
theorem dX9_measure_67 : decode cX9_measure 67 = .ok (.getfield 7, 3) := by decide +kernel
theorem dX9_measure_70 : decode cX9_measure 70 = .ok (.iload_n 1, 1) := by decide +kernel
theorem dX9_measure_71 : decode cX9_measure 71 = .ok (.iload_n 3, 1) := by decide +kernel
theorem dX9_measure_72 : decode cX9_measure 72 = .ok (.iastore, 1) := by decide +kernel
theorem dX9_measure_73 : decode cX9_measure 73 = .ok (.goto 10, 3) := by decide +kernel
theorem dX9_measure_76 : decode cX9_measure 76 = .ok (.aload_n 0, 1) := by decide +kernel
theorem dX9_measure_77 : decode cX9_measure 77 = .ok (.getfield 13, 3) := by decide +kernel
theorem dX9_measure_80 : decode cX9_measure 80 = .ok (.iload_n 1, 1) := by decide +kernel
theorem dX9_measure_81 : decode cX9_measure 81 = .ok (.iload_n 3, 1) := by decide +kernel
theorem dX9_measure_82 : decode cX9_measure 82 = .ok (.iastore, 1) := by decide +kernel
theorem dX9_measure_83 : decode cX9_measure 83 = .ok (.iload 4, 2) := by decide +kernel
theorem dX9_measure_85 : decode cX9_measure 85 = .ok (.ireturn, 1) := by decide +kernel
theorem dX9_type_0 : decode cX9_type 0 = .ok (.iload_n 1, 1) := by decide +kernel
theorem dX9_type_1 : decode cX9_type 1 = .ok (.iconst 0, 1) := by decide +kernel
theorem dX9_type_2 : decode cX9_type 2 = .ok (.sipush 255, 3) := by decide +kernel
theorem dX9_type_5 : decode cX9_type 5 = .ok (.invokestatic 68, 3) := by decide +kernel
theorem dX9_type_8 : decode cX9_type 8 = .ok (.ifCond .ne 6, 3) := by decide +kernel
theorem dX9_type_11 : decode cX9_type 11 = .ok (.bipush (-2), 2) := by decide +kernel
theorem dX9_type_13 : decode cX9_type 13 = .ok (.ireturn, 1) := by decide +kernel
theorem dX9_type_14 : decode cX9_type 14 = .ok (.aload_n 0, 1) := by decide +kernel
theorem dX9_type_15 : decode cX9_type 15 = .ok (.getfield 72, 3) := by decide +kernel
theorem dX9_type_18 : decode cX9_type 18 = .ok (.bipush 80, 2) := by decide +kernel
theorem dX9_type_20 : decode cX9_type 20 = .ok (.if_icmp .ne 6, 3) := by decide +kernel
theorem dX9_type_23 : decode cX9_type 23 = .ok (.bipush (-4), 2) := by decide +kernel
theorem dX9_type_25 : decode cX9_type 25 = .ok (.ireturn, 1) := by decide +kernel
theorem dX9_type_26 : decode cX9_type 26 = .ok (.aload_n 0, 1) := by decide +kernel
theorem dX9_type_27 : decode cX9_type 27 = .ok (.getfield 19, 3) := by decide +kernel
theorem dX9_type_30 : decode cX9_type 30 = .ok (.aload_n 0, 1) := by decide +kernel
theorem dX9_type_31 : decode cX9_type 31 = .ok (.getfield 72, 3) := by decide +kernel
theorem dX9_type_34 : decode cX9_type 34 = .ok (.iload_n 1, 1) := by decide +kernel
theorem dX9_type_35 : decode cX9_type 35 = .ok (.iastore, 1) := by decide +kernel
theorem dX9_type_36 : decode cX9_type 36 = .ok (.aload_n 0, 1) := by decide +kernel
theorem dX9_type_37 : decode cX9_type 37 = .ok (.dup, 1) := by decide +kernel
theorem dX9_type_38 : decode cX9_type 38 = .ok (.getfield 72, 3) := by decide +kernel
theorem dX9_type_41 : decode cX9_type 41 = .ok (.iconst 1, 1) := by decide +kernel
theorem dX9_type_42 : decode cX9_type 42 = .ok (.iadd, 1) := by decide +kernel
theorem dX9_type_43 : decode cX9_type 43 = .ok (.putfield 72, 3) := by decide +kernel
theorem dX9_type_46 : decode cX9_type 46 = .ok (.aload_n 0, 1) := by decide +kernel
theorem dX9_type_47 : decode cX9_type 47 = .ok (.getfield 72, 3) := by decide +kernel
theorem dX9_type_50 : decode cX9_type 50 = .ok (.ireturn, 1) := by decide +kernel
theorem dX9_wipe_0 : decode cX9_wipe 0 = .ok (.aload_n 0, 1) := by decide +kernel
theorem dX9_wipe_1 : decode cX9_wipe 1 = .ok (.getfield 72, 3) := by decide +kernel
theorem dX9_wipe_4 : decode cX9_wipe 4 = .ok (.istore_n 1, 1) := by decide +kernel
theorem dX9_wipe_5 : decode cX9_wipe 5 = .ok (.aload_n 0, 1) := by decide +kernel
theorem dX9_wipe_6 : decode cX9_wipe 6 = .ok (.iconst 0, 1) := by decide +kernel
theorem dX9_wipe_7 : decode cX9_wipe 7 = .ok (.putfield 72, 3) := by decide +kernel
theorem dX9_wipe_10 : decode cX9_wipe 10 = .ok (.iload_n 1, 1) := by decide +kernel
theorem dX9_wipe_11 : decode cX9_wipe 11 = .ok (.ireturn, 1) := by decide +kernel
theorem dX9_byteAt_0 : decode cX9_byteAt 0 = .ok (.iload_n 1, 1) := by decide +kernel
theorem dX9_byteAt_1 : decode cX9_byteAt 1 = .ok (.aload_n 0, 1) := by decide +kernel
theorem dX9_byteAt_2 : decode cX9_byteAt 2 = .ok (.getfield 72, 3) := by decide +kernel
theorem dX9_byteAt_5 : decode cX9_byteAt 5 = .ok (.if_icmp .ge 12, 3) := by decide +kernel
theorem dX9_byteAt_8 : decode cX9_byteAt 8 = .ok (.aload_n 0, 1) := by decide +kernel
theorem dX9_byteAt_9 : decode cX9_byteAt 9 = .ok (.getfield 19, 3) := by decide +kernel
theorem dX9_byteAt_12 : decode cX9_byteAt 12 = .ok (.iload_n 1, 1) := by decide +kernel
theorem dX9_byteAt_13 : decode cX9_byteAt 13 = .ok (.iaload, 1) := by decide +kernel
theorem dX9_byteAt_14 : decode cX9_byteAt 14 = .ok (.goto 4, 3) := by decide +kernel
theorem dX9_byteAt_17 : decode cX9_byteAt 17 = .ok (.iconst (-1), 1) := by decide +kernel
theorem dX9_byteAt_18 : decode cX9_byteAt 18 = .ok (.ireturn, 1) := by decide +kernel
theorem dX9_figures_0 : decode cX9_figures 0 = .ok (.iconst 0, 1) := by decide +kernel
theorem dX9_figures_1 : decode cX9_figures 1 = .ok (.istore_n 2, 1) := by decide +kernel
theorem dX9_figures_2 : decode cX9_figures 2 = .ok (.iload_n 2, 1) := by decide +kernel
theorem dX9_figures_3 : decode cX9_figures 3 = .ok (.iconst 2, 1) := by decide +kernel
theorem dX9_figures_4 : decode cX9_figures 4 = .ok (.if_icmp .ge 26, 3) := by decide +kernel
theorem dX9_figures_7 : decode cX9_figures 7 = .ok (.aload_n 0, 1) := by decide +kernel
theorem dX9_figures_8 : decode cX9_figures 8 = .ok (.iload_n 1, 1) := by decide +kernel
theorem dX9_figures_9 : decode cX9_figures 9 = .ok (.iload_n 2, 1) := by decide +kernel
theorem dX9_figures_10 : decode cX9_figures 10 = .ok (.iadd, 1) := by decide +kernel
theorem dX9_figures_11 : decode cX9_figures 11 = .ok (.invokevirtual 76, 3) := by decide +kernel
theorem dX9_figures_14 : decode cX9_figures 14 = .ok (.bipush 48, 2) := by decide +kernel
theorem dX9_figures_16 : decode cX9_figures 16 = .ok (.bipush 57, 2) := by decide +kernel
theorem dX9_figures_18 : decode cX9_figures 18 = .ok (.invokestatic 68, 3) := by decide +kernel
theorem dX9_figures_21 : decode cX9_figures 21 = .ok (.ifCond .eq 9, 3) := by decide +kernel
theorem dX9_figures_24 : decode cX9_figures 24 = .ok (.iinc 2 1, 3) := by decide +kernel
theorem dX9_figures_27 : decode cX9_figures 27 = .ok (.goto (-25), 3) := by decide +kernel
theorem dX9_figures_30 : decode cX9_figures 30 = .ok (.iload_n 2, 1) := by decide +kernel
theorem dX9_figures_31 : decode cX9_figures 31 = .ok (.ireturn, 1) := by decide +kernel
theorem dX9_numberAt_0 : decode cX9_numberAt 0 = .ok (.aload_n 0, 1) := by decide +kernel
theorem dX9_numberAt_1 : decode cX9_numberAt 1 = .ok (.iload_n 1, 1) := by decide +kernel
theorem dX9_numberAt_2 : decode cX9_numberAt 2 = .ok (.invokevirtual 80, 3) := by decide +kernel
theorem dX9_numberAt_5 : decode cX9_numberAt 5 = .ok (.istore_n 2, 1) := by decide +kernel
theorem dX9_numberAt_6 : decode cX9_numberAt 6 = .ok (.iload_n 2, 1) := by decide +kernel
theorem dX9_numberAt_7 : decode cX9_numberAt 7 = .ok (.ifCond .ne 7, 3) := by decide +kernel
theorem dX9_numberAt_10 : decode cX9_numberAt 10 = .ok (.iconst (-1), 1) := by decide +kernel
theorem dX9_numberAt_11 : decode cX9_numberAt 11 = .ok (.goto 41, 3) := by decide +kernel
theorem dX9_numberAt_14 : decode cX9_numberAt 14 = .ok (.iload_n 2, 1) := by decide +kernel
theorem dX9_numberAt_15 : decode cX9_numberAt 15 = .ok (.iconst 1, 1) := by decide +kernel
theorem dX9_numberAt_16 : decode cX9_numberAt 16 = .ok (.if_icmp .ne 14, 3) := by decide +kernel
theorem dX9_numberAt_19 : decode cX9_numberAt 19 = .ok (.aload_n 0, 1) := by decide +kernel
theorem dX9_numberAt_20 : decode cX9_numberAt 20 = .ok (.iload_n 1, 1) := by decide +kernel
theorem dX9_numberAt_21 : decode cX9_numberAt 21 = .ok (.invokevirtual 76, 3) := by decide +kernel
theorem dX9_numberAt_24 : decode cX9_numberAt 24 = .ok (.bipush 48, 2) := by decide +kernel
theorem dX9_numberAt_26 : decode cX9_numberAt 26 = .ok (.isub, 1) := by decide +kernel
theorem dX9_numberAt_27 : decode cX9_numberAt 27 = .ok (.goto 25, 3) := by decide +kernel
theorem dX9_numberAt_30 : decode cX9_numberAt 30 = .ok (.bipush 10, 2) := by decide +kernel
theorem dX9_numberAt_32 : decode cX9_numberAt 32 = .ok (.aload_n 0, 1) := by decide +kernel
theorem dX9_numberAt_33 : decode cX9_numberAt 33 = .ok (.iload_n 1, 1) := by decide +kernel
theorem dX9_numberAt_34 : decode cX9_numberAt 34 = .ok (.invokevirtual 76, 3) := by decide +kernel
theorem dX9_numberAt_37 : decode cX9_numberAt 37 = .ok (.bipush 48, 2) := by decide +kernel
theorem dX9_numberAt_39 : decode cX9_numberAt 39 = .ok (.isub, 1) := by decide +kernel
theorem dX9_numberAt_40 : decode cX9_numberAt 40 = .ok (.imul, 1) := by decide +kernel
theorem dX9_numberAt_41 : decode cX9_numberAt 41 = .ok (.aload_n 0, 1) := by decide +kernel
theorem dX9_numberAt_42 : decode cX9_numberAt 42 = .ok (.iload_n 1, 1) := by decide +kernel
theorem dX9_numberAt_43 : decode cX9_numberAt 43 = .ok (.iconst 1, 1) := by decide +kernel
theorem dX9_numberAt_44 : decode cX9_numberAt 44 = .ok (.iadd, 1) := by decide +kernel
theorem dX9_numberAt_45 : decode cX9_numberAt 45 = .ok (.invokevirtual 76, 3) := by decide +kernel
theorem dX9_numberAt_48 : decode cX9_numberAt 48 = .ok (.iadd, 1) := by decide +kernel
theorem dX9_numberAt_49 : decode cX9_numberAt 49 = .ok (.bipush 48, 2) := by decide +kernel
theorem dX9_numberAt_51 : decode cX9_numberAt 51 = .ok (.isub, 1) := by decide +kernel
theorem dX9_numberAt_52 : decode cX9_numberAt 52 = .ok (.ireturn, 1) := by decide +kernel
theorem dX9_reads_0 : decode cX9_reads 0 = .ok (.aload_n 0, 1) := by decide +kernel
theorem dX9_reads_1 : decode cX9_reads 1 = .ok (.iconst 0, 1) := by decide +kernel
theorem dX9_reads_2 : decode cX9_reads 2 = .ok (.putfield 83, 3) := by decide +kernel
theorem dX9_reads_5 : decode cX9_reads 5 = .ok (.iconst 0, 1) := by decide +kernel
theorem dX9_reads_6 : decode cX9_reads 6 = .ok (.istore_n 1, 1) := by decide +kernel
theorem dX9_reads_7 : decode cX9_reads 7 = .ok (.iconst 0, 1) := by decide +kernel
theorem dX9_reads_8 : decode cX9_reads 8 = .ok (.istore_n 2, 1) := by decide +kernel
theorem dX9_reads_9 : decode cX9_reads 9 = .ok (.iload_n 2, 1) := by decide +kernel
theorem dX9_reads_10 : decode cX9_reads 10 = .ok (.aload_n 0, 1) := by decide +kernel
theorem dX9_reads_11 : decode cX9_reads 11 = .ok (.getfield 72, 3) := by decide +kernel
theorem dX9_reads_14 : decode cX9_reads 14 = .ok (.if_icmp .lt 7, 3) := by decide +kernel
theorem dX9_reads_17 : decode cX9_reads 17 = .ok (.iload_n 2, 1) := by decide +kernel
theorem dX9_reads_18 : decode cX9_reads 18 = .ok (.ifCond .le 253, 3) := by decide +kernel
theorem dX9_reads_21 : decode cX9_reads 21 = .ok (.iload_n 1, 1) := by decide +kernel
theorem dX9_reads_22 : decode cX9_reads 22 = .ok (.bipush 10, 2) := by decide +kernel
theorem dX9_reads_24 : decode cX9_reads 24 = .ok (.if_icmp .eq 17, 3) := by decide +kernel
theorem dX9_reads_27 : decode cX9_reads 27 = .ok (.aload_n 0, 1) := by decide +kernel
theorem dX9_reads_28 : decode cX9_reads 28 = .ok (.iload_n 2, 1) := by decide +kernel
theorem dX9_reads_29 : decode cX9_reads 29 = .ok (.invokevirtual 86, 3) := by decide +kernel
theorem dX9_reads_32 : decode cX9_reads 32 = .ok (.iconst 1, 1) := by decide +kernel
theorem dX9_reads_33 : decode cX9_reads 33 = .ok (.bipush 99, 2) := by decide +kernel
theorem dX9_reads_35 : decode cX9_reads 35 = .ok (.invokestatic 68, 3) := by decide +kernel
theorem dX9_reads_38 : decode cX9_reads 38 = .ok (.ifCond .ne 5, 3) := by decide +kernel
theorem dX9_reads_41 : decode cX9_reads 41 = .ok (.iload_n 2, 1) := by decide +kernel
theorem dX9_reads_42 : decode cX9_reads 42 = .ok (.ireturn, 1) := by decide +kernel
theorem dX9_reads_43 : decode cX9_reads 43 = .ok (.aload_n 0, 1) := by decide +kernel
theorem dX9_reads_44 : decode cX9_reads 44 = .ok (.iload_n 2, 1) := by decide +kernel
theorem dX9_reads_45 : decode cX9_reads 45 = .ok (.invokevirtual 86, 3) := by decide +kernel
theorem dX9_reads_48 : decode cX9_reads 48 = .ok (.istore_n 3, 1) := by decide +kernel
theorem dX9_reads_49 : decode cX9_reads 49 = .ok (.iload_n 2, 1) := by decide +kernel
theorem dX9_reads_50 : decode cX9_reads 50 = .ok (.aload_n 0, 1) := by decide +kernel
theorem dX9_reads_51 : decode cX9_reads 51 = .ok (.iload_n 2, 1) := by decide +kernel
theorem dX9_reads_52 : decode cX9_reads 52 = .ok (.invokevirtual 80, 3) := by decide +kernel
theorem dX9_reads_55 : decode cX9_reads 55 = .ok (.iadd, 1) := by decide +kernel
theorem dX9_reads_56 : decode cX9_reads 56 = .ok (.istore_n 2, 1) := by decide +kernel
theorem dX9_reads_57 : decode cX9_reads 57 = .ok (.aload_n 0, 1) := by decide +kernel
theorem dX9_reads_58 : decode cX9_reads 58 = .ok (.iload_n 2, 1) := by decide +kernel
theorem dX9_reads_59 : decode cX9_reads 59 = .ok (.invokevirtual 76, 3) := by decide +kernel
theorem dX9_reads_62 : decode cX9_reads 62 = .ok (.istore 4, 2) := by decide +kernel
theorem dX9_reads_64 : decode cX9_reads 64 = .ok (.iload 4, 2) := by decide +kernel
theorem dX9_reads_66 : decode cX9_reads 66 = .ok (.bipush 102, 2) := by decide +kernel
theorem dX9_reads_68 : decode cX9_reads 68 = .ok (.if_icmp .eq 19, 3) := by decide +kernel
theorem dX9_reads_71 : decode cX9_reads 71 = .ok (.iload 4, 2) := by decide +kernel
theorem dX9_reads_73 : decode cX9_reads 73 = .ok (.bipush 101, 2) := by decide +kernel
theorem dX9_reads_75 : decode cX9_reads 75 = .ok (.if_icmp .eq 12, 3) := by decide +kernel
theorem dX9_reads_78 : decode cX9_reads 78 = .ok (.iload 4, 2) := by decide +kernel
theorem dX9_reads_80 : decode cX9_reads 80 = .ok (.bipush 115, 2) := by decide +kernel
theorem dX9_reads_82 : decode cX9_reads 82 = .ok (.if_icmp .eq 5, 3) := by decide +kernel
theorem dX9_reads_85 : decode cX9_reads 85 = .ok (.iload_n 2, 1) := by decide +kernel
theorem dX9_reads_86 : decode cX9_reads 86 = .ok (.ireturn, 1) := by decide +kernel
theorem dX9_reads_87 : decode cX9_reads 87 = .ok (.iload 4, 2) := by decide +kernel
theorem dX9_reads_89 : decode cX9_reads 89 = .ok (.bipush 102, 2) := by decide +kernel
theorem dX9_reads_91 : decode cX9_reads 91 = .ok (.if_icmp .ne 7, 3) := by decide +kernel
theorem dX9_reads_94 : decode cX9_reads 94 = .ok (.iconst 0, 1) := by decide +kernel
theorem dX9_reads_95 : decode cX9_reads 95 = .ok (.goto 15, 3) := by decide +kernel
theorem dX9_reads_98 : decode cX9_reads 98 = .ok (.iload 4, 2) := by decide +kernel
theorem dX9_reads_100 : decode cX9_reads 100 = .ok (.bipush 101, 2) := by decide +kernel
theorem dX9_reads_102 : decode cX9_reads 102 = .ok (.if_icmp .ne 7, 3) := by decide +kernel
theorem dX9_reads_105 : decode cX9_reads 105 = .ok (.iconst 1, 1) := by decide +kernel
theorem dX9_reads_106 : decode cX9_reads 106 = .ok (.goto 4, 3) := by decide +kernel
theorem dX9_reads_109 : decode cX9_reads 109 = .ok (.iconst 2, 1) := by decide +kernel
theorem dX9_reads_110 : decode cX9_reads 110 = .ok (.istore 5, 2) := by decide +kernel
theorem dX9_reads_112 : decode cX9_reads 112 = .ok (.iinc 2 1, 3) := by decide +kernel
theorem dX9_reads_115 : decode cX9_reads 115 = .ok (.iconst 0, 1) := by decide +kernel
theorem dX9_reads_116 : decode cX9_reads 116 = .ok (.istore 6, 2) := by decide +kernel
theorem dX9_reads_118 : decode cX9_reads 118 = .ok (.aload_n 0, 1) := by decide +kernel
theorem dX9_reads_119 : decode cX9_reads 119 = .ok (.iload_n 2, 1) := by decide +kernel
theorem dX9_reads_120 : decode cX9_reads 120 = .ok (.invokevirtual 76, 3) := by decide +kernel
theorem dX9_reads_123 : decode cX9_reads 123 = .ok (.bipush 43, 2) := by decide +kernel
theorem dX9_reads_125 : decode cX9_reads 125 = .ok (.if_icmp .ne 37, 3) := by decide +kernel
theorem dX9_reads_128 : decode cX9_reads 128 = .ok (.iinc 2 1, 3) := by decide +kernel
theorem dX9_reads_131 : decode cX9_reads 131 = .ok (.aload_n 0, 1) := by decide +kernel
theorem dX9_reads_132 : decode cX9_reads 132 = .ok (.iload_n 2, 1) := by decide +kernel
theorem dX9_reads_133 : decode cX9_reads 133 = .ok (.invokevirtual 86, 3) := by decide +kernel
theorem dX9_reads_136 : decode cX9_reads 136 = .ok (.iconst 1, 1) := by decide +kernel
theorem dX9_reads_137 : decode cX9_reads 137 = .ok (.bipush 11, 2) := by decide +kernel
theorem dX9_reads_139 : decode cX9_reads 139 = .ok (.invokestatic 68, 3) := by decide +kernel
theorem dX9_reads_142 : decode cX9_reads 142 = .ok (.ifCond .ne 5, 3) := by decide +kernel
theorem dX9_reads_145 : decode cX9_reads 145 = .ok (.iload_n 2, 1) := by decide +kernel
theorem dX9_reads_146 : decode cX9_reads 146 = .ok (.ireturn, 1) := by decide +kernel
theorem dX9_reads_147 : decode cX9_reads 147 = .ok (.aload_n 0, 1) := by decide +kernel
theorem dX9_reads_148 : decode cX9_reads 148 = .ok (.iload_n 2, 1) := by decide +kernel
theorem dX9_reads_149 : decode cX9_reads 149 = .ok (.invokevirtual 86, 3) := by decide +kernel
theorem dX9_reads_152 : decode cX9_reads 152 = .ok (.istore 6, 2) := by decide +kernel
theorem dX9_reads_154 : decode cX9_reads 154 = .ok (.iload_n 2, 1) := by decide +kernel
theorem dX9_reads_155 : decode cX9_reads 155 = .ok (.aload_n 0, 1) := by decide +kernel
theorem dX9_reads_156 : decode cX9_reads 156 = .ok (.iload_n 2, 1) := by decide +kernel
theorem dX9_reads_157 : decode cX9_reads 157 = .ok (.invokevirtual 80, 3) := by decide +kernel
theorem dX9_reads_160 : decode cX9_reads 160 = .ok (.iadd, 1) := by decide +kernel
theorem dX9_reads_161 : decode cX9_reads 161 = .ok (.istore_n 2, 1) := by decide +kernel
theorem dX9_reads_162 : decode cX9_reads 162 = .ok (.aload_n 0, 1) := by decide +kernel
theorem dX9_reads_163 : decode cX9_reads 163 = .ok (.iload_n 2, 1) := by decide +kernel
theorem dX9_reads_164 : decode cX9_reads 164 = .ok (.invokevirtual 76, 3) := by decide +kernel
theorem dX9_reads_167 : decode cX9_reads 167 = .ok (.bipush 61, 2) := by decide +kernel
theorem dX9_reads_169 : decode cX9_reads 169 = .ok (.if_icmp .eq 5, 3) := by decide +kernel
theorem dX9_reads_172 : decode cX9_reads 172 = .ok (.iload_n 2, 1) := by decide +kernel
theorem dX9_reads_173 : decode cX9_reads 173 = .ok (.ireturn, 1) := by decide +kernel
theorem dX9_reads_174 : decode cX9_reads 174 = .ok (.iinc 2 1, 3) := by decide +kernel
theorem dX9_reads_177 : decode cX9_reads 177 = .ok (.aload_n 0, 1) := by decide +kernel
theorem dX9_reads_178 : decode cX9_reads 178 = .ok (.iload_n 2, 1) := by decide +kernel
theorem dX9_reads_179 : decode cX9_reads 179 = .ok (.invokevirtual 76, 3) := by decide +kernel
theorem dX9_reads_182 : decode cX9_reads 182 = .ok (.bipush 48, 2) := by decide +kernel
theorem dX9_reads_184 : decode cX9_reads 184 = .ok (.bipush 56, 2) := by decide +kernel
theorem dX9_reads_186 : decode cX9_reads 186 = .ok (.invokestatic 68, 3) := by decide +kernel
theorem dX9_reads_189 : decode cX9_reads 189 = .ok (.ifCond .ne 5, 3) := by decide +kernel
theorem dX9_reads_192 : decode cX9_reads 192 = .ok (.iload_n 2, 1) := by decide +kernel
theorem dX9_reads_193 : decode cX9_reads 193 = .ok (.ireturn, 1) := by decide +kernel
theorem dX9_reads_194 : decode cX9_reads 194 = .ok (.aload_n 0, 1) := by decide +kernel
theorem dX9_reads_195 : decode cX9_reads 195 = .ok (.getfield 25, 3) := by decide +kernel
theorem dX9_reads_198 : decode cX9_reads 198 = .ok (.iload_n 1, 1) := by decide +kernel
theorem dX9_reads_199 : decode cX9_reads 199 = .ok (.aload_n 0, 1) := by decide +kernel
theorem dX9_reads_200 : decode cX9_reads 200 = .ok (.iload_n 2, 1) := by decide +kernel
theorem dX9_reads_201 : decode cX9_reads 201 = .ok (.invokevirtual 76, 3) := by decide +kernel
theorem dX9_reads_204 : decode cX9_reads 204 = .ok (.bipush 48, 2) := by decide +kernel
theorem dX9_reads_206 : decode cX9_reads 206 = .ok (.isub, 1) := by decide +kernel
theorem dX9_reads_207 : decode cX9_reads 207 = .ok (.iastore, 1) := by decide +kernel
theorem dX9_reads_208 : decode cX9_reads 208 = .ok (.aload_n 0, 1) := by decide +kernel
theorem dX9_reads_209 : decode cX9_reads 209 = .ok (.getfield 22, 3) := by decide +kernel
theorem dX9_reads_212 : decode cX9_reads 212 = .ok (.iload_n 1, 1) := by decide +kernel
theorem dX9_reads_213 : decode cX9_reads 213 = .ok (.aload_n 0, 1) := by decide +kernel
theorem dX9_reads_214 : decode cX9_reads 214 = .ok (.getfield 7, 3) := by decide +kernel
theorem dX9_reads_217 : decode cX9_reads 217 = .ok (.iload 5, 2) := by decide +kernel
theorem dX9_reads_219 : decode cX9_reads 219 = .ok (.iaload, 1) := by decide +kernel
theorem dX9_reads_220 : decode cX9_reads 220 = .ok (.bipush 12, 2) := by decide +kernel
theorem dX9_reads_222 : decode cX9_reads 222 = .ok (.iload_n 3, 1) := by decide +kernel
theorem dX9_reads_223 : decode cX9_reads 223 = .ok (.imul, 1) := by decide +kernel
theorem dX9_reads_224 : decode cX9_reads 224 = .ok (.iload 6, 2) := by decide +kernel
theorem dX9_reads_226 : decode cX9_reads 226 = .ok (.iadd, 1) := by decide +kernel
theorem dX9_reads_227 : decode cX9_reads 227 = .ok (.imul, 1) := by decide +kernel
theorem dX9_reads_228 : decode cX9_reads 228 = .ok (.bipush 12, 2) := by decide +kernel
theorem dX9_reads_230 : decode cX9_reads 230 = .ok (.idiv, 1) := by decide +kernel
theorem dX9_reads_231 : decode cX9_reads 231 = .ok (.iastore, 1) := by decide +kernel
theorem dX9_reads_232 : decode cX9_reads 232 = .ok (.iinc 1 1, 3) := by decide +kernel
theorem dX9_reads_235 : decode cX9_reads 235 = .ok (.iinc 2 1, 3) := by decide +kernel
theorem dX9_reads_238 : decode cX9_reads 238 = .ok (.iload_n 2, 1) := by decide +kernel
theorem dX9_reads_239 : decode cX9_reads 239 = .ok (.aload_n 0, 1) := by decide +kernel
theorem dX9_reads_240 : decode cX9_reads 240 = .ok (.getfield 72, 3) := by decide +kernel
theorem dX9_reads_243 : decode cX9_reads 243 = .ok (.if_icmp .ne 10, 3) := by decide +kernel
theorem dX9_reads_246 : decode cX9_reads 246 = .ok (.aload_n 0, 1) := by decide +kernel
theorem dX9_reads_247 : decode cX9_reads 247 = .ok (.iload_n 1, 1) := by decide +kernel
theorem dX9_reads_248 : decode cX9_reads 248 = .ok (.putfield 83, 3) := by decide +kernel
theorem dX9_reads_251 : decode cX9_reads 251 = .ok (.iconst (-1), 1) := by decide +kernel
theorem dX9_reads_252 : decode cX9_reads 252 = .ok (.ireturn, 1) := by decide +kernel
theorem dX9_reads_253 : decode cX9_reads 253 = .ok (.aload_n 0, 1) := by decide +kernel
theorem dX9_reads_254 : decode cX9_reads 254 = .ok (.iload_n 2, 1) := by decide +kernel
theorem dX9_reads_255 : decode cX9_reads 255 = .ok (.invokevirtual 76, 3) := by decide +kernel
theorem dX9_reads_258 : decode cX9_reads 258 = .ok (.bipush 59, 2) := by decide +kernel
theorem dX9_reads_260 : decode cX9_reads 260 = .ok (.if_icmp .eq 5, 3) := by decide +kernel
theorem dX9_reads_263 : decode cX9_reads 263 = .ok (.iload_n 2, 1) := by decide +kernel
theorem dX9_reads_264 : decode cX9_reads 264 = .ok (.ireturn, 1) := by decide +kernel
theorem dX9_reads_265 : decode cX9_reads 265 = .ok (.iinc 2 1, 3) := by decide +kernel
theorem dX9_reads_268 : decode cX9_reads 268 = .ok (.goto (-259), 3) := by decide +kernel
theorem dX9_reads_271 : decode cX9_reads 271 = .ok (.iconst (-1), 1) := by decide +kernel
theorem dX9_reads_272 : decode cX9_reads 272 = .ok (.ireturn, 1) := by decide +kernel
theorem dX9_fault_0 : decode cX9_fault 0 = .ok (.aload_n 0, 1) := by decide +kernel
theorem dX9_fault_1 : decode cX9_fault 1 = .ok (.invokevirtual 89, 3) := by decide +kernel
theorem dX9_fault_4 : decode cX9_fault 4 = .ok (.ireturn, 1) := by decide +kernel
theorem dX9_floorsNow_0 : decode cX9_floorsNow 0 = .ok (.aload_n 0, 1) := by decide +kernel
theorem dX9_floorsNow_1 : decode cX9_floorsNow 1 = .ok (.invokevirtual 89, 3) := by decide +kernel
theorem dX9_floorsNow_4 : decode cX9_floorsNow 4 = .ok (.istore_n 1, 1) := by decide +kernel
theorem dX9_floorsNow_5 : decode cX9_floorsNow 5 = .ok (.aload_n 0, 1) := by decide +kernel
theorem dX9_floorsNow_6 : decode cX9_floorsNow 6 = .ok (.getfield 83, 3) := by decide +kernel
theorem dX9_floorsNow_9 : decode cX9_floorsNow 9 = .ok (.ireturn, 1) := by decide +kernel
theorem dX9_cutBy_0 : decode cX9_cutBy 0 = .ok (.aload_n 0, 1) := by decide +kernel
theorem dX9_cutBy_1 : decode cX9_cutBy 1 = .ok (.getfield 7, 3) := by decide +kernel
theorem dX9_cutBy_4 : decode cX9_cutBy 4 = .ok (.iload_n 2, 1) := by decide +kernel
theorem dX9_cutBy_5 : decode cX9_cutBy 5 = .ok (.iconst 3, 1) := by decide +kernel
theorem dX9_cutBy_6 : decode cX9_cutBy 6 = .ok (.idiv, 1) := by decide +kernel
theorem dX9_cutBy_7 : decode cX9_cutBy 7 = .ok (.iaload, 1) := by decide +kernel
theorem dX9_cutBy_8 : decode cX9_cutBy 8 = .ok (.istore_n 3, 1) := by decide +kernel
theorem dX9_cutBy_9 : decode cX9_cutBy 9 = .ok (.aload_n 0, 1) := by decide +kernel
theorem dX9_cutBy_10 : decode cX9_cutBy 10 = .ok (.getfield 13, 3) := by decide +kernel
theorem dX9_cutBy_13 : decode cX9_cutBy 13 = .ok (.iload_n 2, 1) := by decide +kernel
theorem dX9_cutBy_14 : decode cX9_cutBy 14 = .ok (.iconst 3, 1) := by decide +kernel
theorem dX9_cutBy_15 : decode cX9_cutBy 15 = .ok (.idiv, 1) := by decide +kernel
theorem dX9_cutBy_16 : decode cX9_cutBy 16 = .ok (.iaload, 1) := by decide +kernel
theorem dX9_cutBy_17 : decode cX9_cutBy 17 = .ok (.istore 4, 2) := by decide +kernel
theorem dX9_cutBy_19 : decode cX9_cutBy 19 = .ok (.iload_n 1, 1) := by decide +kernel
theorem dX9_cutBy_20 : decode cX9_cutBy 20 = .ok (.iload 4, 2) := by decide +kernel
theorem dX9_cutBy_22 : decode cX9_cutBy 22 = .ok (.imul, 1) := by decide +kernel
theorem dX9_cutBy_23 : decode cX9_cutBy 23 = .ok (.istore 5, 2) := by decide +kernel
theorem dX9_cutBy_25 : decode cX9_cutBy 25 = .ok (.iload_n 2, 1) := by decide +kernel
theorem dX9_cutBy_26 : decode cX9_cutBy 26 = .ok (.iconst 3, 1) := by decide +kernel
theorem dX9_cutBy_27 : decode cX9_cutBy 27 = .ok (.irem, 1) := by decide +kernel
theorem dX9_cutBy_28 : decode cX9_cutBy 28 = .ok (.ifCond .ne 10, 3) := by decide +kernel
theorem dX9_cutBy_31 : decode cX9_cutBy 31 = .ok (.iload 5, 2) := by decide +kernel
theorem dX9_cutBy_33 : decode cX9_cutBy 33 = .ok (.iload_n 3, 1) := by decide +kernel
theorem dX9_cutBy_34 : decode cX9_cutBy 34 = .ok (.idiv, 1) := by decide +kernel
theorem dX9_cutBy_35 : decode cX9_cutBy 35 = .ok (.goto 33, 3) := by decide +kernel
theorem dX9_cutBy_38 : decode cX9_cutBy 38 = .ok (.iload_n 2, 1) := by decide +kernel
theorem dX9_cutBy_39 : decode cX9_cutBy 39 = .ok (.iconst 3, 1) := by decide +kernel
theorem dX9_cutBy_40 : decode cX9_cutBy 40 = .ok (.irem, 1) := by decide +kernel
theorem dX9_cutBy_41 : decode cX9_cutBy 41 = .ok (.iconst 1, 1) := by decide +kernel
theorem dX9_cutBy_42 : decode cX9_cutBy 42 = .ok (.if_icmp .ne 14, 3) := by decide +kernel
theorem dX9_cutBy_45 : decode cX9_cutBy 45 = .ok (.iload 5, 2) := by decide +kernel
theorem dX9_cutBy_47 : decode cX9_cutBy 47 = .ok (.iload_n 3, 1) := by decide +kernel
theorem dX9_cutBy_48 : decode cX9_cutBy 48 = .ok (.iadd, 1) := by decide +kernel
theorem dX9_cutBy_49 : decode cX9_cutBy 49 = .ok (.iconst 1, 1) := by decide +kernel
theorem dX9_cutBy_50 : decode cX9_cutBy 50 = .ok (.isub, 1) := by decide +kernel
theorem dX9_cutBy_51 : decode cX9_cutBy 51 = .ok (.iload_n 3, 1) := by decide +kernel
theorem dX9_cutBy_52 : decode cX9_cutBy 52 = .ok (.idiv, 1) := by decide +kernel
theorem dX9_cutBy_53 : decode cX9_cutBy 53 = .ok (.goto 15, 3) := by decide +kernel
theorem dX9_cutBy_56 : decode cX9_cutBy 56 = .ok (.iconst 2, 1) := by decide +kernel
theorem dX9_cutBy_57 : decode cX9_cutBy 57 = .ok (.iload 5, 2) := by decide +kernel
theorem dX9_cutBy_59 : decode cX9_cutBy 59 = .ok (.imul, 1) := by decide +kernel
theorem dX9_cutBy_60 : decode cX9_cutBy 60 = .ok (.iload_n 3, 1) := by decide +kernel
theorem dX9_cutBy_61 : decode cX9_cutBy 61 = .ok (.iadd, 1) := by decide +kernel
theorem dX9_cutBy_62 : decode cX9_cutBy 62 = .ok (.iconst 1, 1) := by decide +kernel
theorem dX9_cutBy_63 : decode cX9_cutBy 63 = .ok (.isub, 1) := by decide +kernel
theorem dX9_cutBy_64 : decode cX9_cutBy 64 = .ok (.iconst 2, 1) := by decide +kernel
theorem dX9_cutBy_65 : decode cX9_cutBy 65 = .ok (.iload_n 3, 1) := by decide +kernel
theorem dX9_cutBy_66 : decode cX9_cutBy 66 = .ok (.imul, 1) := by decide +kernel
theorem dX9_cutBy_67 : decode cX9_cutBy 67 = .ok (.idiv, 1) := by decide +kernel
theorem dX9_cutBy_68 : decode cX9_cutBy 68 = .ok (.istore 6, 2) := by decide +kernel
theorem dX9_cutBy_70 : decode cX9_cutBy 70 = .ok (.iload 6, 2) := by decide +kernel
theorem dX9_cutBy_72 : decode cX9_cutBy 72 = .ok (.iload_n 3, 1) := by decide +kernel
theorem dX9_cutBy_73 : decode cX9_cutBy 73 = .ok (.imul, 1) := by decide +kernel
theorem dX9_cutBy_74 : decode cX9_cutBy 74 = .ok (.iload 4, 2) := by decide +kernel
theorem dX9_cutBy_76 : decode cX9_cutBy 76 = .ok (.idiv, 1) := by decide +kernel
theorem dX9_cutBy_77 : decode cX9_cutBy 77 = .ok (.ireturn, 1) := by decide +kernel
theorem dX9_builtOf_0 : decode cX9_builtOf 0 = .ok (.aload_n 0, 1) := by decide +kernel
theorem dX9_builtOf_1 : decode cX9_builtOf 1 = .ok (.aload_n 0, 1) := by decide +kernel
theorem dX9_builtOf_2 : decode cX9_builtOf 2 = .ok (.getfield 22, 3) := by decide +kernel
theorem dX9_builtOf_5 : decode cX9_builtOf 5 = .ok (.iload_n 1, 1) := by decide +kernel
theorem dX9_builtOf_6 : decode cX9_builtOf 6 = .ok (.iaload, 1) := by decide +kernel
theorem dX9_builtOf_7 : decode cX9_builtOf 7 = .ok (.aload_n 0, 1) := by decide +kernel
theorem dX9_builtOf_8 : decode cX9_builtOf 8 = .ok (.getfield 25, 3) := by decide +kernel
theorem dX9_builtOf_11 : decode cX9_builtOf 11 = .ok (.iload_n 1, 1) := by decide +kernel
theorem dX9_builtOf_12 : decode cX9_builtOf 12 = .ok (.iaload, 1) := by decide +kernel
theorem dX9_builtOf_13 : decode cX9_builtOf 13 = .ok (.invokevirtual 93, 3) := by decide +kernel
theorem dX9_builtOf_16 : decode cX9_builtOf 16 = .ok (.aload_n 0, 1) := by decide +kernel
theorem dX9_builtOf_17 : decode cX9_builtOf 17 = .ok (.getfield 28, 3) := by decide +kernel
theorem dX9_builtOf_20 : decode cX9_builtOf 20 = .ok (.iload_n 1, 1) := by decide +kernel
theorem dX9_builtOf_21 : decode cX9_builtOf 21 = .ok (.iaload, 1) := by decide +kernel
theorem dX9_builtOf_22 : decode cX9_builtOf 22 = .ok (.iadd, 1) := by decide +kernel
theorem dX9_builtOf_23 : decode cX9_builtOf 23 = .ok (.ireturn, 1) := by decide +kernel
theorem dX9_isFloor_0 : decode cX9_isFloor 0 = .ok (.iload_n 1, 1) := by decide +kernel
theorem dX9_isFloor_1 : decode cX9_isFloor 1 = .ok (.iconst 0, 1) := by decide +kernel
theorem dX9_isFloor_2 : decode cX9_isFloor 2 = .ok (.aload_n 0, 1) := by decide +kernel
theorem dX9_isFloor_3 : decode cX9_isFloor 3 = .ok (.invokevirtual 97, 3) := by decide +kernel
theorem dX9_isFloor_6 : decode cX9_isFloor 6 = .ok (.iconst 1, 1) := by decide +kernel
theorem dX9_isFloor_7 : decode cX9_isFloor 7 = .ok (.isub, 1) := by decide +kernel
theorem dX9_isFloor_8 : decode cX9_isFloor 8 = .ok (.invokestatic 68, 3) := by decide +kernel
theorem dX9_isFloor_11 : decode cX9_isFloor 11 = .ok (.ireturn, 1) := by decide +kernel
theorem dX9_floorOf_0 : decode cX9_floorOf 0 = .ok (.iload_n 2, 1) := by decide +kernel
theorem dX9_floorOf_1 : decode cX9_floorOf 1 = .ok (.ifCond .ne 12, 3) := by decide +kernel
theorem dX9_floorOf_4 : decode cX9_floorOf 4 = .ok (.aload_n 0, 1) := by decide +kernel
theorem dX9_floorOf_5 : decode cX9_floorOf 5 = .ok (.getfield 22, 3) := by decide +kernel
theorem dX9_floorOf_8 : decode cX9_floorOf 8 = .ok (.iload_n 1, 1) := by decide +kernel
theorem dX9_floorOf_9 : decode cX9_floorOf 9 = .ok (.iaload, 1) := by decide +kernel
theorem dX9_floorOf_10 : decode cX9_floorOf 10 = .ok (.goto 68, 3) := by decide +kernel
theorem dX9_floorOf_13 : decode cX9_floorOf 13 = .ok (.iload_n 2, 1) := by decide +kernel
theorem dX9_floorOf_14 : decode cX9_floorOf 14 = .ok (.iconst 1, 1) := by decide +kernel
theorem dX9_floorOf_15 : decode cX9_floorOf 15 = .ok (.if_icmp .ne 11, 3) := by decide +kernel
theorem dX9_floorOf_18 : decode cX9_floorOf 18 = .ok (.aload_n 0, 1) := by decide +kernel
theorem dX9_floorOf_19 : decode cX9_floorOf 19 = .ok (.iload_n 1, 1) := by decide +kernel
theorem dX9_floorOf_20 : decode cX9_floorOf 20 = .ok (.invokevirtual 100, 3) := by decide +kernel
theorem dX9_floorOf_23 : decode cX9_floorOf 23 = .ok (.goto 55, 3) := by decide +kernel
theorem dX9_floorOf_26 : decode cX9_floorOf 26 = .ok (.iload_n 2, 1) := by decide +kernel
theorem dX9_floorOf_27 : decode cX9_floorOf 27 = .ok (.iconst 2, 1) := by decide +kernel
theorem dX9_floorOf_28 : decode cX9_floorOf 28 = .ok (.if_icmp .ne 14, 3) := by decide +kernel
theorem dX9_floorOf_31 : decode cX9_floorOf 31 = .ok (.aload_n 0, 1) := by decide +kernel
theorem dX9_floorOf_32 : decode cX9_floorOf 32 = .ok (.getfield 25, 3) := by decide +kernel
theorem dX9_floorOf_35 : decode cX9_floorOf 35 = .ok (.iload_n 1, 1) := by decide +kernel
theorem dX9_floorOf_36 : decode cX9_floorOf 36 = .ok (.iaload, 1) := by decide +kernel
theorem dX9_floorOf_37 : decode cX9_floorOf 37 = .ok (.iconst 3, 1) := by decide +kernel
theorem dX9_floorOf_38 : decode cX9_floorOf 38 = .ok (.idiv, 1) := by decide +kernel
theorem dX9_floorOf_39 : decode cX9_floorOf 39 = .ok (.goto 39, 3) := by decide +kernel
theorem dX9_floorOf_42 : decode cX9_floorOf 42 = .ok (.iload_n 2, 1) := by decide +kernel
theorem dX9_floorOf_43 : decode cX9_floorOf 43 = .ok (.iconst 3, 1) := by decide +kernel
theorem dX9_floorOf_44 : decode cX9_floorOf 44 = .ok (.if_icmp .ne 14, 3) := by decide +kernel
theorem dX9_floorOf_47 : decode cX9_floorOf 47 = .ok (.aload_n 0, 1) := by decide +kernel
theorem dX9_floorOf_48 : decode cX9_floorOf 48 = .ok (.getfield 25, 3) := by decide +kernel
theorem dX9_floorOf_51 : decode cX9_floorOf 51 = .ok (.iload_n 1, 1) := by decide +kernel
theorem dX9_floorOf_52 : decode cX9_floorOf 52 = .ok (.iaload, 1) := by decide +kernel
theorem dX9_floorOf_53 : decode cX9_floorOf 53 = .ok (.iconst 3, 1) := by decide +kernel
theorem dX9_floorOf_54 : decode cX9_floorOf 54 = .ok (.irem, 1) := by decide +kernel
theorem dX9_floorOf_55 : decode cX9_floorOf 55 = .ok (.goto 23, 3) := by decide +kernel
theorem dX9_floorOf_58 : decode cX9_floorOf 58 = .ok (.iload_n 2, 1) := by decide +kernel
theorem dX9_floorOf_59 : decode cX9_floorOf 59 = .ok (.iconst 4, 1) := by decide +kernel
theorem dX9_floorOf_60 : decode cX9_floorOf 60 = .ok (.if_icmp .ne 12, 3) := by decide +kernel
theorem dX9_floorOf_63 : decode cX9_floorOf 63 = .ok (.aload_n 0, 1) := by decide +kernel
theorem dX9_floorOf_64 : decode cX9_floorOf 64 = .ok (.getfield 31, 3) := by decide +kernel
theorem dX9_floorOf_67 : decode cX9_floorOf 67 = .ok (.iload_n 1, 1) := by decide +kernel
theorem dX9_floorOf_68 : decode cX9_floorOf 68 = .ok (.iaload, 1) := by decide +kernel
theorem dX9_floorOf_69 : decode cX9_floorOf 69 = .ok (.goto 9, 3) := by decide +kernel
theorem dX9_floorOf_72 : decode cX9_floorOf 72 = .ok (.aload_n 0, 1) := by decide +kernel
theorem dX9_floorOf_73 : decode cX9_floorOf 73 = .ok (.getfield 28, 3) := by decide +kernel
theorem dX9_floorOf_76 : decode cX9_floorOf 76 = .ok (.iload_n 1, 1) := by decide +kernel
theorem dX9_floorOf_77 : decode cX9_floorOf 77 = .ok (.iaload, 1) := by decide +kernel
theorem dX9_floorOf_78 : decode cX9_floorOf 78 = .ok (.ireturn, 1) := by decide +kernel
theorem dX9_floor_0 : decode cX9_floor 0 = .ok (.aload_n 0, 1) := by decide +kernel
theorem dX9_floor_1 : decode cX9_floor 1 = .ok (.iload_n 1, 1) := by decide +kernel
theorem dX9_floor_2 : decode cX9_floor 2 = .ok (.invokevirtual 103, 3) := by decide +kernel
theorem dX9_floor_5 : decode cX9_floor 5 = .ok (.ifCond .eq 21, 3) := by decide +kernel
theorem dX9_floor_8 : decode cX9_floor 8 = .ok (.iload_n 2, 1) := by decide +kernel
theorem dX9_floor_9 : decode cX9_floor 9 = .ok (.iconst 0, 1) := by decide +kernel
theorem dX9_floor_10 : decode cX9_floor 10 = .ok (.iconst 5, 1) := by decide +kernel
theorem dX9_floor_11 : decode cX9_floor 11 = .ok (.invokestatic 68, 3) := by decide +kernel
theorem dX9_floor_14 : decode cX9_floor 14 = .ok (.ifCond .eq 12, 3) := by decide +kernel
theorem dX9_floor_17 : decode cX9_floor 17 = .ok (.aload_n 0, 1) := by decide +kernel
theorem dX9_floor_18 : decode cX9_floor 18 = .ok (.iload_n 1, 1) := by decide +kernel
theorem dX9_floor_19 : decode cX9_floor 19 = .ok (.iload_n 2, 1) := by decide +kernel
theorem dX9_floor_20 : decode cX9_floor 20 = .ok (.invokevirtual 107, 3) := by decide +kernel
theorem dX9_floor_23 : decode cX9_floor 23 = .ok (.goto 5, 3) := by decide +kernel
theorem dX9_floor_26 : decode cX9_floor 26 = .ok (.ldc 110, 2) := by decide +kernel
theorem dX9_floor_28 : decode cX9_floor 28 = .ok (.ireturn, 1) := by decide +kernel
theorem dX9_cut_0 : decode cX9_cut 0 = .ok (.iload_n 1, 1) := by decide +kernel
theorem dX9_cut_1 : decode cX9_cut 1 = .ok (.iconst 0, 1) := by decide +kernel
theorem dX9_cut_2 : decode cX9_cut 2 = .ok (.ldc 111, 2) := by decide +kernel
theorem dX9_cut_4 : decode cX9_cut 4 = .ok (.invokestatic 68, 3) := by decide +kernel
theorem dX9_cut_7 : decode cX9_cut 7 = .ok (.ifCond .eq 34, 3) := by decide +kernel
theorem dX9_cut_10 : decode cX9_cut 10 = .ok (.iload_n 2, 1) := by decide +kernel
theorem dX9_cut_11 : decode cX9_cut 11 = .ok (.iconst 0, 1) := by decide +kernel
theorem dX9_cut_12 : decode cX9_cut 12 = .ok (.iconst 2, 1) := by decide +kernel
theorem dX9_cut_13 : decode cX9_cut 13 = .ok (.invokestatic 68, 3) := by decide +kernel
theorem dX9_cut_16 : decode cX9_cut 16 = .ok (.ifCond .eq 25, 3) := by decide +kernel
theorem dX9_cut_19 : decode cX9_cut 19 = .ok (.iload_n 3, 1) := by decide +kernel
theorem dX9_cut_20 : decode cX9_cut 20 = .ok (.iconst 0, 1) := by decide +kernel
theorem dX9_cut_21 : decode cX9_cut 21 = .ok (.iconst 2, 1) := by decide +kernel
theorem dX9_cut_22 : decode cX9_cut 22 = .ok (.invokestatic 68, 3) := by decide +kernel
theorem dX9_cut_25 : decode cX9_cut 25 = .ok (.ifCond .eq 16, 3) := by decide +kernel
theorem dX9_cut_28 : decode cX9_cut 28 = .ok (.aload_n 0, 1) := by decide +kernel
theorem dX9_cut_29 : decode cX9_cut 29 = .ok (.iload_n 1, 1) := by decide +kernel
theorem dX9_cut_30 : decode cX9_cut 30 = .ok (.iconst 3, 1) := by decide +kernel
theorem dX9_cut_31 : decode cX9_cut 31 = .ok (.iload_n 2, 1) := by decide +kernel
theorem dX9_cut_32 : decode cX9_cut 32 = .ok (.imul, 1) := by decide +kernel
theorem dX9_cut_33 : decode cX9_cut 33 = .ok (.iload_n 3, 1) := by decide +kernel
theorem dX9_cut_34 : decode cX9_cut 34 = .ok (.iadd, 1) := by decide +kernel
theorem dX9_cut_35 : decode cX9_cut 35 = .ok (.invokevirtual 93, 3) := by decide +kernel
theorem dX9_cut_38 : decode cX9_cut 38 = .ok (.goto 5, 3) := by decide +kernel
theorem dX9_cut_41 : decode cX9_cut 41 = .ok (.bipush (-2), 2) := by decide +kernel
theorem dX9_cut_43 : decode cX9_cut 43 = .ok (.ireturn, 1) := by decide +kernel
theorem dX9_shim_0 : decode cX9_shim 0 = .ok (.iload_n 1, 1) := by decide +kernel
theorem dX9_shim_1 : decode cX9_shim 1 = .ok (.iconst 0, 1) := by decide +kernel
theorem dX9_shim_2 : decode cX9_shim 2 = .ok (.bipush 9, 2) := by decide +kernel
theorem dX9_shim_4 : decode cX9_shim 4 = .ok (.invokestatic 68, 3) := by decide +kernel
theorem dX9_shim_7 : decode cX9_shim 7 = .ok (.ifCond .eq 14, 3) := by decide +kernel
theorem dX9_shim_10 : decode cX9_shim 10 = .ok (.iload_n 2, 1) := by decide +kernel
theorem dX9_shim_11 : decode cX9_shim 11 = .ok (.bipush (-99), 2) := by decide +kernel
theorem dX9_shim_13 : decode cX9_shim 13 = .ok (.bipush 99, 2) := by decide +kernel
theorem dX9_shim_15 : decode cX9_shim 15 = .ok (.invokestatic 68, 3) := by decide +kernel
theorem dX9_shim_18 : decode cX9_shim 18 = .ok (.ifCond .ne 6, 3) := by decide +kernel
theorem dX9_shim_21 : decode cX9_shim 21 = .ok (.ldc 110, 2) := by decide +kernel
theorem dX9_shim_23 : decode cX9_shim 23 = .ok (.ireturn, 1) := by decide +kernel
theorem dX9_shim_24 : decode cX9_shim 24 = .ok (.aload_n 0, 1) := by decide +kernel
theorem dX9_shim_25 : decode cX9_shim 25 = .ok (.getfield 28, 3) := by decide +kernel
theorem dX9_shim_28 : decode cX9_shim 28 = .ok (.iload_n 1, 1) := by decide +kernel
theorem dX9_shim_29 : decode cX9_shim 29 = .ok (.iaload, 1) := by decide +kernel
theorem dX9_shim_30 : decode cX9_shim 30 = .ok (.istore_n 3, 1) := by decide +kernel
theorem dX9_shim_31 : decode cX9_shim 31 = .ok (.aload_n 0, 1) := by decide +kernel
theorem dX9_shim_32 : decode cX9_shim 32 = .ok (.getfield 28, 3) := by decide +kernel
theorem dX9_shim_35 : decode cX9_shim 35 = .ok (.iload_n 1, 1) := by decide +kernel
theorem dX9_shim_36 : decode cX9_shim 36 = .ok (.iload_n 2, 1) := by decide +kernel
theorem dX9_shim_37 : decode cX9_shim 37 = .ok (.iastore, 1) := by decide +kernel
theorem dX9_shim_38 : decode cX9_shim 38 = .ok (.iload_n 3, 1) := by decide +kernel
theorem dX9_shim_39 : decode cX9_shim 39 = .ok (.ireturn, 1) := by decide +kernel
theorem dX9_set_0 : decode cX9_set 0 = .ok (.iload_n 1, 1) := by decide +kernel
theorem dX9_set_1 : decode cX9_set 1 = .ok (.iconst 0, 1) := by decide +kernel
theorem dX9_set_2 : decode cX9_set 2 = .ok (.iconst 3, 1) := by decide +kernel
theorem dX9_set_3 : decode cX9_set 3 = .ok (.invokestatic 68, 3) := by decide +kernel
theorem dX9_set_6 : decode cX9_set 6 = .ok (.ifCond .eq 42, 3) := by decide +kernel
theorem dX9_set_9 : decode cX9_set 9 = .ok (.iload_n 2, 1) := by decide +kernel
theorem dX9_set_10 : decode cX9_set 10 = .ok (.iload_n 1, 1) := by decide +kernel
theorem dX9_set_11 : decode cX9_set 11 = .ok (.iconst 1, 1) := by decide +kernel
theorem dX9_set_12 : decode cX9_set 12 = .ok (.if_icmp .ne 7, 3) := by decide +kernel
theorem dX9_set_15 : decode cX9_set 15 = .ok (.iconst 1, 1) := by decide +kernel
theorem dX9_set_16 : decode cX9_set 16 = .ok (.goto 4, 3) := by decide +kernel
theorem dX9_set_19 : decode cX9_set 19 = .ok (.iconst 0, 1) := by decide +kernel
theorem dX9_set_20 : decode cX9_set 20 = .ok (.iload_n 1, 1) := by decide +kernel
theorem dX9_set_21 : decode cX9_set 21 = .ok (.ifCond .ne 8, 3) := by decide +kernel
theorem dX9_set_24 : decode cX9_set 24 = .ok (.bipush 99, 2) := by decide +kernel
theorem dX9_set_26 : decode cX9_set 26 = .ok (.goto 16, 3) := by decide +kernel
theorem dX9_set_29 : decode cX9_set 29 = .ok (.iload_n 1, 1) := by decide +kernel
theorem dX9_set_30 : decode cX9_set 30 = .ok (.iconst 1, 1) := by decide +kernel
theorem dX9_set_31 : decode cX9_set 31 = .ok (.if_icmp .ne 9, 3) := by decide +kernel
theorem dX9_set_34 : decode cX9_set 34 = .ok (.sipush 999, 3) := by decide +kernel
theorem dX9_set_37 : decode cX9_set 37 = .ok (.goto 5, 3) := by decide +kernel
theorem dX9_set_40 : decode cX9_set 40 = .ok (.bipush 9, 2) := by decide +kernel
theorem dX9_set_42 : decode cX9_set 42 = .ok (.invokestatic 68, 3) := by decide +kernel
theorem dX9_set_45 : decode cX9_set 45 = .ok (.ifCond .ne 6, 3) := by decide +kernel
theorem dX9_set_48 : decode cX9_set 48 = .ok (.bipush (-2), 2) := by decide +kernel
theorem dX9_set_50 : decode cX9_set 50 = .ok (.ireturn, 1) := by decide +kernel
theorem dX9_set_51 : decode cX9_set 51 = .ok (.aload_n 0, 1) := by decide +kernel
theorem dX9_set_52 : decode cX9_set 52 = .ok (.getfield 16, 3) := by decide +kernel
theorem dX9_set_55 : decode cX9_set 55 = .ok (.iload_n 1, 1) := by decide +kernel
theorem dX9_set_56 : decode cX9_set 56 = .ok (.iaload, 1) := by decide +kernel
theorem dX9_set_57 : decode cX9_set 57 = .ok (.istore_n 3, 1) := by decide +kernel
theorem dX9_set_58 : decode cX9_set 58 = .ok (.aload_n 0, 1) := by decide +kernel
theorem dX9_set_59 : decode cX9_set 59 = .ok (.getfield 16, 3) := by decide +kernel
theorem dX9_set_62 : decode cX9_set 62 = .ok (.iload_n 1, 1) := by decide +kernel
theorem dX9_set_63 : decode cX9_set 63 = .ok (.iload_n 2, 1) := by decide +kernel
theorem dX9_set_64 : decode cX9_set 64 = .ok (.iastore, 1) := by decide +kernel
theorem dX9_set_65 : decode cX9_set 65 = .ok (.iload_n 3, 1) := by decide +kernel
theorem dX9_set_66 : decode cX9_set 66 = .ok (.ireturn, 1) := by decide +kernel
theorem dX9_sillOf_0 : decode cX9_sillOf 0 = .ok (.iconst 0, 1) := by decide +kernel
theorem dX9_sillOf_1 : decode cX9_sillOf 1 = .ok (.istore_n 3, 1) := by decide +kernel
theorem dX9_sillOf_2 : decode cX9_sillOf 2 = .ok (.iconst 0, 1) := by decide +kernel
theorem dX9_sillOf_3 : decode cX9_sillOf 3 = .ok (.istore 4, 2) := by decide +kernel
theorem dX9_sillOf_5 : decode cX9_sillOf 5 = .ok (.iconst 0, 1) := by decide +kernel
theorem dX9_sillOf_6 : decode cX9_sillOf 6 = .ok (.istore 5, 2) := by decide +kernel
theorem dX9_sillOf_8 : decode cX9_sillOf 8 = .ok (.iload 5, 2) := by decide +kernel
theorem dX9_sillOf_10 : decode cX9_sillOf 10 = .ok (.iload_n 1, 1) := by decide +kernel
theorem dX9_sillOf_11 : decode cX9_sillOf 11 = .ok (.if_icmp .ge 30, 3) := by decide +kernel
theorem dX9_sillOf_14 : decode cX9_sillOf 14 = .ok (.iload_n 3, 1) := by decide +kernel
theorem dX9_sillOf_15 : decode cX9_sillOf 15 = .ok (.aload_n 0, 1) := by decide +kernel
theorem dX9_sillOf_16 : decode cX9_sillOf 16 = .ok (.iload 5, 2) := by decide +kernel
theorem dX9_sillOf_18 : decode cX9_sillOf 18 = .ok (.invokevirtual 100, 3) := by decide +kernel
theorem dX9_sillOf_21 : decode cX9_sillOf 21 = .ok (.iadd, 1) := by decide +kernel
theorem dX9_sillOf_22 : decode cX9_sillOf 22 = .ok (.istore_n 3, 1) := by decide +kernel
theorem dX9_sillOf_23 : decode cX9_sillOf 23 = .ok (.iload 4, 2) := by decide +kernel
theorem dX9_sillOf_25 : decode cX9_sillOf 25 = .ok (.aload_n 0, 1) := by decide +kernel
theorem dX9_sillOf_26 : decode cX9_sillOf 26 = .ok (.getfield 22, 3) := by decide +kernel
theorem dX9_sillOf_29 : decode cX9_sillOf 29 = .ok (.iload 5, 2) := by decide +kernel
theorem dX9_sillOf_31 : decode cX9_sillOf 31 = .ok (.iaload, 1) := by decide +kernel
theorem dX9_sillOf_32 : decode cX9_sillOf 32 = .ok (.iadd, 1) := by decide +kernel
theorem dX9_sillOf_33 : decode cX9_sillOf 33 = .ok (.istore 4, 2) := by decide +kernel
theorem dX9_sillOf_35 : decode cX9_sillOf 35 = .ok (.iinc 5 1, 3) := by decide +kernel
theorem dX9_sillOf_38 : decode cX9_sillOf 38 = .ok (.goto (-30), 3) := by decide +kernel
theorem dX9_sillOf_41 : decode cX9_sillOf 41 = .ok (.iload_n 2, 1) := by decide +kernel
theorem dX9_sillOf_42 : decode cX9_sillOf 42 = .ok (.ifCond .ne 7, 3) := by decide +kernel
theorem dX9_sillOf_45 : decode cX9_sillOf 45 = .ok (.iload_n 3, 1) := by decide +kernel
theorem dX9_sillOf_46 : decode cX9_sillOf 46 = .ok (.goto 17, 3) := by decide +kernel
theorem dX9_sillOf_49 : decode cX9_sillOf 49 = .ok (.iload_n 2, 1) := by decide +kernel
theorem dX9_sillOf_50 : decode cX9_sillOf 50 = .ok (.iconst 1, 1) := by decide +kernel
theorem dX9_sillOf_51 : decode cX9_sillOf 51 = .ok (.if_icmp .ne 8, 3) := by decide +kernel
theorem dX9_sillOf_54 : decode cX9_sillOf 54 = .ok (.iload 4, 2) := by decide +kernel
theorem dX9_sillOf_56 : decode cX9_sillOf 56 = .ok (.goto 7, 3) := by decide +kernel
theorem dX9_sillOf_59 : decode cX9_sillOf 59 = .ok (.iload_n 3, 1) := by decide +kernel
theorem dX9_sillOf_60 : decode cX9_sillOf 60 = .ok (.iload 4, 2) := by decide +kernel
theorem dX9_sillOf_62 : decode cX9_sillOf 62 = .ok (.isub, 1) := by decide +kernel
theorem dX9_sillOf_63 : decode cX9_sillOf 63 = .ok (.ireturn, 1) := by decide +kernel
theorem dX9_sill_0 : decode cX9_sill 0 = .ok (.iload_n 1, 1) := by decide +kernel
theorem dX9_sill_1 : decode cX9_sill 1 = .ok (.iconst 0, 1) := by decide +kernel
theorem dX9_sill_2 : decode cX9_sill 2 = .ok (.aload_n 0, 1) := by decide +kernel
theorem dX9_sill_3 : decode cX9_sill 3 = .ok (.invokevirtual 97, 3) := by decide +kernel
theorem dX9_sill_6 : decode cX9_sill 6 = .ok (.invokestatic 68, 3) := by decide +kernel
theorem dX9_sill_9 : decode cX9_sill 9 = .ok (.ifCond .eq 21, 3) := by decide +kernel
theorem dX9_sill_12 : decode cX9_sill 12 = .ok (.iload_n 2, 1) := by decide +kernel
theorem dX9_sill_13 : decode cX9_sill 13 = .ok (.iconst 0, 1) := by decide +kernel
theorem dX9_sill_14 : decode cX9_sill 14 = .ok (.iconst 2, 1) := by decide +kernel
theorem dX9_sill_15 : decode cX9_sill 15 = .ok (.invokestatic 68, 3) := by decide +kernel
theorem dX9_sill_18 : decode cX9_sill 18 = .ok (.ifCond .eq 12, 3) := by decide +kernel
theorem dX9_sill_21 : decode cX9_sill 21 = .ok (.aload_n 0, 1) := by decide +kernel
theorem dX9_sill_22 : decode cX9_sill 22 = .ok (.iload_n 1, 1) := by decide +kernel

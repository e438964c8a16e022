theorem dX8_put_4 : decode cX8_put 4 = .ok (.invokevirtual 257, 3) := by decide +kernel
theorem dX8_put_7 : decode cX8_put 7 = .ok (.istore 5, 2) := by decide +kernel
theorem dX8_put_9 : decode cX8_put 9 = .ok (.iload 5, 2) := by decide +kernel
theorem dX8_put_11 : decode cX8_put 11 = .ok (.ifCond .eq 6, 3) := by decide +kernel
theorem dX8_put_14 : decode cX8_put 14 = .ok (.iload 5, 2) := by decide +kernel
theorem dX8_put_16 : decode cX8_put 16 = .ok (.ireturn, 1) := by decide +kernel
theorem dX8_put_17 : decode cX8_put 17 = .ok (.aload_n 0, 1) := by decide +kernel
theorem dX8_put_18 : decode cX8_put 18 = .ok (.getfield 70, 3) := by decide +kernel
theorem dX8_put_21 : decode cX8_put 21 = .ok (.iload_n 1, 1) := by decide +kernel
theorem dX8_put_22 : decode cX8_put 22 = .ok (.aaload, 1) := by decide +kernel
theorem dX8_put_23 : decode cX8_put 23 = .ok (.iload_n 3, 1) := by decide +kernel
theorem dX8_put_24 : decode cX8_put 24 = .ok (.iload 4, 2) := by decide +kernel
theorem dX8_put_26 : decode cX8_put 26 = .ok (.invokevirtual 260, 3) := by decide +kernel
theorem dX8_put_29 : decode cX8_put 29 = .ok (.iconst 1, 1) := by decide +kernel
theorem dX8_put_30 : decode cX8_put 30 = .ok (.ireturn, 1) := by decide +kernel
theorem dX8_get_0 : decode cX8_get 0 = .ok (.aload_n 0, 1) := by decide +kernel
theorem dX8_get_1 : decode cX8_get 1 = .ok (.iload_n 1, 1) := by decide +kernel
theorem dX8_get_2 : decode cX8_get 2 = .ok (.iload_n 2, 1) := by decide +kernel
theorem dX8_get_3 : decode cX8_get 3 = .ok (.iload_n 3, 1) := by decide +kernel
theorem dX8_get_4 : decode cX8_get 4 = .ok (.invokevirtual 257, 3) := by decide +kernel
theorem dX8_get_7 : decode cX8_get 7 = .ok (.ifCond .eq 9, 3) := by decide +kernel
theorem dX8_get_10 : decode cX8_get 10 = .ok (.ldc_w 265, 3) := by decide +kernel
theorem dX8_get_13 : decode cX8_get 13 = .ok (.goto 14, 3) := by decide +kernel
theorem dX8_get_16 : decode cX8_get 16 = .ok (.aload_n 0, 1) := by decide +kernel
theorem dX8_get_17 : decode cX8_get 17 = .ok (.getfield 70, 3) := by decide +kernel
theorem dX8_get_20 : decode cX8_get 20 = .ok (.iload_n 1, 1) := by decide +kernel
theorem dX8_get_21 : decode cX8_get 21 = .ok (.aaload, 1) := by decide +kernel
theorem dX8_get_22 : decode cX8_get 22 = .ok (.getfield 191, 3) := by decide +kernel
theorem dX8_get_25 : decode cX8_get 25 = .ok (.iload_n 3, 1) := by decide +kernel
theorem dX8_get_26 : decode cX8_get 26 = .ok (.iaload, 1) := by decide +kernel
theorem dX8_get_27 : decode cX8_get 27 = .ok (.ireturn, 1) := by decide +kernel
theorem dX8_copy_0 : decode cX8_copy 0 = .ok (.iload_n 1, 1) := by decide +kernel
theorem dX8_copy_1 : decode cX8_copy 1 = .ok (.invokestatic 244, 3) := by decide +kernel
theorem dX8_copy_4 : decode cX8_copy 4 = .ok (.ifCond .eq 10, 3) := by decide +kernel
theorem dX8_copy_7 : decode cX8_copy 7 = .ok (.iload_n 3, 1) := by decide +kernel
theorem dX8_copy_8 : decode cX8_copy 8 = .ok (.invokestatic 244, 3) := by decide +kernel
theorem dX8_copy_11 : decode cX8_copy 11 = .ok (.ifCond .ne 6, 3) := by decide +kernel
theorem dX8_copy_14 : decode cX8_copy 14 = .ok (.bipush (-2), 2) := by decide +kernel
theorem dX8_copy_16 : decode cX8_copy 16 = .ok (.ireturn, 1) := by decide +kernel
theorem dX8_copy_17 : decode cX8_copy 17 = .ok (.aload_n 0, 1) := by decide +kernel
theorem dX8_copy_18 : decode cX8_copy 18 = .ok (.getfield 70, 3) := by decide +kernel
theorem dX8_copy_21 : decode cX8_copy 21 = .ok (.iload_n 1, 1) := by decide +kernel
theorem dX8_copy_22 : decode cX8_copy 22 = .ok (.aaload, 1) := by decide +kernel
theorem dX8_copy_23 : decode cX8_copy 23 = .ok (.astore 6, 2) := by decide +kernel
theorem dX8_copy_25 : decode cX8_copy 25 = .ok (.aload_n 0, 1) := by decide +kernel
theorem dX8_copy_26 : decode cX8_copy 26 = .ok (.getfield 70, 3) := by decide +kernel
theorem dX8_copy_29 : decode cX8_copy 29 = .ok (.iload_n 3, 1) := by decide +kernel
theorem dX8_copy_30 : decode cX8_copy 30 = .ok (.aaload, 1) := by decide +kernel
theorem dX8_copy_31 : decode cX8_copy 31 = .ok (.astore 7, 2) := by decide +kernel
theorem dX8_copy_33 : decode cX8_copy 33 = .ok (.aload 6, 2) := by decide +kernel
theorem dX8_copy_35 : decode cX8_copy 35 = .ok (.invokevirtual 266, 3) := by decide +kernel
theorem dX8_copy_38 : decode cX8_copy 38 = .ok (.ifCond .ne 11, 3) := by decide +kernel
theorem dX8_copy_41 : decode cX8_copy 41 = .ok (.aload 7, 2) := by decide +kernel
theorem dX8_copy_43 : decode cX8_copy 43 = .ok (.invokevirtual 266, 3) := by decide +kernel
theorem dX8_copy_46 : decode cX8_copy 46 = .ok (.ifCond .eq 9, 3) := by decide +kernel
theorem dX8_copy_49 : decode cX8_copy 49 = .ok (.aload_n 0, 1) := by decide +kernel
theorem dX8_copy_50 : decode cX8_copy 50 = .ok (.iconst 1, 1) := by decide +kernel
theorem dX8_copy_51 : decode cX8_copy 51 = .ok (.invokevirtual 250, 3) := by decide +kernel
theorem dX8_copy_54 : decode cX8_copy 54 = .ok (.ireturn, 1) := by decide +kernel
theorem dX8_copy_55 : decode cX8_copy 55 = .ok (.aload 6, 2) := by decide +kernel
theorem dX8_copy_57 : decode cX8_copy 57 = .ok (.getfield 270, 3) := by decide +kernel
theorem dX8_copy_60 : decode cX8_copy 60 = .ok (.aload 7, 2) := by decide +kernel
theorem dX8_copy_62 : decode cX8_copy 62 = .ok (.getfield 270, 3) := by decide +kernel
theorem dX8_copy_65 : decode cX8_copy 65 = .ok (.if_icmp .eq 9, 3) := by decide +kernel
theorem dX8_copy_68 : decode cX8_copy 68 = .ok (.aload_n 0, 1) := by decide +kernel
theorem dX8_copy_69 : decode cX8_copy 69 = .ok (.iconst 4, 1) := by decide +kernel
theorem dX8_copy_70 : decode cX8_copy 70 = .ok (.invokevirtual 250, 3) := by decide +kernel
theorem dX8_copy_73 : decode cX8_copy 73 = .ok (.ireturn, 1) := by decide +kernel
theorem dX8_copy_74 : decode cX8_copy 74 = .ok (.aload 6, 2) := by decide +kernel
theorem dX8_copy_76 : decode cX8_copy 76 = .ok (.iload_n 2, 1) := by decide +kernel
theorem dX8_copy_77 : decode cX8_copy 77 = .ok (.iload 5, 2) := by decide +kernel
theorem dX8_copy_79 : decode cX8_copy 79 = .ok (.invokevirtual 273, 3) := by decide +kernel
theorem dX8_copy_82 : decode cX8_copy 82 = .ok (.ifCond .eq 15, 3) := by decide +kernel
theorem dX8_copy_85 : decode cX8_copy 85 = .ok (.aload 7, 2) := by decide +kernel
theorem dX8_copy_87 : decode cX8_copy 87 = .ok (.iload 4, 2) := by decide +kernel
theorem dX8_copy_89 : decode cX8_copy 89 = .ok (.iload 5, 2) := by decide +kernel
theorem dX8_copy_91 : decode cX8_copy 91 = .ok (.invokevirtual 273, 3) := by decide +kernel
theorem dX8_copy_94 : decode cX8_copy 94 = .ok (.ifCond .ne 9, 3) := by decide +kernel
theorem dX8_copy_97 : decode cX8_copy 97 = .ok (.aload_n 0, 1) := by decide +kernel
theorem dX8_copy_98 : decode cX8_copy 98 = .ok (.iconst 2, 1) := by decide +kernel
theorem dX8_copy_99 : decode cX8_copy 99 = .ok (.invokevirtual 250, 3) := by decide +kernel
theorem dX8_copy_102 : decode cX8_copy 102 = .ok (.ireturn, 1) := by decide +kernel
theorem dX8_copy_103 : decode cX8_copy 103 = .ok (.aload 6, 2) := by decide +kernel
theorem dX8_copy_105 : decode cX8_copy 105 = .ok (.getfield 191, 3) := by decide +kernel
theorem dX8_copy_108 : decode cX8_copy 108 = .ok (.iload_n 2, 1) := by decide +kernel
theorem dX8_copy_109 : decode cX8_copy 109 = .ok (.aload 7, 2) := by decide +kernel
theorem dX8_copy_111 : decode cX8_copy 111 = .ok (.getfield 191, 3) := by decide +kernel
theorem dX8_copy_114 : decode cX8_copy 114 = .ok (.iload 4, 2) := by decide +kernel
theorem dX8_copy_116 : decode cX8_copy 116 = .ok (.iload 5, 2) := by decide +kernel
theorem dX8_copy_118 : decode cX8_copy 118 = .ok (.invokestatic 277, 3) := by decide +kernel
theorem dX8_copy_121 : decode cX8_copy 121 = .ok (.iconst 1, 1) := by decide +kernel
theorem dX8_copy_122 : decode cX8_copy 122 = .ok (.ireturn, 1) := by decide +kernel
theorem dX8_write_0 : decode cX8_write 0 = .ok (.aload_n 0, 1) := by decide +kernel
theorem dX8_write_1 : decode cX8_write 1 = .ok (.iload_n 1, 1) := by decide +kernel
theorem dX8_write_2 : decode cX8_write 2 = .ok (.invokevirtual 181, 3) := by decide +kernel
theorem dX8_write_5 : decode cX8_write 5 = .ok (.istore_n 2, 1) := by decide +kernel
theorem dX8_write_6 : decode cX8_write 6 = .ok (.iload_n 2, 1) := by decide +kernel
theorem dX8_write_7 : decode cX8_write 7 = .ok (.ifCond .eq 5, 3) := by decide +kernel
theorem dX8_write_10 : decode cX8_write 10 = .ok (.iload_n 2, 1) := by decide +kernel
theorem dX8_write_11 : decode cX8_write 11 = .ok (.ireturn, 1) := by decide +kernel
theorem dX8_write_12 : decode cX8_write 12 = .ok (.aload_n 0, 1) := by decide +kernel
theorem dX8_write_13 : decode cX8_write 13 = .ok (.getfield 70, 3) := by decide +kernel
theorem dX8_write_16 : decode cX8_write 16 = .ok (.iload_n 1, 1) := by decide +kernel
theorem dX8_write_17 : decode cX8_write 17 = .ok (.aaload, 1) := by decide +kernel
theorem dX8_write_18 : decode cX8_write 18 = .ok (.getfield 184, 3) := by decide +kernel
theorem dX8_write_21 : decode cX8_write 21 = .ok (.aload_n 0, 1) := by decide +kernel
theorem dX8_write_22 : decode cX8_write 22 = .ok (.getfield 23, 3) := by decide +kernel
theorem dX8_write_25 : decode cX8_write 25 = .ok (.getfield 152, 3) := by decide +kernel
theorem dX8_write_28 : decode cX8_write 28 = .ok (.invokestatic 187, 3) := by decide +kernel
theorem dX8_write_31 : decode cX8_write 31 = .ok (.istore_n 3, 1) := by decide +kernel
theorem dX8_write_32 : decode cX8_write 32 = .ok (.iconst 0, 1) := by decide +kernel
theorem dX8_write_33 : decode cX8_write 33 = .ok (.istore 4, 2) := by decide +kernel
theorem dX8_write_35 : decode cX8_write 35 = .ok (.iload 4, 2) := by decide +kernel
theorem dX8_write_37 : decode cX8_write 37 = .ok (.iload_n 3, 1) := by decide +kernel
theorem dX8_write_38 : decode cX8_write 38 = .ok (.if_icmp .ge 29, 3) := by decide +kernel
theorem dX8_write_41 : decode cX8_write 41 = .ok (.aload_n 0, 1) := by decide +kernel
theorem dX8_write_42 : decode cX8_write 42 = .ok (.getfield 70, 3) := by decide +kernel
theorem dX8_write_45 : decode cX8_write 45 = .ok (.iload_n 1, 1) := by decide +kernel
theorem dX8_write_46 : decode cX8_write 46 = .ok (.aaload, 1) := by decide +kernel
theorem dX8_write_47 : decode cX8_write 47 = .ok (.iload 4, 2) := by decide +kernel
theorem dX8_write_49 : decode cX8_write 49 = .ok (.aload_n 0, 1) := by decide +kernel
theorem dX8_write_50 : decode cX8_write 50 = .ok (.getfield 32, 3) := by decide +kernel
theorem dX8_write_53 : decode cX8_write 53 = .ok (.iload 4, 2) := by decide +kernel
theorem dX8_write_55 : decode cX8_write 55 = .ok (.invokevirtual 111, 3) := by decide +kernel
theorem dX8_write_58 : decode cX8_write 58 = .ok (.invokevirtual 260, 3) := by decide +kernel
theorem dX8_write_61 : decode cX8_write 61 = .ok (.iinc 4 1, 3) := by decide +kernel
theorem dX8_write_64 : decode cX8_write 64 = .ok (.goto (-29), 3) := by decide +kernel
theorem dX8_write_67 : decode cX8_write 67 = .ok (.iload_n 3, 1) := by decide +kernel
theorem dX8_write_68 : decode cX8_write 68 = .ok (.ireturn, 1) := by decide +kernel
theorem dX8_count_0 : decode cX8_count 0 = .ok (.iload_n 1, 1) := by decide +kernel
theorem dX8_count_1 : decode cX8_count 1 = .ok (.tableswitch 124 0 8 #[51, 59, 67, 83, 91, 98, 105, 112, 119], 51) := by decide +kernel
theorem dX8_count_52 : decode cX8_count 52 = .ok (.aload_n 0, 1) := by decide +kernel
theorem dX8_count_53 : decode cX8_count 53 = .ok (.getfield 23, 3) := by decide +kernel
theorem dX8_count_56 : decode cX8_count 56 = .ok (.getfield 152, 3) := by decide +kernel
theorem dX8_count_59 : decode cX8_count 59 = .ok (.ireturn, 1) := by decide +kernel
theorem dX8_count_60 : decode cX8_count 60 = .ok (.aload_n 0, 1) := by decide +kernel
theorem dX8_count_61 : decode cX8_count 61 = .ok (.getfield 23, 3) := by decide +kernel
theorem dX8_count_64 : decode cX8_count 64 = .ok (.getfield 90, 3) := by decide +kernel
theorem dX8_count_67 : decode cX8_count 67 = .ok (.ireturn, 1) := by decide +kernel
theorem dX8_count_68 : decode cX8_count 68 = .ok (.aload_n 0, 1) := by decide +kernel
theorem dX8_count_69 : decode cX8_count 69 = .ok (.getfield 32, 3) := by decide +kernel
theorem dX8_count_72 : decode cX8_count 72 = .ok (.getfield 146, 3) := by decide +kernel
theorem dX8_count_75 : decode cX8_count 75 = .ok (.aload_n 0, 1) := by decide +kernel
theorem dX8_count_76 : decode cX8_count 76 = .ok (.getfield 23, 3) := by decide +kernel
theorem dX8_count_79 : decode cX8_count 79 = .ok (.getfield 152, 3) := by decide +kernel
theorem dX8_count_82 : decode cX8_count 82 = .ok (.iaload, 1) := by decide +kernel
theorem dX8_count_83 : decode cX8_count 83 = .ok (.ireturn, 1) := by decide +kernel
theorem dX8_count_84 : decode cX8_count 84 = .ok (.aload_n 0, 1) := by decide +kernel
theorem dX8_count_85 : decode cX8_count 85 = .ok (.getfield 41, 3) := by decide +kernel
theorem dX8_count_88 : decode cX8_count 88 = .ok (.invokevirtual 283, 3) := by decide +kernel
theorem dX8_count_91 : decode cX8_count 91 = .ok (.ireturn, 1) := by decide +kernel
theorem dX8_count_92 : decode cX8_count 92 = .ok (.aload_n 0, 1) := by decide +kernel
theorem dX8_count_93 : decode cX8_count 93 = .ok (.getfield 7, 3) := by decide +kernel
theorem dX8_count_96 : decode cX8_count 96 = .ok (.iconst 0, 1) := by decide +kernel
theorem dX8_count_97 : decode cX8_count 97 = .ok (.iaload, 1) := by decide +kernel
theorem dX8_count_98 : decode cX8_count 98 = .ok (.ireturn, 1) := by decide +kernel
theorem dX8_count_99 : decode cX8_count 99 = .ok (.aload_n 0, 1) := by decide +kernel
theorem dX8_count_100 : decode cX8_count 100 = .ok (.getfield 7, 3) := by decide +kernel
theorem dX8_count_103 : decode cX8_count 103 = .ok (.iconst 1, 1) := by decide +kernel
theorem dX8_count_104 : decode cX8_count 104 = .ok (.iaload, 1) := by decide +kernel
theorem dX8_count_105 : decode cX8_count 105 = .ok (.ireturn, 1) := by decide +kernel
theorem dX8_count_106 : decode cX8_count 106 = .ok (.aload_n 0, 1) := by decide +kernel
theorem dX8_count_107 : decode cX8_count 107 = .ok (.getfield 7, 3) := by decide +kernel
theorem dX8_count_110 : decode cX8_count 110 = .ok (.iconst 2, 1) := by decide +kernel
theorem dX8_count_111 : decode cX8_count 111 = .ok (.iaload, 1) := by decide +kernel
theorem dX8_count_112 : decode cX8_count 112 = .ok (.ireturn, 1) := by decide +kernel
theorem dX8_count_113 : decode cX8_count 113 = .ok (.aload_n 0, 1) := by decide +kernel
theorem dX8_count_114 : decode cX8_count 114 = .ok (.getfield 7, 3) := by decide +kernel
theorem dX8_count_117 : decode cX8_count 117 = .ok (.iconst 3, 1) := by decide +kernel
theorem dX8_count_118 : decode cX8_count 118 = .ok (.iaload, 1) := by decide +kernel
theorem dX8_count_119 : decode cX8_count 119 = .ok (.ireturn, 1) := by decide +kernel
theorem dX8_count_120 : decode cX8_count 120 = .ok (.aload_n 0, 1) := by decide +kernel
theorem dX8_count_121 : decode cX8_count 121 = .ok (.getfield 286, 3) := by decide +kernel
theorem dX8_count_124 : decode cX8_count 124 = .ok (.ireturn, 1) := by decide +kernel
theorem dX8_count_125 : decode cX8_count 125 = .ok (.bipush (-2), 2) := by decide +kernel
theorem dX8_count_127 : decode cX8_count 127 = .ok (.ireturn, 1) := by decide +kernel
theorem dX8_digest_0 : decode cX8_digest 0 = .ok (.ldc2_w 289, 3) := by decide +kernel
theorem dX8_digest_3 : decode cX8_digest 3 = .ok (.lstore_n 1, 1) := by decide +kernel
theorem dX8_digest_4 : decode cX8_digest 4 = .ok (.iconst 0, 1) := by decide +kernel
theorem dX8_digest_5 : decode cX8_digest 5 = .ok (.istore_n 3, 1) := by decide +kernel
theorem dX8_digest_6 : decode cX8_digest 6 = .ok (.iload_n 3, 1) := by decide +kernel
theorem dX8_digest_7 : decode cX8_digest 7 = .ok (.bipush 7, 2) := by decide +kernel
theorem dX8_digest_9 : decode cX8_digest 9 = .ok (.if_icmp .gt 20, 3) := by decide +kernel
theorem dX8_digest_12 : decode cX8_digest 12 = .ok (.lload_n 1, 1) := by decide +kernel
theorem dX8_digest_13 : decode cX8_digest 13 = .ok (.aload_n 0, 1) := by decide +kernel
theorem dX8_digest_14 : decode cX8_digest 14 = .ok (.iload_n 3, 1) := by decide +kernel
theorem dX8_digest_15 : decode cX8_digest 15 = .ok (.invokevirtual 291, 3) := by decide +kernel
theorem dX8_digest_18 : decode cX8_digest 18 = .ok (.i2l, 1) := by decide +kernel
theorem dX8_digest_19 : decode cX8_digest 19 = .ok (.invokestatic 294, 3) := by decide +kernel
theorem dX8_digest_22 : decode cX8_digest 22 = .ok (.lstore_n 1, 1) := by decide +kernel
theorem dX8_digest_23 : decode cX8_digest 23 = .ok (.iinc 3 1, 3) := by decide +kernel
theorem dX8_digest_26 : decode cX8_digest 26 = .ok (.goto (-20), 3) := by decide +kernel
theorem dX8_digest_29 : decode cX8_digest 29 = .ok (.lload_n 1, 1) := by decide +kernel
theorem dX8_digest_30 : decode cX8_digest 30 = .ok (.aload_n 0, 1) := by decide +kernel
theorem dX8_digest_31 : decode cX8_digest 31 = .ok (.invokevirtual 298, 3) := by decide +kernel
theorem dX8_digest_34 : decode cX8_digest 34 = .ok (.i2l, 1) := by decide +kernel
theorem dX8_digest_35 : decode cX8_digest 35 = .ok (.invokestatic 294, 3) := by decide +kernel
theorem dX8_digest_38 : decode cX8_digest 38 = .ok (.lstore_n 1, 1) := by decide +kernel
theorem dX8_digest_39 : decode cX8_digest 39 = .ok (.iconst 0, 1) := by decide +kernel
theorem dX8_digest_40 : decode cX8_digest 40 = .ok (.istore_n 3, 1) := by decide +kernel
theorem dX8_digest_41 : decode cX8_digest 41 = .ok (.iload_n 3, 1) := by decide +kernel
theorem dX8_digest_42 : decode cX8_digest 42 = .ok (.aload_n 0, 1) := by decide +kernel
theorem dX8_digest_43 : decode cX8_digest 43 = .ok (.getfield 23, 3) := by decide +kernel
theorem dX8_digest_46 : decode cX8_digest 46 = .ok (.getfield 152, 3) := by decide +kernel
theorem dX8_digest_49 : decode cX8_digest 49 = .ok (.if_icmp .ge 16, 3) := by decide +kernel
theorem dX8_digest_52 : decode cX8_digest 52 = .ok (.aload_n 0, 1) := by decide +kernel
theorem dX8_digest_53 : decode cX8_digest 53 = .ok (.lload_n 1, 1) := by decide +kernel
theorem dX8_digest_54 : decode cX8_digest 54 = .ok (.iload_n 3, 1) := by decide +kernel
theorem dX8_digest_55 : decode cX8_digest 55 = .ok (.invokevirtual 300, 3) := by decide +kernel
theorem dX8_digest_58 : decode cX8_digest 58 = .ok (.lstore_n 1, 1) := by decide +kernel
theorem dX8_digest_59 : decode cX8_digest 59 = .ok (.iinc 3 1, 3) := by decide +kernel
theorem dX8_digest_62 : decode cX8_digest 62 = .ok (.goto (-21), 3) := by decide +kernel
theorem dX8_digest_65 : decode cX8_digest 65 = .ok (.lload_n 1, 1) := by decide +kernel
theorem dX8_digest_66 : decode cX8_digest 66 = .ok (.aload_n 0, 1) := by decide +kernel
theorem dX8_digest_67 : decode cX8_digest 67 = .ok (.aload_n 0, 1) := by decide +kernel
theorem dX8_digest_68 : decode cX8_digest 68 = .ok (.getfield 23, 3) := by decide +kernel
theorem dX8_digest_71 : decode cX8_digest 71 = .ok (.getfield 152, 3) := by decide +kernel
theorem dX8_digest_74 : decode cX8_digest 74 = .ok (.iconst 0, 1) := by decide +kernel
theorem dX8_digest_75 : decode cX8_digest 75 = .ok (.invokevirtual 304, 3) := by decide +kernel
theorem dX8_digest_78 : decode cX8_digest 78 = .ok (.i2l, 1) := by decide +kernel
theorem dX8_digest_79 : decode cX8_digest 79 = .ok (.invokestatic 294, 3) := by decide +kernel
theorem dX8_digest_82 : decode cX8_digest 82 = .ok (.lstore_n 1, 1) := by decide +kernel
theorem dX8_digest_83 : decode cX8_digest 83 = .ok (.lload_n 1, 1) := by decide +kernel
theorem dX8_digest_84 : decode cX8_digest 84 = .ok (.aload_n 0, 1) := by decide +kernel
theorem dX8_digest_85 : decode cX8_digest 85 = .ok (.aload_n 0, 1) := by decide +kernel
theorem dX8_digest_86 : decode cX8_digest 86 = .ok (.getfield 23, 3) := by decide +kernel
theorem dX8_digest_89 : decode cX8_digest 89 = .ok (.getfield 152, 3) := by decide +kernel
theorem dX8_digest_92 : decode cX8_digest 92 = .ok (.iconst 2, 1) := by decide +kernel
theorem dX8_digest_93 : decode cX8_digest 93 = .ok (.invokevirtual 304, 3) := by decide +kernel
theorem dX8_digest_96 : decode cX8_digest 96 = .ok (.i2l, 1) := by decide +kernel
theorem dX8_digest_97 : decode cX8_digest 97 = .ok (.invokestatic 294, 3) := by decide +kernel
theorem dX8_digest_100 : decode cX8_digest 100 = .ok (.lstore_n 1, 1) := by decide +kernel
theorem dX8_digest_101 : decode cX8_digest 101 = .ok (.lload_n 1, 1) := by decide +kernel
theorem dX8_digest_102 : decode cX8_digest 102 = .ok (.aload_n 0, 1) := by decide +kernel
theorem dX8_digest_103 : decode cX8_digest 103 = .ok (.invokevirtual 307, 3) := by decide +kernel
theorem dX8_digest_106 : decode cX8_digest 106 = .ok (.i2l, 1) := by decide +kernel
theorem dX8_digest_107 : decode cX8_digest 107 = .ok (.invokestatic 294, 3) := by decide +kernel
theorem dX8_digest_110 : decode cX8_digest 110 = .ok (.lstore_n 1, 1) := by decide +kernel
theorem dX8_digest_111 : decode cX8_digest 111 = .ok (.iconst 0, 1) := by decide +kernel
theorem dX8_digest_112 : decode cX8_digest 112 = .ok (.istore_n 3, 1) := by decide +kernel
theorem dX8_digest_113 : decode cX8_digest 113 = .ok (.iload_n 3, 1) := by decide +kernel
theorem dX8_digest_114 : decode cX8_digest 114 = .ok (.iconst 3, 1) := by decide +kernel
theorem dX8_digest_115 : decode cX8_digest 115 = .ok (.if_icmp .ge 16, 3) := by decide +kernel
theorem dX8_digest_118 : decode cX8_digest 118 = .ok (.aload_n 0, 1) := by decide +kernel
theorem dX8_digest_119 : decode cX8_digest 119 = .ok (.lload_n 1, 1) := by decide +kernel
theorem dX8_digest_120 : decode cX8_digest 120 = .ok (.iload_n 3, 1) := by decide +kernel
theorem dX8_digest_121 : decode cX8_digest 121 = .ok (.invokevirtual 310, 3) := by decide +kernel
theorem dX8_digest_124 : decode cX8_digest 124 = .ok (.lstore_n 1, 1) := by decide +kernel
theorem dX8_digest_125 : decode cX8_digest 125 = .ok (.iinc 3 1, 3) := by decide +kernel
theorem dX8_digest_128 : decode cX8_digest 128 = .ok (.goto (-15), 3) := by decide +kernel
theorem dX8_digest_131 : decode cX8_digest 131 = .ok (.lload_n 1, 1) := by decide +kernel
theorem dX8_digest_132 : decode cX8_digest 132 = .ok (.aload_n 0, 1) := by decide +kernel
theorem dX8_digest_133 : decode cX8_digest 133 = .ok (.invokevirtual 201, 3) := by decide +kernel
theorem dX8_digest_136 : decode cX8_digest 136 = .ok (.invokestatic 294, 3) := by decide +kernel
theorem dX8_digest_139 : decode cX8_digest 139 = .ok (.lstore_n 1, 1) := by decide +kernel
theorem dX8_digest_140 : decode cX8_digest 140 = .ok (.lload_n 1, 1) := by decide +kernel
theorem dX8_digest_141 : decode cX8_digest 141 = .ok (.aload_n 0, 1) := by decide +kernel
theorem dX8_digest_142 : decode cX8_digest 142 = .ok (.invokevirtual 313, 3) := by decide +kernel
theorem dX8_digest_145 : decode cX8_digest 145 = .ok (.i2l, 1) := by decide +kernel
theorem dX8_digest_146 : decode cX8_digest 146 = .ok (.invokestatic 294, 3) := by decide +kernel
theorem dX8_digest_149 : decode cX8_digest 149 = .ok (.lstore_n 1, 1) := by decide +kernel
theorem dX8_digest_150 : decode cX8_digest 150 = .ok (.lload_n 1, 1) := by decide +kernel
theorem dX8_digest_151 : decode cX8_digest 151 = .ok (.aload_n 0, 1) := by decide +kernel
theorem dX8_digest_152 : decode cX8_digest 152 = .ok (.sipush 150, 3) := by decide +kernel
theorem dX8_digest_155 : decode cX8_digest 155 = .ok (.iconst 0, 1) := by decide +kernel
theorem dX8_digest_156 : decode cX8_digest 156 = .ok (.invokevirtual 316, 3) := by decide +kernel
theorem dX8_digest_159 : decode cX8_digest 159 = .ok (.i2l, 1) := by decide +kernel
theorem dX8_digest_160 : decode cX8_digest 160 = .ok (.invokestatic 294, 3) := by decide +kernel
theorem dX8_digest_163 : decode cX8_digest 163 = .ok (.lstore_n 1, 1) := by decide +kernel
theorem dX8_digest_164 : decode cX8_digest 164 = .ok (.lload_n 1, 1) := by decide +kernel
theorem dX8_digest_165 : decode cX8_digest 165 = .ok (.aload_n 0, 1) := by decide +kernel
theorem dX8_digest_166 : decode cX8_digest 166 = .ok (.sipush 150, 3) := by decide +kernel
theorem dX8_digest_169 : decode cX8_digest 169 = .ok (.iconst 1, 1) := by decide +kernel
theorem dX8_digest_170 : decode cX8_digest 170 = .ok (.invokevirtual 316, 3) := by decide +kernel
theorem dX8_digest_173 : decode cX8_digest 173 = .ok (.i2l, 1) := by decide +kernel
theorem dX8_digest_174 : decode cX8_digest 174 = .ok (.invokestatic 294, 3) := by decide +kernel
theorem dX8_digest_177 : decode cX8_digest 177 = .ok (.lstore_n 1, 1) := by decide +kernel
theorem dX8_digest_178 : decode cX8_digest 178 = .ok (.lload_n 1, 1) := by decide +kernel
theorem dX8_digest_179 : decode cX8_digest 179 = .ok (.aload_n 0, 1) := by decide +kernel
theorem dX8_digest_180 : decode cX8_digest 180 = .ok (.sipush 1023, 3) := by decide +kernel
theorem dX8_digest_183 : decode cX8_digest 183 = .ok (.iconst (-1), 1) := by decide +kernel
theorem dX8_digest_184 : decode cX8_digest 184 = .ok (.invokevirtual 319, 3) := by decide +kernel
theorem dX8_digest_187 : decode cX8_digest 187 = .ok (.i2l, 1) := by decide +kernel
theorem dX8_digest_188 : decode cX8_digest 188 = .ok (.invokestatic 294, 3) := by decide +kernel
theorem dX8_digest_191 : decode cX8_digest 191 = .ok (.lstore_n 1, 1) := by decide +kernel
theorem dX8_digest_192 : decode cX8_digest 192 = .ok (.lload_n 1, 1) := by decide +kernel
theorem dX8_digest_193 : decode cX8_digest 193 = .ok (.aload_n 0, 1) := by decide +kernel
theorem dX8_digest_194 : decode cX8_digest 194 = .ok (.bipush 100, 2) := by decide +kernel
theorem dX8_digest_196 : decode cX8_digest 196 = .ok (.iconst 0, 1) := by decide +kernel
theorem dX8_digest_197 : decode cX8_digest 197 = .ok (.invokevirtual 322, 3) := by decide +kernel
theorem dX8_digest_200 : decode cX8_digest 200 = .ok (.i2l, 1) := by decide +kernel
theorem dX8_digest_201 : decode cX8_digest 201 = .ok (.invokestatic 294, 3) := by decide +kernel
theorem dX8_digest_204 : decode cX8_digest 204 = .ok (.lstore_n 1, 1) := by decide +kernel
theorem dX8_digest_205 : decode cX8_digest 205 = .ok (.lload_n 1, 1) := by decide +kernel
theorem dX8_digest_206 : decode cX8_digest 206 = .ok (.aload_n 0, 1) := by decide +kernel
theorem dX8_digest_207 : decode cX8_digest 207 = .ok (.bipush 100, 2) := by decide +kernel
theorem dX8_digest_209 : decode cX8_digest 209 = .ok (.iconst 1, 1) := by decide +kernel
theorem dX8_digest_210 : decode cX8_digest 210 = .ok (.invokevirtual 322, 3) := by decide +kernel
theorem dX8_digest_213 : decode cX8_digest 213 = .ok (.i2l, 1) := by decide +kernel
theorem dX8_digest_214 : decode cX8_digest 214 = .ok (.invokestatic 294, 3) := by decide +kernel
theorem dX8_digest_217 : decode cX8_digest 217 = .ok (.lstore_n 1, 1) := by decide +kernel
theorem dX8_digest_218 : decode cX8_digest 218 = .ok (.lload_n 1, 1) := by decide +kernel
theorem dX8_digest_219 : decode cX8_digest 219 = .ok (.aload_n 0, 1) := by decide +kernel
theorem dX8_digest_220 : decode cX8_digest 220 = .ok (.invokevirtual 325, 3) := by decide +kernel
theorem dX8_digest_223 : decode cX8_digest 223 = .ok (.i2l, 1) := by decide +kernel
theorem dX8_digest_224 : decode cX8_digest 224 = .ok (.invokestatic 294, 3) := by decide +kernel
theorem dX8_digest_227 : decode cX8_digest 227 = .ok (.lstore_n 1, 1) := by decide +kernel
theorem dX8_digest_228 : decode cX8_digest 228 = .ok (.lload_n 1, 1) := by decide +kernel
theorem dX8_digest_229 : decode cX8_digest 229 = .ok (.aload_n 0, 1) := by decide +kernel
theorem dX8_digest_230 : decode cX8_digest 230 = .ok (.iconst 0, 1) := by decide +kernel
theorem dX8_digest_231 : decode cX8_digest 231 = .ok (.invokevirtual 328, 3) := by decide +kernel
theorem dX8_digest_234 : decode cX8_digest 234 = .ok (.i2l, 1) := by decide +kernel
theorem dX8_digest_235 : decode cX8_digest 235 = .ok (.invokestatic 294, 3) := by decide +kernel
theorem dX8_digest_238 : decode cX8_digest 238 = .ok (.lstore_n 1, 1) := by decide +kernel
theorem dX8_digest_239 : decode cX8_digest 239 = .ok (.lload_n 1, 1) := by decide +kernel
theorem dX8_digest_240 : decode cX8_digest 240 = .ok (.aload_n 0, 1) := by decide +kernel
theorem dX8_digest_241 : decode cX8_digest 241 = .ok (.iconst 1, 1) := by decide +kernel
theorem dX8_digest_242 : decode cX8_digest 242 = .ok (.invokevirtual 328, 3) := by decide +kernel
theorem dX8_digest_245 : decode cX8_digest 245 = .ok (.i2l, 1) := by decide +kernel
theorem dX8_digest_246 : decode cX8_digest 246 = .ok (.invokestatic 294, 3) := by decide +kernel
theorem dX8_digest_249 : decode cX8_digest 249 = .ok (.lreturn, 1) := by decide +kernel
theorem dX8_mixFloor_0 : decode cX8_mixFloor 0 = .ok (.lload_n 1, 1) := by decide +kernel
theorem dX8_mixFloor_1 : decode cX8_mixFloor 1 = .ok (.lstore 4, 2) := by decide +kernel
theorem dX8_mixFloor_3 : decode cX8_mixFloor 3 = .ok (.iconst 0, 1) := by decide +kernel
theorem dX8_mixFloor_4 : decode cX8_mixFloor 4 = .ok (.istore 6, 2) := by decide +kernel
theorem dX8_mixFloor_6 : decode cX8_mixFloor 6 = .ok (.iload 6, 2) := by decide +kernel
theorem dX8_mixFloor_8 : decode cX8_mixFloor 8 = .ok (.iconst 5, 1) := by decide +kernel
theorem dX8_mixFloor_9 : decode cX8_mixFloor 9 = .ok (.if_icmp .gt 24, 3) := by decide +kernel
theorem dX8_mixFloor_12 : decode cX8_mixFloor 12 = .ok (.lload 4, 2) := by decide +kernel
theorem dX8_mixFloor_14 : decode cX8_mixFloor 14 = .ok (.aload_n 0, 1) := by decide +kernel
theorem dX8_mixFloor_15 : decode cX8_mixFloor 15 = .ok (.iload_n 3, 1) := by decide +kernel
theorem dX8_mixFloor_16 : decode cX8_mixFloor 16 = .ok (.iload 6, 2) := by decide +kernel
theorem dX8_mixFloor_18 : decode cX8_mixFloor 18 = .ok (.invokevirtual 331, 3) := by decide +kernel
theorem dX8_mixFloor_21 : decode cX8_mixFloor 21 = .ok (.i2l, 1) := by decide +kernel
theorem dX8_mixFloor_22 : decode cX8_mixFloor 22 = .ok (.invokestatic 294, 3) := by decide +kernel
theorem dX8_mixFloor_25 : decode cX8_mixFloor 25 = .ok (.lstore 4, 2) := by decide +kernel
theorem dX8_mixFloor_27 : decode cX8_mixFloor 27 = .ok (.iinc 6 1, 3) := by decide +kernel
theorem dX8_mixFloor_30 : decode cX8_mixFloor 30 = .ok (.goto (-24), 3) := by decide +kernel
theorem dX8_mixFloor_33 : decode cX8_mixFloor 33 = .ok (.lload 4, 2) := by decide +kernel
theorem dX8_mixFloor_35 : decode cX8_mixFloor 35 = .ok (.aload_n 0, 1) := by decide +kernel
theorem dX8_mixFloor_36 : decode cX8_mixFloor 36 = .ok (.iload_n 3, 1) := by decide +kernel
theorem dX8_mixFloor_37 : decode cX8_mixFloor 37 = .ok (.iconst 0, 1) := by decide +kernel
theorem dX8_mixFloor_38 : decode cX8_mixFloor 38 = .ok (.invokevirtual 304, 3) := by decide +kernel
theorem dX8_mixFloor_41 : decode cX8_mixFloor 41 = .ok (.i2l, 1) := by decide +kernel
theorem dX8_mixFloor_42 : decode cX8_mixFloor 42 = .ok (.invokestatic 294, 3) := by decide +kernel
theorem dX8_mixFloor_45 : decode cX8_mixFloor 45 = .ok (.lstore 4, 2) := by decide +kernel
theorem dX8_mixFloor_47 : decode cX8_mixFloor 47 = .ok (.lload 4, 2) := by decide +kernel
theorem dX8_mixFloor_49 : decode cX8_mixFloor 49 = .ok (.aload_n 0, 1) := by decide +kernel
theorem dX8_mixFloor_50 : decode cX8_mixFloor 50 = .ok (.iload_n 3, 1) := by decide +kernel
theorem dX8_mixFloor_51 : decode cX8_mixFloor 51 = .ok (.iconst 2, 1) := by decide +kernel
theorem dX8_mixFloor_52 : decode cX8_mixFloor 52 = .ok (.invokevirtual 304, 3) := by decide +kernel
theorem dX8_mixFloor_55 : decode cX8_mixFloor 55 = .ok (.i2l, 1) := by decide +kernel
theorem dX8_mixFloor_56 : decode cX8_mixFloor 56 = .ok (.invokestatic 294, 3) := by decide +kernel
theorem dX8_mixFloor_59 : decode cX8_mixFloor 59 = .ok (.lstore 4, 2) := by decide +kernel
theorem dX8_mixFloor_61 : decode cX8_mixFloor 61 = .ok (.lload 4, 2) := by decide +kernel
theorem dX8_mixFloor_63 : decode cX8_mixFloor 63 = .ok (.aload_n 0, 1) := by decide +kernel
theorem dX8_mixFloor_64 : decode cX8_mixFloor 64 = .ok (.iload_n 3, 1) := by decide +kernel
theorem dX8_mixFloor_65 : decode cX8_mixFloor 65 = .ok (.invokevirtual 334, 3) := by decide +kernel
theorem dX8_mixFloor_68 : decode cX8_mixFloor 68 = .ok (.i2l, 1) := by decide +kernel
theorem dX8_mixFloor_69 : decode cX8_mixFloor 69 = .ok (.invokestatic 294, 3) := by decide +kernel
theorem dX8_mixFloor_72 : decode cX8_mixFloor 72 = .ok (.lstore 4, 2) := by decide +kernel
theorem dX8_mixFloor_74 : decode cX8_mixFloor 74 = .ok (.iconst 0, 1) := by decide +kernel
theorem dX8_mixFloor_75 : decode cX8_mixFloor 75 = .ok (.istore 6, 2) := by decide +kernel
theorem dX8_mixFloor_77 : decode cX8_mixFloor 77 = .ok (.iload 6, 2) := by decide +kernel
theorem dX8_mixFloor_79 : decode cX8_mixFloor 79 = .ok (.iconst 2, 1) := by decide +kernel
theorem dX8_mixFloor_80 : decode cX8_mixFloor 80 = .ok (.if_icmp .gt 28, 3) := by decide +kernel
theorem dX8_mixFloor_83 : decode cX8_mixFloor 83 = .ok (.lload 4, 2) := by decide +kernel
theorem dX8_mixFloor_85 : decode cX8_mixFloor 85 = .ok (.aload_n 0, 1) := by decide +kernel
theorem dX8_mixFloor_86 : decode cX8_mixFloor 86 = .ok (.iload_n 3, 1) := by decide +kernel
theorem dX8_mixFloor_87 : decode cX8_mixFloor 87 = .ok (.bipush 15, 2) := by decide +kernel
theorem dX8_mixFloor_89 : decode cX8_mixFloor 89 = .ok (.bipush 20, 2) := by decide +kernel
theorem dX8_mixFloor_91 : decode cX8_mixFloor 91 = .ok (.iload 6, 2) := by decide +kernel
theorem dX8_mixFloor_93 : decode cX8_mixFloor 93 = .ok (.invokevirtual 337, 3) := by decide +kernel
theorem dX8_mixFloor_96 : decode cX8_mixFloor 96 = .ok (.i2l, 1) := by decide +kernel
theorem dX8_mixFloor_97 : decode cX8_mixFloor 97 = .ok (.invokestatic 294, 3) := by decide +kernel
theorem dX8_mixFloor_100 : decode cX8_mixFloor 100 = .ok (.lstore 4, 2) := by decide +kernel
theorem dX8_mixFloor_102 : decode cX8_mixFloor 102 = .ok (.iinc 6 1, 3) := by decide +kernel
theorem dX8_mixFloor_105 : decode cX8_mixFloor 105 = .ok (.goto (-28), 3) := by decide +kernel
theorem dX8_mixFloor_108 : decode cX8_mixFloor 108 = .ok (.lload 4, 2) := by decide +kernel
theorem dX8_mixFloor_110 : decode cX8_mixFloor 110 = .ok (.aload_n 0, 1) := by decide +kernel
theorem dX8_mixFloor_111 : decode cX8_mixFloor 111 = .ok (.iload_n 3, 1) := by decide +kernel
theorem dX8_mixFloor_112 : decode cX8_mixFloor 112 = .ok (.iconst 0, 1) := by decide +kernel
theorem dX8_mixFloor_113 : decode cX8_mixFloor 113 = .ok (.iconst 0, 1) := by decide +kernel
theorem dX8_mixFloor_114 : decode cX8_mixFloor 114 = .ok (.invokevirtual 340, 3) := by decide +kernel
theorem dX8_mixFloor_117 : decode cX8_mixFloor 117 = .ok (.invokestatic 294, 3) := by decide +kernel
theorem dX8_mixFloor_120 : decode cX8_mixFloor 120 = .ok (.lstore 4, 2) := by decide +kernel
theorem dX8_mixFloor_122 : decode cX8_mixFloor 122 = .ok (.lload 4, 2) := by decide +kernel
theorem dX8_mixFloor_124 : decode cX8_mixFloor 124 = .ok (.aload_n 0, 1) := by decide +kernel
theorem dX8_mixFloor_125 : decode cX8_mixFloor 125 = .ok (.iload_n 3, 1) := by decide +kernel
theorem dX8_mixFloor_126 : decode cX8_mixFloor 126 = .ok (.iconst 0, 1) := by decide +kernel
theorem dX8_mixFloor_127 : decode cX8_mixFloor 127 = .ok (.iconst 1, 1) := by decide +kernel
theorem dX8_mixFloor_128 : decode cX8_mixFloor 128 = .ok (.invokevirtual 340, 3) := by decide +kernel
theorem dX8_mixFloor_131 : decode cX8_mixFloor 131 = .ok (.invokestatic 294, 3) := by decide +kernel
theorem dX8_mixFloor_134 : decode cX8_mixFloor 134 = .ok (.lstore 4, 2) := by decide +kernel
theorem dX8_mixFloor_136 : decode cX8_mixFloor 136 = .ok (.iconst 0, 1) := by decide +kernel
theorem dX8_mixFloor_137 : decode cX8_mixFloor 137 = .ok (.istore 6, 2) := by decide +kernel
theorem dX8_mixFloor_139 : decode cX8_mixFloor 139 = .ok (.iload 6, 2) := by decide +kernel
theorem dX8_mixFloor_141 : decode cX8_mixFloor 141 = .ok (.iconst 3, 1) := by decide +kernel
theorem dX8_mixFloor_142 : decode cX8_mixFloor 142 = .ok (.if_icmp .ge 24, 3) := by decide +kernel
theorem dX8_mixFloor_145 : decode cX8_mixFloor 145 = .ok (.lload 4, 2) := by decide +kernel
theorem dX8_mixFloor_147 : decode cX8_mixFloor 147 = .ok (.aload_n 0, 1) := by decide +kernel
theorem dX8_mixFloor_148 : decode cX8_mixFloor 148 = .ok (.iload_n 3, 1) := by decide +kernel
theorem dX8_mixFloor_149 : decode cX8_mixFloor 149 = .ok (.iload 6, 2) := by decide +kernel
theorem dX8_mixFloor_151 : decode cX8_mixFloor 151 = .ok (.invokevirtual 343, 3) := by decide +kernel
theorem dX8_mixFloor_154 : decode cX8_mixFloor 154 = .ok (.i2l, 1) := by decide +kernel
theorem dX8_mixFloor_155 : decode cX8_mixFloor 155 = .ok (.invokestatic 294, 3) := by decide +kernel
theorem dX8_mixFloor_158 : decode cX8_mixFloor 158 = .ok (.lstore 4, 2) := by decide +kernel
theorem dX8_mixFloor_160 : decode cX8_mixFloor 160 = .ok (.iinc 6 1, 3) := by decide +kernel
theorem dX8_mixFloor_163 : decode cX8_mixFloor 163 = .ok (.goto (-24), 3) := by decide +kernel
theorem dX8_mixFloor_166 : decode cX8_mixFloor 166 = .ok (.lload 4, 2) := by decide +kernel
theorem dX8_mixFloor_168 : decode cX8_mixFloor 168 = .ok (.lreturn, 1) := by decide +kernel
theorem dX8_mixMaster_0 : decode cX8_mixMaster 0 = .ok (.lload_n 1, 1) := by decide +kernel
theorem dX8_mixMaster_1 : decode cX8_mixMaster 1 = .ok (.aload_n 0, 1) := by decide +kernel
theorem dX8_mixMaster_2 : decode cX8_mixMaster 2 = .ok (.iload_n 3, 1) := by decide +kernel
theorem dX8_mixMaster_3 : decode cX8_mixMaster 3 = .ok (.iconst 0, 1) := by decide +kernel
theorem dX8_mixMaster_4 : decode cX8_mixMaster 4 = .ok (.iconst 0, 1) := by decide +kernel
theorem dX8_mixMaster_5 : decode cX8_mixMaster 5 = .ok (.invokevirtual 346, 3) := by decide +kernel
theorem dX8_mixMaster_8 : decode cX8_mixMaster 8 = .ok (.invokestatic 294, 3) := by decide +kernel
theorem dX8_mixMaster_11 : decode cX8_mixMaster 11 = .ok (.lstore 4, 2) := by decide +kernel
theorem dX8_mixMaster_13 : decode cX8_mixMaster 13 = .ok (.lload 4, 2) := by decide +kernel
theorem dX8_mixMaster_15 : decode cX8_mixMaster 15 = .ok (.aload_n 0, 1) := by decide +kernel
theorem dX8_mixMaster_16 : decode cX8_mixMaster 16 = .ok (.iload_n 3, 1) := by decide +kernel
theorem dX8_mixMaster_17 : decode cX8_mixMaster 17 = .ok (.iconst 0, 1) := by decide +kernel
theorem dX8_mixMaster_18 : decode cX8_mixMaster 18 = .ok (.iconst 1, 1) := by decide +kernel
theorem dX8_mixMaster_19 : decode cX8_mixMaster 19 = .ok (.invokevirtual 346, 3) := by decide +kernel
theorem dX8_mixMaster_22 : decode cX8_mixMaster 22 = .ok (.invokestatic 294, 3) := by decide +kernel
theorem dX8_mixMaster_25 : decode cX8_mixMaster 25 = .ok (.lstore 4, 2) := by decide +kernel
theorem dX8_mixMaster_27 : decode cX8_mixMaster 27 = .ok (.lload 4, 2) := by decide +kernel
theorem dX8_mixMaster_29 : decode cX8_mixMaster 29 = .ok (.aload_n 0, 1) := by decide +kernel
theorem dX8_mixMaster_30 : decode cX8_mixMaster 30 = .ok (.iload_n 3, 1) := by decide +kernel
theorem dX8_mixMaster_31 : decode cX8_mixMaster 31 = .ok (.iconst 1, 1) := by decide +kernel
theorem dX8_mixMaster_32 : decode cX8_mixMaster 32 = .ok (.iconst 0, 1) := by decide +kernel
theorem dX8_mixMaster_33 : decode cX8_mixMaster 33 = .ok (.invokevirtual 346, 3) := by decide +kernel
theorem dX8_mixMaster_36 : decode cX8_mixMaster 36 = .ok (.invokestatic 294, 3) := by decide +kernel
theorem dX8_mixMaster_39 : decode cX8_mixMaster 39 = .ok (.lstore 4, 2) := by decide +kernel
theorem dX8_mixMaster_41 : decode cX8_mixMaster 41 = .ok (.lload 4, 2) := by decide +kernel
theorem dX8_mixMaster_43 : decode cX8_mixMaster 43 = .ok (.aload_n 0, 1) := by decide +kernel
theorem dX8_mixMaster_44 : decode cX8_mixMaster 44 = .ok (.iload_n 3, 1) := by decide +kernel
theorem dX8_mixMaster_45 : decode cX8_mixMaster 45 = .ok (.iconst 1, 1) := by decide +kernel
theorem dX8_mixMaster_46 : decode cX8_mixMaster 46 = .ok (.iconst 1, 1) := by decide +kernel
theorem dX8_mixMaster_47 : decode cX8_mixMaster 47 = .ok (.invokevirtual 346, 3) := by decide +kernel
theorem dX8_mixMaster_50 : decode cX8_mixMaster 50 = .ok (.invokestatic 294, 3) := by decide +kernel
theorem dX8_mixMaster_53 : decode cX8_mixMaster 53 = .ok (.lstore 4, 2) := by decide +kernel
theorem dX8_mixMaster_55 : decode cX8_mixMaster 55 = .ok (.lload 4, 2) := by decide +kernel
theorem dX8_mixMaster_57 : decode cX8_mixMaster 57 = .ok (.aload_n 0, 1) := by decide +kernel
theorem dX8_mixMaster_58 : decode cX8_mixMaster 58 = .ok (.iload_n 3, 1) := by decide +kernel
theorem dX8_mixMaster_59 : decode cX8_mixMaster 59 = .ok (.invokevirtual 349, 3) := by decide +kernel
theorem dX8_mixMaster_62 : decode cX8_mixMaster 62 = .ok (.i2l, 1) := by decide +kernel
theorem dX8_mixMaster_63 : decode cX8_mixMaster 63 = .ok (.invokestatic 294, 3) := by decide +kernel
theorem dX8_mixMaster_66 : decode cX8_mixMaster 66 = .ok (.lreturn, 1) := by decide +kernel
theorem dX8_mix_0 : decode cX8_mix 0 = .ok (.ldc2_w 352, 3) := by decide +kernel
theorem dX8_mix_3 : decode cX8_mix 3 = .ok (.lload_n 0, 1) := by decide +kernel
theorem dX8_mix_4 : decode cX8_mix 4 = .ok (.lmul, 1) := by decide +kernel
theorem dX8_mix_5 : decode cX8_mix 5 = .ok (.lload_n 2, 1) := by decide +kernel
theorem dX8_mix_6 : decode cX8_mix 6 = .ok (.ladd, 1) := by decide +kernel
theorem dX8_mix_7 : decode cX8_mix 7 = .ok (.lreturn, 1) := by decide +kernel
theorem dX8_within_0 : decode cX8_within 0 = .ok (.iload_n 0, 1) := by decide +kernel
theorem dX8_within_1 : decode cX8_within 1 = .ok (.iload_n 1, 1) := by decide +kernel
theorem dX8_within_2 : decode cX8_within 2 = .ok (.if_icmp .lt 12, 3) := by decide +kernel
theorem dX8_within_5 : decode cX8_within 5 = .ok (.iload_n 0, 1) := by decide +kernel
theorem dX8_within_6 : decode cX8_within 6 = .ok (.iload_n 2, 1) := by decide +kernel
theorem dX8_within_7 : decode cX8_within 7 = .ok (.if_icmp .gt 7, 3) := by decide +kernel
theorem dX8_within_10 : decode cX8_within 10 = .ok (.iconst 1, 1) := by decide +kernel
theorem dX8_within_11 : decode cX8_within 11 = .ok (.goto 4, 3) := by decide +kernel
theorem dX8_within_14 : decode cX8_within 14 = .ok (.iconst 0, 1) := by decide +kernel
theorem dX8_within_15 : decode cX8_within 15 = .ok (.ireturn, 1) := by decide +kernel
theorem dX8_isMaster_0 : decode cX8_isMaster 0 = .ok (.iload_n 0, 1) := by decide +kernel
theorem dX8_isMaster_1 : decode cX8_isMaster 1 = .ok (.iconst 0, 1) := by decide +kernel
theorem dX8_isMaster_2 : decode cX8_isMaster 2 = .ok (.iconst 2, 1) := by decide +kernel
theorem dX8_isMaster_3 : decode cX8_isMaster 3 = .ok (.invokestatic 79, 3) := by decide +kernel
theorem dX8_isMaster_6 : decode cX8_isMaster 6 = .ok (.ireturn, 1) := by decide +kernel
theorem dX8_isSheet_0 : decode cX8_isSheet 0 = .ok (.iload_n 0, 1) := by decide +kernel
theorem dX8_isSheet_1 : decode cX8_isSheet 1 = .ok (.iconst 0, 1) := by decide +kernel
theorem dX8_isSheet_2 : decode cX8_isSheet 2 = .ok (.iconst 3, 1) := by decide +kernel
theorem dX8_isSheet_3 : decode cX8_isSheet 3 = .ok (.invokestatic 79, 3) := by decide +kernel
theorem dX8_isSheet_6 : decode cX8_isSheet 6 = .ok (.ireturn, 1) := by decide +kernel
theorem dX8_isForm_0 : decode cX8_isForm 0 = .ok (.iload_n 0, 1) := by decide +kernel
theorem dX8_isForm_1 : decode cX8_isForm 1 = .ok (.iconst 0, 1) := by decide +kernel
theorem dX8_isForm_2 : decode cX8_isForm 2 = .ok (.iconst 2, 1) := by decide +kernel
theorem dX8_isForm_3 : decode cX8_isForm 3 = .ok (.invokestatic 79, 3) := by decide +kernel
theorem dX8_isForm_6 : decode cX8_isForm 6 = .ok (.ireturn, 1) := by decide +kernel
theorem dX8_isHeight_0 : decode cX8_isHeight 0 = .ok (.iload_n 0, 1) := by decide +kernel
theorem dX8_isHeight_1 : decode cX8_isHeight 1 = .ok (.iconst (-1), 1) := by decide +kernel
theorem dX8_isHeight_2 : decode cX8_isHeight 2 = .ok (.if_icmp .eq 13, 3) := by decide +kernel
theorem dX8_isHeight_5 : decode cX8_isHeight 5 = .ok (.iload_n 0, 1) := by decide +kernel
theorem dX8_isHeight_6 : decode cX8_isHeight 6 = .ok (.iconst 1, 1) := by decide +kernel
theorem dX8_isHeight_7 : decode cX8_isHeight 7 = .ok (.ldc 127, 2) := by decide +kernel
theorem dX8_isHeight_9 : decode cX8_isHeight 9 = .ok (.invokestatic 79, 3) := by decide +kernel
theorem dX8_isHeight_12 : decode cX8_isHeight 12 = .ok (.ifCond .eq 7, 3) := by decide +kernel
theorem dX8_isHeight_15 : decode cX8_isHeight 15 = .ok (.iconst 1, 1) := by decide +kernel
theorem dX8_isHeight_16 : decode cX8_isHeight 16 = .ok (.goto 4, 3) := by decide +kernel
theorem dX8_isHeight_19 : decode cX8_isHeight 19 = .ok (.iconst 0, 1) := by decide +kernel
theorem dX8_isHeight_20 : decode cX8_isHeight 20 = .ok (.ireturn, 1) := by decide +kernel
theorem dX8_isSpot_0 : decode cX8_isSpot 0 = .ok (.iload_n 0, 1) := by decide +kernel
theorem dX8_isSpot_1 : decode cX8_isSpot 1 = .ok (.iconst 0, 1) := by decide +kernel
theorem dX8_isSpot_2 : decode cX8_isSpot 2 = .ok (.bipush 9, 2) := by decide +kernel
theorem dX8_isSpot_4 : decode cX8_isSpot 4 = .ok (.invokestatic 79, 3) := by decide +kernel
theorem dX8_isSpot_7 : decode cX8_isSpot 7 = .ok (.ireturn, 1) := by decide +kernel
theorem dX8_isFloor_0 : decode cX8_isFloor 0 = .ok (.iload_n 1, 1) := by decide +kernel
theorem dX8_isFloor_1 : decode cX8_isFloor 1 = .ok (.iconst 0, 1) := by decide +kernel
theorem dX8_isFloor_2 : decode cX8_isFloor 2 = .ok (.aload_n 0, 1) := by decide +kernel
theorem dX8_isFloor_3 : decode cX8_isFloor 3 = .ok (.getfield 23, 3) := by decide +kernel
theorem dX8_isFloor_6 : decode cX8_isFloor 6 = .ok (.getfield 152, 3) := by decide +kernel
theorem dX8_isFloor_9 : decode cX8_isFloor 9 = .ok (.iconst 1, 1) := by decide +kernel
theorem dX8_isFloor_10 : decode cX8_isFloor 10 = .ok (.isub, 1) := by decide +kernel
theorem dX8_isFloor_11 : decode cX8_isFloor 11 = .ok (.invokestatic 79, 3) := by decide +kernel
theorem dX8_isFloor_14 : decode cX8_isFloor 14 = .ok (.ireturn, 1) := by decide +kernel
theorem dX8_isSill_0 : decode cX8_isSill 0 = .ok (.iload_n 1, 1) := by decide +kernel
theorem dX8_isSill_1 : decode cX8_isSill 1 = .ok (.iconst 0, 1) := by decide +kernel
theorem dX8_isSill_2 : decode cX8_isSill 2 = .ok (.aload_n 0, 1) := by decide +kernel
theorem dX8_isSill_3 : decode cX8_isSill 3 = .ok (.getfield 23, 3) := by decide +kernel
theorem dX8_isSill_6 : decode cX8_isSill 6 = .ok (.getfield 152, 3) := by decide +kernel
theorem dX8_isSill_9 : decode cX8_isSill 9 = .ok (.invokestatic 79, 3) := by decide +kernel
theorem dX8_isSill_12 : decode cX8_isSill 12 = .ok (.ireturn, 1) := by decide +kernel
theorem dX8_refuseLong_0 : decode cX8_refuseLong 0 = .ok (.ldc2_w 356, 3) := by decide +kernel
theorem dX8_refuseLong_3 : decode cX8_refuseLong 3 = .ok (.iload_n 0, 1) := by decide +kernel
theorem dX8_refuseLong_4 : decode cX8_refuseLong 4 = .ok (.i2l, 1) := by decide +kernel
theorem dX8_refuseLong_5 : decode cX8_refuseLong 5 = .ok (.lsub, 1) := by decide +kernel
theorem dX8_refuseLong_6 : decode cX8_refuseLong 6 = .ok (.lreturn, 1) := by decide +kernel
theorem dX8_finding_0 : decode cX8_finding 0 = .ok (.aload_n 0, 1) := by decide +kernel
theorem dX8_finding_1 : decode cX8_finding 1 = .ok (.iload_n 1, 1) := by decide +kernel
theorem dX8_finding_2 : decode cX8_finding 2 = .ok (.putfield 286, 3) := by decide +kernel
theorem dX8_finding_5 : decode cX8_finding 5 = .ok (.bipush (-10), 2) := by decide +kernel
theorem dX8_finding_7 : decode cX8_finding 7 = .ok (.iload_n 1, 1) := by decide +kernel
theorem dX8_finding_8 : decode cX8_finding 8 = .ok (.isub, 1) := by decide +kernel
theorem dX8_finding_9 : decode cX8_finding 9 = .ok (.ireturn, 1) := by decide +kernel
theorem dX8_refuseSheet_0 : decode cX8_refuseSheet 0 = .ok (.iload_n 1, 1) := by decide +kernel
theorem dX8_refuseSheet_1 : decode cX8_refuseSheet 1 = .ok (.invokestatic 244, 3) := by decide +kernel
theorem dX8_refuseSheet_4 : decode cX8_refuseSheet 4 = .ok (.ifCond .ne 6, 3) := by decide +kernel
theorem dX8_refuseSheet_7 : decode cX8_refuseSheet 7 = .ok (.bipush (-2), 2) := by decide +kernel
theorem dX8_refuseSheet_9 : decode cX8_refuseSheet 9 = .ok (.ireturn, 1) := by decide +kernel
theorem dX8_refuseSheet_10 : decode cX8_refuseSheet 10 = .ok (.aload_n 0, 1) := by decide +kernel
theorem dX8_refuseSheet_11 : decode cX8_refuseSheet 11 = .ok (.getfield 70, 3) := by decide +kernel
theorem dX8_refuseSheet_14 : decode cX8_refuseSheet 14 = .ok (.iload_n 1, 1) := by decide +kernel
theorem dX8_refuseSheet_15 : decode cX8_refuseSheet 15 = .ok (.aaload, 1) := by decide +kernel
theorem dX8_refuseSheet_16 : decode cX8_refuseSheet 16 = .ok (.invokevirtual 266, 3) := by decide +kernel
theorem dX8_refuseSheet_19 : decode cX8_refuseSheet 19 = .ok (.ifCond .eq 11, 3) := by decide +kernel
theorem dX8_refuseSheet_22 : decode cX8_refuseSheet 22 = .ok (.aload_n 0, 1) := by decide +kernel
theorem dX8_refuseSheet_23 : decode cX8_refuseSheet 23 = .ok (.iconst 1, 1) := by decide +kernel
theorem dX8_refuseSheet_24 : decode cX8_refuseSheet 24 = .ok (.invokevirtual 250, 3) := by decide +kernel
theorem dX8_refuseSheet_27 : decode cX8_refuseSheet 27 = .ok (.goto 4, 3) := by decide +kernel
theorem dX8_refuseSheet_30 : decode cX8_refuseSheet 30 = .ok (.iconst 0, 1) := by decide +kernel
theorem dX8_refuseSheet_31 : decode cX8_refuseSheet 31 = .ok (.ireturn, 1) := by decide +kernel
theorem dX8_refuseItem_0 : decode cX8_refuseItem 0 = .ok (.iload_n 2, 1) := by decide +kernel
theorem dX8_refuseItem_1 : decode cX8_refuseItem 1 = .ok (.invokestatic 247, 3) := by decide +kernel
theorem dX8_refuseItem_4 : decode cX8_refuseItem 4 = .ok (.ifCond .ne 6, 3) := by decide +kernel
theorem dX8_refuseItem_7 : decode cX8_refuseItem 7 = .ok (.bipush (-2), 2) := by decide +kernel
theorem dX8_refuseItem_9 : decode cX8_refuseItem 9 = .ok (.ireturn, 1) := by decide +kernel
theorem dX8_refuseItem_10 : decode cX8_refuseItem 10 = .ok (.aload_n 0, 1) := by decide +kernel
theorem dX8_refuseItem_11 : decode cX8_refuseItem 11 = .ok (.iload_n 1, 1) := by decide +kernel
theorem dX8_refuseItem_12 : decode cX8_refuseItem 12 = .ok (.invokevirtual 181, 3) := by decide +kernel
theorem dX8_refuseItem_15 : decode cX8_refuseItem 15 = .ok (.istore 4, 2) := by decide +kernel
theorem dX8_refuseItem_17 : decode cX8_refuseItem 17 = .ok (.iload 4, 2) := by decide +kernel
theorem dX8_refuseItem_19 : decode cX8_refuseItem 19 = .ok (.ifCond .eq 6, 3) := by decide +kernel
theorem dX8_refuseItem_22 : decode cX8_refuseItem 22 = .ok (.iload 4, 2) := by decide +kernel
theorem dX8_refuseItem_24 : decode cX8_refuseItem 24 = .ok (.ireturn, 1) := by decide +kernel
theorem dX8_refuseItem_25 : decode cX8_refuseItem 25 = .ok (.aload_n 0, 1) := by decide +kernel
theorem dX8_refuseItem_26 : decode cX8_refuseItem 26 = .ok (.getfield 70, 3) := by decide +kernel
theorem dX8_refuseItem_29 : decode cX8_refuseItem 29 = .ok (.iload_n 1, 1) := by decide +kernel
theorem dX8_refuseItem_30 : decode cX8_refuseItem 30 = .ok (.aaload, 1) := by decide +kernel
theorem dX8_refuseItem_31 : decode cX8_refuseItem 31 = .ok (.getfield 270, 3) := by decide +kernel
theorem dX8_refuseItem_34 : decode cX8_refuseItem 34 = .ok (.iload_n 2, 1) := by decide +kernel
theorem dX8_refuseItem_35 : decode cX8_refuseItem 35 = .ok (.if_icmp .eq 9, 3) := by decide +kernel
theorem dX8_refuseItem_38 : decode cX8_refuseItem 38 = .ok (.aload_n 0, 1) := by decide +kernel
theorem dX8_refuseItem_39 : decode cX8_refuseItem 39 = .ok (.iconst 3, 1) := by decide +kernel
theorem dX8_refuseItem_40 : decode cX8_refuseItem 40 = .ok (.invokevirtual 250, 3) := by decide +kernel
theorem dX8_refuseItem_43 : decode cX8_refuseItem 43 = .ok (.ireturn, 1) := by decide +kernel
theorem dX8_refuseItem_44 : decode cX8_refuseItem 44 = .ok (.iload_n 3, 1) := by decide +kernel
theorem dX8_refuseItem_45 : decode cX8_refuseItem 45 = .ok (.iconst 0, 1) := by decide +kernel
theorem dX8_refuseItem_46 : decode cX8_refuseItem 46 = .ok (.aload_n 0, 1) := by decide +kernel
theorem dX8_refuseItem_47 : decode cX8_refuseItem 47 = .ok (.getfield 70, 3) := by decide +kernel
theorem dX8_refuseItem_50 : decode cX8_refuseItem 50 = .ok (.iload_n 1, 1) := by decide +kernel
theorem dX8_refuseItem_51 : decode cX8_refuseItem 51 = .ok (.aaload, 1) := by decide +kernel
theorem dX8_refuseItem_52 : decode cX8_refuseItem 52 = .ok (.getfield 184, 3) := by decide +kernel
theorem dX8_refuseItem_55 : decode cX8_refuseItem 55 = .ok (.iconst 1, 1) := by decide +kernel
theorem dX8_refuseItem_56 : decode cX8_refuseItem 56 = .ok (.isub, 1) := by decide +kernel
theorem dX8_refuseItem_57 : decode cX8_refuseItem 57 = .ok (.invokestatic 79, 3) := by decide +kernel
theorem dX8_refuseItem_60 : decode cX8_refuseItem 60 = .ok (.ifCond .eq 7, 3) := by decide +kernel
theorem dX8_refuseItem_63 : decode cX8_refuseItem 63 = .ok (.iconst 0, 1) := by decide +kernel
theorem dX8_refuseItem_64 : decode cX8_refuseItem 64 = .ok (.goto 8, 3) := by decide +kernel
theorem dX8_refuseItem_67 : decode cX8_refuseItem 67 = .ok (.aload_n 0, 1) := by decide +kernel
theorem dX8_refuseItem_68 : decode cX8_refuseItem 68 = .ok (.iconst 2, 1) := by decide +kernel
theorem dX8_refuseItem_69 : decode cX8_refuseItem 69 = .ok (.invokevirtual 250, 3) := by decide +kernel
theorem dX8_refuseItem_72 : decode cX8_refuseItem 72 = .ok (.ireturn, 1) := by decide +kernel
theorem dX8_inLowestTerms_0 : decode cX8_inLowestTerms 0 = .ok (.lload_n 2, 1) := by decide +kernel
theorem dX8_inLowestTerms_1 : decode cX8_inLowestTerms 1 = .ok (.lstore 5, 2) := by decide +kernel
theorem dX8_inLowestTerms_3 : decode cX8_inLowestTerms 3 = .ok (.lload_n 0, 1) := by decide +kernel
theorem dX8_inLowestTerms_4 : decode cX8_inLowestTerms 4 = .ok (.lstore 7, 2) := by decide +kernel
theorem dX8_inLowestTerms_6 : decode cX8_inLowestTerms 6 = .ok (.iconst 0, 1) := by decide +kernel
theorem dX8_inLowestTerms_7 : decode cX8_inLowestTerms 7 = .ok (.istore 9, 2) := by decide +kernel
theorem dX8_inLowestTerms_9 : decode cX8_inLowestTerms 9 = .ok (.iload 9, 2) := by decide +kernel
theorem dX8_inLowestTerms_11 : decode cX8_inLowestTerms 11 = .ok (.sipush 128, 3) := by decide +kernel
theorem dX8_inLowestTerms_14 : decode cX8_inLowestTerms 14 = .ok (.if_icmp .ge 31, 3) := by decide +kernel
theorem dX8_inLowestTerms_17 : decode cX8_inLowestTerms 17 = .ok (.lload 7, 2) := by decide +kernel
theorem dX8_inLowestTerms_19 : decode cX8_inLowestTerms 19 = .ok (.lconst 0, 1) := by decide +kernel
theorem dX8_inLowestTerms_20 : decode cX8_inLowestTerms 20 = .ok (.lcmp, 1) := by decide +kernel
theorem dX8_inLowestTerms_21 : decode cX8_inLowestTerms 21 = .ok (.ifCond .eq 24, 3) := by decide +kernel
theorem dX8_inLowestTerms_24 : decode cX8_inLowestTerms 24 = .ok (.lload 5, 2) := by decide +kernel
theorem dX8_inLowestTerms_26 : decode cX8_inLowestTerms 26 = .ok (.lload 7, 2) := by decide +kernel
theorem dX8_inLowestTerms_28 : decode cX8_inLowestTerms 28 = .ok (.lrem, 1) := by decide +kernel
theorem dX8_inLowestTerms_29 : decode cX8_inLowestTerms 29 = .ok (.lstore 10, 2) := by decide +kernel
theorem dX8_inLowestTerms_31 : decode cX8_inLowestTerms 31 = .ok (.lload 7, 2) := by decide +kernel
theorem dX8_inLowestTerms_33 : decode cX8_inLowestTerms 33 = .ok (.lstore 5, 2) := by decide +kernel
theorem dX8_inLowestTerms_35 : decode cX8_inLowestTerms 35 = .ok (.lload 10, 2) := by decide +kernel
theorem dX8_inLowestTerms_37 : decode cX8_inLowestTerms 37 = .ok (.lstore 7, 2) := by decide +kernel
theorem dX8_inLowestTerms_39 : decode cX8_inLowestTerms 39 = .ok (.iinc 9 1, 3) := by decide +kernel
theorem dX8_inLowestTerms_42 : decode cX8_inLowestTerms 42 = .ok (.goto (-33), 3) := by decide +kernel
theorem dX8_inLowestTerms_45 : decode cX8_inLowestTerms 45 = .ok (.iload 4, 2) := by decide +kernel
theorem dX8_inLowestTerms_47 : decode cX8_inLowestTerms 47 = .ok (.ifCond .ne 7, 3) := by decide +kernel
theorem dX8_inLowestTerms_50 : decode cX8_inLowestTerms 50 = .ok (.lload_n 0, 1) := by decide +kernel
theorem dX8_inLowestTerms_51 : decode cX8_inLowestTerms 51 = .ok (.goto 4, 3) := by decide +kernel
theorem dX8_inLowestTerms_54 : decode cX8_inLowestTerms 54 = .ok (.lload_n 2, 1) := by decide +kernel
theorem dX8_inLowestTerms_55 : decode cX8_inLowestTerms 55 = .ok (.lstore 9, 2) := by decide +kernel
theorem dX8_inLowestTerms_57 : decode cX8_inLowestTerms 57 = .ok (.lload 5, 2) := by decide +kernel
theorem dX8_inLowestTerms_59 : decode cX8_inLowestTerms 59 = .ok (.lconst 0, 1) := by decide +kernel
theorem dX8_inLowestTerms_60 : decode cX8_inLowestTerms 60 = .ok (.lcmp, 1) := by decide +kernel
theorem dX8_inLowestTerms_61 : decode cX8_inLowestTerms 61 = .ok (.ifCond .ne 8, 3) := by decide +kernel
theorem dX8_inLowestTerms_64 : decode cX8_inLowestTerms 64 = .ok (.lload 9, 2) := by decide +kernel
theorem dX8_inLowestTerms_66 : decode cX8_inLowestTerms 66 = .ok (.goto 8, 3) := by decide +kernel
theorem dX8_inLowestTerms_69 : decode cX8_inLowestTerms 69 = .ok (.lload 9, 2) := by decide +kernel
theorem dX8_inLowestTerms_71 : decode cX8_inLowestTerms 71 = .ok (.lload 5, 2) := by decide +kernel
theorem dX8_inLowestTerms_73 : decode cX8_inLowestTerms 73 = .ok (.ldiv, 1) := by decide +kernel
theorem dX8_inLowestTerms_74 : decode cX8_inLowestTerms 74 = .ok (.lreturn, 1) := by decide +kernel
theorem dX8_evenSteps_0 : decode cX8_evenSteps 0 = .ok (.iconst 1, 1) := by decide +kernel
theorem dX8_evenSteps_1 : decode cX8_evenSteps 1 = .ok (.istore_n 3, 1) := by decide +kernel
theorem dX8_evenSteps_2 : decode cX8_evenSteps 2 = .ok (.iload_n 0, 1) := by decide +kernel
theorem dX8_evenSteps_3 : decode cX8_evenSteps 3 = .ok (.iload_n 0, 1) := by decide +kernel
theorem dX8_evenSteps_4 : decode cX8_evenSteps 4 = .ok (.iconst 1, 1) := by decide +kernel
theorem dX8_evenSteps_5 : decode cX8_evenSteps 5 = .ok (.iload_n 1, 1) := by decide +kernel
theorem dX8_evenSteps_6 : decode cX8_evenSteps 6 = .ok (.iload_n 2, 1) := by decide +kernel
theorem dX8_evenSteps_7 : decode cX8_evenSteps 7 = .ok (.invokestatic 163, 3) := by decide +kernel
theorem dX8_evenSteps_10 : decode cX8_evenSteps 10 = .ok (.isub, 1) := by decide +kernel
theorem dX8_evenSteps_11 : decode cX8_evenSteps 11 = .ok (.invokestatic 155, 3) := by decide +kernel
theorem dX8_evenSteps_14 : decode cX8_evenSteps 14 = .ok (.istore 4, 2) := by decide +kernel
theorem dX8_evenSteps_16 : decode cX8_evenSteps 16 = .ok (.iconst 2, 1) := by decide +kernel
theorem dX8_evenSteps_17 : decode cX8_evenSteps 17 = .ok (.istore 5, 2) := by decide +kernel
theorem dX8_evenSteps_19 : decode cX8_evenSteps 19 = .ok (.iload 5, 2) := by decide +kernel
theorem dX8_evenSteps_21 : decode cX8_evenSteps 21 = .ok (.bipush 40, 2) := by decide +kernel
theorem dX8_evenSteps_23 : decode cX8_evenSteps 23 = .ok (.if_icmp .gt 41, 3) := by decide +kernel
theorem dX8_evenSteps_26 : decode cX8_evenSteps 26 = .ok (.iload_n 0, 1) := by decide +kernel
theorem dX8_evenSteps_27 : decode cX8_evenSteps 27 = .ok (.iload 5, 2) := by decide +kernel
theorem dX8_evenSteps_29 : decode cX8_evenSteps 29 = .ok (.iload_n 0, 1) := by decide +kernel
theorem dX8_evenSteps_30 : decode cX8_evenSteps 30 = .ok (.iload 5, 2) := by decide +kernel
theorem dX8_evenSteps_32 : decode cX8_evenSteps 32 = .ok (.iload_n 1, 1) := by decide +kernel
theorem dX8_evenSteps_33 : decode cX8_evenSteps 33 = .ok (.iload_n 2, 1) := by decide +kernel
theorem dX8_evenSteps_34 : decode cX8_evenSteps 34 = .ok (.invokestatic 163, 3) := by decide +kernel
theorem dX8_evenSteps_37 : decode cX8_evenSteps 37 = .ok (.imul, 1) := by decide +kernel
theorem dX8_evenSteps_38 : decode cX8_evenSteps 38 = .ok (.isub, 1) := by decide +kernel
theorem dX8_evenSteps_39 : decode cX8_evenSteps 39 = .ok (.invokestatic 155, 3) := by decide +kernel
theorem dX8_evenSteps_42 : decode cX8_evenSteps 42 = .ok (.istore 6, 2) := by decide +kernel
theorem dX8_evenSteps_44 : decode cX8_evenSteps 44 = .ok (.iload 6, 2) := by decide +kernel
theorem dX8_evenSteps_46 : decode cX8_evenSteps 46 = .ok (.iload 4, 2) := by decide +kernel
theorem dX8_evenSteps_48 : decode cX8_evenSteps 48 = .ok (.if_icmp .ge 10, 3) := by decide +kernel
theorem dX8_evenSteps_51 : decode cX8_evenSteps 51 = .ok (.iload 6, 2) := by decide +kernel
theorem dX8_evenSteps_53 : decode cX8_evenSteps 53 = .ok (.istore 4, 2) := by decide +kernel
theorem dX8_evenSteps_55 : decode cX8_evenSteps 55 = .ok (.iload 5, 2) := by decide +kernel
theorem dX8_evenSteps_57 : decode cX8_evenSteps 57 = .ok (.istore_n 3, 1) := by decide +kernel
theorem dX8_evenSteps_58 : decode cX8_evenSteps 58 = .ok (.iinc 5 1, 3) := by decide +kernel
theorem dX8_evenSteps_61 : decode cX8_evenSteps 61 = .ok (.goto (-42), 3) := by decide +kernel
theorem dX8_evenSteps_64 : decode cX8_evenSteps 64 = .ok (.iload_n 3, 1) := by decide +kernel
theorem dX8_evenSteps_65 : decode cX8_evenSteps 65 = .ok (.ireturn, 1) := by decide +kernel
theorem dX8_evenHeight_0 : decode cX8_evenHeight 0 = .ok (.iload_n 1, 1) := by decide +kernel
theorem dX8_evenHeight_1 : decode cX8_evenHeight 1 = .ok (.ifCond .gt 7, 3) := by decide +kernel
theorem dX8_evenHeight_4 : decode cX8_evenHeight 4 = .ok (.iload_n 2, 1) := by decide +kernel
theorem dX8_evenHeight_5 : decode cX8_evenHeight 5 = .ok (.goto 16, 3) := by decide +kernel
theorem dX8_evenHeight_8 : decode cX8_evenHeight 8 = .ok (.iload_n 2, 1) := by decide +kernel
theorem dX8_evenHeight_9 : decode cX8_evenHeight 9 = .ok (.iload_n 3, 1) := by decide +kernel
theorem dX8_evenHeight_10 : decode cX8_evenHeight 10 = .ok (.iload_n 0, 1) := by decide +kernel
theorem dX8_evenHeight_11 : decode cX8_evenHeight 11 = .ok (.iload_n 1, 1) := by decide +kernel
theorem dX8_evenHeight_12 : decode cX8_evenHeight 12 = .ok (.invokestatic 358, 3) := by decide +kernel
theorem dX8_evenHeight_15 : decode cX8_evenHeight 15 = .ok (.invokestatic 187, 3) := by decide +kernel
theorem dX8_evenHeight_18 : decode cX8_evenHeight 18 = .ok (.invokestatic 211, 3) := by decide +kernel
theorem dX8_evenHeight_21 : decode cX8_evenHeight 21 = .ok (.istore 4, 2) := by decide +kernel
theorem dX8_evenHeight_23 : decode cX8_evenHeight 23 = .ok (.iload_n 3, 1) := by decide +kernel
theorem dX8_evenHeight_24 : decode cX8_evenHeight 24 = .ok (.iload 4, 2) := by decide +kernel
theorem dX8_evenHeight_26 : decode cX8_evenHeight 26 = .ok (.iconst 1, 1) := by decide +kernel
theorem dX8_evenHeight_27 : decode cX8_evenHeight 27 = .ok (.iadd, 1) := by decide +kernel
theorem dX8_evenHeight_28 : decode cX8_evenHeight 28 = .ok (.invokestatic 187, 3) := by decide +kernel
theorem dX8_evenHeight_31 : decode cX8_evenHeight 31 = .ok (.istore 5, 2) := by decide +kernel
theorem dX8_evenHeight_33 : decode cX8_evenHeight 33 = .ok (.iload_n 0, 1) := by decide +kernel
theorem dX8_evenHeight_34 : decode cX8_evenHeight 34 = .ok (.iload_n 1, 1) := by decide +kernel
theorem dX8_evenHeight_35 : decode cX8_evenHeight 35 = .ok (.iload 5, 2) := by decide +kernel
theorem dX8_evenHeight_37 : decode cX8_evenHeight 37 = .ok (.imul, 1) := by decide +kernel
theorem dX8_evenHeight_38 : decode cX8_evenHeight 38 = .ok (.isub, 1) := by decide +kernel
theorem dX8_evenHeight_39 : decode cX8_evenHeight 39 = .ok (.invokestatic 155, 3) := by decide +kernel
theorem dX8_evenHeight_42 : decode cX8_evenHeight 42 = .ok (.iload_n 0, 1) := by decide +kernel
theorem dX8_evenHeight_43 : decode cX8_evenHeight 43 = .ok (.iload_n 1, 1) := by decide +kernel
theorem dX8_evenHeight_44 : decode cX8_evenHeight 44 = .ok (.iload 4, 2) := by decide +kernel
theorem dX8_evenHeight_46 : decode cX8_evenHeight 46 = .ok (.imul, 1) := by decide +kernel
theorem dX8_evenHeight_47 : decode cX8_evenHeight 47 = .ok (.isub, 1) := by decide +kernel
theorem dX8_evenHeight_48 : decode cX8_evenHeight 48 = .ok (.invokestatic 155, 3) := by decide +kernel
theorem dX8_evenHeight_51 : decode cX8_evenHeight 51 = .ok (.if_icmp .ge 8, 3) := by decide +kernel
theorem dX8_evenHeight_54 : decode cX8_evenHeight 54 = .ok (.iload 5, 2) := by decide +kernel
theorem dX8_evenHeight_56 : decode cX8_evenHeight 56 = .ok (.goto 5, 3) := by decide +kernel
theorem dX8_evenHeight_59 : decode cX8_evenHeight 59 = .ok (.iload 4, 2) := by decide +kernel
theorem dX8_evenHeight_61 : decode cX8_evenHeight 61 = .ok (.ireturn, 1) := by decide +kernel
theorem dX8_offAfter_0 : decode cX8_offAfter 0 = .ok (.aload_n 0, 1) := by decide +kernel
theorem dX8_offAfter_1 : decode cX8_offAfter 1 = .ok (.getfield 32, 3) := by decide +kernel
theorem dX8_offAfter_4 : decode cX8_offAfter 4 = .ok (.aload_n 0, 1) := by decide +kernel
theorem dX8_offAfter_5 : decode cX8_offAfter 5 = .ok (.getfield 23, 3) := by decide +kernel

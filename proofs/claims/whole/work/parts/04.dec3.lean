theorem dX8_set_19 : decode cX8_set 19 = .ok (.iaload, 1) := by decide +kernel
theorem dX8_set_20 : decode cX8_set 20 = .ok (.invokestatic 79, 3) := by decide +kernel
theorem dX8_set_23 : decode cX8_set 23 = .ok (.ifCond .ne 6, 3) := by decide +kernel
theorem dX8_set_26 : decode cX8_set 26 = .ok (.bipush (-2), 2) := by decide +kernel
theorem dX8_set_28 : decode cX8_set 28 = .ok (.ireturn, 1) := by decide +kernel
theorem dX8_set_29 : decode cX8_set 29 = .ok (.aload_n 0, 1) := by decide +kernel
theorem dX8_set_30 : decode cX8_set 30 = .ok (.getfield 7, 3) := by decide +kernel
theorem dX8_set_33 : decode cX8_set 33 = .ok (.iload_n 1, 1) := by decide +kernel
theorem dX8_set_34 : decode cX8_set 34 = .ok (.iaload, 1) := by decide +kernel
theorem dX8_set_35 : decode cX8_set 35 = .ok (.istore_n 3, 1) := by decide +kernel
theorem dX8_set_36 : decode cX8_set 36 = .ok (.aload_n 0, 1) := by decide +kernel
theorem dX8_set_37 : decode cX8_set 37 = .ok (.getfield 7, 3) := by decide +kernel
theorem dX8_set_40 : decode cX8_set 40 = .ok (.iload_n 1, 1) := by decide +kernel
theorem dX8_set_41 : decode cX8_set 41 = .ok (.iload_n 2, 1) := by decide +kernel
theorem dX8_set_42 : decode cX8_set 42 = .ok (.iastore, 1) := by decide +kernel
theorem dX8_set_43 : decode cX8_set 43 = .ok (.iload_n 3, 1) := by decide +kernel
theorem dX8_set_44 : decode cX8_set 44 = .ok (.ireturn, 1) := by decide +kernel
theorem dX8_sill_0 : decode cX8_sill 0 = .ok (.aload_n 0, 1) := by decide +kernel
theorem dX8_sill_1 : decode cX8_sill 1 = .ok (.iload_n 1, 1) := by decide +kernel
theorem dX8_sill_2 : decode cX8_sill 2 = .ok (.invokevirtual 140, 3) := by decide +kernel
theorem dX8_sill_5 : decode cX8_sill 5 = .ok (.ifCond .ne 6, 3) := by decide +kernel
theorem dX8_sill_8 : decode cX8_sill 8 = .ok (.ldc 107, 2) := by decide +kernel
theorem dX8_sill_10 : decode cX8_sill 10 = .ok (.ireturn, 1) := by decide +kernel
theorem dX8_sill_11 : decode cX8_sill 11 = .ok (.iload_n 2, 1) := by decide +kernel
theorem dX8_sill_12 : decode cX8_sill 12 = .ok (.tableswitch 57 0 2 #[28, 38, 48], 28) := by decide +kernel
theorem dX8_sill_40 : decode cX8_sill 40 = .ok (.aload_n 0, 1) := by decide +kernel
theorem dX8_sill_41 : decode cX8_sill 41 = .ok (.getfield 32, 3) := by decide +kernel
theorem dX8_sill_44 : decode cX8_sill 44 = .ok (.getfield 143, 3) := by decide +kernel
theorem dX8_sill_47 : decode cX8_sill 47 = .ok (.iload_n 1, 1) := by decide +kernel
theorem dX8_sill_48 : decode cX8_sill 48 = .ok (.iaload, 1) := by decide +kernel
theorem dX8_sill_49 : decode cX8_sill 49 = .ok (.ireturn, 1) := by decide +kernel
theorem dX8_sill_50 : decode cX8_sill 50 = .ok (.aload_n 0, 1) := by decide +kernel
theorem dX8_sill_51 : decode cX8_sill 51 = .ok (.getfield 32, 3) := by decide +kernel
theorem dX8_sill_54 : decode cX8_sill 54 = .ok (.getfield 146, 3) := by decide +kernel
theorem dX8_sill_57 : decode cX8_sill 57 = .ok (.iload_n 1, 1) := by decide +kernel
theorem dX8_sill_58 : decode cX8_sill 58 = .ok (.iaload, 1) := by decide +kernel
theorem dX8_sill_59 : decode cX8_sill 59 = .ok (.ireturn, 1) := by decide +kernel
theorem dX8_sill_60 : decode cX8_sill 60 = .ok (.aload_n 0, 1) := by decide +kernel
theorem dX8_sill_61 : decode cX8_sill 61 = .ok (.getfield 32, 3) := by decide +kernel
theorem dX8_sill_64 : decode cX8_sill 64 = .ok (.iload_n 1, 1) := by decide +kernel
theorem dX8_sill_65 : decode cX8_sill 65 = .ok (.invokevirtual 149, 3) := by decide +kernel
theorem dX8_sill_68 : decode cX8_sill 68 = .ok (.ireturn, 1) := by decide +kernel
theorem dX8_sill_69 : decode cX8_sill 69 = .ok (.ldc 107, 2) := by decide +kernel
theorem dX8_sill_71 : decode cX8_sill 71 = .ok (.ireturn, 1) := by decide +kernel
theorem dX8_worst_0 : decode cX8_worst 0 = .ok (.iconst 0, 1) := by decide +kernel
theorem dX8_worst_1 : decode cX8_worst 1 = .ok (.istore_n 1, 1) := by decide +kernel
theorem dX8_worst_2 : decode cX8_worst 2 = .ok (.iconst 1, 1) := by decide +kernel
theorem dX8_worst_3 : decode cX8_worst 3 = .ok (.istore_n 2, 1) := by decide +kernel
theorem dX8_worst_4 : decode cX8_worst 4 = .ok (.iload_n 2, 1) := by decide +kernel
theorem dX8_worst_5 : decode cX8_worst 5 = .ok (.aload_n 0, 1) := by decide +kernel
theorem dX8_worst_6 : decode cX8_worst 6 = .ok (.getfield 23, 3) := by decide +kernel
theorem dX8_worst_9 : decode cX8_worst 9 = .ok (.getfield 152, 3) := by decide +kernel
theorem dX8_worst_12 : decode cX8_worst 12 = .ok (.if_icmp .gt 36, 3) := by decide +kernel
theorem dX8_worst_15 : decode cX8_worst 15 = .ok (.aload_n 0, 1) := by decide +kernel
theorem dX8_worst_16 : decode cX8_worst 16 = .ok (.getfield 32, 3) := by decide +kernel
theorem dX8_worst_19 : decode cX8_worst 19 = .ok (.iload_n 2, 1) := by decide +kernel
theorem dX8_worst_20 : decode cX8_worst 20 = .ok (.invokevirtual 149, 3) := by decide +kernel
theorem dX8_worst_23 : decode cX8_worst 23 = .ok (.invokestatic 155, 3) := by decide +kernel
theorem dX8_worst_26 : decode cX8_worst 26 = .ok (.aload_n 0, 1) := by decide +kernel
theorem dX8_worst_27 : decode cX8_worst 27 = .ok (.getfield 32, 3) := by decide +kernel
theorem dX8_worst_30 : decode cX8_worst 30 = .ok (.iload_n 1, 1) := by decide +kernel
theorem dX8_worst_31 : decode cX8_worst 31 = .ok (.invokevirtual 149, 3) := by decide +kernel
theorem dX8_worst_34 : decode cX8_worst 34 = .ok (.invokestatic 155, 3) := by decide +kernel
theorem dX8_worst_37 : decode cX8_worst 37 = .ok (.if_icmp .le 5, 3) := by decide +kernel
theorem dX8_worst_40 : decode cX8_worst 40 = .ok (.iload_n 2, 1) := by decide +kernel
theorem dX8_worst_41 : decode cX8_worst 41 = .ok (.istore_n 1, 1) := by decide +kernel
theorem dX8_worst_42 : decode cX8_worst 42 = .ok (.iinc 2 1, 3) := by decide +kernel
theorem dX8_worst_45 : decode cX8_worst 45 = .ok (.goto (-41), 3) := by decide +kernel
theorem dX8_worst_48 : decode cX8_worst 48 = .ok (.iload_n 1, 1) := by decide +kernel
theorem dX8_worst_49 : decode cX8_worst 49 = .ok (.ireturn, 1) := by decide +kernel
theorem dX8_stairs_0 : decode cX8_stairs 0 = .ok (.aload_n 0, 1) := by decide +kernel
theorem dX8_stairs_1 : decode cX8_stairs 1 = .ok (.iload_n 1, 1) := by decide +kernel
theorem dX8_stairs_2 : decode cX8_stairs 2 = .ok (.invokevirtual 104, 3) := by decide +kernel
theorem dX8_stairs_5 : decode cX8_stairs 5 = .ok (.ifCond .eq 23, 3) := by decide +kernel
theorem dX8_stairs_8 : decode cX8_stairs 8 = .ok (.iload_n 2, 1) := by decide +kernel
theorem dX8_stairs_9 : decode cX8_stairs 9 = .ok (.iconst 1, 1) := by decide +kernel
theorem dX8_stairs_10 : decode cX8_stairs 10 = .ok (.bipush 40, 2) := by decide +kernel
theorem dX8_stairs_12 : decode cX8_stairs 12 = .ok (.invokestatic 79, 3) := by decide +kernel
theorem dX8_stairs_15 : decode cX8_stairs 15 = .ok (.ifCond .eq 13, 3) := by decide +kernel
theorem dX8_stairs_18 : decode cX8_stairs 18 = .ok (.iload_n 3, 1) := by decide +kernel
theorem dX8_stairs_19 : decode cX8_stairs 19 = .ok (.iconst 1, 1) := by decide +kernel
theorem dX8_stairs_20 : decode cX8_stairs 20 = .ok (.bipush 99, 2) := by decide +kernel
theorem dX8_stairs_22 : decode cX8_stairs 22 = .ok (.invokestatic 79, 3) := by decide +kernel
theorem dX8_stairs_25 : decode cX8_stairs 25 = .ok (.ifCond .ne 6, 3) := by decide +kernel
theorem dX8_stairs_28 : decode cX8_stairs 28 = .ok (.ldc 107, 2) := by decide +kernel
theorem dX8_stairs_30 : decode cX8_stairs 30 = .ok (.ireturn, 1) := by decide +kernel
theorem dX8_stairs_31 : decode cX8_stairs 31 = .ok (.aload_n 0, 1) := by decide +kernel
theorem dX8_stairs_32 : decode cX8_stairs 32 = .ok (.getfield 32, 3) := by decide +kernel
theorem dX8_stairs_35 : decode cX8_stairs 35 = .ok (.iload_n 1, 1) := by decide +kernel
theorem dX8_stairs_36 : decode cX8_stairs 36 = .ok (.invokevirtual 111, 3) := by decide +kernel
theorem dX8_stairs_39 : decode cX8_stairs 39 = .ok (.iload_n 2, 1) := by decide +kernel
theorem dX8_stairs_40 : decode cX8_stairs 40 = .ok (.iload_n 3, 1) := by decide +kernel
theorem dX8_stairs_41 : decode cX8_stairs 41 = .ok (.imul, 1) := by decide +kernel
theorem dX8_stairs_42 : decode cX8_stairs 42 = .ok (.isub, 1) := by decide +kernel
theorem dX8_stairs_43 : decode cX8_stairs 43 = .ok (.ireturn, 1) := by decide +kernel
theorem dX8_even_0 : decode cX8_even 0 = .ok (.aload_n 0, 1) := by decide +kernel
theorem dX8_even_1 : decode cX8_even 1 = .ok (.iload_n 1, 1) := by decide +kernel
theorem dX8_even_2 : decode cX8_even 2 = .ok (.invokevirtual 104, 3) := by decide +kernel
theorem dX8_even_5 : decode cX8_even 5 = .ok (.ifCond .eq 33, 3) := by decide +kernel
theorem dX8_even_8 : decode cX8_even 8 = .ok (.iload_n 2, 1) := by decide +kernel
theorem dX8_even_9 : decode cX8_even 9 = .ok (.iconst 1, 1) := by decide +kernel
theorem dX8_even_10 : decode cX8_even 10 = .ok (.bipush 99, 2) := by decide +kernel
theorem dX8_even_12 : decode cX8_even 12 = .ok (.invokestatic 79, 3) := by decide +kernel
theorem dX8_even_15 : decode cX8_even 15 = .ok (.ifCond .eq 23, 3) := by decide +kernel
theorem dX8_even_18 : decode cX8_even 18 = .ok (.iload_n 3, 1) := by decide +kernel
theorem dX8_even_19 : decode cX8_even 19 = .ok (.iload_n 2, 1) := by decide +kernel
theorem dX8_even_20 : decode cX8_even 20 = .ok (.bipush 99, 2) := by decide +kernel
theorem dX8_even_22 : decode cX8_even 22 = .ok (.invokestatic 79, 3) := by decide +kernel
theorem dX8_even_25 : decode cX8_even 25 = .ok (.ifCond .eq 13, 3) := by decide +kernel
theorem dX8_even_28 : decode cX8_even 28 = .ok (.iload 4, 2) := by decide +kernel
theorem dX8_even_30 : decode cX8_even 30 = .ok (.iconst 0, 1) := by decide +kernel
theorem dX8_even_31 : decode cX8_even 31 = .ok (.iconst 2, 1) := by decide +kernel
theorem dX8_even_32 : decode cX8_even 32 = .ok (.invokestatic 79, 3) := by decide +kernel
theorem dX8_even_35 : decode cX8_even 35 = .ok (.ifCond .ne 6, 3) := by decide +kernel
theorem dX8_even_38 : decode cX8_even 38 = .ok (.bipush (-2), 2) := by decide +kernel
theorem dX8_even_40 : decode cX8_even 40 = .ok (.ireturn, 1) := by decide +kernel
theorem dX8_even_41 : decode cX8_even 41 = .ok (.aload_n 0, 1) := by decide +kernel
theorem dX8_even_42 : decode cX8_even 42 = .ok (.getfield 32, 3) := by decide +kernel
theorem dX8_even_45 : decode cX8_even 45 = .ok (.iload_n 1, 1) := by decide +kernel
theorem dX8_even_46 : decode cX8_even 46 = .ok (.invokevirtual 111, 3) := by decide +kernel
theorem dX8_even_49 : decode cX8_even 49 = .ok (.istore 5, 2) := by decide +kernel
theorem dX8_even_51 : decode cX8_even 51 = .ok (.iload 5, 2) := by decide +kernel
theorem dX8_even_53 : decode cX8_even 53 = .ok (.iload_n 2, 1) := by decide +kernel
theorem dX8_even_54 : decode cX8_even 54 = .ok (.iload_n 3, 1) := by decide +kernel
theorem dX8_even_55 : decode cX8_even 55 = .ok (.invokestatic 160, 3) := by decide +kernel
theorem dX8_even_58 : decode cX8_even 58 = .ok (.istore 6, 2) := by decide +kernel
theorem dX8_even_60 : decode cX8_even 60 = .ok (.iload 5, 2) := by decide +kernel
theorem dX8_even_62 : decode cX8_even 62 = .ok (.iload 6, 2) := by decide +kernel
theorem dX8_even_64 : decode cX8_even 64 = .ok (.iload_n 2, 1) := by decide +kernel
theorem dX8_even_65 : decode cX8_even 65 = .ok (.iload_n 3, 1) := by decide +kernel
theorem dX8_even_66 : decode cX8_even 66 = .ok (.invokestatic 163, 3) := by decide +kernel
theorem dX8_even_69 : decode cX8_even 69 = .ok (.istore 7, 2) := by decide +kernel
theorem dX8_even_71 : decode cX8_even 71 = .ok (.iload 4, 2) := by decide +kernel
theorem dX8_even_73 : decode cX8_even 73 = .ok (.lookupswitch 33 #[(0, 27), (1, 30)], 27) := by decide +kernel
theorem dX8_even_100 : decode cX8_even 100 = .ok (.iload 7, 2) := by decide +kernel
theorem dX8_even_102 : decode cX8_even 102 = .ok (.ireturn, 1) := by decide +kernel
theorem dX8_even_103 : decode cX8_even 103 = .ok (.iload 6, 2) := by decide +kernel
theorem dX8_even_105 : decode cX8_even 105 = .ok (.ireturn, 1) := by decide +kernel
theorem dX8_even_106 : decode cX8_even 106 = .ok (.iload 5, 2) := by decide +kernel
theorem dX8_even_108 : decode cX8_even 108 = .ok (.iload 6, 2) := by decide +kernel
theorem dX8_even_110 : decode cX8_even 110 = .ok (.iload 7, 2) := by decide +kernel
theorem dX8_even_112 : decode cX8_even 112 = .ok (.imul, 1) := by decide +kernel
theorem dX8_even_113 : decode cX8_even 113 = .ok (.isub, 1) := by decide +kernel
theorem dX8_even_114 : decode cX8_even 114 = .ok (.invokestatic 155, 3) := by decide +kernel
theorem dX8_even_117 : decode cX8_even 117 = .ok (.ireturn, 1) := by decide +kernel
theorem dX8_blame_0 : decode cX8_blame 0 = .ok (.iload_n 1, 1) := by decide +kernel
theorem dX8_blame_1 : decode cX8_blame 1 = .ok (.invokestatic 75, 3) := by decide +kernel
theorem dX8_blame_4 : decode cX8_blame 4 = .ok (.ifCond .eq 21, 3) := by decide +kernel
theorem dX8_blame_7 : decode cX8_blame 7 = .ok (.iload_n 2, 1) := by decide +kernel
theorem dX8_blame_8 : decode cX8_blame 8 = .ok (.iconst 0, 1) := by decide +kernel
theorem dX8_blame_9 : decode cX8_blame 9 = .ok (.iconst 1, 1) := by decide +kernel
theorem dX8_blame_10 : decode cX8_blame 10 = .ok (.invokestatic 79, 3) := by decide +kernel
theorem dX8_blame_13 : decode cX8_blame 13 = .ok (.ifCond .eq 12, 3) := by decide +kernel
theorem dX8_blame_16 : decode cX8_blame 16 = .ok (.iload_n 3, 1) := by decide +kernel
theorem dX8_blame_17 : decode cX8_blame 17 = .ok (.iconst 0, 1) := by decide +kernel
theorem dX8_blame_18 : decode cX8_blame 18 = .ok (.iconst 1, 1) := by decide +kernel
theorem dX8_blame_19 : decode cX8_blame 19 = .ok (.invokestatic 79, 3) := by decide +kernel
theorem dX8_blame_22 : decode cX8_blame 22 = .ok (.ifCond .ne 9, 3) := by decide +kernel
theorem dX8_blame_25 : decode cX8_blame 25 = .ok (.bipush (-2), 2) := by decide +kernel
theorem dX8_blame_27 : decode cX8_blame 27 = .ok (.invokestatic 167, 3) := by decide +kernel
theorem dX8_blame_30 : decode cX8_blame 30 = .ok (.lreturn, 1) := by decide +kernel
theorem dX8_blame_31 : decode cX8_blame 31 = .ok (.aload_n 0, 1) := by decide +kernel
theorem dX8_blame_32 : decode cX8_blame 32 = .ok (.getfield 32, 3) := by decide +kernel
theorem dX8_blame_35 : decode cX8_blame 35 = .ok (.iload_n 1, 1) := by decide +kernel
theorem dX8_blame_36 : decode cX8_blame 36 = .ok (.invokevirtual 171, 3) := by decide +kernel
theorem dX8_blame_39 : decode cX8_blame 39 = .ok (.i2l, 1) := by decide +kernel
theorem dX8_blame_40 : decode cX8_blame 40 = .ok (.lstore 4, 2) := by decide +kernel
theorem dX8_blame_42 : decode cX8_blame 42 = .ok (.iload_n 2, 1) := by decide +kernel
theorem dX8_blame_43 : decode cX8_blame 43 = .ok (.ifCond .ne 14, 3) := by decide +kernel
theorem dX8_blame_46 : decode cX8_blame 46 = .ok (.iload_n 3, 1) := by decide +kernel
theorem dX8_blame_47 : decode cX8_blame 47 = .ok (.ifCond .ne 8, 3) := by decide +kernel
theorem dX8_blame_50 : decode cX8_blame 50 = .ok (.lload 4, 2) := by decide +kernel
theorem dX8_blame_52 : decode cX8_blame 52 = .ok (.goto 4, 3) := by decide +kernel
theorem dX8_blame_55 : decode cX8_blame 55 = .ok (.lconst 1, 1) := by decide +kernel
theorem dX8_blame_56 : decode cX8_blame 56 = .ok (.lreturn, 1) := by decide +kernel
theorem dX8_blame_57 : decode cX8_blame 57 = .ok (.lconst 0, 1) := by decide +kernel
theorem dX8_blame_58 : decode cX8_blame 58 = .ok (.lstore 6, 2) := by decide +kernel
theorem dX8_blame_60 : decode cX8_blame 60 = .ok (.iconst 0, 1) := by decide +kernel
theorem dX8_blame_61 : decode cX8_blame 61 = .ok (.istore 8, 2) := by decide +kernel
theorem dX8_blame_63 : decode cX8_blame 63 = .ok (.iload 8, 2) := by decide +kernel
theorem dX8_blame_65 : decode cX8_blame 65 = .ok (.iconst 3, 1) := by decide +kernel
theorem dX8_blame_66 : decode cX8_blame 66 = .ok (.if_icmp .ge 24, 3) := by decide +kernel
theorem dX8_blame_69 : decode cX8_blame 69 = .ok (.lload 6, 2) := by decide +kernel
theorem dX8_blame_71 : decode cX8_blame 71 = .ok (.aload_n 0, 1) := by decide +kernel
theorem dX8_blame_72 : decode cX8_blame 72 = .ok (.getfield 32, 3) := by decide +kernel
theorem dX8_blame_75 : decode cX8_blame 75 = .ok (.iload 8, 2) := by decide +kernel
theorem dX8_blame_77 : decode cX8_blame 77 = .ok (.invokevirtual 171, 3) := by decide +kernel
theorem dX8_blame_80 : decode cX8_blame 80 = .ok (.i2l, 1) := by decide +kernel
theorem dX8_blame_81 : decode cX8_blame 81 = .ok (.ladd, 1) := by decide +kernel
theorem dX8_blame_82 : decode cX8_blame 82 = .ok (.lstore 6, 2) := by decide +kernel
theorem dX8_blame_84 : decode cX8_blame 84 = .ok (.iinc 8 1, 3) := by decide +kernel
theorem dX8_blame_87 : decode cX8_blame 87 = .ok (.goto (-24), 3) := by decide +kernel
theorem dX8_blame_90 : decode cX8_blame 90 = .ok (.lload 6, 2) := by decide +kernel
theorem dX8_blame_92 : decode cX8_blame 92 = .ok (.lconst 0, 1) := by decide +kernel
theorem dX8_blame_93 : decode cX8_blame 93 = .ok (.lcmp, 1) := by decide +kernel
theorem dX8_blame_94 : decode cX8_blame 94 = .ok (.ifCond .ne 11, 3) := by decide +kernel
theorem dX8_blame_97 : decode cX8_blame 97 = .ok (.bipush (-3), 2) := by decide +kernel
theorem dX8_blame_99 : decode cX8_blame 99 = .ok (.invokestatic 167, 3) := by decide +kernel
theorem dX8_blame_102 : decode cX8_blame 102 = .ok (.goto 11, 3) := by decide +kernel
theorem dX8_blame_105 : decode cX8_blame 105 = .ok (.lload 4, 2) := by decide +kernel
theorem dX8_blame_107 : decode cX8_blame 107 = .ok (.lload 6, 2) := by decide +kernel
theorem dX8_blame_109 : decode cX8_blame 109 = .ok (.iload_n 3, 1) := by decide +kernel
theorem dX8_blame_110 : decode cX8_blame 110 = .ok (.invokestatic 174, 3) := by decide +kernel
theorem dX8_blame_113 : decode cX8_blame 113 = .ok (.lreturn, 1) := by decide +kernel
theorem dX8_found_0 : decode cX8_found 0 = .ok (.iload_n 1, 1) := by decide +kernel
theorem dX8_found_1 : decode cX8_found 1 = .ok (.invokestatic 131, 3) := by decide +kernel
theorem dX8_found_4 : decode cX8_found 4 = .ok (.ifCond .eq 10, 3) := by decide +kernel
theorem dX8_found_7 : decode cX8_found 7 = .ok (.iload_n 2, 1) := by decide +kernel
theorem dX8_found_8 : decode cX8_found 8 = .ok (.invokestatic 178, 3) := by decide +kernel
theorem dX8_found_11 : decode cX8_found 11 = .ok (.ifCond .ne 6, 3) := by decide +kernel
theorem dX8_found_14 : decode cX8_found 14 = .ok (.bipush (-5), 2) := by decide +kernel
theorem dX8_found_16 : decode cX8_found 16 = .ok (.ireturn, 1) := by decide +kernel
theorem dX8_found_17 : decode cX8_found 17 = .ok (.aload_n 0, 1) := by decide +kernel
theorem dX8_found_18 : decode cX8_found 18 = .ok (.getfield 41, 3) := by decide +kernel
theorem dX8_found_21 : decode cX8_found 21 = .ok (.getfield 121, 3) := by decide +kernel
theorem dX8_found_24 : decode cX8_found 24 = .ok (.iload_n 1, 1) := by decide +kernel
theorem dX8_found_25 : decode cX8_found 25 = .ok (.iaload, 1) := by decide +kernel
theorem dX8_found_26 : decode cX8_found 26 = .ok (.istore_n 3, 1) := by decide +kernel
theorem dX8_found_27 : decode cX8_found 27 = .ok (.aload_n 0, 1) := by decide +kernel
theorem dX8_found_28 : decode cX8_found 28 = .ok (.getfield 41, 3) := by decide +kernel
theorem dX8_found_31 : decode cX8_found 31 = .ok (.getfield 121, 3) := by decide +kernel
theorem dX8_found_34 : decode cX8_found 34 = .ok (.iload_n 1, 1) := by decide +kernel
theorem dX8_found_35 : decode cX8_found 35 = .ok (.iload_n 2, 1) := by decide +kernel
theorem dX8_found_36 : decode cX8_found 36 = .ok (.iastore, 1) := by decide +kernel
theorem dX8_found_37 : decode cX8_found 37 = .ok (.iload_n 3, 1) := by decide +kernel
theorem dX8_found_38 : decode cX8_found 38 = .ok (.ireturn, 1) := by decide +kernel
theorem dX8_read_0 : decode cX8_read 0 = .ok (.aload_n 0, 1) := by decide +kernel
theorem dX8_read_1 : decode cX8_read 1 = .ok (.iload_n 1, 1) := by decide +kernel
theorem dX8_read_2 : decode cX8_read 2 = .ok (.invokevirtual 181, 3) := by decide +kernel
theorem dX8_read_5 : decode cX8_read 5 = .ok (.istore_n 2, 1) := by decide +kernel
theorem dX8_read_6 : decode cX8_read 6 = .ok (.iload_n 2, 1) := by decide +kernel
theorem dX8_read_7 : decode cX8_read 7 = .ok (.ifCond .eq 5, 3) := by decide +kernel
theorem dX8_read_10 : decode cX8_read 10 = .ok (.iload_n 2, 1) := by decide +kernel
theorem dX8_read_11 : decode cX8_read 11 = .ok (.ireturn, 1) := by decide +kernel
theorem dX8_read_12 : decode cX8_read 12 = .ok (.aload_n 0, 1) := by decide +kernel
theorem dX8_read_13 : decode cX8_read 13 = .ok (.getfield 70, 3) := by decide +kernel
theorem dX8_read_16 : decode cX8_read 16 = .ok (.iload_n 1, 1) := by decide +kernel
theorem dX8_read_17 : decode cX8_read 17 = .ok (.aaload, 1) := by decide +kernel
theorem dX8_read_18 : decode cX8_read 18 = .ok (.astore_n 3, 1) := by decide +kernel
theorem dX8_read_19 : decode cX8_read 19 = .ok (.aload_n 3, 1) := by decide +kernel
theorem dX8_read_20 : decode cX8_read 20 = .ok (.getfield 184, 3) := by decide +kernel
theorem dX8_read_23 : decode cX8_read 23 = .ok (.bipush 10, 2) := by decide +kernel
theorem dX8_read_25 : decode cX8_read 25 = .ok (.invokestatic 187, 3) := by decide +kernel
theorem dX8_read_28 : decode cX8_read 28 = .ok (.istore 4, 2) := by decide +kernel
theorem dX8_read_30 : decode cX8_read 30 = .ok (.iconst 0, 1) := by decide +kernel
theorem dX8_read_31 : decode cX8_read 31 = .ok (.istore 5, 2) := by decide +kernel
theorem dX8_read_33 : decode cX8_read 33 = .ok (.iload 5, 2) := by decide +kernel
theorem dX8_read_35 : decode cX8_read 35 = .ok (.iload 4, 2) := by decide +kernel
theorem dX8_read_37 : decode cX8_read 37 = .ok (.if_icmp .ge 39, 3) := by decide +kernel
theorem dX8_read_40 : decode cX8_read 40 = .ok (.aload_n 3, 1) := by decide +kernel
theorem dX8_read_41 : decode cX8_read 41 = .ok (.getfield 191, 3) := by decide +kernel
theorem dX8_read_44 : decode cX8_read 44 = .ok (.iload 5, 2) := by decide +kernel
theorem dX8_read_46 : decode cX8_read 46 = .ok (.iaload, 1) := by decide +kernel
theorem dX8_read_47 : decode cX8_read 47 = .ok (.invokestatic 178, 3) := by decide +kernel
theorem dX8_read_50 : decode cX8_read 50 = .ok (.ifCond .eq 26, 3) := by decide +kernel
theorem dX8_read_53 : decode cX8_read 53 = .ok (.aload_n 0, 1) := by decide +kernel
theorem dX8_read_54 : decode cX8_read 54 = .ok (.getfield 41, 3) := by decide +kernel
theorem dX8_read_57 : decode cX8_read 57 = .ok (.getfield 121, 3) := by decide +kernel
theorem dX8_read_60 : decode cX8_read 60 = .ok (.iload 5, 2) := by decide +kernel
theorem dX8_read_62 : decode cX8_read 62 = .ok (.aload_n 3, 1) := by decide +kernel
theorem dX8_read_63 : decode cX8_read 63 = .ok (.getfield 191, 3) := by decide +kernel
theorem dX8_read_66 : decode cX8_read 66 = .ok (.iload 5, 2) := by decide +kernel
theorem dX8_read_68 : decode cX8_read 68 = .ok (.iaload, 1) := by decide +kernel
theorem dX8_read_69 : decode cX8_read 69 = .ok (.iastore, 1) := by decide +kernel
theorem dX8_read_70 : decode cX8_read 70 = .ok (.iinc 5 1, 3) := by decide +kernel
theorem dX8_read_73 : decode cX8_read 73 = .ok (.goto (-40), 3) := by decide +kernel
theorem dX8_read_76 : decode cX8_read 76 = .ok (.iload 5, 2) := by decide +kernel
theorem dX8_read_78 : decode cX8_read 78 = .ok (.ireturn, 1) := by decide +kernel
theorem dX8_fits_0 : decode cX8_fits 0 = .ok (.aload_n 0, 1) := by decide +kernel
theorem dX8_fits_1 : decode cX8_fits 1 = .ok (.iload_n 1, 1) := by decide +kernel
theorem dX8_fits_2 : decode cX8_fits 2 = .ok (.invokevirtual 104, 3) := by decide +kernel
theorem dX8_fits_5 : decode cX8_fits 5 = .ok (.ifCond .eq 20, 3) := by decide +kernel
theorem dX8_fits_8 : decode cX8_fits 8 = .ok (.aload_n 0, 1) := by decide +kernel
theorem dX8_fits_9 : decode cX8_fits 9 = .ok (.getfield 41, 3) := by decide +kernel
theorem dX8_fits_12 : decode cX8_fits 12 = .ok (.iload_n 1, 1) := by decide +kernel
theorem dX8_fits_13 : decode cX8_fits 13 = .ok (.aload_n 0, 1) := by decide +kernel
theorem dX8_fits_14 : decode cX8_fits 14 = .ok (.getfield 7, 3) := by decide +kernel
theorem dX8_fits_17 : decode cX8_fits 17 = .ok (.iconst 0, 1) := by decide +kernel
theorem dX8_fits_18 : decode cX8_fits 18 = .ok (.iaload, 1) := by decide +kernel
theorem dX8_fits_19 : decode cX8_fits 19 = .ok (.invokevirtual 194, 3) := by decide +kernel
theorem dX8_fits_22 : decode cX8_fits 22 = .ok (.goto 5, 3) := by decide +kernel
theorem dX8_fits_25 : decode cX8_fits 25 = .ok (.bipush (-2), 2) := by decide +kernel
theorem dX8_fits_27 : decode cX8_fits 27 = .ok (.ireturn, 1) := by decide +kernel
theorem dX8_worlds_0 : decode cX8_worlds 0 = .ok (.aload_n 0, 1) := by decide +kernel
theorem dX8_worlds_1 : decode cX8_worlds 1 = .ok (.getfield 41, 3) := by decide +kernel
theorem dX8_worlds_4 : decode cX8_worlds 4 = .ok (.aload_n 0, 1) := by decide +kernel
theorem dX8_worlds_5 : decode cX8_worlds 5 = .ok (.getfield 7, 3) := by decide +kernel
theorem dX8_worlds_8 : decode cX8_worlds 8 = .ok (.iconst 0, 1) := by decide +kernel
theorem dX8_worlds_9 : decode cX8_worlds 9 = .ok (.iaload, 1) := by decide +kernel
theorem dX8_worlds_10 : decode cX8_worlds 10 = .ok (.iconst (-1), 1) := by decide +kernel
theorem dX8_worlds_11 : decode cX8_worlds 11 = .ok (.iconst 0, 1) := by decide +kernel
theorem dX8_worlds_12 : decode cX8_worlds 12 = .ok (.invokevirtual 197, 3) := by decide +kernel
theorem dX8_worlds_15 : decode cX8_worlds 15 = .ok (.lreturn, 1) := by decide +kernel
theorem dX8_odds_0 : decode cX8_odds 0 = .ok (.aload_n 0, 1) := by decide +kernel
theorem dX8_odds_1 : decode cX8_odds 1 = .ok (.iload_n 1, 1) := by decide +kernel
theorem dX8_odds_2 : decode cX8_odds 2 = .ok (.invokevirtual 104, 3) := by decide +kernel
theorem dX8_odds_5 : decode cX8_odds 5 = .ok (.ifCond .eq 19, 3) := by decide +kernel
theorem dX8_odds_8 : decode cX8_odds 8 = .ok (.iload_n 2, 1) := by decide +kernel
theorem dX8_odds_9 : decode cX8_odds 9 = .ok (.invokestatic 75, 3) := by decide +kernel
theorem dX8_odds_12 : decode cX8_odds 12 = .ok (.ifCond .eq 12, 3) := by decide +kernel
theorem dX8_odds_15 : decode cX8_odds 15 = .ok (.iload_n 3, 1) := by decide +kernel
theorem dX8_odds_16 : decode cX8_odds 16 = .ok (.iconst 0, 1) := by decide +kernel
theorem dX8_odds_17 : decode cX8_odds 17 = .ok (.iconst 1, 1) := by decide +kernel
theorem dX8_odds_18 : decode cX8_odds 18 = .ok (.invokestatic 79, 3) := by decide +kernel
theorem dX8_odds_21 : decode cX8_odds 21 = .ok (.ifCond .ne 9, 3) := by decide +kernel
theorem dX8_odds_24 : decode cX8_odds 24 = .ok (.bipush (-2), 2) := by decide +kernel
theorem dX8_odds_26 : decode cX8_odds 26 = .ok (.invokestatic 167, 3) := by decide +kernel
theorem dX8_odds_29 : decode cX8_odds 29 = .ok (.lreturn, 1) := by decide +kernel
theorem dX8_odds_30 : decode cX8_odds 30 = .ok (.aload_n 0, 1) := by decide +kernel
theorem dX8_odds_31 : decode cX8_odds 31 = .ok (.invokevirtual 201, 3) := by decide +kernel
theorem dX8_odds_34 : decode cX8_odds 34 = .ok (.lstore 4, 2) := by decide +kernel
theorem dX8_odds_36 : decode cX8_odds 36 = .ok (.lload 4, 2) := by decide +kernel
theorem dX8_odds_38 : decode cX8_odds 38 = .ok (.lconst 0, 1) := by decide +kernel
theorem dX8_odds_39 : decode cX8_odds 39 = .ok (.lcmp, 1) := by decide +kernel
theorem dX8_odds_40 : decode cX8_odds 40 = .ok (.ifCond .ne 9, 3) := by decide +kernel
theorem dX8_odds_43 : decode cX8_odds 43 = .ok (.bipush (-3), 2) := by decide +kernel
theorem dX8_odds_45 : decode cX8_odds 45 = .ok (.invokestatic 167, 3) := by decide +kernel
theorem dX8_odds_48 : decode cX8_odds 48 = .ok (.lreturn, 1) := by decide +kernel
theorem dX8_odds_49 : decode cX8_odds 49 = .ok (.aload_n 0, 1) := by decide +kernel
theorem dX8_odds_50 : decode cX8_odds 50 = .ok (.getfield 41, 3) := by decide +kernel
theorem dX8_odds_53 : decode cX8_odds 53 = .ok (.aload_n 0, 1) := by decide +kernel
theorem dX8_odds_54 : decode cX8_odds 54 = .ok (.getfield 7, 3) := by decide +kernel
theorem dX8_odds_57 : decode cX8_odds 57 = .ok (.iconst 0, 1) := by decide +kernel
theorem dX8_odds_58 : decode cX8_odds 58 = .ok (.iaload, 1) := by decide +kernel
theorem dX8_odds_59 : decode cX8_odds 59 = .ok (.iload_n 1, 1) := by decide +kernel
theorem dX8_odds_60 : decode cX8_odds 60 = .ok (.iload_n 2, 1) := by decide +kernel
theorem dX8_odds_61 : decode cX8_odds 61 = .ok (.invokevirtual 197, 3) := by decide +kernel
theorem dX8_odds_64 : decode cX8_odds 64 = .ok (.lload 4, 2) := by decide +kernel
theorem dX8_odds_66 : decode cX8_odds 66 = .ok (.iload_n 3, 1) := by decide +kernel
theorem dX8_odds_67 : decode cX8_odds 67 = .ok (.invokestatic 174, 3) := by decide +kernel
theorem dX8_odds_70 : decode cX8_odds 70 = .ok (.lreturn, 1) := by decide +kernel
theorem dX8_lean_0 : decode cX8_lean 0 = .ok (.iload_n 1, 1) := by decide +kernel
theorem dX8_lean_1 : decode cX8_lean 1 = .ok (.iconst 0, 1) := by decide +kernel
theorem dX8_lean_2 : decode cX8_lean 2 = .ok (.bipush 10, 2) := by decide +kernel
theorem dX8_lean_4 : decode cX8_lean 4 = .ok (.invokestatic 79, 3) := by decide +kernel
theorem dX8_lean_7 : decode cX8_lean 7 = .ok (.ifCond .eq 14, 3) := by decide +kernel
theorem dX8_lean_10 : decode cX8_lean 10 = .ok (.iload_n 2, 1) := by decide +kernel
theorem dX8_lean_11 : decode cX8_lean 11 = .ok (.bipush (-99), 2) := by decide +kernel
theorem dX8_lean_13 : decode cX8_lean 13 = .ok (.bipush 99, 2) := by decide +kernel
theorem dX8_lean_15 : decode cX8_lean 15 = .ok (.invokestatic 79, 3) := by decide +kernel
theorem dX8_lean_18 : decode cX8_lean 18 = .ok (.ifCond .ne 6, 3) := by decide +kernel
theorem dX8_lean_21 : decode cX8_lean 21 = .ok (.ldc 107, 2) := by decide +kernel
theorem dX8_lean_23 : decode cX8_lean 23 = .ok (.ireturn, 1) := by decide +kernel
theorem dX8_lean_24 : decode cX8_lean 24 = .ok (.aload_n 0, 1) := by decide +kernel
theorem dX8_lean_25 : decode cX8_lean 25 = .ok (.getfield 48, 3) := by decide +kernel
theorem dX8_lean_28 : decode cX8_lean 28 = .ok (.getfield 205, 3) := by decide +kernel
theorem dX8_lean_31 : decode cX8_lean 31 = .ok (.iload_n 1, 1) := by decide +kernel
theorem dX8_lean_32 : decode cX8_lean 32 = .ok (.iaload, 1) := by decide +kernel
theorem dX8_lean_33 : decode cX8_lean 33 = .ok (.istore_n 3, 1) := by decide +kernel
theorem dX8_lean_34 : decode cX8_lean 34 = .ok (.aload_n 0, 1) := by decide +kernel
theorem dX8_lean_35 : decode cX8_lean 35 = .ok (.getfield 48, 3) := by decide +kernel
theorem dX8_lean_38 : decode cX8_lean 38 = .ok (.getfield 205, 3) := by decide +kernel
theorem dX8_lean_41 : decode cX8_lean 41 = .ok (.iload_n 1, 1) := by decide +kernel
theorem dX8_lean_42 : decode cX8_lean 42 = .ok (.iload_n 2, 1) := by decide +kernel
theorem dX8_lean_43 : decode cX8_lean 43 = .ok (.iastore, 1) := by decide +kernel
theorem dX8_lean_44 : decode cX8_lean 44 = .ok (.iload_n 3, 1) := by decide +kernel
theorem dX8_lean_45 : decode cX8_lean 45 = .ok (.ireturn, 1) := by decide +kernel
theorem dX8_runs_0 : decode cX8_runs 0 = .ok (.iload_n 1, 1) := by decide +kernel
theorem dX8_runs_1 : decode cX8_runs 1 = .ok (.iconst 1, 1) := by decide +kernel
theorem dX8_runs_2 : decode cX8_runs 2 = .ok (.sipush 999, 3) := by decide +kernel
theorem dX8_runs_5 : decode cX8_runs 5 = .ok (.invokestatic 79, 3) := by decide +kernel
theorem dX8_runs_8 : decode cX8_runs 8 = .ok (.ifCond .eq 24, 3) := by decide +kernel
theorem dX8_runs_11 : decode cX8_runs 11 = .ok (.aload_n 0, 1) := by decide +kernel
theorem dX8_runs_12 : decode cX8_runs 12 = .ok (.iload_n 2, 1) := by decide +kernel
theorem dX8_runs_13 : decode cX8_runs 13 = .ok (.invokevirtual 140, 3) := by decide +kernel
theorem dX8_runs_16 : decode cX8_runs 16 = .ok (.ifCond .eq 16, 3) := by decide +kernel
theorem dX8_runs_19 : decode cX8_runs 19 = .ok (.aload_n 0, 1) := by decide +kernel
theorem dX8_runs_20 : decode cX8_runs 20 = .ok (.iload_n 3, 1) := by decide +kernel
theorem dX8_runs_21 : decode cX8_runs 21 = .ok (.invokevirtual 140, 3) := by decide +kernel
theorem dX8_runs_24 : decode cX8_runs 24 = .ok (.ifCond .eq 8, 3) := by decide +kernel
theorem dX8_runs_27 : decode cX8_runs 27 = .ok (.iload_n 3, 1) := by decide +kernel
theorem dX8_runs_28 : decode cX8_runs 28 = .ok (.iload_n 2, 1) := by decide +kernel
theorem dX8_runs_29 : decode cX8_runs 29 = .ok (.if_icmp .ge 6, 3) := by decide +kernel
theorem dX8_runs_32 : decode cX8_runs 32 = .ok (.bipush (-2), 2) := by decide +kernel
theorem dX8_runs_34 : decode cX8_runs 34 = .ok (.ireturn, 1) := by decide +kernel
theorem dX8_runs_35 : decode cX8_runs 35 = .ok (.aload_n 0, 1) := by decide +kernel
theorem dX8_runs_36 : decode cX8_runs 36 = .ok (.getfield 48, 3) := by decide +kernel
theorem dX8_runs_39 : decode cX8_runs 39 = .ok (.iload_n 2, 1) := by decide +kernel
theorem dX8_runs_40 : decode cX8_runs 40 = .ok (.iload_n 3, 1) := by decide +kernel
theorem dX8_runs_41 : decode cX8_runs 41 = .ok (.invokevirtual 208, 3) := by decide +kernel
theorem dX8_runs_44 : decode cX8_runs 44 = .ok (.aload_n 0, 1) := by decide +kernel
theorem dX8_runs_45 : decode cX8_runs 45 = .ok (.getfield 7, 3) := by decide +kernel
theorem dX8_runs_48 : decode cX8_runs 48 = .ok (.iconst 1, 1) := by decide +kernel
theorem dX8_runs_49 : decode cX8_runs 49 = .ok (.iaload, 1) := by decide +kernel
theorem dX8_runs_50 : decode cX8_runs 50 = .ok (.iload_n 1, 1) := by decide +kernel
theorem dX8_runs_51 : decode cX8_runs 51 = .ok (.isub, 1) := by decide +kernel
theorem dX8_runs_52 : decode cX8_runs 52 = .ok (.if_icmp .gt 7, 3) := by decide +kernel
theorem dX8_runs_55 : decode cX8_runs 55 = .ok (.iconst 1, 1) := by decide +kernel
theorem dX8_runs_56 : decode cX8_runs 56 = .ok (.goto 4, 3) := by decide +kernel
theorem dX8_runs_59 : decode cX8_runs 59 = .ok (.iconst 0, 1) := by decide +kernel
theorem dX8_runs_60 : decode cX8_runs 60 = .ok (.ireturn, 1) := by decide +kernel
theorem dX8_lifts_0 : decode cX8_lifts 0 = .ok (.iconst 0, 1) := by decide +kernel
theorem dX8_lifts_1 : decode cX8_lifts 1 = .ok (.aload_n 0, 1) := by decide +kernel
theorem dX8_lifts_2 : decode cX8_lifts 2 = .ok (.getfield 7, 3) := by decide +kernel
theorem dX8_lifts_5 : decode cX8_lifts 5 = .ok (.iconst 1, 1) := by decide +kernel
theorem dX8_lifts_6 : decode cX8_lifts 6 = .ok (.iaload, 1) := by decide +kernel
theorem dX8_lifts_7 : decode cX8_lifts 7 = .ok (.aload_n 0, 1) := by decide +kernel
theorem dX8_lifts_8 : decode cX8_lifts 8 = .ok (.getfield 48, 3) := by decide +kernel
theorem dX8_lifts_11 : decode cX8_lifts 11 = .ok (.iconst 0, 1) := by decide +kernel
theorem dX8_lifts_12 : decode cX8_lifts 12 = .ok (.aload_n 0, 1) := by decide +kernel
theorem dX8_lifts_13 : decode cX8_lifts 13 = .ok (.getfield 23, 3) := by decide +kernel
theorem dX8_lifts_16 : decode cX8_lifts 16 = .ok (.getfield 152, 3) := by decide +kernel
theorem dX8_lifts_19 : decode cX8_lifts 19 = .ok (.invokevirtual 208, 3) := by decide +kernel
theorem dX8_lifts_22 : decode cX8_lifts 22 = .ok (.isub, 1) := by decide +kernel
theorem dX8_lifts_23 : decode cX8_lifts 23 = .ok (.invokestatic 211, 3) := by decide +kernel
theorem dX8_lifts_26 : decode cX8_lifts 26 = .ok (.ireturn, 1) := by decide +kernel
theorem dX8_longest_0 : decode cX8_longest 0 = .ok (.iload_n 1, 1) := by decide +kernel
theorem dX8_longest_1 : decode cX8_longest 1 = .ok (.iconst 1, 1) := by decide +kernel
theorem dX8_longest_2 : decode cX8_longest 2 = .ok (.sipush 999, 3) := by decide +kernel
theorem dX8_longest_5 : decode cX8_longest 5 = .ok (.invokestatic 79, 3) := by decide +kernel
theorem dX8_longest_8 : decode cX8_longest 8 = .ok (.ifCond .eq 12, 3) := by decide +kernel
theorem dX8_longest_11 : decode cX8_longest 11 = .ok (.iload_n 2, 1) := by decide +kernel
theorem dX8_longest_12 : decode cX8_longest 12 = .ok (.iconst 0, 1) := by decide +kernel
theorem dX8_longest_13 : decode cX8_longest 13 = .ok (.iconst 1, 1) := by decide +kernel
theorem dX8_longest_14 : decode cX8_longest 14 = .ok (.invokestatic 79, 3) := by decide +kernel
theorem dX8_longest_17 : decode cX8_longest 17 = .ok (.ifCond .ne 6, 3) := by decide +kernel
theorem dX8_longest_20 : decode cX8_longest 20 = .ok (.bipush (-2), 2) := by decide +kernel
theorem dX8_longest_22 : decode cX8_longest 22 = .ok (.ireturn, 1) := by decide +kernel
theorem dX8_longest_23 : decode cX8_longest 23 = .ok (.iconst 0, 1) := by decide +kernel
theorem dX8_longest_24 : decode cX8_longest 24 = .ok (.istore_n 3, 1) := by decide +kernel
theorem dX8_longest_25 : decode cX8_longest 25 = .ok (.iconst (-1), 1) := by decide +kernel
theorem dX8_longest_26 : decode cX8_longest 26 = .ok (.istore 4, 2) := by decide +kernel
theorem dX8_longest_28 : decode cX8_longest 28 = .ok (.iconst 0, 1) := by decide +kernel
theorem dX8_longest_29 : decode cX8_longest 29 = .ok (.istore 5, 2) := by decide +kernel
theorem dX8_longest_31 : decode cX8_longest 31 = .ok (.iload 5, 2) := by decide +kernel
theorem dX8_longest_33 : decode cX8_longest 33 = .ok (.aload_n 0, 1) := by decide +kernel
theorem dX8_longest_34 : decode cX8_longest 34 = .ok (.getfield 23, 3) := by decide +kernel
theorem dX8_longest_37 : decode cX8_longest 37 = .ok (.getfield 152, 3) := by decide +kernel
theorem dX8_longest_40 : decode cX8_longest 40 = .ok (.if_icmp .gt 48, 3) := by decide +kernel
theorem dX8_longest_43 : decode cX8_longest 43 = .ok (.aload_n 0, 1) := by decide +kernel
theorem dX8_longest_44 : decode cX8_longest 44 = .ok (.getfield 48, 3) := by decide +kernel
theorem dX8_longest_47 : decode cX8_longest 47 = .ok (.iload 5, 2) := by decide +kernel
theorem dX8_longest_49 : decode cX8_longest 49 = .ok (.aload_n 0, 1) := by decide +kernel
theorem dX8_longest_50 : decode cX8_longest 50 = .ok (.getfield 23, 3) := by decide +kernel
theorem dX8_longest_53 : decode cX8_longest 53 = .ok (.getfield 152, 3) := by decide +kernel
theorem dX8_longest_56 : decode cX8_longest 56 = .ok (.aload_n 0, 1) := by decide +kernel
theorem dX8_longest_57 : decode cX8_longest 57 = .ok (.getfield 7, 3) := by decide +kernel
theorem dX8_longest_60 : decode cX8_longest 60 = .ok (.iconst 1, 1) := by decide +kernel
theorem dX8_longest_61 : decode cX8_longest 61 = .ok (.iaload, 1) := by decide +kernel
theorem dX8_longest_62 : decode cX8_longest 62 = .ok (.iload_n 1, 1) := by decide +kernel
theorem dX8_longest_63 : decode cX8_longest 63 = .ok (.isub, 1) := by decide +kernel
theorem dX8_longest_64 : decode cX8_longest 64 = .ok (.invokevirtual 214, 3) := by decide +kernel
theorem dX8_longest_67 : decode cX8_longest 67 = .ok (.istore 6, 2) := by decide +kernel
theorem dX8_longest_69 : decode cX8_longest 69 = .ok (.iload 6, 2) := by decide +kernel
theorem dX8_longest_71 : decode cX8_longest 71 = .ok (.iload_n 3, 1) := by decide +kernel
theorem dX8_longest_72 : decode cX8_longest 72 = .ok (.if_icmp .le 10, 3) := by decide +kernel
theorem dX8_longest_75 : decode cX8_longest 75 = .ok (.iload 6, 2) := by decide +kernel
theorem dX8_longest_77 : decode cX8_longest 77 = .ok (.istore_n 3, 1) := by decide +kernel
theorem dX8_longest_78 : decode cX8_longest 78 = .ok (.iload 5, 2) := by decide +kernel
theorem dX8_longest_80 : decode cX8_longest 80 = .ok (.istore 4, 2) := by decide +kernel
theorem dX8_longest_82 : decode cX8_longest 82 = .ok (.iinc 5 1, 3) := by decide +kernel
theorem dX8_longest_85 : decode cX8_longest 85 = .ok (.goto (-54), 3) := by decide +kernel
theorem dX8_longest_88 : decode cX8_longest 88 = .ok (.iload_n 2, 1) := by decide +kernel
theorem dX8_longest_89 : decode cX8_longest 89 = .ok (.ifCond .ne 7, 3) := by decide +kernel
theorem dX8_longest_92 : decode cX8_longest 92 = .ok (.iload_n 3, 1) := by decide +kernel
theorem dX8_longest_93 : decode cX8_longest 93 = .ok (.goto 5, 3) := by decide +kernel
theorem dX8_longest_96 : decode cX8_longest 96 = .ok (.iload 4, 2) := by decide +kernel
theorem dX8_longest_98 : decode cX8_longest 98 = .ok (.ireturn, 1) := by decide +kernel
theorem dX8_mended_0 : decode cX8_mended 0 = .ok (.iload_n 1, 1) := by decide +kernel
theorem dX8_mended_1 : decode cX8_mended 1 = .ok (.iconst 0, 1) := by decide +kernel
theorem dX8_mended_2 : decode cX8_mended 2 = .ok (.sipush 1023, 3) := by decide +kernel
theorem dX8_mended_5 : decode cX8_mended 5 = .ok (.invokestatic 79, 3) := by decide +kernel
theorem dX8_mended_8 : decode cX8_mended 8 = .ok (.ifCond .eq 16, 3) := by decide +kernel
theorem dX8_mended_11 : decode cX8_mended 11 = .ok (.iload_n 2, 1) := by decide +kernel
theorem dX8_mended_12 : decode cX8_mended 12 = .ok (.iconst (-1), 1) := by decide +kernel
theorem dX8_mended_13 : decode cX8_mended 13 = .ok (.if_icmp .eq 14, 3) := by decide +kernel
theorem dX8_mended_16 : decode cX8_mended 16 = .ok (.aload_n 0, 1) := by decide +kernel
theorem dX8_mended_17 : decode cX8_mended 17 = .ok (.iload_n 2, 1) := by decide +kernel
theorem dX8_mended_18 : decode cX8_mended 18 = .ok (.invokevirtual 104, 3) := by decide +kernel
theorem dX8_mended_21 : decode cX8_mended 21 = .ok (.ifCond .ne 6, 3) := by decide +kernel
theorem dX8_mended_24 : decode cX8_mended 24 = .ok (.ldc 107, 2) := by decide +kernel
theorem dX8_mended_26 : decode cX8_mended 26 = .ok (.ireturn, 1) := by decide +kernel
theorem dX8_mended_27 : decode cX8_mended 27 = .ok (.aload_n 0, 1) := by decide +kernel
theorem dX8_mended_28 : decode cX8_mended 28 = .ok (.getfield 55, 3) := by decide +kernel
theorem dX8_mended_31 : decode cX8_mended 31 = .ok (.aload_n 0, 1) := by decide +kernel
theorem dX8_mended_32 : decode cX8_mended 32 = .ok (.getfield 32, 3) := by decide +kernel
theorem dX8_mended_35 : decode cX8_mended 35 = .ok (.iload_n 1, 1) := by decide +kernel
theorem dX8_mended_36 : decode cX8_mended 36 = .ok (.aload_n 0, 1) := by decide +kernel
theorem dX8_mended_37 : decode cX8_mended 37 = .ok (.getfield 7, 3) := by decide +kernel
theorem dX8_mended_40 : decode cX8_mended 40 = .ok (.iconst 2, 1) := by decide +kernel
theorem dX8_mended_41 : decode cX8_mended 41 = .ok (.iaload, 1) := by decide +kernel
theorem dX8_mended_42 : decode cX8_mended 42 = .ok (.aload_n 0, 1) := by decide +kernel
theorem dX8_mended_43 : decode cX8_mended 43 = .ok (.getfield 7, 3) := by decide +kernel
theorem dX8_mended_46 : decode cX8_mended 46 = .ok (.iconst 3, 1) := by decide +kernel
theorem dX8_mended_47 : decode cX8_mended 47 = .ok (.iaload, 1) := by decide +kernel
theorem dX8_mended_48 : decode cX8_mended 48 = .ok (.invokevirtual 217, 3) := by decide +kernel
theorem dX8_mended_51 : decode cX8_mended 51 = .ok (.istore_n 3, 1) := by decide +kernel
theorem dX8_mended_52 : decode cX8_mended 52 = .ok (.iload_n 2, 1) := by decide +kernel
theorem dX8_mended_53 : decode cX8_mended 53 = .ok (.iconst (-1), 1) := by decide +kernel
theorem dX8_mended_54 : decode cX8_mended 54 = .ok (.if_icmp .ne 5, 3) := by decide +kernel
theorem dX8_mended_57 : decode cX8_mended 57 = .ok (.iload_n 3, 1) := by decide +kernel
theorem dX8_mended_58 : decode cX8_mended 58 = .ok (.ireturn, 1) := by decide +kernel
theorem dX8_mended_59 : decode cX8_mended 59 = .ok (.iload_n 3, 1) := by decide +kernel
theorem dX8_mended_60 : decode cX8_mended 60 = .ok (.iconst (-1), 1) := by decide +kernel
theorem dX8_mended_61 : decode cX8_mended 61 = .ok (.if_icmp .ne 8, 3) := by decide +kernel
theorem dX8_mended_64 : decode cX8_mended 64 = .ok (.ldc 221, 2) := by decide +kernel
theorem dX8_mended_66 : decode cX8_mended 66 = .ok (.goto 12, 3) := by decide +kernel
theorem dX8_mended_69 : decode cX8_mended 69 = .ok (.aload_n 0, 1) := by decide +kernel
theorem dX8_mended_70 : decode cX8_mended 70 = .ok (.getfield 55, 3) := by decide +kernel
theorem dX8_mended_73 : decode cX8_mended 73 = .ok (.getfield 222, 3) := by decide +kernel
theorem dX8_mended_76 : decode cX8_mended 76 = .ok (.iload_n 2, 1) := by decide +kernel
theorem dX8_mended_77 : decode cX8_mended 77 = .ok (.iaload, 1) := by decide +kernel
theorem dX8_mended_78 : decode cX8_mended 78 = .ok (.ireturn, 1) := by decide +kernel
theorem dX8_next_0 : decode cX8_next 0 = .ok (.iload_n 1, 1) := by decide +kernel
theorem dX8_next_1 : decode cX8_next 1 = .ok (.iconst 1, 1) := by decide +kernel
theorem dX8_next_2 : decode cX8_next 2 = .ok (.sipush 9999, 3) := by decide +kernel
theorem dX8_next_5 : decode cX8_next 5 = .ok (.invokestatic 79, 3) := by decide +kernel
theorem dX8_next_8 : decode cX8_next 8 = .ok (.ifCond .eq 12, 3) := by decide +kernel
theorem dX8_next_11 : decode cX8_next 11 = .ok (.iload_n 2, 1) := by decide +kernel
theorem dX8_next_12 : decode cX8_next 12 = .ok (.iconst 0, 1) := by decide +kernel
theorem dX8_next_13 : decode cX8_next 13 = .ok (.iconst 1, 1) := by decide +kernel
theorem dX8_next_14 : decode cX8_next 14 = .ok (.invokestatic 79, 3) := by decide +kernel
theorem dX8_next_17 : decode cX8_next 17 = .ok (.ifCond .ne 6, 3) := by decide +kernel
theorem dX8_next_20 : decode cX8_next 20 = .ok (.bipush (-2), 2) := by decide +kernel
theorem dX8_next_22 : decode cX8_next 22 = .ok (.ireturn, 1) := by decide +kernel
theorem dX8_next_23 : decode cX8_next 23 = .ok (.iconst 0, 1) := by decide +kernel
theorem dX8_next_24 : decode cX8_next 24 = .ok (.istore_n 3, 1) := by decide +kernel
theorem dX8_next_25 : decode cX8_next 25 = .ok (.iconst 1, 1) := by decide +kernel
theorem dX8_next_26 : decode cX8_next 26 = .ok (.istore 4, 2) := by decide +kernel
theorem dX8_next_28 : decode cX8_next 28 = .ok (.iload 4, 2) := by decide +kernel
theorem dX8_next_30 : decode cX8_next 30 = .ok (.bipush 9, 2) := by decide +kernel
theorem dX8_next_32 : decode cX8_next 32 = .ok (.if_icmp .ge 28, 3) := by decide +kernel
theorem dX8_next_35 : decode cX8_next 35 = .ok (.aload_n 0, 1) := by decide +kernel
theorem dX8_next_36 : decode cX8_next 36 = .ok (.iload_n 1, 1) := by decide +kernel
theorem dX8_next_37 : decode cX8_next 37 = .ok (.iload 4, 2) := by decide +kernel
theorem dX8_next_39 : decode cX8_next 39 = .ok (.invokevirtual 225, 3) := by decide +kernel
theorem dX8_next_42 : decode cX8_next 42 = .ok (.aload_n 0, 1) := by decide +kernel
theorem dX8_next_43 : decode cX8_next 43 = .ok (.iload_n 1, 1) := by decide +kernel
theorem dX8_next_44 : decode cX8_next 44 = .ok (.iload_n 3, 1) := by decide +kernel
theorem dX8_next_45 : decode cX8_next 45 = .ok (.invokevirtual 225, 3) := by decide +kernel
theorem dX8_next_48 : decode cX8_next 48 = .ok (.if_icmp .ge 6, 3) := by decide +kernel
theorem dX8_next_51 : decode cX8_next 51 = .ok (.iload 4, 2) := by decide +kernel
theorem dX8_next_53 : decode cX8_next 53 = .ok (.istore_n 3, 1) := by decide +kernel
theorem dX8_next_54 : decode cX8_next 54 = .ok (.iinc 4 1, 3) := by decide +kernel
theorem dX8_next_57 : decode cX8_next 57 = .ok (.goto (-29), 3) := by decide +kernel
theorem dX8_next_60 : decode cX8_next 60 = .ok (.iload_n 2, 1) := by decide +kernel
theorem dX8_next_61 : decode cX8_next 61 = .ok (.ifCond .ne 7, 3) := by decide +kernel
theorem dX8_next_64 : decode cX8_next 64 = .ok (.iload_n 3, 1) := by decide +kernel
theorem dX8_next_65 : decode cX8_next 65 = .ok (.goto 9, 3) := by decide +kernel
theorem dX8_next_68 : decode cX8_next 68 = .ok (.aload_n 0, 1) := by decide +kernel
theorem dX8_next_69 : decode cX8_next 69 = .ok (.iload_n 1, 1) := by decide +kernel
theorem dX8_next_70 : decode cX8_next 70 = .ok (.iload_n 3, 1) := by decide +kernel
theorem dX8_next_71 : decode cX8_next 71 = .ok (.invokevirtual 225, 3) := by decide +kernel
theorem dX8_next_74 : decode cX8_next 74 = .ok (.ireturn, 1) := by decide +kernel
theorem dX8_weigh_0 : decode cX8_weigh 0 = .ok (.iload_n 1, 1) := by decide +kernel
theorem dX8_weigh_1 : decode cX8_weigh 1 = .ok (.invokestatic 131, 3) := by decide +kernel
theorem dX8_weigh_4 : decode cX8_weigh 4 = .ok (.ifCond .eq 13, 3) := by decide +kernel
theorem dX8_weigh_7 : decode cX8_weigh 7 = .ok (.iload_n 2, 1) := by decide +kernel
theorem dX8_weigh_8 : decode cX8_weigh 8 = .ok (.iconst 0, 1) := by decide +kernel
theorem dX8_weigh_9 : decode cX8_weigh 9 = .ok (.bipush 99, 2) := by decide +kernel
theorem dX8_weigh_11 : decode cX8_weigh 11 = .ok (.invokestatic 79, 3) := by decide +kernel
theorem dX8_weigh_14 : decode cX8_weigh 14 = .ok (.ifCond .ne 6, 3) := by decide +kernel
theorem dX8_weigh_17 : decode cX8_weigh 17 = .ok (.bipush (-2), 2) := by decide +kernel
theorem dX8_weigh_19 : decode cX8_weigh 19 = .ok (.ireturn, 1) := by decide +kernel
theorem dX8_weigh_20 : decode cX8_weigh 20 = .ok (.aload_n 0, 1) := by decide +kernel
theorem dX8_weigh_21 : decode cX8_weigh 21 = .ok (.getfield 64, 3) := by decide +kernel
theorem dX8_weigh_24 : decode cX8_weigh 24 = .ok (.getfield 228, 3) := by decide +kernel
theorem dX8_weigh_27 : decode cX8_weigh 27 = .ok (.iload_n 1, 1) := by decide +kernel
theorem dX8_weigh_28 : decode cX8_weigh 28 = .ok (.iaload, 1) := by decide +kernel
theorem dX8_weigh_29 : decode cX8_weigh 29 = .ok (.istore_n 3, 1) := by decide +kernel
theorem dX8_weigh_30 : decode cX8_weigh 30 = .ok (.aload_n 0, 1) := by decide +kernel
theorem dX8_weigh_31 : decode cX8_weigh 31 = .ok (.getfield 64, 3) := by decide +kernel
theorem dX8_weigh_34 : decode cX8_weigh 34 = .ok (.getfield 228, 3) := by decide +kernel
theorem dX8_weigh_37 : decode cX8_weigh 37 = .ok (.iload_n 1, 1) := by decide +kernel
theorem dX8_weigh_38 : decode cX8_weigh 38 = .ok (.iload_n 2, 1) := by decide +kernel
theorem dX8_weigh_39 : decode cX8_weigh 39 = .ok (.iastore, 1) := by decide +kernel
theorem dX8_weigh_40 : decode cX8_weigh 40 = .ok (.iload_n 3, 1) := by decide +kernel
theorem dX8_weigh_41 : decode cX8_weigh 41 = .ok (.ireturn, 1) := by decide +kernel
theorem dX8_bears_0 : decode cX8_bears 0 = .ok (.aload_n 0, 1) := by decide +kernel
theorem dX8_bears_1 : decode cX8_bears 1 = .ok (.iload_n 1, 1) := by decide +kernel
theorem dX8_bears_2 : decode cX8_bears 2 = .ok (.invokevirtual 104, 3) := by decide +kernel
theorem dX8_bears_5 : decode cX8_bears 5 = .ok (.ifCond .eq 22, 3) := by decide +kernel
theorem dX8_bears_8 : decode cX8_bears 8 = .ok (.iload_n 2, 1) := by decide +kernel
theorem dX8_bears_9 : decode cX8_bears 9 = .ok (.invokestatic 75, 3) := by decide +kernel
theorem dX8_bears_12 : decode cX8_bears 12 = .ok (.ifCond .eq 15, 3) := by decide +kernel
theorem dX8_bears_15 : decode cX8_bears 15 = .ok (.aload_n 0, 1) := by decide +kernel
theorem dX8_bears_16 : decode cX8_bears 16 = .ok (.getfield 64, 3) := by decide +kernel
theorem dX8_bears_19 : decode cX8_bears 19 = .ok (.iload_n 1, 1) := by decide +kernel
theorem dX8_bears_20 : decode cX8_bears 20 = .ok (.iload_n 2, 1) := by decide +kernel
theorem dX8_bears_21 : decode cX8_bears 21 = .ok (.invokevirtual 231, 3) := by decide +kernel
theorem dX8_bears_24 : decode cX8_bears 24 = .ok (.goto 5, 3) := by decide +kernel
theorem dX8_bears_27 : decode cX8_bears 27 = .ok (.bipush (-2), 2) := by decide +kernel
theorem dX8_bears_29 : decode cX8_bears 29 = .ok (.ireturn, 1) := by decide +kernel
theorem dX8_safe_0 : decode cX8_safe 0 = .ok (.iload_n 1, 1) := by decide +kernel
theorem dX8_safe_1 : decode cX8_safe 1 = .ok (.invokestatic 75, 3) := by decide +kernel
theorem dX8_safe_4 : decode cX8_safe 4 = .ok (.ifCond .eq 14, 3) := by decide +kernel
theorem dX8_safe_7 : decode cX8_safe 7 = .ok (.aload_n 0, 1) := by decide +kernel
theorem dX8_safe_8 : decode cX8_safe 8 = .ok (.getfield 64, 3) := by decide +kernel
theorem dX8_safe_11 : decode cX8_safe 11 = .ok (.iload_n 1, 1) := by decide +kernel
theorem dX8_safe_12 : decode cX8_safe 12 = .ok (.invokevirtual 234, 3) := by decide +kernel
theorem dX8_safe_15 : decode cX8_safe 15 = .ok (.goto 5, 3) := by decide +kernel
theorem dX8_safe_18 : decode cX8_safe 18 = .ok (.bipush (-2), 2) := by decide +kernel
theorem dX8_safe_20 : decode cX8_safe 20 = .ok (.ireturn, 1) := by decide +kernel
theorem dX8_more_0 : decode cX8_more 0 = .ok (.aload_n 0, 1) := by decide +kernel
theorem dX8_more_1 : decode cX8_more 1 = .ok (.getfield 23, 3) := by decide +kernel
theorem dX8_more_4 : decode cX8_more 4 = .ok (.getfield 152, 3) := by decide +kernel
theorem dX8_more_7 : decode cX8_more 7 = .ok (.ifCond .ne 7, 3) := by decide +kernel
theorem dX8_more_10 : decode cX8_more 10 = .ok (.iconst (-1), 1) := by decide +kernel
theorem dX8_more_11 : decode cX8_more 11 = .ok (.goto 10, 3) := by decide +kernel
theorem dX8_more_14 : decode cX8_more 14 = .ok (.aload_n 0, 1) := by decide +kernel
theorem dX8_more_15 : decode cX8_more 15 = .ok (.getfield 64, 3) := by decide +kernel
theorem dX8_more_18 : decode cX8_more 18 = .ok (.invokevirtual 237, 3) := by decide +kernel
theorem dX8_more_21 : decode cX8_more 21 = .ok (.ireturn, 1) := by decide +kernel
theorem dX8_stones_0 : decode cX8_stones 0 = .ok (.iload_n 1, 1) := by decide +kernel
theorem dX8_stones_1 : decode cX8_stones 1 = .ok (.iconst 0, 1) := by decide +kernel
theorem dX8_stones_2 : decode cX8_stones 2 = .ok (.iconst 1, 1) := by decide +kernel
theorem dX8_stones_3 : decode cX8_stones 3 = .ok (.invokestatic 79, 3) := by decide +kernel
theorem dX8_stones_6 : decode cX8_stones 6 = .ok (.ifCond .ne 6, 3) := by decide +kernel
theorem dX8_stones_9 : decode cX8_stones 9 = .ok (.bipush (-2), 2) := by decide +kernel
theorem dX8_stones_11 : decode cX8_stones 11 = .ok (.ireturn, 1) := by decide +kernel
theorem dX8_stones_12 : decode cX8_stones 12 = .ok (.iconst 0, 1) := by decide +kernel
theorem dX8_stones_13 : decode cX8_stones 13 = .ok (.istore_n 2, 1) := by decide +kernel
theorem dX8_stones_14 : decode cX8_stones 14 = .ok (.iconst 0, 1) := by decide +kernel
theorem dX8_stones_15 : decode cX8_stones 15 = .ok (.istore_n 3, 1) := by decide +kernel
theorem dX8_stones_16 : decode cX8_stones 16 = .ok (.iload_n 3, 1) := by decide +kernel
theorem dX8_stones_17 : decode cX8_stones 17 = .ok (.aload_n 0, 1) := by decide +kernel
theorem dX8_stones_18 : decode cX8_stones 18 = .ok (.getfield 23, 3) := by decide +kernel
theorem dX8_stones_21 : decode cX8_stones 21 = .ok (.getfield 152, 3) := by decide +kernel
theorem dX8_stones_24 : decode cX8_stones 24 = .ok (.if_icmp .ge 54, 3) := by decide +kernel
theorem dX8_stones_27 : decode cX8_stones 27 = .ok (.aload_n 0, 1) := by decide +kernel
theorem dX8_stones_28 : decode cX8_stones 28 = .ok (.getfield 32, 3) := by decide +kernel
theorem dX8_stones_31 : decode cX8_stones 31 = .ok (.getfield 108, 3) := by decide +kernel
theorem dX8_stones_34 : decode cX8_stones 34 = .ok (.iload_n 3, 1) := by decide +kernel
theorem dX8_stones_35 : decode cX8_stones 35 = .ok (.iaload, 1) := by decide +kernel
theorem dX8_stones_36 : decode cX8_stones 36 = .ok (.invokestatic 241, 3) := by decide +kernel
theorem dX8_stones_39 : decode cX8_stones 39 = .ok (.aload_n 0, 1) := by decide +kernel
theorem dX8_stones_40 : decode cX8_stones 40 = .ok (.getfield 32, 3) := by decide +kernel
theorem dX8_stones_43 : decode cX8_stones 43 = .ok (.iload_n 3, 1) := by decide +kernel
theorem dX8_stones_44 : decode cX8_stones 44 = .ok (.invokevirtual 111, 3) := by decide +kernel
theorem dX8_stones_47 : decode cX8_stones 47 = .ok (.invokestatic 241, 3) := by decide +kernel
theorem dX8_stones_50 : decode cX8_stones 50 = .ok (.isub, 1) := by decide +kernel
theorem dX8_stones_51 : decode cX8_stones 51 = .ok (.istore 4, 2) := by decide +kernel
theorem dX8_stones_53 : decode cX8_stones 53 = .ok (.iload_n 2, 1) := by decide +kernel
theorem dX8_stones_54 : decode cX8_stones 54 = .ok (.iconst 0, 1) := by decide +kernel
theorem dX8_stones_55 : decode cX8_stones 55 = .ok (.iload_n 1, 1) := by decide +kernel
theorem dX8_stones_56 : decode cX8_stones 56 = .ok (.ifCond .ne 8, 3) := by decide +kernel
theorem dX8_stones_59 : decode cX8_stones 59 = .ok (.iload 4, 2) := by decide +kernel
theorem dX8_stones_61 : decode cX8_stones 61 = .ok (.goto 6, 3) := by decide +kernel
theorem dX8_stones_64 : decode cX8_stones 64 = .ok (.iload 4, 2) := by decide +kernel
theorem dX8_stones_66 : decode cX8_stones 66 = .ok (.ineg, 1) := by decide +kernel
theorem dX8_stones_67 : decode cX8_stones 67 = .ok (.invokestatic 211, 3) := by decide +kernel
theorem dX8_stones_70 : decode cX8_stones 70 = .ok (.iadd, 1) := by decide +kernel
theorem dX8_stones_71 : decode cX8_stones 71 = .ok (.istore_n 2, 1) := by decide +kernel
theorem dX8_stones_72 : decode cX8_stones 72 = .ok (.iinc 3 1, 3) := by decide +kernel
theorem dX8_stones_75 : decode cX8_stones 75 = .ok (.goto (-59), 3) := by decide +kernel
theorem dX8_stones_78 : decode cX8_stones 78 = .ok (.iload_n 2, 1) := by decide +kernel
theorem dX8_stones_79 : decode cX8_stones 79 = .ok (.ireturn, 1) := by decide +kernel
theorem dX8_sheet_0 : decode cX8_sheet 0 = .ok (.iload_n 1, 1) := by decide +kernel
theorem dX8_sheet_1 : decode cX8_sheet 1 = .ok (.invokestatic 244, 3) := by decide +kernel
theorem dX8_sheet_4 : decode cX8_sheet 4 = .ok (.ifCond .eq 16, 3) := by decide +kernel
theorem dX8_sheet_7 : decode cX8_sheet 7 = .ok (.iload_n 2, 1) := by decide +kernel
theorem dX8_sheet_8 : decode cX8_sheet 8 = .ok (.invokestatic 247, 3) := by decide +kernel
theorem dX8_sheet_11 : decode cX8_sheet 11 = .ok (.ifCond .eq 9, 3) := by decide +kernel
theorem dX8_sheet_14 : decode cX8_sheet 14 = .ok (.iload_n 3, 1) := by decide +kernel
theorem dX8_sheet_15 : decode cX8_sheet 15 = .ok (.bipush 48, 2) := by decide +kernel
theorem dX8_sheet_17 : decode cX8_sheet 17 = .ok (.if_icmp .le 6, 3) := by decide +kernel
theorem dX8_sheet_20 : decode cX8_sheet 20 = .ok (.bipush (-2), 2) := by decide +kernel
theorem dX8_sheet_22 : decode cX8_sheet 22 = .ok (.ireturn, 1) := by decide +kernel
theorem dX8_sheet_23 : decode cX8_sheet 23 = .ok (.iload_n 3, 1) := by decide +kernel
theorem dX8_sheet_24 : decode cX8_sheet 24 = .ok (.ifCond .ge 9, 3) := by decide +kernel
theorem dX8_sheet_27 : decode cX8_sheet 27 = .ok (.aload_n 0, 1) := by decide +kernel
theorem dX8_sheet_28 : decode cX8_sheet 28 = .ok (.iconst 5, 1) := by decide +kernel
theorem dX8_sheet_29 : decode cX8_sheet 29 = .ok (.invokevirtual 250, 3) := by decide +kernel
theorem dX8_sheet_32 : decode cX8_sheet 32 = .ok (.ireturn, 1) := by decide +kernel
theorem dX8_sheet_33 : decode cX8_sheet 33 = .ok (.aload_n 0, 1) := by decide +kernel
theorem dX8_sheet_34 : decode cX8_sheet 34 = .ok (.getfield 70, 3) := by decide +kernel
theorem dX8_sheet_37 : decode cX8_sheet 37 = .ok (.iload_n 1, 1) := by decide +kernel
theorem dX8_sheet_38 : decode cX8_sheet 38 = .ok (.aaload, 1) := by decide +kernel
theorem dX8_sheet_39 : decode cX8_sheet 39 = .ok (.iload_n 2, 1) := by decide +kernel
theorem dX8_sheet_40 : decode cX8_sheet 40 = .ok (.iload_n 3, 1) := by decide +kernel
theorem dX8_sheet_41 : decode cX8_sheet 41 = .ok (.invokevirtual 253, 3) := by decide +kernel
theorem dX8_sheet_44 : decode cX8_sheet 44 = .ok (.iload_n 3, 1) := by decide +kernel
theorem dX8_sheet_45 : decode cX8_sheet 45 = .ok (.ireturn, 1) := by decide +kernel
theorem dX8_lose_0 : decode cX8_lose 0 = .ok (.aload_n 0, 1) := by decide +kernel
theorem dX8_lose_1 : decode cX8_lose 1 = .ok (.iload_n 1, 1) := by decide +kernel
theorem dX8_lose_2 : decode cX8_lose 2 = .ok (.invokevirtual 181, 3) := by decide +kernel
theorem dX8_lose_5 : decode cX8_lose 5 = .ok (.istore_n 2, 1) := by decide +kernel
theorem dX8_lose_6 : decode cX8_lose 6 = .ok (.iload_n 2, 1) := by decide +kernel
theorem dX8_lose_7 : decode cX8_lose 7 = .ok (.ifCond .eq 5, 3) := by decide +kernel
theorem dX8_lose_10 : decode cX8_lose 10 = .ok (.iload_n 2, 1) := by decide +kernel
theorem dX8_lose_11 : decode cX8_lose 11 = .ok (.ireturn, 1) := by decide +kernel
theorem dX8_lose_12 : decode cX8_lose 12 = .ok (.aload_n 0, 1) := by decide +kernel
theorem dX8_lose_13 : decode cX8_lose 13 = .ok (.getfield 70, 3) := by decide +kernel
theorem dX8_lose_16 : decode cX8_lose 16 = .ok (.iload_n 1, 1) := by decide +kernel
theorem dX8_lose_17 : decode cX8_lose 17 = .ok (.aaload, 1) := by decide +kernel
theorem dX8_lose_18 : decode cX8_lose 18 = .ok (.getfield 184, 3) := by decide +kernel
theorem dX8_lose_21 : decode cX8_lose 21 = .ok (.istore_n 3, 1) := by decide +kernel
theorem dX8_lose_22 : decode cX8_lose 22 = .ok (.aload_n 0, 1) := by decide +kernel
theorem dX8_lose_23 : decode cX8_lose 23 = .ok (.getfield 70, 3) := by decide +kernel
theorem dX8_lose_26 : decode cX8_lose 26 = .ok (.iload_n 1, 1) := by decide +kernel
theorem dX8_lose_27 : decode cX8_lose 27 = .ok (.aaload, 1) := by decide +kernel
theorem dX8_lose_28 : decode cX8_lose 28 = .ok (.iconst (-1), 1) := by decide +kernel
theorem dX8_lose_29 : decode cX8_lose 29 = .ok (.iconst 0, 1) := by decide +kernel
theorem dX8_lose_30 : decode cX8_lose 30 = .ok (.invokevirtual 253, 3) := by decide +kernel
theorem dX8_lose_33 : decode cX8_lose 33 = .ok (.iload_n 3, 1) := by decide +kernel
theorem dX8_lose_34 : decode cX8_lose 34 = .ok (.ireturn, 1) := by decide +kernel
theorem dX8_put_0 : decode cX8_put 0 = .ok (.aload_n 0, 1) := by decide +kernel
theorem dX8_put_1 : decode cX8_put 1 = .ok (.iload_n 1, 1) := by decide +kernel
theorem dX8_put_2 : decode cX8_put 2 = .ok (.iload_n 2, 1) := by decide +kernel
theorem dX8_put_3 : decode cX8_put 3 = .ok (.iload_n 3, 1) := by decide +kernel

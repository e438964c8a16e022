theorem dX9_sill_23 : decode cX9_sill 23 = .ok (.iload_n 2, 1) := by decide +kernel
theorem dX9_sill_24 : decode cX9_sill 24 = .ok (.invokevirtual 112, 3) := by decide +kernel
theorem dX9_sill_27 : decode cX9_sill 27 = .ok (.goto 5, 3) := by decide +kernel
theorem dX9_sill_30 : decode cX9_sill 30 = .ok (.ldc 110, 2) := by decide +kernel
theorem dX9_sill_32 : decode cX9_sill 32 = .ok (.ireturn, 1) := by decide +kernel
theorem dX9_worstNow_0 : decode cX9_worstNow 0 = .ok (.iconst 0, 1) := by decide +kernel
theorem dX9_worstNow_1 : decode cX9_worstNow 1 = .ok (.istore_n 1, 1) := by decide +kernel
theorem dX9_worstNow_2 : decode cX9_worstNow 2 = .ok (.iconst 1, 1) := by decide +kernel
theorem dX9_worstNow_3 : decode cX9_worstNow 3 = .ok (.istore_n 2, 1) := by decide +kernel
theorem dX9_worstNow_4 : decode cX9_worstNow 4 = .ok (.iload_n 2, 1) := by decide +kernel
theorem dX9_worstNow_5 : decode cX9_worstNow 5 = .ok (.aload_n 0, 1) := by decide +kernel
theorem dX9_worstNow_6 : decode cX9_worstNow 6 = .ok (.invokevirtual 97, 3) := by decide +kernel
theorem dX9_worstNow_9 : decode cX9_worstNow 9 = .ok (.if_icmp .gt 36, 3) := by decide +kernel
theorem dX9_worstNow_12 : decode cX9_worstNow 12 = .ok (.aload_n 0, 1) := by decide +kernel
theorem dX9_worstNow_13 : decode cX9_worstNow 13 = .ok (.iload_n 2, 1) := by decide +kernel
theorem dX9_worstNow_14 : decode cX9_worstNow 14 = .ok (.iconst 2, 1) := by decide +kernel
theorem dX9_worstNow_15 : decode cX9_worstNow 15 = .ok (.invokevirtual 112, 3) := by decide +kernel
theorem dX9_worstNow_18 : decode cX9_worstNow 18 = .ok (.invokestatic 115, 3) := by decide +kernel
theorem dX9_worstNow_21 : decode cX9_worstNow 21 = .ok (.aload_n 0, 1) := by decide +kernel
theorem dX9_worstNow_22 : decode cX9_worstNow 22 = .ok (.iload_n 1, 1) := by decide +kernel
theorem dX9_worstNow_23 : decode cX9_worstNow 23 = .ok (.iconst 2, 1) := by decide +kernel
theorem dX9_worstNow_24 : decode cX9_worstNow 24 = .ok (.invokevirtual 112, 3) := by decide +kernel
theorem dX9_worstNow_27 : decode cX9_worstNow 27 = .ok (.invokestatic 115, 3) := by decide +kernel
theorem dX9_worstNow_30 : decode cX9_worstNow 30 = .ok (.if_icmp .le 7, 3) := by decide +kernel
theorem dX9_worstNow_33 : decode cX9_worstNow 33 = .ok (.iload_n 2, 1) := by decide +kernel
theorem dX9_worstNow_34 : decode cX9_worstNow 34 = .ok (.goto 4, 3) := by decide +kernel
theorem dX9_worstNow_37 : decode cX9_worstNow 37 = .ok (.iload_n 1, 1) := by decide +kernel
theorem dX9_worstNow_38 : decode cX9_worstNow 38 = .ok (.istore_n 1, 1) := by decide +kernel
theorem dX9_worstNow_39 : decode cX9_worstNow 39 = .ok (.iinc 2 1, 3) := by decide +kernel
theorem dX9_worstNow_42 : decode cX9_worstNow 42 = .ok (.goto (-38), 3) := by decide +kernel
theorem dX9_worstNow_45 : decode cX9_worstNow 45 = .ok (.iload_n 1, 1) := by decide +kernel
theorem dX9_worstNow_46 : decode cX9_worstNow 46 = .ok (.ireturn, 1) := by decide +kernel
theorem dX9_worst_0 : decode cX9_worst 0 = .ok (.aload_n 0, 1) := by decide +kernel
theorem dX9_worst_1 : decode cX9_worst 1 = .ok (.invokevirtual 118, 3) := by decide +kernel
theorem dX9_worst_4 : decode cX9_worst 4 = .ok (.ireturn, 1) := by decide +kernel
theorem dX9_stairs_0 : decode cX9_stairs 0 = .ok (.aload_n 0, 1) := by decide +kernel
theorem dX9_stairs_1 : decode cX9_stairs 1 = .ok (.iload_n 1, 1) := by decide +kernel
theorem dX9_stairs_2 : decode cX9_stairs 2 = .ok (.invokevirtual 103, 3) := by decide +kernel
theorem dX9_stairs_5 : decode cX9_stairs 5 = .ok (.ifCond .eq 35, 3) := by decide +kernel
theorem dX9_stairs_8 : decode cX9_stairs 8 = .ok (.iload_n 2, 1) := by decide +kernel
theorem dX9_stairs_9 : decode cX9_stairs 9 = .ok (.iconst 1, 1) := by decide +kernel
theorem dX9_stairs_10 : decode cX9_stairs 10 = .ok (.bipush 40, 2) := by decide +kernel
theorem dX9_stairs_12 : decode cX9_stairs 12 = .ok (.invokestatic 68, 3) := by decide +kernel
theorem dX9_stairs_15 : decode cX9_stairs 15 = .ok (.ifCond .eq 25, 3) := by decide +kernel
theorem dX9_stairs_18 : decode cX9_stairs 18 = .ok (.iload_n 3, 1) := by decide +kernel
theorem dX9_stairs_19 : decode cX9_stairs 19 = .ok (.iconst 1, 1) := by decide +kernel
theorem dX9_stairs_20 : decode cX9_stairs 20 = .ok (.bipush 99, 2) := by decide +kernel
theorem dX9_stairs_22 : decode cX9_stairs 22 = .ok (.invokestatic 68, 3) := by decide +kernel
theorem dX9_stairs_25 : decode cX9_stairs 25 = .ok (.ifCond .eq 15, 3) := by decide +kernel
theorem dX9_stairs_28 : decode cX9_stairs 28 = .ok (.aload_n 0, 1) := by decide +kernel
theorem dX9_stairs_29 : decode cX9_stairs 29 = .ok (.iload_n 1, 1) := by decide +kernel
theorem dX9_stairs_30 : decode cX9_stairs 30 = .ok (.invokevirtual 100, 3) := by decide +kernel
theorem dX9_stairs_33 : decode cX9_stairs 33 = .ok (.iload_n 2, 1) := by decide +kernel
theorem dX9_stairs_34 : decode cX9_stairs 34 = .ok (.iload_n 3, 1) := by decide +kernel
theorem dX9_stairs_35 : decode cX9_stairs 35 = .ok (.imul, 1) := by decide +kernel
theorem dX9_stairs_36 : decode cX9_stairs 36 = .ok (.isub, 1) := by decide +kernel
theorem dX9_stairs_37 : decode cX9_stairs 37 = .ok (.goto 5, 3) := by decide +kernel
theorem dX9_stairs_40 : decode cX9_stairs 40 = .ok (.ldc 110, 2) := by decide +kernel
theorem dX9_stairs_42 : decode cX9_stairs 42 = .ok (.ireturn, 1) := by decide +kernel
theorem dX9_evenOf_0 : decode cX9_evenOf 0 = .ok (.iload_n 2, 1) := by decide +kernel
theorem dX9_evenOf_1 : decode cX9_evenOf 1 = .ok (.istore 5, 2) := by decide +kernel
theorem dX9_evenOf_3 : decode cX9_evenOf 3 = .ok (.iconst 1, 1) := by decide +kernel
theorem dX9_evenOf_4 : decode cX9_evenOf 4 = .ok (.istore 6, 2) := by decide +kernel
theorem dX9_evenOf_6 : decode cX9_evenOf 6 = .ok (.aload_n 0, 1) := by decide +kernel
theorem dX9_evenOf_7 : decode cX9_evenOf 7 = .ok (.iload_n 1, 1) := by decide +kernel
theorem dX9_evenOf_8 : decode cX9_evenOf 8 = .ok (.invokevirtual 100, 3) := by decide +kernel
theorem dX9_evenOf_11 : decode cX9_evenOf 11 = .ok (.iload_n 2, 1) := by decide +kernel
theorem dX9_evenOf_12 : decode cX9_evenOf 12 = .ok (.isub, 1) := by decide +kernel
theorem dX9_evenOf_13 : decode cX9_evenOf 13 = .ok (.invokestatic 115, 3) := by decide +kernel
theorem dX9_evenOf_16 : decode cX9_evenOf 16 = .ok (.istore 7, 2) := by decide +kernel
theorem dX9_evenOf_18 : decode cX9_evenOf 18 = .ok (.iconst 1, 1) := by decide +kernel
theorem dX9_evenOf_19 : decode cX9_evenOf 19 = .ok (.istore 8, 2) := by decide +kernel
theorem dX9_evenOf_21 : decode cX9_evenOf 21 = .ok (.iload 8, 2) := by decide +kernel
theorem dX9_evenOf_23 : decode cX9_evenOf 23 = .ok (.bipush 41, 2) := by decide +kernel
theorem dX9_evenOf_25 : decode cX9_evenOf 25 = .ok (.if_icmp .ge 59, 3) := by decide +kernel
theorem dX9_evenOf_28 : decode cX9_evenOf 28 = .ok (.iload_n 2, 1) := by decide +kernel
theorem dX9_evenOf_29 : decode cX9_evenOf 29 = .ok (.istore 9, 2) := by decide +kernel
theorem dX9_evenOf_31 : decode cX9_evenOf 31 = .ok (.iload 9, 2) := by decide +kernel
theorem dX9_evenOf_33 : decode cX9_evenOf 33 = .ok (.iload_n 3, 1) := by decide +kernel
theorem dX9_evenOf_34 : decode cX9_evenOf 34 = .ok (.if_icmp .gt 44, 3) := by decide +kernel
theorem dX9_evenOf_37 : decode cX9_evenOf 37 = .ok (.aload_n 0, 1) := by decide +kernel
theorem dX9_evenOf_38 : decode cX9_evenOf 38 = .ok (.iload_n 1, 1) := by decide +kernel
theorem dX9_evenOf_39 : decode cX9_evenOf 39 = .ok (.invokevirtual 100, 3) := by decide +kernel
theorem dX9_evenOf_42 : decode cX9_evenOf 42 = .ok (.iload 8, 2) := by decide +kernel
theorem dX9_evenOf_44 : decode cX9_evenOf 44 = .ok (.iload 9, 2) := by decide +kernel
theorem dX9_evenOf_46 : decode cX9_evenOf 46 = .ok (.imul, 1) := by decide +kernel
theorem dX9_evenOf_47 : decode cX9_evenOf 47 = .ok (.isub, 1) := by decide +kernel
theorem dX9_evenOf_48 : decode cX9_evenOf 48 = .ok (.invokestatic 115, 3) := by decide +kernel
theorem dX9_evenOf_51 : decode cX9_evenOf 51 = .ok (.istore 10, 2) := by decide +kernel
theorem dX9_evenOf_53 : decode cX9_evenOf 53 = .ok (.iload 10, 2) := by decide +kernel
theorem dX9_evenOf_55 : decode cX9_evenOf 55 = .ok (.iload 7, 2) := by decide +kernel
theorem dX9_evenOf_57 : decode cX9_evenOf 57 = .ok (.if_icmp .ge 15, 3) := by decide +kernel
theorem dX9_evenOf_60 : decode cX9_evenOf 60 = .ok (.iload 10, 2) := by decide +kernel
theorem dX9_evenOf_62 : decode cX9_evenOf 62 = .ok (.istore 7, 2) := by decide +kernel
theorem dX9_evenOf_64 : decode cX9_evenOf 64 = .ok (.iload 9, 2) := by decide +kernel
theorem dX9_evenOf_66 : decode cX9_evenOf 66 = .ok (.istore 5, 2) := by decide +kernel
theorem dX9_evenOf_68 : decode cX9_evenOf 68 = .ok (.iload 8, 2) := by decide +kernel
theorem dX9_evenOf_70 : decode cX9_evenOf 70 = .ok (.istore 6, 2) := by decide +kernel
theorem dX9_evenOf_72 : decode cX9_evenOf 72 = .ok (.iinc 9 1, 3) := by decide +kernel
theorem dX9_evenOf_75 : decode cX9_evenOf 75 = .ok (.goto (-44), 3) := by decide +kernel
theorem dX9_evenOf_78 : decode cX9_evenOf 78 = .ok (.iinc 8 1, 3) := by decide +kernel
theorem dX9_evenOf_81 : decode cX9_evenOf 81 = .ok (.goto (-60), 3) := by decide +kernel
theorem dX9_evenOf_84 : decode cX9_evenOf 84 = .ok (.iload 4, 2) := by decide +kernel
theorem dX9_evenOf_86 : decode cX9_evenOf 86 = .ok (.ifCond .ne 8, 3) := by decide +kernel
theorem dX9_evenOf_89 : decode cX9_evenOf 89 = .ok (.iload 5, 2) := by decide +kernel
theorem dX9_evenOf_91 : decode cX9_evenOf 91 = .ok (.goto 16, 3) := by decide +kernel
theorem dX9_evenOf_94 : decode cX9_evenOf 94 = .ok (.iload 4, 2) := by decide +kernel
theorem dX9_evenOf_96 : decode cX9_evenOf 96 = .ok (.iconst 1, 1) := by decide +kernel
theorem dX9_evenOf_97 : decode cX9_evenOf 97 = .ok (.if_icmp .ne 8, 3) := by decide +kernel
theorem dX9_evenOf_100 : decode cX9_evenOf 100 = .ok (.iload 6, 2) := by decide +kernel
theorem dX9_evenOf_102 : decode cX9_evenOf 102 = .ok (.goto 5, 3) := by decide +kernel
theorem dX9_evenOf_105 : decode cX9_evenOf 105 = .ok (.iload 7, 2) := by decide +kernel
theorem dX9_evenOf_107 : decode cX9_evenOf 107 = .ok (.ireturn, 1) := by decide +kernel
theorem dX9_even_0 : decode cX9_even 0 = .ok (.aload_n 0, 1) := by decide +kernel
theorem dX9_even_1 : decode cX9_even 1 = .ok (.iload_n 1, 1) := by decide +kernel
theorem dX9_even_2 : decode cX9_even 2 = .ok (.invokevirtual 103, 3) := by decide +kernel
theorem dX9_even_5 : decode cX9_even 5 = .ok (.ifCond .eq 45, 3) := by decide +kernel
theorem dX9_even_8 : decode cX9_even 8 = .ok (.iload_n 2, 1) := by decide +kernel
theorem dX9_even_9 : decode cX9_even 9 = .ok (.iconst 1, 1) := by decide +kernel
theorem dX9_even_10 : decode cX9_even 10 = .ok (.bipush 99, 2) := by decide +kernel
theorem dX9_even_12 : decode cX9_even 12 = .ok (.invokestatic 68, 3) := by decide +kernel
theorem dX9_even_15 : decode cX9_even 15 = .ok (.ifCond .eq 35, 3) := by decide +kernel
theorem dX9_even_18 : decode cX9_even 18 = .ok (.iload_n 3, 1) := by decide +kernel
theorem dX9_even_19 : decode cX9_even 19 = .ok (.iload_n 2, 1) := by decide +kernel
theorem dX9_even_20 : decode cX9_even 20 = .ok (.bipush 99, 2) := by decide +kernel
theorem dX9_even_22 : decode cX9_even 22 = .ok (.invokestatic 68, 3) := by decide +kernel
theorem dX9_even_25 : decode cX9_even 25 = .ok (.ifCond .eq 25, 3) := by decide +kernel
theorem dX9_even_28 : decode cX9_even 28 = .ok (.iload 4, 2) := by decide +kernel
theorem dX9_even_30 : decode cX9_even 30 = .ok (.iconst 0, 1) := by decide +kernel
theorem dX9_even_31 : decode cX9_even 31 = .ok (.iconst 2, 1) := by decide +kernel
theorem dX9_even_32 : decode cX9_even 32 = .ok (.invokestatic 68, 3) := by decide +kernel
theorem dX9_even_35 : decode cX9_even 35 = .ok (.ifCond .eq 15, 3) := by decide +kernel
theorem dX9_even_38 : decode cX9_even 38 = .ok (.aload_n 0, 1) := by decide +kernel
theorem dX9_even_39 : decode cX9_even 39 = .ok (.iload_n 1, 1) := by decide +kernel
theorem dX9_even_40 : decode cX9_even 40 = .ok (.iload_n 2, 1) := by decide +kernel
theorem dX9_even_41 : decode cX9_even 41 = .ok (.iload_n 3, 1) := by decide +kernel
theorem dX9_even_42 : decode cX9_even 42 = .ok (.iload 4, 2) := by decide +kernel
theorem dX9_even_44 : decode cX9_even 44 = .ok (.invokevirtual 121, 3) := by decide +kernel
theorem dX9_even_47 : decode cX9_even 47 = .ok (.goto 5, 3) := by decide +kernel
theorem dX9_even_50 : decode cX9_even 50 = .ok (.bipush (-2), 2) := by decide +kernel
theorem dX9_even_52 : decode cX9_even 52 = .ok (.ireturn, 1) := by decide +kernel
theorem dX9_blameBy_0 : decode cX9_blameBy 0 = .ok (.iconst 0, 1) := by decide +kernel
theorem dX9_blameBy_1 : decode cX9_blameBy 1 = .ok (.istore_n 2, 1) := by decide +kernel
theorem dX9_blameBy_2 : decode cX9_blameBy 2 = .ok (.iconst 0, 1) := by decide +kernel
theorem dX9_blameBy_3 : decode cX9_blameBy 3 = .ok (.istore_n 3, 1) := by decide +kernel
theorem dX9_blameBy_4 : decode cX9_blameBy 4 = .ok (.iload_n 3, 1) := by decide +kernel
theorem dX9_blameBy_5 : decode cX9_blameBy 5 = .ok (.aload_n 0, 1) := by decide +kernel
theorem dX9_blameBy_6 : decode cX9_blameBy 6 = .ok (.getfield 83, 3) := by decide +kernel
theorem dX9_blameBy_9 : decode cX9_blameBy 9 = .ok (.if_icmp .ge 54, 3) := by decide +kernel
theorem dX9_blameBy_12 : decode cX9_blameBy 12 = .ok (.iload_n 2, 1) := by decide +kernel
theorem dX9_blameBy_13 : decode cX9_blameBy 13 = .ok (.aload_n 0, 1) := by decide +kernel
theorem dX9_blameBy_14 : decode cX9_blameBy 14 = .ok (.getfield 25, 3) := by decide +kernel
theorem dX9_blameBy_17 : decode cX9_blameBy 17 = .ok (.iload_n 3, 1) := by decide +kernel
theorem dX9_blameBy_18 : decode cX9_blameBy 18 = .ok (.iaload, 1) := by decide +kernel
theorem dX9_blameBy_19 : decode cX9_blameBy 19 = .ok (.iconst 3, 1) := by decide +kernel
theorem dX9_blameBy_20 : decode cX9_blameBy 20 = .ok (.idiv, 1) := by decide +kernel
theorem dX9_blameBy_21 : decode cX9_blameBy 21 = .ok (.iload_n 1, 1) := by decide +kernel
theorem dX9_blameBy_22 : decode cX9_blameBy 22 = .ok (.if_icmp .ne 32, 3) := by decide +kernel
theorem dX9_blameBy_25 : decode cX9_blameBy 25 = .ok (.aload_n 0, 1) := by decide +kernel
theorem dX9_blameBy_26 : decode cX9_blameBy 26 = .ok (.aload_n 0, 1) := by decide +kernel
theorem dX9_blameBy_27 : decode cX9_blameBy 27 = .ok (.getfield 22, 3) := by decide +kernel
theorem dX9_blameBy_30 : decode cX9_blameBy 30 = .ok (.iload_n 3, 1) := by decide +kernel
theorem dX9_blameBy_31 : decode cX9_blameBy 31 = .ok (.iaload, 1) := by decide +kernel
theorem dX9_blameBy_32 : decode cX9_blameBy 32 = .ok (.aload_n 0, 1) := by decide +kernel
theorem dX9_blameBy_33 : decode cX9_blameBy 33 = .ok (.getfield 25, 3) := by decide +kernel
theorem dX9_blameBy_36 : decode cX9_blameBy 36 = .ok (.iload_n 3, 1) := by decide +kernel
theorem dX9_blameBy_37 : decode cX9_blameBy 37 = .ok (.iaload, 1) := by decide +kernel
theorem dX9_blameBy_38 : decode cX9_blameBy 38 = .ok (.invokevirtual 93, 3) := by decide +kernel
theorem dX9_blameBy_41 : decode cX9_blameBy 41 = .ok (.aload_n 0, 1) := by decide +kernel
theorem dX9_blameBy_42 : decode cX9_blameBy 42 = .ok (.getfield 22, 3) := by decide +kernel
theorem dX9_blameBy_45 : decode cX9_blameBy 45 = .ok (.iload_n 3, 1) := by decide +kernel
theorem dX9_blameBy_46 : decode cX9_blameBy 46 = .ok (.iaload, 1) := by decide +kernel
theorem dX9_blameBy_47 : decode cX9_blameBy 47 = .ok (.isub, 1) := by decide +kernel
theorem dX9_blameBy_48 : decode cX9_blameBy 48 = .ok (.invokestatic 115, 3) := by decide +kernel
theorem dX9_blameBy_51 : decode cX9_blameBy 51 = .ok (.goto 4, 3) := by decide +kernel
theorem dX9_blameBy_54 : decode cX9_blameBy 54 = .ok (.iconst 0, 1) := by decide +kernel
theorem dX9_blameBy_55 : decode cX9_blameBy 55 = .ok (.iadd, 1) := by decide +kernel
theorem dX9_blameBy_56 : decode cX9_blameBy 56 = .ok (.istore_n 2, 1) := by decide +kernel
theorem dX9_blameBy_57 : decode cX9_blameBy 57 = .ok (.iinc 3 1, 3) := by decide +kernel
theorem dX9_blameBy_60 : decode cX9_blameBy 60 = .ok (.goto (-56), 3) := by decide +kernel
theorem dX9_blameBy_63 : decode cX9_blameBy 63 = .ok (.iload_n 2, 1) := by decide +kernel
theorem dX9_blameBy_64 : decode cX9_blameBy 64 = .ok (.ireturn, 1) := by decide +kernel
theorem dX9_blameOf_0 : decode cX9_blameOf 0 = .ok (.aload_n 0, 1) := by decide +kernel
theorem dX9_blameOf_1 : decode cX9_blameOf 1 = .ok (.invokevirtual 89, 3) := by decide +kernel
theorem dX9_blameOf_4 : decode cX9_blameOf 4 = .ok (.istore 4, 2) := by decide +kernel
theorem dX9_blameOf_6 : decode cX9_blameOf 6 = .ok (.aload_n 0, 1) := by decide +kernel
theorem dX9_blameOf_7 : decode cX9_blameOf 7 = .ok (.iload_n 1, 1) := by decide +kernel
theorem dX9_blameOf_8 : decode cX9_blameOf 8 = .ok (.invokevirtual 125, 3) := by decide +kernel
theorem dX9_blameOf_11 : decode cX9_blameOf 11 = .ok (.istore 5, 2) := by decide +kernel
theorem dX9_blameOf_13 : decode cX9_blameOf 13 = .ok (.aload_n 0, 1) := by decide +kernel
theorem dX9_blameOf_14 : decode cX9_blameOf 14 = .ok (.iconst 0, 1) := by decide +kernel
theorem dX9_blameOf_15 : decode cX9_blameOf 15 = .ok (.invokevirtual 125, 3) := by decide +kernel
theorem dX9_blameOf_18 : decode cX9_blameOf 18 = .ok (.aload_n 0, 1) := by decide +kernel
theorem dX9_blameOf_19 : decode cX9_blameOf 19 = .ok (.iconst 1, 1) := by decide +kernel
theorem dX9_blameOf_20 : decode cX9_blameOf 20 = .ok (.invokevirtual 125, 3) := by decide +kernel
theorem dX9_blameOf_23 : decode cX9_blameOf 23 = .ok (.iadd, 1) := by decide +kernel
theorem dX9_blameOf_24 : decode cX9_blameOf 24 = .ok (.aload_n 0, 1) := by decide +kernel
theorem dX9_blameOf_25 : decode cX9_blameOf 25 = .ok (.iconst 2, 1) := by decide +kernel
theorem dX9_blameOf_26 : decode cX9_blameOf 26 = .ok (.invokevirtual 125, 3) := by decide +kernel
theorem dX9_blameOf_29 : decode cX9_blameOf 29 = .ok (.iadd, 1) := by decide +kernel
theorem dX9_blameOf_30 : decode cX9_blameOf 30 = .ok (.istore 6, 2) := by decide +kernel
theorem dX9_blameOf_32 : decode cX9_blameOf 32 = .ok (.iload_n 2, 1) := by decide +kernel
theorem dX9_blameOf_33 : decode cX9_blameOf 33 = .ok (.ifCond .ne 17, 3) := by decide +kernel
theorem dX9_blameOf_36 : decode cX9_blameOf 36 = .ok (.iload_n 3, 1) := by decide +kernel
theorem dX9_blameOf_37 : decode cX9_blameOf 37 = .ok (.ifCond .ne 9, 3) := by decide +kernel
theorem dX9_blameOf_40 : decode cX9_blameOf 40 = .ok (.iload 5, 2) := by decide +kernel
theorem dX9_blameOf_42 : decode cX9_blameOf 42 = .ok (.i2l, 1) := by decide +kernel
theorem dX9_blameOf_43 : decode cX9_blameOf 43 = .ok (.goto 30, 3) := by decide +kernel
theorem dX9_blameOf_46 : decode cX9_blameOf 46 = .ok (.lconst 1, 1) := by decide +kernel
theorem dX9_blameOf_47 : decode cX9_blameOf 47 = .ok (.goto 26, 3) := by decide +kernel
theorem dX9_blameOf_50 : decode cX9_blameOf 50 = .ok (.iload 6, 2) := by decide +kernel
theorem dX9_blameOf_52 : decode cX9_blameOf 52 = .ok (.ifCond .ne 11, 3) := by decide +kernel
theorem dX9_blameOf_55 : decode cX9_blameOf 55 = .ok (.bipush (-3), 2) := by decide +kernel
theorem dX9_blameOf_57 : decode cX9_blameOf 57 = .ok (.invokestatic 128, 3) := by decide +kernel
theorem dX9_blameOf_60 : decode cX9_blameOf 60 = .ok (.goto 13, 3) := by decide +kernel
theorem dX9_blameOf_63 : decode cX9_blameOf 63 = .ok (.iload 5, 2) := by decide +kernel
theorem dX9_blameOf_65 : decode cX9_blameOf 65 = .ok (.i2l, 1) := by decide +kernel
theorem dX9_blameOf_66 : decode cX9_blameOf 66 = .ok (.iload 6, 2) := by decide +kernel
theorem dX9_blameOf_68 : decode cX9_blameOf 68 = .ok (.i2l, 1) := by decide +kernel
theorem dX9_blameOf_69 : decode cX9_blameOf 69 = .ok (.iload_n 3, 1) := by decide +kernel
theorem dX9_blameOf_70 : decode cX9_blameOf 70 = .ok (.invokestatic 132, 3) := by decide +kernel
theorem dX9_blameOf_73 : decode cX9_blameOf 73 = .ok (.lreturn, 1) := by decide +kernel
theorem dX9_blame_0 : decode cX9_blame 0 = .ok (.iload_n 1, 1) := by decide +kernel
theorem dX9_blame_1 : decode cX9_blame 1 = .ok (.iconst 0, 1) := by decide +kernel
theorem dX9_blame_2 : decode cX9_blame 2 = .ok (.iconst 2, 1) := by decide +kernel
theorem dX9_blame_3 : decode cX9_blame 3 = .ok (.invokestatic 68, 3) := by decide +kernel
theorem dX9_blame_6 : decode cX9_blame 6 = .ok (.ifCond .eq 31, 3) := by decide +kernel
theorem dX9_blame_9 : decode cX9_blame 9 = .ok (.iload_n 2, 1) := by decide +kernel
theorem dX9_blame_10 : decode cX9_blame 10 = .ok (.iconst 0, 1) := by decide +kernel
theorem dX9_blame_11 : decode cX9_blame 11 = .ok (.iconst 1, 1) := by decide +kernel
theorem dX9_blame_12 : decode cX9_blame 12 = .ok (.invokestatic 68, 3) := by decide +kernel
theorem dX9_blame_15 : decode cX9_blame 15 = .ok (.ifCond .eq 22, 3) := by decide +kernel
theorem dX9_blame_18 : decode cX9_blame 18 = .ok (.iload_n 3, 1) := by decide +kernel
theorem dX9_blame_19 : decode cX9_blame 19 = .ok (.iconst 0, 1) := by decide +kernel
theorem dX9_blame_20 : decode cX9_blame 20 = .ok (.iconst 1, 1) := by decide +kernel
theorem dX9_blame_21 : decode cX9_blame 21 = .ok (.invokestatic 68, 3) := by decide +kernel
theorem dX9_blame_24 : decode cX9_blame 24 = .ok (.ifCond .eq 13, 3) := by decide +kernel
theorem dX9_blame_27 : decode cX9_blame 27 = .ok (.aload_n 0, 1) := by decide +kernel
theorem dX9_blame_28 : decode cX9_blame 28 = .ok (.iload_n 1, 1) := by decide +kernel
theorem dX9_blame_29 : decode cX9_blame 29 = .ok (.iload_n 2, 1) := by decide +kernel
theorem dX9_blame_30 : decode cX9_blame 30 = .ok (.iload_n 3, 1) := by decide +kernel
theorem dX9_blame_31 : decode cX9_blame 31 = .ok (.invokevirtual 136, 3) := by decide +kernel
theorem dX9_blame_34 : decode cX9_blame 34 = .ok (.goto 8, 3) := by decide +kernel
theorem dX9_blame_37 : decode cX9_blame 37 = .ok (.bipush (-2), 2) := by decide +kernel
theorem dX9_blame_39 : decode cX9_blame 39 = .ok (.invokestatic 128, 3) := by decide +kernel
theorem dX9_blame_42 : decode cX9_blame 42 = .ok (.lreturn, 1) := by decide +kernel
theorem dX9_isFound_0 : decode cX9_isFound 0 = .ok (.iload_n 0, 1) := by decide +kernel
theorem dX9_isFound_1 : decode cX9_isFound 1 = .ok (.iconst (-1), 1) := by decide +kernel
theorem dX9_isFound_2 : decode cX9_isFound 2 = .ok (.if_icmp .eq 13, 3) := by decide +kernel
theorem dX9_isFound_5 : decode cX9_isFound 5 = .ok (.iload_n 0, 1) := by decide +kernel
theorem dX9_isFound_6 : decode cX9_isFound 6 = .ok (.iconst 1, 1) := by decide +kernel
theorem dX9_isFound_7 : decode cX9_isFound 7 = .ok (.ldc 111, 2) := by decide +kernel
theorem dX9_isFound_9 : decode cX9_isFound 9 = .ok (.invokestatic 68, 3) := by decide +kernel
theorem dX9_isFound_12 : decode cX9_isFound 12 = .ok (.ifCond .eq 7, 3) := by decide +kernel
theorem dX9_isFound_15 : decode cX9_isFound 15 = .ok (.iconst 1, 1) := by decide +kernel
theorem dX9_isFound_16 : decode cX9_isFound 16 = .ok (.goto 4, 3) := by decide +kernel
theorem dX9_isFound_19 : decode cX9_isFound 19 = .ok (.iconst 0, 1) := by decide +kernel
theorem dX9_isFound_20 : decode cX9_isFound 20 = .ok (.ireturn, 1) := by decide +kernel
theorem dX9_found_0 : decode cX9_found 0 = .ok (.iload_n 1, 1) := by decide +kernel
theorem dX9_found_1 : decode cX9_found 1 = .ok (.iconst 0, 1) := by decide +kernel
theorem dX9_found_2 : decode cX9_found 2 = .ok (.bipush 9, 2) := by decide +kernel
theorem dX9_found_4 : decode cX9_found 4 = .ok (.invokestatic 68, 3) := by decide +kernel
theorem dX9_found_7 : decode cX9_found 7 = .ok (.ifCond .eq 10, 3) := by decide +kernel
theorem dX9_found_10 : decode cX9_found 10 = .ok (.iload_n 2, 1) := by decide +kernel
theorem dX9_found_11 : decode cX9_found 11 = .ok (.invokestatic 140, 3) := by decide +kernel
theorem dX9_found_14 : decode cX9_found 14 = .ok (.ifCond .ne 6, 3) := by decide +kernel
theorem dX9_found_17 : decode cX9_found 17 = .ok (.bipush (-5), 2) := by decide +kernel
theorem dX9_found_19 : decode cX9_found 19 = .ok (.ireturn, 1) := by decide +kernel
theorem dX9_found_20 : decode cX9_found 20 = .ok (.aload_n 0, 1) := by decide +kernel
theorem dX9_found_21 : decode cX9_found 21 = .ok (.getfield 31, 3) := by decide +kernel
theorem dX9_found_24 : decode cX9_found 24 = .ok (.iload_n 1, 1) := by decide +kernel
theorem dX9_found_25 : decode cX9_found 25 = .ok (.iaload, 1) := by decide +kernel
theorem dX9_found_26 : decode cX9_found 26 = .ok (.istore_n 3, 1) := by decide +kernel
theorem dX9_found_27 : decode cX9_found 27 = .ok (.aload_n 0, 1) := by decide +kernel
theorem dX9_found_28 : decode cX9_found 28 = .ok (.getfield 31, 3) := by decide +kernel
theorem dX9_found_31 : decode cX9_found 31 = .ok (.iload_n 1, 1) := by decide +kernel
theorem dX9_found_32 : decode cX9_found 32 = .ok (.iload_n 2, 1) := by decide +kernel
theorem dX9_found_33 : decode cX9_found 33 = .ok (.iastore, 1) := by decide +kernel
theorem dX9_found_34 : decode cX9_found 34 = .ok (.iload_n 3, 1) := by decide +kernel
theorem dX9_found_35 : decode cX9_found 35 = .ok (.ireturn, 1) := by decide +kernel
theorem dX9_read_0 : decode cX9_read 0 = .ok (.iload_n 1, 1) := by decide +kernel
theorem dX9_read_1 : decode cX9_read 1 = .ok (.invokestatic 143, 3) := by decide +kernel
theorem dX9_read_4 : decode cX9_read 4 = .ok (.ifCond .ne 6, 3) := by decide +kernel
theorem dX9_read_7 : decode cX9_read 7 = .ok (.bipush (-2), 2) := by decide +kernel
theorem dX9_read_9 : decode cX9_read 9 = .ok (.ireturn, 1) := by decide +kernel
theorem dX9_read_10 : decode cX9_read 10 = .ok (.aload_n 0, 1) := by decide +kernel
theorem dX9_read_11 : decode cX9_read 11 = .ok (.getfield 50, 3) := by decide +kernel
theorem dX9_read_14 : decode cX9_read 14 = .ok (.iload_n 1, 1) := by decide +kernel
theorem dX9_read_15 : decode cX9_read 15 = .ok (.baload, 1) := by decide +kernel
theorem dX9_read_16 : decode cX9_read 16 = .ok (.ifCond .ne 9, 3) := by decide +kernel
theorem dX9_read_19 : decode cX9_read 19 = .ok (.aload_n 0, 1) := by decide +kernel
theorem dX9_read_20 : decode cX9_read 20 = .ok (.iconst 1, 1) := by decide +kernel
theorem dX9_read_21 : decode cX9_read 21 = .ok (.invokevirtual 146, 3) := by decide +kernel
theorem dX9_read_24 : decode cX9_read 24 = .ok (.ireturn, 1) := by decide +kernel
theorem dX9_read_25 : decode cX9_read 25 = .ok (.iconst 0, 1) := by decide +kernel
theorem dX9_read_26 : decode cX9_read 26 = .ok (.istore_n 2, 1) := by decide +kernel
theorem dX9_read_27 : decode cX9_read 27 = .ok (.iload_n 2, 1) := by decide +kernel
theorem dX9_read_28 : decode cX9_read 28 = .ok (.aload_n 0, 1) := by decide +kernel
theorem dX9_read_29 : decode cX9_read 29 = .ok (.getfield 57, 3) := by decide +kernel
theorem dX9_read_32 : decode cX9_read 32 = .ok (.iload_n 1, 1) := by decide +kernel
theorem dX9_read_33 : decode cX9_read 33 = .ok (.iaload, 1) := by decide +kernel
theorem dX9_read_34 : decode cX9_read 34 = .ok (.if_icmp .ge 49, 3) := by decide +kernel
theorem dX9_read_37 : decode cX9_read 37 = .ok (.iload_n 2, 1) := by decide +kernel
theorem dX9_read_38 : decode cX9_read 38 = .ok (.bipush 10, 2) := by decide +kernel
theorem dX9_read_40 : decode cX9_read 40 = .ok (.if_icmp .ge 43, 3) := by decide +kernel
theorem dX9_read_43 : decode cX9_read 43 = .ok (.aload_n 0, 1) := by decide +kernel
theorem dX9_read_44 : decode cX9_read 44 = .ok (.getfield 60, 3) := by decide +kernel
theorem dX9_read_47 : decode cX9_read 47 = .ok (.bipush 48, 2) := by decide +kernel
theorem dX9_read_49 : decode cX9_read 49 = .ok (.iload_n 1, 1) := by decide +kernel
theorem dX9_read_50 : decode cX9_read 50 = .ok (.imul, 1) := by decide +kernel
theorem dX9_read_51 : decode cX9_read 51 = .ok (.iload_n 2, 1) := by decide +kernel
theorem dX9_read_52 : decode cX9_read 52 = .ok (.iadd, 1) := by decide +kernel
theorem dX9_read_53 : decode cX9_read 53 = .ok (.iaload, 1) := by decide +kernel
theorem dX9_read_54 : decode cX9_read 54 = .ok (.invokestatic 140, 3) := by decide +kernel
theorem dX9_read_57 : decode cX9_read 57 = .ok (.ifCond .eq 26, 3) := by decide +kernel
theorem dX9_read_60 : decode cX9_read 60 = .ok (.aload_n 0, 1) := by decide +kernel
theorem dX9_read_61 : decode cX9_read 61 = .ok (.getfield 31, 3) := by decide +kernel
theorem dX9_read_64 : decode cX9_read 64 = .ok (.iload_n 2, 1) := by decide +kernel
theorem dX9_read_65 : decode cX9_read 65 = .ok (.aload_n 0, 1) := by decide +kernel
theorem dX9_read_66 : decode cX9_read 66 = .ok (.getfield 60, 3) := by decide +kernel
theorem dX9_read_69 : decode cX9_read 69 = .ok (.bipush 48, 2) := by decide +kernel
theorem dX9_read_71 : decode cX9_read 71 = .ok (.iload_n 1, 1) := by decide +kernel
theorem dX9_read_72 : decode cX9_read 72 = .ok (.imul, 1) := by decide +kernel
theorem dX9_read_73 : decode cX9_read 73 = .ok (.iload_n 2, 1) := by decide +kernel
theorem dX9_read_74 : decode cX9_read 74 = .ok (.iadd, 1) := by decide +kernel
theorem dX9_read_75 : decode cX9_read 75 = .ok (.iaload, 1) := by decide +kernel
theorem dX9_read_76 : decode cX9_read 76 = .ok (.iastore, 1) := by decide +kernel
theorem dX9_read_77 : decode cX9_read 77 = .ok (.iinc 2 1, 3) := by decide +kernel
theorem dX9_read_80 : decode cX9_read 80 = .ok (.goto (-53), 3) := by decide +kernel
theorem dX9_read_83 : decode cX9_read 83 = .ok (.iload_n 2, 1) := by decide +kernel
theorem dX9_read_84 : decode cX9_read 84 = .ok (.ireturn, 1) := by decide +kernel
theorem dX9_isFit_0 : decode cX9_isFit 0 = .ok (.aload_n 0, 1) := by decide +kernel
theorem dX9_isFit_1 : decode cX9_isFit 1 = .ok (.getfield 31, 3) := by decide +kernel
theorem dX9_isFit_4 : decode cX9_isFit 4 = .ok (.iload_n 1, 1) := by decide +kernel
theorem dX9_isFit_5 : decode cX9_isFit 5 = .ok (.iaload, 1) := by decide +kernel
theorem dX9_isFit_6 : decode cX9_isFit 6 = .ok (.iconst (-1), 1) := by decide +kernel
theorem dX9_isFit_7 : decode cX9_isFit 7 = .ok (.if_icmp .eq 33, 3) := by decide +kernel
theorem dX9_isFit_10 : decode cX9_isFit 10 = .ok (.aload_n 0, 1) := by decide +kernel
theorem dX9_isFit_11 : decode cX9_isFit 11 = .ok (.aload_n 0, 1) := by decide +kernel
theorem dX9_isFit_12 : decode cX9_isFit 12 = .ok (.getfield 22, 3) := by decide +kernel
theorem dX9_isFit_15 : decode cX9_isFit 15 = .ok (.iload_n 1, 1) := by decide +kernel
theorem dX9_isFit_16 : decode cX9_isFit 16 = .ok (.iaload, 1) := by decide +kernel
theorem dX9_isFit_17 : decode cX9_isFit 17 = .ok (.iload_n 2, 1) := by decide +kernel
theorem dX9_isFit_18 : decode cX9_isFit 18 = .ok (.invokevirtual 93, 3) := by decide +kernel
theorem dX9_isFit_21 : decode cX9_isFit 21 = .ok (.aload_n 0, 1) := by decide +kernel
theorem dX9_isFit_22 : decode cX9_isFit 22 = .ok (.getfield 31, 3) := by decide +kernel
theorem dX9_isFit_25 : decode cX9_isFit 25 = .ok (.iload_n 1, 1) := by decide +kernel
theorem dX9_isFit_26 : decode cX9_isFit 26 = .ok (.iaload, 1) := by decide +kernel
theorem dX9_isFit_27 : decode cX9_isFit 27 = .ok (.isub, 1) := by decide +kernel
theorem dX9_isFit_28 : decode cX9_isFit 28 = .ok (.invokestatic 115, 3) := by decide +kernel
theorem dX9_isFit_31 : decode cX9_isFit 31 = .ok (.aload_n 0, 1) := by decide +kernel
theorem dX9_isFit_32 : decode cX9_isFit 32 = .ok (.getfield 16, 3) := by decide +kernel
theorem dX9_isFit_35 : decode cX9_isFit 35 = .ok (.iconst 0, 1) := by decide +kernel
theorem dX9_isFit_36 : decode cX9_isFit 36 = .ok (.iaload, 1) := by decide +kernel
theorem dX9_isFit_37 : decode cX9_isFit 37 = .ok (.if_icmp .gt 7, 3) := by decide +kernel
theorem dX9_isFit_40 : decode cX9_isFit 40 = .ok (.iconst 1, 1) := by decide +kernel
theorem dX9_isFit_41 : decode cX9_isFit 41 = .ok (.goto 4, 3) := by decide +kernel
theorem dX9_isFit_44 : decode cX9_isFit 44 = .ok (.iconst 0, 1) := by decide +kernel
theorem dX9_isFit_45 : decode cX9_isFit 45 = .ok (.ireturn, 1) := by decide +kernel
theorem dX9_fitsOf_0 : decode cX9_fitsOf 0 = .ok (.iconst 0, 1) := by decide +kernel
theorem dX9_fitsOf_1 : decode cX9_fitsOf 1 = .ok (.istore_n 2, 1) := by decide +kernel
theorem dX9_fitsOf_2 : decode cX9_fitsOf 2 = .ok (.iconst 0, 1) := by decide +kernel
theorem dX9_fitsOf_3 : decode cX9_fitsOf 3 = .ok (.istore_n 3, 1) := by decide +kernel
theorem dX9_fitsOf_4 : decode cX9_fitsOf 4 = .ok (.iload_n 3, 1) := by decide +kernel
theorem dX9_fitsOf_5 : decode cX9_fitsOf 5 = .ok (.bipush 9, 2) := by decide +kernel
theorem dX9_fitsOf_7 : decode cX9_fitsOf 7 = .ok (.if_icmp .ge 28, 3) := by decide +kernel
theorem dX9_fitsOf_10 : decode cX9_fitsOf 10 = .ok (.iload_n 2, 1) := by decide +kernel
theorem dX9_fitsOf_11 : decode cX9_fitsOf 11 = .ok (.aload_n 0, 1) := by decide +kernel
theorem dX9_fitsOf_12 : decode cX9_fitsOf 12 = .ok (.iload_n 1, 1) := by decide +kernel
theorem dX9_fitsOf_13 : decode cX9_fitsOf 13 = .ok (.iload_n 3, 1) := by decide +kernel
theorem dX9_fitsOf_14 : decode cX9_fitsOf 14 = .ok (.invokevirtual 149, 3) := by decide +kernel
theorem dX9_fitsOf_17 : decode cX9_fitsOf 17 = .ok (.ifCond .eq 9, 3) := by decide +kernel
theorem dX9_fitsOf_20 : decode cX9_fitsOf 20 = .ok (.iconst 1, 1) := by decide +kernel
theorem dX9_fitsOf_21 : decode cX9_fitsOf 21 = .ok (.iload_n 3, 1) := by decide +kernel
theorem dX9_fitsOf_22 : decode cX9_fitsOf 22 = .ok (.ishl, 1) := by decide +kernel
theorem dX9_fitsOf_23 : decode cX9_fitsOf 23 = .ok (.goto 4, 3) := by decide +kernel
theorem dX9_fitsOf_26 : decode cX9_fitsOf 26 = .ok (.iconst 0, 1) := by decide +kernel
theorem dX9_fitsOf_27 : decode cX9_fitsOf 27 = .ok (.ior, 1) := by decide +kernel
theorem dX9_fitsOf_28 : decode cX9_fitsOf 28 = .ok (.istore_n 2, 1) := by decide +kernel
theorem dX9_fitsOf_29 : decode cX9_fitsOf 29 = .ok (.iinc 3 1, 3) := by decide +kernel
theorem dX9_fitsOf_32 : decode cX9_fitsOf 32 = .ok (.goto (-28), 3) := by decide +kernel
theorem dX9_fitsOf_35 : decode cX9_fitsOf 35 = .ok (.iload_n 2, 1) := by decide +kernel
theorem dX9_fitsOf_36 : decode cX9_fitsOf 36 = .ok (.ireturn, 1) := by decide +kernel
theorem dX9_fits_0 : decode cX9_fits 0 = .ok (.aload_n 0, 1) := by decide +kernel
theorem dX9_fits_1 : decode cX9_fits 1 = .ok (.iload_n 1, 1) := by decide +kernel
theorem dX9_fits_2 : decode cX9_fits 2 = .ok (.invokevirtual 103, 3) := by decide +kernel
theorem dX9_fits_5 : decode cX9_fits 5 = .ok (.ifCond .eq 11, 3) := by decide +kernel
theorem dX9_fits_8 : decode cX9_fits 8 = .ok (.aload_n 0, 1) := by decide +kernel
theorem dX9_fits_9 : decode cX9_fits 9 = .ok (.iload_n 1, 1) := by decide +kernel
theorem dX9_fits_10 : decode cX9_fits 10 = .ok (.invokevirtual 153, 3) := by decide +kernel
theorem dX9_fits_13 : decode cX9_fits 13 = .ok (.goto 5, 3) := by decide +kernel
theorem dX9_fits_16 : decode cX9_fits 16 = .ok (.bipush (-2), 2) := by decide +kernel
theorem dX9_fits_18 : decode cX9_fits 18 = .ok (.ireturn, 1) := by decide +kernel
theorem dX9_worldsBy_0 : decode cX9_worldsBy 0 = .ok (.aload_n 0, 1) := by decide +kernel
theorem dX9_worldsBy_1 : decode cX9_worldsBy 1 = .ok (.invokevirtual 97, 3) := by decide +kernel
theorem dX9_worldsBy_4 : decode cX9_worldsBy 4 = .ok (.istore_n 3, 1) := by decide +kernel
theorem dX9_worldsBy_5 : decode cX9_worldsBy 5 = .ok (.iconst 0, 1) := by decide +kernel
theorem dX9_worldsBy_6 : decode cX9_worldsBy 6 = .ok (.istore 4, 2) := by decide +kernel
theorem dX9_worldsBy_8 : decode cX9_worldsBy 8 = .ok (.iload 4, 2) := by decide +kernel
theorem dX9_worldsBy_10 : decode cX9_worldsBy 10 = .ok (.iload_n 3, 1) := by decide +kernel
theorem dX9_worldsBy_11 : decode cX9_worldsBy 11 = .ok (.if_icmp .ge 172, 3) := by decide +kernel
theorem dX9_worldsBy_14 : decode cX9_worldsBy 14 = .ok (.iconst 0, 1) := by decide +kernel
theorem dX9_worldsBy_15 : decode cX9_worldsBy 15 = .ok (.istore 5, 2) := by decide +kernel
theorem dX9_worldsBy_17 : decode cX9_worldsBy 17 = .ok (.iload 5, 2) := by decide +kernel
theorem dX9_worldsBy_19 : decode cX9_worldsBy 19 = .ok (.bipush 9, 2) := by decide +kernel
theorem dX9_worldsBy_21 : decode cX9_worldsBy 21 = .ok (.if_icmp .ge 126, 3) := by decide +kernel
theorem dX9_worldsBy_24 : decode cX9_worldsBy 24 = .ok (.aload_n 0, 1) := by decide +kernel
theorem dX9_worldsBy_25 : decode cX9_worldsBy 25 = .ok (.iload 4, 2) := by decide +kernel
theorem dX9_worldsBy_27 : decode cX9_worldsBy 27 = .ok (.iload 5, 2) := by decide +kernel
theorem dX9_worldsBy_29 : decode cX9_worldsBy 29 = .ok (.invokevirtual 149, 3) := by decide +kernel
theorem dX9_worldsBy_32 : decode cX9_worldsBy 32 = .ok (.ifCond .eq 21, 3) := by decide +kernel
theorem dX9_worldsBy_35 : decode cX9_worldsBy 35 = .ok (.iload 4, 2) := by decide +kernel
theorem dX9_worldsBy_37 : decode cX9_worldsBy 37 = .ok (.iload_n 1, 1) := by decide +kernel
theorem dX9_worldsBy_38 : decode cX9_worldsBy 38 = .ok (.if_icmp .ne 11, 3) := by decide +kernel
theorem dX9_worldsBy_41 : decode cX9_worldsBy 41 = .ok (.iload 5, 2) := by decide +kernel
theorem dX9_worldsBy_43 : decode cX9_worldsBy 43 = .ok (.iconst 3, 1) := by decide +kernel
theorem dX9_worldsBy_44 : decode cX9_worldsBy 44 = .ok (.idiv, 1) := by decide +kernel
theorem dX9_worldsBy_45 : decode cX9_worldsBy 45 = .ok (.iload_n 2, 1) := by decide +kernel
theorem dX9_worldsBy_46 : decode cX9_worldsBy 46 = .ok (.if_icmp .ne 7, 3) := by decide +kernel
theorem dX9_worldsBy_49 : decode cX9_worldsBy 49 = .ok (.iconst 1, 1) := by decide +kernel
theorem dX9_worldsBy_50 : decode cX9_worldsBy 50 = .ok (.goto 4, 3) := by decide +kernel
theorem dX9_worldsBy_53 : decode cX9_worldsBy 53 = .ok (.iconst 0, 1) := by decide +kernel
theorem dX9_worldsBy_54 : decode cX9_worldsBy 54 = .ok (.istore 6, 2) := by decide +kernel
theorem dX9_worldsBy_56 : decode cX9_worldsBy 56 = .ok (.iload 4, 2) := by decide +kernel
theorem dX9_worldsBy_58 : decode cX9_worldsBy 58 = .ok (.ifCond .ne 7, 3) := by decide +kernel
theorem dX9_worldsBy_61 : decode cX9_worldsBy 61 = .ok (.lconst 1, 1) := by decide +kernel
theorem dX9_worldsBy_62 : decode cX9_worldsBy 62 = .ok (.goto 4, 3) := by decide +kernel
theorem dX9_worldsBy_65 : decode cX9_worldsBy 65 = .ok (.lconst 0, 1) := by decide +kernel
theorem dX9_worldsBy_66 : decode cX9_worldsBy 66 = .ok (.lstore 7, 2) := by decide +kernel
theorem dX9_worldsBy_68 : decode cX9_worldsBy 68 = .ok (.iconst 0, 1) := by decide +kernel
theorem dX9_worldsBy_69 : decode cX9_worldsBy 69 = .ok (.istore 9, 2) := by decide +kernel
theorem dX9_worldsBy_71 : decode cX9_worldsBy 71 = .ok (.iload 9, 2) := by decide +kernel
theorem dX9_worldsBy_73 : decode cX9_worldsBy 73 = .ok (.bipush 9, 2) := by decide +kernel
theorem dX9_worldsBy_75 : decode cX9_worldsBy 75 = .ok (.if_icmp .ge 48, 3) := by decide +kernel
theorem dX9_worldsBy_78 : decode cX9_worldsBy 78 = .ok (.iload 4, 2) := by decide +kernel
theorem dX9_worldsBy_80 : decode cX9_worldsBy 80 = .ok (.ifCond .le 43, 3) := by decide +kernel
theorem dX9_worldsBy_83 : decode cX9_worldsBy 83 = .ok (.lload 7, 2) := by decide +kernel
theorem dX9_worldsBy_85 : decode cX9_worldsBy 85 = .ok (.iload 9, 2) := by decide +kernel
theorem dX9_worldsBy_87 : decode cX9_worldsBy 87 = .ok (.iload 5, 2) := by decide +kernel
theorem dX9_worldsBy_89 : decode cX9_worldsBy 89 = .ok (.if_icmp .eq 14, 3) := by decide +kernel
theorem dX9_worldsBy_92 : decode cX9_worldsBy 92 = .ok (.iload 9, 2) := by decide +kernel
theorem dX9_worldsBy_94 : decode cX9_worldsBy 94 = .ok (.iconst 3, 1) := by decide +kernel
theorem dX9_worldsBy_95 : decode cX9_worldsBy 95 = .ok (.idiv, 1) := by decide +kernel
theorem dX9_worldsBy_96 : decode cX9_worldsBy 96 = .ok (.iload 5, 2) := by decide +kernel
theorem dX9_worldsBy_98 : decode cX9_worldsBy 98 = .ok (.iconst 3, 1) := by decide +kernel
theorem dX9_worldsBy_99 : decode cX9_worldsBy 99 = .ok (.idiv, 1) := by decide +kernel
theorem dX9_worldsBy_100 : decode cX9_worldsBy 100 = .ok (.if_icmp .eq 13, 3) := by decide +kernel
theorem dX9_worldsBy_103 : decode cX9_worldsBy 103 = .ok (.aload_n 0, 1) := by decide +kernel
theorem dX9_worldsBy_104 : decode cX9_worldsBy 104 = .ok (.getfield 40, 3) := by decide +kernel
theorem dX9_worldsBy_107 : decode cX9_worldsBy 107 = .ok (.iload 9, 2) := by decide +kernel
theorem dX9_worldsBy_109 : decode cX9_worldsBy 109 = .ok (.laload, 1) := by decide +kernel
theorem dX9_worldsBy_110 : decode cX9_worldsBy 110 = .ok (.goto 4, 3) := by decide +kernel
theorem dX9_worldsBy_113 : decode cX9_worldsBy 113 = .ok (.lconst 0, 1) := by decide +kernel
theorem dX9_worldsBy_114 : decode cX9_worldsBy 114 = .ok (.ladd, 1) := by decide +kernel
theorem dX9_worldsBy_115 : decode cX9_worldsBy 115 = .ok (.lstore 7, 2) := by decide +kernel
theorem dX9_worldsBy_117 : decode cX9_worldsBy 117 = .ok (.iinc 9 1, 3) := by decide +kernel
theorem dX9_worldsBy_120 : decode cX9_worldsBy 120 = .ok (.goto (-49), 3) := by decide +kernel
theorem dX9_worldsBy_123 : decode cX9_worldsBy 123 = .ok (.aload_n 0, 1) := by decide +kernel
theorem dX9_worldsBy_124 : decode cX9_worldsBy 124 = .ok (.getfield 44, 3) := by decide +kernel
theorem dX9_worldsBy_127 : decode cX9_worldsBy 127 = .ok (.iload 5, 2) := by decide +kernel
theorem dX9_worldsBy_129 : decode cX9_worldsBy 129 = .ok (.iload 6, 2) := by decide +kernel
theorem dX9_worldsBy_131 : decode cX9_worldsBy 131 = .ok (.ifCond .eq 8, 3) := by decide +kernel
theorem dX9_worldsBy_134 : decode cX9_worldsBy 134 = .ok (.lload 7, 2) := by decide +kernel
theorem dX9_worldsBy_136 : decode cX9_worldsBy 136 = .ok (.goto 4, 3) := by decide +kernel
theorem dX9_worldsBy_139 : decode cX9_worldsBy 139 = .ok (.lconst 0, 1) := by decide +kernel
theorem dX9_worldsBy_140 : decode cX9_worldsBy 140 = .ok (.lastore, 1) := by decide +kernel
theorem dX9_worldsBy_141 : decode cX9_worldsBy 141 = .ok (.iinc 5 1, 3) := by decide +kernel
theorem dX9_worldsBy_144 : decode cX9_worldsBy 144 = .ok (.goto (-127), 3) := by decide +kernel
theorem dX9_worldsBy_147 : decode cX9_worldsBy 147 = .ok (.iconst 0, 1) := by decide +kernel
theorem dX9_worldsBy_148 : decode cX9_worldsBy 148 = .ok (.istore 5, 2) := by decide +kernel
theorem dX9_worldsBy_150 : decode cX9_worldsBy 150 = .ok (.iload 5, 2) := by decide +kernel
theorem dX9_worldsBy_152 : decode cX9_worldsBy 152 = .ok (.bipush 9, 2) := by decide +kernel
theorem dX9_worldsBy_154 : decode cX9_worldsBy 154 = .ok (.if_icmp .ge 23, 3) := by decide +kernel
theorem dX9_worldsBy_157 : decode cX9_worldsBy 157 = .ok (.aload_n 0, 1) := by decide +kernel
theorem dX9_worldsBy_158 : decode cX9_worldsBy 158 = .ok (.getfield 40, 3) := by decide +kernel
theorem dX9_worldsBy_161 : decode cX9_worldsBy 161 = .ok (.iload 5, 2) := by decide +kernel
theorem dX9_worldsBy_163 : decode cX9_worldsBy 163 = .ok (.aload_n 0, 1) := by decide +kernel
theorem dX9_worldsBy_164 : decode cX9_worldsBy 164 = .ok (.getfield 44, 3) := by decide +kernel
theorem dX9_worldsBy_167 : decode cX9_worldsBy 167 = .ok (.iload 5, 2) := by decide +kernel
theorem dX9_worldsBy_169 : decode cX9_worldsBy 169 = .ok (.laload, 1) := by decide +kernel
theorem dX9_worldsBy_170 : decode cX9_worldsBy 170 = .ok (.lastore, 1) := by decide +kernel
theorem dX9_worldsBy_171 : decode cX9_worldsBy 171 = .ok (.iinc 5 1, 3) := by decide +kernel
theorem dX9_worldsBy_174 : decode cX9_worldsBy 174 = .ok (.goto (-24), 3) := by decide +kernel
theorem dX9_worldsBy_177 : decode cX9_worldsBy 177 = .ok (.iinc 4 1, 3) := by decide +kernel
theorem dX9_worldsBy_180 : decode cX9_worldsBy 180 = .ok (.goto (-172), 3) := by decide +kernel
theorem dX9_worldsBy_183 : decode cX9_worldsBy 183 = .ok (.iload_n 3, 1) := by decide +kernel
theorem dX9_worldsBy_184 : decode cX9_worldsBy 184 = .ok (.ifCond .ne 7, 3) := by decide +kernel
theorem dX9_worldsBy_187 : decode cX9_worldsBy 187 = .ok (.lconst 1, 1) := by decide +kernel
theorem dX9_worldsBy_188 : decode cX9_worldsBy 188 = .ok (.goto 4, 3) := by decide +kernel
theorem dX9_worldsBy_191 : decode cX9_worldsBy 191 = .ok (.lconst 0, 1) := by decide +kernel
theorem dX9_worldsBy_192 : decode cX9_worldsBy 192 = .ok (.lstore 4, 2) := by decide +kernel
theorem dX9_worldsBy_194 : decode cX9_worldsBy 194 = .ok (.iconst 0, 1) := by decide +kernel
theorem dX9_worldsBy_195 : decode cX9_worldsBy 195 = .ok (.istore 6, 2) := by decide +kernel
theorem dX9_worldsBy_197 : decode cX9_worldsBy 197 = .ok (.iload 6, 2) := by decide +kernel
theorem dX9_worldsBy_199 : decode cX9_worldsBy 199 = .ok (.bipush 9, 2) := by decide +kernel
theorem dX9_worldsBy_201 : decode cX9_worldsBy 201 = .ok (.if_icmp .ge 25, 3) := by decide +kernel
theorem dX9_worldsBy_204 : decode cX9_worldsBy 204 = .ok (.iload_n 3, 1) := by decide +kernel
theorem dX9_worldsBy_205 : decode cX9_worldsBy 205 = .ok (.ifCond .le 21, 3) := by decide +kernel
theorem dX9_worldsBy_208 : decode cX9_worldsBy 208 = .ok (.lload 4, 2) := by decide +kernel
theorem dX9_worldsBy_210 : decode cX9_worldsBy 210 = .ok (.aload_n 0, 1) := by decide +kernel
theorem dX9_worldsBy_211 : decode cX9_worldsBy 211 = .ok (.getfield 40, 3) := by decide +kernel
theorem dX9_worldsBy_214 : decode cX9_worldsBy 214 = .ok (.iload 6, 2) := by decide +kernel
theorem dX9_worldsBy_216 : decode cX9_worldsBy 216 = .ok (.laload, 1) := by decide +kernel
theorem dX9_worldsBy_217 : decode cX9_worldsBy 217 = .ok (.ladd, 1) := by decide +kernel
theorem dX9_worldsBy_218 : decode cX9_worldsBy 218 = .ok (.lstore 4, 2) := by decide +kernel
theorem dX9_worldsBy_220 : decode cX9_worldsBy 220 = .ok (.iinc 6 1, 3) := by decide +kernel
theorem dX9_worldsBy_223 : decode cX9_worldsBy 223 = .ok (.goto (-26), 3) := by decide +kernel
theorem dX9_worldsBy_226 : decode cX9_worldsBy 226 = .ok (.lload 4, 2) := by decide +kernel
theorem dX9_worldsBy_228 : decode cX9_worldsBy 228 = .ok (.lreturn, 1) := by decide +kernel
theorem dX9_worlds_0 : decode cX9_worlds 0 = .ok (.aload_n 0, 1) := by decide +kernel
theorem dX9_worlds_1 : decode cX9_worlds 1 = .ok (.iconst (-1), 1) := by decide +kernel
theorem dX9_worlds_2 : decode cX9_worlds 2 = .ok (.iconst 0, 1) := by decide +kernel
theorem dX9_worlds_3 : decode cX9_worlds 3 = .ok (.invokevirtual 156, 3) := by decide +kernel
theorem dX9_worlds_6 : decode cX9_worlds 6 = .ok (.lreturn, 1) := by decide +kernel
theorem dX9_oddsOf_0 : decode cX9_oddsOf 0 = .ok (.aload_n 0, 1) := by decide +kernel
theorem dX9_oddsOf_1 : decode cX9_oddsOf 1 = .ok (.iconst (-1), 1) := by decide +kernel
theorem dX9_oddsOf_2 : decode cX9_oddsOf 2 = .ok (.iconst 0, 1) := by decide +kernel
theorem dX9_oddsOf_3 : decode cX9_oddsOf 3 = .ok (.invokevirtual 156, 3) := by decide +kernel
theorem dX9_oddsOf_6 : decode cX9_oddsOf 6 = .ok (.lstore 4, 2) := by decide +kernel
theorem dX9_oddsOf_8 : decode cX9_oddsOf 8 = .ok (.lload 4, 2) := by decide +kernel
theorem dX9_oddsOf_10 : decode cX9_oddsOf 10 = .ok (.lconst 0, 1) := by decide +kernel
theorem dX9_oddsOf_11 : decode cX9_oddsOf 11 = .ok (.lcmp, 1) := by decide +kernel
theorem dX9_oddsOf_12 : decode cX9_oddsOf 12 = .ok (.ifCond .ne 11, 3) := by decide +kernel
theorem dX9_oddsOf_15 : decode cX9_oddsOf 15 = .ok (.bipush (-3), 2) := by decide +kernel
theorem dX9_oddsOf_17 : decode cX9_oddsOf 17 = .ok (.invokestatic 128, 3) := by decide +kernel
theorem dX9_oddsOf_20 : decode cX9_oddsOf 20 = .ok (.goto 15, 3) := by decide +kernel
theorem dX9_oddsOf_23 : decode cX9_oddsOf 23 = .ok (.aload_n 0, 1) := by decide +kernel
theorem dX9_oddsOf_24 : decode cX9_oddsOf 24 = .ok (.iload_n 1, 1) := by decide +kernel
theorem dX9_oddsOf_25 : decode cX9_oddsOf 25 = .ok (.iload_n 2, 1) := by decide +kernel
theorem dX9_oddsOf_26 : decode cX9_oddsOf 26 = .ok (.invokevirtual 156, 3) := by decide +kernel
theorem dX9_oddsOf_29 : decode cX9_oddsOf 29 = .ok (.lload 4, 2) := by decide +kernel
theorem dX9_oddsOf_31 : decode cX9_oddsOf 31 = .ok (.iload_n 3, 1) := by decide +kernel
theorem dX9_oddsOf_32 : decode cX9_oddsOf 32 = .ok (.invokestatic 132, 3) := by decide +kernel
theorem dX9_oddsOf_35 : decode cX9_oddsOf 35 = .ok (.lreturn, 1) := by decide +kernel
theorem dX9_odds_0 : decode cX9_odds 0 = .ok (.aload_n 0, 1) := by decide +kernel
theorem dX9_odds_1 : decode cX9_odds 1 = .ok (.iload_n 1, 1) := by decide +kernel
theorem dX9_odds_2 : decode cX9_odds 2 = .ok (.invokevirtual 103, 3) := by decide +kernel
theorem dX9_odds_5 : decode cX9_odds 5 = .ok (.ifCond .eq 31, 3) := by decide +kernel
theorem dX9_odds_8 : decode cX9_odds 8 = .ok (.iload_n 2, 1) := by decide +kernel
theorem dX9_odds_9 : decode cX9_odds 9 = .ok (.iconst 0, 1) := by decide +kernel
theorem dX9_odds_10 : decode cX9_odds 10 = .ok (.iconst 2, 1) := by decide +kernel
theorem dX9_odds_11 : decode cX9_odds 11 = .ok (.invokestatic 68, 3) := by decide +kernel
theorem dX9_odds_14 : decode cX9_odds 14 = .ok (.ifCond .eq 22, 3) := by decide +kernel
theorem dX9_odds_17 : decode cX9_odds 17 = .ok (.iload_n 3, 1) := by decide +kernel
theorem dX9_odds_18 : decode cX9_odds 18 = .ok (.iconst 0, 1) := by decide +kernel
theorem dX9_odds_19 : decode cX9_odds 19 = .ok (.iconst 1, 1) := by decide +kernel
theorem dX9_odds_20 : decode cX9_odds 20 = .ok (.invokestatic 68, 3) := by decide +kernel
theorem dX9_odds_23 : decode cX9_odds 23 = .ok (.ifCond .eq 13, 3) := by decide +kernel
theorem dX9_odds_26 : decode cX9_odds 26 = .ok (.aload_n 0, 1) := by decide +kernel
theorem dX9_odds_27 : decode cX9_odds 27 = .ok (.iload_n 1, 1) := by decide +kernel
theorem dX9_odds_28 : decode cX9_odds 28 = .ok (.iload_n 2, 1) := by decide +kernel
theorem dX9_odds_29 : decode cX9_odds 29 = .ok (.iload_n 3, 1) := by decide +kernel
theorem dX9_odds_30 : decode cX9_odds 30 = .ok (.invokevirtual 160, 3) := by decide +kernel
theorem dX9_odds_33 : decode cX9_odds 33 = .ok (.goto 8, 3) := by decide +kernel
theorem dX9_odds_36 : decode cX9_odds 36 = .ok (.bipush (-2), 2) := by decide +kernel
theorem dX9_odds_38 : decode cX9_odds 38 = .ok (.invokestatic 128, 3) := by decide +kernel
theorem dX9_odds_41 : decode cX9_odds 41 = .ok (.lreturn, 1) := by decide +kernel
theorem dX9_lean_0 : decode cX9_lean 0 = .ok (.iload_n 1, 1) := by decide +kernel
theorem dX9_lean_1 : decode cX9_lean 1 = .ok (.iconst 0, 1) := by decide +kernel
theorem dX9_lean_2 : decode cX9_lean 2 = .ok (.bipush 10, 2) := by decide +kernel
theorem dX9_lean_4 : decode cX9_lean 4 = .ok (.invokestatic 68, 3) := by decide +kernel
theorem dX9_lean_7 : decode cX9_lean 7 = .ok (.ifCond .eq 14, 3) := by decide +kernel
theorem dX9_lean_10 : decode cX9_lean 10 = .ok (.iload_n 2, 1) := by decide +kernel
theorem dX9_lean_11 : decode cX9_lean 11 = .ok (.bipush (-99), 2) := by decide +kernel
theorem dX9_lean_13 : decode cX9_lean 13 = .ok (.bipush 99, 2) := by decide +kernel
theorem dX9_lean_15 : decode cX9_lean 15 = .ok (.invokestatic 68, 3) := by decide +kernel
theorem dX9_lean_18 : decode cX9_lean 18 = .ok (.ifCond .ne 6, 3) := by decide +kernel
theorem dX9_lean_21 : decode cX9_lean 21 = .ok (.ldc 110, 2) := by decide +kernel
theorem dX9_lean_23 : decode cX9_lean 23 = .ok (.ireturn, 1) := by decide +kernel
theorem dX9_lean_24 : decode cX9_lean 24 = .ok (.aload_n 0, 1) := by decide +kernel
theorem dX9_lean_25 : decode cX9_lean 25 = .ok (.getfield 34, 3) := by decide +kernel
theorem dX9_lean_28 : decode cX9_lean 28 = .ok (.iload_n 1, 1) := by decide +kernel
theorem dX9_lean_29 : decode cX9_lean 29 = .ok (.iaload, 1) := by decide +kernel
theorem dX9_lean_30 : decode cX9_lean 30 = .ok (.istore_n 3, 1) := by decide +kernel
theorem dX9_lean_31 : decode cX9_lean 31 = .ok (.aload_n 0, 1) := by decide +kernel
theorem dX9_lean_32 : decode cX9_lean 32 = .ok (.getfield 34, 3) := by decide +kernel
theorem dX9_lean_35 : decode cX9_lean 35 = .ok (.iload_n 1, 1) := by decide +kernel
theorem dX9_lean_36 : decode cX9_lean 36 = .ok (.iload_n 2, 1) := by decide +kernel
theorem dX9_lean_37 : decode cX9_lean 37 = .ok (.iastore, 1) := by decide +kernel
theorem dX9_lean_38 : decode cX9_lean 38 = .ok (.iload_n 3, 1) := by decide +kernel
theorem dX9_lean_39 : decode cX9_lean 39 = .ok (.ireturn, 1) := by decide +kernel
theorem dX9_spread_0 : decode cX9_spread 0 = .ok (.aload_n 0, 1) := by decide +kernel
theorem dX9_spread_1 : decode cX9_spread 1 = .ok (.getfield 34, 3) := by decide +kernel
theorem dX9_spread_4 : decode cX9_spread 4 = .ok (.iload_n 1, 1) := by decide +kernel
theorem dX9_spread_5 : decode cX9_spread 5 = .ok (.iaload, 1) := by decide +kernel
theorem dX9_spread_6 : decode cX9_spread 6 = .ok (.istore_n 3, 1) := by decide +kernel
theorem dX9_spread_7 : decode cX9_spread 7 = .ok (.aload_n 0, 1) := by decide +kernel
theorem dX9_spread_8 : decode cX9_spread 8 = .ok (.getfield 34, 3) := by decide +kernel
theorem dX9_spread_11 : decode cX9_spread 11 = .ok (.iload_n 1, 1) := by decide +kernel
theorem dX9_spread_12 : decode cX9_spread 12 = .ok (.iaload, 1) := by decide +kernel
theorem dX9_spread_13 : decode cX9_spread 13 = .ok (.istore 4, 2) := by decide +kernel
theorem dX9_spread_15 : decode cX9_spread 15 = .ok (.iload_n 1, 1) := by decide +kernel
theorem dX9_spread_16 : decode cX9_spread 16 = .ok (.istore 5, 2) := by decide +kernel
theorem dX9_spread_18 : decode cX9_spread 18 = .ok (.iload 5, 2) := by decide +kernel
theorem dX9_spread_20 : decode cX9_spread 20 = .ok (.iload_n 2, 1) := by decide +kernel
theorem dX9_spread_21 : decode cX9_spread 21 = .ok (.if_icmp .gt 58, 3) := by decide +kernel
theorem dX9_spread_24 : decode cX9_spread 24 = .ok (.aload_n 0, 1) := by decide +kernel
theorem dX9_spread_25 : decode cX9_spread 25 = .ok (.getfield 34, 3) := by decide +kernel
theorem dX9_spread_28 : decode cX9_spread 28 = .ok (.iload 5, 2) := by decide +kernel
theorem dX9_spread_30 : decode cX9_spread 30 = .ok (.iaload, 1) := by decide +kernel
theorem dX9_spread_31 : decode cX9_spread 31 = .ok (.iload_n 3, 1) := by decide +kernel
theorem dX9_spread_32 : decode cX9_spread 32 = .ok (.if_icmp .ge 13, 3) := by decide +kernel
theorem dX9_spread_35 : decode cX9_spread 35 = .ok (.aload_n 0, 1) := by decide +kernel
theorem dX9_spread_36 : decode cX9_spread 36 = .ok (.getfield 34, 3) := by decide +kernel
theorem dX9_spread_39 : decode cX9_spread 39 = .ok (.iload 5, 2) := by decide +kernel
theorem dX9_spread_41 : decode cX9_spread 41 = .ok (.iaload, 1) := by decide +kernel
theorem dX9_spread_42 : decode cX9_spread 42 = .ok (.goto 4, 3) := by decide +kernel
theorem dX9_spread_45 : decode cX9_spread 45 = .ok (.iload_n 3, 1) := by decide +kernel
theorem dX9_spread_46 : decode cX9_spread 46 = .ok (.istore_n 3, 1) := by decide +kernel
theorem dX9_spread_47 : decode cX9_spread 47 = .ok (.aload_n 0, 1) := by decide +kernel
theorem dX9_spread_48 : decode cX9_spread 48 = .ok (.getfield 34, 3) := by decide +kernel
theorem dX9_spread_51 : decode cX9_spread 51 = .ok (.iload 5, 2) := by decide +kernel
theorem dX9_spread_53 : decode cX9_spread 53 = .ok (.iaload, 1) := by decide +kernel
theorem dX9_spread_54 : decode cX9_spread 54 = .ok (.iload 4, 2) := by decide +kernel
theorem dX9_spread_56 : decode cX9_spread 56 = .ok (.if_icmp .le 13, 3) := by decide +kernel
theorem dX9_spread_59 : decode cX9_spread 59 = .ok (.aload_n 0, 1) := by decide +kernel
theorem dX9_spread_60 : decode cX9_spread 60 = .ok (.getfield 34, 3) := by decide +kernel
theorem dX9_spread_63 : decode cX9_spread 63 = .ok (.iload 5, 2) := by decide +kernel
theorem dX9_spread_65 : decode cX9_spread 65 = .ok (.iaload, 1) := by decide +kernel
theorem dX9_spread_66 : decode cX9_spread 66 = .ok (.goto 5, 3) := by decide +kernel
theorem dX9_spread_69 : decode cX9_spread 69 = .ok (.iload 4, 2) := by decide +kernel
theorem dX9_spread_71 : decode cX9_spread 71 = .ok (.istore 4, 2) := by decide +kernel
theorem dX9_spread_73 : decode cX9_spread 73 = .ok (.iinc 5 1, 3) := by decide +kernel
theorem dX9_spread_76 : decode cX9_spread 76 = .ok (.goto (-58), 3) := by decide +kernel
theorem dX9_spread_79 : decode cX9_spread 79 = .ok (.iload 4, 2) := by decide +kernel
theorem dX9_spread_81 : decode cX9_spread 81 = .ok (.iload_n 3, 1) := by decide +kernel
theorem dX9_spread_82 : decode cX9_spread 82 = .ok (.isub, 1) := by decide +kernel
theorem dX9_spread_83 : decode cX9_spread 83 = .ok (.ireturn, 1) := by decide +kernel
theorem dX9_runs_0 : decode cX9_runs 0 = .ok (.iload_n 1, 1) := by decide +kernel
theorem dX9_runs_1 : decode cX9_runs 1 = .ok (.iconst 1, 1) := by decide +kernel
theorem dX9_runs_2 : decode cX9_runs 2 = .ok (.sipush 999, 3) := by decide +kernel
theorem dX9_runs_5 : decode cX9_runs 5 = .ok (.invokestatic 68, 3) := by decide +kernel
theorem dX9_runs_8 : decode cX9_runs 8 = .ok (.ifCond .eq 19, 3) := by decide +kernel
theorem dX9_runs_11 : decode cX9_runs 11 = .ok (.iload_n 2, 1) := by decide +kernel
theorem dX9_runs_12 : decode cX9_runs 12 = .ok (.ifCond .lt 15, 3) := by decide +kernel
theorem dX9_runs_15 : decode cX9_runs 15 = .ok (.iload_n 3, 1) := by decide +kernel
theorem dX9_runs_16 : decode cX9_runs 16 = .ok (.iload_n 2, 1) := by decide +kernel
theorem dX9_runs_17 : decode cX9_runs 17 = .ok (.aload_n 0, 1) := by decide +kernel
theorem dX9_runs_18 : decode cX9_runs 18 = .ok (.invokevirtual 97, 3) := by decide +kernel
theorem dX9_runs_21 : decode cX9_runs 21 = .ok (.invokestatic 68, 3) := by decide +kernel
theorem dX9_runs_24 : decode cX9_runs 24 = .ok (.ifCond .ne 6, 3) := by decide +kernel
theorem dX9_runs_27 : decode cX9_runs 27 = .ok (.bipush (-2), 2) := by decide +kernel
theorem dX9_runs_29 : decode cX9_runs 29 = .ok (.ireturn, 1) := by decide +kernel
theorem dX9_runs_30 : decode cX9_runs 30 = .ok (.aload_n 0, 1) := by decide +kernel
theorem dX9_runs_31 : decode cX9_runs 31 = .ok (.iload_n 2, 1) := by decide +kernel
theorem dX9_runs_32 : decode cX9_runs 32 = .ok (.iload_n 3, 1) := by decide +kernel
theorem dX9_runs_33 : decode cX9_runs 33 = .ok (.invokevirtual 163, 3) := by decide +kernel
theorem dX9_runs_36 : decode cX9_runs 36 = .ok (.aload_n 0, 1) := by decide +kernel
theorem dX9_runs_37 : decode cX9_runs 37 = .ok (.getfield 16, 3) := by decide +kernel
theorem dX9_runs_40 : decode cX9_runs 40 = .ok (.iconst 1, 1) := by decide +kernel
theorem dX9_runs_41 : decode cX9_runs 41 = .ok (.iaload, 1) := by decide +kernel
theorem dX9_runs_42 : decode cX9_runs 42 = .ok (.iload_n 1, 1) := by decide +kernel
theorem dX9_runs_43 : decode cX9_runs 43 = .ok (.isub, 1) := by decide +kernel
theorem dX9_runs_44 : decode cX9_runs 44 = .ok (.if_icmp .gt 7, 3) := by decide +kernel
theorem dX9_runs_47 : decode cX9_runs 47 = .ok (.iconst 1, 1) := by decide +kernel
theorem dX9_runs_48 : decode cX9_runs 48 = .ok (.goto 4, 3) := by decide +kernel
theorem dX9_runs_51 : decode cX9_runs 51 = .ok (.iconst 0, 1) := by decide +kernel
theorem dX9_runs_52 : decode cX9_runs 52 = .ok (.ireturn, 1) := by decide +kernel
theorem dX9_liftsNow_0 : decode cX9_liftsNow 0 = .ok (.aload_n 0, 1) := by decide +kernel
theorem dX9_liftsNow_1 : decode cX9_liftsNow 1 = .ok (.getfield 16, 3) := by decide +kernel
theorem dX9_liftsNow_4 : decode cX9_liftsNow 4 = .ok (.iconst 1, 1) := by decide +kernel
theorem dX9_liftsNow_5 : decode cX9_liftsNow 5 = .ok (.iaload, 1) := by decide +kernel
theorem dX9_liftsNow_6 : decode cX9_liftsNow 6 = .ok (.aload_n 0, 1) := by decide +kernel
theorem dX9_liftsNow_7 : decode cX9_liftsNow 7 = .ok (.iconst 0, 1) := by decide +kernel
theorem dX9_liftsNow_8 : decode cX9_liftsNow 8 = .ok (.aload_n 0, 1) := by decide +kernel
theorem dX9_liftsNow_9 : decode cX9_liftsNow 9 = .ok (.invokevirtual 97, 3) := by decide +kernel
theorem dX9_liftsNow_12 : decode cX9_liftsNow 12 = .ok (.invokevirtual 163, 3) := by decide +kernel
theorem dX9_liftsNow_15 : decode cX9_liftsNow 15 = .ok (.isub, 1) := by decide +kernel
theorem dX9_liftsNow_16 : decode cX9_liftsNow 16 = .ok (.istore_n 1, 1) := by decide +kernel
theorem dX9_liftsNow_17 : decode cX9_liftsNow 17 = .ok (.iload_n 1, 1) := by decide +kernel
theorem dX9_liftsNow_18 : decode cX9_liftsNow 18 = .ok (.ifCond .ge 7, 3) := by decide +kernel
theorem dX9_liftsNow_21 : decode cX9_liftsNow 21 = .ok (.iconst 0, 1) := by decide +kernel
theorem dX9_liftsNow_22 : decode cX9_liftsNow 22 = .ok (.goto 4, 3) := by decide +kernel
theorem dX9_liftsNow_25 : decode cX9_liftsNow 25 = .ok (.iload_n 1, 1) := by decide +kernel
theorem dX9_liftsNow_26 : decode cX9_liftsNow 26 = .ok (.ireturn, 1) := by decide +kernel
theorem dX9_lifts_0 : decode cX9_lifts 0 = .ok (.aload_n 0, 1) := by decide +kernel
theorem dX9_lifts_1 : decode cX9_lifts 1 = .ok (.invokevirtual 166, 3) := by decide +kernel
theorem dX9_lifts_4 : decode cX9_lifts 4 = .ok (.ireturn, 1) := by decide +kernel
theorem dX9_longestOf_0 : decode cX9_longestOf 0 = .ok (.aload_n 0, 1) := by decide +kernel
theorem dX9_longestOf_1 : decode cX9_longestOf 1 = .ok (.invokevirtual 97, 3) := by decide +kernel
theorem dX9_longestOf_4 : decode cX9_longestOf 4 = .ok (.istore_n 3, 1) := by decide +kernel
theorem dX9_longestOf_5 : decode cX9_longestOf 5 = .ok (.iconst (-1), 1) := by decide +kernel
theorem dX9_longestOf_6 : decode cX9_longestOf 6 = .ok (.istore 4, 2) := by decide +kernel
theorem dX9_longestOf_8 : decode cX9_longestOf 8 = .ok (.iconst 0, 1) := by decide +kernel
theorem dX9_longestOf_9 : decode cX9_longestOf 9 = .ok (.istore 5, 2) := by decide +kernel
theorem dX9_longestOf_11 : decode cX9_longestOf 11 = .ok (.iconst 0, 1) := by decide +kernel
theorem dX9_longestOf_12 : decode cX9_longestOf 12 = .ok (.istore 6, 2) := by decide +kernel
theorem dX9_longestOf_14 : decode cX9_longestOf 14 = .ok (.iload 6, 2) := by decide +kernel
theorem dX9_longestOf_16 : decode cX9_longestOf 16 = .ok (.iload_n 3, 1) := by decide +kernel
theorem dX9_longestOf_17 : decode cX9_longestOf 17 = .ok (.if_icmp .gt 96, 3) := by decide +kernel
theorem dX9_longestOf_20 : decode cX9_longestOf 20 = .ok (.iload 6, 2) := by decide +kernel
theorem dX9_longestOf_22 : decode cX9_longestOf 22 = .ok (.istore 7, 2) := by decide +kernel
theorem dX9_longestOf_24 : decode cX9_longestOf 24 = .ok (.iload 7, 2) := by decide +kernel
theorem dX9_longestOf_26 : decode cX9_longestOf 26 = .ok (.iload_n 3, 1) := by decide +kernel
theorem dX9_longestOf_27 : decode cX9_longestOf 27 = .ok (.if_icmp .gt 80, 3) := by decide +kernel
theorem dX9_longestOf_30 : decode cX9_longestOf 30 = .ok (.aload_n 0, 1) := by decide +kernel
theorem dX9_longestOf_31 : decode cX9_longestOf 31 = .ok (.iload 6, 2) := by decide +kernel
theorem dX9_longestOf_33 : decode cX9_longestOf 33 = .ok (.iload 7, 2) := by decide +kernel
theorem dX9_longestOf_35 : decode cX9_longestOf 35 = .ok (.invokevirtual 163, 3) := by decide +kernel
theorem dX9_longestOf_38 : decode cX9_longestOf 38 = .ok (.aload_n 0, 1) := by decide +kernel
theorem dX9_longestOf_39 : decode cX9_longestOf 39 = .ok (.getfield 16, 3) := by decide +kernel
theorem dX9_longestOf_42 : decode cX9_longestOf 42 = .ok (.iconst 1, 1) := by decide +kernel
theorem dX9_longestOf_43 : decode cX9_longestOf 43 = .ok (.iaload, 1) := by decide +kernel
theorem dX9_longestOf_44 : decode cX9_longestOf 44 = .ok (.iload_n 1, 1) := by decide +kernel
theorem dX9_longestOf_45 : decode cX9_longestOf 45 = .ok (.isub, 1) := by decide +kernel
theorem dX9_longestOf_46 : decode cX9_longestOf 46 = .ok (.if_icmp .gt 19, 3) := by decide +kernel
theorem dX9_longestOf_49 : decode cX9_longestOf 49 = .ok (.iload 7, 2) := by decide +kernel
theorem dX9_longestOf_51 : decode cX9_longestOf 51 = .ok (.iload 6, 2) := by decide +kernel
theorem dX9_longestOf_53 : decode cX9_longestOf 53 = .ok (.isub, 1) := by decide +kernel
theorem dX9_longestOf_54 : decode cX9_longestOf 54 = .ok (.iconst 1, 1) := by decide +kernel
theorem dX9_longestOf_55 : decode cX9_longestOf 55 = .ok (.iadd, 1) := by decide +kernel
theorem dX9_longestOf_56 : decode cX9_longestOf 56 = .ok (.iload 5, 2) := by decide +kernel
theorem dX9_longestOf_58 : decode cX9_longestOf 58 = .ok (.if_icmp .le 7, 3) := by decide +kernel
theorem dX9_longestOf_61 : decode cX9_longestOf 61 = .ok (.iconst 1, 1) := by decide +kernel
theorem dX9_longestOf_62 : decode cX9_longestOf 62 = .ok (.goto 4, 3) := by decide +kernel
theorem dX9_longestOf_65 : decode cX9_longestOf 65 = .ok (.iconst 0, 1) := by decide +kernel
theorem dX9_longestOf_66 : decode cX9_longestOf 66 = .ok (.istore 8, 2) := by decide +kernel
theorem dX9_longestOf_68 : decode cX9_longestOf 68 = .ok (.iload 8, 2) := by decide +kernel
theorem dX9_longestOf_70 : decode cX9_longestOf 70 = .ok (.ifCond .eq 8, 3) := by decide +kernel
theorem dX9_longestOf_73 : decode cX9_longestOf 73 = .ok (.iload 6, 2) := by decide +kernel
theorem dX9_longestOf_75 : decode cX9_longestOf 75 = .ok (.goto 5, 3) := by decide +kernel
theorem dX9_longestOf_78 : decode cX9_longestOf 78 = .ok (.iload 4, 2) := by decide +kernel
theorem dX9_longestOf_80 : decode cX9_longestOf 80 = .ok (.istore 4, 2) := by decide +kernel
theorem dX9_longestOf_82 : decode cX9_longestOf 82 = .ok (.iload 8, 2) := by decide +kernel
theorem dX9_longestOf_84 : decode cX9_longestOf 84 = .ok (.ifCond .eq 13, 3) := by decide +kernel
theorem dX9_longestOf_87 : decode cX9_longestOf 87 = .ok (.iload 7, 2) := by decide +kernel
theorem dX9_longestOf_89 : decode cX9_longestOf 89 = .ok (.iload 6, 2) := by decide +kernel
theorem dX9_longestOf_91 : decode cX9_longestOf 91 = .ok (.isub, 1) := by decide +kernel
theorem dX9_longestOf_92 : decode cX9_longestOf 92 = .ok (.iconst 1, 1) := by decide +kernel
theorem dX9_longestOf_93 : decode cX9_longestOf 93 = .ok (.iadd, 1) := by decide +kernel
theorem dX9_longestOf_94 : decode cX9_longestOf 94 = .ok (.goto 5, 3) := by decide +kernel
theorem dX9_longestOf_97 : decode cX9_longestOf 97 = .ok (.iload 5, 2) := by decide +kernel
theorem dX9_longestOf_99 : decode cX9_longestOf 99 = .ok (.istore 5, 2) := by decide +kernel
theorem dX9_longestOf_101 : decode cX9_longestOf 101 = .ok (.iinc 7 1, 3) := by decide +kernel
theorem dX9_longestOf_104 : decode cX9_longestOf 104 = .ok (.goto (-80), 3) := by decide +kernel
theorem dX9_longestOf_107 : decode cX9_longestOf 107 = .ok (.iinc 6 1, 3) := by decide +kernel
theorem dX9_longestOf_110 : decode cX9_longestOf 110 = .ok (.goto (-96), 3) := by decide +kernel
theorem dX9_longestOf_113 : decode cX9_longestOf 113 = .ok (.iload_n 2, 1) := by decide +kernel
theorem dX9_longestOf_114 : decode cX9_longestOf 114 = .ok (.ifCond .ne 8, 3) := by decide +kernel
theorem dX9_longestOf_117 : decode cX9_longestOf 117 = .ok (.iload 5, 2) := by decide +kernel
theorem dX9_longestOf_119 : decode cX9_longestOf 119 = .ok (.goto 5, 3) := by decide +kernel
theorem dX9_longestOf_122 : decode cX9_longestOf 122 = .ok (.iload 4, 2) := by decide +kernel
theorem dX9_longestOf_124 : decode cX9_longestOf 124 = .ok (.ireturn, 1) := by decide +kernel
theorem dX9_longest_0 : decode cX9_longest 0 = .ok (.iload_n 1, 1) := by decide +kernel
theorem dX9_longest_1 : decode cX9_longest 1 = .ok (.iconst 1, 1) := by decide +kernel
theorem dX9_longest_2 : decode cX9_longest 2 = .ok (.sipush 999, 3) := by decide +kernel
theorem dX9_longest_5 : decode cX9_longest 5 = .ok (.invokestatic 68, 3) := by decide +kernel
theorem dX9_longest_8 : decode cX9_longest 8 = .ok (.ifCond .eq 21, 3) := by decide +kernel
theorem dX9_longest_11 : decode cX9_longest 11 = .ok (.iload_n 2, 1) := by decide +kernel
theorem dX9_longest_12 : decode cX9_longest 12 = .ok (.iconst 0, 1) := by decide +kernel
theorem dX9_longest_13 : decode cX9_longest 13 = .ok (.iconst 1, 1) := by decide +kernel
theorem dX9_longest_14 : decode cX9_longest 14 = .ok (.invokestatic 68, 3) := by decide +kernel
theorem dX9_longest_17 : decode cX9_longest 17 = .ok (.ifCond .eq 12, 3) := by decide +kernel
theorem dX9_longest_20 : decode cX9_longest 20 = .ok (.aload_n 0, 1) := by decide +kernel
theorem dX9_longest_21 : decode cX9_longest 21 = .ok (.iload_n 1, 1) := by decide +kernel
theorem dX9_longest_22 : decode cX9_longest 22 = .ok (.iload_n 2, 1) := by decide +kernel
theorem dX9_longest_23 : decode cX9_longest 23 = .ok (.invokevirtual 169, 3) := by decide +kernel
theorem dX9_longest_26 : decode cX9_longest 26 = .ok (.goto 5, 3) := by decide +kernel
theorem dX9_longest_29 : decode cX9_longest 29 = .ok (.bipush (-2), 2) := by decide +kernel
theorem dX9_longest_31 : decode cX9_longest 31 = .ok (.ireturn, 1) := by decide +kernel
theorem dX9_mends_0 : decode cX9_mends 0 = .ok (.aload_n 0, 1) := by decide +kernel
theorem dX9_mends_1 : decode cX9_mends 1 = .ok (.invokevirtual 97, 3) := by decide +kernel
theorem dX9_mends_4 : decode cX9_mends 4 = .ok (.istore_n 2, 1) := by decide +kernel
theorem dX9_mends_5 : decode cX9_mends 5 = .ok (.iconst 0, 1) := by decide +kernel
theorem dX9_mends_6 : decode cX9_mends 6 = .ok (.istore_n 3, 1) := by decide +kernel
theorem dX9_mends_7 : decode cX9_mends 7 = .ok (.iload_n 3, 1) := by decide +kernel
theorem dX9_mends_8 : decode cX9_mends 8 = .ok (.bipush 10, 2) := by decide +kernel
theorem dX9_mends_10 : decode cX9_mends 10 = .ok (.if_icmp .ge 16, 3) := by decide +kernel
theorem dX9_mends_13 : decode cX9_mends 13 = .ok (.aload_n 0, 1) := by decide +kernel
theorem dX9_mends_14 : decode cX9_mends 14 = .ok (.getfield 47, 3) := by decide +kernel
theorem dX9_mends_17 : decode cX9_mends 17 = .ok (.iload_n 3, 1) := by decide +kernel
theorem dX9_mends_18 : decode cX9_mends 18 = .ok (.iconst 0, 1) := by decide +kernel
theorem dX9_mends_19 : decode cX9_mends 19 = .ok (.iastore, 1) := by decide +kernel
theorem dX9_mends_20 : decode cX9_mends 20 = .ok (.iinc 3 1, 3) := by decide +kernel
theorem dX9_mends_23 : decode cX9_mends 23 = .ok (.goto (-16), 3) := by decide +kernel
theorem dX9_mends_26 : decode cX9_mends 26 = .ok (.iconst 0, 1) := by decide +kernel
theorem dX9_mends_27 : decode cX9_mends 27 = .ok (.istore_n 3, 1) := by decide +kernel
theorem dX9_mends_28 : decode cX9_mends 28 = .ok (.iconst 0, 1) := by decide +kernel
theorem dX9_mends_29 : decode cX9_mends 29 = .ok (.istore 4, 2) := by decide +kernel
theorem dX9_mends_31 : decode cX9_mends 31 = .ok (.iconst 0, 1) := by decide +kernel
theorem dX9_mends_32 : decode cX9_mends 32 = .ok (.istore 5, 2) := by decide +kernel
theorem dX9_mends_34 : decode cX9_mends 34 = .ok (.iconst 1, 1) := by decide +kernel
theorem dX9_mends_35 : decode cX9_mends 35 = .ok (.istore 6, 2) := by decide +kernel
theorem dX9_mends_37 : decode cX9_mends 37 = .ok (.iload 6, 2) := by decide +kernel
theorem dX9_mends_39 : decode cX9_mends 39 = .ok (.iload_n 2, 1) := by decide +kernel
theorem dX9_mends_40 : decode cX9_mends 40 = .ok (.if_icmp .gt 229, 3) := by decide +kernel
theorem dX9_mends_43 : decode cX9_mends 43 = .ok (.iload_n 1, 1) := by decide +kernel
theorem dX9_mends_44 : decode cX9_mends 44 = .ok (.iload 6, 2) := by decide +kernel
theorem dX9_mends_46 : decode cX9_mends 46 = .ok (.iconst 1, 1) := by decide +kernel
theorem dX9_mends_47 : decode cX9_mends 47 = .ok (.isub, 1) := by decide +kernel
theorem dX9_mends_48 : decode cX9_mends 48 = .ok (.ishr, 1) := by decide +kernel
theorem dX9_mends_49 : decode cX9_mends 49 = .ok (.iconst 1, 1) := by decide +kernel
theorem dX9_mends_50 : decode cX9_mends 50 = .ok (.iand, 1) := by decide +kernel
theorem dX9_mends_51 : decode cX9_mends 51 = .ok (.iconst 1, 1) := by decide +kernel
theorem dX9_mends_52 : decode cX9_mends 52 = .ok (.if_icmp .ne 211, 3) := by decide +kernel
theorem dX9_mends_55 : decode cX9_mends 55 = .ok (.aload_n 0, 1) := by decide +kernel
theorem dX9_mends_56 : decode cX9_mends 56 = .ok (.iload 6, 2) := by decide +kernel
theorem dX9_mends_58 : decode cX9_mends 58 = .ok (.iconst 2, 1) := by decide +kernel
theorem dX9_mends_59 : decode cX9_mends 59 = .ok (.invokevirtual 112, 3) := by decide +kernel
theorem dX9_mends_62 : decode cX9_mends 62 = .ok (.ineg, 1) := by decide +kernel
theorem dX9_mends_63 : decode cX9_mends 63 = .ok (.iload 5, 2) := by decide +kernel
theorem dX9_mends_65 : decode cX9_mends 65 = .ok (.isub, 1) := by decide +kernel
theorem dX9_mends_66 : decode cX9_mends 66 = .ok (.istore 7, 2) := by decide +kernel
theorem dX9_mends_68 : decode cX9_mends 68 = .ok (.aload_n 0, 1) := by decide +kernel
theorem dX9_mends_69 : decode cX9_mends 69 = .ok (.getfield 16, 3) := by decide +kernel
theorem dX9_mends_72 : decode cX9_mends 72 = .ok (.iconst 2, 1) := by decide +kernel
theorem dX9_mends_73 : decode cX9_mends 73 = .ok (.iaload, 1) := by decide +kernel
theorem dX9_mends_74 : decode cX9_mends 74 = .ok (.aload_n 0, 1) := by decide +kernel
theorem dX9_mends_75 : decode cX9_mends 75 = .ok (.getfield 16, 3) := by decide +kernel
theorem dX9_mends_78 : decode cX9_mends 78 = .ok (.iconst 3, 1) := by decide +kernel
theorem dX9_mends_79 : decode cX9_mends 79 = .ok (.iaload, 1) := by decide +kernel
theorem dX9_mends_80 : decode cX9_mends 80 = .ok (.iadd, 1) := by decide +kernel
theorem dX9_mends_81 : decode cX9_mends 81 = .ok (.ifCond .ne 7, 3) := by decide +kernel
theorem dX9_mends_84 : decode cX9_mends 84 = .ok (.iconst 1, 1) := by decide +kernel
theorem dX9_mends_85 : decode cX9_mends 85 = .ok (.goto 4, 3) := by decide +kernel
theorem dX9_mends_88 : decode cX9_mends 88 = .ok (.iconst 0, 1) := by decide +kernel
theorem dX9_mends_89 : decode cX9_mends 89 = .ok (.istore 8, 2) := by decide +kernel
theorem dX9_mends_91 : decode cX9_mends 91 = .ok (.iload 8, 2) := by decide +kernel
theorem dX9_mends_93 : decode cX9_mends 93 = .ok (.ifCond .ne 8, 3) := by decide +kernel
theorem dX9_mends_96 : decode cX9_mends 96 = .ok (.iload 7, 2) := by decide +kernel
theorem dX9_mends_98 : decode cX9_mends 98 = .ok (.ifCond .ge 8, 3) := by decide +kernel
theorem dX9_mends_101 : decode cX9_mends 101 = .ok (.bipush (-99), 2) := by decide +kernel
theorem dX9_mends_103 : decode cX9_mends 103 = .ok (.goto 4, 3) := by decide +kernel
theorem dX9_mends_106 : decode cX9_mends 106 = .ok (.iconst 0, 1) := by decide +kernel
theorem dX9_mends_107 : decode cX9_mends 107 = .ok (.istore 9, 2) := by decide +kernel
theorem dX9_mends_109 : decode cX9_mends 109 = .ok (.iload 8, 2) := by decide +kernel
theorem dX9_mends_111 : decode cX9_mends 111 = .ok (.ifCond .ne 8, 3) := by decide +kernel
theorem dX9_mends_114 : decode cX9_mends 114 = .ok (.iload 7, 2) := by decide +kernel
theorem dX9_mends_116 : decode cX9_mends 116 = .ok (.ifCond .lt 8, 3) := by decide +kernel
theorem dX9_mends_119 : decode cX9_mends 119 = .ok (.bipush 99, 2) := by decide +kernel
theorem dX9_mends_121 : decode cX9_mends 121 = .ok (.goto 4, 3) := by decide +kernel
theorem dX9_mends_124 : decode cX9_mends 124 = .ok (.iconst 0, 1) := by decide +kernel
theorem dX9_mends_125 : decode cX9_mends 125 = .ok (.istore 10, 2) := by decide +kernel
theorem dX9_mends_127 : decode cX9_mends 127 = .ok (.iload 7, 2) := by decide +kernel
theorem dX9_mends_129 : decode cX9_mends 129 = .ok (.iload 9, 2) := by decide +kernel
theorem dX9_mends_131 : decode cX9_mends 131 = .ok (.iload 6, 2) := by decide +kernel
theorem dX9_mends_133 : decode cX9_mends 133 = .ok (.iload 4, 2) := by decide +kernel
theorem dX9_mends_135 : decode cX9_mends 135 = .ok (.isub, 1) := by decide +kernel
theorem dX9_mends_136 : decode cX9_mends 136 = .ok (.imul, 1) := by decide +kernel
theorem dX9_mends_137 : decode cX9_mends 137 = .ok (.iload 10, 2) := by decide +kernel
theorem dX9_mends_139 : decode cX9_mends 139 = .ok (.iload 6, 2) := by decide +kernel
theorem dX9_mends_141 : decode cX9_mends 141 = .ok (.iload 4, 2) := by decide +kernel
theorem dX9_mends_143 : decode cX9_mends 143 = .ok (.isub, 1) := by decide +kernel
theorem dX9_mends_144 : decode cX9_mends 144 = .ok (.imul, 1) := by decide +kernel
theorem dX9_mends_145 : decode cX9_mends 145 = .ok (.invokestatic 68, 3) := by decide +kernel
theorem dX9_mends_148 : decode cX9_mends 148 = .ok (.ifCond .ne 5, 3) := by decide +kernel
theorem dX9_mends_151 : decode cX9_mends 151 = .ok (.iconst (-1), 1) := by decide +kernel
theorem dX9_mends_152 : decode cX9_mends 152 = .ok (.ireturn, 1) := by decide +kernel
theorem dX9_mends_153 : decode cX9_mends 153 = .ok (.iload 7, 2) := by decide +kernel
theorem dX9_mends_155 : decode cX9_mends 155 = .ok (.istore 11, 2) := by decide +kernel
theorem dX9_mends_157 : decode cX9_mends 157 = .ok (.iload 4, 2) := by decide +kernel
theorem dX9_mends_159 : decode cX9_mends 159 = .ok (.istore 12, 2) := by decide +kernel
theorem dX9_mends_161 : decode cX9_mends 161 = .ok (.iload 12, 2) := by decide +kernel
theorem dX9_mends_163 : decode cX9_mends 163 = .ok (.iload 6, 2) := by decide +kernel
theorem dX9_mends_165 : decode cX9_mends 165 = .ok (.if_icmp .ge 57, 3) := by decide +kernel
theorem dX9_mends_168 : decode cX9_mends 168 = .ok (.iload 11, 2) := by decide +kernel
theorem dX9_mends_170 : decode cX9_mends 170 = .ok (.iload 10, 2) := by decide +kernel
theorem dX9_mends_172 : decode cX9_mends 172 = .ok (.iload 6, 2) := by decide +kernel
theorem dX9_mends_174 : decode cX9_mends 174 = .ok (.iload 12, 2) := by decide +kernel
theorem dX9_mends_176 : decode cX9_mends 176 = .ok (.isub, 1) := by decide +kernel
theorem dX9_mends_177 : decode cX9_mends 177 = .ok (.iconst 1, 1) := by decide +kernel
theorem dX9_mends_178 : decode cX9_mends 178 = .ok (.isub, 1) := by decide +kernel
theorem dX9_mends_179 : decode cX9_mends 179 = .ok (.imul, 1) := by decide +kernel
theorem dX9_mends_180 : decode cX9_mends 180 = .ok (.isub, 1) := by decide +kernel
theorem dX9_mends_181 : decode cX9_mends 181 = .ok (.istore 13, 2) := by decide +kernel
theorem dX9_mends_183 : decode cX9_mends 183 = .ok (.aload_n 0, 1) := by decide +kernel
theorem dX9_mends_184 : decode cX9_mends 184 = .ok (.getfield 47, 3) := by decide +kernel
theorem dX9_mends_187 : decode cX9_mends 187 = .ok (.iload 12, 2) := by decide +kernel
theorem dX9_mends_189 : decode cX9_mends 189 = .ok (.iload 13, 2) := by decide +kernel
theorem dX9_mends_191 : decode cX9_mends 191 = .ok (.iload 9, 2) := by decide +kernel
theorem dX9_mends_193 : decode cX9_mends 193 = .ok (.if_icmp .ge 8, 3) := by decide +kernel
theorem dX9_mends_196 : decode cX9_mends 196 = .ok (.iload 9, 2) := by decide +kernel
theorem dX9_mends_198 : decode cX9_mends 198 = .ok (.goto 5, 3) := by decide +kernel
theorem dX9_mends_201 : decode cX9_mends 201 = .ok (.iload 13, 2) := by decide +kernel
theorem dX9_mends_203 : decode cX9_mends 203 = .ok (.iastore, 1) := by decide +kernel
theorem dX9_mends_204 : decode cX9_mends 204 = .ok (.iload 11, 2) := by decide +kernel
theorem dX9_mends_206 : decode cX9_mends 206 = .ok (.aload_n 0, 1) := by decide +kernel
theorem dX9_mends_207 : decode cX9_mends 207 = .ok (.getfield 47, 3) := by decide +kernel
theorem dX9_mends_210 : decode cX9_mends 210 = .ok (.iload 12, 2) := by decide +kernel
theorem dX9_mends_212 : decode cX9_mends 212 = .ok (.iaload, 1) := by decide +kernel
theorem dX9_mends_213 : decode cX9_mends 213 = .ok (.isub, 1) := by decide +kernel
theorem dX9_mends_214 : decode cX9_mends 214 = .ok (.istore 11, 2) := by decide +kernel
theorem dX9_mends_216 : decode cX9_mends 216 = .ok (.iinc 12 1, 3) := by decide +kernel
theorem dX9_mends_219 : decode cX9_mends 219 = .ok (.goto (-58), 3) := by decide +kernel
theorem dX9_mends_222 : decode cX9_mends 222 = .ok (.iload_n 3, 1) := by decide +kernel
theorem dX9_mends_223 : decode cX9_mends 223 = .ok (.iload 7, 2) := by decide +kernel
theorem dX9_mends_225 : decode cX9_mends 225 = .ok (.ifCond .ge 16, 3) := by decide +kernel
theorem dX9_mends_228 : decode cX9_mends 228 = .ok (.iload 7, 2) := by decide +kernel
theorem dX9_mends_230 : decode cX9_mends 230 = .ok (.ineg, 1) := by decide +kernel
theorem dX9_mends_231 : decode cX9_mends 231 = .ok (.aload_n 0, 1) := by decide +kernel
theorem dX9_mends_232 : decode cX9_mends 232 = .ok (.getfield 16, 3) := by decide +kernel
theorem dX9_mends_235 : decode cX9_mends 235 = .ok (.iconst 3, 1) := by decide +kernel
theorem dX9_mends_236 : decode cX9_mends 236 = .ok (.iaload, 1) := by decide +kernel
theorem dX9_mends_237 : decode cX9_mends 237 = .ok (.imul, 1) := by decide +kernel
theorem dX9_mends_238 : decode cX9_mends 238 = .ok (.goto 12, 3) := by decide +kernel
theorem dX9_mends_241 : decode cX9_mends 241 = .ok (.iload 7, 2) := by decide +kernel
theorem dX9_mends_243 : decode cX9_mends 243 = .ok (.aload_n 0, 1) := by decide +kernel
theorem dX9_mends_244 : decode cX9_mends 244 = .ok (.getfield 16, 3) := by decide +kernel
theorem dX9_mends_247 : decode cX9_mends 247 = .ok (.iconst 2, 1) := by decide +kernel
theorem dX9_mends_248 : decode cX9_mends 248 = .ok (.iaload, 1) := by decide +kernel
theorem dX9_mends_249 : decode cX9_mends 249 = .ok (.imul, 1) := by decide +kernel
theorem dX9_mends_250 : decode cX9_mends 250 = .ok (.iadd, 1) := by decide +kernel
theorem dX9_mends_251 : decode cX9_mends 251 = .ok (.istore_n 3, 1) := by decide +kernel
theorem dX9_mends_252 : decode cX9_mends 252 = .ok (.iload 5, 2) := by decide +kernel
theorem dX9_mends_254 : decode cX9_mends 254 = .ok (.iload 7, 2) := by decide +kernel
theorem dX9_mends_256 : decode cX9_mends 256 = .ok (.iadd, 1) := by decide +kernel
theorem dX9_mends_257 : decode cX9_mends 257 = .ok (.istore 5, 2) := by decide +kernel
theorem dX9_mends_259 : decode cX9_mends 259 = .ok (.iload 6, 2) := by decide +kernel
theorem dX9_mends_261 : decode cX9_mends 261 = .ok (.istore 4, 2) := by decide +kernel
theorem dX9_mends_263 : decode cX9_mends 263 = .ok (.iinc 6 1, 3) := by decide +kernel
theorem dX9_mends_266 : decode cX9_mends 266 = .ok (.goto (-229), 3) := by decide +kernel
theorem dX9_mends_269 : decode cX9_mends 269 = .ok (.iload_n 3, 1) := by decide +kernel
theorem dX9_mends_270 : decode cX9_mends 270 = .ok (.ireturn, 1) := by decide +kernel
theorem dX9_mended_0 : decode cX9_mended 0 = .ok (.iload_n 1, 1) := by decide +kernel
theorem dX9_mended_1 : decode cX9_mended 1 = .ok (.iconst 0, 1) := by decide +kernel
theorem dX9_mended_2 : decode cX9_mended 2 = .ok (.sipush 1023, 3) := by decide +kernel
theorem dX9_mended_5 : decode cX9_mended 5 = .ok (.invokestatic 68, 3) := by decide +kernel
theorem dX9_mended_8 : decode cX9_mended 8 = .ok (.ifCond .eq 16, 3) := by decide +kernel
theorem dX9_mended_11 : decode cX9_mended 11 = .ok (.iload_n 2, 1) := by decide +kernel
theorem dX9_mended_12 : decode cX9_mended 12 = .ok (.iconst (-1), 1) := by decide +kernel
theorem dX9_mended_13 : decode cX9_mended 13 = .ok (.if_icmp .eq 14, 3) := by decide +kernel
theorem dX9_mended_16 : decode cX9_mended 16 = .ok (.aload_n 0, 1) := by decide +kernel
theorem dX9_mended_17 : decode cX9_mended 17 = .ok (.iload_n 2, 1) := by decide +kernel
theorem dX9_mended_18 : decode cX9_mended 18 = .ok (.invokevirtual 103, 3) := by decide +kernel
theorem dX9_mended_21 : decode cX9_mended 21 = .ok (.ifCond .ne 6, 3) := by decide +kernel
theorem dX9_mended_24 : decode cX9_mended 24 = .ok (.ldc 110, 2) := by decide +kernel
theorem dX9_mended_26 : decode cX9_mended 26 = .ok (.ireturn, 1) := by decide +kernel
theorem dX9_mended_27 : decode cX9_mended 27 = .ok (.aload_n 0, 1) := by decide +kernel
theorem dX9_mended_28 : decode cX9_mended 28 = .ok (.iload_n 1, 1) := by decide +kernel
theorem dX9_mended_29 : decode cX9_mended 29 = .ok (.invokevirtual 172, 3) := by decide +kernel
theorem dX9_mended_32 : decode cX9_mended 32 = .ok (.istore_n 3, 1) := by decide +kernel
theorem dX9_mended_33 : decode cX9_mended 33 = .ok (.iload_n 2, 1) := by decide +kernel
theorem dX9_mended_34 : decode cX9_mended 34 = .ok (.iconst (-1), 1) := by decide +kernel
theorem dX9_mended_35 : decode cX9_mended 35 = .ok (.if_icmp .ne 7, 3) := by decide +kernel
theorem dX9_mended_38 : decode cX9_mended 38 = .ok (.iload_n 3, 1) := by decide +kernel
theorem dX9_mended_39 : decode cX9_mended 39 = .ok (.goto 19, 3) := by decide +kernel
theorem dX9_mended_42 : decode cX9_mended 42 = .ok (.iload_n 3, 1) := by decide +kernel
theorem dX9_mended_43 : decode cX9_mended 43 = .ok (.iconst (-1), 1) := by decide +kernel
theorem dX9_mended_44 : decode cX9_mended 44 = .ok (.if_icmp .ne 8, 3) := by decide +kernel
theorem dX9_mended_47 : decode cX9_mended 47 = .ok (.ldc 175, 2) := by decide +kernel
theorem dX9_mended_49 : decode cX9_mended 49 = .ok (.goto 9, 3) := by decide +kernel
theorem dX9_mended_52 : decode cX9_mended 52 = .ok (.aload_n 0, 1) := by decide +kernel
theorem dX9_mended_53 : decode cX9_mended 53 = .ok (.getfield 47, 3) := by decide +kernel
theorem dX9_mended_56 : decode cX9_mended 56 = .ok (.iload_n 2, 1) := by decide +kernel
theorem dX9_mended_57 : decode cX9_mended 57 = .ok (.iaload, 1) := by decide +kernel
theorem dX9_mended_58 : decode cX9_mended 58 = .ok (.ireturn, 1) := by decide +kernel
theorem dX9_nextOf_0 : decode cX9_nextOf 0 = .ok (.aload_n 0, 1) := by decide +kernel
theorem dX9_nextOf_1 : decode cX9_nextOf 1 = .ok (.aload_n 0, 1) := by decide +kernel
theorem dX9_nextOf_2 : decode cX9_nextOf 2 = .ok (.invokevirtual 97, 3) := by decide +kernel
theorem dX9_nextOf_5 : decode cX9_nextOf 5 = .ok (.iconst 2, 1) := by decide +kernel
theorem dX9_nextOf_6 : decode cX9_nextOf 6 = .ok (.invokevirtual 112, 3) := by decide +kernel
theorem dX9_nextOf_9 : decode cX9_nextOf 9 = .ok (.istore_n 3, 1) := by decide +kernel
theorem dX9_nextOf_10 : decode cX9_nextOf 10 = .ok (.iconst 0, 1) := by decide +kernel
theorem dX9_nextOf_11 : decode cX9_nextOf 11 = .ok (.istore 4, 2) := by decide +kernel
theorem dX9_nextOf_13 : decode cX9_nextOf 13 = .ok (.iload_n 3, 1) := by decide +kernel
theorem dX9_nextOf_14 : decode cX9_nextOf 14 = .ok (.aload_n 0, 1) := by decide +kernel
theorem dX9_nextOf_15 : decode cX9_nextOf 15 = .ok (.iload_n 1, 1) := by decide +kernel
theorem dX9_nextOf_16 : decode cX9_nextOf 16 = .ok (.iconst 0, 1) := by decide +kernel
theorem dX9_nextOf_17 : decode cX9_nextOf 17 = .ok (.invokevirtual 93, 3) := by decide +kernel
theorem dX9_nextOf_20 : decode cX9_nextOf 20 = .ok (.iadd, 1) := by decide +kernel
theorem dX9_nextOf_21 : decode cX9_nextOf 21 = .ok (.iload_n 1, 1) := by decide +kernel
theorem dX9_nextOf_22 : decode cX9_nextOf 22 = .ok (.isub, 1) := by decide +kernel
theorem dX9_nextOf_23 : decode cX9_nextOf 23 = .ok (.invokestatic 115, 3) := by decide +kernel
theorem dX9_nextOf_26 : decode cX9_nextOf 26 = .ok (.istore 5, 2) := by decide +kernel
theorem dX9_nextOf_28 : decode cX9_nextOf 28 = .ok (.iconst 1, 1) := by decide +kernel
theorem dX9_nextOf_29 : decode cX9_nextOf 29 = .ok (.istore 6, 2) := by decide +kernel
theorem dX9_nextOf_31 : decode cX9_nextOf 31 = .ok (.iload 6, 2) := by decide +kernel
theorem dX9_nextOf_33 : decode cX9_nextOf 33 = .ok (.bipush 9, 2) := by decide +kernel
theorem dX9_nextOf_35 : decode cX9_nextOf 35 = .ok (.if_icmp .ge 57, 3) := by decide +kernel
theorem dX9_nextOf_38 : decode cX9_nextOf 38 = .ok (.iload_n 3, 1) := by decide +kernel
theorem dX9_nextOf_39 : decode cX9_nextOf 39 = .ok (.aload_n 0, 1) := by decide +kernel
theorem dX9_nextOf_40 : decode cX9_nextOf 40 = .ok (.iload_n 1, 1) := by decide +kernel
theorem dX9_nextOf_41 : decode cX9_nextOf 41 = .ok (.iload 6, 2) := by decide +kernel
theorem dX9_nextOf_43 : decode cX9_nextOf 43 = .ok (.invokevirtual 93, 3) := by decide +kernel
theorem dX9_nextOf_46 : decode cX9_nextOf 46 = .ok (.iadd, 1) := by decide +kernel
theorem dX9_nextOf_47 : decode cX9_nextOf 47 = .ok (.iload_n 1, 1) := by decide +kernel
theorem dX9_nextOf_48 : decode cX9_nextOf 48 = .ok (.isub, 1) := by decide +kernel
theorem dX9_nextOf_49 : decode cX9_nextOf 49 = .ok (.invokestatic 115, 3) := by decide +kernel
theorem dX9_nextOf_52 : decode cX9_nextOf 52 = .ok (.istore 7, 2) := by decide +kernel
theorem dX9_nextOf_54 : decode cX9_nextOf 54 = .ok (.iload 7, 2) := by decide +kernel
theorem dX9_nextOf_56 : decode cX9_nextOf 56 = .ok (.iload 5, 2) := by decide +kernel
theorem dX9_nextOf_58 : decode cX9_nextOf 58 = .ok (.if_icmp .ge 8, 3) := by decide +kernel
theorem dX9_nextOf_61 : decode cX9_nextOf 61 = .ok (.iload 6, 2) := by decide +kernel
theorem dX9_nextOf_63 : decode cX9_nextOf 63 = .ok (.goto 5, 3) := by decide +kernel
theorem dX9_nextOf_66 : decode cX9_nextOf 66 = .ok (.iload 4, 2) := by decide +kernel
theorem dX9_nextOf_68 : decode cX9_nextOf 68 = .ok (.istore 4, 2) := by decide +kernel
theorem dX9_nextOf_70 : decode cX9_nextOf 70 = .ok (.iload 7, 2) := by decide +kernel
theorem dX9_nextOf_72 : decode cX9_nextOf 72 = .ok (.iload 5, 2) := by decide +kernel
theorem dX9_nextOf_74 : decode cX9_nextOf 74 = .ok (.if_icmp .ge 8, 3) := by decide +kernel
theorem dX9_nextOf_77 : decode cX9_nextOf 77 = .ok (.iload 7, 2) := by decide +kernel
theorem dX9_nextOf_79 : decode cX9_nextOf 79 = .ok (.goto 5, 3) := by decide +kernel
theorem dX9_nextOf_82 : decode cX9_nextOf 82 = .ok (.iload 5, 2) := by decide +kernel
theorem dX9_nextOf_84 : decode cX9_nextOf 84 = .ok (.istore 5, 2) := by decide +kernel
theorem dX9_nextOf_86 : decode cX9_nextOf 86 = .ok (.iinc 6 1, 3) := by decide +kernel
theorem dX9_nextOf_89 : decode cX9_nextOf 89 = .ok (.goto (-58), 3) := by decide +kernel
theorem dX9_nextOf_92 : decode cX9_nextOf 92 = .ok (.iload_n 2, 1) := by decide +kernel
theorem dX9_nextOf_93 : decode cX9_nextOf 93 = .ok (.ifCond .ne 8, 3) := by decide +kernel
theorem dX9_nextOf_96 : decode cX9_nextOf 96 = .ok (.iload 4, 2) := by decide +kernel
theorem dX9_nextOf_98 : decode cX9_nextOf 98 = .ok (.goto 5, 3) := by decide +kernel
theorem dX9_nextOf_101 : decode cX9_nextOf 101 = .ok (.iload 5, 2) := by decide +kernel
theorem dX9_nextOf_103 : decode cX9_nextOf 103 = .ok (.ireturn, 1) := by decide +kernel
theorem dX9_next_0 : decode cX9_next 0 = .ok (.iload_n 1, 1) := by decide +kernel
theorem dX9_next_1 : decode cX9_next 1 = .ok (.iconst 1, 1) := by decide +kernel
theorem dX9_next_2 : decode cX9_next 2 = .ok (.sipush 9999, 3) := by decide +kernel
theorem dX9_next_5 : decode cX9_next 5 = .ok (.invokestatic 68, 3) := by decide +kernel
theorem dX9_next_8 : decode cX9_next 8 = .ok (.ifCond .eq 21, 3) := by decide +kernel
theorem dX9_next_11 : decode cX9_next 11 = .ok (.iload_n 2, 1) := by decide +kernel
theorem dX9_next_12 : decode cX9_next 12 = .ok (.iconst 0, 1) := by decide +kernel
theorem dX9_next_13 : decode cX9_next 13 = .ok (.iconst 1, 1) := by decide +kernel
theorem dX9_next_14 : decode cX9_next 14 = .ok (.invokestatic 68, 3) := by decide +kernel
theorem dX9_next_17 : decode cX9_next 17 = .ok (.ifCond .eq 12, 3) := by decide +kernel
theorem dX9_next_20 : decode cX9_next 20 = .ok (.aload_n 0, 1) := by decide +kernel
theorem dX9_next_21 : decode cX9_next 21 = .ok (.iload_n 1, 1) := by decide +kernel
theorem dX9_next_22 : decode cX9_next 22 = .ok (.iload_n 2, 1) := by decide +kernel
theorem dX9_next_23 : decode cX9_next 23 = .ok (.invokevirtual 176, 3) := by decide +kernel
theorem dX9_next_26 : decode cX9_next 26 = .ok (.goto 5, 3) := by decide +kernel
theorem dX9_next_29 : decode cX9_next 29 = .ok (.bipush (-2), 2) := by decide +kernel
theorem dX9_next_31 : decode cX9_next 31 = .ok (.ireturn, 1) := by decide +kernel
theorem dX9_weigh_0 : decode cX9_weigh 0 = .ok (.iload_n 1, 1) := by decide +kernel
theorem dX9_weigh_1 : decode cX9_weigh 1 = .ok (.iconst 0, 1) := by decide +kernel
theorem dX9_weigh_2 : decode cX9_weigh 2 = .ok (.bipush 9, 2) := by decide +kernel
theorem dX9_weigh_4 : decode cX9_weigh 4 = .ok (.invokestatic 68, 3) := by decide +kernel
theorem dX9_weigh_7 : decode cX9_weigh 7 = .ok (.ifCond .eq 13, 3) := by decide +kernel
theorem dX9_weigh_10 : decode cX9_weigh 10 = .ok (.iload_n 2, 1) := by decide +kernel
theorem dX9_weigh_11 : decode cX9_weigh 11 = .ok (.iconst 0, 1) := by decide +kernel
theorem dX9_weigh_12 : decode cX9_weigh 12 = .ok (.bipush 99, 2) := by decide +kernel
theorem dX9_weigh_14 : decode cX9_weigh 14 = .ok (.invokestatic 68, 3) := by decide +kernel
theorem dX9_weigh_17 : decode cX9_weigh 17 = .ok (.ifCond .ne 6, 3) := by decide +kernel
theorem dX9_weigh_20 : decode cX9_weigh 20 = .ok (.bipush (-2), 2) := by decide +kernel
theorem dX9_weigh_22 : decode cX9_weigh 22 = .ok (.ireturn, 1) := by decide +kernel
theorem dX9_weigh_23 : decode cX9_weigh 23 = .ok (.aload_n 0, 1) := by decide +kernel
theorem dX9_weigh_24 : decode cX9_weigh 24 = .ok (.getfield 37, 3) := by decide +kernel
theorem dX9_weigh_27 : decode cX9_weigh 27 = .ok (.iload_n 1, 1) := by decide +kernel
theorem dX9_weigh_28 : decode cX9_weigh 28 = .ok (.iaload, 1) := by decide +kernel
theorem dX9_weigh_29 : decode cX9_weigh 29 = .ok (.istore_n 3, 1) := by decide +kernel
theorem dX9_weigh_30 : decode cX9_weigh 30 = .ok (.aload_n 0, 1) := by decide +kernel
theorem dX9_weigh_31 : decode cX9_weigh 31 = .ok (.getfield 37, 3) := by decide +kernel
theorem dX9_weigh_34 : decode cX9_weigh 34 = .ok (.iload_n 1, 1) := by decide +kernel
theorem dX9_weigh_35 : decode cX9_weigh 35 = .ok (.iload_n 2, 1) := by decide +kernel
theorem dX9_weigh_36 : decode cX9_weigh 36 = .ok (.iastore, 1) := by decide +kernel
theorem dX9_weigh_37 : decode cX9_weigh 37 = .ok (.iload_n 3, 1) := by decide +kernel
theorem dX9_weigh_38 : decode cX9_weigh 38 = .ok (.ireturn, 1) := by decide +kernel
theorem dX9_bearsOf_0 : decode cX9_bearsOf 0 = .ok (.iload_n 2, 1) := by decide +kernel
theorem dX9_bearsOf_1 : decode cX9_bearsOf 1 = .ok (.iconst 2, 1) := by decide +kernel
theorem dX9_bearsOf_2 : decode cX9_bearsOf 2 = .ok (.iadd, 1) := by decide +kernel
theorem dX9_bearsOf_3 : decode cX9_bearsOf 3 = .ok (.aload_n 0, 1) := by decide +kernel
theorem dX9_bearsOf_4 : decode cX9_bearsOf 4 = .ok (.iload_n 1, 1) := by decide +kernel
theorem dX9_bearsOf_5 : decode cX9_bearsOf 5 = .ok (.invokevirtual 100, 3) := by decide +kernel
theorem dX9_bearsOf_8 : decode cX9_bearsOf 8 = .ok (.imul, 1) := by decide +kernel
theorem dX9_bearsOf_9 : decode cX9_bearsOf 9 = .ok (.bipush 10, 2) := by decide +kernel
theorem dX9_bearsOf_11 : decode cX9_bearsOf 11 = .ok (.idiv, 1) := by decide +kernel
theorem dX9_bearsOf_12 : decode cX9_bearsOf 12 = .ok (.ireturn, 1) := by decide +kernel
theorem dX9_bears_0 : decode cX9_bears 0 = .ok (.aload_n 0, 1) := by decide +kernel
theorem dX9_bears_1 : decode cX9_bears 1 = .ok (.iload_n 1, 1) := by decide +kernel
theorem dX9_bears_2 : decode cX9_bears 2 = .ok (.invokevirtual 103, 3) := by decide +kernel
theorem dX9_bears_5 : decode cX9_bears 5 = .ok (.ifCond .eq 21, 3) := by decide +kernel
theorem dX9_bears_8 : decode cX9_bears 8 = .ok (.iload_n 2, 1) := by decide +kernel
theorem dX9_bears_9 : decode cX9_bears 9 = .ok (.iconst 0, 1) := by decide +kernel
theorem dX9_bears_10 : decode cX9_bears 10 = .ok (.iconst 2, 1) := by decide +kernel
theorem dX9_bears_11 : decode cX9_bears 11 = .ok (.invokestatic 68, 3) := by decide +kernel
theorem dX9_bears_14 : decode cX9_bears 14 = .ok (.ifCond .eq 12, 3) := by decide +kernel
theorem dX9_bears_17 : decode cX9_bears 17 = .ok (.aload_n 0, 1) := by decide +kernel
theorem dX9_bears_18 : decode cX9_bears 18 = .ok (.iload_n 1, 1) := by decide +kernel
theorem dX9_bears_19 : decode cX9_bears 19 = .ok (.iload_n 2, 1) := by decide +kernel
theorem dX9_bears_20 : decode cX9_bears 20 = .ok (.invokevirtual 179, 3) := by decide +kernel
theorem dX9_bears_23 : decode cX9_bears 23 = .ok (.goto 5, 3) := by decide +kernel
theorem dX9_bears_26 : decode cX9_bears 26 = .ok (.bipush (-2), 2) := by decide +kernel
theorem dX9_bears_28 : decode cX9_bears 28 = .ok (.ireturn, 1) := by decide +kernel
theorem dX9_safeBy_0 : decode cX9_safeBy 0 = .ok (.aload_n 0, 1) := by decide +kernel
theorem dX9_safeBy_1 : decode cX9_safeBy 1 = .ok (.invokevirtual 97, 3) := by decide +kernel
theorem dX9_safeBy_4 : decode cX9_safeBy 4 = .ok (.istore_n 3, 1) := by decide +kernel
theorem dX9_safeBy_5 : decode cX9_safeBy 5 = .ok (.iconst 0, 1) := by decide +kernel
theorem dX9_safeBy_6 : decode cX9_safeBy 6 = .ok (.istore 4, 2) := by decide +kernel
theorem dX9_safeBy_8 : decode cX9_safeBy 8 = .ok (.iload 4, 2) := by decide +kernel
theorem dX9_safeBy_10 : decode cX9_safeBy 10 = .ok (.iload_n 3, 1) := by decide +kernel
theorem dX9_safeBy_11 : decode cX9_safeBy 11 = .ok (.if_icmp .ge 69, 3) := by decide +kernel
theorem dX9_safeBy_14 : decode cX9_safeBy 14 = .ok (.iload 4, 2) := by decide +kernel
theorem dX9_safeBy_16 : decode cX9_safeBy 16 = .ok (.iload_n 3, 1) := by decide +kernel
theorem dX9_safeBy_17 : decode cX9_safeBy 17 = .ok (.iconst 1, 1) := by decide +kernel
theorem dX9_safeBy_18 : decode cX9_safeBy 18 = .ok (.isub, 1) := by decide +kernel
theorem dX9_safeBy_19 : decode cX9_safeBy 19 = .ok (.if_icmp .ge 7, 3) := by decide +kernel
theorem dX9_safeBy_22 : decode cX9_safeBy 22 = .ok (.iload_n 2, 1) := by decide +kernel
theorem dX9_safeBy_23 : decode cX9_safeBy 23 = .ok (.goto 4, 3) := by decide +kernel
theorem dX9_safeBy_26 : decode cX9_safeBy 26 = .ok (.iconst 0, 1) := by decide +kernel
theorem dX9_safeBy_27 : decode cX9_safeBy 27 = .ok (.istore 5, 2) := by decide +kernel
theorem dX9_safeBy_29 : decode cX9_safeBy 29 = .ok (.iload 4, 2) := by decide +kernel
theorem dX9_safeBy_31 : decode cX9_safeBy 31 = .ok (.iconst 1, 1) := by decide +kernel
theorem dX9_safeBy_32 : decode cX9_safeBy 32 = .ok (.iadd, 1) := by decide +kernel
theorem dX9_safeBy_33 : decode cX9_safeBy 33 = .ok (.istore 6, 2) := by decide +kernel
theorem dX9_safeBy_35 : decode cX9_safeBy 35 = .ok (.iload 6, 2) := by decide +kernel
theorem dX9_safeBy_37 : decode cX9_safeBy 37 = .ok (.iload_n 3, 1) := by decide +kernel
theorem dX9_safeBy_38 : decode cX9_safeBy 38 = .ok (.if_icmp .ge 21, 3) := by decide +kernel
theorem dX9_safeBy_41 : decode cX9_safeBy 41 = .ok (.iload 5, 2) := by decide +kernel
theorem dX9_safeBy_43 : decode cX9_safeBy 43 = .ok (.aload_n 0, 1) := by decide +kernel
theorem dX9_safeBy_44 : decode cX9_safeBy 44 = .ok (.getfield 37, 3) := by decide +kernel
theorem dX9_safeBy_47 : decode cX9_safeBy 47 = .ok (.iload 6, 2) := by decide +kernel
theorem dX9_safeBy_49 : decode cX9_safeBy 49 = .ok (.iaload, 1) := by decide +kernel
theorem dX9_safeBy_50 : decode cX9_safeBy 50 = .ok (.iadd, 1) := by decide +kernel
theorem dX9_safeBy_51 : decode cX9_safeBy 51 = .ok (.istore 5, 2) := by decide +kernel
theorem dX9_safeBy_53 : decode cX9_safeBy 53 = .ok (.iinc 6 1, 3) := by decide +kernel
theorem dX9_safeBy_56 : decode cX9_safeBy 56 = .ok (.goto (-21), 3) := by decide +kernel
theorem dX9_safeBy_59 : decode cX9_safeBy 59 = .ok (.iload 5, 2) := by decide +kernel
theorem dX9_safeBy_61 : decode cX9_safeBy 61 = .ok (.aload_n 0, 1) := by decide +kernel
theorem dX9_safeBy_62 : decode cX9_safeBy 62 = .ok (.iload 4, 2) := by decide +kernel
theorem dX9_safeBy_64 : decode cX9_safeBy 64 = .ok (.iload_n 1, 1) := by decide +kernel
theorem dX9_safeBy_65 : decode cX9_safeBy 65 = .ok (.invokevirtual 179, 3) := by decide +kernel
theorem dX9_safeBy_68 : decode cX9_safeBy 68 = .ok (.if_icmp .le 6, 3) := by decide +kernel
theorem dX9_safeBy_71 : decode cX9_safeBy 71 = .ok (.iload 4, 2) := by decide +kernel
theorem dX9_safeBy_73 : decode cX9_safeBy 73 = .ok (.ireturn, 1) := by decide +kernel
theorem dX9_safeBy_74 : decode cX9_safeBy 74 = .ok (.iinc 4 1, 3) := by decide +kernel
theorem dX9_safeBy_77 : decode cX9_safeBy 77 = .ok (.goto (-69), 3) := by decide +kernel
theorem dX9_safeBy_80 : decode cX9_safeBy 80 = .ok (.iconst (-1), 1) := by decide +kernel
theorem dX9_safeBy_81 : decode cX9_safeBy 81 = .ok (.ireturn, 1) := by decide +kernel
theorem dX9_safe_0 : decode cX9_safe 0 = .ok (.iload_n 1, 1) := by decide +kernel
theorem dX9_safe_1 : decode cX9_safe 1 = .ok (.iconst 0, 1) := by decide +kernel
theorem dX9_safe_2 : decode cX9_safe 2 = .ok (.iconst 2, 1) := by decide +kernel
theorem dX9_safe_3 : decode cX9_safe 3 = .ok (.invokestatic 68, 3) := by decide +kernel
theorem dX9_safe_6 : decode cX9_safe 6 = .ok (.ifCond .eq 12, 3) := by decide +kernel
theorem dX9_safe_9 : decode cX9_safe 9 = .ok (.aload_n 0, 1) := by decide +kernel
theorem dX9_safe_10 : decode cX9_safe 10 = .ok (.iload_n 1, 1) := by decide +kernel
theorem dX9_safe_11 : decode cX9_safe 11 = .ok (.iconst 0, 1) := by decide +kernel
theorem dX9_safe_12 : decode cX9_safe 12 = .ok (.invokevirtual 182, 3) := by decide +kernel
theorem dX9_safe_15 : decode cX9_safe 15 = .ok (.goto 5, 3) := by decide +kernel
theorem dX9_safe_18 : decode cX9_safe 18 = .ok (.bipush (-2), 2) := by decide +kernel
theorem dX9_safe_20 : decode cX9_safe 20 = .ok (.ireturn, 1) := by decide +kernel
theorem dX9_moreNow_0 : decode cX9_moreNow 0 = .ok (.iconst (-1), 1) := by decide +kernel
theorem dX9_moreNow_1 : decode cX9_moreNow 1 = .ok (.istore_n 1, 1) := by decide +kernel
theorem dX9_moreNow_2 : decode cX9_moreNow 2 = .ok (.iconst 0, 1) := by decide +kernel
theorem dX9_moreNow_3 : decode cX9_moreNow 3 = .ok (.istore_n 2, 1) := by decide +kernel
theorem dX9_moreNow_4 : decode cX9_moreNow 4 = .ok (.iload_n 2, 1) := by decide +kernel
theorem dX9_moreNow_5 : decode cX9_moreNow 5 = .ok (.bipush 100, 2) := by decide +kernel
theorem dX9_moreNow_7 : decode cX9_moreNow 7 = .ok (.if_icmp .ge 62, 3) := by decide +kernel
theorem dX9_moreNow_10 : decode cX9_moreNow 10 = .ok (.aload_n 0, 1) := by decide +kernel
theorem dX9_moreNow_11 : decode cX9_moreNow 11 = .ok (.invokevirtual 97, 3) := by decide +kernel
theorem dX9_moreNow_14 : decode cX9_moreNow 14 = .ok (.ifCond .le 55, 3) := by decide +kernel
theorem dX9_moreNow_17 : decode cX9_moreNow 17 = .ok (.aload_n 0, 1) := by decide +kernel
theorem dX9_moreNow_18 : decode cX9_moreNow 18 = .ok (.iconst 0, 1) := by decide +kernel
theorem dX9_moreNow_19 : decode cX9_moreNow 19 = .ok (.iload_n 2, 1) := by decide +kernel
theorem dX9_moreNow_20 : decode cX9_moreNow 20 = .ok (.invokevirtual 182, 3) := by decide +kernel
theorem dX9_moreNow_23 : decode cX9_moreNow 23 = .ok (.iconst (-1), 1) := by decide +kernel
theorem dX9_moreNow_24 : decode cX9_moreNow 24 = .ok (.if_icmp .ne 27, 3) := by decide +kernel
theorem dX9_moreNow_27 : decode cX9_moreNow 27 = .ok (.aload_n 0, 1) := by decide +kernel
theorem dX9_moreNow_28 : decode cX9_moreNow 28 = .ok (.iconst 1, 1) := by decide +kernel
theorem dX9_moreNow_29 : decode cX9_moreNow 29 = .ok (.iload_n 2, 1) := by decide +kernel
theorem dX9_moreNow_30 : decode cX9_moreNow 30 = .ok (.invokevirtual 182, 3) := by decide +kernel
theorem dX9_moreNow_33 : decode cX9_moreNow 33 = .ok (.iconst (-1), 1) := by decide +kernel
theorem dX9_moreNow_34 : decode cX9_moreNow 34 = .ok (.if_icmp .ne 17, 3) := by decide +kernel
theorem dX9_moreNow_37 : decode cX9_moreNow 37 = .ok (.aload_n 0, 1) := by decide +kernel
theorem dX9_moreNow_38 : decode cX9_moreNow 38 = .ok (.iconst 2, 1) := by decide +kernel
theorem dX9_moreNow_39 : decode cX9_moreNow 39 = .ok (.iload_n 2, 1) := by decide +kernel
theorem dX9_moreNow_40 : decode cX9_moreNow 40 = .ok (.invokevirtual 182, 3) := by decide +kernel
theorem dX9_moreNow_43 : decode cX9_moreNow 43 = .ok (.iconst (-1), 1) := by decide +kernel
theorem dX9_moreNow_44 : decode cX9_moreNow 44 = .ok (.if_icmp .ne 7, 3) := by decide +kernel
theorem dX9_moreNow_47 : decode cX9_moreNow 47 = .ok (.iconst 1, 1) := by decide +kernel
theorem dX9_moreNow_48 : decode cX9_moreNow 48 = .ok (.goto 4, 3) := by decide +kernel
theorem dX9_moreNow_51 : decode cX9_moreNow 51 = .ok (.iconst 0, 1) := by decide +kernel
theorem dX9_moreNow_52 : decode cX9_moreNow 52 = .ok (.istore_n 3, 1) := by decide +kernel
theorem dX9_moreNow_53 : decode cX9_moreNow 53 = .ok (.iload_n 3, 1) := by decide +kernel
theorem dX9_moreNow_54 : decode cX9_moreNow 54 = .ok (.ifCond .eq 7, 3) := by decide +kernel
theorem dX9_moreNow_57 : decode cX9_moreNow 57 = .ok (.iload_n 2, 1) := by decide +kernel
theorem dX9_moreNow_58 : decode cX9_moreNow 58 = .ok (.goto 4, 3) := by decide +kernel
theorem dX9_moreNow_61 : decode cX9_moreNow 61 = .ok (.iload_n 1, 1) := by decide +kernel
theorem dX9_moreNow_62 : decode cX9_moreNow 62 = .ok (.istore_n 1, 1) := by decide +kernel
theorem dX9_moreNow_63 : decode cX9_moreNow 63 = .ok (.iinc 2 1, 3) := by decide +kernel
theorem dX9_moreNow_66 : decode cX9_moreNow 66 = .ok (.goto (-62), 3) := by decide +kernel
theorem dX9_moreNow_69 : decode cX9_moreNow 69 = .ok (.iload_n 1, 1) := by decide +kernel
theorem dX9_moreNow_70 : decode cX9_moreNow 70 = .ok (.ireturn, 1) := by decide +kernel
theorem dX9_more_0 : decode cX9_more 0 = .ok (.aload_n 0, 1) := by decide +kernel
theorem dX9_more_1 : decode cX9_more 1 = .ok (.invokevirtual 185, 3) := by decide +kernel
theorem dX9_more_4 : decode cX9_more 4 = .ok (.ireturn, 1) := by decide +kernel
theorem dX9_up_0 : decode cX9_up 0 = .ok (.iload_n 0, 1) := by decide +kernel
theorem dX9_up_1 : decode cX9_up 1 = .ok (.ifCond .le 13, 3) := by decide +kernel
theorem dX9_up_4 : decode cX9_up 4 = .ok (.iload_n 0, 1) := by decide +kernel
theorem dX9_up_5 : decode cX9_up 5 = .ok (.bipush 9, 2) := by decide +kernel
theorem dX9_up_7 : decode cX9_up 7 = .ok (.iadd, 1) := by decide +kernel
theorem dX9_up_8 : decode cX9_up 8 = .ok (.bipush 10, 2) := by decide +kernel
theorem dX9_up_10 : decode cX9_up 10 = .ok (.idiv, 1) := by decide +kernel
theorem dX9_up_11 : decode cX9_up 11 = .ok (.goto 7, 3) := by decide +kernel
theorem dX9_up_14 : decode cX9_up 14 = .ok (.iload_n 0, 1) := by decide +kernel
theorem dX9_up_15 : decode cX9_up 15 = .ok (.bipush 10, 2) := by decide +kernel
theorem dX9_up_17 : decode cX9_up 17 = .ok (.idiv, 1) := by decide +kernel
theorem dX9_up_18 : decode cX9_up 18 = .ok (.ireturn, 1) := by decide +kernel
theorem dX9_stonesOf_0 : decode cX9_stonesOf 0 = .ok (.iconst 0, 1) := by decide +kernel
theorem dX9_stonesOf_1 : decode cX9_stonesOf 1 = .ok (.istore_n 2, 1) := by decide +kernel
theorem dX9_stonesOf_2 : decode cX9_stonesOf 2 = .ok (.iconst 0, 1) := by decide +kernel
theorem dX9_stonesOf_3 : decode cX9_stonesOf 3 = .ok (.istore_n 3, 1) := by decide +kernel
theorem dX9_stonesOf_4 : decode cX9_stonesOf 4 = .ok (.iconst 0, 1) := by decide +kernel
theorem dX9_stonesOf_5 : decode cX9_stonesOf 5 = .ok (.istore 4, 2) := by decide +kernel
theorem dX9_stonesOf_7 : decode cX9_stonesOf 7 = .ok (.iload 4, 2) := by decide +kernel
theorem dX9_stonesOf_9 : decode cX9_stonesOf 9 = .ok (.aload_n 0, 1) := by decide +kernel
theorem dX9_stonesOf_10 : decode cX9_stonesOf 10 = .ok (.invokevirtual 97, 3) := by decide +kernel
theorem dX9_stonesOf_13 : decode cX9_stonesOf 13 = .ok (.if_icmp .ge 60, 3) := by decide +kernel
theorem dX9_stonesOf_16 : decode cX9_stonesOf 16 = .ok (.aload_n 0, 1) := by decide +kernel
theorem dX9_stonesOf_17 : decode cX9_stonesOf 17 = .ok (.getfield 22, 3) := by decide +kernel
theorem dX9_stonesOf_20 : decode cX9_stonesOf 20 = .ok (.iload 4, 2) := by decide +kernel
theorem dX9_stonesOf_22 : decode cX9_stonesOf 22 = .ok (.iaload, 1) := by decide +kernel
theorem dX9_stonesOf_23 : decode cX9_stonesOf 23 = .ok (.invokestatic 188, 3) := by decide +kernel
theorem dX9_stonesOf_26 : decode cX9_stonesOf 26 = .ok (.aload_n 0, 1) := by decide +kernel
theorem dX9_stonesOf_27 : decode cX9_stonesOf 27 = .ok (.iload 4, 2) := by decide +kernel
theorem dX9_stonesOf_29 : decode cX9_stonesOf 29 = .ok (.invokevirtual 100, 3) := by decide +kernel

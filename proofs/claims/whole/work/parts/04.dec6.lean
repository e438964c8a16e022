theorem dX9_shim_36 : decode cX9_shim 36 = .ok (.iload_n 2, 1) := by decide +kernel
theorem dX9_shim_37 : decode cX9_shim 37 = .ok (.iastore, 1) := by decide +kernel
theorem dX9_shim_38 : decode cX9_shim 38 = .ok (.iload_n 3, 1) := by decide +kernel
theorem dX9_shim_39 : decode cX9_shim 39 = .ok (.ireturn, 1) := by decide +kernel
theorem dX9_set_0 : decode cX9_set 0 = .ok (.iload_n 1, 1) := by decide +kernel
theorem dX9_set_1 : decode cX9_set 1 = .ok (.iconst 0, 1) := by decide +kernel
theorem dX9_set_2 : decode cX9_set 2 = .ok (.iconst 3, 1) := by decide +kernel
theorem dX9_set_3 : decode cX9_set 3 = .ok (.invokestatic 68, 3) := by decide +kernel
theorem dX9_set_6 : decode cX9_set 6 = .ok (.ifCond .eq 42, 3) := by decide +kernel
theorem dX9_set_9 : decode cX9_set 9 = .ok (.iload_n 2, 1) := by decide +kernel
theorem dX9_set_10 : decode cX9_set 10 = .ok (.iload_n 1, 1) := by decide +kernel
theorem dX9_set_11 : decode cX9_set 11 = .ok (.iconst 1, 1) := by decide +kernel
theorem dX9_set_12 : decode cX9_set 12 = .ok (.if_icmp .ne 7, 3) := by decide +kernel
theorem dX9_set_15 : decode cX9_set 15 = .ok (.iconst 1, 1) := by decide +kernel
theorem dX9_set_16 : decode cX9_set 16 = .ok (.goto 4, 3) := by decide +kernel
theorem dX9_set_19 : decode cX9_set 19 = .ok (.iconst 0, 1) := by decide +kernel
theorem dX9_set_20 : decode cX9_set 20 = .ok (.iload_n 1, 1) := by decide +kernel
theorem dX9_set_21 : decode cX9_set 21 = .ok (.ifCond .ne 8, 3) := by decide +kernel
theorem dX9_set_24 : decode cX9_set 24 = .ok (.bipush 99, 2) := by decide +kernel
theorem dX9_set_26 : decode cX9_set 26 = .ok (.goto 16, 3) := by decide +kernel
theorem dX9_set_29 : decode cX9_set 29 = .ok (.iload_n 1, 1) := by decide +kernel
theorem dX9_set_30 : decode cX9_set 30 = .ok (.iconst 1, 1) := by decide +kernel
theorem dX9_set_31 : decode cX9_set 31 = .ok (.if_icmp .ne 9, 3) := by decide +kernel
theorem dX9_set_34 : decode cX9_set 34 = .ok (.sipush 999, 3) := by decide +kernel
theorem dX9_set_37 : decode cX9_set 37 = .ok (.goto 5, 3) := by decide +kernel
theorem dX9_set_40 : decode cX9_set 40 = .ok (.bipush 9, 2) := by decide +kernel
theorem dX9_set_42 : decode cX9_set 42 = .ok (.invokestatic 68, 3) := by decide +kernel
theorem dX9_set_45 : decode cX9_set 45 = .ok (.ifCond .ne 6, 3) := by decide +kernel
theorem dX9_set_48 : decode cX9_set 48 = .ok (.bipush (-2), 2) := by decide +kernel
theorem dX9_set_50 : decode cX9_set 50 = .ok (.ireturn, 1) := by decide +kernel
theorem dX9_set_51 : decode cX9_set 51 = .ok (.aload_n 0, 1) := by decide +kernel
theorem dX9_set_52 : decode cX9_set 52 = .ok (.getfield 16, 3) := by decide +kernel
theorem dX9_set_55 : decode cX9_set 55 = .ok (.iload_n 1, 1) := by decide +kernel
theorem dX9_set_56 : decode cX9_set 56 = .ok (.iaload, 1) := by decide +kernel
theorem dX9_set_57 : decode cX9_set 57 = .ok (.istore_n 3, 1) := by decide +kernel
theorem dX9_set_58 : decode cX9_set 58 = .ok (.aload_n 0, 1) := by decide +kernel
theorem dX9_set_59 : decode cX9_set 59 = .ok (.getfield 16, 3) := by decide +kernel
theorem dX9_set_62 : decode cX9_set 62 = .ok (.iload_n 1, 1) := by decide +kernel
theorem dX9_set_63 : decode cX9_set 63 = .ok (.iload_n 2, 1) := by decide +kernel
theorem dX9_set_64 : decode cX9_set 64 = .ok (.iastore, 1) := by decide +kernel
theorem dX9_set_65 : decode cX9_set 65 = .ok (.iload_n 3, 1) := by decide +kernel
theorem dX9_set_66 : decode cX9_set 66 = .ok (.ireturn, 1) := by decide +kernel
theorem dX9_sillOf_0 : decode cX9_sillOf 0 = .ok (.iconst 0, 1) := by decide +kernel
theorem dX9_sillOf_1 : decode cX9_sillOf 1 = .ok (.istore_n 3, 1) := by decide +kernel
theorem dX9_sillOf_2 : decode cX9_sillOf 2 = .ok (.iconst 0, 1) := by decide +kernel
theorem dX9_sillOf_3 : decode cX9_sillOf 3 = .ok (.istore 4, 2) := by decide +kernel
theorem dX9_sillOf_5 : decode cX9_sillOf 5 = .ok (.iconst 0, 1) := by decide +kernel
theorem dX9_sillOf_6 : decode cX9_sillOf 6 = .ok (.istore 5, 2) := by decide +kernel
theorem dX9_sillOf_8 : decode cX9_sillOf 8 = .ok (.iload 5, 2) := by decide +kernel
theorem dX9_sillOf_10 : decode cX9_sillOf 10 = .ok (.iload_n 1, 1) := by decide +kernel
theorem dX9_sillOf_11 : decode cX9_sillOf 11 = .ok (.if_icmp .ge 30, 3) := by decide +kernel
theorem dX9_sillOf_14 : decode cX9_sillOf 14 = .ok (.iload_n 3, 1) := by decide +kernel
theorem dX9_sillOf_15 : decode cX9_sillOf 15 = .ok (.aload_n 0, 1) := by decide +kernel
theorem dX9_sillOf_16 : decode cX9_sillOf 16 = .ok (.iload 5, 2) := by decide +kernel
theorem dX9_sillOf_18 : decode cX9_sillOf 18 = .ok (.invokevirtual 100, 3) := by decide +kernel
theorem dX9_sillOf_21 : decode cX9_sillOf 21 = .ok (.iadd, 1) := by decide +kernel
theorem dX9_sillOf_22 : decode cX9_sillOf 22 = .ok (.istore_n 3, 1) := by decide +kernel
theorem dX9_sillOf_23 : decode cX9_sillOf 23 = .ok (.iload 4, 2) := by decide +kernel
theorem dX9_sillOf_25 : decode cX9_sillOf 25 = .ok (.aload_n 0, 1) := by decide +kernel
theorem dX9_sillOf_26 : decode cX9_sillOf 26 = .ok (.getfield 22, 3) := by decide +kernel
theorem dX9_sillOf_29 : decode cX9_sillOf 29 = .ok (.iload 5, 2) := by decide +kernel
theorem dX9_sillOf_31 : decode cX9_sillOf 31 = .ok (.iaload, 1) := by decide +kernel
theorem dX9_sillOf_32 : decode cX9_sillOf 32 = .ok (.iadd, 1) := by decide +kernel
theorem dX9_sillOf_33 : decode cX9_sillOf 33 = .ok (.istore 4, 2) := by decide +kernel
theorem dX9_sillOf_35 : decode cX9_sillOf 35 = .ok (.iinc 5 1, 3) := by decide +kernel
theorem dX9_sillOf_38 : decode cX9_sillOf 38 = .ok (.goto (-30), 3) := by decide +kernel
theorem dX9_sillOf_41 : decode cX9_sillOf 41 = .ok (.iload_n 2, 1) := by decide +kernel
theorem dX9_sillOf_42 : decode cX9_sillOf 42 = .ok (.ifCond .ne 7, 3) := by decide +kernel
theorem dX9_sillOf_45 : decode cX9_sillOf 45 = .ok (.iload_n 3, 1) := by decide +kernel
theorem dX9_sillOf_46 : decode cX9_sillOf 46 = .ok (.goto 17, 3) := by decide +kernel
theorem dX9_sillOf_49 : decode cX9_sillOf 49 = .ok (.iload_n 2, 1) := by decide +kernel
theorem dX9_sillOf_50 : decode cX9_sillOf 50 = .ok (.iconst 1, 1) := by decide +kernel
theorem dX9_sillOf_51 : decode cX9_sillOf 51 = .ok (.if_icmp .ne 8, 3) := by decide +kernel
theorem dX9_sillOf_54 : decode cX9_sillOf 54 = .ok (.iload 4, 2) := by decide +kernel
theorem dX9_sillOf_56 : decode cX9_sillOf 56 = .ok (.goto 7, 3) := by decide +kernel
theorem dX9_sillOf_59 : decode cX9_sillOf 59 = .ok (.iload_n 3, 1) := by decide +kernel
theorem dX9_sillOf_60 : decode cX9_sillOf 60 = .ok (.iload 4, 2) := by decide +kernel
theorem dX9_sillOf_62 : decode cX9_sillOf 62 = .ok (.isub, 1) := by decide +kernel
theorem dX9_sillOf_63 : decode cX9_sillOf 63 = .ok (.ireturn, 1) := by decide +kernel
theorem dX9_sill_0 : decode cX9_sill 0 = .ok (.iload_n 1, 1) := by decide +kernel
theorem dX9_sill_1 : decode cX9_sill 1 = .ok (.iconst 0, 1) := by decide +kernel
theorem dX9_sill_2 : decode cX9_sill 2 = .ok (.aload_n 0, 1) := by decide +kernel
theorem dX9_sill_3 : decode cX9_sill 3 = .ok (.invokevirtual 97, 3) := by decide +kernel
theorem dX9_sill_6 : decode cX9_sill 6 = .ok (.invokestatic 68, 3) := by decide +kernel
theorem dX9_sill_9 : decode cX9_sill 9 = .ok (.ifCond .eq 21, 3) := by decide +kernel
theorem dX9_sill_12 : decode cX9_sill 12 = .ok (.iload_n 2, 1) := by decide +kernel
theorem dX9_sill_13 : decode cX9_sill 13 = .ok (.iconst 0, 1) := by decide +kernel
theorem dX9_sill_14 : decode cX9_sill 14 = .ok (.iconst 2, 1) := by decide +kernel
theorem dX9_sill_15 : decode cX9_sill 15 = .ok (.invokestatic 68, 3) := by decide +kernel
theorem dX9_sill_18 : decode cX9_sill 18 = .ok (.ifCond .eq 12, 3) := by decide +kernel
theorem dX9_sill_21 : decode cX9_sill 21 = .ok (.aload_n 0, 1) := by decide +kernel
theorem dX9_sill_22 : decode cX9_sill 22 = .ok (.iload_n 1, 1) := by decide +kernel
theorem dX9_sill_23 : decode cX9_sill 23 = .ok (.iload_n 2, 1) := by decide +kernel
theorem dX9_sill_24 : decode cX9_sill 24 = .ok (.invokevirtual 112, 3) := by decide +kernel
theorem dX9_sill_27 : decode cX9_sill 27 = .ok (.goto 5, 3) := by decide +kernel
theorem dX9_sill_30 : decode cX9_sill 30 = .ok (.ldc 110, 2) := by decide +kernel
theorem dX9_sill_32 : decode cX9_sill 32 = .ok (.ireturn, 1) := by decide +kernel
theorem dX9_worstNow_0 : decode cX9_worstNow 0 = .ok (.iconst 0, 1) := by decide +kernel
theorem dX9_worstNow_1 : decode cX9_worstNow 1 = .ok (.istore_n 1, 1) := by decide +kernel
theorem dX9_worstNow_2 : decode cX9_worstNow 2 = .ok (.iconst 1, 1) := by decide +kernel
theorem dX9_worstNow_3 : decode cX9_worstNow 3 = .ok (.istore_n 2, 1) := by decide +kernel
theorem dX9_worstNow_4 : decode cX9_worstNow 4 = .ok (.iload_n 2, 1) := by decide +kernel
theorem dX9_worstNow_5 : decode cX9_worstNow 5 = .ok (.aload_n 0, 1) := by decide +kernel
theorem dX9_worstNow_6 : decode cX9_worstNow 6 = .ok (.invokevirtual 97, 3) := by decide +kernel
theorem dX9_worstNow_9 : decode cX9_worstNow 9 = .ok (.if_icmp .gt 36, 3) := by decide +kernel
theorem dX9_worstNow_12 : decode cX9_worstNow 12 = .ok (.aload_n 0, 1) := by decide +kernel
theorem dX9_worstNow_13 : decode cX9_worstNow 13 = .ok (.iload_n 2, 1) := by decide +kernel
theorem dX9_worstNow_14 : decode cX9_worstNow 14 = .ok (.iconst 2, 1) := by decide +kernel
theorem dX9_worstNow_15 : decode cX9_worstNow 15 = .ok (.invokevirtual 112, 3) := by decide +kernel
theorem dX9_worstNow_18 : decode cX9_worstNow 18 = .ok (.invokestatic 115, 3) := by decide +kernel
theorem dX9_worstNow_21 : decode cX9_worstNow 21 = .ok (.aload_n 0, 1) := by decide +kernel
theorem dX9_worstNow_22 : decode cX9_worstNow 22 = .ok (.iload_n 1, 1) := by decide +kernel
theorem dX9_worstNow_23 : decode cX9_worstNow 23 = .ok (.iconst 2, 1) := by decide +kernel
theorem dX9_worstNow_24 : decode cX9_worstNow 24 = .ok (.invokevirtual 112, 3) := by decide +kernel
theorem dX9_worstNow_27 : decode cX9_worstNow 27 = .ok (.invokestatic 115, 3) := by decide +kernel
theorem dX9_worstNow_30 : decode cX9_worstNow 30 = .ok (.if_icmp .le 7, 3) := by decide +kernel
theorem dX9_worstNow_33 : decode cX9_worstNow 33 = .ok (.iload_n 2, 1) := by decide +kernel
theorem dX9_worstNow_34 : decode cX9_worstNow 34 = .ok (.goto 4, 3) := by decide +kernel
theorem dX9_worstNow_37 : decode cX9_worstNow 37 = .ok (.iload_n 1, 1) := by decide +kernel
theorem dX9_worstNow_38 : decode cX9_worstNow 38 = .ok (.istore_n 1, 1) := by decide +kernel
theorem dX9_worstNow_39 : decode cX9_worstNow 39 = .ok (.iinc 2 1, 3) := by decide +kernel
theorem dX9_worstNow_42 : decode cX9_worstNow 42 = .ok (.goto (-38), 3) := by decide +kernel
theorem dX9_worstNow_45 : decode cX9_worstNow 45 = .ok (.iload_n 1, 1) := by decide +kernel
theorem dX9_worstNow_46 : decode cX9_worstNow 46 = .ok (.ireturn, 1) := by decide +kernel
theorem dX9_worst_0 : decode cX9_worst 0 = .ok (.aload_n 0, 1) := by decide +kernel
theorem dX9_worst_1 : decode cX9_worst 1 = .ok (.invokevirtual 118, 3) := by decide +kernel
theorem dX9_worst_4 : decode cX9_worst 4 = .ok (.ireturn, 1) := by decide +kernel
theorem dX9_stairs_0 : decode cX9_stairs 0 = .ok (.aload_n 0, 1) := by decide +kernel
theorem dX9_stairs_1 : decode cX9_stairs 1 = .ok (.iload_n 1, 1) := by decide +kernel
theorem dX9_stairs_2 : decode cX9_stairs 2 = .ok (.invokevirtual 103, 3) := by decide +kernel
theorem dX9_stairs_5 : decode cX9_stairs 5 = .ok (.ifCond .eq 35, 3) := by decide +kernel
theorem dX9_stairs_8 : decode cX9_stairs 8 = .ok (.iload_n 2, 1) := by decide +kernel
theorem dX9_stairs_9 : decode cX9_stairs 9 = .ok (.iconst 1, 1) := by decide +kernel
theorem dX9_stairs_10 : decode cX9_stairs 10 = .ok (.bipush 40, 2) := by decide +kernel
theorem dX9_stairs_12 : decode cX9_stairs 12 = .ok (.invokestatic 68, 3) := by decide +kernel
theorem dX9_stairs_15 : decode cX9_stairs 15 = .ok (.ifCond .eq 25, 3) := by decide +kernel
theorem dX9_stairs_18 : decode cX9_stairs 18 = .ok (.iload_n 3, 1) := by decide +kernel
theorem dX9_stairs_19 : decode cX9_stairs 19 = .ok (.iconst 1, 1) := by decide +kernel
theorem dX9_stairs_20 : decode cX9_stairs 20 = .ok (.bipush 99, 2) := by decide +kernel
theorem dX9_stairs_22 : decode cX9_stairs 22 = .ok (.invokestatic 68, 3) := by decide +kernel
theorem dX9_stairs_25 : decode cX9_stairs 25 = .ok (.ifCond .eq 15, 3) := by decide +kernel
theorem dX9_stairs_28 : decode cX9_stairs 28 = .ok (.aload_n 0, 1) := by decide +kernel
theorem dX9_stairs_29 : decode cX9_stairs 29 = .ok (.iload_n 1, 1) := by decide +kernel
theorem dX9_stairs_30 : decode cX9_stairs 30 = .ok (.invokevirtual 100, 3) := by decide +kernel
theorem dX9_stairs_33 : decode cX9_stairs 33 = .ok (.iload_n 2, 1) := by decide +kernel
theorem dX9_stairs_34 : decode cX9_stairs 34 = .ok (.iload_n 3, 1) := by decide +kernel
theorem dX9_stairs_35 : decode cX9_stairs 35 = .ok (.imul, 1) := by decide +kernel
theorem dX9_stairs_36 : decode cX9_stairs 36 = .ok (.isub, 1) := by decide +kernel
theorem dX9_stairs_37 : decode cX9_stairs 37 = .ok (.goto 5, 3) := by decide +kernel
theorem dX9_stairs_40 : decode cX9_stairs 40 = .ok (.ldc 110, 2) := by decide +kernel
theorem dX9_stairs_42 : decode cX9_stairs 42 = .ok (.ireturn, 1) := by decide +kernel
theorem dX9_evenOf_0 : decode cX9_evenOf 0 = .ok (.iload_n 2, 1) := by decide +kernel
theorem dX9_evenOf_1 : decode cX9_evenOf 1 = .ok (.istore 5, 2) := by decide +kernel
theorem dX9_evenOf_3 : decode cX9_evenOf 3 = .ok (.iconst 1, 1) := by decide +kernel
theorem dX9_evenOf_4 : decode cX9_evenOf 4 = .ok (.istore 6, 2) := by decide +kernel
theorem dX9_evenOf_6 : decode cX9_evenOf 6 = .ok (.aload_n 0, 1) := by decide +kernel
theorem dX9_evenOf_7 : decode cX9_evenOf 7 = .ok (.iload_n 1, 1) := by decide +kernel
theorem dX9_evenOf_8 : decode cX9_evenOf 8 = .ok (.invokevirtual 100, 3) := by decide +kernel
theorem dX9_evenOf_11 : decode cX9_evenOf 11 = .ok (.iload_n 2, 1) := by decide +kernel
theorem dX9_evenOf_12 : decode cX9_evenOf 12 = .ok (.isub, 1) := by decide +kernel
theorem dX9_evenOf_13 : decode cX9_evenOf 13 = .ok (.invokestatic 115, 3) := by decide +kernel
theorem dX9_evenOf_16 : decode cX9_evenOf 16 = .ok (.istore 7, 2) := by decide +kernel
theorem dX9_evenOf_18 : decode cX9_evenOf 18 = .ok (.iconst 1, 1) := by decide +kernel
theorem dX9_evenOf_19 : decode cX9_evenOf 19 = .ok (.istore 8, 2) := by decide +kernel
theorem dX9_evenOf_21 : decode cX9_evenOf 21 = .ok (.iload 8, 2) := by decide +kernel
theorem dX9_evenOf_23 : decode cX9_evenOf 23 = .ok (.bipush 41, 2) := by decide +kernel
theorem dX9_evenOf_25 : decode cX9_evenOf 25 = .ok (.if_icmp .ge 59, 3) := by decide +kernel
theorem dX9_evenOf_28 : decode cX9_evenOf 28 = .ok (.iload_n 2, 1) := by decide +kernel
theorem dX9_evenOf_29 : decode cX9_evenOf 29 = .ok (.istore 9, 2) := by decide +kernel
theorem dX9_evenOf_31 : decode cX9_evenOf 31 = .ok (.iload 9, 2) := by decide +kernel
theorem dX9_evenOf_33 : decode cX9_evenOf 33 = .ok (.iload_n 3, 1) := by decide +kernel
theorem dX9_evenOf_34 : decode cX9_evenOf 34 = .ok (.if_icmp .gt 44, 3) := by decide +kernel
theorem dX9_evenOf_37 : decode cX9_evenOf 37 = .ok (.aload_n 0, 1) := by decide +kernel
theorem dX9_evenOf_38 : decode cX9_evenOf 38 = .ok (.iload_n 1, 1) := by decide +kernel
theorem dX9_evenOf_39 : decode cX9_evenOf 39 = .ok (.invokevirtual 100, 3) := by decide +kernel
theorem dX9_evenOf_42 : decode cX9_evenOf 42 = .ok (.iload 8, 2) := by decide +kernel
theorem dX9_evenOf_44 : decode cX9_evenOf 44 = .ok (.iload 9, 2) := by decide +kernel
theorem dX9_evenOf_46 : decode cX9_evenOf 46 = .ok (.imul, 1) := by decide +kernel
theorem dX9_evenOf_47 : decode cX9_evenOf 47 = .ok (.isub, 1) := by decide +kernel
theorem dX9_evenOf_48 : decode cX9_evenOf 48 = .ok (.invokestatic 115, 3) := by decide +kernel
theorem dX9_evenOf_51 : decode cX9_evenOf 51 = .ok (.istore 10, 2) := by decide +kernel
theorem dX9_evenOf_53 : decode cX9_evenOf 53 = .ok (.iload 10, 2) := by decide +kernel
theorem dX9_evenOf_55 : decode cX9_evenOf 55 = .ok (.iload 7, 2) := by decide +kernel
theorem dX9_evenOf_57 : decode cX9_evenOf 57 = .ok (.if_icmp .ge 15, 3) := by decide +kernel
theorem dX9_evenOf_60 : decode cX9_evenOf 60 = .ok (.iload 10, 2) := by decide +kernel
theorem dX9_evenOf_62 : decode cX9_evenOf 62 = .ok (.istore 7, 2) := by decide +kernel
theorem dX9_evenOf_64 : decode cX9_evenOf 64 = .ok (.iload 9, 2) := by decide +kernel
theorem dX9_evenOf_66 : decode cX9_evenOf 66 = .ok (.istore 5, 2) := by decide +kernel
theorem dX9_evenOf_68 : decode cX9_evenOf 68 = .ok (.iload 8, 2) := by decide +kernel
theorem dX9_evenOf_70 : decode cX9_evenOf 70 = .ok (.istore 6, 2) := by decide +kernel
theorem dX9_evenOf_72 : decode cX9_evenOf 72 = .ok (.iinc 9 1, 3) := by decide +kernel
theorem dX9_evenOf_75 : decode cX9_evenOf 75 = .ok (.goto (-44), 3) := by decide +kernel
theorem dX9_evenOf_78 : decode cX9_evenOf 78 = .ok (.iinc 8 1, 3) := by decide +kernel
theorem dX9_evenOf_81 : decode cX9_evenOf 81 = .ok (.goto (-60), 3) := by decide +kernel
theorem dX9_evenOf_84 : decode cX9_evenOf 84 = .ok (.iload 4, 2) := by decide +kernel
theorem dX9_evenOf_86 : decode cX9_evenOf 86 = .ok (.ifCond .ne 8, 3) := by decide +kernel
theorem dX9_evenOf_89 : decode cX9_evenOf 89 = .ok (.iload 5, 2) := by decide +kernel
theorem dX9_evenOf_91 : decode cX9_evenOf 91 = .ok (.goto 16, 3) := by decide +kernel
theorem dX9_evenOf_94 : decode cX9_evenOf 94 = .ok (.iload 4, 2) := by decide +kernel
theorem dX9_evenOf_96 : decode cX9_evenOf 96 = .ok (.iconst 1, 1) := by decide +kernel
theorem dX9_evenOf_97 : decode cX9_evenOf 97 = .ok (.if_icmp .ne 8, 3) := by decide +kernel
theorem dX9_evenOf_100 : decode cX9_evenOf 100 = .ok (.iload 6, 2) := by decide +kernel
theorem dX9_evenOf_102 : decode cX9_evenOf 102 = .ok (.goto 5, 3) := by decide +kernel
theorem dX9_evenOf_105 : decode cX9_evenOf 105 = .ok (.iload 7, 2) := by decide +kernel
theorem dX9_evenOf_107 : decode cX9_evenOf 107 = .ok (.ireturn, 1) := by decide +kernel
theorem dX9_even_0 : decode cX9_even 0 = .ok (.aload_n 0, 1) := by decide +kernel
theorem dX9_even_1 : decode cX9_even 1 = .ok (.iload_n 1, 1) := by decide +kernel
theorem dX9_even_2 : decode cX9_even 2 = .ok (.invokevirtual 103, 3) := by decide +kernel
theorem dX9_even_5 : decode cX9_even 5 = .ok (.ifCond .eq 45, 3) := by decide +kernel
theorem dX9_even_8 : decode cX9_even 8 = .ok (.iload_n 2, 1) := by decide +kernel
theorem dX9_even_9 : decode cX9_even 9 = .ok (.iconst 1, 1) := by decide +kernel
theorem dX9_even_10 : decode cX9_even 10 = .ok (.bipush 99, 2) := by decide +kernel
theorem dX9_even_12 : decode cX9_even 12 = .ok (.invokestatic 68, 3) := by decide +kernel
theorem dX9_even_15 : decode cX9_even 15 = .ok (.ifCond .eq 35, 3) := by decide +kernel
theorem dX9_even_18 : decode cX9_even 18 = .ok (.iload_n 3, 1) := by decide +kernel
theorem dX9_even_19 : decode cX9_even 19 = .ok (.iload_n 2, 1) := by decide +kernel
theorem dX9_even_20 : decode cX9_even 20 = .ok (.bipush 99, 2) := by decide +kernel
theorem dX9_even_22 : decode cX9_even 22 = .ok (.invokestatic 68, 3) := by decide +kernel
theorem dX9_even_25 : decode cX9_even 25 = .ok (.ifCond .eq 25, 3) := by decide +kernel
theorem dX9_even_28 : decode cX9_even 28 = .ok (.iload 4, 2) := by decide +kernel
theorem dX9_even_30 : decode cX9_even 30 = .ok (.iconst 0, 1) := by decide +kernel
theorem dX9_even_31 : decode cX9_even 31 = .ok (.iconst 2, 1) := by decide +kernel
theorem dX9_even_32 : decode cX9_even 32 = .ok (.invokestatic 68, 3) := by decide +kernel
theorem dX9_even_35 : decode cX9_even 35 = .ok (.ifCond .eq 15, 3) := by decide +kernel
theorem dX9_even_38 : decode cX9_even 38 = .ok (.aload_n 0, 1) := by decide +kernel
theorem dX9_even_39 : decode cX9_even 39 = .ok (.iload_n 1, 1) := by decide +kernel
theorem dX9_even_40 : decode cX9_even 40 = .ok (.iload_n 2, 1) := by decide +kernel
theorem dX9_even_41 : decode cX9_even 41 = .ok (.iload_n 3, 1) := by decide +kernel
theorem dX9_even_42 : decode cX9_even 42 = .ok (.iload 4, 2) := by decide +kernel
theorem dX9_even_44 : decode cX9_even 44 = .ok (.invokevirtual 121, 3) := by decide +kernel
theorem dX9_even_47 : decode cX9_even 47 = .ok (.goto 5, 3) := by decide +kernel
theorem dX9_even_50 : decode cX9_even 50 = .ok (.bipush (-2), 2) := by decide +kernel
theorem dX9_even_52 : decode cX9_even 52 = .ok (.ireturn, 1) := by decide +kernel
theorem dX9_blameBy_0 : decode cX9_blameBy 0 = .ok (.iconst 0, 1) := by decide +kernel
theorem dX9_blameBy_1 : decode cX9_blameBy 1 = .ok (.istore_n 2, 1) := by decide +kernel
theorem dX9_blameBy_2 : decode cX9_blameBy 2 = .ok (.iconst 0, 1) := by decide +kernel
theorem dX9_blameBy_3 : decode cX9_blameBy 3 = .ok (.istore_n 3, 1) := by decide +kernel
theorem dX9_blameBy_4 : decode cX9_blameBy 4 = .ok (.iload_n 3, 1) := by decide +kernel
theorem dX9_blameBy_5 : decode cX9_blameBy 5 = .ok (.aload_n 0, 1) := by decide +kernel
theorem dX9_blameBy_6 : decode cX9_blameBy 6 = .ok (.getfield 83, 3) := by decide +kernel
theorem dX9_blameBy_9 : decode cX9_blameBy 9 = .ok (.if_icmp .ge 54, 3) := by decide +kernel
theorem dX9_blameBy_12 : decode cX9_blameBy 12 = .ok (.iload_n 2, 1) := by decide +kernel
theorem dX9_blameBy_13 : decode cX9_blameBy 13 = .ok (.aload_n 0, 1) := by decide +kernel
theorem dX9_blameBy_14 : decode cX9_blameBy 14 = .ok (.getfield 25, 3) := by decide +kernel
theorem dX9_blameBy_17 : decode cX9_blameBy 17 = .ok (.iload_n 3, 1) := by decide +kernel
theorem dX9_blameBy_18 : decode cX9_blameBy 18 = .ok (.iaload, 1) := by decide +kernel
theorem dX9_blameBy_19 : decode cX9_blameBy 19 = .ok (.iconst 3, 1) := by decide +kernel
theorem dX9_blameBy_20 : decode cX9_blameBy 20 = .ok (.idiv, 1) := by decide +kernel
theorem dX9_blameBy_21 : decode cX9_blameBy 21 = .ok (.iload_n 1, 1) := by decide +kernel
theorem dX9_blameBy_22 : decode cX9_blameBy 22 = .ok (.if_icmp .ne 32, 3) := by decide +kernel
theorem dX9_blameBy_25 : decode cX9_blameBy 25 = .ok (.aload_n 0, 1) := by decide +kernel
theorem dX9_blameBy_26 : decode cX9_blameBy 26 = .ok (.aload_n 0, 1) := by decide +kernel
theorem dX9_blameBy_27 : decode cX9_blameBy 27 = .ok (.getfield 22, 3) := by decide +kernel
theorem dX9_blameBy_30 : decode cX9_blameBy 30 = .ok (.iload_n 3, 1) := by decide +kernel
theorem dX9_blameBy_31 : decode cX9_blameBy 31 = .ok (.iaload, 1) := by decide +kernel
theorem dX9_blameBy_32 : decode cX9_blameBy 32 = .ok (.aload_n 0, 1) := by decide +kernel
theorem dX9_blameBy_33 : decode cX9_blameBy 33 = .ok (.getfield 25, 3) := by decide +kernel
theorem dX9_blameBy_36 : decode cX9_blameBy 36 = .ok (.iload_n 3, 1) := by decide +kernel
theorem dX9_blameBy_37 : decode cX9_blameBy 37 = .ok (.iaload, 1) := by decide +kernel
theorem dX9_blameBy_38 : decode cX9_blameBy 38 = .ok (.invokevirtual 93, 3) := by decide +kernel
theorem dX9_blameBy_41 : decode cX9_blameBy 41 = .ok (.aload_n 0, 1) := by decide +kernel
theorem dX9_blameBy_42 : decode cX9_blameBy 42 = .ok (.getfield 22, 3) := by decide +kernel
theorem dX9_blameBy_45 : decode cX9_blameBy 45 = .ok (.iload_n 3, 1) := by decide +kernel
theorem dX9_blameBy_46 : decode cX9_blameBy 46 = .ok (.iaload, 1) := by decide +kernel
theorem dX9_blameBy_47 : decode cX9_blameBy 47 = .ok (.isub, 1) := by decide +kernel
theorem dX9_blameBy_48 : decode cX9_blameBy 48 = .ok (.invokestatic 115, 3) := by decide +kernel
theorem dX9_blameBy_51 : decode cX9_blameBy 51 = .ok (.goto 4, 3) := by decide +kernel
theorem dX9_blameBy_54 : decode cX9_blameBy 54 = .ok (.iconst 0, 1) := by decide +kernel
theorem dX9_blameBy_55 : decode cX9_blameBy 55 = .ok (.iadd, 1) := by decide +kernel
theorem dX9_blameBy_56 : decode cX9_blameBy 56 = .ok (.istore_n 2, 1) := by decide +kernel
theorem dX9_blameBy_57 : decode cX9_blameBy 57 = .ok (.iinc 3 1, 3) := by decide +kernel
theorem dX9_blameBy_60 : decode cX9_blameBy 60 = .ok (.goto (-56), 3) := by decide +kernel
theorem dX9_blameBy_63 : decode cX9_blameBy 63 = .ok (.iload_n 2, 1) := by decide +kernel
theorem dX9_blameBy_64 : decode cX9_blameBy 64 = .ok (.ireturn, 1) := by decide +kernel
theorem dX9_blameOf_0 : decode cX9_blameOf 0 = .ok (.aload_n 0, 1) := by decide +kernel
theorem dX9_blameOf_1 : decode cX9_blameOf 1 = .ok (.invokevirtual 89, 3) := by decide +kernel
theorem dX9_blameOf_4 : decode cX9_blameOf 4 = .ok (.istore 4, 2) := by decide +kernel
theorem dX9_blameOf_6 : decode cX9_blameOf 6 = .ok (.aload_n 0, 1) := by decide +kernel
theorem dX9_blameOf_7 : decode cX9_blameOf 7 = .ok (.iload_n 1, 1) := by decide +kernel
theorem dX9_blameOf_8 : decode cX9_blameOf 8 = .ok (.invokevirtual 125, 3) := by decide +kernel
theorem dX9_blameOf_11 : decode cX9_blameOf 11 = .ok (.istore 5, 2) := by decide +kernel
theorem dX9_blameOf_13 : decode cX9_blameOf 13 = .ok (.aload_n 0, 1) := by decide +kernel
theorem dX9_blameOf_14 : decode cX9_blameOf 14 = .ok (.iconst 0, 1) := by decide +kernel
theorem dX9_blameOf_15 : decode cX9_blameOf 15 = .ok (.invokevirtual 125, 3) := by decide +kernel
theorem dX9_blameOf_18 : decode cX9_blameOf 18 = .ok (.aload_n 0, 1) := by decide +kernel
theorem dX9_blameOf_19 : decode cX9_blameOf 19 = .ok (.iconst 1, 1) := by decide +kernel
theorem dX9_blameOf_20 : decode cX9_blameOf 20 = .ok (.invokevirtual 125, 3) := by decide +kernel
theorem dX9_blameOf_23 : decode cX9_blameOf 23 = .ok (.iadd, 1) := by decide +kernel
theorem dX9_blameOf_24 : decode cX9_blameOf 24 = .ok (.aload_n 0, 1) := by decide +kernel
theorem dX9_blameOf_25 : decode cX9_blameOf 25 = .ok (.iconst 2, 1) := by decide +kernel
theorem dX9_blameOf_26 : decode cX9_blameOf 26 = .ok (.invokevirtual 125, 3) := by decide +kernel
theorem dX9_blameOf_29 : decode cX9_blameOf 29 = .ok (.iadd, 1) := by decide +kernel
theorem dX9_blameOf_30 : decode cX9_blameOf 30 = .ok (.istore 6, 2) := by decide +kernel
theorem dX9_blameOf_32 : decode cX9_blameOf 32 = .ok (.iload_n 2, 1) := by decide +kernel
theorem dX9_blameOf_33 : decode cX9_blameOf 33 = .ok (.ifCond .ne 17, 3) := by decide +kernel
theorem dX9_blameOf_36 : decode cX9_blameOf 36 = .ok (.iload_n 3, 1) := by decide +kernel
theorem dX9_blameOf_37 : decode cX9_blameOf 37 = .ok (.ifCond .ne 9, 3) := by decide +kernel
theorem dX9_blameOf_40 : decode cX9_blameOf 40 = .ok (.iload 5, 2) := by decide +kernel
theorem dX9_blameOf_42 : decode cX9_blameOf 42 = .ok (.i2l, 1) := by decide +kernel
theorem dX9_blameOf_43 : decode cX9_blameOf 43 = .ok (.goto 30, 3) := by decide +kernel
theorem dX9_blameOf_46 : decode cX9_blameOf 46 = .ok (.lconst 1, 1) := by decide +kernel
theorem dX9_blameOf_47 : decode cX9_blameOf 47 = .ok (.goto 26, 3) := by decide +kernel
theorem dX9_blameOf_50 : decode cX9_blameOf 50 = .ok (.iload 6, 2) := by decide +kernel
theorem dX9_blameOf_52 : decode cX9_blameOf 52 = .ok (.ifCond .ne 11, 3) := by decide +kernel
theorem dX9_blameOf_55 : decode cX9_blameOf 55 = .ok (.bipush (-3), 2) := by decide +kernel
theorem dX9_blameOf_57 : decode cX9_blameOf 57 = .ok (.invokestatic 128, 3) := by decide +kernel
theorem dX9_blameOf_60 : decode cX9_blameOf 60 = .ok (.goto 13, 3) := by decide +kernel
theorem dX9_blameOf_63 : decode cX9_blameOf 63 = .ok (.iload 5, 2) := by decide +kernel
theorem dX9_blameOf_65 : decode cX9_blameOf 65 = .ok (.i2l, 1) := by decide +kernel
theorem dX9_blameOf_66 : decode cX9_blameOf 66 = .ok (.iload 6, 2) := by decide +kernel
theorem dX9_blameOf_68 : decode cX9_blameOf 68 = .ok (.i2l, 1) := by decide +kernel
theorem dX9_blameOf_69 : decode cX9_blameOf 69 = .ok (.iload_n 3, 1) := by decide +kernel
theorem dX9_blameOf_70 : decode cX9_blameOf 70 = .ok (.invokestatic 132, 3) := by decide +kernel
theorem dX9_blameOf_73 : decode cX9_blameOf 73 = .ok (.lreturn, 1) := by decide +kernel
theorem dX9_blame_0 : decode cX9_blame 0 = .ok (.iload_n 1, 1) := by decide +kernel
theorem dX9_blame_1 : decode cX9_blame 1 = .ok (.iconst 0, 1) := by decide +kernel
theorem dX9_blame_2 : decode cX9_blame 2 = .ok (.iconst 2, 1) := by decide +kernel
theorem dX9_blame_3 : decode cX9_blame 3 = .ok (.invokestatic 68, 3) := by decide +kernel
theorem dX9_blame_6 : decode cX9_blame 6 = .ok (.ifCond .eq 31, 3) := by decide +kernel
theorem dX9_blame_9 : decode cX9_blame 9 = .ok (.iload_n 2, 1) := by decide +kernel
theorem dX9_blame_10 : decode cX9_blame 10 = .ok (.iconst 0, 1) := by decide +kernel
theorem dX9_blame_11 : decode cX9_blame 11 = .ok (.iconst 1, 1) := by decide +kernel
theorem dX9_blame_12 : decode cX9_blame 12 = .ok (.invokestatic 68, 3) := by decide +kernel
theorem dX9_blame_15 : decode cX9_blame 15 = .ok (.ifCond .eq 22, 3) := by decide +kernel
theorem dX9_blame_18 : decode cX9_blame 18 = .ok (.iload_n 3, 1) := by decide +kernel
theorem dX9_blame_19 : decode cX9_blame 19 = .ok (.iconst 0, 1) := by decide +kernel
theorem dX9_blame_20 : decode cX9_blame 20 = .ok (.iconst 1, 1) := by decide +kernel
theorem dX9_blame_21 : decode cX9_blame 21 = .ok (.invokestatic 68, 3) := by decide +kernel
theorem dX9_blame_24 : decode cX9_blame 24 = .ok (.ifCond .eq 13, 3) := by decide +kernel
theorem dX9_blame_27 : decode cX9_blame 27 = .ok (.aload_n 0, 1) := by decide +kernel
theorem dX9_blame_28 : decode cX9_blame 28 = .ok (.iload_n 1, 1) := by decide +kernel
theorem dX9_blame_29 : decode cX9_blame 29 = .ok (.iload_n 2, 1) := by decide +kernel
theorem dX9_blame_30 : decode cX9_blame 30 = .ok (.iload_n 3, 1) := by decide +kernel
theorem dX9_blame_31 : decode cX9_blame 31 = .ok (.invokevirtual 136, 3) := by decide +kernel
theorem dX9_blame_34 : decode cX9_blame 34 = .ok (.goto 8, 3) := by decide +kernel
theorem dX9_blame_37 : decode cX9_blame 37 = .ok (.bipush (-2), 2) := by decide +kernel
theorem dX9_blame_39 : decode cX9_blame 39 = .ok (.invokestatic 128, 3) := by decide +kernel
theorem dX9_blame_42 : decode cX9_blame 42 = .ok (.lreturn, 1) := by decide +kernel
theorem dX9_isFound_0 : decode cX9_isFound 0 = .ok (.iload_n 0, 1) := by decide +kernel
theorem dX9_isFound_1 : decode cX9_isFound 1 = .ok (.iconst (-1), 1) := by decide +kernel
theorem dX9_isFound_2 : decode cX9_isFound 2 = .ok (.if_icmp .eq 13, 3) := by decide +kernel
theorem dX9_isFound_5 : decode cX9_isFound 5 = .ok (.iload_n 0, 1) := by decide +kernel
theorem dX9_isFound_6 : decode cX9_isFound 6 = .ok (.iconst 1, 1) := by decide +kernel
theorem dX9_isFound_7 : decode cX9_isFound 7 = .ok (.ldc 111, 2) := by decide +kernel
theorem dX9_isFound_9 : decode cX9_isFound 9 = .ok (.invokestatic 68, 3) := by decide +kernel
theorem dX9_isFound_12 : decode cX9_isFound 12 = .ok (.ifCond .eq 7, 3) := by decide +kernel
theorem dX9_isFound_15 : decode cX9_isFound 15 = .ok (.iconst 1, 1) := by decide +kernel
theorem dX9_isFound_16 : decode cX9_isFound 16 = .ok (.goto 4, 3) := by decide +kernel
theorem dX9_isFound_19 : decode cX9_isFound 19 = .ok (.iconst 0, 1) := by decide +kernel
theorem dX9_isFound_20 : decode cX9_isFound 20 = .ok (.ireturn, 1) := by decide +kernel
theorem dX9_found_0 : decode cX9_found 0 = .ok (.iload_n 1, 1) := by decide +kernel
theorem dX9_found_1 : decode cX9_found 1 = .ok (.iconst 0, 1) := by decide +kernel
theorem dX9_found_2 : decode cX9_found 2 = .ok (.bipush 9, 2) := by decide +kernel
theorem dX9_found_4 : decode cX9_found 4 = .ok (.invokestatic 68, 3) := by decide +kernel
theorem dX9_found_7 : decode cX9_found 7 = .ok (.ifCond .eq 10, 3) := by decide +kernel
theorem dX9_found_10 : decode cX9_found 10 = .ok (.iload_n 2, 1) := by decide +kernel
theorem dX9_found_11 : decode cX9_found 11 = .ok (.invokestatic 140, 3) := by decide +kernel
theorem dX9_found_14 : decode cX9_found 14 = .ok (.ifCond .ne 6, 3) := by decide +kernel
theorem dX9_found_17 : decode cX9_found 17 = .ok (.bipush (-5), 2) := by decide +kernel
theorem dX9_found_19 : decode cX9_found 19 = .ok (.ireturn, 1) := by decide +kernel
theorem dX9_found_20 : decode cX9_found 20 = .ok (.aload_n 0, 1) := by decide +kernel
theorem dX9_found_21 : decode cX9_found 21 = .ok (.getfield 31, 3) := by decide +kernel
theorem dX9_found_24 : decode cX9_found 24 = .ok (.iload_n 1, 1) := by decide +kernel
theorem dX9_found_25 : decode cX9_found 25 = .ok (.iaload, 1) := by decide +kernel
theorem dX9_found_26 : decode cX9_found 26 = .ok (.istore_n 3, 1) := by decide +kernel
theorem dX9_found_27 : decode cX9_found 27 = .ok (.aload_n 0, 1) := by decide +kernel
theorem dX9_found_28 : decode cX9_found 28 = .ok (.getfield 31, 3) := by decide +kernel
theorem dX9_found_31 : decode cX9_found 31 = .ok (.iload_n 1, 1) := by decide +kernel
theorem dX9_found_32 : decode cX9_found 32 = .ok (.iload_n 2, 1) := by decide +kernel
theorem dX9_found_33 : decode cX9_found 33 = .ok (.iastore, 1) := by decide +kernel
theorem dX9_found_34 : decode cX9_found 34 = .ok (.iload_n 3, 1) := by decide +kernel
theorem dX9_found_35 : decode cX9_found 35 = .ok (.ireturn, 1) := by decide +kernel
theorem dX9_read_0 : decode cX9_read 0 = .ok (.iload_n 1, 1) := by decide +kernel
theorem dX9_read_1 : decode cX9_read 1 = .ok (.invokestatic 143, 3) := by decide +kernel
theorem dX9_read_4 : decode cX9_read 4 = .ok (.ifCond .ne 6, 3) := by decide +kernel
theorem dX9_read_7 : decode cX9_read 7 = .ok (.bipush (-2), 2) := by decide +kernel
theorem dX9_read_9 : decode cX9_read 9 = .ok (.ireturn, 1) := by decide +kernel
theorem dX9_read_10 : decode cX9_read 10 = .ok (.aload_n 0, 1) := by decide +kernel
theorem dX9_read_11 : decode cX9_read 11 = .ok (.getfield 50, 3) := by decide +kernel
theorem dX9_read_14 : decode cX9_read 14 = .ok (.iload_n 1, 1) := by decide +kernel
theorem dX9_read_15 : decode cX9_read 15 = .ok (.baload, 1) := by decide +kernel
theorem dX9_read_16 : decode cX9_read 16 = .ok (.ifCond .ne 9, 3) := by decide +kernel
theorem dX9_read_19 : decode cX9_read 19 = .ok (.aload_n 0, 1) := by decide +kernel
theorem dX9_read_20 : decode cX9_read 20 = .ok (.iconst 1, 1) := by decide +kernel
theorem dX9_read_21 : decode cX9_read 21 = .ok (.invokevirtual 146, 3) := by decide +kernel
theorem dX9_read_24 : decode cX9_read 24 = .ok (.ireturn, 1) := by decide +kernel
theorem dX9_read_25 : decode cX9_read 25 = .ok (.iconst 0, 1) := by decide +kernel
theorem dX9_read_26 : decode cX9_read 26 = .ok (.istore_n 2, 1) := by decide +kernel
theorem dX9_read_27 : decode cX9_read 27 = .ok (.iload_n 2, 1) := by decide +kernel
theorem dX9_read_28 : decode cX9_read 28 = .ok (.aload_n 0, 1) := by decide +kernel
theorem dX9_read_29 : decode cX9_read 29 = .ok (.getfield 57, 3) := by decide +kernel
theorem dX9_read_32 : decode cX9_read 32 = .ok (.iload_n 1, 1) := by decide +kernel
theorem dX9_read_33 : decode cX9_read 33 = .ok (.iaload, 1) := by decide +kernel
theorem dX9_read_34 : decode cX9_read 34 = .ok (.if_icmp .ge 49, 3) := by decide +kernel
theorem dX9_read_37 : decode cX9_read 37 = .ok (.iload_n 2, 1) := by decide +kernel
theorem dX9_read_38 : decode cX9_read 38 = .ok (.bipush 10, 2) := by decide +kernel
theorem dX9_read_40 : decode cX9_read 40 = .ok (.if_icmp .ge 43, 3) := by decide +kernel
theorem dX9_read_43 : decode cX9_read 43 = .ok (.aload_n 0, 1) := by decide +kernel
theorem dX9_read_44 : decode cX9_read 44 = .ok (.getfield 60, 3) := by decide +kernel
theorem dX9_read_47 : decode cX9_read 47 = .ok (.bipush 48, 2) := by decide +kernel
theorem dX9_read_49 : decode cX9_read 49 = .ok (.iload_n 1, 1) := by decide +kernel
theorem dX9_read_50 : decode cX9_read 50 = .ok (.imul, 1) := by decide +kernel
theorem dX9_read_51 : decode cX9_read 51 = .ok (.iload_n 2, 1) := by decide +kernel
theorem dX9_read_52 : decode cX9_read 52 = .ok (.iadd, 1) := by decide +kernel
theorem dX9_read_53 : decode cX9_read 53 = .ok (.iaload, 1) := by decide +kernel
theorem dX9_read_54 : decode cX9_read 54 = .ok (.invokestatic 140, 3) := by decide +kernel
theorem dX9_read_57 : decode cX9_read 57 = .ok (.ifCond .eq 26, 3) := by decide +kernel
theorem dX9_read_60 : decode cX9_read 60 = .ok (.aload_n 0, 1) := by decide +kernel
theorem dX9_read_61 : decode cX9_read 61 = .ok (.getfield 31, 3) := by decide +kernel
theorem dX9_read_64 : decode cX9_read 64 = .ok (.iload_n 2, 1) := by decide +kernel
theorem dX9_read_65 : decode cX9_read 65 = .ok (.aload_n 0, 1) := by decide +kernel
theorem dX9_read_66 : decode cX9_read 66 = .ok (.getfield 60, 3) := by decide +kernel
theorem dX9_read_69 : decode cX9_read 69 = .ok (.bipush 48, 2) := by decide +kernel
theorem dX9_read_71 : decode cX9_read 71 = .ok (.iload_n 1, 1) := by decide +kernel
theorem dX9_read_72 : decode cX9_read 72 = .ok (.imul, 1) := by decide +kernel
theorem dX9_read_73 : decode cX9_read 73 = .ok (.iload_n 2, 1) := by decide +kernel
theorem dX9_read_74 : decode cX9_read 74 = .ok (.iadd, 1) := by decide +kernel
theorem dX9_read_75 : decode cX9_read 75 = .ok (.iaload, 1) := by decide +kernel
theorem dX9_read_76 : decode cX9_read 76 = .ok (.iastore, 1) := by decide +kernel
theorem dX9_read_77 : decode cX9_read 77 = .ok (.iinc 2 1, 3) := by decide +kernel
theorem dX9_read_80 : decode cX9_read 80 = .ok (.goto (-53), 3) := by decide +kernel
theorem dX9_read_83 : decode cX9_read 83 = .ok (.iload_n 2, 1) := by decide +kernel
theorem dX9_read_84 : decode cX9_read 84 = .ok (.ireturn, 1) := by decide +kernel
theorem dX9_isFit_0 : decode cX9_isFit 0 = .ok (.aload_n 0, 1) := by decide +kernel
theorem dX9_isFit_1 : decode cX9_isFit 1 = .ok (.getfield 31, 3) := by decide +kernel
theorem dX9_isFit_4 : decode cX9_isFit 4 = .ok (.iload_n 1, 1) := by decide +kernel
theorem dX9_isFit_5 : decode cX9_isFit 5 = .ok (.iaload, 1) := by decide +kernel
theorem dX9_isFit_6 : decode cX9_isFit 6 = .ok (.iconst (-1), 1) := by decide +kernel
theorem dX9_isFit_7 : decode cX9_isFit 7 = .ok (.if_icmp .eq 33, 3) := by decide +kernel
theorem dX9_isFit_10 : decode cX9_isFit 10 = .ok (.aload_n 0, 1) := by decide +kernel
theorem dX9_isFit_11 : decode cX9_isFit 11 = .ok (.aload_n 0, 1) := by decide +kernel
theorem dX9_isFit_12 : decode cX9_isFit 12 = .ok (.getfield 22, 3) := by decide +kernel
theorem dX9_isFit_15 : decode cX9_isFit 15 = .ok (.iload_n 1, 1) := by decide +kernel
theorem dX9_isFit_16 : decode cX9_isFit 16 = .ok (.iaload, 1) := by decide +kernel
theorem dX9_isFit_17 : decode cX9_isFit 17 = .ok (.iload_n 2, 1) := by decide +kernel
theorem dX9_isFit_18 : decode cX9_isFit 18 = .ok (.invokevirtual 93, 3) := by decide +kernel
theorem dX9_isFit_21 : decode cX9_isFit 21 = .ok (.aload_n 0, 1) := by decide +kernel
theorem dX9_isFit_22 : decode cX9_isFit 22 = .ok (.getfield 31, 3) := by decide +kernel
theorem dX9_isFit_25 : decode cX9_isFit 25 = .ok (.iload_n 1, 1) := by decide +kernel
theorem dX9_isFit_26 : decode cX9_isFit 26 = .ok (.iaload, 1) := by decide +kernel
theorem dX9_isFit_27 : decode cX9_isFit 27 = .ok (.isub, 1) := by decide +kernel
theorem dX9_isFit_28 : decode cX9_isFit 28 = .ok (.invokestatic 115, 3) := by decide +kernel
theorem dX9_isFit_31 : decode cX9_isFit 31 = .ok (.aload_n 0, 1) := by decide +kernel
theorem dX9_isFit_32 : decode cX9_isFit 32 = .ok (.getfield 16, 3) := by decide +kernel
theorem dX9_isFit_35 : decode cX9_isFit 35 = .ok (.iconst 0, 1) := by decide +kernel
theorem dX9_isFit_36 : decode cX9_isFit 36 = .ok (.iaload, 1) := by decide +kernel
theorem dX9_isFit_37 : decode cX9_isFit 37 = .ok (.if_icmp .gt 7, 3) := by decide +kernel
theorem dX9_isFit_40 : decode cX9_isFit 40 = .ok (.iconst 1, 1) := by decide +kernel
theorem dX9_isFit_41 : decode cX9_isFit 41 = .ok (.goto 4, 3) := by decide +kernel
theorem dX9_isFit_44 : decode cX9_isFit 44 = .ok (.iconst 0, 1) := by decide +kernel
theorem dX9_isFit_45 : decode cX9_isFit 45 = .ok (.ireturn, 1) := by decide +kernel
theorem dX9_fitsOf_0 : decode cX9_fitsOf 0 = .ok (.iconst 0, 1) := by decide +kernel
theorem dX9_fitsOf_1 : decode cX9_fitsOf 1 = .ok (.istore_n 2, 1) := by decide +kernel
theorem dX9_fitsOf_2 : decode cX9_fitsOf 2 = .ok (.iconst 0, 1) := by decide +kernel
theorem dX9_fitsOf_3 : decode cX9_fitsOf 3 = .ok (.istore_n 3, 1) := by decide +kernel
theorem dX9_fitsOf_4 : decode cX9_fitsOf 4 = .ok (.iload_n 3, 1) := by decide +kernel
theorem dX9_fitsOf_5 : decode cX9_fitsOf 5 = .ok (.bipush 9, 2) := by decide +kernel
theorem dX9_fitsOf_7 : decode cX9_fitsOf 7 = .ok (.if_icmp .ge 28, 3) := by decide +kernel
theorem dX9_fitsOf_10 : decode cX9_fitsOf 10 = .ok (.iload_n 2, 1) := by decide +kernel
theorem dX9_fitsOf_11 : decode cX9_fitsOf 11 = .ok (.aload_n 0, 1) := by decide +kernel
theorem dX9_fitsOf_12 : decode cX9_fitsOf 12 = .ok (.iload_n 1, 1) := by decide +kernel
theorem dX9_fitsOf_13 : decode cX9_fitsOf 13 = .ok (.iload_n 3, 1) := by decide +kernel
theorem dX9_fitsOf_14 : decode cX9_fitsOf 14 = .ok (.invokevirtual 149, 3) := by decide +kernel
theorem dX9_fitsOf_17 : decode cX9_fitsOf 17 = .ok (.ifCond .eq 9, 3) := by decide +kernel
theorem dX9_fitsOf_20 : decode cX9_fitsOf 20 = .ok (.iconst 1, 1) := by decide +kernel
theorem dX9_fitsOf_21 : decode cX9_fitsOf 21 = .ok (.iload_n 3, 1) := by decide +kernel
theorem dX9_fitsOf_22 : decode cX9_fitsOf 22 = .ok (.ishl, 1) := by decide +kernel
theorem dX9_fitsOf_23 : decode cX9_fitsOf 23 = .ok (.goto 4, 3) := by decide +kernel
theorem dX9_fitsOf_26 : decode cX9_fitsOf 26 = .ok (.iconst 0, 1) := by decide +kernel
theorem dX9_fitsOf_27 : decode cX9_fitsOf 27 = .ok (.ior, 1) := by decide +kernel
theorem dX9_fitsOf_28 : decode cX9_fitsOf 28 = .ok (.istore_n 2, 1) := by decide +kernel
theorem dX9_fitsOf_29 : decode cX9_fitsOf 29 = .ok (.iinc 3 1, 3) := by decide +kernel
theorem dX9_fitsOf_32 : decode cX9_fitsOf 32 = .ok (.goto (-28), 3) := by decide +kernel
theorem dX9_fitsOf_35 : decode cX9_fitsOf 35 = .ok (.iload_n 2, 1) := by decide +kernel
theorem dX9_fitsOf_36 : decode cX9_fitsOf 36 = .ok (.ireturn, 1) := by decide +kernel
theorem dX9_fits_0 : decode cX9_fits 0 = .ok (.aload_n 0, 1) := by decide +kernel
theorem dX9_fits_1 : decode cX9_fits 1 = .ok (.iload_n 1, 1) := by decide +kernel
theorem dX9_fits_2 : decode cX9_fits 2 = .ok (.invokevirtual 103, 3) := by decide +kernel
theorem dX9_fits_5 : decode cX9_fits 5 = .ok (.ifCond .eq 11, 3) := by decide +kernel
theorem dX9_fits_8 : decode cX9_fits 8 = .ok (.aload_n 0, 1) := by decide +kernel
theorem dX9_fits_9 : decode cX9_fits 9 = .ok (.iload_n 1, 1) := by decide +kernel
theorem dX9_fits_10 : decode cX9_fits 10 = .ok (.invokevirtual 153, 3) := by decide +kernel
theorem dX9_fits_13 : decode cX9_fits 13 = .ok (.goto 5, 3) := by decide +kernel
theorem dX9_fits_16 : decode cX9_fits 16 = .ok (.bipush (-2), 2) := by decide +kernel
theorem dX9_fits_18 : decode cX9_fits 18 = .ok (.ireturn, 1) := by decide +kernel
theorem dX9_worldsBy_0 : decode cX9_worldsBy 0 = .ok (.aload_n 0, 1) := by decide +kernel
theorem dX9_worldsBy_1 : decode cX9_worldsBy 1 = .ok (.invokevirtual 97, 3) := by decide +kernel
theorem dX9_worldsBy_4 : decode cX9_worldsBy 4 = .ok (.istore_n 3, 1) := by decide +kernel
theorem dX9_worldsBy_5 : decode cX9_worldsBy 5 = .ok (.iconst 0, 1) := by decide +kernel
theorem dX9_worldsBy_6 : decode cX9_worldsBy 6 = .ok (.istore 4, 2) := by decide +kernel
theorem dX9_worldsBy_8 : decode cX9_worldsBy 8 = .ok (.iload 4, 2) := by decide +kernel
theorem dX9_worldsBy_10 : decode cX9_worldsBy 10 = .ok (.iload_n 3, 1) := by decide +kernel
theorem dX9_worldsBy_11 : decode cX9_worldsBy 11 = .ok (.if_icmp .ge 172, 3) := by decide +kernel
theorem dX9_worldsBy_14 : decode cX9_worldsBy 14 = .ok (.iconst 0, 1) := by decide +kernel
theorem dX9_worldsBy_15 : decode cX9_worldsBy 15 = .ok (.istore 5, 2) := by decide +kernel
theorem dX9_worldsBy_17 : decode cX9_worldsBy 17 = .ok (.iload 5, 2) := by decide +kernel
theorem dX9_worldsBy_19 : decode cX9_worldsBy 19 = .ok (.bipush 9, 2) := by decide +kernel
theorem dX9_worldsBy_21 : decode cX9_worldsBy 21 = .ok (.if_icmp .ge 126, 3) := by decide +kernel
theorem dX9_worldsBy_24 : decode cX9_worldsBy 24 = .ok (.aload_n 0, 1) := by decide +kernel
theorem dX9_worldsBy_25 : decode cX9_worldsBy 25 = .ok (.iload 4, 2) := by decide +kernel
theorem dX9_worldsBy_27 : decode cX9_worldsBy 27 = .ok (.iload 5, 2) := by decide +kernel
theorem dX9_worldsBy_29 : decode cX9_worldsBy 29 = .ok (.invokevirtual 149, 3) := by decide +kernel
theorem dX9_worldsBy_32 : decode cX9_worldsBy 32 = .ok (.ifCond .eq 21, 3) := by decide +kernel
theorem dX9_worldsBy_35 : decode cX9_worldsBy 35 = .ok (.iload 4, 2) := by decide +kernel
theorem dX9_worldsBy_37 : decode cX9_worldsBy 37 = .ok (.iload_n 1, 1) := by decide +kernel
theorem dX9_worldsBy_38 : decode cX9_worldsBy 38 = .ok (.if_icmp .ne 11, 3) := by decide +kernel
theorem dX9_worldsBy_41 : decode cX9_worldsBy 41 = .ok (.iload 5, 2) := by decide +kernel
theorem dX9_worldsBy_43 : decode cX9_worldsBy 43 = .ok (.iconst 3, 1) := by decide +kernel
theorem dX9_worldsBy_44 : decode cX9_worldsBy 44 = .ok (.idiv, 1) := by decide +kernel
theorem dX9_worldsBy_45 : decode cX9_worldsBy 45 = .ok (.iload_n 2, 1) := by decide +kernel
theorem dX9_worldsBy_46 : decode cX9_worldsBy 46 = .ok (.if_icmp .ne 7, 3) := by decide +kernel
theorem dX9_worldsBy_49 : decode cX9_worldsBy 49 = .ok (.iconst 1, 1) := by decide +kernel
theorem dX9_worldsBy_50 : decode cX9_worldsBy 50 = .ok (.goto 4, 3) := by decide +kernel
theorem dX9_worldsBy_53 : decode cX9_worldsBy 53 = .ok (.iconst 0, 1) := by decide +kernel
theorem dX9_worldsBy_54 : decode cX9_worldsBy 54 = .ok (.istore 6, 2) := by decide +kernel
theorem dX9_worldsBy_56 : decode cX9_worldsBy 56 = .ok (.iload 4, 2) := by decide +kernel
theorem dX9_worldsBy_58 : decode cX9_worldsBy 58 = .ok (.ifCond .ne 7, 3) := by decide +kernel
theorem dX9_worldsBy_61 : decode cX9_worldsBy 61 = .ok (.lconst 1, 1) := by decide +kernel
theorem dX9_worldsBy_62 : decode cX9_worldsBy 62 = .ok (.goto 4, 3) := by decide +kernel
theorem dX9_worldsBy_65 : decode cX9_worldsBy 65 = .ok (.lconst 0, 1) := by decide +kernel
theorem dX9_worldsBy_66 : decode cX9_worldsBy 66 = .ok (.lstore 7, 2) := by decide +kernel
theorem dX9_worldsBy_68 : decode cX9_worldsBy 68 = .ok (.iconst 0, 1) := by decide +kernel
theorem dX9_worldsBy_69 : decode cX9_worldsBy 69 = .ok (.istore 9, 2) := by decide +kernel
theorem dX9_worldsBy_71 : decode cX9_worldsBy 71 = .ok (.iload 9, 2) := by decide +kernel
theorem dX9_worldsBy_73 : decode cX9_worldsBy 73 = .ok (.bipush 9, 2) := by decide +kernel
theorem dX9_worldsBy_75 : decode cX9_worldsBy 75 = .ok (.if_icmp .ge 48, 3) := by decide +kernel
theorem dX9_worldsBy_78 : decode cX9_worldsBy 78 = .ok (.iload 4, 2) := by decide +kernel
theorem dX9_worldsBy_80 : decode cX9_worldsBy 80 = .ok (.ifCond .le 43, 3) := by decide +kernel
theorem dX9_worldsBy_83 : decode cX9_worldsBy 83 = .ok (.lload 7, 2) := by decide +kernel
theorem dX9_worldsBy_85 : decode cX9_worldsBy 85 = .ok (.iload 9, 2) := by decide +kernel
theorem dX9_worldsBy_87 : decode cX9_worldsBy 87 = .ok (.iload 5, 2) := by decide +kernel
theorem dX9_worldsBy_89 : decode cX9_worldsBy 89 = .ok (.if_icmp .eq 14, 3) := by decide +kernel
theorem dX9_worldsBy_92 : decode cX9_worldsBy 92 = .ok (.iload 9, 2) := by decide +kernel
theorem dX9_worldsBy_94 : decode cX9_worldsBy 94 = .ok (.iconst 3, 1) := by decide +kernel
theorem dX9_worldsBy_95 : decode cX9_worldsBy 95 = .ok (.idiv, 1) := by decide +kernel
theorem dX9_worldsBy_96 : decode cX9_worldsBy 96 = .ok (.iload 5, 2) := by decide +kernel
theorem dX9_worldsBy_98 : decode cX9_worldsBy 98 = .ok (.iconst 3, 1) := by decide +kernel
theorem dX9_worldsBy_99 : decode cX9_worldsBy 99 = .ok (.idiv, 1) := by decide +kernel
theorem dX9_worldsBy_100 : decode cX9_worldsBy 100 = .ok (.if_icmp .eq 13, 3) := by decide +kernel
theorem dX9_worldsBy_103 : decode cX9_worldsBy 103 = .ok (.aload_n 0, 1) := by decide +kernel
theorem dX9_worldsBy_104 : decode cX9_worldsBy 104 = .ok (.getfield 40, 3) := by decide +kernel
theorem dX9_worldsBy_107 : decode cX9_worldsBy 107 = .ok (.iload 9, 2) := by decide +kernel
theorem dX9_worldsBy_109 : decode cX9_worldsBy 109 = .ok (.laload, 1) := by decide +kernel
theorem dX9_worldsBy_110 : decode cX9_worldsBy 110 = .ok (.goto 4, 3) := by decide +kernel
theorem dX9_worldsBy_113 : decode cX9_worldsBy 113 = .ok (.lconst 0, 1) := by decide +kernel
theorem dX9_worldsBy_114 : decode cX9_worldsBy 114 = .ok (.ladd, 1) := by decide +kernel
theorem dX9_worldsBy_115 : decode cX9_worldsBy 115 = .ok (.lstore 7, 2) := by decide +kernel
theorem dX9_worldsBy_117 : decode cX9_worldsBy 117 = .ok (.iinc 9 1, 3) := by decide +kernel
theorem dX9_worldsBy_120 : decode cX9_worldsBy 120 = .ok (.goto (-49), 3) := by decide +kernel
theorem dX9_worldsBy_123 : decode cX9_worldsBy 123 = .ok (.aload_n 0, 1) := by decide +kernel
theorem dX9_worldsBy_124 : decode cX9_worldsBy 124 = .ok (.getfield 44, 3) := by decide +kernel
theorem dX9_worldsBy_127 : decode cX9_worldsBy 127 = .ok (.iload 5, 2) := by decide +kernel
theorem dX9_worldsBy_129 : decode cX9_worldsBy 129 = .ok (.iload 6, 2) := by decide +kernel
theorem dX9_worldsBy_131 : decode cX9_worldsBy 131 = .ok (.ifCond .eq 8, 3) := by decide +kernel
theorem dX9_worldsBy_134 : decode cX9_worldsBy 134 = .ok (.lload 7, 2) := by decide +kernel
theorem dX9_worldsBy_136 : decode cX9_worldsBy 136 = .ok (.goto 4, 3) := by decide +kernel
theorem dX9_worldsBy_139 : decode cX9_worldsBy 139 = .ok (.lconst 0, 1) := by decide +kernel
theorem dX9_worldsBy_140 : decode cX9_worldsBy 140 = .ok (.lastore, 1) := by decide +kernel
theorem dX9_worldsBy_141 : decode cX9_worldsBy 141 = .ok (.iinc 5 1, 3) := by decide +kernel
theorem dX9_worldsBy_144 : decode cX9_worldsBy 144 = .ok (.goto (-127), 3) := by decide +kernel
theorem dX9_worldsBy_147 : decode cX9_worldsBy 147 = .ok (.iconst 0, 1) := by decide +kernel
theorem dX9_worldsBy_148 : decode cX9_worldsBy 148 = .ok (.istore 5, 2) := by decide +kernel
theorem dX9_worldsBy_150 : decode cX9_worldsBy 150 = .ok (.iload 5, 2) := by decide +kernel
theorem dX9_worldsBy_152 : decode cX9_worldsBy 152 = .ok (.bipush 9, 2) := by decide +kernel
theorem dX9_worldsBy_154 : decode cX9_worldsBy 154 = .ok (.if_icmp .ge 23, 3) := by decide +kernel
theorem dX9_worldsBy_157 : decode cX9_worldsBy 157 = .ok (.aload_n 0, 1) := by decide +kernel
theorem dX9_worldsBy_158 : decode cX9_worldsBy 158 = .ok (.getfield 40, 3) := by decide +kernel
theorem dX9_worldsBy_161 : decode cX9_worldsBy 161 = .ok (.iload 5, 2) := by decide +kernel
theorem dX9_worldsBy_163 : decode cX9_worldsBy 163 = .ok (.aload_n 0, 1) := by decide +kernel
theorem dX9_worldsBy_164 : decode cX9_worldsBy 164 = .ok (.getfield 44, 3) := by decide +kernel
theorem dX9_worldsBy_167 : decode cX9_worldsBy 167 = .ok (.iload 5, 2) := by decide +kernel
theorem dX9_worldsBy_169 : decode cX9_worldsBy 169 = .ok (.laload, 1) := by decide +kernel
theorem dX9_worldsBy_170 : decode cX9_worldsBy 170 = .ok (.lastore, 1) := by decide +kernel
theorem dX9_worldsBy_171 : decode cX9_worldsBy 171 = .ok (.iinc 5 1, 3) := by decide +kernel
theorem dX9_worldsBy_174 : decode cX9_worldsBy 174 = .ok (.goto (-24), 3) := by decide +kernel
theorem dX9_worldsBy_177 : decode cX9_worldsBy 177 = .ok (.iinc 4 1, 3) := by decide +kernel
theorem dX9_worldsBy_180 : decode cX9_worldsBy 180 = .ok (.goto (-172), 3) := by decide +kernel
theorem dX9_worldsBy_183 : decode cX9_worldsBy 183 = .ok (.iload_n 3, 1) := by decide +kernel
theorem dX9_worldsBy_184 : decode cX9_worldsBy 184 = .ok (.ifCond .ne 7, 3) := by decide +kernel
theorem dX9_worldsBy_187 : decode cX9_worldsBy 187 = .ok (.lconst 1, 1) := by decide +kernel
theorem dX9_worldsBy_188 : decode cX9_worldsBy 188 = .ok (.goto 4, 3) := by decide +kernel
theorem dX9_worldsBy_191 : decode cX9_worldsBy 191 = .ok (.lconst 0, 1) := by decide +kernel
theorem dX9_worldsBy_192 : decode cX9_worldsBy 192 = .ok (.lstore 4, 2) := by decide +kernel
theorem dX9_worldsBy_194 : decode cX9_worldsBy 194 = .ok (.iconst 0, 1) := by decide +kernel
theorem dX9_worldsBy_195 : decode cX9_worldsBy 195 = .ok (.istore 6, 2) := by decide +kernel
theorem dX9_worldsBy_197 : decode cX9_worldsBy 197 = .ok (.iload 6, 2) := by decide +kernel
theorem dX9_worldsBy_199 : decode cX9_worldsBy 199 = .ok (.bipush 9, 2) := by decide +kernel
theorem dX9_worldsBy_201 : decode cX9_worldsBy 201 = .ok (.if_icmp .ge 25, 3) := by decide +kernel
theorem dX9_worldsBy_204 : decode cX9_worldsBy 204 = .ok (.iload_n 3, 1) := by decide +kernel
theorem dX9_worldsBy_205 : decode cX9_worldsBy 205 = .ok (.ifCond .le 21, 3) := by decide +kernel
theorem dX9_worldsBy_208 : decode cX9_worldsBy 208 = .ok (.lload 4, 2) := by decide +kernel
theorem dX9_worldsBy_210 : decode cX9_worldsBy 210 = .ok (.aload_n 0, 1) := by decide +kernel
theorem dX9_worldsBy_211 : decode cX9_worldsBy 211 = .ok (.getfield 40, 3) := by decide +kernel
theorem dX9_worldsBy_214 : decode cX9_worldsBy 214 = .ok (.iload 6, 2) := by decide +kernel
theorem dX9_worldsBy_216 : decode cX9_worldsBy 216 = .ok (.laload, 1) := by decide +kernel
theorem dX9_worldsBy_217 : decode cX9_worldsBy 217 = .ok (.ladd, 1) := by decide +kernel
theorem dX9_worldsBy_218 : decode cX9_worldsBy 218 = .ok (.lstore 4, 2) := by decide +kernel
theorem dX9_worldsBy_220 : decode cX9_worldsBy 220 = .ok (.iinc 6 1, 3) := by decide +kernel
theorem dX9_worldsBy_223 : decode cX9_worldsBy 223 = .ok (.goto (-26), 3) := by decide +kernel
theorem dX9_worldsBy_226 : decode cX9_worldsBy 226 = .ok (.lload 4, 2) := by decide +kernel
theorem dX9_worldsBy_228 : decode cX9_worldsBy 228 = .ok (.lreturn, 1) := by decide +kernel
theorem dX9_worlds_0 : decode cX9_worlds 0 = .ok (.aload_n 0, 1) := by decide +kernel
theorem dX9_worlds_1 : decode cX9_worlds 1 = .ok (.iconst (-1), 1) := by decide +kernel
theorem dX9_worlds_2 : decode cX9_worlds 2 = .ok (.iconst 0, 1) := by decide +kernel
theorem dX9_worlds_3 : decode cX9_worlds 3 = .ok (.invokevirtual 156, 3) := by decide +kernel
theorem dX9_worlds_6 : decode cX9_worlds 6 = .ok (.lreturn, 1) := by decide +kernel
theorem dX9_oddsOf_0 : decode cX9_oddsOf 0 = .ok (.aload_n 0, 1) := by decide +kernel
theorem dX9_oddsOf_1 : decode cX9_oddsOf 1 = .ok (.iconst (-1), 1) := by decide +kernel
theorem dX9_oddsOf_2 : decode cX9_oddsOf 2 = .ok (.iconst 0, 1) := by decide +kernel
theorem dX9_oddsOf_3 : decode cX9_oddsOf 3 = .ok (.invokevirtual 156, 3) := by decide +kernel
theorem dX9_oddsOf_6 : decode cX9_oddsOf 6 = .ok (.lstore 4, 2) := by decide +kernel
theorem dX9_oddsOf_8 : decode cX9_oddsOf 8 = .ok (.lload 4, 2) := by decide +kernel
theorem dX9_oddsOf_10 : decode cX9_oddsOf 10 = .ok (.lconst 0, 1) := by decide +kernel
theorem dX9_oddsOf_11 : decode cX9_oddsOf 11 = .ok (.lcmp, 1) := by decide +kernel
theorem dX9_oddsOf_12 : decode cX9_oddsOf 12 = .ok (.ifCond .ne 11, 3) := by decide +kernel
theorem dX9_oddsOf_15 : decode cX9_oddsOf 15 = .ok (.bipush (-3), 2) := by decide +kernel
theorem dX9_oddsOf_17 : decode cX9_oddsOf 17 = .ok (.invokestatic 128, 3) := by decide +kernel
theorem dX9_oddsOf_20 : decode cX9_oddsOf 20 = .ok (.goto 15, 3) := by decide +kernel
theorem dX9_oddsOf_23 : decode cX9_oddsOf 23 = .ok (.aload_n 0, 1) := by decide +kernel
theorem dX9_oddsOf_24 : decode cX9_oddsOf 24 = .ok (.iload_n 1, 1) := by decide +kernel
theorem dX9_oddsOf_25 : decode cX9_oddsOf 25 = .ok (.iload_n 2, 1) := by decide +kernel
theorem dX9_oddsOf_26 : decode cX9_oddsOf 26 = .ok (.invokevirtual 156, 3) := by decide +kernel
theorem dX9_oddsOf_29 : decode cX9_oddsOf 29 = .ok (.lload 4, 2) := by decide +kernel
theorem dX9_oddsOf_31 : decode cX9_oddsOf 31 = .ok (.iload_n 3, 1) := by decide +kernel
theorem dX9_oddsOf_32 : decode cX9_oddsOf 32 = .ok (.invokestatic 132, 3) := by decide +kernel
theorem dX9_oddsOf_35 : decode cX9_oddsOf 35 = .ok (.lreturn, 1) := by decide +kernel
theorem dX9_odds_0 : decode cX9_odds 0 = .ok (.aload_n 0, 1) := by decide +kernel
theorem dX9_odds_1 : decode cX9_odds 1 = .ok (.iload_n 1, 1) := by decide +kernel
theorem dX9_odds_2 : decode cX9_odds 2 = .ok (.invokevirtual 103, 3) := by decide +kernel
theorem dX9_odds_5 : decode cX9_odds 5 = .ok (.ifCond .eq 31, 3) := by decide +kernel
theorem dX9_odds_8 : decode cX9_odds 8 = .ok (.iload_n 2, 1) := by decide +kernel
theorem dX9_odds_9 : decode cX9_odds 9 = .ok (.iconst 0, 1) := by decide +kernel
theorem dX9_odds_10 : decode cX9_odds 10 = .ok (.iconst 2, 1) := by decide +kernel
theorem dX9_odds_11 : decode cX9_odds 11 = .ok (.invokestatic 68, 3) := by decide +kernel
theorem dX9_odds_14 : decode cX9_odds 14 = .ok (.ifCond .eq 22, 3) := by decide +kernel
theorem dX9_odds_17 : decode cX9_odds 17 = .ok (.iload_n 3, 1) := by decide +kernel
theorem dX9_odds_18 : decode cX9_odds 18 = .ok (.iconst 0, 1) := by decide +kernel
theorem dX9_odds_19 : decode cX9_odds 19 = .ok (.iconst 1, 1) := by decide +kernel
theorem dX9_odds_20 : decode cX9_odds 20 = .ok (.invokestatic 68, 3) := by decide +kernel
theorem dX9_odds_23 : decode cX9_odds 23 = .ok (.ifCond .eq 13, 3) := by decide +kernel
theorem dX9_odds_26 : decode cX9_odds 26 = .ok (.aload_n 0, 1) := by decide +kernel
theorem dX9_odds_27 : decode cX9_odds 27 = .ok (.iload_n 1, 1) := by decide +kernel
theorem dX9_odds_28 : decode cX9_odds 28 = .ok (.iload_n 2, 1) := by decide +kernel
theorem dX9_odds_29 : decode cX9_odds 29 = .ok (.iload_n 3, 1) := by decide +kernel
theorem dX9_odds_30 : decode cX9_odds 30 = .ok (.invokevirtual 160, 3) := by decide +kernel
theorem dX9_odds_33 : decode cX9_odds 33 = .ok (.goto 8, 3) := by decide +kernel
theorem dX9_odds_36 : decode cX9_odds 36 = .ok (.bipush (-2), 2) := by decide +kernel
theorem dX9_odds_38 : decode cX9_odds 38 = .ok (.invokestatic 128, 3) := by decide +kernel
theorem dX9_odds_41 : decode cX9_odds 41 = .ok (.lreturn, 1) := by decide +kernel
theorem dX9_lean_0 : decode cX9_lean 0 = .ok (.iload_n 1, 1) := by decide +kernel
theorem dX9_lean_1 : decode cX9_lean 1 = .ok (.iconst 0, 1) := by decide +kernel
theorem dX9_lean_2 : decode cX9_lean 2 = .ok (.bipush 10, 2) := by decide +kernel
theorem dX9_lean_4 : decode cX9_lean 4 = .ok (.invokestatic 68, 3) := by decide +kernel
theorem dX9_lean_7 : decode cX9_lean 7 = .ok (.ifCond .eq 14, 3) := by decide +kernel
theorem dX9_lean_10 : decode cX9_lean 10 = .ok (.iload_n 2, 1) := by decide +kernel
theorem dX9_lean_11 : decode cX9_lean 11 = .ok (.bipush (-99), 2) := by decide +kernel
theorem dX9_lean_13 : decode cX9_lean 13 = .ok (.bipush 99, 2) := by decide +kernel
theorem dX9_lean_15 : decode cX9_lean 15 = .ok (.invokestatic 68, 3) := by decide +kernel
theorem dX9_lean_18 : decode cX9_lean 18 = .ok (.ifCond .ne 6, 3) := by decide +kernel
theorem dX9_lean_21 : decode cX9_lean 21 = .ok (.ldc 110, 2) := by decide +kernel
theorem dX9_lean_23 : decode cX9_lean 23 = .ok (.ireturn, 1) := by decide +kernel
theorem dX9_lean_24 : decode cX9_lean 24 = .ok (.aload_n 0, 1) := by decide +kernel
theorem dX9_lean_25 : decode cX9_lean 25 = .ok (.getfield 34, 3) := by decide +kernel
theorem dX9_lean_28 : decode cX9_lean 28 = .ok (.iload_n 1, 1) := by decide +kernel
theorem dX9_lean_29 : decode cX9_lean 29 = .ok (.iaload, 1) := by decide +kernel
theorem dX9_lean_30 : decode cX9_lean 30 = .ok (.istore_n 3, 1) := by decide +kernel
theorem dX9_lean_31 : decode cX9_lean 31 = .ok (.aload_n 0, 1) := by decide +kernel
theorem dX9_lean_32 : decode cX9_lean 32 = .ok (.getfield 34, 3) := by decide +kernel
theorem dX9_lean_35 : decode cX9_lean 35 = .ok (.iload_n 1, 1) := by decide +kernel
theorem dX9_lean_36 : decode cX9_lean 36 = .ok (.iload_n 2, 1) := by decide +kernel
theorem dX9_lean_37 : decode cX9_lean 37 = .ok (.iastore, 1) := by decide +kernel
theorem dX9_lean_38 : decode cX9_lean 38 = .ok (.iload_n 3, 1) := by decide +kernel
theorem dX9_lean_39 : decode cX9_lean 39 = .ok (.ireturn, 1) := by decide +kernel
theorem dX9_spread_0 : decode cX9_spread 0 = .ok (.aload_n 0, 1) := by decide +kernel
theorem dX9_spread_1 : decode cX9_spread 1 = .ok (.getfield 34, 3) := by decide +kernel
theorem dX9_spread_4 : decode cX9_spread 4 = .ok (.iload_n 1, 1) := by decide +kernel
theorem dX9_spread_5 : decode cX9_spread 5 = .ok (.iaload, 1) := by decide +kernel
theorem dX9_spread_6 : decode cX9_spread 6 = .ok (.istore_n 3, 1) := by decide +kernel
theorem dX9_spread_7 : decode cX9_spread 7 = .ok (.aload_n 0, 1) := by decide +kernel
theorem dX9_spread_8 : decode cX9_spread 8 = .ok (.getfield 34, 3) := by decide +kernel
theorem dX9_spread_11 : decode cX9_spread 11 = .ok (.iload_n 1, 1) := by decide +kernel
theorem dX9_spread_12 : decode cX9_spread 12 = .ok (.iaload, 1) := by decide +kernel
theorem dX9_spread_13 : decode cX9_spread 13 = .ok (.istore 4, 2) := by decide +kernel
theorem dX9_spread_15 : decode cX9_spread 15 = .ok (.iload_n 1, 1) := by decide +kernel
theorem dX9_spread_16 : decode cX9_spread 16 = .ok (.istore 5, 2) := by decide +kernel
theorem dX9_spread_18 : decode cX9_spread 18 = .ok (.iload 5, 2) := by decide +kernel
theorem dX9_spread_20 : decode cX9_spread 20 = .ok (.iload_n 2, 1) := by decide +kernel
theorem dX9_spread_21 : decode cX9_spread 21 = .ok (.if_icmp .gt 58, 3) := by decide +kernel
theorem dX9_spread_24 : decode cX9_spread 24 = .ok (.aload_n 0, 1) := by decide +kernel
theorem dX9_spread_25 : decode cX9_spread 25 = .ok (.getfield 34, 3) := by decide +kernel
theorem dX9_spread_28 : decode cX9_spread 28 = .ok (.iload 5, 2) := by decide +kernel
theorem dX9_spread_30 : decode cX9_spread 30 = .ok (.iaload, 1) := by decide +kernel
theorem dX9_spread_31 : decode cX9_spread 31 = .ok (.iload_n 3, 1) := by decide +kernel
theorem dX9_spread_32 : decode cX9_spread 32 = .ok (.if_icmp .ge 13, 3) := by decide +kernel
theorem dX9_spread_35 : decode cX9_spread 35 = .ok (.aload_n 0, 1) := by decide +kernel
theorem dX9_spread_36 : decode cX9_spread 36 = .ok (.getfield 34, 3) := by decide +kernel
theorem dX9_spread_39 : decode cX9_spread 39 = .ok (.iload 5, 2) := by decide +kernel
theorem dX9_spread_41 : decode cX9_spread 41 = .ok (.iaload, 1) := by decide +kernel
theorem dX9_spread_42 : decode cX9_spread 42 = .ok (.goto 4, 3) := by decide +kernel
theorem dX9_spread_45 : decode cX9_spread 45 = .ok (.iload_n 3, 1) := by decide +kernel

theorem dX8_init_94 : decode cX8_init 94 = .ok (.invokespecial 47, 3) := by decide +kernel
theorem dX8_init_97 : decode cX8_init 97 = .ok (.putfield 48, 3) := by decide +kernel
theorem dX8_init_100 : decode cX8_init 100 = .ok (.aload_n 0, 1) := by decide +kernel
theorem dX8_init_101 : decode cX8_init 101 = .ok (.new 52, 3) := by decide +kernel
theorem dX8_init_104 : decode cX8_init 104 = .ok (.dup, 1) := by decide +kernel
theorem dX8_init_105 : decode cX8_init 105 = .ok (.invokespecial 54, 3) := by decide +kernel
theorem dX8_init_108 : decode cX8_init 108 = .ok (.putfield 55, 3) := by decide +kernel
theorem dX8_init_111 : decode cX8_init 111 = .ok (.aload_n 0, 1) := by decide +kernel
theorem dX8_init_112 : decode cX8_init 112 = .ok (.new 59, 3) := by decide +kernel
theorem dX8_init_115 : decode cX8_init 115 = .ok (.dup, 1) := by decide +kernel
theorem dX8_init_116 : decode cX8_init 116 = .ok (.aload_n 0, 1) := by decide +kernel
theorem dX8_init_117 : decode cX8_init 117 = .ok (.getfield 32, 3) := by decide +kernel
theorem dX8_init_120 : decode cX8_init 120 = .ok (.invokespecial 61, 3) := by decide +kernel
theorem dX8_init_123 : decode cX8_init 123 = .ok (.putfield 64, 3) := by decide +kernel
theorem dX8_init_126 : decode cX8_init 126 = .ok (.aload_n 0, 1) := by decide +kernel
theorem dX8_init_127 : decode cX8_init 127 = .ok (.iconst 4, 1) := by decide +kernel
theorem dX8_init_128 : decode cX8_init 128 = .ok (.anewarray 68, 3) := by decide +kernel
theorem dX8_init_131 : decode cX8_init 131 = .ok (.putfield 70, 3) := by decide +kernel
theorem dX8_init_134 : decode cX8_init 134 = .ok (.iconst 0, 1) := by decide +kernel
theorem dX8_init_135 : decode cX8_init 135 = .ok (.istore_n 1, 1) := by decide +kernel
theorem dX8_init_136 : decode cX8_init 136 = .ok (.iload_n 1, 1) := by decide +kernel
theorem dX8_init_137 : decode cX8_init 137 = .ok (.iconst 4, 1) := by decide +kernel
theorem dX8_init_138 : decode cX8_init 138 = .ok (.if_icmp .ge 22, 3) := by decide +kernel
theorem dX8_init_141 : decode cX8_init 141 = .ok (.aload_n 0, 1) := by decide +kernel
theorem dX8_init_142 : decode cX8_init 142 = .ok (.getfield 70, 3) := by decide +kernel
theorem dX8_init_145 : decode cX8_init 145 = .ok (.iload_n 1, 1) := by decide +kernel
theorem dX8_init_146 : decode cX8_init 146 = .ok (.new 68, 3) := by decide +kernel
theorem dX8_init_149 : decode cX8_init 149 = .ok (.dup, 1) := by decide +kernel
theorem dX8_init_150 : decode cX8_init 150 = .ok (.invokespecial 74, 3) := by decide +kernel
theorem dX8_init_153 : decode cX8_init 153 = .ok (.aastore, 1) := by decide +kernel
theorem dX8_init_154 : decode cX8_init 154 = .ok (.iinc 1 1, 3) := by decide +kernel
theorem dX8_init_157 : decode cX8_init 157 = .ok (.goto (-21), 3) := by decide +kernel
theorem dX8_init_160 : decode cX8_init 160 = .ok (.return_, 1) := by decide +kernel
theorem dX8_measure_0 : decode cX8_measure 0 = .ok (.iload_n 1, 1) := by decide +kernel
theorem dX8_measure_1 : decode cX8_measure 1 = .ok (.invokestatic 75, 3) := by decide +kernel
theorem dX8_measure_4 : decode cX8_measure 4 = .ok (.ifCond .eq 32, 3) := by decide +kernel
theorem dX8_measure_7 : decode cX8_measure 7 = .ok (.iload_n 2, 1) := by decide +kernel
theorem dX8_measure_8 : decode cX8_measure 8 = .ok (.iconst 0, 1) := by decide +kernel
theorem dX8_measure_9 : decode cX8_measure 9 = .ok (.iconst 1, 1) := by decide +kernel
theorem dX8_measure_10 : decode cX8_measure 10 = .ok (.invokestatic 79, 3) := by decide +kernel
theorem dX8_measure_13 : decode cX8_measure 13 = .ok (.ifCond .eq 23, 3) := by decide +kernel
theorem dX8_measure_16 : decode cX8_measure 16 = .ok (.iload_n 3, 1) := by decide +kernel
theorem dX8_measure_17 : decode cX8_measure 17 = .ok (.iconst 1, 1) := by decide +kernel
theorem dX8_measure_18 : decode cX8_measure 18 = .ok (.iload_n 2, 1) := by decide +kernel
theorem dX8_measure_19 : decode cX8_measure 19 = .ok (.ifCond .ne 9, 3) := by decide +kernel
theorem dX8_measure_22 : decode cX8_measure 22 = .ok (.sipush 999, 3) := by decide +kernel
theorem dX8_measure_25 : decode cX8_measure 25 = .ok (.goto 5, 3) := by decide +kernel
theorem dX8_measure_28 : decode cX8_measure 28 = .ok (.bipush 9, 2) := by decide +kernel
theorem dX8_measure_30 : decode cX8_measure 30 = .ok (.invokestatic 79, 3) := by decide +kernel
theorem dX8_measure_33 : decode cX8_measure 33 = .ok (.ifCond .ne 6, 3) := by decide +kernel
theorem dX8_measure_36 : decode cX8_measure 36 = .ok (.bipush (-2), 2) := by decide +kernel
theorem dX8_measure_38 : decode cX8_measure 38 = .ok (.ireturn, 1) := by decide +kernel
theorem dX8_measure_39 : decode cX8_measure 39 = .ok (.aload_n 0, 1) := by decide +kernel
theorem dX8_measure_40 : decode cX8_measure 40 = .ok (.getfield 16, 3) := by decide +kernel
theorem dX8_measure_43 : decode cX8_measure 43 = .ok (.iload_n 1, 1) := by decide +kernel
theorem dX8_measure_44 : decode cX8_measure 44 = .ok (.iload_n 2, 1) := by decide +kernel
theorem dX8_measure_45 : decode cX8_measure 45 = .ok (.iload_n 3, 1) := by decide +kernel
theorem dX8_measure_46 : decode cX8_measure 46 = .ok (.invokevirtual 83, 3) := by decide +kernel
theorem dX8_measure_49 : decode cX8_measure 49 = .ok (.istore 4, 2) := by decide +kernel
theorem dX8_measure_51 : decode cX8_measure 51 = .ok (.aload_n 0, 1) := by decide +kernel
theorem dX8_measure_52 : decode cX8_measure 52 = .ok (.getfield 32, 3) := by decide +kernel
theorem dX8_measure_55 : decode cX8_measure 55 = .ok (.invokevirtual 87, 3) := by decide +kernel
theorem dX8_measure_58 : decode cX8_measure 58 = .ok (.iload 4, 2) := by decide +kernel
theorem dX8_measure_60 : decode cX8_measure 60 = .ok (.ireturn, 1) := by decide +kernel
theorem dX8_type_0 : decode cX8_type 0 = .ok (.iload_n 1, 1) := by decide +kernel
theorem dX8_type_1 : decode cX8_type 1 = .ok (.iconst 0, 1) := by decide +kernel
theorem dX8_type_2 : decode cX8_type 2 = .ok (.sipush 255, 3) := by decide +kernel
theorem dX8_type_5 : decode cX8_type 5 = .ok (.invokestatic 79, 3) := by decide +kernel
theorem dX8_type_8 : decode cX8_type 8 = .ok (.ifCond .ne 6, 3) := by decide +kernel
theorem dX8_type_11 : decode cX8_type 11 = .ok (.bipush (-2), 2) := by decide +kernel
theorem dX8_type_13 : decode cX8_type 13 = .ok (.ireturn, 1) := by decide +kernel
theorem dX8_type_14 : decode cX8_type 14 = .ok (.aload_n 0, 1) := by decide +kernel
theorem dX8_type_15 : decode cX8_type 15 = .ok (.getfield 23, 3) := by decide +kernel
theorem dX8_type_18 : decode cX8_type 18 = .ok (.getfield 90, 3) := by decide +kernel
theorem dX8_type_21 : decode cX8_type 21 = .ok (.bipush 80, 2) := by decide +kernel
theorem dX8_type_23 : decode cX8_type 23 = .ok (.if_icmp .lt 6, 3) := by decide +kernel
theorem dX8_type_26 : decode cX8_type 26 = .ok (.bipush (-4), 2) := by decide +kernel
theorem dX8_type_28 : decode cX8_type 28 = .ok (.ireturn, 1) := by decide +kernel
theorem dX8_type_29 : decode cX8_type 29 = .ok (.aload_n 0, 1) := by decide +kernel
theorem dX8_type_30 : decode cX8_type 30 = .ok (.getfield 23, 3) := by decide +kernel
theorem dX8_type_33 : decode cX8_type 33 = .ok (.iload_n 1, 1) := by decide +kernel
theorem dX8_type_34 : decode cX8_type 34 = .ok (.invokevirtual 94, 3) := by decide +kernel
theorem dX8_type_37 : decode cX8_type 37 = .ok (.aload_n 0, 1) := by decide +kernel
theorem dX8_type_38 : decode cX8_type 38 = .ok (.getfield 32, 3) := by decide +kernel
theorem dX8_type_41 : decode cX8_type 41 = .ok (.invokevirtual 87, 3) := by decide +kernel
theorem dX8_type_44 : decode cX8_type 44 = .ok (.aload_n 0, 1) := by decide +kernel
theorem dX8_type_45 : decode cX8_type 45 = .ok (.getfield 23, 3) := by decide +kernel
theorem dX8_type_48 : decode cX8_type 48 = .ok (.getfield 90, 3) := by decide +kernel
theorem dX8_type_51 : decode cX8_type 51 = .ok (.ireturn, 1) := by decide +kernel
theorem dX8_wipe_0 : decode cX8_wipe 0 = .ok (.aload_n 0, 1) := by decide +kernel
theorem dX8_wipe_1 : decode cX8_wipe 1 = .ok (.getfield 23, 3) := by decide +kernel
theorem dX8_wipe_4 : decode cX8_wipe 4 = .ok (.getfield 90, 3) := by decide +kernel
theorem dX8_wipe_7 : decode cX8_wipe 7 = .ok (.istore_n 1, 1) := by decide +kernel
theorem dX8_wipe_8 : decode cX8_wipe 8 = .ok (.aload_n 0, 1) := by decide +kernel
theorem dX8_wipe_9 : decode cX8_wipe 9 = .ok (.getfield 23, 3) := by decide +kernel
theorem dX8_wipe_12 : decode cX8_wipe 12 = .ok (.invokevirtual 98, 3) := by decide +kernel
theorem dX8_wipe_15 : decode cX8_wipe 15 = .ok (.aload_n 0, 1) := by decide +kernel
theorem dX8_wipe_16 : decode cX8_wipe 16 = .ok (.getfield 32, 3) := by decide +kernel
theorem dX8_wipe_19 : decode cX8_wipe 19 = .ok (.invokevirtual 87, 3) := by decide +kernel
theorem dX8_wipe_22 : decode cX8_wipe 22 = .ok (.iload_n 1, 1) := by decide +kernel
theorem dX8_wipe_23 : decode cX8_wipe 23 = .ok (.ireturn, 1) := by decide +kernel
theorem dX8_fault_0 : decode cX8_fault 0 = .ok (.aload_n 0, 1) := by decide +kernel
theorem dX8_fault_1 : decode cX8_fault 1 = .ok (.getfield 23, 3) := by decide +kernel
theorem dX8_fault_4 : decode cX8_fault 4 = .ok (.getfield 101, 3) := by decide +kernel
theorem dX8_fault_7 : decode cX8_fault 7 = .ok (.ireturn, 1) := by decide +kernel
theorem dX8_floor_0 : decode cX8_floor 0 = .ok (.aload_n 0, 1) := by decide +kernel
theorem dX8_floor_1 : decode cX8_floor 1 = .ok (.iload_n 1, 1) := by decide +kernel
theorem dX8_floor_2 : decode cX8_floor 2 = .ok (.invokevirtual 104, 3) := by decide +kernel
theorem dX8_floor_5 : decode cX8_floor 5 = .ok (.ifCond .ne 6, 3) := by decide +kernel
theorem dX8_floor_8 : decode cX8_floor 8 = .ok (.ldc 107, 2) := by decide +kernel
theorem dX8_floor_10 : decode cX8_floor 10 = .ok (.ireturn, 1) := by decide +kernel
theorem dX8_floor_11 : decode cX8_floor 11 = .ok (.iload_n 2, 1) := by decide +kernel
theorem dX8_floor_12 : decode cX8_floor 12 = .ok (.tableswitch 97 0 5 #[40, 50, 59, 68, 77, 87], 40) := by decide +kernel
theorem dX8_floor_52 : decode cX8_floor 52 = .ok (.aload_n 0, 1) := by decide +kernel
theorem dX8_floor_53 : decode cX8_floor 53 = .ok (.getfield 32, 3) := by decide +kernel
theorem dX8_floor_56 : decode cX8_floor 56 = .ok (.getfield 108, 3) := by decide +kernel
theorem dX8_floor_59 : decode cX8_floor 59 = .ok (.iload_n 1, 1) := by decide +kernel
theorem dX8_floor_60 : decode cX8_floor 60 = .ok (.iaload, 1) := by decide +kernel
theorem dX8_floor_61 : decode cX8_floor 61 = .ok (.ireturn, 1) := by decide +kernel
theorem dX8_floor_62 : decode cX8_floor 62 = .ok (.aload_n 0, 1) := by decide +kernel
theorem dX8_floor_63 : decode cX8_floor 63 = .ok (.getfield 32, 3) := by decide +kernel
theorem dX8_floor_66 : decode cX8_floor 66 = .ok (.iload_n 1, 1) := by decide +kernel
theorem dX8_floor_67 : decode cX8_floor 67 = .ok (.invokevirtual 111, 3) := by decide +kernel
theorem dX8_floor_70 : decode cX8_floor 70 = .ok (.ireturn, 1) := by decide +kernel
theorem dX8_floor_71 : decode cX8_floor 71 = .ok (.aload_n 0, 1) := by decide +kernel
theorem dX8_floor_72 : decode cX8_floor 72 = .ok (.getfield 23, 3) := by decide +kernel
theorem dX8_floor_75 : decode cX8_floor 75 = .ok (.iload_n 1, 1) := by decide +kernel
theorem dX8_floor_76 : decode cX8_floor 76 = .ok (.invokevirtual 115, 3) := by decide +kernel
theorem dX8_floor_79 : decode cX8_floor 79 = .ok (.ireturn, 1) := by decide +kernel
theorem dX8_floor_80 : decode cX8_floor 80 = .ok (.aload_n 0, 1) := by decide +kernel
theorem dX8_floor_81 : decode cX8_floor 81 = .ok (.getfield 23, 3) := by decide +kernel
theorem dX8_floor_84 : decode cX8_floor 84 = .ok (.iload_n 1, 1) := by decide +kernel
theorem dX8_floor_85 : decode cX8_floor 85 = .ok (.invokevirtual 118, 3) := by decide +kernel
theorem dX8_floor_88 : decode cX8_floor 88 = .ok (.ireturn, 1) := by decide +kernel
theorem dX8_floor_89 : decode cX8_floor 89 = .ok (.aload_n 0, 1) := by decide +kernel
theorem dX8_floor_90 : decode cX8_floor 90 = .ok (.getfield 41, 3) := by decide +kernel
theorem dX8_floor_93 : decode cX8_floor 93 = .ok (.getfield 121, 3) := by decide +kernel
theorem dX8_floor_96 : decode cX8_floor 96 = .ok (.iload_n 1, 1) := by decide +kernel
theorem dX8_floor_97 : decode cX8_floor 97 = .ok (.iaload, 1) := by decide +kernel
theorem dX8_floor_98 : decode cX8_floor 98 = .ok (.ireturn, 1) := by decide +kernel
theorem dX8_floor_99 : decode cX8_floor 99 = .ok (.aload_n 0, 1) := by decide +kernel
theorem dX8_floor_100 : decode cX8_floor 100 = .ok (.getfield 32, 3) := by decide +kernel
theorem dX8_floor_103 : decode cX8_floor 103 = .ok (.getfield 124, 3) := by decide +kernel
theorem dX8_floor_106 : decode cX8_floor 106 = .ok (.iload_n 1, 1) := by decide +kernel
theorem dX8_floor_107 : decode cX8_floor 107 = .ok (.iaload, 1) := by decide +kernel
theorem dX8_floor_108 : decode cX8_floor 108 = .ok (.ireturn, 1) := by decide +kernel
theorem dX8_floor_109 : decode cX8_floor 109 = .ok (.ldc 107, 2) := by decide +kernel
theorem dX8_floor_111 : decode cX8_floor 111 = .ok (.ireturn, 1) := by decide +kernel
theorem dX8_cut_0 : decode cX8_cut 0 = .ok (.iload_n 1, 1) := by decide +kernel
theorem dX8_cut_1 : decode cX8_cut 1 = .ok (.iconst 0, 1) := by decide +kernel
theorem dX8_cut_2 : decode cX8_cut 2 = .ok (.ldc 127, 2) := by decide +kernel
theorem dX8_cut_4 : decode cX8_cut 4 = .ok (.invokestatic 79, 3) := by decide +kernel
theorem dX8_cut_7 : decode cX8_cut 7 = .ok (.ifCond .eq 19, 3) := by decide +kernel
theorem dX8_cut_10 : decode cX8_cut 10 = .ok (.iload_n 2, 1) := by decide +kernel
theorem dX8_cut_11 : decode cX8_cut 11 = .ok (.invokestatic 75, 3) := by decide +kernel
theorem dX8_cut_14 : decode cX8_cut 14 = .ok (.ifCond .eq 12, 3) := by decide +kernel
theorem dX8_cut_17 : decode cX8_cut 17 = .ok (.iload_n 3, 1) := by decide +kernel
theorem dX8_cut_18 : decode cX8_cut 18 = .ok (.iconst 0, 1) := by decide +kernel
theorem dX8_cut_19 : decode cX8_cut 19 = .ok (.iconst 2, 1) := by decide +kernel
theorem dX8_cut_20 : decode cX8_cut 20 = .ok (.invokestatic 79, 3) := by decide +kernel
theorem dX8_cut_23 : decode cX8_cut 23 = .ok (.ifCond .ne 6, 3) := by decide +kernel
theorem dX8_cut_26 : decode cX8_cut 26 = .ok (.bipush (-2), 2) := by decide +kernel
theorem dX8_cut_28 : decode cX8_cut 28 = .ok (.ireturn, 1) := by decide +kernel
theorem dX8_cut_29 : decode cX8_cut 29 = .ok (.aload_n 0, 1) := by decide +kernel
theorem dX8_cut_30 : decode cX8_cut 30 = .ok (.getfield 16, 3) := by decide +kernel
theorem dX8_cut_33 : decode cX8_cut 33 = .ok (.iload_n 1, 1) := by decide +kernel
theorem dX8_cut_34 : decode cX8_cut 34 = .ok (.iload_n 2, 1) := by decide +kernel
theorem dX8_cut_35 : decode cX8_cut 35 = .ok (.iload_n 3, 1) := by decide +kernel
theorem dX8_cut_36 : decode cX8_cut 36 = .ok (.invokevirtual 128, 3) := by decide +kernel
theorem dX8_cut_39 : decode cX8_cut 39 = .ok (.ireturn, 1) := by decide +kernel
theorem dX8_shim_0 : decode cX8_shim 0 = .ok (.iload_n 1, 1) := by decide +kernel
theorem dX8_shim_1 : decode cX8_shim 1 = .ok (.invokestatic 131, 3) := by decide +kernel
theorem dX8_shim_4 : decode cX8_shim 4 = .ok (.ifCond .eq 14, 3) := by decide +kernel
theorem dX8_shim_7 : decode cX8_shim 7 = .ok (.iload_n 2, 1) := by decide +kernel
theorem dX8_shim_8 : decode cX8_shim 8 = .ok (.bipush (-99), 2) := by decide +kernel
theorem dX8_shim_10 : decode cX8_shim 10 = .ok (.bipush 99, 2) := by decide +kernel
theorem dX8_shim_12 : decode cX8_shim 12 = .ok (.invokestatic 79, 3) := by decide +kernel
theorem dX8_shim_15 : decode cX8_shim 15 = .ok (.ifCond .ne 6, 3) := by decide +kernel
theorem dX8_shim_18 : decode cX8_shim 18 = .ok (.ldc 107, 2) := by decide +kernel
theorem dX8_shim_20 : decode cX8_shim 20 = .ok (.ireturn, 1) := by decide +kernel
theorem dX8_shim_21 : decode cX8_shim 21 = .ok (.aload_n 0, 1) := by decide +kernel
theorem dX8_shim_22 : decode cX8_shim 22 = .ok (.getfield 32, 3) := by decide +kernel
theorem dX8_shim_25 : decode cX8_shim 25 = .ok (.getfield 124, 3) := by decide +kernel
theorem dX8_shim_28 : decode cX8_shim 28 = .ok (.iload_n 1, 1) := by decide +kernel
theorem dX8_shim_29 : decode cX8_shim 29 = .ok (.iaload, 1) := by decide +kernel
theorem dX8_shim_30 : decode cX8_shim 30 = .ok (.istore_n 3, 1) := by decide +kernel
theorem dX8_shim_31 : decode cX8_shim 31 = .ok (.aload_n 0, 1) := by decide +kernel
theorem dX8_shim_32 : decode cX8_shim 32 = .ok (.getfield 32, 3) := by decide +kernel
theorem dX8_shim_35 : decode cX8_shim 35 = .ok (.getfield 124, 3) := by decide +kernel
theorem dX8_shim_38 : decode cX8_shim 38 = .ok (.iload_n 1, 1) := by decide +kernel
theorem dX8_shim_39 : decode cX8_shim 39 = .ok (.iload_n 2, 1) := by decide +kernel
theorem dX8_shim_40 : decode cX8_shim 40 = .ok (.iastore, 1) := by decide +kernel
theorem dX8_shim_41 : decode cX8_shim 41 = .ok (.aload_n 0, 1) := by decide +kernel
theorem dX8_shim_42 : decode cX8_shim 42 = .ok (.getfield 32, 3) := by decide +kernel
theorem dX8_shim_45 : decode cX8_shim 45 = .ok (.invokevirtual 87, 3) := by decide +kernel
theorem dX8_shim_48 : decode cX8_shim 48 = .ok (.iload_n 3, 1) := by decide +kernel
theorem dX8_shim_49 : decode cX8_shim 49 = .ok (.ireturn, 1) := by decide +kernel
theorem dX8_set_0 : decode cX8_set 0 = .ok (.iload_n 1, 1) := by decide +kernel
theorem dX8_set_1 : decode cX8_set 1 = .ok (.iconst 0, 1) := by decide +kernel
theorem dX8_set_2 : decode cX8_set 2 = .ok (.iconst 3, 1) := by decide +kernel
theorem dX8_set_3 : decode cX8_set 3 = .ok (.invokestatic 79, 3) := by decide +kernel
theorem dX8_set_6 : decode cX8_set 6 = .ok (.ifCond .eq 20, 3) := by decide +kernel
theorem dX8_set_9 : decode cX8_set 9 = .ok (.iload_n 2, 1) := by decide +kernel
theorem dX8_set_10 : decode cX8_set 10 = .ok (.getstatic 134, 3) := by decide +kernel
theorem dX8_set_13 : decode cX8_set 13 = .ok (.iload_n 1, 1) := by decide +kernel
theorem dX8_set_14 : decode cX8_set 14 = .ok (.iaload, 1) := by decide +kernel
theorem dX8_set_15 : decode cX8_set 15 = .ok (.getstatic 137, 3) := by decide +kernel
theorem dX8_set_18 : decode cX8_set 18 = .ok (.iload_n 1, 1) := by decide +kernel
theorem dX8_set_19 : decode cX8_set 19 = .ok (.iaload, 1) := by decide +kernel
theorem dX8_set_20 : decode cX8_set 20 = .ok (.invokestatic 79, 3) := by decide +kernel
theorem dX8_set_23 : decode cX8_set 23 = .ok (.ifCond .ne 6, 3) := by decide +kernel
theorem dX8_set_26 : decode cX8_set 26 = .ok (.bipush (-2), 2) := by decide +kernel
theorem dX8_set_28 : decode cX8_set 28 = .ok (.ireturn, 1) := by decide +kernel
theorem dX8_set_29 : decode cX8_set 29 = .ok (.aload_n 0, 1) := by decide +kernel
theorem dX8_set_30 : decode cX8_set 30 = .ok (.getfield 7, 3) := by decide +kernel
theorem dX8_set_33 : decode cX8_set 33 = .ok (.iload_n 1, 1) := by decide +kernel
theorem dX8_set_34 : decode cX8_set 34 = .ok (.iaload, 1) := by decide +kernel
theorem dX8_set_35 : decode cX8_set 35 = .ok (.istore_n 3, 1) := by decide +kernel
theorem dX8_set_36 : decode cX8_set 36 = .ok (.aload_n 0, 1) := by decide +kernel
theorem dX8_set_37 : decode cX8_set 37 = .ok (.getfield 7, 3) := by decide +kernel
theorem dX8_set_40 : decode cX8_set 40 = .ok (.iload_n 1, 1) := by decide +kernel
theorem dX8_set_41 : decode cX8_set 41 = .ok (.iload_n 2, 1) := by decide +kernel
theorem dX8_set_42 : decode cX8_set 42 = .ok (.iastore, 1) := by decide +kernel
theorem dX8_set_43 : decode cX8_set 43 = .ok (.iload_n 3, 1) := by decide +kernel
theorem dX8_set_44 : decode cX8_set 44 = .ok (.ireturn, 1) := by decide +kernel
theorem dX8_sill_0 : decode cX8_sill 0 = .ok (.aload_n 0, 1) := by decide +kernel
theorem dX8_sill_1 : decode cX8_sill 1 = .ok (.iload_n 1, 1) := by decide +kernel
theorem dX8_sill_2 : decode cX8_sill 2 = .ok (.invokevirtual 140, 3) := by decide +kernel
theorem dX8_sill_5 : decode cX8_sill 5 = .ok (.ifCond .ne 6, 3) := by decide +kernel
theorem dX8_sill_8 : decode cX8_sill 8 = .ok (.ldc 107, 2) := by decide +kernel
theorem dX8_sill_10 : decode cX8_sill 10 = .ok (.ireturn, 1) := by decide +kernel
theorem dX8_sill_11 : decode cX8_sill 11 = .ok (.iload_n 2, 1) := by decide +kernel
theorem dX8_sill_12 : decode cX8_sill 12 = .ok (.tableswitch 57 0 2 #[28, 38, 48], 28) := by decide +kernel
theorem dX8_sill_40 : decode cX8_sill 40 = .ok (.aload_n 0, 1) := by decide +kernel
theorem dX8_sill_41 : decode cX8_sill 41 = .ok (.getfield 32, 3) := by decide +kernel
theorem dX8_sill_44 : decode cX8_sill 44 = .ok (.getfield 143, 3) := by decide +kernel
theorem dX8_sill_47 : decode cX8_sill 47 = .ok (.iload_n 1, 1) := by decide +kernel
theorem dX8_sill_48 : decode cX8_sill 48 = .ok (.iaload, 1) := by decide +kernel
theorem dX8_sill_49 : decode cX8_sill 49 = .ok (.ireturn, 1) := by decide +kernel
theorem dX8_sill_50 : decode cX8_sill 50 = .ok (.aload_n 0, 1) := by decide +kernel
theorem dX8_sill_51 : decode cX8_sill 51 = .ok (.getfield 32, 3) := by decide +kernel
theorem dX8_sill_54 : decode cX8_sill 54 = .ok (.getfield 146, 3) := by decide +kernel
theorem dX8_sill_57 : decode cX8_sill 57 = .ok (.iload_n 1, 1) := by decide +kernel
theorem dX8_sill_58 : decode cX8_sill 58 = .ok (.iaload, 1) := by decide +kernel
theorem dX8_sill_59 : decode cX8_sill 59 = .ok (.ireturn, 1) := by decide +kernel
theorem dX8_sill_60 : decode cX8_sill 60 = .ok (.aload_n 0, 1) := by decide +kernel
theorem dX8_sill_61 : decode cX8_sill 61 = .ok (.getfield 32, 3) := by decide +kernel
theorem dX8_sill_64 : decode cX8_sill 64 = .ok (.iload_n 1, 1) := by decide +kernel
theorem dX8_sill_65 : decode cX8_sill 65 = .ok (.invokevirtual 149, 3) := by decide +kernel
theorem dX8_sill_68 : decode cX8_sill 68 = .ok (.ireturn, 1) := by decide +kernel
theorem dX8_sill_69 : decode cX8_sill 69 = .ok (.ldc 107, 2) := by decide +kernel
theorem dX8_sill_71 : decode cX8_sill 71 = .ok (.ireturn, 1) := by decide +kernel
theorem dX8_worst_0 : decode cX8_worst 0 = .ok (.iconst 0, 1) := by decide +kernel
theorem dX8_worst_1 : decode cX8_worst 1 = .ok (.istore_n 1, 1) := by decide +kernel
theorem dX8_worst_2 : decode cX8_worst 2 = .ok (.iconst 1, 1) := by decide +kernel
theorem dX8_worst_3 : decode cX8_worst 3 = .ok (.istore_n 2, 1) := by decide +kernel
theorem dX8_worst_4 : decode cX8_worst 4 = .ok (.iload_n 2, 1) := by decide +kernel
theorem dX8_worst_5 : decode cX8_worst 5 = .ok (.aload_n 0, 1) := by decide +kernel
theorem dX8_worst_6 : decode cX8_worst 6 = .ok (.getfield 23, 3) := by decide +kernel
theorem dX8_worst_9 : decode cX8_worst 9 = .ok (.getfield 152, 3) := by decide +kernel
theorem dX8_worst_12 : decode cX8_worst 12 = .ok (.if_icmp .gt 36, 3) := by decide +kernel
theorem dX8_worst_15 : decode cX8_worst 15 = .ok (.aload_n 0, 1) := by decide +kernel
theorem dX8_worst_16 : decode cX8_worst 16 = .ok (.getfield 32, 3) := by decide +kernel
theorem dX8_worst_19 : decode cX8_worst 19 = .ok (.iload_n 2, 1) := by decide +kernel
theorem dX8_worst_20 : decode cX8_worst 20 = .ok (.invokevirtual 149, 3) := by decide +kernel
theorem dX8_worst_23 : decode cX8_worst 23 = .ok (.invokestatic 155, 3) := by decide +kernel
theorem dX8_worst_26 : decode cX8_worst 26 = .ok (.aload_n 0, 1) := by decide +kernel
theorem dX8_worst_27 : decode cX8_worst 27 = .ok (.getfield 32, 3) := by decide +kernel
theorem dX8_worst_30 : decode cX8_worst 30 = .ok (.iload_n 1, 1) := by decide +kernel
theorem dX8_worst_31 : decode cX8_worst 31 = .ok (.invokevirtual 149, 3) := by decide +kernel
theorem dX8_worst_34 : decode cX8_worst 34 = .ok (.invokestatic 155, 3) := by decide +kernel
theorem dX8_worst_37 : decode cX8_worst 37 = .ok (.if_icmp .le 5, 3) := by decide +kernel
theorem dX8_worst_40 : decode cX8_worst 40 = .ok (.iload_n 2, 1) := by decide +kernel
theorem dX8_worst_41 : decode cX8_worst 41 = .ok (.istore_n 1, 1) := by decide +kernel
theorem dX8_worst_42 : decode cX8_worst 42 = .ok (.iinc 2 1, 3) := by decide +kernel
theorem dX8_worst_45 : decode cX8_worst 45 = .ok (.goto (-41), 3) := by decide +kernel
theorem dX8_worst_48 : decode cX8_worst 48 = .ok (.iload_n 1, 1) := by decide +kernel
theorem dX8_worst_49 : decode cX8_worst 49 = .ok (.ireturn, 1) := by decide +kernel
theorem dX8_stairs_0 : decode cX8_stairs 0 = .ok (.aload_n 0, 1) := by decide +kernel
theorem dX8_stairs_1 : decode cX8_stairs 1 = .ok (.iload_n 1, 1) := by decide +kernel
theorem dX8_stairs_2 : decode cX8_stairs 2 = .ok (.invokevirtual 104, 3) := by decide +kernel
theorem dX8_stairs_5 : decode cX8_stairs 5 = .ok (.ifCond .eq 23, 3) := by decide +kernel
theorem dX8_stairs_8 : decode cX8_stairs 8 = .ok (.iload_n 2, 1) := by decide +kernel
theorem dX8_stairs_9 : decode cX8_stairs 9 = .ok (.iconst 1, 1) := by decide +kernel
theorem dX8_stairs_10 : decode cX8_stairs 10 = .ok (.bipush 40, 2) := by decide +kernel
theorem dX8_stairs_12 : decode cX8_stairs 12 = .ok (.invokestatic 79, 3) := by decide +kernel
theorem dX8_stairs_15 : decode cX8_stairs 15 = .ok (.ifCond .eq 13, 3) := by decide +kernel
theorem dX8_stairs_18 : decode cX8_stairs 18 = .ok (.iload_n 3, 1) := by decide +kernel
theorem dX8_stairs_19 : decode cX8_stairs 19 = .ok (.iconst 1, 1) := by decide +kernel
theorem dX8_stairs_20 : decode cX8_stairs 20 = .ok (.bipush 99, 2) := by decide +kernel
theorem dX8_stairs_22 : decode cX8_stairs 22 = .ok (.invokestatic 79, 3) := by decide +kernel
theorem dX8_stairs_25 : decode cX8_stairs 25 = .ok (.ifCond .ne 6, 3) := by decide +kernel
theorem dX8_stairs_28 : decode cX8_stairs 28 = .ok (.ldc 107, 2) := by decide +kernel
theorem dX8_stairs_30 : decode cX8_stairs 30 = .ok (.ireturn, 1) := by decide +kernel
theorem dX8_stairs_31 : decode cX8_stairs 31 = .ok (.aload_n 0, 1) := by decide +kernel
theorem dX8_stairs_32 : decode cX8_stairs 32 = .ok (.getfield 32, 3) := by decide +kernel
theorem dX8_stairs_35 : decode cX8_stairs 35 = .ok (.iload_n 1, 1) := by decide +kernel
theorem dX8_stairs_36 : decode cX8_stairs 36 = .ok (.invokevirtual 111, 3) := by decide +kernel
theorem dX8_stairs_39 : decode cX8_stairs 39 = .ok (.iload_n 2, 1) := by decide +kernel
theorem dX8_stairs_40 : decode cX8_stairs 40 = .ok (.iload_n 3, 1) := by decide +kernel
theorem dX8_stairs_41 : decode cX8_stairs 41 = .ok (.imul, 1) := by decide +kernel
theorem dX8_stairs_42 : decode cX8_stairs 42 = .ok (.isub, 1) := by decide +kernel
theorem dX8_stairs_43 : decode cX8_stairs 43 = .ok (.ireturn, 1) := by decide +kernel
theorem dX8_even_0 : decode cX8_even 0 = .ok (.aload_n 0, 1) := by decide +kernel
theorem dX8_even_1 : decode cX8_even 1 = .ok (.iload_n 1, 1) := by decide +kernel
theorem dX8_even_2 : decode cX8_even 2 = .ok (.invokevirtual 104, 3) := by decide +kernel
theorem dX8_even_5 : decode cX8_even 5 = .ok (.ifCond .eq 33, 3) := by decide +kernel
theorem dX8_even_8 : decode cX8_even 8 = .ok (.iload_n 2, 1) := by decide +kernel
theorem dX8_even_9 : decode cX8_even 9 = .ok (.iconst 1, 1) := by decide +kernel
theorem dX8_even_10 : decode cX8_even 10 = .ok (.bipush 99, 2) := by decide +kernel
theorem dX8_even_12 : decode cX8_even 12 = .ok (.invokestatic 79, 3) := by decide +kernel
theorem dX8_even_15 : decode cX8_even 15 = .ok (.ifCond .eq 23, 3) := by decide +kernel
theorem dX8_even_18 : decode cX8_even 18 = .ok (.iload_n 3, 1) := by decide +kernel
theorem dX8_even_19 : decode cX8_even 19 = .ok (.iload_n 2, 1) := by decide +kernel
theorem dX8_even_20 : decode cX8_even 20 = .ok (.bipush 99, 2) := by decide +kernel
theorem dX8_even_22 : decode cX8_even 22 = .ok (.invokestatic 79, 3) := by decide +kernel
theorem dX8_even_25 : decode cX8_even 25 = .ok (.ifCond .eq 13, 3) := by decide +kernel
theorem dX8_even_28 : decode cX8_even 28 = .ok (.iload 4, 2) := by decide +kernel
theorem dX8_even_30 : decode cX8_even 30 = .ok (.iconst 0, 1) := by decide +kernel
theorem dX8_even_31 : decode cX8_even 31 = .ok (.iconst 2, 1) := by decide +kernel
theorem dX8_even_32 : decode cX8_even 32 = .ok (.invokestatic 79, 3) := by decide +kernel
theorem dX8_even_35 : decode cX8_even 35 = .ok (.ifCond .ne 6, 3) := by decide +kernel
theorem dX8_even_38 : decode cX8_even 38 = .ok (.bipush (-2), 2) := by decide +kernel
theorem dX8_even_40 : decode cX8_even 40 = .ok (.ireturn, 1) := by decide +kernel
theorem dX8_even_41 : decode cX8_even 41 = .ok (.aload_n 0, 1) := by decide +kernel
theorem dX8_even_42 : decode cX8_even 42 = .ok (.getfield 32, 3) := by decide +kernel
theorem dX8_even_45 : decode cX8_even 45 = .ok (.iload_n 1, 1) := by decide +kernel
theorem dX8_even_46 : decode cX8_even 46 = .ok (.invokevirtual 111, 3) := by decide +kernel
theorem dX8_even_49 : decode cX8_even 49 = .ok (.istore 5, 2) := by decide +kernel
theorem dX8_even_51 : decode cX8_even 51 = .ok (.iload 5, 2) := by decide +kernel
theorem dX8_even_53 : decode cX8_even 53 = .ok (.iload_n 2, 1) := by decide +kernel
theorem dX8_even_54 : decode cX8_even 54 = .ok (.iload_n 3, 1) := by decide +kernel
theorem dX8_even_55 : decode cX8_even 55 = .ok (.invokestatic 160, 3) := by decide +kernel
theorem dX8_even_58 : decode cX8_even 58 = .ok (.istore 6, 2) := by decide +kernel
theorem dX8_even_60 : decode cX8_even 60 = .ok (.iload 5, 2) := by decide +kernel
theorem dX8_even_62 : decode cX8_even 62 = .ok (.iload 6, 2) := by decide +kernel
theorem dX8_even_64 : decode cX8_even 64 = .ok (.iload_n 2, 1) := by decide +kernel
theorem dX8_even_65 : decode cX8_even 65 = .ok (.iload_n 3, 1) := by decide +kernel
theorem dX8_even_66 : decode cX8_even 66 = .ok (.invokestatic 163, 3) := by decide +kernel
theorem dX8_even_69 : decode cX8_even 69 = .ok (.istore 7, 2) := by decide +kernel
theorem dX8_even_71 : decode cX8_even 71 = .ok (.iload 4, 2) := by decide +kernel
theorem dX8_even_73 : decode cX8_even 73 = .ok (.lookupswitch 33 #[(0, 27), (1, 30)], 27) := by decide +kernel
theorem dX8_even_100 : decode cX8_even 100 = .ok (.iload 7, 2) := by decide +kernel
theorem dX8_even_102 : decode cX8_even 102 = .ok (.ireturn, 1) := by decide +kernel
theorem dX8_even_103 : decode cX8_even 103 = .ok (.iload 6, 2) := by decide +kernel
theorem dX8_even_105 : decode cX8_even 105 = .ok (.ireturn, 1) := by decide +kernel
theorem dX8_even_106 : decode cX8_even 106 = .ok (.iload 5, 2) := by decide +kernel
theorem dX8_even_108 : decode cX8_even 108 = .ok (.iload 6, 2) := by decide +kernel
theorem dX8_even_110 : decode cX8_even 110 = .ok (.iload 7, 2) := by decide +kernel
theorem dX8_even_112 : decode cX8_even 112 = .ok (.imul, 1) := by decide +kernel
theorem dX8_even_113 : decode cX8_even 113 = .ok (.isub, 1) := by decide +kernel
theorem dX8_even_114 : decode cX8_even 114 = .ok (.invokestatic 155, 3) := by decide +kernel
theorem dX8_even_117 : decode cX8_even 117 = .ok (.ireturn, 1) := by decide +kernel
theorem dX8_blame_0 : decode cX8_blame 0 = .ok (.iload_n 1, 1) := by decide +kernel
theorem dX8_blame_1 : decode cX8_blame 1 = .ok (.invokestatic 75, 3) := by decide +kernel
theorem dX8_blame_4 : decode cX8_blame 4 = .ok (.ifCond .eq 21, 3) := by decide +kernel
theorem dX8_blame_7 : decode cX8_blame 7 = .ok (.iload_n 2, 1) := by decide +kernel
theorem dX8_blame_8 : decode cX8_blame 8 = .ok (.iconst 0, 1) := by decide +kernel
theorem dX8_blame_9 : decode cX8_blame 9 = .ok (.iconst 1, 1) := by decide +kernel
theorem dX8_blame_10 : decode cX8_blame 10 = .ok (.invokestatic 79, 3) := by decide +kernel
theorem dX8_blame_13 : decode cX8_blame 13 = .ok (.ifCond .eq 12, 3) := by decide +kernel
theorem dX8_blame_16 : decode cX8_blame 16 = .ok (.iload_n 3, 1) := by decide +kernel
theorem dX8_blame_17 : decode cX8_blame 17 = .ok (.iconst 0, 1) := by decide +kernel
theorem dX8_blame_18 : decode cX8_blame 18 = .ok (.iconst 1, 1) := by decide +kernel
theorem dX8_blame_19 : decode cX8_blame 19 = .ok (.invokestatic 79, 3) := by decide +kernel
theorem dX8_blame_22 : decode cX8_blame 22 = .ok (.ifCond .ne 9, 3) := by decide +kernel
theorem dX8_blame_25 : decode cX8_blame 25 = .ok (.bipush (-2), 2) := by decide +kernel
theorem dX8_blame_27 : decode cX8_blame 27 = .ok (.invokestatic 167, 3) := by decide +kernel
theorem dX8_blame_30 : decode cX8_blame 30 = .ok (.lreturn, 1) := by decide +kernel
theorem dX8_blame_31 : decode cX8_blame 31 = .ok (.aload_n 0, 1) := by decide +kernel
theorem dX8_blame_32 : decode cX8_blame 32 = .ok (.getfield 32, 3) := by decide +kernel
theorem dX8_blame_35 : decode cX8_blame 35 = .ok (.iload_n 1, 1) := by decide +kernel
theorem dX8_blame_36 : decode cX8_blame 36 = .ok (.invokevirtual 171, 3) := by decide +kernel
theorem dX8_blame_39 : decode cX8_blame 39 = .ok (.i2l, 1) := by decide +kernel
theorem dX8_blame_40 : decode cX8_blame 40 = .ok (.lstore 4, 2) := by decide +kernel
theorem dX8_blame_42 : decode cX8_blame 42 = .ok (.iload_n 2, 1) := by decide +kernel
theorem dX8_blame_43 : decode cX8_blame 43 = .ok (.ifCond .ne 14, 3) := by decide +kernel
theorem dX8_blame_46 : decode cX8_blame 46 = .ok (.iload_n 3, 1) := by decide +kernel
theorem dX8_blame_47 : decode cX8_blame 47 = .ok (.ifCond .ne 8, 3) := by decide +kernel
theorem dX8_blame_50 : decode cX8_blame 50 = .ok (.lload 4, 2) := by decide +kernel
theorem dX8_blame_52 : decode cX8_blame 52 = .ok (.goto 4, 3) := by decide +kernel
theorem dX8_blame_55 : decode cX8_blame 55 = .ok (.lconst 1, 1) := by decide +kernel
theorem dX8_blame_56 : decode cX8_blame 56 = .ok (.lreturn, 1) := by decide +kernel
theorem dX8_blame_57 : decode cX8_blame 57 = .ok (.lconst 0, 1) := by decide +kernel
theorem dX8_blame_58 : decode cX8_blame 58 = .ok (.lstore 6, 2) := by decide +kernel
theorem dX8_blame_60 : decode cX8_blame 60 = .ok (.iconst 0, 1) := by decide +kernel
theorem dX8_blame_61 : decode cX8_blame 61 = .ok (.istore 8, 2) := by decide +kernel
theorem dX8_blame_63 : decode cX8_blame 63 = .ok (.iload 8, 2) := by decide +kernel
theorem dX8_blame_65 : decode cX8_blame 65 = .ok (.iconst 3, 1) := by decide +kernel
theorem dX8_blame_66 : decode cX8_blame 66 = .ok (.if_icmp .ge 24, 3) := by decide +kernel
theorem dX8_blame_69 : decode cX8_blame 69 = .ok (.lload 6, 2) := by decide +kernel
theorem dX8_blame_71 : decode cX8_blame 71 = .ok (.aload_n 0, 1) := by decide +kernel
theorem dX8_blame_72 : decode cX8_blame 72 = .ok (.getfield 32, 3) := by decide +kernel
theorem dX8_blame_75 : decode cX8_blame 75 = .ok (.iload 8, 2) := by decide +kernel
theorem dX8_blame_77 : decode cX8_blame 77 = .ok (.invokevirtual 171, 3) := by decide +kernel
theorem dX8_blame_80 : decode cX8_blame 80 = .ok (.i2l, 1) := by decide +kernel
theorem dX8_blame_81 : decode cX8_blame 81 = .ok (.ladd, 1) := by decide +kernel
theorem dX8_blame_82 : decode cX8_blame 82 = .ok (.lstore 6, 2) := by decide +kernel
theorem dX8_blame_84 : decode cX8_blame 84 = .ok (.iinc 8 1, 3) := by decide +kernel
theorem dX8_blame_87 : decode cX8_blame 87 = .ok (.goto (-24), 3) := by decide +kernel
theorem dX8_blame_90 : decode cX8_blame 90 = .ok (.lload 6, 2) := by decide +kernel
theorem dX8_blame_92 : decode cX8_blame 92 = .ok (.lconst 0, 1) := by decide +kernel
theorem dX8_blame_93 : decode cX8_blame 93 = .ok (.lcmp, 1) := by decide +kernel
theorem dX8_blame_94 : decode cX8_blame 94 = .ok (.ifCond .ne 11, 3) := by decide +kernel
theorem dX8_blame_97 : decode cX8_blame 97 = .ok (.bipush (-3), 2) := by decide +kernel
theorem dX8_blame_99 : decode cX8_blame 99 = .ok (.invokestatic 167, 3) := by decide +kernel
theorem dX8_blame_102 : decode cX8_blame 102 = .ok (.goto 11, 3) := by decide +kernel
theorem dX8_blame_105 : decode cX8_blame 105 = .ok (.lload 4, 2) := by decide +kernel
theorem dX8_blame_107 : decode cX8_blame 107 = .ok (.lload 6, 2) := by decide +kernel
theorem dX8_blame_109 : decode cX8_blame 109 = .ok (.iload_n 3, 1) := by decide +kernel
theorem dX8_blame_110 : decode cX8_blame 110 = .ok (.invokestatic 174, 3) := by decide +kernel
theorem dX8_blame_113 : decode cX8_blame 113 = .ok (.lreturn, 1) := by decide +kernel
theorem dX8_found_0 : decode cX8_found 0 = .ok (.iload_n 1, 1) := by decide +kernel
theorem dX8_found_1 : decode cX8_found 1 = .ok (.invokestatic 131, 3) := by decide +kernel
theorem dX8_found_4 : decode cX8_found 4 = .ok (.ifCond .eq 10, 3) := by decide +kernel
theorem dX8_found_7 : decode cX8_found 7 = .ok (.iload_n 2, 1) := by decide +kernel
theorem dX8_found_8 : decode cX8_found 8 = .ok (.invokestatic 178, 3) := by decide +kernel
theorem dX8_found_11 : decode cX8_found 11 = .ok (.ifCond .ne 6, 3) := by decide +kernel
theorem dX8_found_14 : decode cX8_found 14 = .ok (.bipush (-5), 2) := by decide +kernel
theorem dX8_found_16 : decode cX8_found 16 = .ok (.ireturn, 1) := by decide +kernel
theorem dX8_found_17 : decode cX8_found 17 = .ok (.aload_n 0, 1) := by decide +kernel
theorem dX8_found_18 : decode cX8_found 18 = .ok (.getfield 41, 3) := by decide +kernel
theorem dX8_found_21 : decode cX8_found 21 = .ok (.getfield 121, 3) := by decide +kernel
theorem dX8_found_24 : decode cX8_found 24 = .ok (.iload_n 1, 1) := by decide +kernel
theorem dX8_found_25 : decode cX8_found 25 = .ok (.iaload, 1) := by decide +kernel
theorem dX8_found_26 : decode cX8_found 26 = .ok (.istore_n 3, 1) := by decide +kernel
theorem dX8_found_27 : decode cX8_found 27 = .ok (.aload_n 0, 1) := by decide +kernel
theorem dX8_found_28 : decode cX8_found 28 = .ok (.getfield 41, 3) := by decide +kernel
theorem dX8_found_31 : decode cX8_found 31 = .ok (.getfield 121, 3) := by decide +kernel
theorem dX8_found_34 : decode cX8_found 34 = .ok (.iload_n 1, 1) := by decide +kernel
theorem dX8_found_35 : decode cX8_found 35 = .ok (.iload_n 2, 1) := by decide +kernel
theorem dX8_found_36 : decode cX8_found 36 = .ok (.iastore, 1) := by decide +kernel
theorem dX8_found_37 : decode cX8_found 37 = .ok (.iload_n 3, 1) := by decide +kernel
theorem dX8_found_38 : decode cX8_found 38 = .ok (.ireturn, 1) := by decide +kernel
theorem dX8_read_0 : decode cX8_read 0 = .ok (.aload_n 0, 1) := by decide +kernel
theorem dX8_read_1 : decode cX8_read 1 = .ok (.iload_n 1, 1) := by decide +kernel
theorem dX8_read_2 : decode cX8_read 2 = .ok (.invokevirtual 181, 3) := by decide +kernel
theorem dX8_read_5 : decode cX8_read 5 = .ok (.istore_n 2, 1) := by decide +kernel
theorem dX8_read_6 : decode cX8_read 6 = .ok (.iload_n 2, 1) := by decide +kernel
theorem dX8_read_7 : decode cX8_read 7 = .ok (.ifCond .eq 5, 3) := by decide +kernel
theorem dX8_read_10 : decode cX8_read 10 = .ok (.iload_n 2, 1) := by decide +kernel
theorem dX8_read_11 : decode cX8_read 11 = .ok (.ireturn, 1) := by decide +kernel
theorem dX8_read_12 : decode cX8_read 12 = .ok (.aload_n 0, 1) := by decide +kernel
theorem dX8_read_13 : decode cX8_read 13 = .ok (.getfield 70, 3) := by decide +kernel
theorem dX8_read_16 : decode cX8_read 16 = .ok (.iload_n 1, 1) := by decide +kernel
theorem dX8_read_17 : decode cX8_read 17 = .ok (.aaload, 1) := by decide +kernel
theorem dX8_read_18 : decode cX8_read 18 = .ok (.astore_n 3, 1) := by decide +kernel
theorem dX8_read_19 : decode cX8_read 19 = .ok (.aload_n 3, 1) := by decide +kernel
theorem dX8_read_20 : decode cX8_read 20 = .ok (.getfield 184, 3) := by decide +kernel
theorem dX8_read_23 : decode cX8_read 23 = .ok (.bipush 10, 2) := by decide +kernel
theorem dX8_read_25 : decode cX8_read 25 = .ok (.invokestatic 187, 3) := by decide +kernel
theorem dX8_read_28 : decode cX8_read 28 = .ok (.istore 4, 2) := by decide +kernel
theorem dX8_read_30 : decode cX8_read 30 = .ok (.iconst 0, 1) := by decide +kernel
theorem dX8_read_31 : decode cX8_read 31 = .ok (.istore 5, 2) := by decide +kernel
theorem dX8_read_33 : decode cX8_read 33 = .ok (.iload 5, 2) := by decide +kernel
theorem dX8_read_35 : decode cX8_read 35 = .ok (.iload 4, 2) := by decide +kernel
theorem dX8_read_37 : decode cX8_read 37 = .ok (.if_icmp .ge 39, 3) := by decide +kernel
theorem dX8_read_40 : decode cX8_read 40 = .ok (.aload_n 3, 1) := by decide +kernel
theorem dX8_read_41 : decode cX8_read 41 = .ok (.getfield 191, 3) := by decide +kernel
theorem dX8_read_44 : decode cX8_read 44 = .ok (.iload 5, 2) := by decide +kernel
theorem dX8_read_46 : decode cX8_read 46 = .ok (.iaload, 1) := by decide +kernel
theorem dX8_read_47 : decode cX8_read 47 = .ok (.invokestatic 178, 3) := by decide +kernel
theorem dX8_read_50 : decode cX8_read 50 = .ok (.ifCond .eq 26, 3) := by decide +kernel
theorem dX8_read_53 : decode cX8_read 53 = .ok (.aload_n 0, 1) := by decide +kernel
theorem dX8_read_54 : decode cX8_read 54 = .ok (.getfield 41, 3) := by decide +kernel
theorem dX8_read_57 : decode cX8_read 57 = .ok (.getfield 121, 3) := by decide +kernel
theorem dX8_read_60 : decode cX8_read 60 = .ok (.iload 5, 2) := by decide +kernel
theorem dX8_read_62 : decode cX8_read 62 = .ok (.aload_n 3, 1) := by decide +kernel
theorem dX8_read_63 : decode cX8_read 63 = .ok (.getfield 191, 3) := by decide +kernel
theorem dX8_read_66 : decode cX8_read 66 = .ok (.iload 5, 2) := by decide +kernel
theorem dX8_read_68 : decode cX8_read 68 = .ok (.iaload, 1) := by decide +kernel
theorem dX8_read_69 : decode cX8_read 69 = .ok (.iastore, 1) := by decide +kernel
theorem dX8_read_70 : decode cX8_read 70 = .ok (.iinc 5 1, 3) := by decide +kernel
theorem dX8_read_73 : decode cX8_read 73 = .ok (.goto (-40), 3) := by decide +kernel
theorem dX8_read_76 : decode cX8_read 76 = .ok (.iload 5, 2) := by decide +kernel
theorem dX8_read_78 : decode cX8_read 78 = .ok (.ireturn, 1) := by decide +kernel
theorem dX8_fits_0 : decode cX8_fits 0 = .ok (.aload_n 0, 1) := by decide +kernel
theorem dX8_fits_1 : decode cX8_fits 1 = .ok (.iload_n 1, 1) := by decide +kernel
theorem dX8_fits_2 : decode cX8_fits 2 = .ok (.invokevirtual 104, 3) := by decide +kernel
theorem dX8_fits_5 : decode cX8_fits 5 = .ok (.ifCond .eq 20, 3) := by decide +kernel
theorem dX8_fits_8 : decode cX8_fits 8 = .ok (.aload_n 0, 1) := by decide +kernel
theorem dX8_fits_9 : decode cX8_fits 9 = .ok (.getfield 41, 3) := by decide +kernel
theorem dX8_fits_12 : decode cX8_fits 12 = .ok (.iload_n 1, 1) := by decide +kernel
theorem dX8_fits_13 : decode cX8_fits 13 = .ok (.aload_n 0, 1) := by decide +kernel
theorem dX8_fits_14 : decode cX8_fits 14 = .ok (.getfield 7, 3) := by decide +kernel
theorem dX8_fits_17 : decode cX8_fits 17 = .ok (.iconst 0, 1) := by decide +kernel
theorem dX8_fits_18 : decode cX8_fits 18 = .ok (.iaload, 1) := by decide +kernel
theorem dX8_fits_19 : decode cX8_fits 19 = .ok (.invokevirtual 194, 3) := by decide +kernel
theorem dX8_fits_22 : decode cX8_fits 22 = .ok (.goto 5, 3) := by decide +kernel
theorem dX8_fits_25 : decode cX8_fits 25 = .ok (.bipush (-2), 2) := by decide +kernel
theorem dX8_fits_27 : decode cX8_fits 27 = .ok (.ireturn, 1) := by decide +kernel
theorem dX8_worlds_0 : decode cX8_worlds 0 = .ok (.aload_n 0, 1) := by decide +kernel
theorem dX8_worlds_1 : decode cX8_worlds 1 = .ok (.getfield 41, 3) := by decide +kernel
theorem dX8_worlds_4 : decode cX8_worlds 4 = .ok (.aload_n 0, 1) := by decide +kernel
theorem dX8_worlds_5 : decode cX8_worlds 5 = .ok (.getfield 7, 3) := by decide +kernel
theorem dX8_worlds_8 : decode cX8_worlds 8 = .ok (.iconst 0, 1) := by decide +kernel
theorem dX8_worlds_9 : decode cX8_worlds 9 = .ok (.iaload, 1) := by decide +kernel
theorem dX8_worlds_10 : decode cX8_worlds 10 = .ok (.iconst (-1), 1) := by decide +kernel
theorem dX8_worlds_11 : decode cX8_worlds 11 = .ok (.iconst 0, 1) := by decide +kernel
theorem dX8_worlds_12 : decode cX8_worlds 12 = .ok (.invokevirtual 197, 3) := by decide +kernel
theorem dX8_worlds_15 : decode cX8_worlds 15 = .ok (.lreturn, 1) := by decide +kernel
theorem dX8_odds_0 : decode cX8_odds 0 = .ok (.aload_n 0, 1) := by decide +kernel
theorem dX8_odds_1 : decode cX8_odds 1 = .ok (.iload_n 1, 1) := by decide +kernel
theorem dX8_odds_2 : decode cX8_odds 2 = .ok (.invokevirtual 104, 3) := by decide +kernel
theorem dX8_odds_5 : decode cX8_odds 5 = .ok (.ifCond .eq 19, 3) := by decide +kernel
theorem dX8_odds_8 : decode cX8_odds 8 = .ok (.iload_n 2, 1) := by decide +kernel
theorem dX8_odds_9 : decode cX8_odds 9 = .ok (.invokestatic 75, 3) := by decide +kernel
theorem dX8_odds_12 : decode cX8_odds 12 = .ok (.ifCond .eq 12, 3) := by decide +kernel
theorem dX8_odds_15 : decode cX8_odds 15 = .ok (.iload_n 3, 1) := by decide +kernel
theorem dX8_odds_16 : decode cX8_odds 16 = .ok (.iconst 0, 1) := by decide +kernel
theorem dX8_odds_17 : decode cX8_odds 17 = .ok (.iconst 1, 1) := by decide +kernel
theorem dX8_odds_18 : decode cX8_odds 18 = .ok (.invokestatic 79, 3) := by decide +kernel
theorem dX8_odds_21 : decode cX8_odds 21 = .ok (.ifCond .ne 9, 3) := by decide +kernel
theorem dX8_odds_24 : decode cX8_odds 24 = .ok (.bipush (-2), 2) := by decide +kernel
theorem dX8_odds_26 : decode cX8_odds 26 = .ok (.invokestatic 167, 3) := by decide +kernel
theorem dX8_odds_29 : decode cX8_odds 29 = .ok (.lreturn, 1) := by decide +kernel
theorem dX8_odds_30 : decode cX8_odds 30 = .ok (.aload_n 0, 1) := by decide +kernel
theorem dX8_odds_31 : decode cX8_odds 31 = .ok (.invokevirtual 201, 3) := by decide +kernel
theorem dX8_odds_34 : decode cX8_odds 34 = .ok (.lstore 4, 2) := by decide +kernel
theorem dX8_odds_36 : decode cX8_odds 36 = .ok (.lload 4, 2) := by decide +kernel
theorem dX8_odds_38 : decode cX8_odds 38 = .ok (.lconst 0, 1) := by decide +kernel
theorem dX8_odds_39 : decode cX8_odds 39 = .ok (.lcmp, 1) := by decide +kernel
theorem dX8_odds_40 : decode cX8_odds 40 = .ok (.ifCond .ne 9, 3) := by decide +kernel
theorem dX8_odds_43 : decode cX8_odds 43 = .ok (.bipush (-3), 2) := by decide +kernel
theorem dX8_odds_45 : decode cX8_odds 45 = .ok (.invokestatic 167, 3) := by decide +kernel
theorem dX8_odds_48 : decode cX8_odds 48 = .ok (.lreturn, 1) := by decide +kernel
theorem dX8_odds_49 : decode cX8_odds 49 = .ok (.aload_n 0, 1) := by decide +kernel
theorem dX8_odds_50 : decode cX8_odds 50 = .ok (.getfield 41, 3) := by decide +kernel
theorem dX8_odds_53 : decode cX8_odds 53 = .ok (.aload_n 0, 1) := by decide +kernel
theorem dX8_odds_54 : decode cX8_odds 54 = .ok (.getfield 7, 3) := by decide +kernel
theorem dX8_odds_57 : decode cX8_odds 57 = .ok (.iconst 0, 1) := by decide +kernel
theorem dX8_odds_58 : decode cX8_odds 58 = .ok (.iaload, 1) := by decide +kernel
theorem dX8_odds_59 : decode cX8_odds 59 = .ok (.iload_n 1, 1) := by decide +kernel
theorem dX8_odds_60 : decode cX8_odds 60 = .ok (.iload_n 2, 1) := by decide +kernel
theorem dX8_odds_61 : decode cX8_odds 61 = .ok (.invokevirtual 197, 3) := by decide +kernel
theorem dX8_odds_64 : decode cX8_odds 64 = .ok (.lload 4, 2) := by decide +kernel
theorem dX8_odds_66 : decode cX8_odds 66 = .ok (.iload_n 3, 1) := by decide +kernel
theorem dX8_odds_67 : decode cX8_odds 67 = .ok (.invokestatic 174, 3) := by decide +kernel
theorem dX8_odds_70 : decode cX8_odds 70 = .ok (.lreturn, 1) := by decide +kernel
theorem dX8_lean_0 : decode cX8_lean 0 = .ok (.iload_n 1, 1) := by decide +kernel
theorem dX8_lean_1 : decode cX8_lean 1 = .ok (.iconst 0, 1) := by decide +kernel
theorem dX8_lean_2 : decode cX8_lean 2 = .ok (.bipush 10, 2) := by decide +kernel
theorem dX8_lean_4 : decode cX8_lean 4 = .ok (.invokestatic 79, 3) := by decide +kernel
theorem dX8_lean_7 : decode cX8_lean 7 = .ok (.ifCond .eq 14, 3) := by decide +kernel
theorem dX8_lean_10 : decode cX8_lean 10 = .ok (.iload_n 2, 1) := by decide +kernel
theorem dX8_lean_11 : decode cX8_lean 11 = .ok (.bipush (-99), 2) := by decide +kernel
theorem dX8_lean_13 : decode cX8_lean 13 = .ok (.bipush 99, 2) := by decide +kernel
theorem dX8_lean_15 : decode cX8_lean 15 = .ok (.invokestatic 79, 3) := by decide +kernel
theorem dX8_lean_18 : decode cX8_lean 18 = .ok (.ifCond .ne 6, 3) := by decide +kernel
theorem dX8_lean_21 : decode cX8_lean 21 = .ok (.ldc 107, 2) := by decide +kernel
theorem dX8_lean_23 : decode cX8_lean 23 = .ok (.ireturn, 1) := by decide +kernel
theorem dX8_lean_24 : decode cX8_lean 24 = .ok (.aload_n 0, 1) := by decide +kernel
theorem dX8_lean_25 : decode cX8_lean 25 = .ok (.getfield 48, 3) := by decide +kernel
theorem dX8_lean_28 : decode cX8_lean 28 = .ok (.getfield 205, 3) := by decide +kernel
theorem dX8_lean_31 : decode cX8_lean 31 = .ok (.iload_n 1, 1) := by decide +kernel
theorem dX8_lean_32 : decode cX8_lean 32 = .ok (.iaload, 1) := by decide +kernel
theorem dX8_lean_33 : decode cX8_lean 33 = .ok (.istore_n 3, 1) := by decide +kernel
theorem dX8_lean_34 : decode cX8_lean 34 = .ok (.aload_n 0, 1) := by decide +kernel
theorem dX8_lean_35 : decode cX8_lean 35 = .ok (.getfield 48, 3) := by decide +kernel
theorem dX8_lean_38 : decode cX8_lean 38 = .ok (.getfield 205, 3) := by decide +kernel
theorem dX8_lean_41 : decode cX8_lean 41 = .ok (.iload_n 1, 1) := by decide +kernel
theorem dX8_lean_42 : decode cX8_lean 42 = .ok (.iload_n 2, 1) := by decide +kernel
theorem dX8_lean_43 : decode cX8_lean 43 = .ok (.iastore, 1) := by decide +kernel
theorem dX8_lean_44 : decode cX8_lean 44 = .ok (.iload_n 3, 1) := by decide +kernel
theorem dX8_lean_45 : decode cX8_lean 45 = .ok (.ireturn, 1) := by decide +kernel
theorem dX8_runs_0 : decode cX8_runs 0 = .ok (.iload_n 1, 1) := by decide +kernel
theorem dX8_runs_1 : decode cX8_runs 1 = .ok (.iconst 1, 1) := by decide +kernel
theorem dX8_runs_2 : decode cX8_runs 2 = .ok (.sipush 999, 3) := by decide +kernel
theorem dX8_runs_5 : decode cX8_runs 5 = .ok (.invokestatic 79, 3) := by decide +kernel
theorem dX8_runs_8 : decode cX8_runs 8 = .ok (.ifCond .eq 24, 3) := by decide +kernel
theorem dX8_runs_11 : decode cX8_runs 11 = .ok (.aload_n 0, 1) := by decide +kernel
theorem dX8_runs_12 : decode cX8_runs 12 = .ok (.iload_n 2, 1) := by decide +kernel
theorem dX8_runs_13 : decode cX8_runs 13 = .ok (.invokevirtual 140, 3) := by decide +kernel
theorem dX8_runs_16 : decode cX8_runs 16 = .ok (.ifCond .eq 16, 3) := by decide +kernel
theorem dX8_runs_19 : decode cX8_runs 19 = .ok (.aload_n 0, 1) := by decide +kernel
theorem dX8_runs_20 : decode cX8_runs 20 = .ok (.iload_n 3, 1) := by decide +kernel
theorem dX8_runs_21 : decode cX8_runs 21 = .ok (.invokevirtual 140, 3) := by decide +kernel
theorem dX8_runs_24 : decode cX8_runs 24 = .ok (.ifCond .eq 8, 3) := by decide +kernel
theorem dX8_runs_27 : decode cX8_runs 27 = .ok (.iload_n 3, 1) := by decide +kernel
theorem dX8_runs_28 : decode cX8_runs 28 = .ok (.iload_n 2, 1) := by decide +kernel
theorem dX8_runs_29 : decode cX8_runs 29 = .ok (.if_icmp .ge 6, 3) := by decide +kernel
theorem dX8_runs_32 : decode cX8_runs 32 = .ok (.bipush (-2), 2) := by decide +kernel
theorem dX8_runs_34 : decode cX8_runs 34 = .ok (.ireturn, 1) := by decide +kernel
theorem dX8_runs_35 : decode cX8_runs 35 = .ok (.aload_n 0, 1) := by decide +kernel
theorem dX8_runs_36 : decode cX8_runs 36 = .ok (.getfield 48, 3) := by decide +kernel
theorem dX8_runs_39 : decode cX8_runs 39 = .ok (.iload_n 2, 1) := by decide +kernel
theorem dX8_runs_40 : decode cX8_runs 40 = .ok (.iload_n 3, 1) := by decide +kernel
theorem dX8_runs_41 : decode cX8_runs 41 = .ok (.invokevirtual 208, 3) := by decide +kernel
theorem dX8_runs_44 : decode cX8_runs 44 = .ok (.aload_n 0, 1) := by decide +kernel
theorem dX8_runs_45 : decode cX8_runs 45 = .ok (.getfield 7, 3) := by decide +kernel
theorem dX8_runs_48 : decode cX8_runs 48 = .ok (.iconst 1, 1) := by decide +kernel
theorem dX8_runs_49 : decode cX8_runs 49 = .ok (.iaload, 1) := by decide +kernel
theorem dX8_runs_50 : decode cX8_runs 50 = .ok (.iload_n 1, 1) := by decide +kernel
theorem dX8_runs_51 : decode cX8_runs 51 = .ok (.isub, 1) := by decide +kernel
theorem dX8_runs_52 : decode cX8_runs 52 = .ok (.if_icmp .gt 7, 3) := by decide +kernel
theorem dX8_runs_55 : decode cX8_runs 55 = .ok (.iconst 1, 1) := by decide +kernel
theorem dX8_runs_56 : decode cX8_runs 56 = .ok (.goto 4, 3) := by decide +kernel
theorem dX8_runs_59 : decode cX8_runs 59 = .ok (.iconst 0, 1) := by decide +kernel
theorem dX8_runs_60 : decode cX8_runs 60 = .ok (.ireturn, 1) := by decide +kernel
theorem dX8_lifts_0 : decode cX8_lifts 0 = .ok (.iconst 0, 1) := by decide +kernel
theorem dX8_lifts_1 : decode cX8_lifts 1 = .ok (.aload_n 0, 1) := by decide +kernel
theorem dX8_lifts_2 : decode cX8_lifts 2 = .ok (.getfield 7, 3) := by decide +kernel
theorem dX8_lifts_5 : decode cX8_lifts 5 = .ok (.iconst 1, 1) := by decide +kernel
theorem dX8_lifts_6 : decode cX8_lifts 6 = .ok (.iaload, 1) := by decide +kernel
theorem dX8_lifts_7 : decode cX8_lifts 7 = .ok (.aload_n 0, 1) := by decide +kernel
theorem dX8_lifts_8 : decode cX8_lifts 8 = .ok (.getfield 48, 3) := by decide +kernel
theorem dX8_lifts_11 : decode cX8_lifts 11 = .ok (.iconst 0, 1) := by decide +kernel
theorem dX8_lifts_12 : decode cX8_lifts 12 = .ok (.aload_n 0, 1) := by decide +kernel
theorem dX8_lifts_13 : decode cX8_lifts 13 = .ok (.getfield 23, 3) := by decide +kernel
theorem dX8_lifts_16 : decode cX8_lifts 16 = .ok (.getfield 152, 3) := by decide +kernel
theorem dX8_lifts_19 : decode cX8_lifts 19 = .ok (.invokevirtual 208, 3) := by decide +kernel
theorem dX8_lifts_22 : decode cX8_lifts 22 = .ok (.isub, 1) := by decide +kernel
theorem dX8_lifts_23 : decode cX8_lifts 23 = .ok (.invokestatic 211, 3) := by decide +kernel
theorem dX8_lifts_26 : decode cX8_lifts 26 = .ok (.ireturn, 1) := by decide +kernel
theorem dX8_longest_0 : decode cX8_longest 0 = .ok (.iload_n 1, 1) := by decide +kernel
theorem dX8_longest_1 : decode cX8_longest 1 = .ok (.iconst 1, 1) := by decide +kernel
theorem dX8_longest_2 : decode cX8_longest 2 = .ok (.sipush 999, 3) := by decide +kernel
theorem dX8_longest_5 : decode cX8_longest 5 = .ok (.invokestatic 79, 3) := by decide +kernel
theorem dX8_longest_8 : decode cX8_longest 8 = .ok (.ifCond .eq 12, 3) := by decide +kernel
theorem dX8_longest_11 : decode cX8_longest 11 = .ok (.iload_n 2, 1) := by decide +kernel
theorem dX8_longest_12 : decode cX8_longest 12 = .ok (.iconst 0, 1) := by decide +kernel
theorem dX8_longest_13 : decode cX8_longest 13 = .ok (.iconst 1, 1) := by decide +kernel
theorem dX8_longest_14 : decode cX8_longest 14 = .ok (.invokestatic 79, 3) := by decide +kernel
theorem dX8_longest_17 : decode cX8_longest 17 = .ok (.ifCond .ne 6, 3) := by decide +kernel
theorem dX8_longest_20 : decode cX8_longest 20 = .ok (.bipush (-2), 2) := by decide +kernel
theorem dX8_longest_22 : decode cX8_longest 22 = .ok (.ireturn, 1) := by decide +kernel
theorem dX8_longest_23 : decode cX8_longest 23 = .ok (.iconst 0, 1) := by decide +kernel
theorem dX8_longest_24 : decode cX8_longest 24 = .ok (.istore_n 3, 1) := by decide +kernel
theorem dX8_longest_25 : decode cX8_longest 25 = .ok (.iconst (-1), 1) := by decide +kernel
theorem dX8_longest_26 : decode cX8_longest 26 = .ok (.istore 4, 2) := by decide +kernel
theorem dX8_longest_28 : decode cX8_longest 28 = .ok (.iconst 0, 1) := by decide +kernel
theorem dX8_longest_29 : decode cX8_longest 29 = .ok (.istore 5, 2) := by decide +kernel
theorem dX8_longest_31 : decode cX8_longest 31 = .ok (.iload 5, 2) := by decide +kernel
theorem dX8_longest_33 : decode cX8_longest 33 = .ok (.aload_n 0, 1) := by decide +kernel
theorem dX8_longest_34 : decode cX8_longest 34 = .ok (.getfield 23, 3) := by decide +kernel
theorem dX8_longest_37 : decode cX8_longest 37 = .ok (.getfield 152, 3) := by decide +kernel
theorem dX8_longest_40 : decode cX8_longest 40 = .ok (.if_icmp .gt 48, 3) := by decide +kernel
theorem dX8_longest_43 : decode cX8_longest 43 = .ok (.aload_n 0, 1) := by decide +kernel
theorem dX8_longest_44 : decode cX8_longest 44 = .ok (.getfield 48, 3) := by decide +kernel
theorem dX8_longest_47 : decode cX8_longest 47 = .ok (.iload 5, 2) := by decide +kernel
theorem dX8_longest_49 : decode cX8_longest 49 = .ok (.aload_n 0, 1) := by decide +kernel
theorem dX8_longest_50 : decode cX8_longest 50 = .ok (.getfield 23, 3) := by decide +kernel
theorem dX8_longest_53 : decode cX8_longest 53 = .ok (.getfield 152, 3) := by decide +kernel
theorem dX8_longest_56 : decode cX8_longest 56 = .ok (.aload_n 0, 1) := by decide +kernel
theorem dX8_longest_57 : decode cX8_longest 57 = .ok (.getfield 7, 3) := by decide +kernel
theorem dX8_longest_60 : decode cX8_longest 60 = .ok (.iconst 1, 1) := by decide +kernel
theorem dX8_longest_61 : decode cX8_longest 61 = .ok (.iaload, 1) := by decide +kernel
theorem dX8_longest_62 : decode cX8_longest 62 = .ok (.iload_n 1, 1) := by decide +kernel
theorem dX8_longest_63 : decode cX8_longest 63 = .ok (.isub, 1) := by decide +kernel
theorem dX8_longest_64 : decode cX8_longest 64 = .ok (.invokevirtual 214, 3) := by decide +kernel
theorem dX8_longest_67 : decode cX8_longest 67 = .ok (.istore 6, 2) := by decide +kernel
theorem dX8_longest_69 : decode cX8_longest 69 = .ok (.iload 6, 2) := by decide +kernel
theorem dX8_longest_71 : decode cX8_longest 71 = .ok (.iload_n 3, 1) := by decide +kernel
theorem dX8_longest_72 : decode cX8_longest 72 = .ok (.if_icmp .le 10, 3) := by decide +kernel
theorem dX8_longest_75 : decode cX8_longest 75 = .ok (.iload 6, 2) := by decide +kernel
theorem dX8_longest_77 : decode cX8_longest 77 = .ok (.istore_n 3, 1) := by decide +kernel
theorem dX8_longest_78 : decode cX8_longest 78 = .ok (.iload 5, 2) := by decide +kernel
theorem dX8_longest_80 : decode cX8_longest 80 = .ok (.istore 4, 2) := by decide +kernel
theorem dX8_longest_82 : decode cX8_longest 82 = .ok (.iinc 5 1, 3) := by decide +kernel
theorem dX8_longest_85 : decode cX8_longest 85 = .ok (.goto (-54), 3) := by decide +kernel
theorem dX8_longest_88 : decode cX8_longest 88 = .ok (.iload_n 2, 1) := by decide +kernel
theorem dX8_longest_89 : decode cX8_longest 89 = .ok (.ifCond .ne 7, 3) := by decide +kernel
theorem dX8_longest_92 : decode cX8_longest 92 = .ok (.iload_n 3, 1) := by decide +kernel
theorem dX8_longest_93 : decode cX8_longest 93 = .ok (.goto 5, 3) := by decide +kernel
theorem dX8_longest_96 : decode cX8_longest 96 = .ok (.iload 4, 2) := by decide +kernel
theorem dX8_longest_98 : decode cX8_longest 98 = .ok (.ireturn, 1) := by decide +kernel
theorem dX8_mended_0 : decode cX8_mended 0 = .ok (.iload_n 1, 1) := by decide +kernel
theorem dX8_mended_1 : decode cX8_mended 1 = .ok (.iconst 0, 1) := by decide +kernel
theorem dX8_mended_2 : decode cX8_mended 2 = .ok (.sipush 1023, 3) := by decide +kernel
theorem dX8_mended_5 : decode cX8_mended 5 = .ok (.invokestatic 79, 3) := by decide +kernel
theorem dX8_mended_8 : decode cX8_mended 8 = .ok (.ifCond .eq 16, 3) := by decide +kernel
theorem dX8_mended_11 : decode cX8_mended 11 = .ok (.iload_n 2, 1) := by decide +kernel
theorem dX8_mended_12 : decode cX8_mended 12 = .ok (.iconst (-1), 1) := by decide +kernel
theorem dX8_mended_13 : decode cX8_mended 13 = .ok (.if_icmp .eq 14, 3) := by decide +kernel
theorem dX8_mended_16 : decode cX8_mended 16 = .ok (.aload_n 0, 1) := by decide +kernel
theorem dX8_mended_17 : decode cX8_mended 17 = .ok (.iload_n 2, 1) := by decide +kernel
theorem dX8_mended_18 : decode cX8_mended 18 = .ok (.invokevirtual 104, 3) := by decide +kernel
theorem dX8_mended_21 : decode cX8_mended 21 = .ok (.ifCond .ne 6, 3) := by decide +kernel
theorem dX8_mended_24 : decode cX8_mended 24 = .ok (.ldc 107, 2) := by decide +kernel
theorem dX8_mended_26 : decode cX8_mended 26 = .ok (.ireturn, 1) := by decide +kernel
theorem dX8_mended_27 : decode cX8_mended 27 = .ok (.aload_n 0, 1) := by decide +kernel
theorem dX8_mended_28 : decode cX8_mended 28 = .ok (.getfield 55, 3) := by decide +kernel
theorem dX8_mended_31 : decode cX8_mended 31 = .ok (.aload_n 0, 1) := by decide +kernel
theorem dX8_mended_32 : decode cX8_mended 32 = .ok (.getfield 32, 3) := by decide +kernel
theorem dX8_mended_35 : decode cX8_mended 35 = .ok (.iload_n 1, 1) := by decide +kernel
theorem dX8_mended_36 : decode cX8_mended 36 = .ok (.aload_n 0, 1) := by decide +kernel
theorem dX8_mended_37 : decode cX8_mended 37 = .ok (.getfield 7, 3) := by decide +kernel
theorem dX8_mended_40 : decode cX8_mended 40 = .ok (.iconst 2, 1) := by decide +kernel
theorem dX8_mended_41 : decode cX8_mended 41 = .ok (.iaload, 1) := by decide +kernel
theorem dX8_mended_42 : decode cX8_mended 42 = .ok (.aload_n 0, 1) := by decide +kernel
theorem dX8_mended_43 : decode cX8_mended 43 = .ok (.getfield 7, 3) := by decide +kernel
theorem dX8_mended_46 : decode cX8_mended 46 = .ok (.iconst 3, 1) := by decide +kernel
theorem dX8_mended_47 : decode cX8_mended 47 = .ok (.iaload, 1) := by decide +kernel
theorem dX8_mended_48 : decode cX8_mended 48 = .ok (.invokevirtual 217, 3) := by decide +kernel
theorem dX8_mended_51 : decode cX8_mended 51 = .ok (.istore_n 3, 1) := by decide +kernel
theorem dX8_mended_52 : decode cX8_mended 52 = .ok (.iload_n 2, 1) := by decide +kernel
theorem dX8_mended_53 : decode cX8_mended 53 = .ok (.iconst (-1), 1) := by decide +kernel
theorem dX8_mended_54 : decode cX8_mended 54 = .ok (.if_icmp .ne 5, 3) := by decide +kernel
theorem dX8_mended_57 : decode cX8_mended 57 = .ok (.iload_n 3, 1) := by decide +kernel
theorem dX8_mended_58 : decode cX8_mended 58 = .ok (.ireturn, 1) := by decide +kernel
theorem dX8_mended_59 : decode cX8_mended 59 = .ok (.iload_n 3, 1) := by decide +kernel
theorem dX8_mended_60 : decode cX8_mended 60 = .ok (.iconst (-1), 1) := by decide +kernel
theorem dX8_mended_61 : decode cX8_mended 61 = .ok (.if_icmp .ne 8, 3) := by decide +kernel
theorem dX8_mended_64 : decode cX8_mended 64 = .ok (.ldc 221, 2) := by decide +kernel
theorem dX8_mended_66 : decode cX8_mended 66 = .ok (.goto 12, 3) := by decide +kernel
theorem dX8_mended_69 : decode cX8_mended 69 = .ok (.aload_n 0, 1) := by decide +kernel
theorem dX8_mended_70 : decode cX8_mended 70 = .ok (.getfield 55, 3) := by decide +kernel
theorem dX8_mended_73 : decode cX8_mended 73 = .ok (.getfield 222, 3) := by decide +kernel
theorem dX8_mended_76 : decode cX8_mended 76 = .ok (.iload_n 2, 1) := by decide +kernel
theorem dX8_mended_77 : decode cX8_mended 77 = .ok (.iaload, 1) := by decide +kernel
theorem dX8_mended_78 : decode cX8_mended 78 = .ok (.ireturn, 1) := by decide +kernel
theorem dX8_next_0 : decode cX8_next 0 = .ok (.iload_n 1, 1) := by decide +kernel
theorem dX8_next_1 : decode cX8_next 1 = .ok (.iconst 1, 1) := by decide +kernel
theorem dX8_next_2 : decode cX8_next 2 = .ok (.sipush 9999, 3) := by decide +kernel
theorem dX8_next_5 : decode cX8_next 5 = .ok (.invokestatic 79, 3) := by decide +kernel
theorem dX8_next_8 : decode cX8_next 8 = .ok (.ifCond .eq 12, 3) := by decide +kernel
theorem dX8_next_11 : decode cX8_next 11 = .ok (.iload_n 2, 1) := by decide +kernel
theorem dX8_next_12 : decode cX8_next 12 = .ok (.iconst 0, 1) := by decide +kernel
theorem dX8_next_13 : decode cX8_next 13 = .ok (.iconst 1, 1) := by decide +kernel
theorem dX8_next_14 : decode cX8_next 14 = .ok (.invokestatic 79, 3) := by decide +kernel
theorem dX8_next_17 : decode cX8_next 17 = .ok (.ifCond .ne 6, 3) := by decide +kernel
theorem dX8_next_20 : decode cX8_next 20 = .ok (.bipush (-2), 2) := by decide +kernel
theorem dX8_next_22 : decode cX8_next 22 = .ok (.ireturn, 1) := by decide +kernel
theorem dX8_next_23 : decode cX8_next 23 = .ok (.iconst 0, 1) := by decide +kernel
theorem dX8_next_24 : decode cX8_next 24 = .ok (.istore_n 3, 1) := by decide +kernel
theorem dX8_next_25 : decode cX8_next 25 = .ok (.iconst 1, 1) := by decide +kernel
theorem dX8_next_26 : decode cX8_next 26 = .ok (.istore 4, 2) := by decide +kernel
theorem dX8_next_28 : decode cX8_next 28 = .ok (.iload 4, 2) := by decide +kernel
theorem dX8_next_30 : decode cX8_next 30 = .ok (.bipush 9, 2) := by decide +kernel
theorem dX8_next_32 : decode cX8_next 32 = .ok (.if_icmp .ge 28, 3) := by decide +kernel
theorem dX8_next_35 : decode cX8_next 35 = .ok (.aload_n 0, 1) := by decide +kernel
theorem dX8_next_36 : decode cX8_next 36 = .ok (.iload_n 1, 1) := by decide +kernel
theorem dX8_next_37 : decode cX8_next 37 = .ok (.iload 4, 2) := by decide +kernel
theorem dX8_next_39 : decode cX8_next 39 = .ok (.invokevirtual 225, 3) := by decide +kernel
theorem dX8_next_42 : decode cX8_next 42 = .ok (.aload_n 0, 1) := by decide +kernel
theorem dX8_next_43 : decode cX8_next 43 = .ok (.iload_n 1, 1) := by decide +kernel
theorem dX8_next_44 : decode cX8_next 44 = .ok (.iload_n 3, 1) := by decide +kernel
theorem dX8_next_45 : decode cX8_next 45 = .ok (.invokevirtual 225, 3) := by decide +kernel
theorem dX8_next_48 : decode cX8_next 48 = .ok (.if_icmp .ge 6, 3) := by decide +kernel
theorem dX8_next_51 : decode cX8_next 51 = .ok (.iload 4, 2) := by decide +kernel
theorem dX8_next_53 : decode cX8_next 53 = .ok (.istore_n 3, 1) := by decide +kernel
theorem dX8_next_54 : decode cX8_next 54 = .ok (.iinc 4 1, 3) := by decide +kernel
theorem dX8_next_57 : decode cX8_next 57 = .ok (.goto (-29), 3) := by decide +kernel
theorem dX8_next_60 : decode cX8_next 60 = .ok (.iload_n 2, 1) := by decide +kernel
theorem dX8_next_61 : decode cX8_next 61 = .ok (.ifCond .ne 7, 3) := by decide +kernel
theorem dX8_next_64 : decode cX8_next 64 = .ok (.iload_n 3, 1) := by decide +kernel
theorem dX8_next_65 : decode cX8_next 65 = .ok (.goto 9, 3) := by decide +kernel
theorem dX8_next_68 : decode cX8_next 68 = .ok (.aload_n 0, 1) := by decide +kernel
theorem dX8_next_69 : decode cX8_next 69 = .ok (.iload_n 1, 1) := by decide +kernel
theorem dX8_next_70 : decode cX8_next 70 = .ok (.iload_n 3, 1) := by decide +kernel
theorem dX8_next_71 : decode cX8_next 71 = .ok (.invokevirtual 225, 3) := by decide +kernel
theorem dX8_next_74 : decode cX8_next 74 = .ok (.ireturn, 1) := by decide +kernel
theorem dX8_weigh_0 : decode cX8_weigh 0 = .ok (.iload_n 1, 1) := by decide +kernel
theorem dX8_weigh_1 : decode cX8_weigh 1 = .ok (.invokestatic 131, 3) := by decide +kernel
theorem dX8_weigh_4 : decode cX8_weigh 4 = .ok (.ifCond .eq 13, 3) := by decide +kernel
theorem dX8_weigh_7 : decode cX8_weigh 7 = .ok (.iload_n 2, 1) := by decide +kernel
theorem dX8_weigh_8 : decode cX8_weigh 8 = .ok (.iconst 0, 1) := by decide +kernel
theorem dX8_weigh_9 : decode cX8_weigh 9 = .ok (.bipush 99, 2) := by decide +kernel
theorem dX8_weigh_11 : decode cX8_weigh 11 = .ok (.invokestatic 79, 3) := by decide +kernel
theorem dX8_weigh_14 : decode cX8_weigh 14 = .ok (.ifCond .ne 6, 3) := by decide +kernel
theorem dX8_weigh_17 : decode cX8_weigh 17 = .ok (.bipush (-2), 2) := by decide +kernel
theorem dX8_weigh_19 : decode cX8_weigh 19 = .ok (.ireturn, 1) := by decide +kernel
theorem dX8_weigh_20 : decode cX8_weigh 20 = .ok (.aload_n 0, 1) := by decide +kernel
theorem dX8_weigh_21 : decode cX8_weigh 21 = .ok (.getfield 64, 3) := by decide +kernel
theorem dX8_weigh_24 : decode cX8_weigh 24 = .ok (.getfield 228, 3) := by decide +kernel
theorem dX8_weigh_27 : decode cX8_weigh 27 = .ok (.iload_n 1, 1) := by decide +kernel
theorem dX8_weigh_28 : decode cX8_weigh 28 = .ok (.iaload, 1) := by decide +kernel
theorem dX8_weigh_29 : decode cX8_weigh 29 = .ok (.istore_n 3, 1) := by decide +kernel
theorem dX8_weigh_30 : decode cX8_weigh 30 = .ok (.aload_n 0, 1) := by decide +kernel
theorem dX8_weigh_31 : decode cX8_weigh 31 = .ok (.getfield 64, 3) := by decide +kernel
theorem dX8_weigh_34 : decode cX8_weigh 34 = .ok (.getfield 228, 3) := by decide +kernel
theorem dX8_weigh_37 : decode cX8_weigh 37 = .ok (.iload_n 1, 1) := by decide +kernel
theorem dX8_weigh_38 : decode cX8_weigh 38 = .ok (.iload_n 2, 1) := by decide +kernel
theorem dX8_weigh_39 : decode cX8_weigh 39 = .ok (.iastore, 1) := by decide +kernel
theorem dX8_weigh_40 : decode cX8_weigh 40 = .ok (.iload_n 3, 1) := by decide +kernel
theorem dX8_weigh_41 : decode cX8_weigh 41 = .ok (.ireturn, 1) := by decide +kernel
theorem dX8_bears_0 : decode cX8_bears 0 = .ok (.aload_n 0, 1) := by decide +kernel
theorem dX8_bears_1 : decode cX8_bears 1 = .ok (.iload_n 1, 1) := by decide +kernel
theorem dX8_bears_2 : decode cX8_bears 2 = .ok (.invokevirtual 104, 3) := by decide +kernel
theorem dX8_bears_5 : decode cX8_bears 5 = .ok (.ifCond .eq 22, 3) := by decide +kernel
theorem dX8_bears_8 : decode cX8_bears 8 = .ok (.iload_n 2, 1) := by decide +kernel
theorem dX8_bears_9 : decode cX8_bears 9 = .ok (.invokestatic 75, 3) := by decide +kernel
theorem dX8_bears_12 : decode cX8_bears 12 = .ok (.ifCond .eq 15, 3) := by decide +kernel
theorem dX8_bears_15 : decode cX8_bears 15 = .ok (.aload_n 0, 1) := by decide +kernel
theorem dX8_bears_16 : decode cX8_bears 16 = .ok (.getfield 64, 3) := by decide +kernel
theorem dX8_bears_19 : decode cX8_bears 19 = .ok (.iload_n 1, 1) := by decide +kernel
theorem dX8_bears_20 : decode cX8_bears 20 = .ok (.iload_n 2, 1) := by decide +kernel
theorem dX8_bears_21 : decode cX8_bears 21 = .ok (.invokevirtual 231, 3) := by decide +kernel
theorem dX8_bears_24 : decode cX8_bears 24 = .ok (.goto 5, 3) := by decide +kernel
theorem dX8_bears_27 : decode cX8_bears 27 = .ok (.bipush (-2), 2) := by decide +kernel
theorem dX8_bears_29 : decode cX8_bears 29 = .ok (.ireturn, 1) := by decide +kernel
theorem dX8_safe_0 : decode cX8_safe 0 = .ok (.iload_n 1, 1) := by decide +kernel
theorem dX8_safe_1 : decode cX8_safe 1 = .ok (.invokestatic 75, 3) := by decide +kernel
theorem dX8_safe_4 : decode cX8_safe 4 = .ok (.ifCond .eq 14, 3) := by decide +kernel
theorem dX8_safe_7 : decode cX8_safe 7 = .ok (.aload_n 0, 1) := by decide +kernel
theorem dX8_safe_8 : decode cX8_safe 8 = .ok (.getfield 64, 3) := by decide +kernel
theorem dX8_safe_11 : decode cX8_safe 11 = .ok (.iload_n 1, 1) := by decide +kernel
theorem dX8_safe_12 : decode cX8_safe 12 = .ok (.invokevirtual 234, 3) := by decide +kernel
theorem dX8_safe_15 : decode cX8_safe 15 = .ok (.goto 5, 3) := by decide +kernel
theorem dX8_safe_18 : decode cX8_safe 18 = .ok (.bipush (-2), 2) := by decide +kernel
theorem dX8_safe_20 : decode cX8_safe 20 = .ok (.ireturn, 1) := by decide +kernel
theorem dX8_more_0 : decode cX8_more 0 = .ok (.aload_n 0, 1) := by decide +kernel
theorem dX8_more_1 : decode cX8_more 1 = .ok (.getfield 23, 3) := by decide +kernel
theorem dX8_more_4 : decode cX8_more 4 = .ok (.getfield 152, 3) := by decide +kernel
theorem dX8_more_7 : decode cX8_more 7 = .ok (.ifCond .ne 7, 3) := by decide +kernel
theorem dX8_more_10 : decode cX8_more 10 = .ok (.iconst (-1), 1) := by decide +kernel
theorem dX8_more_11 : decode cX8_more 11 = .ok (.goto 10, 3) := by decide +kernel
theorem dX8_more_14 : decode cX8_more 14 = .ok (.aload_n 0, 1) := by decide +kernel
theorem dX8_more_15 : decode cX8_more 15 = .ok (.getfield 64, 3) := by decide +kernel
theorem dX8_more_18 : decode cX8_more 18 = .ok (.invokevirtual 237, 3) := by decide +kernel
theorem dX8_more_21 : decode cX8_more 21 = .ok (.ireturn, 1) := by decide +kernel
theorem dX8_stones_0 : decode cX8_stones 0 = .ok (.iload_n 1, 1) := by decide +kernel
theorem dX8_stones_1 : decode cX8_stones 1 = .ok (.iconst 0, 1) := by decide +kernel
theorem dX8_stones_2 : decode cX8_stones 2 = .ok (.iconst 1, 1) := by decide +kernel
theorem dX8_stones_3 : decode cX8_stones 3 = .ok (.invokestatic 79, 3) := by decide +kernel
theorem dX8_stones_6 : decode cX8_stones 6 = .ok (.ifCond .ne 6, 3) := by decide +kernel
theorem dX8_stones_9 : decode cX8_stones 9 = .ok (.bipush (-2), 2) := by decide +kernel
theorem dX8_stones_11 : decode cX8_stones 11 = .ok (.ireturn, 1) := by decide +kernel
theorem dX8_stones_12 : decode cX8_stones 12 = .ok (.iconst 0, 1) := by decide +kernel
theorem dX8_stones_13 : decode cX8_stones 13 = .ok (.istore_n 2, 1) := by decide +kernel
theorem dX8_stones_14 : decode cX8_stones 14 = .ok (.iconst 0, 1) := by decide +kernel
theorem dX8_stones_15 : decode cX8_stones 15 = .ok (.istore_n 3, 1) := by decide +kernel
theorem dX8_stones_16 : decode cX8_stones 16 = .ok (.iload_n 3, 1) := by decide +kernel
theorem dX8_stones_17 : decode cX8_stones 17 = .ok (.aload_n 0, 1) := by decide +kernel
theorem dX8_stones_18 : decode cX8_stones 18 = .ok (.getfield 23, 3) := by decide +kernel
theorem dX8_stones_21 : decode cX8_stones 21 = .ok (.getfield 152, 3) := by decide +kernel
theorem dX8_stones_24 : decode cX8_stones 24 = .ok (.if_icmp .ge 54, 3) := by decide +kernel
theorem dX8_stones_27 : decode cX8_stones 27 = .ok (.aload_n 0, 1) := by decide +kernel
theorem dX8_stones_28 : decode cX8_stones 28 = .ok (.getfield 32, 3) := by decide +kernel
theorem dX8_stones_31 : decode cX8_stones 31 = .ok (.getfield 108, 3) := by decide +kernel
theorem dX8_stones_34 : decode cX8_stones 34 = .ok (.iload_n 3, 1) := by decide +kernel
theorem dX8_stones_35 : decode cX8_stones 35 = .ok (.iaload, 1) := by decide +kernel
theorem dX8_stones_36 : decode cX8_stones 36 = .ok (.invokestatic 241, 3) := by decide +kernel
theorem dX8_stones_39 : decode cX8_stones 39 = .ok (.aload_n 0, 1) := by decide +kernel
theorem dX8_stones_40 : decode cX8_stones 40 = .ok (.getfield 32, 3) := by decide +kernel
theorem dX8_stones_43 : decode cX8_stones 43 = .ok (.iload_n 3, 1) := by decide +kernel
theorem dX8_stones_44 : decode cX8_stones 44 = .ok (.invokevirtual 111, 3) := by decide +kernel
theorem dX8_stones_47 : decode cX8_stones 47 = .ok (.invokestatic 241, 3) := by decide +kernel
theorem dX8_stones_50 : decode cX8_stones 50 = .ok (.isub, 1) := by decide +kernel
theorem dX8_stones_51 : decode cX8_stones 51 = .ok (.istore 4, 2) := by decide +kernel
theorem dX8_stones_53 : decode cX8_stones 53 = .ok (.iload_n 2, 1) := by decide +kernel
theorem dX8_stones_54 : decode cX8_stones 54 = .ok (.iconst 0, 1) := by decide +kernel
theorem dX8_stones_55 : decode cX8_stones 55 = .ok (.iload_n 1, 1) := by decide +kernel
theorem dX8_stones_56 : decode cX8_stones 56 = .ok (.ifCond .ne 8, 3) := by decide +kernel
theorem dX8_stones_59 : decode cX8_stones 59 = .ok (.iload 4, 2) := by decide +kernel
theorem dX8_stones_61 : decode cX8_stones 61 = .ok (.goto 6, 3) := by decide +kernel
theorem dX8_stones_64 : decode cX8_stones 64 = .ok (.iload 4, 2) := by decide +kernel
theorem dX8_stones_66 : decode cX8_stones 66 = .ok (.ineg, 1) := by decide +kernel
theorem dX8_stones_67 : decode cX8_stones 67 = .ok (.invokestatic 211, 3) := by decide +kernel
theorem dX8_stones_70 : decode cX8_stones 70 = .ok (.iadd, 1) := by decide +kernel
theorem dX8_stones_71 : decode cX8_stones 71 = .ok (.istore_n 2, 1) := by decide +kernel
theorem dX8_stones_72 : decode cX8_stones 72 = .ok (.iinc 3 1, 3) := by decide +kernel
theorem dX8_stones_75 : decode cX8_stones 75 = .ok (.goto (-59), 3) := by decide +kernel
theorem dX8_stones_78 : decode cX8_stones 78 = .ok (.iload_n 2, 1) := by decide +kernel
theorem dX8_stones_79 : decode cX8_stones 79 = .ok (.ireturn, 1) := by decide +kernel
theorem dX8_sheet_0 : decode cX8_sheet 0 = .ok (.iload_n 1, 1) := by decide +kernel
theorem dX8_sheet_1 : decode cX8_sheet 1 = .ok (.invokestatic 244, 3) := by decide +kernel
theorem dX8_sheet_4 : decode cX8_sheet 4 = .ok (.ifCond .eq 16, 3) := by decide +kernel
theorem dX8_sheet_7 : decode cX8_sheet 7 = .ok (.iload_n 2, 1) := by decide +kernel
theorem dX8_sheet_8 : decode cX8_sheet 8 = .ok (.invokestatic 247, 3) := by decide +kernel
theorem dX8_sheet_11 : decode cX8_sheet 11 = .ok (.ifCond .eq 9, 3) := by decide +kernel
theorem dX8_sheet_14 : decode cX8_sheet 14 = .ok (.iload_n 3, 1) := by decide +kernel
theorem dX8_sheet_15 : decode cX8_sheet 15 = .ok (.bipush 48, 2) := by decide +kernel
theorem dX8_sheet_17 : decode cX8_sheet 17 = .ok (.if_icmp .le 6, 3) := by decide +kernel
theorem dX8_sheet_20 : decode cX8_sheet 20 = .ok (.bipush (-2), 2) := by decide +kernel
theorem dX8_sheet_22 : decode cX8_sheet 22 = .ok (.ireturn, 1) := by decide +kernel
theorem dX8_sheet_23 : decode cX8_sheet 23 = .ok (.iload_n 3, 1) := by decide +kernel
theorem dX8_sheet_24 : decode cX8_sheet 24 = .ok (.ifCond .ge 9, 3) := by decide +kernel
theorem dX8_sheet_27 : decode cX8_sheet 27 = .ok (.aload_n 0, 1) := by decide +kernel
theorem dX8_sheet_28 : decode cX8_sheet 28 = .ok (.iconst 5, 1) := by decide +kernel
theorem dX8_sheet_29 : decode cX8_sheet 29 = .ok (.invokevirtual 250, 3) := by decide +kernel
theorem dX8_sheet_32 : decode cX8_sheet 32 = .ok (.ireturn, 1) := by decide +kernel
theorem dX8_sheet_33 : decode cX8_sheet 33 = .ok (.aload_n 0, 1) := by decide +kernel
theorem dX8_sheet_34 : decode cX8_sheet 34 = .ok (.getfield 70, 3) := by decide +kernel
theorem dX8_sheet_37 : decode cX8_sheet 37 = .ok (.iload_n 1, 1) := by decide +kernel
theorem dX8_sheet_38 : decode cX8_sheet 38 = .ok (.aaload, 1) := by decide +kernel
theorem dX8_sheet_39 : decode cX8_sheet 39 = .ok (.iload_n 2, 1) := by decide +kernel
theorem dX8_sheet_40 : decode cX8_sheet 40 = .ok (.iload_n 3, 1) := by decide +kernel
theorem dX8_sheet_41 : decode cX8_sheet 41 = .ok (.invokevirtual 253, 3) := by decide +kernel
theorem dX8_sheet_44 : decode cX8_sheet 44 = .ok (.iload_n 3, 1) := by decide +kernel
theorem dX8_sheet_45 : decode cX8_sheet 45 = .ok (.ireturn, 1) := by decide +kernel
theorem dX8_lose_0 : decode cX8_lose 0 = .ok (.aload_n 0, 1) := by decide +kernel
theorem dX8_lose_1 : decode cX8_lose 1 = .ok (.iload_n 1, 1) := by decide +kernel
theorem dX8_lose_2 : decode cX8_lose 2 = .ok (.invokevirtual 181, 3) := by decide +kernel
theorem dX8_lose_5 : decode cX8_lose 5 = .ok (.istore_n 2, 1) := by decide +kernel
theorem dX8_lose_6 : decode cX8_lose 6 = .ok (.iload_n 2, 1) := by decide +kernel
theorem dX8_lose_7 : decode cX8_lose 7 = .ok (.ifCond .eq 5, 3) := by decide +kernel
theorem dX8_lose_10 : decode cX8_lose 10 = .ok (.iload_n 2, 1) := by decide +kernel
theorem dX8_lose_11 : decode cX8_lose 11 = .ok (.ireturn, 1) := by decide +kernel
theorem dX8_lose_12 : decode cX8_lose 12 = .ok (.aload_n 0, 1) := by decide +kernel
theorem dX8_lose_13 : decode cX8_lose 13 = .ok (.getfield 70, 3) := by decide +kernel
theorem dX8_lose_16 : decode cX8_lose 16 = .ok (.iload_n 1, 1) := by decide +kernel
theorem dX8_lose_17 : decode cX8_lose 17 = .ok (.aaload, 1) := by decide +kernel
theorem dX8_lose_18 : decode cX8_lose 18 = .ok (.getfield 184, 3) := by decide +kernel
theorem dX8_lose_21 : decode cX8_lose 21 = .ok (.istore_n 3, 1) := by decide +kernel
theorem dX8_lose_22 : decode cX8_lose 22 = .ok (.aload_n 0, 1) := by decide +kernel
theorem dX8_lose_23 : decode cX8_lose 23 = .ok (.getfield 70, 3) := by decide +kernel
theorem dX8_lose_26 : decode cX8_lose 26 = .ok (.iload_n 1, 1) := by decide +kernel
theorem dX8_lose_27 : decode cX8_lose 27 = .ok (.aaload, 1) := by decide +kernel
theorem dX8_lose_28 : decode cX8_lose 28 = .ok (.iconst (-1), 1) := by decide +kernel
theorem dX8_lose_29 : decode cX8_lose 29 = .ok (.iconst 0, 1) := by decide +kernel
theorem dX8_lose_30 : decode cX8_lose 30 = .ok (.invokevirtual 253, 3) := by decide +kernel
theorem dX8_lose_33 : decode cX8_lose 33 = .ok (.iload_n 3, 1) := by decide +kernel
theorem dX8_lose_34 : decode cX8_lose 34 = .ok (.ireturn, 1) := by decide +kernel
theorem dX8_put_0 : decode cX8_put 0 = .ok (.aload_n 0, 1) := by decide +kernel
theorem dX8_put_1 : decode cX8_put 1 = .ok (.iload_n 1, 1) := by decide +kernel
theorem dX8_put_2 : decode cX8_put 2 = .ok (.iload_n 2, 1) := by decide +kernel
theorem dX8_put_3 : decode cX8_put 3 = .ok (.iload_n 3, 1) := by decide +kernel
theorem dX8_put_4 : decode cX8_put 4 = .ok (.invokevirtual 257, 3) := by decide +kernel
theorem dX8_put_7 : decode cX8_put 7 = .ok (.istore 5, 2) := by decide +kernel
theorem dX8_put_9 : decode cX8_put 9 = .ok (.iload 5, 2) := by decide +kernel
theorem dX8_put_11 : decode cX8_put 11 = .ok (.ifCond .eq 6, 3) := by decide +kernel
theorem dX8_put_14 : decode cX8_put 14 = .ok (.iload 5, 2) := by decide +kernel
theorem dX8_put_16 : decode cX8_put 16 = .ok (.ireturn, 1) := by decide +kernel
theorem dX8_put_17 : decode cX8_put 17 = .ok (.aload_n 0, 1) := by decide +kernel
theorem dX8_put_18 : decode cX8_put 18 = .ok (.getfield 70, 3) := by decide +kernel
theorem dX8_put_21 : decode cX8_put 21 = .ok (.iload_n 1, 1) := by decide +kernel
theorem dX8_put_22 : decode cX8_put 22 = .ok (.aaload, 1) := by decide +kernel
theorem dX8_put_23 : decode cX8_put 23 = .ok (.iload_n 3, 1) := by decide +kernel
theorem dX8_put_24 : decode cX8_put 24 = .ok (.iload 4, 2) := by decide +kernel
theorem dX8_put_26 : decode cX8_put 26 = .ok (.invokevirtual 260, 3) := by decide +kernel
theorem dX8_put_29 : decode cX8_put 29 = .ok (.iconst 1, 1) := by decide +kernel
theorem dX8_put_30 : decode cX8_put 30 = .ok (.ireturn, 1) := by decide +kernel
theorem dX8_get_0 : decode cX8_get 0 = .ok (.aload_n 0, 1) := by decide +kernel
theorem dX8_get_1 : decode cX8_get 1 = .ok (.iload_n 1, 1) := by decide +kernel
theorem dX8_get_2 : decode cX8_get 2 = .ok (.iload_n 2, 1) := by decide +kernel
theorem dX8_get_3 : decode cX8_get 3 = .ok (.iload_n 3, 1) := by decide +kernel
theorem dX8_get_4 : decode cX8_get 4 = .ok (.invokevirtual 257, 3) := by decide +kernel
theorem dX8_get_7 : decode cX8_get 7 = .ok (.ifCond .eq 9, 3) := by decide +kernel
theorem dX8_get_10 : decode cX8_get 10 = .ok (.ldc_w 263, 3) := by decide +kernel
theorem dX8_get_13 : decode cX8_get 13 = .ok (.goto 14, 3) := by decide +kernel
theorem dX8_get_16 : decode cX8_get 16 = .ok (.aload_n 0, 1) := by decide +kernel
theorem dX8_get_17 : decode cX8_get 17 = .ok (.getfield 70, 3) := by decide +kernel
theorem dX8_get_20 : decode cX8_get 20 = .ok (.iload_n 1, 1) := by decide +kernel
theorem dX8_get_21 : decode cX8_get 21 = .ok (.aaload, 1) := by decide +kernel
theorem dX8_get_22 : decode cX8_get 22 = .ok (.getfield 191, 3) := by decide +kernel
theorem dX8_get_25 : decode cX8_get 25 = .ok (.iload_n 3, 1) := by decide +kernel
theorem dX8_get_26 : decode cX8_get 26 = .ok (.iaload, 1) := by decide +kernel
theorem dX8_get_27 : decode cX8_get 27 = .ok (.ireturn, 1) := by decide +kernel
theorem dX8_copy_0 : decode cX8_copy 0 = .ok (.iload_n 1, 1) := by decide +kernel
theorem dX8_copy_1 : decode cX8_copy 1 = .ok (.invokestatic 244, 3) := by decide +kernel
theorem dX8_copy_4 : decode cX8_copy 4 = .ok (.ifCond .eq 10, 3) := by decide +kernel
theorem dX8_copy_7 : decode cX8_copy 7 = .ok (.iload_n 3, 1) := by decide +kernel
theorem dX8_copy_8 : decode cX8_copy 8 = .ok (.invokestatic 244, 3) := by decide +kernel
theorem dX8_copy_11 : decode cX8_copy 11 = .ok (.ifCond .ne 6, 3) := by decide +kernel
theorem dX8_copy_14 : decode cX8_copy 14 = .ok (.bipush (-2), 2) := by decide +kernel
theorem dX8_copy_16 : decode cX8_copy 16 = .ok (.ireturn, 1) := by decide +kernel
theorem dX8_copy_17 : decode cX8_copy 17 = .ok (.aload_n 0, 1) := by decide +kernel
theorem dX8_copy_18 : decode cX8_copy 18 = .ok (.getfield 70, 3) := by decide +kernel
theorem dX8_copy_21 : decode cX8_copy 21 = .ok (.iload_n 1, 1) := by decide +kernel
theorem dX8_copy_22 : decode cX8_copy 22 = .ok (.aaload, 1) := by decide +kernel
theorem dX8_copy_23 : decode cX8_copy 23 = .ok (.astore 6, 2) := by decide +kernel
theorem dX8_copy_25 : decode cX8_copy 25 = .ok (.aload_n 0, 1) := by decide +kernel
theorem dX8_copy_26 : decode cX8_copy 26 = .ok (.getfield 70, 3) := by decide +kernel
theorem dX8_copy_29 : decode cX8_copy 29 = .ok (.iload_n 3, 1) := by decide +kernel
theorem dX8_copy_30 : decode cX8_copy 30 = .ok (.aaload, 1) := by decide +kernel
theorem dX8_copy_31 : decode cX8_copy 31 = .ok (.astore 7, 2) := by decide +kernel
theorem dX8_copy_33 : decode cX8_copy 33 = .ok (.aload 6, 2) := by decide +kernel
theorem dX8_copy_35 : decode cX8_copy 35 = .ok (.invokevirtual 264, 3) := by decide +kernel
theorem dX8_copy_38 : decode cX8_copy 38 = .ok (.ifCond .ne 11, 3) := by decide +kernel
theorem dX8_copy_41 : decode cX8_copy 41 = .ok (.aload 7, 2) := by decide +kernel
theorem dX8_copy_43 : decode cX8_copy 43 = .ok (.invokevirtual 264, 3) := by decide +kernel
theorem dX8_copy_46 : decode cX8_copy 46 = .ok (.ifCond .eq 9, 3) := by decide +kernel
theorem dX8_copy_49 : decode cX8_copy 49 = .ok (.aload_n 0, 1) := by decide +kernel
theorem dX8_copy_50 : decode cX8_copy 50 = .ok (.iconst 1, 1) := by decide +kernel
theorem dX8_copy_51 : decode cX8_copy 51 = .ok (.invokevirtual 250, 3) := by decide +kernel
theorem dX8_copy_54 : decode cX8_copy 54 = .ok (.ireturn, 1) := by decide +kernel
theorem dX8_copy_55 : decode cX8_copy 55 = .ok (.aload 6, 2) := by decide +kernel
theorem dX8_copy_57 : decode cX8_copy 57 = .ok (.getfield 268, 3) := by decide +kernel
theorem dX8_copy_60 : decode cX8_copy 60 = .ok (.aload 7, 2) := by decide +kernel
theorem dX8_copy_62 : decode cX8_copy 62 = .ok (.getfield 268, 3) := by decide +kernel
theorem dX8_copy_65 : decode cX8_copy 65 = .ok (.if_icmp .eq 9, 3) := by decide +kernel
theorem dX8_copy_68 : decode cX8_copy 68 = .ok (.aload_n 0, 1) := by decide +kernel
theorem dX8_copy_69 : decode cX8_copy 69 = .ok (.iconst 4, 1) := by decide +kernel
theorem dX8_copy_70 : decode cX8_copy 70 = .ok (.invokevirtual 250, 3) := by decide +kernel
theorem dX8_copy_73 : decode cX8_copy 73 = .ok (.ireturn, 1) := by decide +kernel
theorem dX8_copy_74 : decode cX8_copy 74 = .ok (.aload 6, 2) := by decide +kernel
theorem dX8_copy_76 : decode cX8_copy 76 = .ok (.iload_n 2, 1) := by decide +kernel
theorem dX8_copy_77 : decode cX8_copy 77 = .ok (.iload 5, 2) := by decide +kernel
theorem dX8_copy_79 : decode cX8_copy 79 = .ok (.invokevirtual 271, 3) := by decide +kernel
theorem dX8_copy_82 : decode cX8_copy 82 = .ok (.ifCond .eq 15, 3) := by decide +kernel
theorem dX8_copy_85 : decode cX8_copy 85 = .ok (.aload 7, 2) := by decide +kernel
theorem dX8_copy_87 : decode cX8_copy 87 = .ok (.iload 4, 2) := by decide +kernel
theorem dX8_copy_89 : decode cX8_copy 89 = .ok (.iload 5, 2) := by decide +kernel
theorem dX8_copy_91 : decode cX8_copy 91 = .ok (.invokevirtual 271, 3) := by decide +kernel
theorem dX8_copy_94 : decode cX8_copy 94 = .ok (.ifCond .ne 9, 3) := by decide +kernel
theorem dX8_copy_97 : decode cX8_copy 97 = .ok (.aload_n 0, 1) := by decide +kernel
theorem dX8_copy_98 : decode cX8_copy 98 = .ok (.iconst 2, 1) := by decide +kernel
theorem dX8_copy_99 : decode cX8_copy 99 = .ok (.invokevirtual 250, 3) := by decide +kernel
theorem dX8_copy_102 : decode cX8_copy 102 = .ok (.ireturn, 1) := by decide +kernel
theorem dX8_copy_103 : decode cX8_copy 103 = .ok (.aload 6, 2) := by decide +kernel
theorem dX8_copy_105 : decode cX8_copy 105 = .ok (.getfield 191, 3) := by decide +kernel
theorem dX8_copy_108 : decode cX8_copy 108 = .ok (.iload_n 2, 1) := by decide +kernel
theorem dX8_copy_109 : decode cX8_copy 109 = .ok (.aload 7, 2) := by decide +kernel
theorem dX8_copy_111 : decode cX8_copy 111 = .ok (.getfield 191, 3) := by decide +kernel
theorem dX8_copy_114 : decode cX8_copy 114 = .ok (.iload 4, 2) := by decide +kernel
theorem dX8_copy_116 : decode cX8_copy 116 = .ok (.iload 5, 2) := by decide +kernel
theorem dX8_copy_118 : decode cX8_copy 118 = .ok (.invokestatic 275, 3) := by decide +kernel
theorem dX8_copy_121 : decode cX8_copy 121 = .ok (.iconst 1, 1) := by decide +kernel
theorem dX8_copy_122 : decode cX8_copy 122 = .ok (.ireturn, 1) := by decide +kernel
theorem dX8_write_0 : decode cX8_write 0 = .ok (.aload_n 0, 1) := by decide +kernel
theorem dX8_write_1 : decode cX8_write 1 = .ok (.iload_n 1, 1) := by decide +kernel
theorem dX8_write_2 : decode cX8_write 2 = .ok (.invokevirtual 181, 3) := by decide +kernel
theorem dX8_write_5 : decode cX8_write 5 = .ok (.istore_n 2, 1) := by decide +kernel
theorem dX8_write_6 : decode cX8_write 6 = .ok (.iload_n 2, 1) := by decide +kernel
theorem dX8_write_7 : decode cX8_write 7 = .ok (.ifCond .eq 5, 3) := by decide +kernel
theorem dX8_write_10 : decode cX8_write 10 = .ok (.iload_n 2, 1) := by decide +kernel
theorem dX8_write_11 : decode cX8_write 11 = .ok (.ireturn, 1) := by decide +kernel
theorem dX8_write_12 : decode cX8_write 12 = .ok (.aload_n 0, 1) := by decide +kernel
theorem dX8_write_13 : decode cX8_write 13 = .ok (.getfield 70, 3) := by decide +kernel
theorem dX8_write_16 : decode cX8_write 16 = .ok (.iload_n 1, 1) := by decide +kernel
theorem dX8_write_17 : decode cX8_write 17 = .ok (.aaload, 1) := by decide +kernel
theorem dX8_write_18 : decode cX8_write 18 = .ok (.getfield 184, 3) := by decide +kernel
theorem dX8_write_21 : decode cX8_write 21 = .ok (.aload_n 0, 1) := by decide +kernel
theorem dX8_write_22 : decode cX8_write 22 = .ok (.getfield 23, 3) := by decide +kernel
theorem dX8_write_25 : decode cX8_write 25 = .ok (.getfield 152, 3) := by decide +kernel
theorem dX8_write_28 : decode cX8_write 28 = .ok (.invokestatic 187, 3) := by decide +kernel
theorem dX8_write_31 : decode cX8_write 31 = .ok (.istore_n 3, 1) := by decide +kernel
theorem dX8_write_32 : decode cX8_write 32 = .ok (.iconst 0, 1) := by decide +kernel
theorem dX8_write_33 : decode cX8_write 33 = .ok (.istore 4, 2) := by decide +kernel
theorem dX8_write_35 : decode cX8_write 35 = .ok (.iload 4, 2) := by decide +kernel
theorem dX8_write_37 : decode cX8_write 37 = .ok (.iload_n 3, 1) := by decide +kernel
theorem dX8_write_38 : decode cX8_write 38 = .ok (.if_icmp .ge 29, 3) := by decide +kernel
theorem dX8_write_41 : decode cX8_write 41 = .ok (.aload_n 0, 1) := by decide +kernel
theorem dX8_write_42 : decode cX8_write 42 = .ok (.getfield 70, 3) := by decide +kernel
theorem dX8_write_45 : decode cX8_write 45 = .ok (.iload_n 1, 1) := by decide +kernel
theorem dX8_write_46 : decode cX8_write 46 = .ok (.aaload, 1) := by decide +kernel
theorem dX8_write_47 : decode cX8_write 47 = .ok (.iload 4, 2) := by decide +kernel
theorem dX8_write_49 : decode cX8_write 49 = .ok (.aload_n 0, 1) := by decide +kernel
theorem dX8_write_50 : decode cX8_write 50 = .ok (.getfield 32, 3) := by decide +kernel
theorem dX8_write_53 : decode cX8_write 53 = .ok (.iload 4, 2) := by decide +kernel
theorem dX8_write_55 : decode cX8_write 55 = .ok (.invokevirtual 111, 3) := by decide +kernel
theorem dX8_write_58 : decode cX8_write 58 = .ok (.invokevirtual 260, 3) := by decide +kernel
theorem dX8_write_61 : decode cX8_write 61 = .ok (.iinc 4 1, 3) := by decide +kernel
theorem dX8_write_64 : decode cX8_write 64 = .ok (.goto (-29), 3) := by decide +kernel
theorem dX8_write_67 : decode cX8_write 67 = .ok (.iload_n 3, 1) := by decide +kernel
theorem dX8_write_68 : decode cX8_write 68 = .ok (.ireturn, 1) := by decide +kernel
theorem dX8_count_0 : decode cX8_count 0 = .ok (.iload_n 1, 1) := by decide +kernel
theorem dX8_count_1 : decode cX8_count 1 = .ok (.tableswitch 124 0 8 #[51, 59, 67, 83, 91, 98, 105, 112, 119], 51) := by decide +kernel
theorem dX8_count_52 : decode cX8_count 52 = .ok (.aload_n 0, 1) := by decide +kernel
theorem dX8_count_53 : decode cX8_count 53 = .ok (.getfield 23, 3) := by decide +kernel
theorem dX8_count_56 : decode cX8_count 56 = .ok (.getfield 152, 3) := by decide +kernel
theorem dX8_count_59 : decode cX8_count 59 = .ok (.ireturn, 1) := by decide +kernel
theorem dX8_count_60 : decode cX8_count 60 = .ok (.aload_n 0, 1) := by decide +kernel
theorem dX8_count_61 : decode cX8_count 61 = .ok (.getfield 23, 3) := by decide +kernel
theorem dX8_count_64 : decode cX8_count 64 = .ok (.getfield 90, 3) := by decide +kernel
theorem dX8_count_67 : decode cX8_count 67 = .ok (.ireturn, 1) := by decide +kernel
theorem dX8_count_68 : decode cX8_count 68 = .ok (.aload_n 0, 1) := by decide +kernel
theorem dX8_count_69 : decode cX8_count 69 = .ok (.getfield 32, 3) := by decide +kernel
theorem dX8_count_72 : decode cX8_count 72 = .ok (.getfield 146, 3) := by decide +kernel
theorem dX8_count_75 : decode cX8_count 75 = .ok (.aload_n 0, 1) := by decide +kernel
theorem dX8_count_76 : decode cX8_count 76 = .ok (.getfield 23, 3) := by decide +kernel
theorem dX8_count_79 : decode cX8_count 79 = .ok (.getfield 152, 3) := by decide +kernel
theorem dX8_count_82 : decode cX8_count 82 = .ok (.iaload, 1) := by decide +kernel
theorem dX8_count_83 : decode cX8_count 83 = .ok (.ireturn, 1) := by decide +kernel
theorem dX8_count_84 : decode cX8_count 84 = .ok (.aload_n 0, 1) := by decide +kernel
theorem dX8_count_85 : decode cX8_count 85 = .ok (.getfield 41, 3) := by decide +kernel
theorem dX8_count_88 : decode cX8_count 88 = .ok (.invokevirtual 281, 3) := by decide +kernel
theorem dX8_count_91 : decode cX8_count 91 = .ok (.ireturn, 1) := by decide +kernel
theorem dX8_count_92 : decode cX8_count 92 = .ok (.aload_n 0, 1) := by decide +kernel
theorem dX8_count_93 : decode cX8_count 93 = .ok (.getfield 7, 3) := by decide +kernel
theorem dX8_count_96 : decode cX8_count 96 = .ok (.iconst 0, 1) := by decide +kernel
theorem dX8_count_97 : decode cX8_count 97 = .ok (.iaload, 1) := by decide +kernel
theorem dX8_count_98 : decode cX8_count 98 = .ok (.ireturn, 1) := by decide +kernel
theorem dX8_count_99 : decode cX8_count 99 = .ok (.aload_n 0, 1) := by decide +kernel
theorem dX8_count_100 : decode cX8_count 100 = .ok (.getfield 7, 3) := by decide +kernel
theorem dX8_count_103 : decode cX8_count 103 = .ok (.iconst 1, 1) := by decide +kernel
theorem dX8_count_104 : decode cX8_count 104 = .ok (.iaload, 1) := by decide +kernel
theorem dX8_count_105 : decode cX8_count 105 = .ok (.ireturn, 1) := by decide +kernel
theorem dX8_count_106 : decode cX8_count 106 = .ok (.aload_n 0, 1) := by decide +kernel
theorem dX8_count_107 : decode cX8_count 107 = .ok (.getfield 7, 3) := by decide +kernel
theorem dX8_count_110 : decode cX8_count 110 = .ok (.iconst 2, 1) := by decide +kernel
theorem dX8_count_111 : decode cX8_count 111 = .ok (.iaload, 1) := by decide +kernel
theorem dX8_count_112 : decode cX8_count 112 = .ok (.ireturn, 1) := by decide +kernel
theorem dX8_count_113 : decode cX8_count 113 = .ok (.aload_n 0, 1) := by decide +kernel
theorem dX8_count_114 : decode cX8_count 114 = .ok (.getfield 7, 3) := by decide +kernel
theorem dX8_count_117 : decode cX8_count 117 = .ok (.iconst 3, 1) := by decide +kernel
theorem dX8_count_118 : decode cX8_count 118 = .ok (.iaload, 1) := by decide +kernel
theorem dX8_count_119 : decode cX8_count 119 = .ok (.ireturn, 1) := by decide +kernel
theorem dX8_count_120 : decode cX8_count 120 = .ok (.aload_n 0, 1) := by decide +kernel
theorem dX8_count_121 : decode cX8_count 121 = .ok (.getfield 284, 3) := by decide +kernel
theorem dX8_count_124 : decode cX8_count 124 = .ok (.ireturn, 1) := by decide +kernel
theorem dX8_count_125 : decode cX8_count 125 = .ok (.bipush (-2), 2) := by decide +kernel
theorem dX8_count_127 : decode cX8_count 127 = .ok (.ireturn, 1) := by decide +kernel
theorem dX8_digest_0 : decode cX8_digest 0 = .ok (.ldc2_w 287, 3) := by decide +kernel
theorem dX8_digest_3 : decode cX8_digest 3 = .ok (.lstore_n 1, 1) := by decide +kernel
theorem dX8_digest_4 : decode cX8_digest 4 = .ok (.iconst 0, 1) := by decide +kernel
theorem dX8_digest_5 : decode cX8_digest 5 = .ok (.istore_n 3, 1) := by decide +kernel
theorem dX8_digest_6 : decode cX8_digest 6 = .ok (.iload_n 3, 1) := by decide +kernel
theorem dX8_digest_7 : decode cX8_digest 7 = .ok (.bipush 7, 2) := by decide +kernel
theorem dX8_digest_9 : decode cX8_digest 9 = .ok (.if_icmp .gt 20, 3) := by decide +kernel
theorem dX8_digest_12 : decode cX8_digest 12 = .ok (.lload_n 1, 1) := by decide +kernel
theorem dX8_digest_13 : decode cX8_digest 13 = .ok (.aload_n 0, 1) := by decide +kernel
theorem dX8_digest_14 : decode cX8_digest 14 = .ok (.iload_n 3, 1) := by decide +kernel
theorem dX8_digest_15 : decode cX8_digest 15 = .ok (.invokevirtual 289, 3) := by decide +kernel
theorem dX8_digest_18 : decode cX8_digest 18 = .ok (.i2l, 1) := by decide +kernel
theorem dX8_digest_19 : decode cX8_digest 19 = .ok (.invokestatic 292, 3) := by decide +kernel
theorem dX8_digest_22 : decode cX8_digest 22 = .ok (.lstore_n 1, 1) := by decide +kernel
theorem dX8_digest_23 : decode cX8_digest 23 = .ok (.iinc 3 1, 3) := by decide +kernel
theorem dX8_digest_26 : decode cX8_digest 26 = .ok (.goto (-20), 3) := by decide +kernel
theorem dX8_digest_29 : decode cX8_digest 29 = .ok (.lload_n 1, 1) := by decide +kernel
theorem dX8_digest_30 : decode cX8_digest 30 = .ok (.aload_n 0, 1) := by decide +kernel
theorem dX8_digest_31 : decode cX8_digest 31 = .ok (.invokevirtual 296, 3) := by decide +kernel
theorem dX8_digest_34 : decode cX8_digest 34 = .ok (.i2l, 1) := by decide +kernel
theorem dX8_digest_35 : decode cX8_digest 35 = .ok (.invokestatic 292, 3) := by decide +kernel
theorem dX8_digest_38 : decode cX8_digest 38 = .ok (.lstore_n 1, 1) := by decide +kernel
theorem dX8_digest_39 : decode cX8_digest 39 = .ok (.iconst 0, 1) := by decide +kernel
theorem dX8_digest_40 : decode cX8_digest 40 = .ok (.istore_n 3, 1) := by decide +kernel
theorem dX8_digest_41 : decode cX8_digest 41 = .ok (.iload_n 3, 1) := by decide +kernel
theorem dX8_digest_42 : decode cX8_digest 42 = .ok (.aload_n 0, 1) := by decide +kernel
theorem dX8_digest_43 : decode cX8_digest 43 = .ok (.getfield 23, 3) := by decide +kernel
theorem dX8_digest_46 : decode cX8_digest 46 = .ok (.getfield 152, 3) := by decide +kernel
theorem dX8_digest_49 : decode cX8_digest 49 = .ok (.if_icmp .ge 16, 3) := by decide +kernel
theorem dX8_digest_52 : decode cX8_digest 52 = .ok (.aload_n 0, 1) := by decide +kernel
theorem dX8_digest_53 : decode cX8_digest 53 = .ok (.lload_n 1, 1) := by decide +kernel
theorem dX8_digest_54 : decode cX8_digest 54 = .ok (.iload_n 3, 1) := by decide +kernel
theorem dX8_digest_55 : decode cX8_digest 55 = .ok (.invokevirtual 298, 3) := by decide +kernel
theorem dX8_digest_58 : decode cX8_digest 58 = .ok (.lstore_n 1, 1) := by decide +kernel
theorem dX8_digest_59 : decode cX8_digest 59 = .ok (.iinc 3 1, 3) := by decide +kernel
theorem dX8_digest_62 : decode cX8_digest 62 = .ok (.goto (-21), 3) := by decide +kernel
theorem dX8_digest_65 : decode cX8_digest 65 = .ok (.lload_n 1, 1) := by decide +kernel
theorem dX8_digest_66 : decode cX8_digest 66 = .ok (.aload_n 0, 1) := by decide +kernel
theorem dX8_digest_67 : decode cX8_digest 67 = .ok (.aload_n 0, 1) := by decide +kernel
theorem dX8_digest_68 : decode cX8_digest 68 = .ok (.getfield 23, 3) := by decide +kernel
theorem dX8_digest_71 : decode cX8_digest 71 = .ok (.getfield 152, 3) := by decide +kernel
theorem dX8_digest_74 : decode cX8_digest 74 = .ok (.iconst 0, 1) := by decide +kernel
theorem dX8_digest_75 : decode cX8_digest 75 = .ok (.invokevirtual 302, 3) := by decide +kernel
theorem dX8_digest_78 : decode cX8_digest 78 = .ok (.i2l, 1) := by decide +kernel
theorem dX8_digest_79 : decode cX8_digest 79 = .ok (.invokestatic 292, 3) := by decide +kernel
theorem dX8_digest_82 : decode cX8_digest 82 = .ok (.lstore_n 1, 1) := by decide +kernel
theorem dX8_digest_83 : decode cX8_digest 83 = .ok (.lload_n 1, 1) := by decide +kernel
theorem dX8_digest_84 : decode cX8_digest 84 = .ok (.aload_n 0, 1) := by decide +kernel
theorem dX8_digest_85 : decode cX8_digest 85 = .ok (.aload_n 0, 1) := by decide +kernel
theorem dX8_digest_86 : decode cX8_digest 86 = .ok (.getfield 23, 3) := by decide +kernel
theorem dX8_digest_89 : decode cX8_digest 89 = .ok (.getfield 152, 3) := by decide +kernel
theorem dX8_digest_92 : decode cX8_digest 92 = .ok (.iconst 2, 1) := by decide +kernel
theorem dX8_digest_93 : decode cX8_digest 93 = .ok (.invokevirtual 302, 3) := by decide +kernel
theorem dX8_digest_96 : decode cX8_digest 96 = .ok (.i2l, 1) := by decide +kernel
theorem dX8_digest_97 : decode cX8_digest 97 = .ok (.invokestatic 292, 3) := by decide +kernel
theorem dX8_digest_100 : decode cX8_digest 100 = .ok (.lstore_n 1, 1) := by decide +kernel
theorem dX8_digest_101 : decode cX8_digest 101 = .ok (.lload_n 1, 1) := by decide +kernel
theorem dX8_digest_102 : decode cX8_digest 102 = .ok (.aload_n 0, 1) := by decide +kernel
theorem dX8_digest_103 : decode cX8_digest 103 = .ok (.invokevirtual 305, 3) := by decide +kernel
theorem dX8_digest_106 : decode cX8_digest 106 = .ok (.i2l, 1) := by decide +kernel
theorem dX8_digest_107 : decode cX8_digest 107 = .ok (.invokestatic 292, 3) := by decide +kernel
theorem dX8_digest_110 : decode cX8_digest 110 = .ok (.lstore_n 1, 1) := by decide +kernel
theorem dX8_digest_111 : decode cX8_digest 111 = .ok (.iconst 0, 1) := by decide +kernel
theorem dX8_digest_112 : decode cX8_digest 112 = .ok (.istore_n 3, 1) := by decide +kernel
theorem dX8_digest_113 : decode cX8_digest 113 = .ok (.iload_n 3, 1) := by decide +kernel
theorem dX8_digest_114 : decode cX8_digest 114 = .ok (.iconst 3, 1) := by decide +kernel
theorem dX8_digest_115 : decode cX8_digest 115 = .ok (.if_icmp .ge 16, 3) := by decide +kernel
theorem dX8_digest_118 : decode cX8_digest 118 = .ok (.aload_n 0, 1) := by decide +kernel
theorem dX8_digest_119 : decode cX8_digest 119 = .ok (.lload_n 1, 1) := by decide +kernel
theorem dX8_digest_120 : decode cX8_digest 120 = .ok (.iload_n 3, 1) := by decide +kernel
theorem dX8_digest_121 : decode cX8_digest 121 = .ok (.invokevirtual 308, 3) := by decide +kernel
theorem dX8_digest_124 : decode cX8_digest 124 = .ok (.lstore_n 1, 1) := by decide +kernel
theorem dX8_digest_125 : decode cX8_digest 125 = .ok (.iinc 3 1, 3) := by decide +kernel
theorem dX8_digest_128 : decode cX8_digest 128 = .ok (.goto (-15), 3) := by decide +kernel
theorem dX8_digest_131 : decode cX8_digest 131 = .ok (.lload_n 1, 1) := by decide +kernel
theorem dX8_digest_132 : decode cX8_digest 132 = .ok (.aload_n 0, 1) := by decide +kernel
theorem dX8_digest_133 : decode cX8_digest 133 = .ok (.invokevirtual 201, 3) := by decide +kernel
theorem dX8_digest_136 : decode cX8_digest 136 = .ok (.invokestatic 292, 3) := by decide +kernel
theorem dX8_digest_139 : decode cX8_digest 139 = .ok (.lstore_n 1, 1) := by decide +kernel
theorem dX8_digest_140 : decode cX8_digest 140 = .ok (.lload_n 1, 1) := by decide +kernel
theorem dX8_digest_141 : decode cX8_digest 141 = .ok (.aload_n 0, 1) := by decide +kernel
theorem dX8_digest_142 : decode cX8_digest 142 = .ok (.invokevirtual 311, 3) := by decide +kernel
theorem dX8_digest_145 : decode cX8_digest 145 = .ok (.i2l, 1) := by decide +kernel
theorem dX8_digest_146 : decode cX8_digest 146 = .ok (.invokestatic 292, 3) := by decide +kernel
theorem dX8_digest_149 : decode cX8_digest 149 = .ok (.lstore_n 1, 1) := by decide +kernel
theorem dX8_digest_150 : decode cX8_digest 150 = .ok (.lload_n 1, 1) := by decide +kernel
theorem dX8_digest_151 : decode cX8_digest 151 = .ok (.aload_n 0, 1) := by decide +kernel
theorem dX8_digest_152 : decode cX8_digest 152 = .ok (.sipush 150, 3) := by decide +kernel
theorem dX8_digest_155 : decode cX8_digest 155 = .ok (.iconst 0, 1) := by decide +kernel
theorem dX8_digest_156 : decode cX8_digest 156 = .ok (.invokevirtual 314, 3) := by decide +kernel
theorem dX8_digest_159 : decode cX8_digest 159 = .ok (.i2l, 1) := by decide +kernel
theorem dX8_digest_160 : decode cX8_digest 160 = .ok (.invokestatic 292, 3) := by decide +kernel
theorem dX8_digest_163 : decode cX8_digest 163 = .ok (.lstore_n 1, 1) := by decide +kernel
theorem dX8_digest_164 : decode cX8_digest 164 = .ok (.lload_n 1, 1) := by decide +kernel
theorem dX8_digest_165 : decode cX8_digest 165 = .ok (.aload_n 0, 1) := by decide +kernel
theorem dX8_digest_166 : decode cX8_digest 166 = .ok (.sipush 150, 3) := by decide +kernel
theorem dX8_digest_169 : decode cX8_digest 169 = .ok (.iconst 1, 1) := by decide +kernel
theorem dX8_digest_170 : decode cX8_digest 170 = .ok (.invokevirtual 314, 3) := by decide +kernel
theorem dX8_digest_173 : decode cX8_digest 173 = .ok (.i2l, 1) := by decide +kernel
theorem dX8_digest_174 : decode cX8_digest 174 = .ok (.invokestatic 292, 3) := by decide +kernel
theorem dX8_digest_177 : decode cX8_digest 177 = .ok (.lstore_n 1, 1) := by decide +kernel
theorem dX8_digest_178 : decode cX8_digest 178 = .ok (.lload_n 1, 1) := by decide +kernel
theorem dX8_digest_179 : decode cX8_digest 179 = .ok (.aload_n 0, 1) := by decide +kernel
theorem dX8_digest_180 : decode cX8_digest 180 = .ok (.sipush 1023, 3) := by decide +kernel
theorem dX8_digest_183 : decode cX8_digest 183 = .ok (.iconst (-1), 1) := by decide +kernel
theorem dX8_digest_184 : decode cX8_digest 184 = .ok (.invokevirtual 317, 3) := by decide +kernel
theorem dX8_digest_187 : decode cX8_digest 187 = .ok (.i2l, 1) := by decide +kernel
theorem dX8_digest_188 : decode cX8_digest 188 = .ok (.invokestatic 292, 3) := by decide +kernel
theorem dX8_digest_191 : decode cX8_digest 191 = .ok (.lstore_n 1, 1) := by decide +kernel
theorem dX8_digest_192 : decode cX8_digest 192 = .ok (.lload_n 1, 1) := by decide +kernel
theorem dX8_digest_193 : decode cX8_digest 193 = .ok (.aload_n 0, 1) := by decide +kernel
theorem dX8_digest_194 : decode cX8_digest 194 = .ok (.bipush 100, 2) := by decide +kernel
theorem dX8_digest_196 : decode cX8_digest 196 = .ok (.iconst 0, 1) := by decide +kernel
theorem dX8_digest_197 : decode cX8_digest 197 = .ok (.invokevirtual 320, 3) := by decide +kernel
theorem dX8_digest_200 : decode cX8_digest 200 = .ok (.i2l, 1) := by decide +kernel
theorem dX8_digest_201 : decode cX8_digest 201 = .ok (.invokestatic 292, 3) := by decide +kernel

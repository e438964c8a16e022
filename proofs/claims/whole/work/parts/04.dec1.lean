theorem dX0_init_0 : decode cX0_init 0 = .ok (.aload_n 0, 1) := by decide +kernel
theorem dX0_init_1 : decode cX0_init 1 = .ok (.invokespecial 3, 3) := by decide +kernel
theorem dX0_init_4 : decode cX0_init 4 = .ok (.aload_n 0, 1) := by decide +kernel
theorem dX0_init_5 : decode cX0_init 5 = .ok (.bipush 10, 2) := by decide +kernel
theorem dX0_init_7 : decode cX0_init 7 = .ok (.newarray .int, 2) := by decide +kernel
theorem dX0_init_9 : decode cX0_init 9 = .ok (.putfield 9, 3) := by decide +kernel
theorem dX0_init_12 : decode cX0_init 12 = .ok (.aload_n 0, 1) := by decide +kernel
theorem dX0_init_13 : decode cX0_init 13 = .ok (.bipush 9, 2) := by decide +kernel
theorem dX0_init_15 : decode cX0_init 15 = .ok (.newarray .long, 2) := by decide +kernel
theorem dX0_init_17 : decode cX0_init 17 = .ok (.putfield 15, 3) := by decide +kernel
theorem dX0_init_20 : decode cX0_init 20 = .ok (.aload_n 0, 1) := by decide +kernel
theorem dX0_init_21 : decode cX0_init 21 = .ok (.aload_n 1, 1) := by decide +kernel
theorem dX0_init_22 : decode cX0_init 22 = .ok (.putfield 19, 3) := by decide +kernel
theorem dX0_init_25 : decode cX0_init 25 = .ok (.aload_n 0, 1) := by decide +kernel
theorem dX0_init_26 : decode cX0_init 26 = .ok (.aload_n 2, 1) := by decide +kernel
theorem dX0_init_27 : decode cX0_init 27 = .ok (.putfield 23, 3) := by decide +kernel
theorem dX0_init_30 : decode cX0_init 30 = .ok (.aload_n 0, 1) := by decide +kernel
theorem dX0_init_31 : decode cX0_init 31 = .ok (.getfield 9, 3) := by decide +kernel
theorem dX0_init_34 : decode cX0_init 34 = .ok (.iconst (-1), 1) := by decide +kernel
theorem dX0_init_35 : decode cX0_init 35 = .ok (.invokestatic 27, 3) := by decide +kernel
theorem dX0_init_38 : decode cX0_init 38 = .ok (.return_, 1) := by decide +kernel
theorem dX0_howMany_0 : decode cX0_howMany 0 = .ok (.iconst 0, 1) := by decide +kernel
theorem dX0_howMany_1 : decode cX0_howMany 1 = .ok (.istore_n 1, 1) := by decide +kernel
theorem dX0_howMany_2 : decode cX0_howMany 2 = .ok (.iconst 0, 1) := by decide +kernel
theorem dX0_howMany_3 : decode cX0_howMany 3 = .ok (.istore_n 2, 1) := by decide +kernel
theorem dX0_howMany_4 : decode cX0_howMany 4 = .ok (.iload_n 2, 1) := by decide +kernel
theorem dX0_howMany_5 : decode cX0_howMany 5 = .ok (.bipush 10, 2) := by decide +kernel
theorem dX0_howMany_7 : decode cX0_howMany 7 = .ok (.if_icmp .ge 22, 3) := by decide +kernel
theorem dX0_howMany_10 : decode cX0_howMany 10 = .ok (.aload_n 0, 1) := by decide +kernel
theorem dX0_howMany_11 : decode cX0_howMany 11 = .ok (.getfield 9, 3) := by decide +kernel
theorem dX0_howMany_14 : decode cX0_howMany 14 = .ok (.iload_n 2, 1) := by decide +kernel
theorem dX0_howMany_15 : decode cX0_howMany 15 = .ok (.iaload, 1) := by decide +kernel
theorem dX0_howMany_16 : decode cX0_howMany 16 = .ok (.iconst (-1), 1) := by decide +kernel
theorem dX0_howMany_17 : decode cX0_howMany 17 = .ok (.if_icmp .eq 6, 3) := by decide +kernel
theorem dX0_howMany_20 : decode cX0_howMany 20 = .ok (.iinc 1 1, 3) := by decide +kernel
theorem dX0_howMany_23 : decode cX0_howMany 23 = .ok (.iinc 2 1, 3) := by decide +kernel
theorem dX0_howMany_26 : decode cX0_howMany 26 = .ok (.goto (-22), 3) := by decide +kernel
theorem dX0_howMany_29 : decode cX0_howMany 29 = .ok (.iload_n 1, 1) := by decide +kernel
theorem dX0_howMany_30 : decode cX0_howMany 30 = .ok (.ireturn, 1) := by decide +kernel
theorem dX0_fitBits_0 : decode cX0_fitBits 0 = .ok (.iconst 0, 1) := by decide +kernel
theorem dX0_fitBits_1 : decode cX0_fitBits 1 = .ok (.istore_n 3, 1) := by decide +kernel
theorem dX0_fitBits_2 : decode cX0_fitBits 2 = .ok (.iconst 0, 1) := by decide +kernel
theorem dX0_fitBits_3 : decode cX0_fitBits 3 = .ok (.istore 4, 2) := by decide +kernel
theorem dX0_fitBits_5 : decode cX0_fitBits 5 = .ok (.iload 4, 2) := by decide +kernel
theorem dX0_fitBits_7 : decode cX0_fitBits 7 = .ok (.bipush 9, 2) := by decide +kernel
theorem dX0_fitBits_9 : decode cX0_fitBits 9 = .ok (.if_icmp .ge 68, 3) := by decide +kernel
theorem dX0_fitBits_12 : decode cX0_fitBits 12 = .ok (.aload_n 0, 1) := by decide +kernel
theorem dX0_fitBits_13 : decode cX0_fitBits 13 = .ok (.getfield 19, 3) := by decide +kernel
theorem dX0_fitBits_16 : decode cX0_fitBits 16 = .ok (.aload_n 0, 1) := by decide +kernel
theorem dX0_fitBits_17 : decode cX0_fitBits 17 = .ok (.getfield 23, 3) := by decide +kernel
theorem dX0_fitBits_20 : decode cX0_fitBits 20 = .ok (.getfield 33, 3) := by decide +kernel
theorem dX0_fitBits_23 : decode cX0_fitBits 23 = .ok (.iload_n 1, 1) := by decide +kernel
theorem dX0_fitBits_24 : decode cX0_fitBits 24 = .ok (.iaload, 1) := by decide +kernel
theorem dX0_fitBits_25 : decode cX0_fitBits 25 = .ok (.iload 4, 2) := by decide +kernel
theorem dX0_fitBits_27 : decode cX0_fitBits 27 = .ok (.iconst 3, 1) := by decide +kernel
theorem dX0_fitBits_28 : decode cX0_fitBits 28 = .ok (.idiv, 1) := by decide +kernel
theorem dX0_fitBits_29 : decode cX0_fitBits 29 = .ok (.iload 4, 2) := by decide +kernel
theorem dX0_fitBits_31 : decode cX0_fitBits 31 = .ok (.iconst 3, 1) := by decide +kernel
theorem dX0_fitBits_32 : decode cX0_fitBits 32 = .ok (.irem, 1) := by decide +kernel
theorem dX0_fitBits_33 : decode cX0_fitBits 33 = .ok (.invokevirtual 38, 3) := by decide +kernel
theorem dX0_fitBits_36 : decode cX0_fitBits 36 = .ok (.istore 5, 2) := by decide +kernel
theorem dX0_fitBits_38 : decode cX0_fitBits 38 = .ok (.aload_n 0, 1) := by decide +kernel
theorem dX0_fitBits_39 : decode cX0_fitBits 39 = .ok (.getfield 9, 3) := by decide +kernel
theorem dX0_fitBits_42 : decode cX0_fitBits 42 = .ok (.iload_n 1, 1) := by decide +kernel
theorem dX0_fitBits_43 : decode cX0_fitBits 43 = .ok (.iaload, 1) := by decide +kernel
theorem dX0_fitBits_44 : decode cX0_fitBits 44 = .ok (.iconst (-1), 1) := by decide +kernel
theorem dX0_fitBits_45 : decode cX0_fitBits 45 = .ok (.if_icmp .eq 19, 3) := by decide +kernel
theorem dX0_fitBits_48 : decode cX0_fitBits 48 = .ok (.iload 5, 2) := by decide +kernel
theorem dX0_fitBits_50 : decode cX0_fitBits 50 = .ok (.aload_n 0, 1) := by decide +kernel
theorem dX0_fitBits_51 : decode cX0_fitBits 51 = .ok (.getfield 9, 3) := by decide +kernel
theorem dX0_fitBits_54 : decode cX0_fitBits 54 = .ok (.iload_n 1, 1) := by decide +kernel
theorem dX0_fitBits_55 : decode cX0_fitBits 55 = .ok (.iaload, 1) := by decide +kernel
theorem dX0_fitBits_56 : decode cX0_fitBits 56 = .ok (.isub, 1) := by decide +kernel
theorem dX0_fitBits_57 : decode cX0_fitBits 57 = .ok (.invokestatic 44, 3) := by decide +kernel
theorem dX0_fitBits_60 : decode cX0_fitBits 60 = .ok (.iload_n 2, 1) := by decide +kernel
theorem dX0_fitBits_61 : decode cX0_fitBits 61 = .ok (.if_icmp .gt 10, 3) := by decide +kernel
theorem dX0_fitBits_64 : decode cX0_fitBits 64 = .ok (.iload_n 3, 1) := by decide +kernel
theorem dX0_fitBits_65 : decode cX0_fitBits 65 = .ok (.iconst 1, 1) := by decide +kernel
theorem dX0_fitBits_66 : decode cX0_fitBits 66 = .ok (.iload 4, 2) := by decide +kernel
theorem dX0_fitBits_68 : decode cX0_fitBits 68 = .ok (.ishl, 1) := by decide +kernel
theorem dX0_fitBits_69 : decode cX0_fitBits 69 = .ok (.ior, 1) := by decide +kernel
theorem dX0_fitBits_70 : decode cX0_fitBits 70 = .ok (.istore_n 3, 1) := by decide +kernel
theorem dX0_fitBits_71 : decode cX0_fitBits 71 = .ok (.iinc 4 1, 3) := by decide +kernel
theorem dX0_fitBits_74 : decode cX0_fitBits 74 = .ok (.goto (-69), 3) := by decide +kernel
theorem dX0_fitBits_77 : decode cX0_fitBits 77 = .ok (.iload_n 3, 1) := by decide +kernel
theorem dX0_fitBits_78 : decode cX0_fitBits 78 = .ok (.ireturn, 1) := by decide +kernel
theorem dX0_countWorlds_0 : decode cX0_countWorlds 0 = .ok (.aload_n 0, 1) := by decide +kernel
theorem dX0_countWorlds_1 : decode cX0_countWorlds 1 = .ok (.getfield 15, 3) := by decide +kernel
theorem dX0_countWorlds_4 : decode cX0_countWorlds 4 = .ok (.lconst 0, 1) := by decide +kernel
theorem dX0_countWorlds_5 : decode cX0_countWorlds 5 = .ok (.invokestatic 50, 3) := by decide +kernel
theorem dX0_countWorlds_8 : decode cX0_countWorlds 8 = .ok (.lconst 1, 1) := by decide +kernel
theorem dX0_countWorlds_9 : decode cX0_countWorlds 9 = .ok (.lstore 4, 2) := by decide +kernel
theorem dX0_countWorlds_11 : decode cX0_countWorlds 11 = .ok (.iconst 0, 1) := by decide +kernel
theorem dX0_countWorlds_12 : decode cX0_countWorlds 12 = .ok (.istore 6, 2) := by decide +kernel
theorem dX0_countWorlds_14 : decode cX0_countWorlds 14 = .ok (.iload 6, 2) := by decide +kernel
theorem dX0_countWorlds_16 : decode cX0_countWorlds 16 = .ok (.aload_n 0, 1) := by decide +kernel
theorem dX0_countWorlds_17 : decode cX0_countWorlds 17 = .ok (.getfield 23, 3) := by decide +kernel
theorem dX0_countWorlds_20 : decode cX0_countWorlds 20 = .ok (.invokevirtual 53, 3) := by decide +kernel
theorem dX0_countWorlds_23 : decode cX0_countWorlds 23 = .ok (.if_icmp .ge 47, 3) := by decide +kernel
theorem dX0_countWorlds_26 : decode cX0_countWorlds 26 = .ok (.iload 6, 2) := by decide +kernel
theorem dX0_countWorlds_28 : decode cX0_countWorlds 28 = .ok (.iload_n 2, 1) := by decide +kernel
theorem dX0_countWorlds_29 : decode cX0_countWorlds 29 = .ok (.if_icmp .ne 12, 3) := by decide +kernel
theorem dX0_countWorlds_32 : decode cX0_countWorlds 32 = .ok (.bipush 7, 2) := by decide +kernel
theorem dX0_countWorlds_34 : decode cX0_countWorlds 34 = .ok (.iconst 3, 1) := by decide +kernel
theorem dX0_countWorlds_35 : decode cX0_countWorlds 35 = .ok (.iload_n 3, 1) := by decide +kernel
theorem dX0_countWorlds_36 : decode cX0_countWorlds 36 = .ok (.imul, 1) := by decide +kernel
theorem dX0_countWorlds_37 : decode cX0_countWorlds 37 = .ok (.ishl, 1) := by decide +kernel
theorem dX0_countWorlds_38 : decode cX0_countWorlds 38 = .ok (.goto 6, 3) := by decide +kernel
theorem dX0_countWorlds_41 : decode cX0_countWorlds 41 = .ok (.sipush 511, 3) := by decide +kernel
theorem dX0_countWorlds_44 : decode cX0_countWorlds 44 = .ok (.istore 7, 2) := by decide +kernel
theorem dX0_countWorlds_46 : decode cX0_countWorlds 46 = .ok (.aload_n 0, 1) := by decide +kernel
theorem dX0_countWorlds_47 : decode cX0_countWorlds 47 = .ok (.aload_n 0, 1) := by decide +kernel
theorem dX0_countWorlds_48 : decode cX0_countWorlds 48 = .ok (.iload 6, 2) := by decide +kernel
theorem dX0_countWorlds_50 : decode cX0_countWorlds 50 = .ok (.iload_n 1, 1) := by decide +kernel
theorem dX0_countWorlds_51 : decode cX0_countWorlds 51 = .ok (.invokevirtual 57, 3) := by decide +kernel
theorem dX0_countWorlds_54 : decode cX0_countWorlds 54 = .ok (.iload 7, 2) := by decide +kernel
theorem dX0_countWorlds_56 : decode cX0_countWorlds 56 = .ok (.iand, 1) := by decide +kernel
theorem dX0_countWorlds_57 : decode cX0_countWorlds 57 = .ok (.lload 4, 2) := by decide +kernel
theorem dX0_countWorlds_59 : decode cX0_countWorlds 59 = .ok (.invokevirtual 61, 3) := by decide +kernel
theorem dX0_countWorlds_62 : decode cX0_countWorlds 62 = .ok (.lstore 4, 2) := by decide +kernel
theorem dX0_countWorlds_64 : decode cX0_countWorlds 64 = .ok (.iinc 6 1, 3) := by decide +kernel
theorem dX0_countWorlds_67 : decode cX0_countWorlds 67 = .ok (.goto (-53), 3) := by decide +kernel
theorem dX0_countWorlds_70 : decode cX0_countWorlds 70 = .ok (.lload 4, 2) := by decide +kernel
theorem dX0_countWorlds_72 : decode cX0_countWorlds 72 = .ok (.lreturn, 1) := by decide +kernel
theorem dX0_addFloor_0 : decode cX0_addFloor 0 = .ok (.lconst 0, 1) := by decide +kernel
theorem dX0_addFloor_1 : decode cX0_addFloor 1 = .ok (.lstore 4, 2) := by decide +kernel
theorem dX0_addFloor_3 : decode cX0_addFloor 3 = .ok (.iconst 0, 1) := by decide +kernel
theorem dX0_addFloor_4 : decode cX0_addFloor 4 = .ok (.istore 6, 2) := by decide +kernel
theorem dX0_addFloor_6 : decode cX0_addFloor 6 = .ok (.iload 6, 2) := by decide +kernel
theorem dX0_addFloor_8 : decode cX0_addFloor 8 = .ok (.bipush 9, 2) := by decide +kernel
theorem dX0_addFloor_10 : decode cX0_addFloor 10 = .ok (.if_icmp .ge 101, 3) := by decide +kernel
theorem dX0_addFloor_13 : decode cX0_addFloor 13 = .ok (.lload_n 2, 1) := by decide +kernel
theorem dX0_addFloor_14 : decode cX0_addFloor 14 = .ok (.aload_n 0, 1) := by decide +kernel
theorem dX0_addFloor_15 : decode cX0_addFloor 15 = .ok (.getfield 15, 3) := by decide +kernel
theorem dX0_addFloor_18 : decode cX0_addFloor 18 = .ok (.iload 6, 2) := by decide +kernel
theorem dX0_addFloor_20 : decode cX0_addFloor 20 = .ok (.laload, 1) := by decide +kernel
theorem dX0_addFloor_21 : decode cX0_addFloor 21 = .ok (.lsub, 1) := by decide +kernel
theorem dX0_addFloor_22 : decode cX0_addFloor 22 = .ok (.aload_n 0, 1) := by decide +kernel
theorem dX0_addFloor_23 : decode cX0_addFloor 23 = .ok (.getfield 15, 3) := by decide +kernel
theorem dX0_addFloor_26 : decode cX0_addFloor 26 = .ok (.iload 6, 2) := by decide +kernel
theorem dX0_addFloor_28 : decode cX0_addFloor 28 = .ok (.iconst 1, 1) := by decide +kernel
theorem dX0_addFloor_29 : decode cX0_addFloor 29 = .ok (.iadd, 1) := by decide +kernel
theorem dX0_addFloor_30 : decode cX0_addFloor 30 = .ok (.laload, 1) := by decide +kernel
theorem dX0_addFloor_31 : decode cX0_addFloor 31 = .ok (.lsub, 1) := by decide +kernel
theorem dX0_addFloor_32 : decode cX0_addFloor 32 = .ok (.aload_n 0, 1) := by decide +kernel
theorem dX0_addFloor_33 : decode cX0_addFloor 33 = .ok (.getfield 15, 3) := by decide +kernel
theorem dX0_addFloor_36 : decode cX0_addFloor 36 = .ok (.iload 6, 2) := by decide +kernel
theorem dX0_addFloor_38 : decode cX0_addFloor 38 = .ok (.iconst 2, 1) := by decide +kernel
theorem dX0_addFloor_39 : decode cX0_addFloor 39 = .ok (.iadd, 1) := by decide +kernel
theorem dX0_addFloor_40 : decode cX0_addFloor 40 = .ok (.laload, 1) := by decide +kernel
theorem dX0_addFloor_41 : decode cX0_addFloor 41 = .ok (.lsub, 1) := by decide +kernel
theorem dX0_addFloor_42 : decode cX0_addFloor 42 = .ok (.lstore 7, 2) := by decide +kernel
theorem dX0_addFloor_44 : decode cX0_addFloor 44 = .ok (.iload 6, 2) := by decide +kernel
theorem dX0_addFloor_46 : decode cX0_addFloor 46 = .ok (.istore 9, 2) := by decide +kernel
theorem dX0_addFloor_48 : decode cX0_addFloor 48 = .ok (.iload 9, 2) := by decide +kernel
theorem dX0_addFloor_50 : decode cX0_addFloor 50 = .ok (.iload 6, 2) := by decide +kernel
theorem dX0_addFloor_52 : decode cX0_addFloor 52 = .ok (.iconst 3, 1) := by decide +kernel
theorem dX0_addFloor_53 : decode cX0_addFloor 53 = .ok (.iadd, 1) := by decide +kernel
theorem dX0_addFloor_54 : decode cX0_addFloor 54 = .ok (.if_icmp .ge 51, 3) := by decide +kernel
theorem dX0_addFloor_57 : decode cX0_addFloor 57 = .ok (.aload_n 0, 1) := by decide +kernel
theorem dX0_addFloor_58 : decode cX0_addFloor 58 = .ok (.getfield 15, 3) := by decide +kernel
theorem dX0_addFloor_61 : decode cX0_addFloor 61 = .ok (.iload 9, 2) := by decide +kernel
theorem dX0_addFloor_63 : decode cX0_addFloor 63 = .ok (.iload_n 1, 1) := by decide +kernel
theorem dX0_addFloor_64 : decode cX0_addFloor 64 = .ok (.iload 9, 2) := by decide +kernel
theorem dX0_addFloor_66 : decode cX0_addFloor 66 = .ok (.ishr, 1) := by decide +kernel
theorem dX0_addFloor_67 : decode cX0_addFloor 67 = .ok (.iconst 1, 1) := by decide +kernel
theorem dX0_addFloor_68 : decode cX0_addFloor 68 = .ok (.iand, 1) := by decide +kernel
theorem dX0_addFloor_69 : decode cX0_addFloor 69 = .ok (.ifCond .ne 7, 3) := by decide +kernel
theorem dX0_addFloor_72 : decode cX0_addFloor 72 = .ok (.lconst 0, 1) := by decide +kernel
theorem dX0_addFloor_73 : decode cX0_addFloor 73 = .ok (.goto 13, 3) := by decide +kernel
theorem dX0_addFloor_76 : decode cX0_addFloor 76 = .ok (.lload 7, 2) := by decide +kernel
theorem dX0_addFloor_78 : decode cX0_addFloor 78 = .ok (.aload_n 0, 1) := by decide +kernel
theorem dX0_addFloor_79 : decode cX0_addFloor 79 = .ok (.getfield 15, 3) := by decide +kernel
theorem dX0_addFloor_82 : decode cX0_addFloor 82 = .ok (.iload 9, 2) := by decide +kernel
theorem dX0_addFloor_84 : decode cX0_addFloor 84 = .ok (.laload, 1) := by decide +kernel
theorem dX0_addFloor_85 : decode cX0_addFloor 85 = .ok (.ladd, 1) := by decide +kernel
theorem dX0_addFloor_86 : decode cX0_addFloor 86 = .ok (.lastore, 1) := by decide +kernel
theorem dX0_addFloor_87 : decode cX0_addFloor 87 = .ok (.lload 4, 2) := by decide +kernel
theorem dX0_addFloor_89 : decode cX0_addFloor 89 = .ok (.aload_n 0, 1) := by decide +kernel
theorem dX0_addFloor_90 : decode cX0_addFloor 90 = .ok (.getfield 15, 3) := by decide +kernel
theorem dX0_addFloor_93 : decode cX0_addFloor 93 = .ok (.iload 9, 2) := by decide +kernel
theorem dX0_addFloor_95 : decode cX0_addFloor 95 = .ok (.laload, 1) := by decide +kernel
theorem dX0_addFloor_96 : decode cX0_addFloor 96 = .ok (.ladd, 1) := by decide +kernel
theorem dX0_addFloor_97 : decode cX0_addFloor 97 = .ok (.lstore 4, 2) := by decide +kernel
theorem dX0_addFloor_99 : decode cX0_addFloor 99 = .ok (.iinc 9 1, 3) := by decide +kernel
theorem dX0_addFloor_102 : decode cX0_addFloor 102 = .ok (.goto (-54), 3) := by decide +kernel
theorem dX0_addFloor_105 : decode cX0_addFloor 105 = .ok (.iinc 6 3, 3) := by decide +kernel
theorem dX0_addFloor_108 : decode cX0_addFloor 108 = .ok (.goto (-102), 3) := by decide +kernel
theorem dX0_addFloor_111 : decode cX0_addFloor 111 = .ok (.lload 4, 2) := by decide +kernel
theorem dX0_addFloor_113 : decode cX0_addFloor 113 = .ok (.lreturn, 1) := by decide +kernel
theorem dX1_init_0 : decode cX1_init 0 = .ok (.aload_n 0, 1) := by decide +kernel
theorem dX1_init_1 : decode cX1_init 1 = .ok (.invokespecial 3, 3) := by decide +kernel
theorem dX1_init_4 : decode cX1_init 4 = .ok (.aload_n 0, 1) := by decide +kernel
theorem dX1_init_5 : decode cX1_init 5 = .ok (.bipush 10, 2) := by decide +kernel
theorem dX1_init_7 : decode cX1_init 7 = .ok (.newarray .int, 2) := by decide +kernel
theorem dX1_init_9 : decode cX1_init 9 = .ok (.putfield 9, 3) := by decide +kernel
theorem dX1_init_12 : decode cX1_init 12 = .ok (.aload_n 0, 1) := by decide +kernel
theorem dX1_init_13 : decode cX1_init 13 = .ok (.aload_n 1, 1) := by decide +kernel
theorem dX1_init_14 : decode cX1_init 14 = .ok (.putfield 15, 3) := by decide +kernel
theorem dX1_init_17 : decode cX1_init 17 = .ok (.return_, 1) := by decide +kernel
theorem dX1_strength_0 : decode cX1_strength 0 = .ok (.iload_n 2, 1) := by decide +kernel
theorem dX1_strength_1 : decode cX1_strength 1 = .ok (.iconst 2, 1) := by decide +kernel
theorem dX1_strength_2 : decode cX1_strength 2 = .ok (.iadd, 1) := by decide +kernel
theorem dX1_strength_3 : decode cX1_strength 3 = .ok (.aload_n 0, 1) := by decide +kernel
theorem dX1_strength_4 : decode cX1_strength 4 = .ok (.getfield 15, 3) := by decide +kernel
theorem dX1_strength_7 : decode cX1_strength 7 = .ok (.iload_n 1, 1) := by decide +kernel
theorem dX1_strength_8 : decode cX1_strength 8 = .ok (.invokevirtual 19, 3) := by decide +kernel
theorem dX1_strength_11 : decode cX1_strength 11 = .ok (.imul, 1) := by decide +kernel
theorem dX1_strength_12 : decode cX1_strength 12 = .ok (.bipush 10, 2) := by decide +kernel
theorem dX1_strength_14 : decode cX1_strength 14 = .ok (.idiv, 1) := by decide +kernel
theorem dX1_strength_15 : decode cX1_strength 15 = .ok (.ireturn, 1) := by decide +kernel
theorem dX1_firstOverborne_0 : decode cX1_firstOverborne 0 = .ok (.iconst 0, 1) := by decide +kernel
theorem dX1_firstOverborne_1 : decode cX1_firstOverborne 1 = .ok (.istore_n 2, 1) := by decide +kernel
theorem dX1_firstOverborne_2 : decode cX1_firstOverborne 2 = .ok (.iload_n 2, 1) := by decide +kernel
theorem dX1_firstOverborne_3 : decode cX1_firstOverborne 3 = .ok (.aload_n 0, 1) := by decide +kernel
theorem dX1_firstOverborne_4 : decode cX1_firstOverborne 4 = .ok (.getfield 15, 3) := by decide +kernel
theorem dX1_firstOverborne_7 : decode cX1_firstOverborne 7 = .ok (.invokevirtual 25, 3) := by decide +kernel
theorem dX1_firstOverborne_10 : decode cX1_firstOverborne 10 = .ok (.if_icmp .ge 20, 3) := by decide +kernel
theorem dX1_firstOverborne_13 : decode cX1_firstOverborne 13 = .ok (.aload_n 0, 1) := by decide +kernel
theorem dX1_firstOverborne_14 : decode cX1_firstOverborne 14 = .ok (.iload_n 2, 1) := by decide +kernel
theorem dX1_firstOverborne_15 : decode cX1_firstOverborne 15 = .ok (.iload_n 1, 1) := by decide +kernel
theorem dX1_firstOverborne_16 : decode cX1_firstOverborne 16 = .ok (.invokevirtual 29, 3) := by decide +kernel
theorem dX1_firstOverborne_19 : decode cX1_firstOverborne 19 = .ok (.ifCond .ge 5, 3) := by decide +kernel
theorem dX1_firstOverborne_22 : decode cX1_firstOverborne 22 = .ok (.iload_n 2, 1) := by decide +kernel
theorem dX1_firstOverborne_23 : decode cX1_firstOverborne 23 = .ok (.ireturn, 1) := by decide +kernel
theorem dX1_firstOverborne_24 : decode cX1_firstOverborne 24 = .ok (.iinc 2 1, 3) := by decide +kernel
theorem dX1_firstOverborne_27 : decode cX1_firstOverborne 27 = .ok (.goto (-25), 3) := by decide +kernel
theorem dX1_firstOverborne_30 : decode cX1_firstOverborne 30 = .ok (.iconst (-1), 1) := by decide +kernel
theorem dX1_firstOverborne_31 : decode cX1_firstOverborne 31 = .ok (.ireturn, 1) := by decide +kernel
theorem dX1_spareOnTop_0 : decode cX1_spareOnTop 0 = .ok (.aload_n 0, 1) := by decide +kernel
theorem dX1_spareOnTop_1 : decode cX1_spareOnTop 1 = .ok (.getfield 15, 3) := by decide +kernel
theorem dX1_spareOnTop_4 : decode cX1_spareOnTop 4 = .ok (.invokevirtual 25, 3) := by decide +kernel
theorem dX1_spareOnTop_7 : decode cX1_spareOnTop 7 = .ok (.iconst 1, 1) := by decide +kernel
theorem dX1_spareOnTop_8 : decode cX1_spareOnTop 8 = .ok (.isub, 1) := by decide +kernel
theorem dX1_spareOnTop_9 : decode cX1_spareOnTop 9 = .ok (.istore_n 1, 1) := by decide +kernel
theorem dX1_spareOnTop_10 : decode cX1_spareOnTop 10 = .ok (.bipush 99, 2) := by decide +kernel
theorem dX1_spareOnTop_12 : decode cX1_spareOnTop 12 = .ok (.istore_n 2, 1) := by decide +kernel
theorem dX1_spareOnTop_13 : decode cX1_spareOnTop 13 = .ok (.iconst 0, 1) := by decide +kernel
theorem dX1_spareOnTop_14 : decode cX1_spareOnTop 14 = .ok (.istore_n 3, 1) := by decide +kernel
theorem dX1_spareOnTop_15 : decode cX1_spareOnTop 15 = .ok (.iload_n 3, 1) := by decide +kernel
theorem dX1_spareOnTop_16 : decode cX1_spareOnTop 16 = .ok (.iconst 3, 1) := by decide +kernel
theorem dX1_spareOnTop_17 : decode cX1_spareOnTop 17 = .ok (.if_icmp .ge 47, 3) := by decide +kernel
theorem dX1_spareOnTop_20 : decode cX1_spareOnTop 20 = .ok (.aload_n 0, 1) := by decide +kernel
theorem dX1_spareOnTop_21 : decode cX1_spareOnTop 21 = .ok (.iload_n 3, 1) := by decide +kernel
theorem dX1_spareOnTop_22 : decode cX1_spareOnTop 22 = .ok (.invokevirtual 33, 3) := by decide +kernel
theorem dX1_spareOnTop_25 : decode cX1_spareOnTop 25 = .ok (.iconst (-1), 1) := by decide +kernel
theorem dX1_spareOnTop_26 : decode cX1_spareOnTop 26 = .ok (.if_icmp .eq 5, 3) := by decide +kernel
theorem dX1_spareOnTop_29 : decode cX1_spareOnTop 29 = .ok (.iconst (-1), 1) := by decide +kernel
theorem dX1_spareOnTop_30 : decode cX1_spareOnTop 30 = .ok (.ireturn, 1) := by decide +kernel
theorem dX1_spareOnTop_31 : decode cX1_spareOnTop 31 = .ok (.iconst 0, 1) := by decide +kernel
theorem dX1_spareOnTop_32 : decode cX1_spareOnTop 32 = .ok (.istore 4, 2) := by decide +kernel
theorem dX1_spareOnTop_34 : decode cX1_spareOnTop 34 = .ok (.iload 4, 2) := by decide +kernel
theorem dX1_spareOnTop_36 : decode cX1_spareOnTop 36 = .ok (.iload_n 1, 1) := by decide +kernel
theorem dX1_spareOnTop_37 : decode cX1_spareOnTop 37 = .ok (.if_icmp .ge 21, 3) := by decide +kernel
theorem dX1_spareOnTop_40 : decode cX1_spareOnTop 40 = .ok (.iload_n 2, 1) := by decide +kernel
theorem dX1_spareOnTop_41 : decode cX1_spareOnTop 41 = .ok (.aload_n 0, 1) := by decide +kernel
theorem dX1_spareOnTop_42 : decode cX1_spareOnTop 42 = .ok (.iload 4, 2) := by decide +kernel
theorem dX1_spareOnTop_44 : decode cX1_spareOnTop 44 = .ok (.iload_n 3, 1) := by decide +kernel
theorem dX1_spareOnTop_45 : decode cX1_spareOnTop 45 = .ok (.invokevirtual 29, 3) := by decide +kernel
theorem dX1_spareOnTop_48 : decode cX1_spareOnTop 48 = .ok (.invokestatic 36, 3) := by decide +kernel
theorem dX1_spareOnTop_51 : decode cX1_spareOnTop 51 = .ok (.istore_n 2, 1) := by decide +kernel
theorem dX1_spareOnTop_52 : decode cX1_spareOnTop 52 = .ok (.iinc 4 1, 3) := by decide +kernel
theorem dX1_spareOnTop_55 : decode cX1_spareOnTop 55 = .ok (.goto (-21), 3) := by decide +kernel
theorem dX1_spareOnTop_58 : decode cX1_spareOnTop 58 = .ok (.iinc 3 1, 3) := by decide +kernel
theorem dX1_spareOnTop_61 : decode cX1_spareOnTop 61 = .ok (.goto (-46), 3) := by decide +kernel
theorem dX1_spareOnTop_64 : decode cX1_spareOnTop 64 = .ok (.iload_n 2, 1) := by decide +kernel
theorem dX1_spareOnTop_65 : decode cX1_spareOnTop 65 = .ok (.ireturn, 1) := by decide +kernel
theorem dX1_reserve_0 : decode cX1_reserve 0 = .ok (.iconst 0, 1) := by decide +kernel
theorem dX1_reserve_1 : decode cX1_reserve 1 = .ok (.istore_n 3, 1) := by decide +kernel
theorem dX1_reserve_2 : decode cX1_reserve 2 = .ok (.iload_n 1, 1) := by decide +kernel
theorem dX1_reserve_3 : decode cX1_reserve 3 = .ok (.iconst 1, 1) := by decide +kernel
theorem dX1_reserve_4 : decode cX1_reserve 4 = .ok (.iadd, 1) := by decide +kernel
theorem dX1_reserve_5 : decode cX1_reserve 5 = .ok (.istore 4, 2) := by decide +kernel
theorem dX1_reserve_7 : decode cX1_reserve 7 = .ok (.iload 4, 2) := by decide +kernel
theorem dX1_reserve_9 : decode cX1_reserve 9 = .ok (.aload_n 0, 1) := by decide +kernel
theorem dX1_reserve_10 : decode cX1_reserve 10 = .ok (.getfield 15, 3) := by decide +kernel
theorem dX1_reserve_13 : decode cX1_reserve 13 = .ok (.invokevirtual 25, 3) := by decide +kernel
theorem dX1_reserve_16 : decode cX1_reserve 16 = .ok (.if_icmp .ge 19, 3) := by decide +kernel
theorem dX1_reserve_19 : decode cX1_reserve 19 = .ok (.iload_n 3, 1) := by decide +kernel
theorem dX1_reserve_20 : decode cX1_reserve 20 = .ok (.aload_n 0, 1) := by decide +kernel
theorem dX1_reserve_21 : decode cX1_reserve 21 = .ok (.getfield 9, 3) := by decide +kernel
theorem dX1_reserve_24 : decode cX1_reserve 24 = .ok (.iload 4, 2) := by decide +kernel
theorem dX1_reserve_26 : decode cX1_reserve 26 = .ok (.iaload, 1) := by decide +kernel
theorem dX1_reserve_27 : decode cX1_reserve 27 = .ok (.iadd, 1) := by decide +kernel
theorem dX1_reserve_28 : decode cX1_reserve 28 = .ok (.istore_n 3, 1) := by decide +kernel
theorem dX1_reserve_29 : decode cX1_reserve 29 = .ok (.iinc 4 1, 3) := by decide +kernel
theorem dX1_reserve_32 : decode cX1_reserve 32 = .ok (.goto (-25), 3) := by decide +kernel
theorem dX1_reserve_35 : decode cX1_reserve 35 = .ok (.aload_n 0, 1) := by decide +kernel
theorem dX1_reserve_36 : decode cX1_reserve 36 = .ok (.iload_n 1, 1) := by decide +kernel
theorem dX1_reserve_37 : decode cX1_reserve 37 = .ok (.iload_n 2, 1) := by decide +kernel
theorem dX1_reserve_38 : decode cX1_reserve 38 = .ok (.invokevirtual 41, 3) := by decide +kernel
theorem dX1_reserve_41 : decode cX1_reserve 41 = .ok (.iload_n 3, 1) := by decide +kernel
theorem dX1_reserve_42 : decode cX1_reserve 42 = .ok (.isub, 1) := by decide +kernel
theorem dX1_reserve_43 : decode cX1_reserve 43 = .ok (.ireturn, 1) := by decide +kernel
theorem dX2_init_0 : decode cX2_init 0 = .ok (.aload_n 0, 1) := by decide +kernel
theorem dX2_init_1 : decode cX2_init 1 = .ok (.invokespecial 1, 3) := by decide +kernel
theorem dX2_init_4 : decode cX2_init 4 = .ok (.aload_n 0, 1) := by decide +kernel
theorem dX2_init_5 : decode cX2_init 5 = .ok (.iconst 3, 1) := by decide +kernel
theorem dX2_init_6 : decode cX2_init 6 = .ok (.newarray .int, 2) := by decide +kernel
theorem dX2_init_8 : decode cX2_init 8 = .ok (.dup, 1) := by decide +kernel
theorem dX2_init_9 : decode cX2_init 9 = .ok (.iconst 0, 1) := by decide +kernel
theorem dX2_init_10 : decode cX2_init 10 = .ok (.bipush 12, 2) := by decide +kernel
theorem dX2_init_12 : decode cX2_init 12 = .ok (.iastore, 1) := by decide +kernel
theorem dX2_init_13 : decode cX2_init 13 = .ok (.dup, 1) := by decide +kernel
theorem dX2_init_14 : decode cX2_init 14 = .ok (.iconst 1, 1) := by decide +kernel
theorem dX2_init_15 : decode cX2_init 15 = .ok (.bipush 45, 2) := by decide +kernel
theorem dX2_init_17 : decode cX2_init 17 = .ok (.iastore, 1) := by decide +kernel
theorem dX2_init_18 : decode cX2_init 18 = .ok (.dup, 1) := by decide +kernel
theorem dX2_init_19 : decode cX2_init 19 = .ok (.iconst 2, 1) := by decide +kernel
theorem dX2_init_20 : decode cX2_init 20 = .ok (.bipush 9, 2) := by decide +kernel
theorem dX2_init_22 : decode cX2_init 22 = .ok (.iastore, 1) := by decide +kernel
theorem dX2_init_23 : decode cX2_init 23 = .ok (.putfield 7, 3) := by decide +kernel
theorem dX2_init_26 : decode cX2_init 26 = .ok (.aload_n 0, 1) := by decide +kernel
theorem dX2_init_27 : decode cX2_init 27 = .ok (.iconst 3, 1) := by decide +kernel
theorem dX2_init_28 : decode cX2_init 28 = .ok (.newarray .int, 2) := by decide +kernel
theorem dX2_init_30 : decode cX2_init 30 = .ok (.dup, 1) := by decide +kernel
theorem dX2_init_31 : decode cX2_init 31 = .ok (.iconst 0, 1) := by decide +kernel
theorem dX2_init_32 : decode cX2_init 32 = .ok (.iconst 1, 1) := by decide +kernel
theorem dX2_init_33 : decode cX2_init 33 = .ok (.iastore, 1) := by decide +kernel
theorem dX2_init_34 : decode cX2_init 34 = .ok (.dup, 1) := by decide +kernel
theorem dX2_init_35 : decode cX2_init 35 = .ok (.iconst 1, 1) := by decide +kernel
theorem dX2_init_36 : decode cX2_init 36 = .ok (.iconst 1, 1) := by decide +kernel
theorem dX2_init_37 : decode cX2_init 37 = .ok (.iastore, 1) := by decide +kernel
theorem dX2_init_38 : decode cX2_init 38 = .ok (.dup, 1) := by decide +kernel
theorem dX2_init_39 : decode cX2_init 39 = .ok (.iconst 2, 1) := by decide +kernel
theorem dX2_init_40 : decode cX2_init 40 = .ok (.iconst 1, 1) := by decide +kernel
theorem dX2_init_41 : decode cX2_init 41 = .ok (.iastore, 1) := by decide +kernel
theorem dX2_init_42 : decode cX2_init 42 = .ok (.putfield 13, 3) := by decide +kernel
theorem dX2_init_45 : decode cX2_init 45 = .ok (.return_, 1) := by decide +kernel
theorem dX2_exchange_0 : decode cX2_exchange 0 = .ok (.iload_n 2, 1) := by decide +kernel
theorem dX2_exchange_1 : decode cX2_exchange 1 = .ok (.ifCond .ne 10, 3) := by decide +kernel
theorem dX2_exchange_4 : decode cX2_exchange 4 = .ok (.aload_n 0, 1) := by decide +kernel
theorem dX2_exchange_5 : decode cX2_exchange 5 = .ok (.getfield 7, 3) := by decide +kernel
theorem dX2_exchange_8 : decode cX2_exchange 8 = .ok (.goto 7, 3) := by decide +kernel
theorem dX2_exchange_11 : decode cX2_exchange 11 = .ok (.aload_n 0, 1) := by decide +kernel
theorem dX2_exchange_12 : decode cX2_exchange 12 = .ok (.getfield 13, 3) := by decide +kernel
theorem dX2_exchange_15 : decode cX2_exchange 15 = .ok (.astore 4, 2) := by decide +kernel
theorem dX2_exchange_17 : decode cX2_exchange 17 = .ok (.aload 4, 2) := by decide +kernel
theorem dX2_exchange_19 : decode cX2_exchange 19 = .ok (.iload_n 1, 1) := by decide +kernel
theorem dX2_exchange_20 : decode cX2_exchange 20 = .ok (.iaload, 1) := by decide +kernel
theorem dX2_exchange_21 : decode cX2_exchange 21 = .ok (.istore 5, 2) := by decide +kernel
theorem dX2_exchange_23 : decode cX2_exchange 23 = .ok (.aload 4, 2) := by decide +kernel
theorem dX2_exchange_25 : decode cX2_exchange 25 = .ok (.iload_n 1, 1) := by decide +kernel
theorem dX2_exchange_26 : decode cX2_exchange 26 = .ok (.iload_n 3, 1) := by decide +kernel
theorem dX2_exchange_27 : decode cX2_exchange 27 = .ok (.iastore, 1) := by decide +kernel
theorem dX2_exchange_28 : decode cX2_exchange 28 = .ok (.iload 5, 2) := by decide +kernel
theorem dX2_exchange_30 : decode cX2_exchange 30 = .ok (.ireturn, 1) := by decide +kernel
theorem dX2_toParts_0 : decode cX2_toParts 0 = .ok (.aload_n 0, 1) := by decide +kernel
theorem dX2_toParts_1 : decode cX2_toParts 1 = .ok (.getfield 7, 3) := by decide +kernel
theorem dX2_toParts_4 : decode cX2_toParts 4 = .ok (.iload_n 2, 1) := by decide +kernel
theorem dX2_toParts_5 : decode cX2_toParts 5 = .ok (.iaload, 1) := by decide +kernel
theorem dX2_toParts_6 : decode cX2_toParts 6 = .ok (.istore 4, 2) := by decide +kernel
theorem dX2_toParts_8 : decode cX2_toParts 8 = .ok (.aload_n 0, 1) := by decide +kernel
theorem dX2_toParts_9 : decode cX2_toParts 9 = .ok (.getfield 13, 3) := by decide +kernel
theorem dX2_toParts_12 : decode cX2_toParts 12 = .ok (.iload_n 2, 1) := by decide +kernel
theorem dX2_toParts_13 : decode cX2_toParts 13 = .ok (.iaload, 1) := by decide +kernel
theorem dX2_toParts_14 : decode cX2_toParts 14 = .ok (.istore 5, 2) := by decide +kernel
theorem dX2_toParts_16 : decode cX2_toParts 16 = .ok (.iload 4, 2) := by decide +kernel
theorem dX2_toParts_18 : decode cX2_toParts 18 = .ok (.iconst 1, 1) := by decide +kernel
theorem dX2_toParts_19 : decode cX2_toParts 19 = .ok (.if_icmp .lt 9, 3) := by decide +kernel
theorem dX2_toParts_22 : decode cX2_toParts 22 = .ok (.iload 5, 2) := by decide +kernel
theorem dX2_toParts_24 : decode cX2_toParts 24 = .ok (.iconst 1, 1) := by decide +kernel
theorem dX2_toParts_25 : decode cX2_toParts 25 = .ok (.if_icmp .ge 5, 3) := by decide +kernel
theorem dX2_toParts_28 : decode cX2_toParts 28 = .ok (.iload_n 1, 1) := by decide +kernel
theorem dX2_toParts_29 : decode cX2_toParts 29 = .ok (.ireturn, 1) := by decide +kernel
theorem dX2_toParts_30 : decode cX2_toParts 30 = .ok (.iload_n 1, 1) := by decide +kernel
theorem dX2_toParts_31 : decode cX2_toParts 31 = .ok (.iload 5, 2) := by decide +kernel
theorem dX2_toParts_33 : decode cX2_toParts 33 = .ok (.imul, 1) := by decide +kernel
theorem dX2_toParts_34 : decode cX2_toParts 34 = .ok (.istore 6, 2) := by decide +kernel
theorem dX2_toParts_36 : decode cX2_toParts 36 = .ok (.iload_n 3, 1) := by decide +kernel
theorem dX2_toParts_37 : decode cX2_toParts 37 = .ok (.ifCond .ne 13, 3) := by decide +kernel
theorem dX2_toParts_40 : decode cX2_toParts 40 = .ok (.iload 6, 2) := by decide +kernel
theorem dX2_toParts_42 : decode cX2_toParts 42 = .ok (.iload 4, 2) := by decide +kernel
theorem dX2_toParts_44 : decode cX2_toParts 44 = .ok (.idiv, 1) := by decide +kernel
theorem dX2_toParts_45 : decode cX2_toParts 45 = .ok (.istore 7, 2) := by decide +kernel
theorem dX2_toParts_47 : decode cX2_toParts 47 = .ok (.goto 39, 3) := by decide +kernel
theorem dX2_toParts_50 : decode cX2_toParts 50 = .ok (.iload_n 3, 1) := by decide +kernel
theorem dX2_toParts_51 : decode cX2_toParts 51 = .ok (.iconst 1, 1) := by decide +kernel
theorem dX2_toParts_52 : decode cX2_toParts 52 = .ok (.if_icmp .ne 18, 3) := by decide +kernel
theorem dX2_toParts_55 : decode cX2_toParts 55 = .ok (.iload 6, 2) := by decide +kernel
theorem dX2_toParts_57 : decode cX2_toParts 57 = .ok (.iload 4, 2) := by decide +kernel
theorem dX2_toParts_59 : decode cX2_toParts 59 = .ok (.iadd, 1) := by decide +kernel
theorem dX2_toParts_60 : decode cX2_toParts 60 = .ok (.iconst 1, 1) := by decide +kernel
theorem dX2_toParts_61 : decode cX2_toParts 61 = .ok (.isub, 1) := by decide +kernel
theorem dX2_toParts_62 : decode cX2_toParts 62 = .ok (.iload 4, 2) := by decide +kernel
theorem dX2_toParts_64 : decode cX2_toParts 64 = .ok (.idiv, 1) := by decide +kernel
theorem dX2_toParts_65 : decode cX2_toParts 65 = .ok (.istore 7, 2) := by decide +kernel
theorem dX2_toParts_67 : decode cX2_toParts 67 = .ok (.goto 19, 3) := by decide +kernel
theorem dX2_toParts_70 : decode cX2_toParts 70 = .ok (.iconst 2, 1) := by decide +kernel
theorem dX2_toParts_71 : decode cX2_toParts 71 = .ok (.iload 6, 2) := by decide +kernel
theorem dX2_toParts_73 : decode cX2_toParts 73 = .ok (.imul, 1) := by decide +kernel
theorem dX2_toParts_74 : decode cX2_toParts 74 = .ok (.iload 4, 2) := by decide +kernel
theorem dX2_toParts_76 : decode cX2_toParts 76 = .ok (.iadd, 1) := by decide +kernel
theorem dX2_toParts_77 : decode cX2_toParts 77 = .ok (.iconst 1, 1) := by decide +kernel
theorem dX2_toParts_78 : decode cX2_toParts 78 = .ok (.isub, 1) := by decide +kernel
theorem dX2_toParts_79 : decode cX2_toParts 79 = .ok (.iconst 2, 1) := by decide +kernel
theorem dX2_toParts_80 : decode cX2_toParts 80 = .ok (.iload 4, 2) := by decide +kernel
theorem dX2_toParts_82 : decode cX2_toParts 82 = .ok (.imul, 1) := by decide +kernel
theorem dX2_toParts_83 : decode cX2_toParts 83 = .ok (.idiv, 1) := by decide +kernel
theorem dX2_toParts_84 : decode cX2_toParts 84 = .ok (.istore 7, 2) := by decide +kernel
theorem dX2_toParts_86 : decode cX2_toParts 86 = .ok (.iload 7, 2) := by decide +kernel
theorem dX2_toParts_88 : decode cX2_toParts 88 = .ok (.iload 4, 2) := by decide +kernel
theorem dX2_toParts_90 : decode cX2_toParts 90 = .ok (.imul, 1) := by decide +kernel
theorem dX2_toParts_91 : decode cX2_toParts 91 = .ok (.iload 5, 2) := by decide +kernel
theorem dX2_toParts_93 : decode cX2_toParts 93 = .ok (.idiv, 1) := by decide +kernel
theorem dX2_toParts_94 : decode cX2_toParts 94 = .ok (.ireturn, 1) := by decide +kernel
theorem dX3_init_0 : decode cX3_init 0 = .ok (.aload_n 0, 1) := by decide +kernel
theorem dX3_init_1 : decode cX3_init 1 = .ok (.invokespecial 3, 3) := by decide +kernel
theorem dX3_init_4 : decode cX3_init 4 = .ok (.aload_n 0, 1) := by decide +kernel
theorem dX3_init_5 : decode cX3_init 5 = .ok (.bipush 10, 2) := by decide +kernel
theorem dX3_init_7 : decode cX3_init 7 = .ok (.newarray .int, 2) := by decide +kernel
theorem dX3_init_9 : decode cX3_init 9 = .ok (.putfield 9, 3) := by decide +kernel
theorem dX3_init_12 : decode cX3_init 12 = .ok (.return_, 1) := by decide +kernel
theorem dX3_work_0 : decode cX3_work 0 = .ok (.aload_n 0, 1) := by decide +kernel
theorem dX3_work_1 : decode cX3_work 1 = .ok (.getfield 9, 3) := by decide +kernel
theorem dX3_work_4 : decode cX3_work 4 = .ok (.iconst 0, 1) := by decide +kernel
theorem dX3_work_5 : decode cX3_work 5 = .ok (.invokestatic 15, 3) := by decide +kernel
theorem dX3_work_8 : decode cX3_work 8 = .ok (.iload_n 3, 1) := by decide +kernel
theorem dX3_work_9 : decode cX3_work 9 = .ok (.ifCond .ne 12, 3) := by decide +kernel
theorem dX3_work_12 : decode cX3_work 12 = .ok (.iload 4, 2) := by decide +kernel
theorem dX3_work_14 : decode cX3_work 14 = .ok (.ifCond .ne 7, 3) := by decide +kernel
theorem dX3_work_17 : decode cX3_work 17 = .ok (.iconst 1, 1) := by decide +kernel
theorem dX3_work_18 : decode cX3_work 18 = .ok (.goto 4, 3) := by decide +kernel
theorem dX3_work_21 : decode cX3_work 21 = .ok (.iconst 0, 1) := by decide +kernel
theorem dX3_work_22 : decode cX3_work 22 = .ok (.istore 5, 2) := by decide +kernel
theorem dX3_work_24 : decode cX3_work 24 = .ok (.iconst 0, 1) := by decide +kernel
theorem dX3_work_25 : decode cX3_work 25 = .ok (.istore 6, 2) := by decide +kernel
theorem dX3_work_27 : decode cX3_work 27 = .ok (.iconst 0, 1) := by decide +kernel
theorem dX3_work_28 : decode cX3_work 28 = .ok (.istore 7, 2) := by decide +kernel
theorem dX3_work_30 : decode cX3_work 30 = .ok (.iconst 1, 1) := by decide +kernel
theorem dX3_work_31 : decode cX3_work 31 = .ok (.istore 8, 2) := by decide +kernel
theorem dX3_work_33 : decode cX3_work 33 = .ok (.iload 8, 2) := by decide +kernel
theorem dX3_work_35 : decode cX3_work 35 = .ok (.aload_n 1, 1) := by decide +kernel
theorem dX3_work_36 : decode cX3_work 36 = .ok (.invokevirtual 21, 3) := by decide +kernel
theorem dX3_work_39 : decode cX3_work 39 = .ok (.if_icmp .gt 95, 3) := by decide +kernel
theorem dX3_work_42 : decode cX3_work 42 = .ok (.iload_n 2, 1) := by decide +kernel
theorem dX3_work_43 : decode cX3_work 43 = .ok (.iload 8, 2) := by decide +kernel
theorem dX3_work_45 : decode cX3_work 45 = .ok (.iconst 1, 1) := by decide +kernel
theorem dX3_work_46 : decode cX3_work 46 = .ok (.isub, 1) := by decide +kernel
theorem dX3_work_47 : decode cX3_work 47 = .ok (.ishr, 1) := by decide +kernel
theorem dX3_work_48 : decode cX3_work 48 = .ok (.iconst 1, 1) := by decide +kernel
theorem dX3_work_49 : decode cX3_work 49 = .ok (.iand, 1) := by decide +kernel
theorem dX3_work_50 : decode cX3_work 50 = .ok (.ifCond .ne 6, 3) := by decide +kernel
theorem dX3_work_53 : decode cX3_work 53 = .ok (.goto 75, 3) := by decide +kernel
theorem dX3_work_56 : decode cX3_work 56 = .ok (.aload_n 1, 1) := by decide +kernel
theorem dX3_work_57 : decode cX3_work 57 = .ok (.iload 7, 2) := by decide +kernel
theorem dX3_work_59 : decode cX3_work 59 = .ok (.invokevirtual 27, 3) := by decide +kernel
theorem dX3_work_62 : decode cX3_work 62 = .ok (.aload_n 1, 1) := by decide +kernel
theorem dX3_work_63 : decode cX3_work 63 = .ok (.iload 8, 2) := by decide +kernel
theorem dX3_work_65 : decode cX3_work 65 = .ok (.invokevirtual 27, 3) := by decide +kernel
theorem dX3_work_68 : decode cX3_work 68 = .ok (.isub, 1) := by decide +kernel
theorem dX3_work_69 : decode cX3_work 69 = .ok (.istore 9, 2) := by decide +kernel
theorem dX3_work_71 : decode cX3_work 71 = .ok (.iload 9, 2) := by decide +kernel
theorem dX3_work_73 : decode cX3_work 73 = .ok (.invokestatic 31, 3) := by decide +kernel
theorem dX3_work_76 : decode cX3_work 76 = .ok (.bipush 99, 2) := by decide +kernel
theorem dX3_work_78 : decode cX3_work 78 = .ok (.iload 8, 2) := by decide +kernel
theorem dX3_work_80 : decode cX3_work 80 = .ok (.iload 7, 2) := by decide +kernel
theorem dX3_work_82 : decode cX3_work 82 = .ok (.isub, 1) := by decide +kernel
theorem dX3_work_83 : decode cX3_work 83 = .ok (.imul, 1) := by decide +kernel
theorem dX3_work_84 : decode cX3_work 84 = .ok (.if_icmp .le 5, 3) := by decide +kernel
theorem dX3_work_87 : decode cX3_work 87 = .ok (.iconst (-1), 1) := by decide +kernel
theorem dX3_work_88 : decode cX3_work 88 = .ok (.ireturn, 1) := by decide +kernel
theorem dX3_work_89 : decode cX3_work 89 = .ok (.iload 6, 2) := by decide +kernel
theorem dX3_work_91 : decode cX3_work 91 = .ok (.iload 9, 2) := by decide +kernel
theorem dX3_work_93 : decode cX3_work 93 = .ok (.ifCond .le 10, 3) := by decide +kernel
theorem dX3_work_96 : decode cX3_work 96 = .ok (.iload 9, 2) := by decide +kernel
theorem dX3_work_98 : decode cX3_work 98 = .ok (.iload_n 3, 1) := by decide +kernel
theorem dX3_work_99 : decode cX3_work 99 = .ok (.imul, 1) := by decide +kernel
theorem dX3_work_100 : decode cX3_work 100 = .ok (.goto 9, 3) := by decide +kernel
theorem dX3_work_103 : decode cX3_work 103 = .ok (.iload 9, 2) := by decide +kernel
theorem dX3_work_105 : decode cX3_work 105 = .ok (.ineg, 1) := by decide +kernel
theorem dX3_work_106 : decode cX3_work 106 = .ok (.iload 4, 2) := by decide +kernel
theorem dX3_work_108 : decode cX3_work 108 = .ok (.imul, 1) := by decide +kernel
theorem dX3_work_109 : decode cX3_work 109 = .ok (.iadd, 1) := by decide +kernel
theorem dX3_work_110 : decode cX3_work 110 = .ok (.istore 6, 2) := by decide +kernel
theorem dX3_work_112 : decode cX3_work 112 = .ok (.aload_n 0, 1) := by decide +kernel
theorem dX3_work_113 : decode cX3_work 113 = .ok (.iload 9, 2) := by decide +kernel
theorem dX3_work_115 : decode cX3_work 115 = .ok (.iload 7, 2) := by decide +kernel
theorem dX3_work_117 : decode cX3_work 117 = .ok (.iload 8, 2) := by decide +kernel
theorem dX3_work_119 : decode cX3_work 119 = .ok (.iload 5, 2) := by decide +kernel
theorem dX3_work_121 : decode cX3_work 121 = .ok (.invokevirtual 36, 3) := by decide +kernel
theorem dX3_work_124 : decode cX3_work 124 = .ok (.iload 8, 2) := by decide +kernel
theorem dX3_work_126 : decode cX3_work 126 = .ok (.istore 7, 2) := by decide +kernel
theorem dX3_work_128 : decode cX3_work 128 = .ok (.iinc 8 1, 3) := by decide +kernel
theorem dX3_work_131 : decode cX3_work 131 = .ok (.goto (-98), 3) := by decide +kernel
theorem dX3_work_134 : decode cX3_work 134 = .ok (.iload 6, 2) := by decide +kernel
theorem dX3_work_136 : decode cX3_work 136 = .ok (.ireturn, 1) := by decide +kernel
theorem dX3_share_0 : decode cX3_share 0 = .ok (.iload 4, 2) := by decide +kernel
theorem dX3_share_2 : decode cX3_share 2 = .ok (.ifCond .ne 7, 3) := by decide +kernel
theorem dX3_share_5 : decode cX3_share 5 = .ok (.iload_n 1, 1) := by decide +kernel
theorem dX3_share_6 : decode cX3_share 6 = .ok (.ifCond .ge 8, 3) := by decide +kernel
theorem dX3_share_9 : decode cX3_share 9 = .ok (.bipush (-99), 2) := by decide +kernel
theorem dX3_share_11 : decode cX3_share 11 = .ok (.goto 4, 3) := by decide +kernel
theorem dX3_share_14 : decode cX3_share 14 = .ok (.iconst 0, 1) := by decide +kernel
theorem dX3_share_15 : decode cX3_share 15 = .ok (.istore 5, 2) := by decide +kernel
theorem dX3_share_17 : decode cX3_share 17 = .ok (.iload 4, 2) := by decide +kernel
theorem dX3_share_19 : decode cX3_share 19 = .ok (.ifCond .ne 7, 3) := by decide +kernel
theorem dX3_share_22 : decode cX3_share 22 = .ok (.iload_n 1, 1) := by decide +kernel
theorem dX3_share_23 : decode cX3_share 23 = .ok (.ifCond .le 8, 3) := by decide +kernel
theorem dX3_share_26 : decode cX3_share 26 = .ok (.bipush 99, 2) := by decide +kernel
theorem dX3_share_28 : decode cX3_share 28 = .ok (.goto 4, 3) := by decide +kernel
theorem dX3_share_31 : decode cX3_share 31 = .ok (.iconst 0, 1) := by decide +kernel
theorem dX3_share_32 : decode cX3_share 32 = .ok (.istore 6, 2) := by decide +kernel
theorem dX3_share_34 : decode cX3_share 34 = .ok (.iload_n 1, 1) := by decide +kernel
theorem dX3_share_35 : decode cX3_share 35 = .ok (.istore 7, 2) := by decide +kernel
theorem dX3_share_37 : decode cX3_share 37 = .ok (.iload_n 2, 1) := by decide +kernel
theorem dX3_share_38 : decode cX3_share 38 = .ok (.istore 8, 2) := by decide +kernel
theorem dX3_share_40 : decode cX3_share 40 = .ok (.iload 8, 2) := by decide +kernel
theorem dX3_share_42 : decode cX3_share 42 = .ok (.iload_n 3, 1) := by decide +kernel
theorem dX3_share_43 : decode cX3_share 43 = .ok (.if_icmp .ge 45, 3) := by decide +kernel
theorem dX3_share_46 : decode cX3_share 46 = .ok (.aload_n 0, 1) := by decide +kernel
theorem dX3_share_47 : decode cX3_share 47 = .ok (.getfield 9, 3) := by decide +kernel
theorem dX3_share_50 : decode cX3_share 50 = .ok (.iload 8, 2) := by decide +kernel
theorem dX3_share_52 : decode cX3_share 52 = .ok (.iload 5, 2) := by decide +kernel
theorem dX3_share_54 : decode cX3_share 54 = .ok (.iload 7, 2) := by decide +kernel
theorem dX3_share_56 : decode cX3_share 56 = .ok (.iload 6, 2) := by decide +kernel
theorem dX3_share_58 : decode cX3_share 58 = .ok (.iload_n 3, 1) := by decide +kernel
theorem dX3_share_59 : decode cX3_share 59 = .ok (.iload 8, 2) := by decide +kernel
theorem dX3_share_61 : decode cX3_share 61 = .ok (.isub, 1) := by decide +kernel
theorem dX3_share_62 : decode cX3_share 62 = .ok (.iconst 1, 1) := by decide +kernel
theorem dX3_share_63 : decode cX3_share 63 = .ok (.isub, 1) := by decide +kernel
theorem dX3_share_64 : decode cX3_share 64 = .ok (.imul, 1) := by decide +kernel
theorem dX3_share_65 : decode cX3_share 65 = .ok (.isub, 1) := by decide +kernel
theorem dX3_share_66 : decode cX3_share 66 = .ok (.invokestatic 40, 3) := by decide +kernel
theorem dX3_share_69 : decode cX3_share 69 = .ok (.iastore, 1) := by decide +kernel
theorem dX3_share_70 : decode cX3_share 70 = .ok (.iload 7, 2) := by decide +kernel
theorem dX3_share_72 : decode cX3_share 72 = .ok (.aload_n 0, 1) := by decide +kernel
theorem dX3_share_73 : decode cX3_share 73 = .ok (.getfield 9, 3) := by decide +kernel
theorem dX3_share_76 : decode cX3_share 76 = .ok (.iload 8, 2) := by decide +kernel
theorem dX3_share_78 : decode cX3_share 78 = .ok (.iaload, 1) := by decide +kernel
theorem dX3_share_79 : decode cX3_share 79 = .ok (.isub, 1) := by decide +kernel
theorem dX3_share_80 : decode cX3_share 80 = .ok (.istore 7, 2) := by decide +kernel
theorem dX3_share_82 : decode cX3_share 82 = .ok (.iinc 8 1, 3) := by decide +kernel
theorem dX3_share_85 : decode cX3_share 85 = .ok (.goto (-45), 3) := by decide +kernel
theorem dX3_share_88 : decode cX3_share 88 = .ok (.return_, 1) := by decide +kernel
theorem dX4_init_0 : decode cX4_init 0 = .ok (.aload_n 0, 1) := by decide +kernel
theorem dX4_init_1 : decode cX4_init 1 = .ok (.invokespecial 3, 3) := by decide +kernel
theorem dX4_init_4 : decode cX4_init 4 = .ok (.aload_n 0, 1) := by decide +kernel
theorem dX4_init_5 : decode cX4_init 5 = .ok (.bipush 80, 2) := by decide +kernel
theorem dX4_init_7 : decode cX4_init 7 = .ok (.newarray .int, 2) := by decide +kernel
theorem dX4_init_9 : decode cX4_init 9 = .ok (.putfield 9, 3) := by decide +kernel
theorem dX4_init_12 : decode cX4_init 12 = .ok (.aload_n 0, 1) := by decide +kernel
theorem dX4_init_13 : decode cX4_init 13 = .ok (.iconst (-1), 1) := by decide +kernel
theorem dX4_init_14 : decode cX4_init 14 = .ok (.putfield 15, 3) := by decide +kernel
theorem dX4_init_17 : decode cX4_init 17 = .ok (.aload_n 0, 1) := by decide +kernel
theorem dX4_init_18 : decode cX4_init 18 = .ok (.bipush 10, 2) := by decide +kernel
theorem dX4_init_20 : decode cX4_init 20 = .ok (.newarray .int, 2) := by decide +kernel
theorem dX4_init_22 : decode cX4_init 22 = .ok (.putfield 19, 3) := by decide +kernel
theorem dX4_init_25 : decode cX4_init 25 = .ok (.aload_n 0, 1) := by decide +kernel
theorem dX4_init_26 : decode cX4_init 26 = .ok (.bipush 10, 2) := by decide +kernel
theorem dX4_init_28 : decode cX4_init 28 = .ok (.newarray .int, 2) := by decide +kernel
theorem dX4_init_30 : decode cX4_init 30 = .ok (.putfield 22, 3) := by decide +kernel
theorem dX4_init_33 : decode cX4_init 33 = .ok (.aload_n 0, 1) := by decide +kernel
theorem dX4_init_34 : decode cX4_init 34 = .ok (.bipush 10, 2) := by decide +kernel
theorem dX4_init_36 : decode cX4_init 36 = .ok (.newarray .int, 2) := by decide +kernel
theorem dX4_init_38 : decode cX4_init 38 = .ok (.putfield 25, 3) := by decide +kernel
theorem dX4_init_41 : decode cX4_init 41 = .ok (.return_, 1) := by decide +kernel
theorem dX4_append_0 : decode cX4_append 0 = .ok (.aload_n 0, 1) := by decide +kernel
theorem dX4_append_1 : decode cX4_append 1 = .ok (.getfield 28, 3) := by decide +kernel
theorem dX4_append_4 : decode cX4_append 4 = .ok (.bipush 80, 2) := by decide +kernel
theorem dX4_append_6 : decode cX4_append 6 = .ok (.if_icmp .ge 27, 3) := by decide +kernel
theorem dX4_append_9 : decode cX4_append 9 = .ok (.aload_n 0, 1) := by decide +kernel
theorem dX4_append_10 : decode cX4_append 10 = .ok (.getfield 9, 3) := by decide +kernel
theorem dX4_append_13 : decode cX4_append 13 = .ok (.aload_n 0, 1) := by decide +kernel
theorem dX4_append_14 : decode cX4_append 14 = .ok (.getfield 28, 3) := by decide +kernel
theorem dX4_append_17 : decode cX4_append 17 = .ok (.iload_n 1, 1) := by decide +kernel
theorem dX4_append_18 : decode cX4_append 18 = .ok (.iastore, 1) := by decide +kernel
theorem dX4_append_19 : decode cX4_append 19 = .ok (.aload_n 0, 1) := by decide +kernel
theorem dX4_append_20 : decode cX4_append 20 = .ok (.dup, 1) := by decide +kernel
theorem dX4_append_21 : decode cX4_append 21 = .ok (.getfield 28, 3) := by decide +kernel
theorem dX4_append_24 : decode cX4_append 24 = .ok (.iconst 1, 1) := by decide +kernel
theorem dX4_append_25 : decode cX4_append 25 = .ok (.iadd, 1) := by decide +kernel
theorem dX4_append_26 : decode cX4_append 26 = .ok (.putfield 28, 3) := by decide +kernel
theorem dX4_append_29 : decode cX4_append 29 = .ok (.aload_n 0, 1) := by decide +kernel
theorem dX4_append_30 : decode cX4_append 30 = .ok (.invokevirtual 31, 3) := by decide +kernel
theorem dX4_append_33 : decode cX4_append 33 = .ok (.return_, 1) := by decide +kernel
theorem dX4_clear_0 : decode cX4_clear 0 = .ok (.aload_n 0, 1) := by decide +kernel
theorem dX4_clear_1 : decode cX4_clear 1 = .ok (.iconst 0, 1) := by decide +kernel
theorem dX4_clear_2 : decode cX4_clear 2 = .ok (.putfield 28, 3) := by decide +kernel
theorem dX4_clear_5 : decode cX4_clear 5 = .ok (.aload_n 0, 1) := by decide +kernel
theorem dX4_clear_6 : decode cX4_clear 6 = .ok (.invokevirtual 31, 3) := by decide +kernel
theorem dX4_clear_9 : decode cX4_clear 9 = .ok (.return_, 1) := by decide +kernel
theorem dX4_master_0 : decode cX4_master 0 = .ok (.aload_n 0, 1) := by decide +kernel
theorem dX4_master_1 : decode cX4_master 1 = .ok (.getfield 25, 3) := by decide +kernel
theorem dX4_master_4 : decode cX4_master 4 = .ok (.iload_n 1, 1) := by decide +kernel
theorem dX4_master_5 : decode cX4_master 5 = .ok (.iaload, 1) := by decide +kernel
theorem dX4_master_6 : decode cX4_master 6 = .ok (.iconst 3, 1) := by decide +kernel
theorem dX4_master_7 : decode cX4_master 7 = .ok (.idiv, 1) := by decide +kernel
theorem dX4_master_8 : decode cX4_master 8 = .ok (.ireturn, 1) := by decide +kernel
theorem dX4_habit_0 : decode cX4_habit 0 = .ok (.aload_n 0, 1) := by decide +kernel
theorem dX4_habit_1 : decode cX4_habit 1 = .ok (.getfield 25, 3) := by decide +kernel
theorem dX4_habit_4 : decode cX4_habit 4 = .ok (.iload_n 1, 1) := by decide +kernel
theorem dX4_habit_5 : decode cX4_habit 5 = .ok (.iaload, 1) := by decide +kernel
theorem dX4_habit_6 : decode cX4_habit 6 = .ok (.iconst 3, 1) := by decide +kernel
theorem dX4_habit_7 : decode cX4_habit 7 = .ok (.irem, 1) := by decide +kernel
theorem dX4_habit_8 : decode cX4_habit 8 = .ok (.ireturn, 1) := by decide +kernel
theorem dX4_scan_0 : decode cX4_scan 0 = .ok (.aload_n 0, 1) := by decide +kernel
theorem dX4_scan_1 : decode cX4_scan 1 = .ok (.iconst 0, 1) := by decide +kernel
theorem dX4_scan_2 : decode cX4_scan 2 = .ok (.putfield 34, 3) := by decide +kernel
theorem dX4_scan_5 : decode cX4_scan 5 = .ok (.aload_n 0, 1) := by decide +kernel
theorem dX4_scan_6 : decode cX4_scan 6 = .ok (.iconst (-1), 1) := by decide +kernel
theorem dX4_scan_7 : decode cX4_scan 7 = .ok (.putfield 15, 3) := by decide +kernel
theorem dX4_scan_10 : decode cX4_scan 10 = .ok (.iconst 0, 1) := by decide +kernel
theorem dX4_scan_11 : decode cX4_scan 11 = .ok (.istore_n 1, 1) := by decide +kernel
theorem dX4_scan_12 : decode cX4_scan 12 = .ok (.aload_n 0, 1) := by decide +kernel
theorem dX4_scan_13 : decode cX4_scan 13 = .ok (.getfield 28, 3) := by decide +kernel
theorem dX4_scan_16 : decode cX4_scan 16 = .ok (.ifCond .le 7, 3) := by decide +kernel
theorem dX4_scan_19 : decode cX4_scan 19 = .ok (.iconst 1, 1) := by decide +kernel
theorem dX4_scan_20 : decode cX4_scan 20 = .ok (.goto 4, 3) := by decide +kernel
theorem dX4_scan_23 : decode cX4_scan 23 = .ok (.iconst 0, 1) := by decide +kernel
theorem dX4_scan_24 : decode cX4_scan 24 = .ok (.istore_n 2, 1) := by decide +kernel
theorem dX4_scan_25 : decode cX4_scan 25 = .ok (.iload_n 2, 1) := by decide +kernel
theorem dX4_scan_26 : decode cX4_scan 26 = .ok (.ifCond .eq 49, 3) := by decide +kernel
theorem dX4_scan_29 : decode cX4_scan 29 = .ok (.iload_n 1, 1) := by decide +kernel
theorem dX4_scan_30 : decode cX4_scan 30 = .ok (.bipush 10, 2) := by decide +kernel
theorem dX4_scan_32 : decode cX4_scan 32 = .ok (.if_icmp .ge 43, 3) := by decide +kernel
theorem dX4_scan_35 : decode cX4_scan 35 = .ok (.aload_n 0, 1) := by decide +kernel
theorem dX4_scan_36 : decode cX4_scan 36 = .ok (.iload_n 1, 1) := by decide +kernel
theorem dX4_scan_37 : decode cX4_scan 37 = .ok (.invokevirtual 37, 3) := by decide +kernel
theorem dX4_scan_40 : decode cX4_scan 40 = .ok (.ifCond .eq 27, 3) := by decide +kernel
theorem dX4_scan_43 : decode cX4_scan 43 = .ok (.aload_n 0, 1) := by decide +kernel
theorem dX4_scan_44 : decode cX4_scan 44 = .ok (.getfield 34, 3) := by decide +kernel
theorem dX4_scan_47 : decode cX4_scan 47 = .ok (.aload_n 0, 1) := by decide +kernel
theorem dX4_scan_48 : decode cX4_scan 48 = .ok (.getfield 28, 3) := by decide +kernel
theorem dX4_scan_51 : decode cX4_scan 51 = .ok (.if_icmp .ge 16, 3) := by decide +kernel
theorem dX4_scan_54 : decode cX4_scan 54 = .ok (.aload_n 0, 1) := by decide +kernel
theorem dX4_scan_55 : decode cX4_scan 55 = .ok (.bipush 59, 2) := by decide +kernel
theorem dX4_scan_57 : decode cX4_scan 57 = .ok (.invokevirtual 41, 3) := by decide +kernel
theorem dX4_scan_60 : decode cX4_scan 60 = .ok (.ifCond .eq 7, 3) := by decide +kernel
theorem dX4_scan_63 : decode cX4_scan 63 = .ok (.iconst 1, 1) := by decide +kernel
theorem dX4_scan_64 : decode cX4_scan 64 = .ok (.goto 4, 3) := by decide +kernel
theorem dX4_scan_67 : decode cX4_scan 67 = .ok (.iconst 0, 1) := by decide +kernel
theorem dX4_scan_68 : decode cX4_scan 68 = .ok (.istore_n 2, 1) := by decide +kernel
theorem dX4_scan_69 : decode cX4_scan 69 = .ok (.iinc 1 1, 3) := by decide +kernel
theorem dX4_scan_72 : decode cX4_scan 72 = .ok (.goto (-47), 3) := by decide +kernel
theorem dX4_scan_75 : decode cX4_scan 75 = .ok (.iload_n 2, 1) := by decide +kernel
theorem dX4_scan_76 : decode cX4_scan 76 = .ok (.ifCond .eq 12, 3) := by decide +kernel
theorem dX4_scan_79 : decode cX4_scan 79 = .ok (.aload_n 0, 1) := by decide +kernel
theorem dX4_scan_80 : decode cX4_scan 80 = .ok (.aload_n 0, 1) := by decide +kernel
theorem dX4_scan_81 : decode cX4_scan 81 = .ok (.getfield 34, 3) := by decide +kernel
theorem dX4_scan_84 : decode cX4_scan 84 = .ok (.invokevirtual 45, 3) := by decide +kernel
theorem dX4_scan_87 : decode cX4_scan 87 = .ok (.pop, 1) := by decide +kernel
theorem dX4_scan_88 : decode cX4_scan 88 = .ok (.aload_n 0, 1) := by decide +kernel
theorem dX4_scan_89 : decode cX4_scan 89 = .ok (.aload_n 0, 1) := by decide +kernel
theorem dX4_scan_90 : decode cX4_scan 90 = .ok (.getfield 15, 3) := by decide +kernel
theorem dX4_scan_93 : decode cX4_scan 93 = .ok (.iconst (-1), 1) := by decide +kernel
theorem dX4_scan_94 : decode cX4_scan 94 = .ok (.if_icmp .ne 7, 3) := by decide +kernel
theorem dX4_scan_97 : decode cX4_scan 97 = .ok (.iload_n 1, 1) := by decide +kernel
theorem dX4_scan_98 : decode cX4_scan 98 = .ok (.goto 4, 3) := by decide +kernel
theorem dX4_scan_101 : decode cX4_scan 101 = .ok (.iconst 0, 1) := by decide +kernel
theorem dX4_scan_102 : decode cX4_scan 102 = .ok (.putfield 48, 3) := by decide +kernel
theorem dX4_scan_105 : decode cX4_scan 105 = .ok (.return_, 1) := by decide +kernel
theorem dX4_takeFloor_0 : decode cX4_takeFloor 0 = .ok (.aload_n 0, 1) := by decide +kernel
theorem dX4_takeFloor_1 : decode cX4_takeFloor 1 = .ok (.bipush 99, 2) := by decide +kernel
theorem dX4_takeFloor_3 : decode cX4_takeFloor 3 = .ok (.invokevirtual 51, 3) := by decide +kernel
theorem dX4_takeFloor_6 : decode cX4_takeFloor 6 = .ok (.istore_n 2, 1) := by decide +kernel
theorem dX4_takeFloor_7 : decode cX4_takeFloor 7 = .ok (.iload_n 2, 1) := by decide +kernel
theorem dX4_takeFloor_8 : decode cX4_takeFloor 8 = .ok (.iconst (-1), 1) := by decide +kernel
theorem dX4_takeFloor_9 : decode cX4_takeFloor 9 = .ok (.if_icmp .eq 11, 3) := by decide +kernel
theorem dX4_takeFloor_12 : decode cX4_takeFloor 12 = .ok (.aload_n 0, 1) := by decide +kernel
theorem dX4_takeFloor_13 : decode cX4_takeFloor 13 = .ok (.iload_n 1, 1) := by decide +kernel
theorem dX4_takeFloor_14 : decode cX4_takeFloor 14 = .ok (.invokevirtual 55, 3) := by decide +kernel
theorem dX4_takeFloor_17 : decode cX4_takeFloor 17 = .ok (.ifCond .ne 5, 3) := by decide +kernel
theorem dX4_takeFloor_20 : decode cX4_takeFloor 20 = .ok (.iconst 0, 1) := by decide +kernel
theorem dX4_takeFloor_21 : decode cX4_takeFloor 21 = .ok (.ireturn, 1) := by decide +kernel
theorem dX4_takeFloor_22 : decode cX4_takeFloor 22 = .ok (.iconst 0, 1) := by decide +kernel
theorem dX4_takeFloor_23 : decode cX4_takeFloor 23 = .ok (.istore_n 3, 1) := by decide +kernel
theorem dX4_takeFloor_24 : decode cX4_takeFloor 24 = .ok (.aload_n 0, 1) := by decide +kernel
theorem dX4_takeFloor_25 : decode cX4_takeFloor 25 = .ok (.invokevirtual 58, 3) := by decide +kernel
theorem dX4_takeFloor_28 : decode cX4_takeFloor 28 = .ok (.bipush 43, 2) := by decide +kernel
theorem dX4_takeFloor_30 : decode cX4_takeFloor 30 = .ok (.if_icmp .ne 20, 3) := by decide +kernel
theorem dX4_takeFloor_33 : decode cX4_takeFloor 33 = .ok (.aload_n 0, 1) := by decide +kernel
theorem dX4_takeFloor_34 : decode cX4_takeFloor 34 = .ok (.dup, 1) := by decide +kernel
theorem dX4_takeFloor_35 : decode cX4_takeFloor 35 = .ok (.getfield 34, 3) := by decide +kernel
theorem dX4_takeFloor_38 : decode cX4_takeFloor 38 = .ok (.iconst 1, 1) := by decide +kernel
theorem dX4_takeFloor_39 : decode cX4_takeFloor 39 = .ok (.iadd, 1) := by decide +kernel
theorem dX4_takeFloor_40 : decode cX4_takeFloor 40 = .ok (.putfield 34, 3) := by decide +kernel
theorem dX4_takeFloor_43 : decode cX4_takeFloor 43 = .ok (.aload_n 0, 1) := by decide +kernel
theorem dX4_takeFloor_44 : decode cX4_takeFloor 44 = .ok (.bipush 11, 2) := by decide +kernel
theorem dX4_takeFloor_46 : decode cX4_takeFloor 46 = .ok (.invokevirtual 51, 3) := by decide +kernel
theorem dX4_takeFloor_49 : decode cX4_takeFloor 49 = .ok (.istore_n 3, 1) := by decide +kernel
theorem dX4_takeFloor_50 : decode cX4_takeFloor 50 = .ok (.iload_n 3, 1) := by decide +kernel
theorem dX4_takeFloor_51 : decode cX4_takeFloor 51 = .ok (.iconst (-1), 1) := by decide +kernel
theorem dX4_takeFloor_52 : decode cX4_takeFloor 52 = .ok (.if_icmp .eq 12, 3) := by decide +kernel
theorem dX4_takeFloor_55 : decode cX4_takeFloor 55 = .ok (.aload_n 0, 1) := by decide +kernel
theorem dX4_takeFloor_56 : decode cX4_takeFloor 56 = .ok (.bipush 61, 2) := by decide +kernel
theorem dX4_takeFloor_58 : decode cX4_takeFloor 58 = .ok (.invokevirtual 41, 3) := by decide +kernel
theorem dX4_takeFloor_61 : decode cX4_takeFloor 61 = .ok (.ifCond .ne 5, 3) := by decide +kernel
theorem dX4_takeFloor_64 : decode cX4_takeFloor 64 = .ok (.iconst 0, 1) := by decide +kernel
theorem dX4_takeFloor_65 : decode cX4_takeFloor 65 = .ok (.ireturn, 1) := by decide +kernel
theorem dX4_takeFloor_66 : decode cX4_takeFloor 66 = .ok (.aload_n 0, 1) := by decide +kernel
theorem dX4_takeFloor_67 : decode cX4_takeFloor 67 = .ok (.getfield 22, 3) := by decide +kernel
theorem dX4_takeFloor_70 : decode cX4_takeFloor 70 = .ok (.iload_n 1, 1) := by decide +kernel
theorem dX4_takeFloor_71 : decode cX4_takeFloor 71 = .ok (.bipush 12, 2) := by decide +kernel
theorem dX4_takeFloor_73 : decode cX4_takeFloor 73 = .ok (.iload_n 2, 1) := by decide +kernel
theorem dX4_takeFloor_74 : decode cX4_takeFloor 74 = .ok (.imul, 1) := by decide +kernel
theorem dX4_takeFloor_75 : decode cX4_takeFloor 75 = .ok (.iload_n 3, 1) := by decide +kernel
theorem dX4_takeFloor_76 : decode cX4_takeFloor 76 = .ok (.iadd, 1) := by decide +kernel
theorem dX4_takeFloor_77 : decode cX4_takeFloor 77 = .ok (.iastore, 1) := by decide +kernel
theorem dX4_takeFloor_78 : decode cX4_takeFloor 78 = .ok (.aload_n 0, 1) := by decide +kernel
theorem dX4_takeFloor_79 : decode cX4_takeFloor 79 = .ok (.iload_n 1, 1) := by decide +kernel
theorem dX4_takeFloor_80 : decode cX4_takeFloor 80 = .ok (.invokevirtual 62, 3) := by decide +kernel
theorem dX4_takeFloor_83 : decode cX4_takeFloor 83 = .ok (.ireturn, 1) := by decide +kernel
theorem dX4_takeNumber_0 : decode cX4_takeNumber 0 = .ok (.aload_n 0, 1) := by decide +kernel
theorem dX4_takeNumber_1 : decode cX4_takeNumber 1 = .ok (.getfield 34, 3) := by decide +kernel
theorem dX4_takeNumber_4 : decode cX4_takeNumber 4 = .ok (.istore_n 2, 1) := by decide +kernel
theorem dX4_takeNumber_5 : decode cX4_takeNumber 5 = .ok (.iconst 0, 1) := by decide +kernel
theorem dX4_takeNumber_6 : decode cX4_takeNumber 6 = .ok (.istore_n 3, 1) := by decide +kernel
theorem dX4_takeNumber_7 : decode cX4_takeNumber 7 = .ok (.aload_n 0, 1) := by decide +kernel
theorem dX4_takeNumber_8 : decode cX4_takeNumber 8 = .ok (.getfield 34, 3) := by decide +kernel
theorem dX4_takeNumber_11 : decode cX4_takeNumber 11 = .ok (.iload_n 2, 1) := by decide +kernel
theorem dX4_takeNumber_12 : decode cX4_takeNumber 12 = .ok (.iconst 2, 1) := by decide +kernel
theorem dX4_takeNumber_13 : decode cX4_takeNumber 13 = .ok (.iadd, 1) := by decide +kernel
theorem dX4_takeNumber_14 : decode cX4_takeNumber 14 = .ok (.if_icmp .ge 39, 3) := by decide +kernel
theorem dX4_takeNumber_17 : decode cX4_takeNumber 17 = .ok (.aload_n 0, 1) := by decide +kernel
theorem dX4_takeNumber_18 : decode cX4_takeNumber 18 = .ok (.invokevirtual 58, 3) := by decide +kernel
theorem dX4_takeNumber_21 : decode cX4_takeNumber 21 = .ok (.invokestatic 65, 3) := by decide +kernel
theorem dX4_takeNumber_24 : decode cX4_takeNumber 24 = .ok (.ifCond .eq 29, 3) := by decide +kernel
theorem dX4_takeNumber_27 : decode cX4_takeNumber 27 = .ok (.bipush 10, 2) := by decide +kernel
theorem dX4_takeNumber_29 : decode cX4_takeNumber 29 = .ok (.iload_n 3, 1) := by decide +kernel
theorem dX4_takeNumber_30 : decode cX4_takeNumber 30 = .ok (.imul, 1) := by decide +kernel
theorem dX4_takeNumber_31 : decode cX4_takeNumber 31 = .ok (.aload_n 0, 1) := by decide +kernel
theorem dX4_takeNumber_32 : decode cX4_takeNumber 32 = .ok (.invokevirtual 58, 3) := by decide +kernel
theorem dX4_takeNumber_35 : decode cX4_takeNumber 35 = .ok (.iadd, 1) := by decide +kernel
theorem dX4_takeNumber_36 : decode cX4_takeNumber 36 = .ok (.bipush 48, 2) := by decide +kernel
theorem dX4_takeNumber_38 : decode cX4_takeNumber 38 = .ok (.isub, 1) := by decide +kernel
theorem dX4_takeNumber_39 : decode cX4_takeNumber 39 = .ok (.istore_n 3, 1) := by decide +kernel
theorem dX4_takeNumber_40 : decode cX4_takeNumber 40 = .ok (.aload_n 0, 1) := by decide +kernel
theorem dX4_takeNumber_41 : decode cX4_takeNumber 41 = .ok (.dup, 1) := by decide +kernel
theorem dX4_takeNumber_42 : decode cX4_takeNumber 42 = .ok (.getfield 34, 3) := by decide +kernel
theorem dX4_takeNumber_45 : decode cX4_takeNumber 45 = .ok (.iconst 1, 1) := by decide +kernel
theorem dX4_takeNumber_46 : decode cX4_takeNumber 46 = .ok (.iadd, 1) := by decide +kernel
theorem dX4_takeNumber_47 : decode cX4_takeNumber 47 = .ok (.putfield 34, 3) := by decide +kernel
theorem dX4_takeNumber_50 : decode cX4_takeNumber 50 = .ok (.goto (-43), 3) := by decide +kernel
theorem dX4_takeNumber_53 : decode cX4_takeNumber 53 = .ok (.iload_n 3, 1) := by decide +kernel
theorem dX4_takeNumber_54 : decode cX4_takeNumber 54 = .ok (.iconst 1, 1) := by decide +kernel
theorem dX4_takeNumber_55 : decode cX4_takeNumber 55 = .ok (.iload_n 1, 1) := by decide +kernel
theorem dX4_takeNumber_56 : decode cX4_takeNumber 56 = .ok (.invokestatic 68, 3) := by decide +kernel
theorem dX4_takeNumber_59 : decode cX4_takeNumber 59 = .ok (.ifCond .ne 11, 3) := by decide +kernel
theorem dX4_takeNumber_62 : decode cX4_takeNumber 62 = .ok (.aload_n 0, 1) := by decide +kernel
theorem dX4_takeNumber_63 : decode cX4_takeNumber 63 = .ok (.iload_n 2, 1) := by decide +kernel
theorem dX4_takeNumber_64 : decode cX4_takeNumber 64 = .ok (.invokevirtual 45, 3) := by decide +kernel
theorem dX4_takeNumber_67 : decode cX4_takeNumber 67 = .ok (.pop, 1) := by decide +kernel
theorem dX4_takeNumber_68 : decode cX4_takeNumber 68 = .ok (.iconst (-1), 1) := by decide +kernel
theorem dX4_takeNumber_69 : decode cX4_takeNumber 69 = .ok (.ireturn, 1) := by decide +kernel
theorem dX4_takeNumber_70 : decode cX4_takeNumber 70 = .ok (.iload_n 3, 1) := by decide +kernel
theorem dX4_takeNumber_71 : decode cX4_takeNumber 71 = .ok (.ireturn, 1) := by decide +kernel
theorem dX4_takeUnit_0 : decode cX4_takeUnit 0 = .ok (.aload_n 0, 1) := by decide +kernel
theorem dX4_takeUnit_1 : decode cX4_takeUnit 1 = .ok (.invokevirtual 58, 3) := by decide +kernel
theorem dX4_takeUnit_4 : decode cX4_takeUnit 4 = .ok (.istore_n 2, 1) := by decide +kernel
theorem dX4_takeUnit_5 : decode cX4_takeUnit 5 = .ok (.iload_n 2, 1) := by decide +kernel
theorem dX4_takeUnit_6 : decode cX4_takeUnit 6 = .ok (.bipush 102, 2) := by decide +kernel
theorem dX4_takeUnit_8 : decode cX4_takeUnit 8 = .ok (.if_icmp .eq 24, 3) := by decide +kernel
theorem dX4_takeUnit_11 : decode cX4_takeUnit 11 = .ok (.iload_n 2, 1) := by decide +kernel
theorem dX4_takeUnit_12 : decode cX4_takeUnit 12 = .ok (.bipush 101, 2) := by decide +kernel
theorem dX4_takeUnit_14 : decode cX4_takeUnit 14 = .ok (.if_icmp .eq 18, 3) := by decide +kernel
theorem dX4_takeUnit_17 : decode cX4_takeUnit 17 = .ok (.iload_n 2, 1) := by decide +kernel
theorem dX4_takeUnit_18 : decode cX4_takeUnit 18 = .ok (.bipush 115, 2) := by decide +kernel
theorem dX4_takeUnit_20 : decode cX4_takeUnit 20 = .ok (.if_icmp .eq 12, 3) := by decide +kernel
theorem dX4_takeUnit_23 : decode cX4_takeUnit 23 = .ok (.aload_n 0, 1) := by decide +kernel
theorem dX4_takeUnit_24 : decode cX4_takeUnit 24 = .ok (.aload_n 0, 1) := by decide +kernel
theorem dX4_takeUnit_25 : decode cX4_takeUnit 25 = .ok (.getfield 34, 3) := by decide +kernel
theorem dX4_takeUnit_28 : decode cX4_takeUnit 28 = .ok (.invokevirtual 45, 3) := by decide +kernel
theorem dX4_takeUnit_31 : decode cX4_takeUnit 31 = .ok (.ireturn, 1) := by decide +kernel
theorem dX4_takeUnit_32 : decode cX4_takeUnit 32 = .ok (.aload_n 0, 1) := by decide +kernel
theorem dX4_takeUnit_33 : decode cX4_takeUnit 33 = .ok (.getfield 19, 3) := by decide +kernel
theorem dX4_takeUnit_36 : decode cX4_takeUnit 36 = .ok (.iload_n 1, 1) := by decide +kernel
theorem dX4_takeUnit_37 : decode cX4_takeUnit 37 = .ok (.iload_n 2, 1) := by decide +kernel
theorem dX4_takeUnit_38 : decode cX4_takeUnit 38 = .ok (.bipush 102, 2) := by decide +kernel
theorem dX4_takeUnit_40 : decode cX4_takeUnit 40 = .ok (.if_icmp .ne 7, 3) := by decide +kernel
theorem dX4_takeUnit_43 : decode cX4_takeUnit 43 = .ok (.iconst 0, 1) := by decide +kernel
theorem dX4_takeUnit_44 : decode cX4_takeUnit 44 = .ok (.goto 14, 3) := by decide +kernel
theorem dX4_takeUnit_47 : decode cX4_takeUnit 47 = .ok (.iload_n 2, 1) := by decide +kernel
theorem dX4_takeUnit_48 : decode cX4_takeUnit 48 = .ok (.bipush 101, 2) := by decide +kernel
theorem dX4_takeUnit_50 : decode cX4_takeUnit 50 = .ok (.if_icmp .ne 7, 3) := by decide +kernel
theorem dX4_takeUnit_53 : decode cX4_takeUnit 53 = .ok (.iconst 1, 1) := by decide +kernel
theorem dX4_takeUnit_54 : decode cX4_takeUnit 54 = .ok (.goto 4, 3) := by decide +kernel
theorem dX4_takeUnit_57 : decode cX4_takeUnit 57 = .ok (.iconst 2, 1) := by decide +kernel
theorem dX4_takeUnit_58 : decode cX4_takeUnit 58 = .ok (.iastore, 1) := by decide +kernel
theorem dX4_takeUnit_59 : decode cX4_takeUnit 59 = .ok (.aload_n 0, 1) := by decide +kernel
theorem dX4_takeUnit_60 : decode cX4_takeUnit 60 = .ok (.dup, 1) := by decide +kernel
theorem dX4_takeUnit_61 : decode cX4_takeUnit 61 = .ok (.getfield 34, 3) := by decide +kernel
theorem dX4_takeUnit_64 : decode cX4_takeUnit 64 = .ok (.iconst 1, 1) := by decide +kernel
theorem dX4_takeUnit_65 : decode cX4_takeUnit 65 = .ok (.iadd, 1) := by decide +kernel
theorem dX4_takeUnit_66 : decode cX4_takeUnit 66 = .ok (.putfield 34, 3) := by decide +kernel
theorem dX4_takeUnit_69 : decode cX4_takeUnit 69 = .ok (.iconst 1, 1) := by decide +kernel
theorem dX4_takeUnit_70 : decode cX4_takeUnit 70 = .ok (.ireturn, 1) := by decide +kernel
theorem dX4_takeWay_0 : decode cX4_takeWay 0 = .ok (.aload_n 0, 1) := by decide +kernel
theorem dX4_takeWay_1 : decode cX4_takeWay 1 = .ok (.invokevirtual 58, 3) := by decide +kernel
theorem dX4_takeWay_4 : decode cX4_takeWay 4 = .ok (.bipush 48, 2) := by decide +kernel
theorem dX4_takeWay_6 : decode cX4_takeWay 6 = .ok (.isub, 1) := by decide +kernel
theorem dX4_takeWay_7 : decode cX4_takeWay 7 = .ok (.istore_n 2, 1) := by decide +kernel
theorem dX4_takeWay_8 : decode cX4_takeWay 8 = .ok (.iload_n 2, 1) := by decide +kernel
theorem dX4_takeWay_9 : decode cX4_takeWay 9 = .ok (.iconst 0, 1) := by decide +kernel
theorem dX4_takeWay_10 : decode cX4_takeWay 10 = .ok (.bipush 8, 2) := by decide +kernel
theorem dX4_takeWay_12 : decode cX4_takeWay 12 = .ok (.invokestatic 68, 3) := by decide +kernel
theorem dX4_takeWay_15 : decode cX4_takeWay 15 = .ok (.ifCond .ne 12, 3) := by decide +kernel
theorem dX4_takeWay_18 : decode cX4_takeWay 18 = .ok (.aload_n 0, 1) := by decide +kernel
theorem dX4_takeWay_19 : decode cX4_takeWay 19 = .ok (.aload_n 0, 1) := by decide +kernel
theorem dX4_takeWay_20 : decode cX4_takeWay 20 = .ok (.getfield 34, 3) := by decide +kernel
theorem dX4_takeWay_23 : decode cX4_takeWay 23 = .ok (.invokevirtual 45, 3) := by decide +kernel
theorem dX4_takeWay_26 : decode cX4_takeWay 26 = .ok (.ireturn, 1) := by decide +kernel
theorem dX4_takeWay_27 : decode cX4_takeWay 27 = .ok (.aload_n 0, 1) := by decide +kernel
theorem dX4_takeWay_28 : decode cX4_takeWay 28 = .ok (.getfield 25, 3) := by decide +kernel
theorem dX4_takeWay_31 : decode cX4_takeWay 31 = .ok (.iload_n 1, 1) := by decide +kernel
theorem dX4_takeWay_32 : decode cX4_takeWay 32 = .ok (.iload_n 2, 1) := by decide +kernel
theorem dX4_takeWay_33 : decode cX4_takeWay 33 = .ok (.iastore, 1) := by decide +kernel
theorem dX4_takeWay_34 : decode cX4_takeWay 34 = .ok (.aload_n 0, 1) := by decide +kernel
theorem dX4_takeWay_35 : decode cX4_takeWay 35 = .ok (.dup, 1) := by decide +kernel
theorem dX4_takeWay_36 : decode cX4_takeWay 36 = .ok (.getfield 34, 3) := by decide +kernel
theorem dX4_takeWay_39 : decode cX4_takeWay 39 = .ok (.iconst 1, 1) := by decide +kernel
theorem dX4_takeWay_40 : decode cX4_takeWay 40 = .ok (.iadd, 1) := by decide +kernel
theorem dX4_takeWay_41 : decode cX4_takeWay 41 = .ok (.putfield 34, 3) := by decide +kernel
theorem dX4_takeWay_44 : decode cX4_takeWay 44 = .ok (.iconst 1, 1) := by decide +kernel
theorem dX4_takeWay_45 : decode cX4_takeWay 45 = .ok (.ireturn, 1) := by decide +kernel
theorem dX4_takeSign_0 : decode cX4_takeSign 0 = .ok (.aload_n 0, 1) := by decide +kernel
theorem dX4_takeSign_1 : decode cX4_takeSign 1 = .ok (.invokevirtual 58, 3) := by decide +kernel
theorem dX4_takeSign_4 : decode cX4_takeSign 4 = .ok (.iload_n 1, 1) := by decide +kernel
theorem dX4_takeSign_5 : decode cX4_takeSign 5 = .ok (.if_icmp .eq 12, 3) := by decide +kernel
theorem dX4_takeSign_8 : decode cX4_takeSign 8 = .ok (.aload_n 0, 1) := by decide +kernel
theorem dX4_takeSign_9 : decode cX4_takeSign 9 = .ok (.aload_n 0, 1) := by decide +kernel
theorem dX4_takeSign_10 : decode cX4_takeSign 10 = .ok (.getfield 34, 3) := by decide +kernel
theorem dX4_takeSign_13 : decode cX4_takeSign 13 = .ok (.invokevirtual 45, 3) := by decide +kernel
theorem dX4_takeSign_16 : decode cX4_takeSign 16 = .ok (.ireturn, 1) := by decide +kernel
theorem dX4_takeSign_17 : decode cX4_takeSign 17 = .ok (.aload_n 0, 1) := by decide +kernel
theorem dX4_takeSign_18 : decode cX4_takeSign 18 = .ok (.dup, 1) := by decide +kernel
theorem dX4_takeSign_19 : decode cX4_takeSign 19 = .ok (.getfield 34, 3) := by decide +kernel
theorem dX4_takeSign_22 : decode cX4_takeSign 22 = .ok (.iconst 1, 1) := by decide +kernel
theorem dX4_takeSign_23 : decode cX4_takeSign 23 = .ok (.iadd, 1) := by decide +kernel
theorem dX4_takeSign_24 : decode cX4_takeSign 24 = .ok (.putfield 34, 3) := by decide +kernel
theorem dX4_takeSign_27 : decode cX4_takeSign 27 = .ok (.iconst 1, 1) := by decide +kernel
theorem dX4_takeSign_28 : decode cX4_takeSign 28 = .ok (.ireturn, 1) := by decide +kernel
theorem dX4_sign_0 : decode cX4_sign 0 = .ok (.aload_n 0, 1) := by decide +kernel
theorem dX4_sign_1 : decode cX4_sign 1 = .ok (.getfield 34, 3) := by decide +kernel
theorem dX4_sign_4 : decode cX4_sign 4 = .ok (.aload_n 0, 1) := by decide +kernel
theorem dX4_sign_5 : decode cX4_sign 5 = .ok (.getfield 28, 3) := by decide +kernel
theorem dX4_sign_8 : decode cX4_sign 8 = .ok (.if_icmp .ge 15, 3) := by decide +kernel
theorem dX4_sign_11 : decode cX4_sign 11 = .ok (.aload_n 0, 1) := by decide +kernel
theorem dX4_sign_12 : decode cX4_sign 12 = .ok (.getfield 9, 3) := by decide +kernel
theorem dX4_sign_15 : decode cX4_sign 15 = .ok (.aload_n 0, 1) := by decide +kernel
theorem dX4_sign_16 : decode cX4_sign 16 = .ok (.getfield 34, 3) := by decide +kernel
theorem dX4_sign_19 : decode cX4_sign 19 = .ok (.iaload, 1) := by decide +kernel
theorem dX4_sign_20 : decode cX4_sign 20 = .ok (.goto 4, 3) := by decide +kernel
theorem dX4_sign_23 : decode cX4_sign 23 = .ok (.iconst (-1), 1) := by decide +kernel
theorem dX4_sign_24 : decode cX4_sign 24 = .ok (.ireturn, 1) := by decide +kernel
theorem dX4_isFigure_0 : decode cX4_isFigure 0 = .ok (.iload_n 0, 1) := by decide +kernel
theorem dX4_isFigure_1 : decode cX4_isFigure 1 = .ok (.bipush 48, 2) := by decide +kernel
theorem dX4_isFigure_3 : decode cX4_isFigure 3 = .ok (.bipush 57, 2) := by decide +kernel
theorem dX4_isFigure_5 : decode cX4_isFigure 5 = .ok (.invokestatic 68, 3) := by decide +kernel
theorem dX4_isFigure_8 : decode cX4_isFigure 8 = .ok (.ireturn, 1) := by decide +kernel
theorem dX4_fail_0 : decode cX4_fail 0 = .ok (.aload_n 0, 1) := by decide +kernel
theorem dX4_fail_1 : decode cX4_fail 1 = .ok (.iload_n 1, 1) := by decide +kernel
theorem dX4_fail_2 : decode cX4_fail 2 = .ok (.putfield 15, 3) := by decide +kernel
theorem dX4_fail_5 : decode cX4_fail 5 = .ok (.iconst 0, 1) := by decide +kernel
theorem dX4_fail_6 : decode cX4_fail 6 = .ok (.ireturn, 1) := by decide +kernel
theorem dX5_init_0 : decode cX5_init 0 = .ok (.aload_n 0, 1) := by decide +kernel
theorem dX5_init_1 : decode cX5_init 1 = .ok (.invokespecial 3, 3) := by decide +kernel
theorem dX5_init_4 : decode cX5_init 4 = .ok (.aload_n 0, 1) := by decide +kernel
theorem dX5_init_5 : decode cX5_init 5 = .ok (.bipush 11, 2) := by decide +kernel
theorem dX5_init_7 : decode cX5_init 7 = .ok (.newarray .int, 2) := by decide +kernel
theorem dX5_init_9 : decode cX5_init 9 = .ok (.putfield 9, 3) := by decide +kernel
theorem dX5_init_12 : decode cX5_init 12 = .ok (.return_, 1) := by decide +kernel
theorem dX5_spread_0 : decode cX5_spread 0 = .ok (.aload_n 0, 1) := by decide +kernel
theorem dX5_spread_1 : decode cX5_spread 1 = .ok (.getfield 9, 3) := by decide +kernel
theorem dX5_spread_4 : decode cX5_spread 4 = .ok (.iload_n 1, 1) := by decide +kernel
theorem dX5_spread_5 : decode cX5_spread 5 = .ok (.iaload, 1) := by decide +kernel
theorem dX5_spread_6 : decode cX5_spread 6 = .ok (.istore_n 3, 1) := by decide +kernel
theorem dX5_spread_7 : decode cX5_spread 7 = .ok (.iload_n 3, 1) := by decide +kernel
theorem dX5_spread_8 : decode cX5_spread 8 = .ok (.istore 4, 2) := by decide +kernel
theorem dX5_spread_10 : decode cX5_spread 10 = .ok (.iload_n 1, 1) := by decide +kernel
theorem dX5_spread_11 : decode cX5_spread 11 = .ok (.iconst 1, 1) := by decide +kernel
theorem dX5_spread_12 : decode cX5_spread 12 = .ok (.iadd, 1) := by decide +kernel
theorem dX5_spread_13 : decode cX5_spread 13 = .ok (.istore 5, 2) := by decide +kernel
theorem dX5_spread_15 : decode cX5_spread 15 = .ok (.iload 5, 2) := by decide +kernel
theorem dX5_spread_17 : decode cX5_spread 17 = .ok (.iload_n 2, 1) := by decide +kernel
theorem dX5_spread_18 : decode cX5_spread 18 = .ok (.if_icmp .gt 35, 3) := by decide +kernel
theorem dX5_spread_21 : decode cX5_spread 21 = .ok (.iload_n 3, 1) := by decide +kernel
theorem dX5_spread_22 : decode cX5_spread 22 = .ok (.aload_n 0, 1) := by decide +kernel
theorem dX5_spread_23 : decode cX5_spread 23 = .ok (.getfield 9, 3) := by decide +kernel
theorem dX5_spread_26 : decode cX5_spread 26 = .ok (.iload 5, 2) := by decide +kernel
theorem dX5_spread_28 : decode cX5_spread 28 = .ok (.iaload, 1) := by decide +kernel
theorem dX5_spread_29 : decode cX5_spread 29 = .ok (.invokestatic 15, 3) := by decide +kernel
theorem dX5_spread_32 : decode cX5_spread 32 = .ok (.istore_n 3, 1) := by decide +kernel
theorem dX5_spread_33 : decode cX5_spread 33 = .ok (.iload 4, 2) := by decide +kernel
theorem dX5_spread_35 : decode cX5_spread 35 = .ok (.aload_n 0, 1) := by decide +kernel
theorem dX5_spread_36 : decode cX5_spread 36 = .ok (.getfield 9, 3) := by decide +kernel
theorem dX5_spread_39 : decode cX5_spread 39 = .ok (.iload 5, 2) := by decide +kernel
theorem dX5_spread_41 : decode cX5_spread 41 = .ok (.iaload, 1) := by decide +kernel
theorem dX5_spread_42 : decode cX5_spread 42 = .ok (.invokestatic 21, 3) := by decide +kernel
theorem dX5_spread_45 : decode cX5_spread 45 = .ok (.istore 4, 2) := by decide +kernel
theorem dX5_spread_47 : decode cX5_spread 47 = .ok (.iinc 5 1, 3) := by decide +kernel
theorem dX5_spread_50 : decode cX5_spread 50 = .ok (.goto (-35), 3) := by decide +kernel
theorem dX5_spread_53 : decode cX5_spread 53 = .ok (.iload 4, 2) := by decide +kernel
theorem dX5_spread_55 : decode cX5_spread 55 = .ok (.iload_n 3, 1) := by decide +kernel
theorem dX5_spread_56 : decode cX5_spread 56 = .ok (.isub, 1) := by decide +kernel
theorem dX5_spread_57 : decode cX5_spread 57 = .ok (.ireturn, 1) := by decide +kernel
theorem dX5_lengthFrom_0 : decode cX5_lengthFrom 0 = .ok (.iload_n 1, 1) := by decide +kernel
theorem dX5_lengthFrom_1 : decode cX5_lengthFrom 1 = .ok (.istore 4, 2) := by decide +kernel
theorem dX5_lengthFrom_3 : decode cX5_lengthFrom 3 = .ok (.iload 4, 2) := by decide +kernel
theorem dX5_lengthFrom_5 : decode cX5_lengthFrom 5 = .ok (.iload_n 2, 1) := by decide +kernel
theorem dX5_lengthFrom_6 : decode cX5_lengthFrom 6 = .ok (.if_icmp .gt 20, 3) := by decide +kernel
theorem dX5_lengthFrom_9 : decode cX5_lengthFrom 9 = .ok (.aload_n 0, 1) := by decide +kernel
theorem dX5_lengthFrom_10 : decode cX5_lengthFrom 10 = .ok (.iload_n 1, 1) := by decide +kernel
theorem dX5_lengthFrom_11 : decode cX5_lengthFrom 11 = .ok (.iload 4, 2) := by decide +kernel
theorem dX5_lengthFrom_13 : decode cX5_lengthFrom 13 = .ok (.invokevirtual 24, 3) := by decide +kernel
theorem dX5_lengthFrom_16 : decode cX5_lengthFrom 16 = .ok (.iload_n 3, 1) := by decide +kernel
theorem dX5_lengthFrom_17 : decode cX5_lengthFrom 17 = .ok (.if_icmp .gt 9, 3) := by decide +kernel
theorem dX5_lengthFrom_20 : decode cX5_lengthFrom 20 = .ok (.iinc 4 1, 3) := by decide +kernel
theorem dX5_lengthFrom_23 : decode cX5_lengthFrom 23 = .ok (.goto (-20), 3) := by decide +kernel
theorem dX5_lengthFrom_26 : decode cX5_lengthFrom 26 = .ok (.iload 4, 2) := by decide +kernel
theorem dX5_lengthFrom_28 : decode cX5_lengthFrom 28 = .ok (.iload_n 1, 1) := by decide +kernel
theorem dX5_lengthFrom_29 : decode cX5_lengthFrom 29 = .ok (.isub, 1) := by decide +kernel
theorem dX5_lengthFrom_30 : decode cX5_lengthFrom 30 = .ok (.ireturn, 1) := by decide +kernel
theorem dX6_init_0 : decode cX6_init 0 = .ok (.aload_n 0, 1) := by decide +kernel
theorem dX6_init_1 : decode cX6_init 1 = .ok (.invokespecial 3, 3) := by decide +kernel
theorem dX6_init_4 : decode cX6_init 4 = .ok (.aload_n 0, 1) := by decide +kernel
theorem dX6_init_5 : decode cX6_init 5 = .ok (.bipush 48, 2) := by decide +kernel
theorem dX6_init_7 : decode cX6_init 7 = .ok (.newarray .int, 2) := by decide +kernel
theorem dX6_init_9 : decode cX6_init 9 = .ok (.putfield 9, 3) := by decide +kernel
theorem dX6_init_12 : decode cX6_init 12 = .ok (.aload_n 0, 1) := by decide +kernel
theorem dX6_init_13 : decode cX6_init 13 = .ok (.iconst (-1), 1) := by decide +kernel
theorem dX6_init_14 : decode cX6_init 14 = .ok (.putfield 15, 3) := by decide +kernel
theorem dX6_init_17 : decode cX6_init 17 = .ok (.return_, 1) := by decide +kernel
theorem dX6_isLost_0 : decode cX6_isLost 0 = .ok (.aload_n 0, 1) := by decide +kernel
theorem dX6_isLost_1 : decode cX6_isLost 1 = .ok (.getfield 15, 3) := by decide +kernel
theorem dX6_isLost_4 : decode cX6_isLost 4 = .ok (.iconst (-1), 1) := by decide +kernel
theorem dX6_isLost_5 : decode cX6_isLost 5 = .ok (.if_icmp .ne 7, 3) := by decide +kernel
theorem dX6_isLost_8 : decode cX6_isLost 8 = .ok (.iconst 1, 1) := by decide +kernel
theorem dX6_isLost_9 : decode cX6_isLost 9 = .ok (.goto 4, 3) := by decide +kernel
theorem dX6_isLost_12 : decode cX6_isLost 12 = .ok (.iconst 0, 1) := by decide +kernel
theorem dX6_isLost_13 : decode cX6_isLost 13 = .ok (.ireturn, 1) := by decide +kernel
theorem dX6_renew_0 : decode cX6_renew 0 = .ok (.aload_n 0, 1) := by decide +kernel
theorem dX6_renew_1 : decode cX6_renew 1 = .ok (.iload_n 1, 1) := by decide +kernel
theorem dX6_renew_2 : decode cX6_renew 2 = .ok (.putfield 15, 3) := by decide +kernel
theorem dX6_renew_5 : decode cX6_renew 5 = .ok (.aload_n 0, 1) := by decide +kernel
theorem dX6_renew_6 : decode cX6_renew 6 = .ok (.iload_n 2, 1) := by decide +kernel
theorem dX6_renew_7 : decode cX6_renew 7 = .ok (.putfield 19, 3) := by decide +kernel
theorem dX6_renew_10 : decode cX6_renew 10 = .ok (.aload_n 0, 1) := by decide +kernel
theorem dX6_renew_11 : decode cX6_renew 11 = .ok (.getfield 9, 3) := by decide +kernel
theorem dX6_renew_14 : decode cX6_renew 14 = .ok (.iconst 0, 1) := by decide +kernel
theorem dX6_renew_15 : decode cX6_renew 15 = .ok (.invokestatic 22, 3) := by decide +kernel
theorem dX6_renew_18 : decode cX6_renew 18 = .ok (.return_, 1) := by decide +kernel
theorem dX6_hasRun_0 : decode cX6_hasRun 0 = .ok (.iload_n 1, 1) := by decide +kernel
theorem dX6_hasRun_1 : decode cX6_hasRun 1 = .ok (.ifCond .lt 21, 3) := by decide +kernel
theorem dX6_hasRun_4 : decode cX6_hasRun 4 = .ok (.iload_n 2, 1) := by decide +kernel
theorem dX6_hasRun_5 : decode cX6_hasRun 5 = .ok (.ifCond .lt 17, 3) := by decide +kernel
theorem dX6_hasRun_8 : decode cX6_hasRun 8 = .ok (.iload_n 2, 1) := by decide +kernel
theorem dX6_hasRun_9 : decode cX6_hasRun 9 = .ok (.aload_n 0, 1) := by decide +kernel
theorem dX6_hasRun_10 : decode cX6_hasRun 10 = .ok (.getfield 19, 3) := by decide +kernel
theorem dX6_hasRun_13 : decode cX6_hasRun 13 = .ok (.iload_n 1, 1) := by decide +kernel
theorem dX6_hasRun_14 : decode cX6_hasRun 14 = .ok (.isub, 1) := by decide +kernel
theorem dX6_hasRun_15 : decode cX6_hasRun 15 = .ok (.if_icmp .gt 7, 3) := by decide +kernel
theorem dX6_hasRun_18 : decode cX6_hasRun 18 = .ok (.iconst 1, 1) := by decide +kernel
theorem dX6_hasRun_19 : decode cX6_hasRun 19 = .ok (.goto 4, 3) := by decide +kernel
theorem dX6_hasRun_22 : decode cX6_hasRun 22 = .ok (.iconst 0, 1) := by decide +kernel
theorem dX6_hasRun_23 : decode cX6_hasRun 23 = .ok (.ireturn, 1) := by decide +kernel
theorem dX6_store_0 : decode cX6_store 0 = .ok (.iload_n 1, 1) := by decide +kernel
theorem dX6_store_1 : decode cX6_store 1 = .ok (.iconst 0, 1) := by decide +kernel
theorem dX6_store_2 : decode cX6_store 2 = .ok (.aload_n 0, 1) := by decide +kernel
theorem dX6_store_3 : decode cX6_store 3 = .ok (.getfield 19, 3) := by decide +kernel
theorem dX6_store_6 : decode cX6_store 6 = .ok (.iconst 1, 1) := by decide +kernel
theorem dX6_store_7 : decode cX6_store 7 = .ok (.isub, 1) := by decide +kernel
theorem dX6_store_8 : decode cX6_store 8 = .ok (.invokestatic 28, 3) := by decide +kernel
theorem dX6_store_11 : decode cX6_store 11 = .ok (.ifCond .eq 35, 3) := by decide +kernel
theorem dX6_store_14 : decode cX6_store 14 = .ok (.aload_n 0, 1) := by decide +kernel
theorem dX6_store_15 : decode cX6_store 15 = .ok (.getfield 9, 3) := by decide +kernel
theorem dX6_store_18 : decode cX6_store 18 = .ok (.iload_n 1, 1) := by decide +kernel
theorem dX6_store_19 : decode cX6_store 19 = .ok (.aload_n 0, 1) := by decide +kernel
theorem dX6_store_20 : decode cX6_store 20 = .ok (.getfield 15, 3) := by decide +kernel
theorem dX6_store_23 : decode cX6_store 23 = .ok (.ifCond .ne 8, 3) := by decide +kernel
theorem dX6_store_26 : decode cX6_store 26 = .ok (.iload_n 2, 1) := by decide +kernel
theorem dX6_store_27 : decode cX6_store 27 = .ok (.i2b, 1) := by decide +kernel
theorem dX6_store_28 : decode cX6_store 28 = .ok (.goto 17, 3) := by decide +kernel
theorem dX6_store_31 : decode cX6_store 31 = .ok (.aload_n 0, 1) := by decide +kernel
theorem dX6_store_32 : decode cX6_store 32 = .ok (.getfield 15, 3) := by decide +kernel
theorem dX6_store_35 : decode cX6_store 35 = .ok (.iconst 1, 1) := by decide +kernel
theorem dX6_store_36 : decode cX6_store 36 = .ok (.if_icmp .ne 8, 3) := by decide +kernel
theorem dX6_store_39 : decode cX6_store 39 = .ok (.iload_n 2, 1) := by decide +kernel
theorem dX6_store_40 : decode cX6_store 40 = .ok (.i2s, 1) := by decide +kernel
theorem dX6_store_41 : decode cX6_store 41 = .ok (.goto 4, 3) := by decide +kernel
theorem dX6_store_44 : decode cX6_store 44 = .ok (.iload_n 2, 1) := by decide +kernel
theorem dX6_store_45 : decode cX6_store 45 = .ok (.iastore, 1) := by decide +kernel
theorem dX6_store_46 : decode cX6_store 46 = .ok (.return_, 1) := by decide +kernel
theorem dX7_init_0 : decode cX7_init 0 = .ok (.aload_n 0, 1) := by decide +kernel
theorem dX7_init_1 : decode cX7_init 1 = .ok (.invokespecial 3, 3) := by decide +kernel
theorem dX7_init_4 : decode cX7_init 4 = .ok (.aload_n 0, 1) := by decide +kernel
theorem dX7_init_5 : decode cX7_init 5 = .ok (.bipush 10, 2) := by decide +kernel
theorem dX7_init_7 : decode cX7_init 7 = .ok (.newarray .int, 2) := by decide +kernel
theorem dX7_init_9 : decode cX7_init 9 = .ok (.putfield 9, 3) := by decide +kernel
theorem dX7_init_12 : decode cX7_init 12 = .ok (.aload_n 0, 1) := by decide +kernel
theorem dX7_init_13 : decode cX7_init 13 = .ok (.bipush 10, 2) := by decide +kernel
theorem dX7_init_15 : decode cX7_init 15 = .ok (.newarray .int, 2) := by decide +kernel
theorem dX7_init_17 : decode cX7_init 17 = .ok (.putfield 15, 3) := by decide +kernel
theorem dX7_init_20 : decode cX7_init 20 = .ok (.aload_n 0, 1) := by decide +kernel
theorem dX7_init_21 : decode cX7_init 21 = .ok (.bipush 10, 2) := by decide +kernel
theorem dX7_init_23 : decode cX7_init 23 = .ok (.newarray .int, 2) := by decide +kernel
theorem dX7_init_25 : decode cX7_init 25 = .ok (.putfield 18, 3) := by decide +kernel
theorem dX7_init_28 : decode cX7_init 28 = .ok (.aload_n 0, 1) := by decide +kernel
theorem dX7_init_29 : decode cX7_init 29 = .ok (.bipush 11, 2) := by decide +kernel
theorem dX7_init_31 : decode cX7_init 31 = .ok (.newarray .int, 2) := by decide +kernel
theorem dX7_init_33 : decode cX7_init 33 = .ok (.putfield 21, 3) := by decide +kernel
theorem dX7_init_36 : decode cX7_init 36 = .ok (.aload_n 0, 1) := by decide +kernel
theorem dX7_init_37 : decode cX7_init 37 = .ok (.bipush 11, 2) := by decide +kernel
theorem dX7_init_39 : decode cX7_init 39 = .ok (.newarray .int, 2) := by decide +kernel
theorem dX7_init_41 : decode cX7_init 41 = .ok (.putfield 24, 3) := by decide +kernel
theorem dX7_init_44 : decode cX7_init 44 = .ok (.aload_n 0, 1) := by decide +kernel
theorem dX7_init_45 : decode cX7_init 45 = .ok (.aload_n 1, 1) := by decide +kernel
theorem dX7_init_46 : decode cX7_init 46 = .ok (.putfield 27, 3) := by decide +kernel
theorem dX7_init_49 : decode cX7_init 49 = .ok (.aload_n 0, 1) := by decide +kernel
theorem dX7_init_50 : decode cX7_init 50 = .ok (.aload_n 2, 1) := by decide +kernel
theorem dX7_init_51 : decode cX7_init 51 = .ok (.putfield 31, 3) := by decide +kernel
theorem dX7_init_54 : decode cX7_init 54 = .ok (.return_, 1) := by decide +kernel
theorem dX7_reckon_0 : decode cX7_reckon 0 = .ok (.iconst 0, 1) := by decide +kernel
theorem dX7_reckon_1 : decode cX7_reckon 1 = .ok (.istore_n 1, 1) := by decide +kernel
theorem dX7_reckon_2 : decode cX7_reckon 2 = .ok (.iload_n 1, 1) := by decide +kernel
theorem dX7_reckon_3 : decode cX7_reckon 3 = .ok (.aload_n 0, 1) := by decide +kernel
theorem dX7_reckon_4 : decode cX7_reckon 4 = .ok (.getfield 31, 3) := by decide +kernel
theorem dX7_reckon_7 : decode cX7_reckon 7 = .ok (.getfield 35, 3) := by decide +kernel
theorem dX7_reckon_10 : decode cX7_reckon 10 = .ok (.if_icmp .ge 121, 3) := by decide +kernel
theorem dX7_reckon_13 : decode cX7_reckon 13 = .ok (.aload_n 0, 1) := by decide +kernel
theorem dX7_reckon_14 : decode cX7_reckon 14 = .ok (.getfield 9, 3) := by decide +kernel
theorem dX7_reckon_17 : decode cX7_reckon 17 = .ok (.iload_n 1, 1) := by decide +kernel
theorem dX7_reckon_18 : decode cX7_reckon 18 = .ok (.aload_n 0, 1) := by decide +kernel
theorem dX7_reckon_19 : decode cX7_reckon 19 = .ok (.getfield 27, 3) := by decide +kernel
theorem dX7_reckon_22 : decode cX7_reckon 22 = .ok (.getfield 41, 3) := by decide +kernel
theorem dX7_reckon_25 : decode cX7_reckon 25 = .ok (.aload_n 0, 1) := by decide +kernel
theorem dX7_reckon_26 : decode cX7_reckon 26 = .ok (.getfield 31, 3) := by decide +kernel
theorem dX7_reckon_29 : decode cX7_reckon 29 = .ok (.getfield 46, 3) := by decide +kernel
theorem dX7_reckon_32 : decode cX7_reckon 32 = .ok (.iload_n 1, 1) := by decide +kernel
theorem dX7_reckon_33 : decode cX7_reckon 33 = .ok (.iaload, 1) := by decide +kernel
theorem dX7_reckon_34 : decode cX7_reckon 34 = .ok (.iaload, 1) := by decide +kernel
theorem dX7_reckon_35 : decode cX7_reckon 35 = .ok (.aload_n 0, 1) := by decide +kernel
theorem dX7_reckon_36 : decode cX7_reckon 36 = .ok (.getfield 31, 3) := by decide +kernel
theorem dX7_reckon_39 : decode cX7_reckon 39 = .ok (.getfield 49, 3) := by decide +kernel
theorem dX7_reckon_42 : decode cX7_reckon 42 = .ok (.iload_n 1, 1) := by decide +kernel
theorem dX7_reckon_43 : decode cX7_reckon 43 = .ok (.iaload, 1) := by decide +kernel
theorem dX7_reckon_44 : decode cX7_reckon 44 = .ok (.imul, 1) := by decide +kernel
theorem dX7_reckon_45 : decode cX7_reckon 45 = .ok (.bipush 12, 2) := by decide +kernel
theorem dX7_reckon_47 : decode cX7_reckon 47 = .ok (.idiv, 1) := by decide +kernel
theorem dX7_reckon_48 : decode cX7_reckon 48 = .ok (.iastore, 1) := by decide +kernel
theorem dX7_reckon_49 : decode cX7_reckon 49 = .ok (.aload_n 0, 1) := by decide +kernel
theorem dX7_reckon_50 : decode cX7_reckon 50 = .ok (.getfield 15, 3) := by decide +kernel
theorem dX7_reckon_53 : decode cX7_reckon 53 = .ok (.iload_n 1, 1) := by decide +kernel
theorem dX7_reckon_54 : decode cX7_reckon 54 = .ok (.aload_n 0, 1) := by decide +kernel
theorem dX7_reckon_55 : decode cX7_reckon 55 = .ok (.getfield 27, 3) := by decide +kernel
theorem dX7_reckon_58 : decode cX7_reckon 58 = .ok (.aload_n 0, 1) := by decide +kernel
theorem dX7_reckon_59 : decode cX7_reckon 59 = .ok (.getfield 9, 3) := by decide +kernel
theorem dX7_reckon_62 : decode cX7_reckon 62 = .ok (.iload_n 1, 1) := by decide +kernel
theorem dX7_reckon_63 : decode cX7_reckon 63 = .ok (.iaload, 1) := by decide +kernel
theorem dX7_reckon_64 : decode cX7_reckon 64 = .ok (.aload_n 0, 1) := by decide +kernel
theorem dX7_reckon_65 : decode cX7_reckon 65 = .ok (.getfield 31, 3) := by decide +kernel
theorem dX7_reckon_68 : decode cX7_reckon 68 = .ok (.iload_n 1, 1) := by decide +kernel
theorem dX7_reckon_69 : decode cX7_reckon 69 = .ok (.invokevirtual 52, 3) := by decide +kernel
theorem dX7_reckon_72 : decode cX7_reckon 72 = .ok (.aload_n 0, 1) := by decide +kernel
theorem dX7_reckon_73 : decode cX7_reckon 73 = .ok (.getfield 31, 3) := by decide +kernel
theorem dX7_reckon_76 : decode cX7_reckon 76 = .ok (.iload_n 1, 1) := by decide +kernel
theorem dX7_reckon_77 : decode cX7_reckon 77 = .ok (.invokevirtual 56, 3) := by decide +kernel
theorem dX7_reckon_80 : decode cX7_reckon 80 = .ok (.invokevirtual 59, 3) := by decide +kernel
theorem dX7_reckon_83 : decode cX7_reckon 83 = .ok (.iastore, 1) := by decide +kernel
theorem dX7_reckon_84 : decode cX7_reckon 84 = .ok (.aload_n 0, 1) := by decide +kernel
theorem dX7_reckon_85 : decode cX7_reckon 85 = .ok (.getfield 21, 3) := by decide +kernel
theorem dX7_reckon_88 : decode cX7_reckon 88 = .ok (.iload_n 1, 1) := by decide +kernel
theorem dX7_reckon_89 : decode cX7_reckon 89 = .ok (.iconst 1, 1) := by decide +kernel
theorem dX7_reckon_90 : decode cX7_reckon 90 = .ok (.iadd, 1) := by decide +kernel
theorem dX7_reckon_91 : decode cX7_reckon 91 = .ok (.aload_n 0, 1) := by decide +kernel
theorem dX7_reckon_92 : decode cX7_reckon 92 = .ok (.getfield 21, 3) := by decide +kernel
theorem dX7_reckon_95 : decode cX7_reckon 95 = .ok (.iload_n 1, 1) := by decide +kernel
theorem dX7_reckon_96 : decode cX7_reckon 96 = .ok (.iaload, 1) := by decide +kernel
theorem dX7_reckon_97 : decode cX7_reckon 97 = .ok (.aload_n 0, 1) := by decide +kernel
theorem dX7_reckon_98 : decode cX7_reckon 98 = .ok (.iload_n 1, 1) := by decide +kernel
theorem dX7_reckon_99 : decode cX7_reckon 99 = .ok (.invokevirtual 63, 3) := by decide +kernel
theorem dX7_reckon_102 : decode cX7_reckon 102 = .ok (.iadd, 1) := by decide +kernel
theorem dX7_reckon_103 : decode cX7_reckon 103 = .ok (.iastore, 1) := by decide +kernel
theorem dX7_reckon_104 : decode cX7_reckon 104 = .ok (.aload_n 0, 1) := by decide +kernel
theorem dX7_reckon_105 : decode cX7_reckon 105 = .ok (.getfield 24, 3) := by decide +kernel
theorem dX7_reckon_108 : decode cX7_reckon 108 = .ok (.iload_n 1, 1) := by decide +kernel
theorem dX7_reckon_109 : decode cX7_reckon 109 = .ok (.iconst 1, 1) := by decide +kernel
theorem dX7_reckon_110 : decode cX7_reckon 110 = .ok (.iadd, 1) := by decide +kernel
theorem dX7_reckon_111 : decode cX7_reckon 111 = .ok (.aload_n 0, 1) := by decide +kernel
theorem dX7_reckon_112 : decode cX7_reckon 112 = .ok (.getfield 24, 3) := by decide +kernel
theorem dX7_reckon_115 : decode cX7_reckon 115 = .ok (.iload_n 1, 1) := by decide +kernel
theorem dX7_reckon_116 : decode cX7_reckon 116 = .ok (.iaload, 1) := by decide +kernel
theorem dX7_reckon_117 : decode cX7_reckon 117 = .ok (.aload_n 0, 1) := by decide +kernel
theorem dX7_reckon_118 : decode cX7_reckon 118 = .ok (.getfield 9, 3) := by decide +kernel
theorem dX7_reckon_121 : decode cX7_reckon 121 = .ok (.iload_n 1, 1) := by decide +kernel
theorem dX7_reckon_122 : decode cX7_reckon 122 = .ok (.iaload, 1) := by decide +kernel
theorem dX7_reckon_123 : decode cX7_reckon 123 = .ok (.iadd, 1) := by decide +kernel
theorem dX7_reckon_124 : decode cX7_reckon 124 = .ok (.iastore, 1) := by decide +kernel
theorem dX7_reckon_125 : decode cX7_reckon 125 = .ok (.iinc 1 1, 3) := by decide +kernel
theorem dX7_reckon_128 : decode cX7_reckon 128 = .ok (.goto (-126), 3) := by decide +kernel
theorem dX7_reckon_131 : decode cX7_reckon 131 = .ok (.return_, 1) := by decide +kernel
theorem dX7_floors_0 : decode cX7_floors 0 = .ok (.aload_n 0, 1) := by decide +kernel
theorem dX7_floors_1 : decode cX7_floors 1 = .ok (.getfield 31, 3) := by decide +kernel
theorem dX7_floors_4 : decode cX7_floors 4 = .ok (.getfield 35, 3) := by decide +kernel
theorem dX7_floors_7 : decode cX7_floors 7 = .ok (.ireturn, 1) := by decide +kernel
theorem dX7_built_0 : decode cX7_built 0 = .ok (.aload_n 0, 1) := by decide +kernel
theorem dX7_built_1 : decode cX7_built 1 = .ok (.getfield 15, 3) := by decide +kernel
theorem dX7_built_4 : decode cX7_built 4 = .ok (.iload_n 1, 1) := by decide +kernel
theorem dX7_built_5 : decode cX7_built 5 = .ok (.iaload, 1) := by decide +kernel
theorem dX7_built_6 : decode cX7_built 6 = .ok (.aload_n 0, 1) := by decide +kernel
theorem dX7_built_7 : decode cX7_built 7 = .ok (.getfield 18, 3) := by decide +kernel
theorem dX7_built_10 : decode cX7_built 10 = .ok (.iload_n 1, 1) := by decide +kernel
theorem dX7_built_11 : decode cX7_built 11 = .ok (.iaload, 1) := by decide +kernel
theorem dX7_built_12 : decode cX7_built 12 = .ok (.iadd, 1) := by decide +kernel
theorem dX7_built_13 : decode cX7_built 13 = .ok (.ireturn, 1) := by decide +kernel
theorem dX7_off_0 : decode cX7_off 0 = .ok (.aload_n 0, 1) := by decide +kernel
theorem dX7_off_1 : decode cX7_off 1 = .ok (.getfield 21, 3) := by decide +kernel
theorem dX7_off_4 : decode cX7_off 4 = .ok (.iload_n 1, 1) := by decide +kernel
theorem dX7_off_5 : decode cX7_off 5 = .ok (.iaload, 1) := by decide +kernel
theorem dX7_off_6 : decode cX7_off 6 = .ok (.aload_n 0, 1) := by decide +kernel
theorem dX7_off_7 : decode cX7_off 7 = .ok (.getfield 24, 3) := by decide +kernel
theorem dX7_off_10 : decode cX7_off 10 = .ok (.iload_n 1, 1) := by decide +kernel
theorem dX7_off_11 : decode cX7_off 11 = .ok (.iaload, 1) := by decide +kernel
theorem dX7_off_12 : decode cX7_off 12 = .ok (.isub, 1) := by decide +kernel
theorem dX7_off_13 : decode cX7_off 13 = .ok (.ireturn, 1) := by decide +kernel
theorem dX7_missBy_0 : decode cX7_missBy 0 = .ok (.iconst 0, 1) := by decide +kernel
theorem dX7_missBy_1 : decode cX7_missBy 1 = .ok (.istore_n 2, 1) := by decide +kernel
theorem dX7_missBy_2 : decode cX7_missBy 2 = .ok (.iconst 0, 1) := by decide +kernel
theorem dX7_missBy_3 : decode cX7_missBy 3 = .ok (.istore_n 3, 1) := by decide +kernel
theorem dX7_missBy_4 : decode cX7_missBy 4 = .ok (.iload_n 3, 1) := by decide +kernel
theorem dX7_missBy_5 : decode cX7_missBy 5 = .ok (.aload_n 0, 1) := by decide +kernel
theorem dX7_missBy_6 : decode cX7_missBy 6 = .ok (.getfield 31, 3) := by decide +kernel
theorem dX7_missBy_9 : decode cX7_missBy 9 = .ok (.getfield 35, 3) := by decide +kernel
theorem dX7_missBy_12 : decode cX7_missBy 12 = .ok (.if_icmp .ge 40, 3) := by decide +kernel
theorem dX7_missBy_15 : decode cX7_missBy 15 = .ok (.aload_n 0, 1) := by decide +kernel
theorem dX7_missBy_16 : decode cX7_missBy 16 = .ok (.getfield 31, 3) := by decide +kernel
theorem dX7_missBy_19 : decode cX7_missBy 19 = .ok (.iload_n 3, 1) := by decide +kernel
theorem dX7_missBy_20 : decode cX7_missBy 20 = .ok (.invokevirtual 52, 3) := by decide +kernel
theorem dX7_missBy_23 : decode cX7_missBy 23 = .ok (.iload_n 1, 1) := by decide +kernel
theorem dX7_missBy_24 : decode cX7_missBy 24 = .ok (.if_icmp .ne 22, 3) := by decide +kernel
theorem dX7_missBy_27 : decode cX7_missBy 27 = .ok (.iload_n 2, 1) := by decide +kernel
theorem dX7_missBy_28 : decode cX7_missBy 28 = .ok (.aload_n 0, 1) := by decide +kernel
theorem dX7_missBy_29 : decode cX7_missBy 29 = .ok (.getfield 15, 3) := by decide +kernel
theorem dX7_missBy_32 : decode cX7_missBy 32 = .ok (.iload_n 3, 1) := by decide +kernel
theorem dX7_missBy_33 : decode cX7_missBy 33 = .ok (.iaload, 1) := by decide +kernel
theorem dX7_missBy_34 : decode cX7_missBy 34 = .ok (.aload_n 0, 1) := by decide +kernel
theorem dX7_missBy_35 : decode cX7_missBy 35 = .ok (.getfield 9, 3) := by decide +kernel
theorem dX7_missBy_38 : decode cX7_missBy 38 = .ok (.iload_n 3, 1) := by decide +kernel
theorem dX7_missBy_39 : decode cX7_missBy 39 = .ok (.iaload, 1) := by decide +kernel
theorem dX7_missBy_40 : decode cX7_missBy 40 = .ok (.isub, 1) := by decide +kernel
theorem dX7_missBy_41 : decode cX7_missBy 41 = .ok (.invokestatic 66, 3) := by decide +kernel
theorem dX7_missBy_44 : decode cX7_missBy 44 = .ok (.iadd, 1) := by decide +kernel
theorem dX7_missBy_45 : decode cX7_missBy 45 = .ok (.istore_n 2, 1) := by decide +kernel
theorem dX7_missBy_46 : decode cX7_missBy 46 = .ok (.iinc 3 1, 3) := by decide +kernel
theorem dX7_missBy_49 : decode cX7_missBy 49 = .ok (.goto (-45), 3) := by decide +kernel
theorem dX7_missBy_52 : decode cX7_missBy 52 = .ok (.iload_n 2, 1) := by decide +kernel
theorem dX7_missBy_53 : decode cX7_missBy 53 = .ok (.ireturn, 1) := by decide +kernel
theorem dX8_init_0 : decode cX8_init 0 = .ok (.aload_n 0, 1) := by decide +kernel
theorem dX8_init_1 : decode cX8_init 1 = .ok (.invokespecial 1, 3) := by decide +kernel
theorem dX8_init_4 : decode cX8_init 4 = .ok (.aload_n 0, 1) := by decide +kernel
theorem dX8_init_5 : decode cX8_init 5 = .ok (.iconst 4, 1) := by decide +kernel
theorem dX8_init_6 : decode cX8_init 6 = .ok (.newarray .int, 2) := by decide +kernel
theorem dX8_init_8 : decode cX8_init 8 = .ok (.dup, 1) := by decide +kernel
theorem dX8_init_9 : decode cX8_init 9 = .ok (.iconst 0, 1) := by decide +kernel
theorem dX8_init_10 : decode cX8_init 10 = .ok (.iconst 0, 1) := by decide +kernel
theorem dX8_init_11 : decode cX8_init 11 = .ok (.iastore, 1) := by decide +kernel
theorem dX8_init_12 : decode cX8_init 12 = .ok (.dup, 1) := by decide +kernel
theorem dX8_init_13 : decode cX8_init 13 = .ok (.iconst 1, 1) := by decide +kernel
theorem dX8_init_14 : decode cX8_init 14 = .ok (.sipush 200, 3) := by decide +kernel
theorem dX8_init_17 : decode cX8_init 17 = .ok (.iastore, 1) := by decide +kernel
theorem dX8_init_18 : decode cX8_init 18 = .ok (.dup, 1) := by decide +kernel
theorem dX8_init_19 : decode cX8_init 19 = .ok (.iconst 2, 1) := by decide +kernel
theorem dX8_init_20 : decode cX8_init 20 = .ok (.iconst 2, 1) := by decide +kernel
theorem dX8_init_21 : decode cX8_init 21 = .ok (.iastore, 1) := by decide +kernel
theorem dX8_init_22 : decode cX8_init 22 = .ok (.dup, 1) := by decide +kernel
theorem dX8_init_23 : decode cX8_init 23 = .ok (.iconst 3, 1) := by decide +kernel
theorem dX8_init_24 : decode cX8_init 24 = .ok (.iconst 5, 1) := by decide +kernel
theorem dX8_init_25 : decode cX8_init 25 = .ok (.iastore, 1) := by decide +kernel
theorem dX8_init_26 : decode cX8_init 26 = .ok (.putfield 7, 3) := by decide +kernel
theorem dX8_init_29 : decode cX8_init 29 = .ok (.aload_n 0, 1) := by decide +kernel
theorem dX8_init_30 : decode cX8_init 30 = .ok (.new 13, 3) := by decide +kernel
theorem dX8_init_33 : decode cX8_init 33 = .ok (.dup, 1) := by decide +kernel
theorem dX8_init_34 : decode cX8_init 34 = .ok (.invokespecial 15, 3) := by decide +kernel
theorem dX8_init_37 : decode cX8_init 37 = .ok (.putfield 16, 3) := by decide +kernel
theorem dX8_init_40 : decode cX8_init 40 = .ok (.aload_n 0, 1) := by decide +kernel
theorem dX8_init_41 : decode cX8_init 41 = .ok (.new 20, 3) := by decide +kernel
theorem dX8_init_44 : decode cX8_init 44 = .ok (.dup, 1) := by decide +kernel
theorem dX8_init_45 : decode cX8_init 45 = .ok (.invokespecial 22, 3) := by decide +kernel
theorem dX8_init_48 : decode cX8_init 48 = .ok (.putfield 23, 3) := by decide +kernel
theorem dX8_init_51 : decode cX8_init 51 = .ok (.aload_n 0, 1) := by decide +kernel
theorem dX8_init_52 : decode cX8_init 52 = .ok (.new 27, 3) := by decide +kernel
theorem dX8_init_55 : decode cX8_init 55 = .ok (.dup, 1) := by decide +kernel
theorem dX8_init_56 : decode cX8_init 56 = .ok (.aload_n 0, 1) := by decide +kernel
theorem dX8_init_57 : decode cX8_init 57 = .ok (.getfield 16, 3) := by decide +kernel
theorem dX8_init_60 : decode cX8_init 60 = .ok (.aload_n 0, 1) := by decide +kernel
theorem dX8_init_61 : decode cX8_init 61 = .ok (.getfield 23, 3) := by decide +kernel
theorem dX8_init_64 : decode cX8_init 64 = .ok (.invokespecial 29, 3) := by decide +kernel
theorem dX8_init_67 : decode cX8_init 67 = .ok (.putfield 32, 3) := by decide +kernel
theorem dX8_init_70 : decode cX8_init 70 = .ok (.aload_n 0, 1) := by decide +kernel
theorem dX8_init_71 : decode cX8_init 71 = .ok (.new 36, 3) := by decide +kernel
theorem dX8_init_74 : decode cX8_init 74 = .ok (.dup, 1) := by decide +kernel
theorem dX8_init_75 : decode cX8_init 75 = .ok (.aload_n 0, 1) := by decide +kernel
theorem dX8_init_76 : decode cX8_init 76 = .ok (.getfield 16, 3) := by decide +kernel
theorem dX8_init_79 : decode cX8_init 79 = .ok (.aload_n 0, 1) := by decide +kernel
theorem dX8_init_80 : decode cX8_init 80 = .ok (.getfield 32, 3) := by decide +kernel
theorem dX8_init_83 : decode cX8_init 83 = .ok (.invokespecial 38, 3) := by decide +kernel
theorem dX8_init_86 : decode cX8_init 86 = .ok (.putfield 41, 3) := by decide +kernel
theorem dX8_init_89 : decode cX8_init 89 = .ok (.aload_n 0, 1) := by decide +kernel
theorem dX8_init_90 : decode cX8_init 90 = .ok (.new 45, 3) := by decide +kernel
theorem dX8_init_93 : decode cX8_init 93 = .ok (.dup, 1) := by decide +kernel

theorem dX4_takeNumber_7 : decode cX4_takeNumber 7 = .ok (.aload_n 0, 1) := by decide +kernel
theorem dX4_takeNumber_8 : decode cX4_takeNumber 8 = .ok (.getfield 34, 3) := by decide +kernel
theorem dX4_takeNumber_11 : decode cX4_takeNumber 11 = .ok (.iload_n 2, 1) := by decide +kernel
theorem dX4_takeNumber_12 : decode cX4_takeNumber 12 = .ok (.iconst 2, 1) := by decide +kernel
theorem dX4_takeNumber_13 : decode cX4_takeNumber 13 = .ok (.iadd, 1) := by decide +kernel
theorem dX4_takeNumber_14 : decode cX4_takeNumber 14 = .ok (.if_icmp .ge 39, 3) := by decide +kernel
theorem dX4_takeNumber_17 : decode cX4_takeNumber 17 = .ok (.aload_n 0, 1) := by decide +kernel
theorem dX4_takeNumber_18 : decode cX4_takeNumber 18 = .ok (.invokevirtual 58, 3) := by decide +kernel
theorem dX4_takeNumber_21 : decode cX4_takeNumber 21 = .ok (.invokestatic 65, 3) := by decide +kernel
theorem dX4_takeNumber_24 : decode cX4_takeNumber 24 = .ok (.ifCond .eq 29, 3) := by decide +kernel
theorem dX4_takeNumber_27 : decode cX4_takeNumber 27 = .ok (.bipush 10, 2) := by decide +kernel
theorem dX4_takeNumber_29 : decode cX4_takeNumber 29 = .ok (.iload_n 3, 1) := by decide +kernel
theorem dX4_takeNumber_30 : decode cX4_takeNumber 30 = .ok (.imul, 1) := by decide +kernel
theorem dX4_takeNumber_31 : decode cX4_takeNumber 31 = .ok (.aload_n 0, 1) := by decide +kernel
theorem dX4_takeNumber_32 : decode cX4_takeNumber 32 = .ok (.invokevirtual 58, 3) := by decide +kernel
theorem dX4_takeNumber_35 : decode cX4_takeNumber 35 = .ok (.iadd, 1) := by decide +kernel
theorem dX4_takeNumber_36 : decode cX4_takeNumber 36 = .ok (.bipush 48, 2) := by decide +kernel
theorem dX4_takeNumber_38 : decode cX4_takeNumber 38 = .ok (.isub, 1) := by decide +kernel
theorem dX4_takeNumber_39 : decode cX4_takeNumber 39 = .ok (.istore_n 3, 1) := by decide +kernel
theorem dX4_takeNumber_40 : decode cX4_takeNumber 40 = .ok (.aload_n 0, 1) := by decide +kernel
theorem dX4_takeNumber_41 : decode cX4_takeNumber 41 = .ok (.dup, 1) := by decide +kernel
theorem dX4_takeNumber_42 : decode cX4_takeNumber 42 = .ok (.getfield 34, 3) := by decide +kernel
theorem dX4_takeNumber_45 : decode cX4_takeNumber 45 = .ok (.iconst 1, 1) := by decide +kernel
theorem dX4_takeNumber_46 : decode cX4_takeNumber 46 = .ok (.iadd, 1) := by decide +kernel
theorem dX4_takeNumber_47 : decode cX4_takeNumber 47 = .ok (.putfield 34, 3) := by decide +kernel
theorem dX4_takeNumber_50 : decode cX4_takeNumber 50 = .ok (.goto (-43), 3) := by decide +kernel
theorem dX4_takeNumber_53 : decode cX4_takeNumber 53 = .ok (.iload_n 3, 1) := by decide +kernel
theorem dX4_takeNumber_54 : decode cX4_takeNumber 54 = .ok (.iconst 1, 1) := by decide +kernel
theorem dX4_takeNumber_55 : decode cX4_takeNumber 55 = .ok (.iload_n 1, 1) := by decide +kernel
theorem dX4_takeNumber_56 : decode cX4_takeNumber 56 = .ok (.invokestatic 68, 3) := by decide +kernel
theorem dX4_takeNumber_59 : decode cX4_takeNumber 59 = .ok (.ifCond .ne 11, 3) := by decide +kernel
theorem dX4_takeNumber_62 : decode cX4_takeNumber 62 = .ok (.aload_n 0, 1) := by decide +kernel
theorem dX4_takeNumber_63 : decode cX4_takeNumber 63 = .ok (.iload_n 2, 1) := by decide +kernel
theorem dX4_takeNumber_64 : decode cX4_takeNumber 64 = .ok (.invokevirtual 45, 3) := by decide +kernel
theorem dX4_takeNumber_67 : decode cX4_takeNumber 67 = .ok (.pop, 1) := by decide +kernel
theorem dX4_takeNumber_68 : decode cX4_takeNumber 68 = .ok (.iconst (-1), 1) := by decide +kernel
theorem dX4_takeNumber_69 : decode cX4_takeNumber 69 = .ok (.ireturn, 1) := by decide +kernel
theorem dX4_takeNumber_70 : decode cX4_takeNumber 70 = .ok (.iload_n 3, 1) := by decide +kernel
theorem dX4_takeNumber_71 : decode cX4_takeNumber 71 = .ok (.ireturn, 1) := by decide +kernel
theorem dX4_takeUnit_0 : decode cX4_takeUnit 0 = .ok (.aload_n 0, 1) := by decide +kernel
theorem dX4_takeUnit_1 : decode cX4_takeUnit 1 = .ok (.invokevirtual 58, 3) := by decide +kernel
theorem dX4_takeUnit_4 : decode cX4_takeUnit 4 = .ok (.istore_n 2, 1) := by decide +kernel
theorem dX4_takeUnit_5 : decode cX4_takeUnit 5 = .ok (.iload_n 2, 1) := by decide +kernel
theorem dX4_takeUnit_6 : decode cX4_takeUnit 6 = .ok (.bipush 102, 2) := by decide +kernel
theorem dX4_takeUnit_8 : decode cX4_takeUnit 8 = .ok (.if_icmp .eq 24, 3) := by decide +kernel
theorem dX4_takeUnit_11 : decode cX4_takeUnit 11 = .ok (.iload_n 2, 1) := by decide +kernel
theorem dX4_takeUnit_12 : decode cX4_takeUnit 12 = .ok (.bipush 101, 2) := by decide +kernel
theorem dX4_takeUnit_14 : decode cX4_takeUnit 14 = .ok (.if_icmp .eq 18, 3) := by decide +kernel
theorem dX4_takeUnit_17 : decode cX4_takeUnit 17 = .ok (.iload_n 2, 1) := by decide +kernel
theorem dX4_takeUnit_18 : decode cX4_takeUnit 18 = .ok (.bipush 115, 2) := by decide +kernel
theorem dX4_takeUnit_20 : decode cX4_takeUnit 20 = .ok (.if_icmp .eq 12, 3) := by decide +kernel
theorem dX4_takeUnit_23 : decode cX4_takeUnit 23 = .ok (.aload_n 0, 1) := by decide +kernel
theorem dX4_takeUnit_24 : decode cX4_takeUnit 24 = .ok (.aload_n 0, 1) := by decide +kernel
theorem dX4_takeUnit_25 : decode cX4_takeUnit 25 = .ok (.getfield 34, 3) := by decide +kernel
theorem dX4_takeUnit_28 : decode cX4_takeUnit 28 = .ok (.invokevirtual 45, 3) := by decide +kernel
theorem dX4_takeUnit_31 : decode cX4_takeUnit 31 = .ok (.ireturn, 1) := by decide +kernel
theorem dX4_takeUnit_32 : decode cX4_takeUnit 32 = .ok (.aload_n 0, 1) := by decide +kernel
theorem dX4_takeUnit_33 : decode cX4_takeUnit 33 = .ok (.getfield 19, 3) := by decide +kernel
theorem dX4_takeUnit_36 : decode cX4_takeUnit 36 = .ok (.iload_n 1, 1) := by decide +kernel
theorem dX4_takeUnit_37 : decode cX4_takeUnit 37 = .ok (.iload_n 2, 1) := by decide +kernel
theorem dX4_takeUnit_38 : decode cX4_takeUnit 38 = .ok (.bipush 102, 2) := by decide +kernel
theorem dX4_takeUnit_40 : decode cX4_takeUnit 40 = .ok (.if_icmp .ne 7, 3) := by decide +kernel
theorem dX4_takeUnit_43 : decode cX4_takeUnit 43 = .ok (.iconst 0, 1) := by decide +kernel
theorem dX4_takeUnit_44 : decode cX4_takeUnit 44 = .ok (.goto 14, 3) := by decide +kernel
theorem dX4_takeUnit_47 : decode cX4_takeUnit 47 = .ok (.iload_n 2, 1) := by decide +kernel
theorem dX4_takeUnit_48 : decode cX4_takeUnit 48 = .ok (.bipush 101, 2) := by decide +kernel
theorem dX4_takeUnit_50 : decode cX4_takeUnit 50 = .ok (.if_icmp .ne 7, 3) := by decide +kernel
theorem dX4_takeUnit_53 : decode cX4_takeUnit 53 = .ok (.iconst 1, 1) := by decide +kernel
theorem dX4_takeUnit_54 : decode cX4_takeUnit 54 = .ok (.goto 4, 3) := by decide +kernel
theorem dX4_takeUnit_57 : decode cX4_takeUnit 57 = .ok (.iconst 2, 1) := by decide +kernel
theorem dX4_takeUnit_58 : decode cX4_takeUnit 58 = .ok (.iastore, 1) := by decide +kernel
theorem dX4_takeUnit_59 : decode cX4_takeUnit 59 = .ok (.aload_n 0, 1) := by decide +kernel
theorem dX4_takeUnit_60 : decode cX4_takeUnit 60 = .ok (.dup, 1) := by decide +kernel
theorem dX4_takeUnit_61 : decode cX4_takeUnit 61 = .ok (.getfield 34, 3) := by decide +kernel
theorem dX4_takeUnit_64 : decode cX4_takeUnit 64 = .ok (.iconst 1, 1) := by decide +kernel
theorem dX4_takeUnit_65 : decode cX4_takeUnit 65 = .ok (.iadd, 1) := by decide +kernel
theorem dX4_takeUnit_66 : decode cX4_takeUnit 66 = .ok (.putfield 34, 3) := by decide +kernel
theorem dX4_takeUnit_69 : decode cX4_takeUnit 69 = .ok (.iconst 1, 1) := by decide +kernel
theorem dX4_takeUnit_70 : decode cX4_takeUnit 70 = .ok (.ireturn, 1) := by decide +kernel
theorem dX4_takeWay_0 : decode cX4_takeWay 0 = .ok (.aload_n 0, 1) := by decide +kernel
theorem dX4_takeWay_1 : decode cX4_takeWay 1 = .ok (.invokevirtual 58, 3) := by decide +kernel
theorem dX4_takeWay_4 : decode cX4_takeWay 4 = .ok (.bipush 48, 2) := by decide +kernel
theorem dX4_takeWay_6 : decode cX4_takeWay 6 = .ok (.isub, 1) := by decide +kernel
theorem dX4_takeWay_7 : decode cX4_takeWay 7 = .ok (.istore_n 2, 1) := by decide +kernel
theorem dX4_takeWay_8 : decode cX4_takeWay 8 = .ok (.iload_n 2, 1) := by decide +kernel
theorem dX4_takeWay_9 : decode cX4_takeWay 9 = .ok (.iconst 0, 1) := by decide +kernel
theorem dX4_takeWay_10 : decode cX4_takeWay 10 = .ok (.bipush 8, 2) := by decide +kernel
theorem dX4_takeWay_12 : decode cX4_takeWay 12 = .ok (.invokestatic 68, 3) := by decide +kernel
theorem dX4_takeWay_15 : decode cX4_takeWay 15 = .ok (.ifCond .ne 12, 3) := by decide +kernel
theorem dX4_takeWay_18 : decode cX4_takeWay 18 = .ok (.aload_n 0, 1) := by decide +kernel
theorem dX4_takeWay_19 : decode cX4_takeWay 19 = .ok (.aload_n 0, 1) := by decide +kernel
theorem dX4_takeWay_20 : decode cX4_takeWay 20 = .ok (.getfield 34, 3) := by decide +kernel
theorem dX4_takeWay_23 : decode cX4_takeWay 23 = .ok (.invokevirtual 45, 3) := by decide +kernel
theorem dX4_takeWay_26 : decode cX4_takeWay 26 = .ok (.ireturn, 1) := by decide +kernel
theorem dX4_takeWay_27 : decode cX4_takeWay 27 = .ok (.aload_n 0, 1) := by decide +kernel
theorem dX4_takeWay_28 : decode cX4_takeWay 28 = .ok (.getfield 25, 3) := by decide +kernel
theorem dX4_takeWay_31 : decode cX4_takeWay 31 = .ok (.iload_n 1, 1) := by decide +kernel
theorem dX4_takeWay_32 : decode cX4_takeWay 32 = .ok (.iload_n 2, 1) := by decide +kernel
theorem dX4_takeWay_33 : decode cX4_takeWay 33 = .ok (.iastore, 1) := by decide +kernel
theorem dX4_takeWay_34 : decode cX4_takeWay 34 = .ok (.aload_n 0, 1) := by decide +kernel
theorem dX4_takeWay_35 : decode cX4_takeWay 35 = .ok (.dup, 1) := by decide +kernel
theorem dX4_takeWay_36 : decode cX4_takeWay 36 = .ok (.getfield 34, 3) := by decide +kernel
theorem dX4_takeWay_39 : decode cX4_takeWay 39 = .ok (.iconst 1, 1) := by decide +kernel
theorem dX4_takeWay_40 : decode cX4_takeWay 40 = .ok (.iadd, 1) := by decide +kernel
theorem dX4_takeWay_41 : decode cX4_takeWay 41 = .ok (.putfield 34, 3) := by decide +kernel
theorem dX4_takeWay_44 : decode cX4_takeWay 44 = .ok (.iconst 1, 1) := by decide +kernel
theorem dX4_takeWay_45 : decode cX4_takeWay 45 = .ok (.ireturn, 1) := by decide +kernel
theorem dX4_takeSign_0 : decode cX4_takeSign 0 = .ok (.aload_n 0, 1) := by decide +kernel
theorem dX4_takeSign_1 : decode cX4_takeSign 1 = .ok (.invokevirtual 58, 3) := by decide +kernel
theorem dX4_takeSign_4 : decode cX4_takeSign 4 = .ok (.iload_n 1, 1) := by decide +kernel
theorem dX4_takeSign_5 : decode cX4_takeSign 5 = .ok (.if_icmp .eq 12, 3) := by decide +kernel
theorem dX4_takeSign_8 : decode cX4_takeSign 8 = .ok (.aload_n 0, 1) := by decide +kernel
theorem dX4_takeSign_9 : decode cX4_takeSign 9 = .ok (.aload_n 0, 1) := by decide +kernel
theorem dX4_takeSign_10 : decode cX4_takeSign 10 = .ok (.getfield 34, 3) := by decide +kernel
theorem dX4_takeSign_13 : decode cX4_takeSign 13 = .ok (.invokevirtual 45, 3) := by decide +kernel
theorem dX4_takeSign_16 : decode cX4_takeSign 16 = .ok (.ireturn, 1) := by decide +kernel
theorem dX4_takeSign_17 : decode cX4_takeSign 17 = .ok (.aload_n 0, 1) := by decide +kernel
theorem dX4_takeSign_18 : decode cX4_takeSign 18 = .ok (.dup, 1) := by decide +kernel
theorem dX4_takeSign_19 : decode cX4_takeSign 19 = .ok (.getfield 34, 3) := by decide +kernel
theorem dX4_takeSign_22 : decode cX4_takeSign 22 = .ok (.iconst 1, 1) := by decide +kernel
theorem dX4_takeSign_23 : decode cX4_takeSign 23 = .ok (.iadd, 1) := by decide +kernel
theorem dX4_takeSign_24 : decode cX4_takeSign 24 = .ok (.putfield 34, 3) := by decide +kernel
theorem dX4_takeSign_27 : decode cX4_takeSign 27 = .ok (.iconst 1, 1) := by decide +kernel
theorem dX4_takeSign_28 : decode cX4_takeSign 28 = .ok (.ireturn, 1) := by decide +kernel
theorem dX4_sign_0 : decode cX4_sign 0 = .ok (.aload_n 0, 1) := by decide +kernel
theorem dX4_sign_1 : decode cX4_sign 1 = .ok (.getfield 34, 3) := by decide +kernel
theorem dX4_sign_4 : decode cX4_sign 4 = .ok (.aload_n 0, 1) := by decide +kernel
theorem dX4_sign_5 : decode cX4_sign 5 = .ok (.getfield 28, 3) := by decide +kernel
theorem dX4_sign_8 : decode cX4_sign 8 = .ok (.if_icmp .ge 15, 3) := by decide +kernel
theorem dX4_sign_11 : decode cX4_sign 11 = .ok (.aload_n 0, 1) := by decide +kernel
theorem dX4_sign_12 : decode cX4_sign 12 = .ok (.getfield 9, 3) := by decide +kernel
theorem dX4_sign_15 : decode cX4_sign 15 = .ok (.aload_n 0, 1) := by decide +kernel
theorem dX4_sign_16 : decode cX4_sign 16 = .ok (.getfield 34, 3) := by decide +kernel
theorem dX4_sign_19 : decode cX4_sign 19 = .ok (.iaload, 1) := by decide +kernel
theorem dX4_sign_20 : decode cX4_sign 20 = .ok (.goto 4, 3) := by decide +kernel
theorem dX4_sign_23 : decode cX4_sign 23 = .ok (.iconst (-1), 1) := by decide +kernel
theorem dX4_sign_24 : decode cX4_sign 24 = .ok (.ireturn, 1) := by decide +kernel
theorem dX4_isFigure_0 : decode cX4_isFigure 0 = .ok (.iload_n 0, 1) := by decide +kernel
theorem dX4_isFigure_1 : decode cX4_isFigure 1 = .ok (.bipush 48, 2) := by decide +kernel
theorem dX4_isFigure_3 : decode cX4_isFigure 3 = .ok (.bipush 57, 2) := by decide +kernel
theorem dX4_isFigure_5 : decode cX4_isFigure 5 = .ok (.invokestatic 68, 3) := by decide +kernel
theorem dX4_isFigure_8 : decode cX4_isFigure 8 = .ok (.ireturn, 1) := by decide +kernel
theorem dX4_fail_0 : decode cX4_fail 0 = .ok (.aload_n 0, 1) := by decide +kernel
theorem dX4_fail_1 : decode cX4_fail 1 = .ok (.iload_n 1, 1) := by decide +kernel
theorem dX4_fail_2 : decode cX4_fail 2 = .ok (.putfield 15, 3) := by decide +kernel
theorem dX4_fail_5 : decode cX4_fail 5 = .ok (.iconst 0, 1) := by decide +kernel
theorem dX4_fail_6 : decode cX4_fail 6 = .ok (.ireturn, 1) := by decide +kernel
theorem dX5_init_0 : decode cX5_init 0 = .ok (.aload_n 0, 1) := by decide +kernel
theorem dX5_init_1 : decode cX5_init 1 = .ok (.invokespecial 3, 3) := by decide +kernel
theorem dX5_init_4 : decode cX5_init 4 = .ok (.aload_n 0, 1) := by decide +kernel
theorem dX5_init_5 : decode cX5_init 5 = .ok (.bipush 11, 2) := by decide +kernel
theorem dX5_init_7 : decode cX5_init 7 = .ok (.newarray .int, 2) := by decide +kernel
theorem dX5_init_9 : decode cX5_init 9 = .ok (.putfield 9, 3) := by decide +kernel
theorem dX5_init_12 : decode cX5_init 12 = .ok (.return_, 1) := by decide +kernel
theorem dX5_spread_0 : decode cX5_spread 0 = .ok (.aload_n 0, 1) := by decide +kernel
theorem dX5_spread_1 : decode cX5_spread 1 = .ok (.getfield 9, 3) := by decide +kernel
theorem dX5_spread_4 : decode cX5_spread 4 = .ok (.iload_n 1, 1) := by decide +kernel
theorem dX5_spread_5 : decode cX5_spread 5 = .ok (.iaload, 1) := by decide +kernel
theorem dX5_spread_6 : decode cX5_spread 6 = .ok (.istore_n 3, 1) := by decide +kernel
theorem dX5_spread_7 : decode cX5_spread 7 = .ok (.iload_n 3, 1) := by decide +kernel
theorem dX5_spread_8 : decode cX5_spread 8 = .ok (.istore 4, 2) := by decide +kernel
theorem dX5_spread_10 : decode cX5_spread 10 = .ok (.iload_n 1, 1) := by decide +kernel
theorem dX5_spread_11 : decode cX5_spread 11 = .ok (.iconst 1, 1) := by decide +kernel
theorem dX5_spread_12 : decode cX5_spread 12 = .ok (.iadd, 1) := by decide +kernel
theorem dX5_spread_13 : decode cX5_spread 13 = .ok (.istore 5, 2) := by decide +kernel
theorem dX5_spread_15 : decode cX5_spread 15 = .ok (.iload 5, 2) := by decide +kernel
theorem dX5_spread_17 : decode cX5_spread 17 = .ok (.iload_n 2, 1) := by decide +kernel
theorem dX5_spread_18 : decode cX5_spread 18 = .ok (.if_icmp .gt 35, 3) := by decide +kernel
theorem dX5_spread_21 : decode cX5_spread 21 = .ok (.iload_n 3, 1) := by decide +kernel
theorem dX5_spread_22 : decode cX5_spread 22 = .ok (.aload_n 0, 1) := by decide +kernel
theorem dX5_spread_23 : decode cX5_spread 23 = .ok (.getfield 9, 3) := by decide +kernel
theorem dX5_spread_26 : decode cX5_spread 26 = .ok (.iload 5, 2) := by decide +kernel
theorem dX5_spread_28 : decode cX5_spread 28 = .ok (.iaload, 1) := by decide +kernel
theorem dX5_spread_29 : decode cX5_spread 29 = .ok (.invokestatic 15, 3) := by decide +kernel
theorem dX5_spread_32 : decode cX5_spread 32 = .ok (.istore_n 3, 1) := by decide +kernel
theorem dX5_spread_33 : decode cX5_spread 33 = .ok (.iload 4, 2) := by decide +kernel
theorem dX5_spread_35 : decode cX5_spread 35 = .ok (.aload_n 0, 1) := by decide +kernel
theorem dX5_spread_36 : decode cX5_spread 36 = .ok (.getfield 9, 3) := by decide +kernel
theorem dX5_spread_39 : decode cX5_spread 39 = .ok (.iload 5, 2) := by decide +kernel
theorem dX5_spread_41 : decode cX5_spread 41 = .ok (.iaload, 1) := by decide +kernel
theorem dX5_spread_42 : decode cX5_spread 42 = .ok (.invokestatic 21, 3) := by decide +kernel
theorem dX5_spread_45 : decode cX5_spread 45 = .ok (.istore 4, 2) := by decide +kernel
theorem dX5_spread_47 : decode cX5_spread 47 = .ok (.iinc 5 1, 3) := by decide +kernel
theorem dX5_spread_50 : decode cX5_spread 50 = .ok (.goto (-35), 3) := by decide +kernel
theorem dX5_spread_53 : decode cX5_spread 53 = .ok (.iload 4, 2) := by decide +kernel
theorem dX5_spread_55 : decode cX5_spread 55 = .ok (.iload_n 3, 1) := by decide +kernel
theorem dX5_spread_56 : decode cX5_spread 56 = .ok (.isub, 1) := by decide +kernel
theorem dX5_spread_57 : decode cX5_spread 57 = .ok (.ireturn, 1) := by decide +kernel
theorem dX5_lengthFrom_0 : decode cX5_lengthFrom 0 = .ok (.iload_n 1, 1) := by decide +kernel
theorem dX5_lengthFrom_1 : decode cX5_lengthFrom 1 = .ok (.istore 4, 2) := by decide +kernel
theorem dX5_lengthFrom_3 : decode cX5_lengthFrom 3 = .ok (.iload 4, 2) := by decide +kernel
theorem dX5_lengthFrom_5 : decode cX5_lengthFrom 5 = .ok (.iload_n 2, 1) := by decide +kernel
theorem dX5_lengthFrom_6 : decode cX5_lengthFrom 6 = .ok (.if_icmp .gt 20, 3) := by decide +kernel
theorem dX5_lengthFrom_9 : decode cX5_lengthFrom 9 = .ok (.aload_n 0, 1) := by decide +kernel
theorem dX5_lengthFrom_10 : decode cX5_lengthFrom 10 = .ok (.iload_n 1, 1) := by decide +kernel
theorem dX5_lengthFrom_11 : decode cX5_lengthFrom 11 = .ok (.iload 4, 2) := by decide +kernel
theorem dX5_lengthFrom_13 : decode cX5_lengthFrom 13 = .ok (.invokevirtual 24, 3) := by decide +kernel
theorem dX5_lengthFrom_16 : decode cX5_lengthFrom 16 = .ok (.iload_n 3, 1) := by decide +kernel
theorem dX5_lengthFrom_17 : decode cX5_lengthFrom 17 = .ok (.if_icmp .gt 9, 3) := by decide +kernel
theorem dX5_lengthFrom_20 : decode cX5_lengthFrom 20 = .ok (.iinc 4 1, 3) := by decide +kernel
theorem dX5_lengthFrom_23 : decode cX5_lengthFrom 23 = .ok (.goto (-20), 3) := by decide +kernel
theorem dX5_lengthFrom_26 : decode cX5_lengthFrom 26 = .ok (.iload 4, 2) := by decide +kernel
theorem dX5_lengthFrom_28 : decode cX5_lengthFrom 28 = .ok (.iload_n 1, 1) := by decide +kernel
theorem dX5_lengthFrom_29 : decode cX5_lengthFrom 29 = .ok (.isub, 1) := by decide +kernel
theorem dX5_lengthFrom_30 : decode cX5_lengthFrom 30 = .ok (.ireturn, 1) := by decide +kernel
theorem dX6_init_0 : decode cX6_init 0 = .ok (.aload_n 0, 1) := by decide +kernel
theorem dX6_init_1 : decode cX6_init 1 = .ok (.invokespecial 3, 3) := by decide +kernel
theorem dX6_init_4 : decode cX6_init 4 = .ok (.aload_n 0, 1) := by decide +kernel
theorem dX6_init_5 : decode cX6_init 5 = .ok (.bipush 48, 2) := by decide +kernel
theorem dX6_init_7 : decode cX6_init 7 = .ok (.newarray .int, 2) := by decide +kernel
theorem dX6_init_9 : decode cX6_init 9 = .ok (.putfield 9, 3) := by decide +kernel
theorem dX6_init_12 : decode cX6_init 12 = .ok (.aload_n 0, 1) := by decide +kernel
theorem dX6_init_13 : decode cX6_init 13 = .ok (.iconst (-1), 1) := by decide +kernel
theorem dX6_init_14 : decode cX6_init 14 = .ok (.putfield 15, 3) := by decide +kernel
theorem dX6_init_17 : decode cX6_init 17 = .ok (.return_, 1) := by decide +kernel
theorem dX6_isLost_0 : decode cX6_isLost 0 = .ok (.aload_n 0, 1) := by decide +kernel
theorem dX6_isLost_1 : decode cX6_isLost 1 = .ok (.getfield 15, 3) := by decide +kernel
theorem dX6_isLost_4 : decode cX6_isLost 4 = .ok (.iconst (-1), 1) := by decide +kernel
theorem dX6_isLost_5 : decode cX6_isLost 5 = .ok (.if_icmp .ne 7, 3) := by decide +kernel
theorem dX6_isLost_8 : decode cX6_isLost 8 = .ok (.iconst 1, 1) := by decide +kernel
theorem dX6_isLost_9 : decode cX6_isLost 9 = .ok (.goto 4, 3) := by decide +kernel
theorem dX6_isLost_12 : decode cX6_isLost 12 = .ok (.iconst 0, 1) := by decide +kernel
theorem dX6_isLost_13 : decode cX6_isLost 13 = .ok (.ireturn, 1) := by decide +kernel
theorem dX6_renew_0 : decode cX6_renew 0 = .ok (.aload_n 0, 1) := by decide +kernel
theorem dX6_renew_1 : decode cX6_renew 1 = .ok (.iload_n 1, 1) := by decide +kernel
theorem dX6_renew_2 : decode cX6_renew 2 = .ok (.putfield 15, 3) := by decide +kernel
theorem dX6_renew_5 : decode cX6_renew 5 = .ok (.aload_n 0, 1) := by decide +kernel
theorem dX6_renew_6 : decode cX6_renew 6 = .ok (.iload_n 2, 1) := by decide +kernel
theorem dX6_renew_7 : decode cX6_renew 7 = .ok (.putfield 19, 3) := by decide +kernel
theorem dX6_renew_10 : decode cX6_renew 10 = .ok (.aload_n 0, 1) := by decide +kernel
theorem dX6_renew_11 : decode cX6_renew 11 = .ok (.getfield 9, 3) := by decide +kernel
theorem dX6_renew_14 : decode cX6_renew 14 = .ok (.iconst 0, 1) := by decide +kernel
theorem dX6_renew_15 : decode cX6_renew 15 = .ok (.invokestatic 22, 3) := by decide +kernel
theorem dX6_renew_18 : decode cX6_renew 18 = .ok (.return_, 1) := by decide +kernel
theorem dX6_hasRun_0 : decode cX6_hasRun 0 = .ok (.iload_n 1, 1) := by decide +kernel
theorem dX6_hasRun_1 : decode cX6_hasRun 1 = .ok (.ifCond .lt 21, 3) := by decide +kernel
theorem dX6_hasRun_4 : decode cX6_hasRun 4 = .ok (.iload_n 2, 1) := by decide +kernel
theorem dX6_hasRun_5 : decode cX6_hasRun 5 = .ok (.ifCond .lt 17, 3) := by decide +kernel
theorem dX6_hasRun_8 : decode cX6_hasRun 8 = .ok (.iload_n 2, 1) := by decide +kernel
theorem dX6_hasRun_9 : decode cX6_hasRun 9 = .ok (.aload_n 0, 1) := by decide +kernel
theorem dX6_hasRun_10 : decode cX6_hasRun 10 = .ok (.getfield 19, 3) := by decide +kernel
theorem dX6_hasRun_13 : decode cX6_hasRun 13 = .ok (.iload_n 1, 1) := by decide +kernel
theorem dX6_hasRun_14 : decode cX6_hasRun 14 = .ok (.isub, 1) := by decide +kernel
theorem dX6_hasRun_15 : decode cX6_hasRun 15 = .ok (.if_icmp .gt 7, 3) := by decide +kernel
theorem dX6_hasRun_18 : decode cX6_hasRun 18 = .ok (.iconst 1, 1) := by decide +kernel
theorem dX6_hasRun_19 : decode cX6_hasRun 19 = .ok (.goto 4, 3) := by decide +kernel
theorem dX6_hasRun_22 : decode cX6_hasRun 22 = .ok (.iconst 0, 1) := by decide +kernel
theorem dX6_hasRun_23 : decode cX6_hasRun 23 = .ok (.ireturn, 1) := by decide +kernel
theorem dX6_store_0 : decode cX6_store 0 = .ok (.iload_n 1, 1) := by decide +kernel
theorem dX6_store_1 : decode cX6_store 1 = .ok (.iconst 0, 1) := by decide +kernel
theorem dX6_store_2 : decode cX6_store 2 = .ok (.aload_n 0, 1) := by decide +kernel
theorem dX6_store_3 : decode cX6_store 3 = .ok (.getfield 19, 3) := by decide +kernel
theorem dX6_store_6 : decode cX6_store 6 = .ok (.iconst 1, 1) := by decide +kernel
theorem dX6_store_7 : decode cX6_store 7 = .ok (.isub, 1) := by decide +kernel
theorem dX6_store_8 : decode cX6_store 8 = .ok (.invokestatic 28, 3) := by decide +kernel
theorem dX6_store_11 : decode cX6_store 11 = .ok (.ifCond .eq 35, 3) := by decide +kernel
theorem dX6_store_14 : decode cX6_store 14 = .ok (.aload_n 0, 1) := by decide +kernel
theorem dX6_store_15 : decode cX6_store 15 = .ok (.getfield 9, 3) := by decide +kernel
theorem dX6_store_18 : decode cX6_store 18 = .ok (.iload_n 1, 1) := by decide +kernel
theorem dX6_store_19 : decode cX6_store 19 = .ok (.aload_n 0, 1) := by decide +kernel
theorem dX6_store_20 : decode cX6_store 20 = .ok (.getfield 15, 3) := by decide +kernel
theorem dX6_store_23 : decode cX6_store 23 = .ok (.ifCond .ne 8, 3) := by decide +kernel
theorem dX6_store_26 : decode cX6_store 26 = .ok (.iload_n 2, 1) := by decide +kernel
theorem dX6_store_27 : decode cX6_store 27 = .ok (.i2b, 1) := by decide +kernel
theorem dX6_store_28 : decode cX6_store 28 = .ok (.goto 17, 3) := by decide +kernel
theorem dX6_store_31 : decode cX6_store 31 = .ok (.aload_n 0, 1) := by decide +kernel
theorem dX6_store_32 : decode cX6_store 32 = .ok (.getfield 15, 3) := by decide +kernel
theorem dX6_store_35 : decode cX6_store 35 = .ok (.iconst 1, 1) := by decide +kernel
theorem dX6_store_36 : decode cX6_store 36 = .ok (.if_icmp .ne 8, 3) := by decide +kernel
theorem dX6_store_39 : decode cX6_store 39 = .ok (.iload_n 2, 1) := by decide +kernel
theorem dX6_store_40 : decode cX6_store 40 = .ok (.i2s, 1) := by decide +kernel
theorem dX6_store_41 : decode cX6_store 41 = .ok (.goto 4, 3) := by decide +kernel
theorem dX6_store_44 : decode cX6_store 44 = .ok (.iload_n 2, 1) := by decide +kernel
theorem dX6_store_45 : decode cX6_store 45 = .ok (.iastore, 1) := by decide +kernel
theorem dX6_store_46 : decode cX6_store 46 = .ok (.return_, 1) := by decide +kernel
theorem dX7_init_0 : decode cX7_init 0 = .ok (.aload_n 0, 1) := by decide +kernel
theorem dX7_init_1 : decode cX7_init 1 = .ok (.invokespecial 3, 3) := by decide +kernel
theorem dX7_init_4 : decode cX7_init 4 = .ok (.aload_n 0, 1) := by decide +kernel
theorem dX7_init_5 : decode cX7_init 5 = .ok (.bipush 10, 2) := by decide +kernel
theorem dX7_init_7 : decode cX7_init 7 = .ok (.newarray .int, 2) := by decide +kernel
theorem dX7_init_9 : decode cX7_init 9 = .ok (.putfield 9, 3) := by decide +kernel
theorem dX7_init_12 : decode cX7_init 12 = .ok (.aload_n 0, 1) := by decide +kernel
theorem dX7_init_13 : decode cX7_init 13 = .ok (.bipush 10, 2) := by decide +kernel
theorem dX7_init_15 : decode cX7_init 15 = .ok (.newarray .int, 2) := by decide +kernel
theorem dX7_init_17 : decode cX7_init 17 = .ok (.putfield 15, 3) := by decide +kernel
theorem dX7_init_20 : decode cX7_init 20 = .ok (.aload_n 0, 1) := by decide +kernel
theorem dX7_init_21 : decode cX7_init 21 = .ok (.bipush 10, 2) := by decide +kernel
theorem dX7_init_23 : decode cX7_init 23 = .ok (.newarray .int, 2) := by decide +kernel
theorem dX7_init_25 : decode cX7_init 25 = .ok (.putfield 18, 3) := by decide +kernel
theorem dX7_init_28 : decode cX7_init 28 = .ok (.aload_n 0, 1) := by decide +kernel
theorem dX7_init_29 : decode cX7_init 29 = .ok (.bipush 11, 2) := by decide +kernel
theorem dX7_init_31 : decode cX7_init 31 = .ok (.newarray .int, 2) := by decide +kernel
theorem dX7_init_33 : decode cX7_init 33 = .ok (.putfield 21, 3) := by decide +kernel
theorem dX7_init_36 : decode cX7_init 36 = .ok (.aload_n 0, 1) := by decide +kernel
theorem dX7_init_37 : decode cX7_init 37 = .ok (.bipush 11, 2) := by decide +kernel
theorem dX7_init_39 : decode cX7_init 39 = .ok (.newarray .int, 2) := by decide +kernel
theorem dX7_init_41 : decode cX7_init 41 = .ok (.putfield 24, 3) := by decide +kernel
theorem dX7_init_44 : decode cX7_init 44 = .ok (.aload_n 0, 1) := by decide +kernel
theorem dX7_init_45 : decode cX7_init 45 = .ok (.aload_n 1, 1) := by decide +kernel
theorem dX7_init_46 : decode cX7_init 46 = .ok (.putfield 27, 3) := by decide +kernel
theorem dX7_init_49 : decode cX7_init 49 = .ok (.aload_n 0, 1) := by decide +kernel
theorem dX7_init_50 : decode cX7_init 50 = .ok (.aload_n 2, 1) := by decide +kernel
theorem dX7_init_51 : decode cX7_init 51 = .ok (.putfield 31, 3) := by decide +kernel
theorem dX7_init_54 : decode cX7_init 54 = .ok (.return_, 1) := by decide +kernel
theorem dX7_reckon_0 : decode cX7_reckon 0 = .ok (.iconst 0, 1) := by decide +kernel
theorem dX7_reckon_1 : decode cX7_reckon 1 = .ok (.istore_n 1, 1) := by decide +kernel
theorem dX7_reckon_2 : decode cX7_reckon 2 = .ok (.iload_n 1, 1) := by decide +kernel
theorem dX7_reckon_3 : decode cX7_reckon 3 = .ok (.aload_n 0, 1) := by decide +kernel
theorem dX7_reckon_4 : decode cX7_reckon 4 = .ok (.getfield 31, 3) := by decide +kernel
theorem dX7_reckon_7 : decode cX7_reckon 7 = .ok (.getfield 35, 3) := by decide +kernel
theorem dX7_reckon_10 : decode cX7_reckon 10 = .ok (.if_icmp .ge 121, 3) := by decide +kernel
theorem dX7_reckon_13 : decode cX7_reckon 13 = .ok (.aload_n 0, 1) := by decide +kernel
theorem dX7_reckon_14 : decode cX7_reckon 14 = .ok (.getfield 9, 3) := by decide +kernel
theorem dX7_reckon_17 : decode cX7_reckon 17 = .ok (.iload_n 1, 1) := by decide +kernel
theorem dX7_reckon_18 : decode cX7_reckon 18 = .ok (.aload_n 0, 1) := by decide +kernel
theorem dX7_reckon_19 : decode cX7_reckon 19 = .ok (.getfield 27, 3) := by decide +kernel
theorem dX7_reckon_22 : decode cX7_reckon 22 = .ok (.getfield 41, 3) := by decide +kernel
theorem dX7_reckon_25 : decode cX7_reckon 25 = .ok (.aload_n 0, 1) := by decide +kernel
theorem dX7_reckon_26 : decode cX7_reckon 26 = .ok (.getfield 31, 3) := by decide +kernel
theorem dX7_reckon_29 : decode cX7_reckon 29 = .ok (.getfield 46, 3) := by decide +kernel
theorem dX7_reckon_32 : decode cX7_reckon 32 = .ok (.iload_n 1, 1) := by decide +kernel
theorem dX7_reckon_33 : decode cX7_reckon 33 = .ok (.iaload, 1) := by decide +kernel
theorem dX7_reckon_34 : decode cX7_reckon 34 = .ok (.iaload, 1) := by decide +kernel
theorem dX7_reckon_35 : decode cX7_reckon 35 = .ok (.aload_n 0, 1) := by decide +kernel
theorem dX7_reckon_36 : decode cX7_reckon 36 = .ok (.getfield 31, 3) := by decide +kernel
theorem dX7_reckon_39 : decode cX7_reckon 39 = .ok (.getfield 49, 3) := by decide +kernel
theorem dX7_reckon_42 : decode cX7_reckon 42 = .ok (.iload_n 1, 1) := by decide +kernel
theorem dX7_reckon_43 : decode cX7_reckon 43 = .ok (.iaload, 1) := by decide +kernel
theorem dX7_reckon_44 : decode cX7_reckon 44 = .ok (.imul, 1) := by decide +kernel
theorem dX7_reckon_45 : decode cX7_reckon 45 = .ok (.bipush 12, 2) := by decide +kernel
theorem dX7_reckon_47 : decode cX7_reckon 47 = .ok (.idiv, 1) := by decide +kernel
theorem dX7_reckon_48 : decode cX7_reckon 48 = .ok (.iastore, 1) := by decide +kernel
theorem dX7_reckon_49 : decode cX7_reckon 49 = .ok (.aload_n 0, 1) := by decide +kernel
theorem dX7_reckon_50 : decode cX7_reckon 50 = .ok (.getfield 15, 3) := by decide +kernel
theorem dX7_reckon_53 : decode cX7_reckon 53 = .ok (.iload_n 1, 1) := by decide +kernel
theorem dX7_reckon_54 : decode cX7_reckon 54 = .ok (.aload_n 0, 1) := by decide +kernel
theorem dX7_reckon_55 : decode cX7_reckon 55 = .ok (.getfield 27, 3) := by decide +kernel
theorem dX7_reckon_58 : decode cX7_reckon 58 = .ok (.aload_n 0, 1) := by decide +kernel
theorem dX7_reckon_59 : decode cX7_reckon 59 = .ok (.getfield 9, 3) := by decide +kernel
theorem dX7_reckon_62 : decode cX7_reckon 62 = .ok (.iload_n 1, 1) := by decide +kernel
theorem dX7_reckon_63 : decode cX7_reckon 63 = .ok (.iaload, 1) := by decide +kernel
theorem dX7_reckon_64 : decode cX7_reckon 64 = .ok (.aload_n 0, 1) := by decide +kernel
theorem dX7_reckon_65 : decode cX7_reckon 65 = .ok (.getfield 31, 3) := by decide +kernel
theorem dX7_reckon_68 : decode cX7_reckon 68 = .ok (.iload_n 1, 1) := by decide +kernel
theorem dX7_reckon_69 : decode cX7_reckon 69 = .ok (.invokevirtual 52, 3) := by decide +kernel
theorem dX7_reckon_72 : decode cX7_reckon 72 = .ok (.aload_n 0, 1) := by decide +kernel
theorem dX7_reckon_73 : decode cX7_reckon 73 = .ok (.getfield 31, 3) := by decide +kernel
theorem dX7_reckon_76 : decode cX7_reckon 76 = .ok (.iload_n 1, 1) := by decide +kernel
theorem dX7_reckon_77 : decode cX7_reckon 77 = .ok (.invokevirtual 56, 3) := by decide +kernel
theorem dX7_reckon_80 : decode cX7_reckon 80 = .ok (.invokevirtual 59, 3) := by decide +kernel
theorem dX7_reckon_83 : decode cX7_reckon 83 = .ok (.iastore, 1) := by decide +kernel
theorem dX7_reckon_84 : decode cX7_reckon 84 = .ok (.aload_n 0, 1) := by decide +kernel
theorem dX7_reckon_85 : decode cX7_reckon 85 = .ok (.getfield 21, 3) := by decide +kernel
theorem dX7_reckon_88 : decode cX7_reckon 88 = .ok (.iload_n 1, 1) := by decide +kernel
theorem dX7_reckon_89 : decode cX7_reckon 89 = .ok (.iconst 1, 1) := by decide +kernel
theorem dX7_reckon_90 : decode cX7_reckon 90 = .ok (.iadd, 1) := by decide +kernel
theorem dX7_reckon_91 : decode cX7_reckon 91 = .ok (.aload_n 0, 1) := by decide +kernel
theorem dX7_reckon_92 : decode cX7_reckon 92 = .ok (.getfield 21, 3) := by decide +kernel
theorem dX7_reckon_95 : decode cX7_reckon 95 = .ok (.iload_n 1, 1) := by decide +kernel
theorem dX7_reckon_96 : decode cX7_reckon 96 = .ok (.iaload, 1) := by decide +kernel
theorem dX7_reckon_97 : decode cX7_reckon 97 = .ok (.aload_n 0, 1) := by decide +kernel
theorem dX7_reckon_98 : decode cX7_reckon 98 = .ok (.iload_n 1, 1) := by decide +kernel
theorem dX7_reckon_99 : decode cX7_reckon 99 = .ok (.invokevirtual 63, 3) := by decide +kernel
theorem dX7_reckon_102 : decode cX7_reckon 102 = .ok (.iadd, 1) := by decide +kernel
theorem dX7_reckon_103 : decode cX7_reckon 103 = .ok (.iastore, 1) := by decide +kernel
theorem dX7_reckon_104 : decode cX7_reckon 104 = .ok (.aload_n 0, 1) := by decide +kernel
theorem dX7_reckon_105 : decode cX7_reckon 105 = .ok (.getfield 24, 3) := by decide +kernel
theorem dX7_reckon_108 : decode cX7_reckon 108 = .ok (.iload_n 1, 1) := by decide +kernel
theorem dX7_reckon_109 : decode cX7_reckon 109 = .ok (.iconst 1, 1) := by decide +kernel
theorem dX7_reckon_110 : decode cX7_reckon 110 = .ok (.iadd, 1) := by decide +kernel
theorem dX7_reckon_111 : decode cX7_reckon 111 = .ok (.aload_n 0, 1) := by decide +kernel
theorem dX7_reckon_112 : decode cX7_reckon 112 = .ok (.getfield 24, 3) := by decide +kernel
theorem dX7_reckon_115 : decode cX7_reckon 115 = .ok (.iload_n 1, 1) := by decide +kernel
theorem dX7_reckon_116 : decode cX7_reckon 116 = .ok (.iaload, 1) := by decide +kernel
theorem dX7_reckon_117 : decode cX7_reckon 117 = .ok (.aload_n 0, 1) := by decide +kernel
theorem dX7_reckon_118 : decode cX7_reckon 118 = .ok (.getfield 9, 3) := by decide +kernel
theorem dX7_reckon_121 : decode cX7_reckon 121 = .ok (.iload_n 1, 1) := by decide +kernel
theorem dX7_reckon_122 : decode cX7_reckon 122 = .ok (.iaload, 1) := by decide +kernel
theorem dX7_reckon_123 : decode cX7_reckon 123 = .ok (.iadd, 1) := by decide +kernel
theorem dX7_reckon_124 : decode cX7_reckon 124 = .ok (.iastore, 1) := by decide +kernel
theorem dX7_reckon_125 : decode cX7_reckon 125 = .ok (.iinc 1 1, 3) := by decide +kernel
theorem dX7_reckon_128 : decode cX7_reckon 128 = .ok (.goto (-126), 3) := by decide +kernel
theorem dX7_reckon_131 : decode cX7_reckon 131 = .ok (.return_, 1) := by decide +kernel
theorem dX7_floors_0 : decode cX7_floors 0 = .ok (.aload_n 0, 1) := by decide +kernel
theorem dX7_floors_1 : decode cX7_floors 1 = .ok (.getfield 31, 3) := by decide +kernel
theorem dX7_floors_4 : decode cX7_floors 4 = .ok (.getfield 35, 3) := by decide +kernel
theorem dX7_floors_7 : decode cX7_floors 7 = .ok (.ireturn, 1) := by decide +kernel
theorem dX7_built_0 : decode cX7_built 0 = .ok (.aload_n 0, 1) := by decide +kernel
theorem dX7_built_1 : decode cX7_built 1 = .ok (.getfield 15, 3) := by decide +kernel
theorem dX7_built_4 : decode cX7_built 4 = .ok (.iload_n 1, 1) := by decide +kernel
theorem dX7_built_5 : decode cX7_built 5 = .ok (.iaload, 1) := by decide +kernel
theorem dX7_built_6 : decode cX7_built 6 = .ok (.aload_n 0, 1) := by decide +kernel
theorem dX7_built_7 : decode cX7_built 7 = .ok (.getfield 18, 3) := by decide +kernel
theorem dX7_built_10 : decode cX7_built 10 = .ok (.iload_n 1, 1) := by decide +kernel
theorem dX7_built_11 : decode cX7_built 11 = .ok (.iaload, 1) := by decide +kernel
theorem dX7_built_12 : decode cX7_built 12 = .ok (.iadd, 1) := by decide +kernel
theorem dX7_built_13 : decode cX7_built 13 = .ok (.ireturn, 1) := by decide +kernel
theorem dX7_off_0 : decode cX7_off 0 = .ok (.aload_n 0, 1) := by decide +kernel
theorem dX7_off_1 : decode cX7_off 1 = .ok (.getfield 21, 3) := by decide +kernel
theorem dX7_off_4 : decode cX7_off 4 = .ok (.iload_n 1, 1) := by decide +kernel
theorem dX7_off_5 : decode cX7_off 5 = .ok (.iaload, 1) := by decide +kernel
theorem dX7_off_6 : decode cX7_off 6 = .ok (.aload_n 0, 1) := by decide +kernel
theorem dX7_off_7 : decode cX7_off 7 = .ok (.getfield 24, 3) := by decide +kernel
theorem dX7_off_10 : decode cX7_off 10 = .ok (.iload_n 1, 1) := by decide +kernel
theorem dX7_off_11 : decode cX7_off 11 = .ok (.iaload, 1) := by decide +kernel
theorem dX7_off_12 : decode cX7_off 12 = .ok (.isub, 1) := by decide +kernel
theorem dX7_off_13 : decode cX7_off 13 = .ok (.ireturn, 1) := by decide +kernel
theorem dX7_missBy_0 : decode cX7_missBy 0 = .ok (.iconst 0, 1) := by decide +kernel
theorem dX7_missBy_1 : decode cX7_missBy 1 = .ok (.istore_n 2, 1) := by decide +kernel
theorem dX7_missBy_2 : decode cX7_missBy 2 = .ok (.iconst 0, 1) := by decide +kernel
theorem dX7_missBy_3 : decode cX7_missBy 3 = .ok (.istore_n 3, 1) := by decide +kernel
theorem dX7_missBy_4 : decode cX7_missBy 4 = .ok (.iload_n 3, 1) := by decide +kernel
theorem dX7_missBy_5 : decode cX7_missBy 5 = .ok (.aload_n 0, 1) := by decide +kernel
theorem dX7_missBy_6 : decode cX7_missBy 6 = .ok (.getfield 31, 3) := by decide +kernel
theorem dX7_missBy_9 : decode cX7_missBy 9 = .ok (.getfield 35, 3) := by decide +kernel
theorem dX7_missBy_12 : decode cX7_missBy 12 = .ok (.if_icmp .ge 40, 3) := by decide +kernel
theorem dX7_missBy_15 : decode cX7_missBy 15 = .ok (.aload_n 0, 1) := by decide +kernel
theorem dX7_missBy_16 : decode cX7_missBy 16 = .ok (.getfield 31, 3) := by decide +kernel
theorem dX7_missBy_19 : decode cX7_missBy 19 = .ok (.iload_n 3, 1) := by decide +kernel
theorem dX7_missBy_20 : decode cX7_missBy 20 = .ok (.invokevirtual 52, 3) := by decide +kernel
theorem dX7_missBy_23 : decode cX7_missBy 23 = .ok (.iload_n 1, 1) := by decide +kernel
theorem dX7_missBy_24 : decode cX7_missBy 24 = .ok (.if_icmp .ne 22, 3) := by decide +kernel
theorem dX7_missBy_27 : decode cX7_missBy 27 = .ok (.iload_n 2, 1) := by decide +kernel
theorem dX7_missBy_28 : decode cX7_missBy 28 = .ok (.aload_n 0, 1) := by decide +kernel
theorem dX7_missBy_29 : decode cX7_missBy 29 = .ok (.getfield 15, 3) := by decide +kernel
theorem dX7_missBy_32 : decode cX7_missBy 32 = .ok (.iload_n 3, 1) := by decide +kernel
theorem dX7_missBy_33 : decode cX7_missBy 33 = .ok (.iaload, 1) := by decide +kernel
theorem dX7_missBy_34 : decode cX7_missBy 34 = .ok (.aload_n 0, 1) := by decide +kernel
theorem dX7_missBy_35 : decode cX7_missBy 35 = .ok (.getfield 9, 3) := by decide +kernel
theorem dX7_missBy_38 : decode cX7_missBy 38 = .ok (.iload_n 3, 1) := by decide +kernel
theorem dX7_missBy_39 : decode cX7_missBy 39 = .ok (.iaload, 1) := by decide +kernel
theorem dX7_missBy_40 : decode cX7_missBy 40 = .ok (.isub, 1) := by decide +kernel
theorem dX7_missBy_41 : decode cX7_missBy 41 = .ok (.invokestatic 66, 3) := by decide +kernel
theorem dX7_missBy_44 : decode cX7_missBy 44 = .ok (.iadd, 1) := by decide +kernel
theorem dX7_missBy_45 : decode cX7_missBy 45 = .ok (.istore_n 2, 1) := by decide +kernel
theorem dX7_missBy_46 : decode cX7_missBy 46 = .ok (.iinc 3 1, 3) := by decide +kernel
theorem dX7_missBy_49 : decode cX7_missBy 49 = .ok (.goto (-45), 3) := by decide +kernel
theorem dX7_missBy_52 : decode cX7_missBy 52 = .ok (.iload_n 2, 1) := by decide +kernel
theorem dX7_missBy_53 : decode cX7_missBy 53 = .ok (.ireturn, 1) := by decide +kernel
theorem dX8_init_0 : decode cX8_init 0 = .ok (.aload_n 0, 1) := by decide +kernel
theorem dX8_init_1 : decode cX8_init 1 = .ok (.invokespecial 1, 3) := by decide +kernel
theorem dX8_init_4 : decode cX8_init 4 = .ok (.aload_n 0, 1) := by decide +kernel
theorem dX8_init_5 : decode cX8_init 5 = .ok (.iconst 4, 1) := by decide +kernel
theorem dX8_init_6 : decode cX8_init 6 = .ok (.newarray .int, 2) := by decide +kernel
theorem dX8_init_8 : decode cX8_init 8 = .ok (.dup, 1) := by decide +kernel
theorem dX8_init_9 : decode cX8_init 9 = .ok (.iconst 0, 1) := by decide +kernel
theorem dX8_init_10 : decode cX8_init 10 = .ok (.iconst 0, 1) := by decide +kernel
theorem dX8_init_11 : decode cX8_init 11 = .ok (.iastore, 1) := by decide +kernel
theorem dX8_init_12 : decode cX8_init 12 = .ok (.dup, 1) := by decide +kernel
theorem dX8_init_13 : decode cX8_init 13 = .ok (.iconst 1, 1) := by decide +kernel
theorem dX8_init_14 : decode cX8_init 14 = .ok (.sipush 200, 3) := by decide +kernel
theorem dX8_init_17 : decode cX8_init 17 = .ok (.iastore, 1) := by decide +kernel
theorem dX8_init_18 : decode cX8_init 18 = .ok (.dup, 1) := by decide +kernel
theorem dX8_init_19 : decode cX8_init 19 = .ok (.iconst 2, 1) := by decide +kernel
theorem dX8_init_20 : decode cX8_init 20 = .ok (.iconst 2, 1) := by decide +kernel
theorem dX8_init_21 : decode cX8_init 21 = .ok (.iastore, 1) := by decide +kernel
theorem dX8_init_22 : decode cX8_init 22 = .ok (.dup, 1) := by decide +kernel
theorem dX8_init_23 : decode cX8_init 23 = .ok (.iconst 3, 1) := by decide +kernel
theorem dX8_init_24 : decode cX8_init 24 = .ok (.iconst 5, 1) := by decide +kernel
theorem dX8_init_25 : decode cX8_init 25 = .ok (.iastore, 1) := by decide +kernel
theorem dX8_init_26 : decode cX8_init 26 = .ok (.putfield 7, 3) := by decide +kernel
theorem dX8_init_29 : decode cX8_init 29 = .ok (.aload_n 0, 1) := by decide +kernel
theorem dX8_init_30 : decode cX8_init 30 = .ok (.new 13, 3) := by decide +kernel
theorem dX8_init_33 : decode cX8_init 33 = .ok (.dup, 1) := by decide +kernel
theorem dX8_init_34 : decode cX8_init 34 = .ok (.invokespecial 15, 3) := by decide +kernel
theorem dX8_init_37 : decode cX8_init 37 = .ok (.putfield 16, 3) := by decide +kernel
theorem dX8_init_40 : decode cX8_init 40 = .ok (.aload_n 0, 1) := by decide +kernel
theorem dX8_init_41 : decode cX8_init 41 = .ok (.new 20, 3) := by decide +kernel
theorem dX8_init_44 : decode cX8_init 44 = .ok (.dup, 1) := by decide +kernel
theorem dX8_init_45 : decode cX8_init 45 = .ok (.invokespecial 22, 3) := by decide +kernel
theorem dX8_init_48 : decode cX8_init 48 = .ok (.putfield 23, 3) := by decide +kernel
theorem dX8_init_51 : decode cX8_init 51 = .ok (.aload_n 0, 1) := by decide +kernel
theorem dX8_init_52 : decode cX8_init 52 = .ok (.new 27, 3) := by decide +kernel
theorem dX8_init_55 : decode cX8_init 55 = .ok (.dup, 1) := by decide +kernel
theorem dX8_init_56 : decode cX8_init 56 = .ok (.aload_n 0, 1) := by decide +kernel
theorem dX8_init_57 : decode cX8_init 57 = .ok (.getfield 16, 3) := by decide +kernel
theorem dX8_init_60 : decode cX8_init 60 = .ok (.aload_n 0, 1) := by decide +kernel
theorem dX8_init_61 : decode cX8_init 61 = .ok (.getfield 23, 3) := by decide +kernel
theorem dX8_init_64 : decode cX8_init 64 = .ok (.invokespecial 29, 3) := by decide +kernel
theorem dX8_init_67 : decode cX8_init 67 = .ok (.putfield 32, 3) := by decide +kernel
theorem dX8_init_70 : decode cX8_init 70 = .ok (.aload_n 0, 1) := by decide +kernel
theorem dX8_init_71 : decode cX8_init 71 = .ok (.new 36, 3) := by decide +kernel
theorem dX8_init_74 : decode cX8_init 74 = .ok (.dup, 1) := by decide +kernel
theorem dX8_init_75 : decode cX8_init 75 = .ok (.aload_n 0, 1) := by decide +kernel
theorem dX8_init_76 : decode cX8_init 76 = .ok (.getfield 16, 3) := by decide +kernel
theorem dX8_init_79 : decode cX8_init 79 = .ok (.aload_n 0, 1) := by decide +kernel
theorem dX8_init_80 : decode cX8_init 80 = .ok (.getfield 32, 3) := by decide +kernel
theorem dX8_init_83 : decode cX8_init 83 = .ok (.invokespecial 38, 3) := by decide +kernel
theorem dX8_init_86 : decode cX8_init 86 = .ok (.putfield 41, 3) := by decide +kernel
theorem dX8_init_89 : decode cX8_init 89 = .ok (.aload_n 0, 1) := by decide +kernel
theorem dX8_init_90 : decode cX8_init 90 = .ok (.new 45, 3) := by decide +kernel
theorem dX8_init_93 : decode cX8_init 93 = .ok (.dup, 1) := by decide +kernel
theorem dX8_init_94 : decode cX8_init 94 = .ok (.invokespecial 47, 3) := by decide +kernel
theorem dX8_init_97 : decode cX8_init 97 = .ok (.putfield 48, 3) := by decide +kernel
theorem dX8_init_100 : decode cX8_init 100 = .ok (.aload_n 0, 1) := by decide +kernel
theorem dX8_init_101 : decode cX8_init 101 = .ok (.new 52, 3) := by decide +kernel
theorem dX8_init_104 : decode cX8_init 104 = .ok (.dup, 1) := by decide +kernel
theorem dX8_init_105 : decode cX8_init 105 = .ok (.invokespecial 54, 3) := by decide +kernel
theorem dX8_init_108 : decode cX8_init 108 = .ok (.putfield 55, 3) := by decide +kernel
theorem dX8_init_111 : decode cX8_init 111 = .ok (.aload_n 0, 1) := by decide +kernel
theorem dX8_init_112 : decode cX8_init 112 = .ok (.new 59, 3) := by decide +kernel
theorem dX8_init_115 : decode cX8_init 115 = .ok (.dup, 1) := by decide +kernel
theorem dX8_init_116 : decode cX8_init 116 = .ok (.aload_n 0, 1) := by decide +kernel
theorem dX8_init_117 : decode cX8_init 117 = .ok (.getfield 32, 3) := by decide +kernel
theorem dX8_init_120 : decode cX8_init 120 = .ok (.invokespecial 61, 3) := by decide +kernel
theorem dX8_init_123 : decode cX8_init 123 = .ok (.putfield 64, 3) := by decide +kernel
theorem dX8_init_126 : decode cX8_init 126 = .ok (.aload_n 0, 1) := by decide +kernel
theorem dX8_init_127 : decode cX8_init 127 = .ok (.iconst 4, 1) := by decide +kernel
theorem dX8_init_128 : decode cX8_init 128 = .ok (.anewarray 68, 3) := by decide +kernel
theorem dX8_init_131 : decode cX8_init 131 = .ok (.putfield 70, 3) := by decide +kernel
theorem dX8_init_134 : decode cX8_init 134 = .ok (.iconst 0, 1) := by decide +kernel
theorem dX8_init_135 : decode cX8_init 135 = .ok (.istore_n 1, 1) := by decide +kernel
theorem dX8_init_136 : decode cX8_init 136 = .ok (.iload_n 1, 1) := by decide +kernel
theorem dX8_init_137 : decode cX8_init 137 = .ok (.iconst 4, 1) := by decide +kernel
theorem dX8_init_138 : decode cX8_init 138 = .ok (.if_icmp .ge 22, 3) := by decide +kernel
theorem dX8_init_141 : decode cX8_init 141 = .ok (.aload_n 0, 1) := by decide +kernel
theorem dX8_init_142 : decode cX8_init 142 = .ok (.getfield 70, 3) := by decide +kernel
theorem dX8_init_145 : decode cX8_init 145 = .ok (.iload_n 1, 1) := by decide +kernel
theorem dX8_init_146 : decode cX8_init 146 = .ok (.new 68, 3) := by decide +kernel
theorem dX8_init_149 : decode cX8_init 149 = .ok (.dup, 1) := by decide +kernel
theorem dX8_init_150 : decode cX8_init 150 = .ok (.invokespecial 74, 3) := by decide +kernel
theorem dX8_init_153 : decode cX8_init 153 = .ok (.aastore, 1) := by decide +kernel
theorem dX8_init_154 : decode cX8_init 154 = .ok (.iinc 1 1, 3) := by decide +kernel
theorem dX8_init_157 : decode cX8_init 157 = .ok (.goto (-21), 3) := by decide +kernel
theorem dX8_init_160 : decode cX8_init 160 = .ok (.return_, 1) := by decide +kernel
theorem dX8_measure_0 : decode cX8_measure 0 = .ok (.iload_n 1, 1) := by decide +kernel
theorem dX8_measure_1 : decode cX8_measure 1 = .ok (.invokestatic 75, 3) := by decide +kernel
theorem dX8_measure_4 : decode cX8_measure 4 = .ok (.ifCond .eq 32, 3) := by decide +kernel
theorem dX8_measure_7 : decode cX8_measure 7 = .ok (.iload_n 2, 1) := by decide +kernel
theorem dX8_measure_8 : decode cX8_measure 8 = .ok (.iconst 0, 1) := by decide +kernel
theorem dX8_measure_9 : decode cX8_measure 9 = .ok (.iconst 1, 1) := by decide +kernel
theorem dX8_measure_10 : decode cX8_measure 10 = .ok (.invokestatic 79, 3) := by decide +kernel
theorem dX8_measure_13 : decode cX8_measure 13 = .ok (.ifCond .eq 23, 3) := by decide +kernel
theorem dX8_measure_16 : decode cX8_measure 16 = .ok (.iload_n 3, 1) := by decide +kernel
theorem dX8_measure_17 : decode cX8_measure 17 = .ok (.iconst 1, 1) := by decide +kernel
theorem dX8_measure_18 : decode cX8_measure 18 = .ok (.iload_n 2, 1) := by decide +kernel
theorem dX8_measure_19 : decode cX8_measure 19 = .ok (.ifCond .ne 9, 3) := by decide +kernel
theorem dX8_measure_22 : decode cX8_measure 22 = .ok (.sipush 999, 3) := by decide +kernel
theorem dX8_measure_25 : decode cX8_measure 25 = .ok (.goto 5, 3) := by decide +kernel
theorem dX8_measure_28 : decode cX8_measure 28 = .ok (.bipush 9, 2) := by decide +kernel
theorem dX8_measure_30 : decode cX8_measure 30 = .ok (.invokestatic 79, 3) := by decide +kernel
theorem dX8_measure_33 : decode cX8_measure 33 = .ok (.ifCond .ne 6, 3) := by decide +kernel
theorem dX8_measure_36 : decode cX8_measure 36 = .ok (.bipush (-2), 2) := by decide +kernel
theorem dX8_measure_38 : decode cX8_measure 38 = .ok (.ireturn, 1) := by decide +kernel
theorem dX8_measure_39 : decode cX8_measure 39 = .ok (.aload_n 0, 1) := by decide +kernel
theorem dX8_measure_40 : decode cX8_measure 40 = .ok (.getfield 16, 3) := by decide +kernel
theorem dX8_measure_43 : decode cX8_measure 43 = .ok (.iload_n 1, 1) := by decide +kernel
theorem dX8_measure_44 : decode cX8_measure 44 = .ok (.iload_n 2, 1) := by decide +kernel
theorem dX8_measure_45 : decode cX8_measure 45 = .ok (.iload_n 3, 1) := by decide +kernel
theorem dX8_measure_46 : decode cX8_measure 46 = .ok (.invokevirtual 83, 3) := by decide +kernel
theorem dX8_measure_49 : decode cX8_measure 49 = .ok (.istore 4, 2) := by decide +kernel
theorem dX8_measure_51 : decode cX8_measure 51 = .ok (.aload_n 0, 1) := by decide +kernel
theorem dX8_measure_52 : decode cX8_measure 52 = .ok (.getfield 32, 3) := by decide +kernel
theorem dX8_measure_55 : decode cX8_measure 55 = .ok (.invokevirtual 87, 3) := by decide +kernel
theorem dX8_measure_58 : decode cX8_measure 58 = .ok (.iload 4, 2) := by decide +kernel
theorem dX8_measure_60 : decode cX8_measure 60 = .ok (.ireturn, 1) := by decide +kernel
theorem dX8_type_0 : decode cX8_type 0 = .ok (.iload_n 1, 1) := by decide +kernel
theorem dX8_type_1 : decode cX8_type 1 = .ok (.iconst 0, 1) := by decide +kernel
theorem dX8_type_2 : decode cX8_type 2 = .ok (.sipush 255, 3) := by decide +kernel
theorem dX8_type_5 : decode cX8_type 5 = .ok (.invokestatic 79, 3) := by decide +kernel
theorem dX8_type_8 : decode cX8_type 8 = .ok (.ifCond .ne 6, 3) := by decide +kernel
theorem dX8_type_11 : decode cX8_type 11 = .ok (.bipush (-2), 2) := by decide +kernel
theorem dX8_type_13 : decode cX8_type 13 = .ok (.ireturn, 1) := by decide +kernel
theorem dX8_type_14 : decode cX8_type 14 = .ok (.aload_n 0, 1) := by decide +kernel
theorem dX8_type_15 : decode cX8_type 15 = .ok (.getfield 23, 3) := by decide +kernel
theorem dX8_type_18 : decode cX8_type 18 = .ok (.getfield 90, 3) := by decide +kernel
theorem dX8_type_21 : decode cX8_type 21 = .ok (.bipush 80, 2) := by decide +kernel
theorem dX8_type_23 : decode cX8_type 23 = .ok (.if_icmp .lt 6, 3) := by decide +kernel
theorem dX8_type_26 : decode cX8_type 26 = .ok (.bipush (-4), 2) := by decide +kernel
theorem dX8_type_28 : decode cX8_type 28 = .ok (.ireturn, 1) := by decide +kernel
theorem dX8_type_29 : decode cX8_type 29 = .ok (.aload_n 0, 1) := by decide +kernel
theorem dX8_type_30 : decode cX8_type 30 = .ok (.getfield 23, 3) := by decide +kernel
theorem dX8_type_33 : decode cX8_type 33 = .ok (.iload_n 1, 1) := by decide +kernel
theorem dX8_type_34 : decode cX8_type 34 = .ok (.invokevirtual 94, 3) := by decide +kernel
theorem dX8_type_37 : decode cX8_type 37 = .ok (.aload_n 0, 1) := by decide +kernel
theorem dX8_type_38 : decode cX8_type 38 = .ok (.getfield 32, 3) := by decide +kernel
theorem dX8_type_41 : decode cX8_type 41 = .ok (.invokevirtual 87, 3) := by decide +kernel
theorem dX8_type_44 : decode cX8_type 44 = .ok (.aload_n 0, 1) := by decide +kernel
theorem dX8_type_45 : decode cX8_type 45 = .ok (.getfield 23, 3) := by decide +kernel
theorem dX8_type_48 : decode cX8_type 48 = .ok (.getfield 90, 3) := by decide +kernel
theorem dX8_type_51 : decode cX8_type 51 = .ok (.ireturn, 1) := by decide +kernel
theorem dX8_wipe_0 : decode cX8_wipe 0 = .ok (.aload_n 0, 1) := by decide +kernel
theorem dX8_wipe_1 : decode cX8_wipe 1 = .ok (.getfield 23, 3) := by decide +kernel
theorem dX8_wipe_4 : decode cX8_wipe 4 = .ok (.getfield 90, 3) := by decide +kernel
theorem dX8_wipe_7 : decode cX8_wipe 7 = .ok (.istore_n 1, 1) := by decide +kernel
theorem dX8_wipe_8 : decode cX8_wipe 8 = .ok (.aload_n 0, 1) := by decide +kernel
theorem dX8_wipe_9 : decode cX8_wipe 9 = .ok (.getfield 23, 3) := by decide +kernel
theorem dX8_wipe_12 : decode cX8_wipe 12 = .ok (.invokevirtual 98, 3) := by decide +kernel
theorem dX8_wipe_15 : decode cX8_wipe 15 = .ok (.aload_n 0, 1) := by decide +kernel
theorem dX8_wipe_16 : decode cX8_wipe 16 = .ok (.getfield 32, 3) := by decide +kernel
theorem dX8_wipe_19 : decode cX8_wipe 19 = .ok (.invokevirtual 87, 3) := by decide +kernel
theorem dX8_wipe_22 : decode cX8_wipe 22 = .ok (.iload_n 1, 1) := by decide +kernel
theorem dX8_wipe_23 : decode cX8_wipe 23 = .ok (.ireturn, 1) := by decide +kernel
theorem dX8_fault_0 : decode cX8_fault 0 = .ok (.aload_n 0, 1) := by decide +kernel
theorem dX8_fault_1 : decode cX8_fault 1 = .ok (.getfield 23, 3) := by decide +kernel
theorem dX8_fault_4 : decode cX8_fault 4 = .ok (.getfield 101, 3) := by decide +kernel
theorem dX8_fault_7 : decode cX8_fault 7 = .ok (.ireturn, 1) := by decide +kernel
theorem dX8_floor_0 : decode cX8_floor 0 = .ok (.aload_n 0, 1) := by decide +kernel
theorem dX8_floor_1 : decode cX8_floor 1 = .ok (.iload_n 1, 1) := by decide +kernel
theorem dX8_floor_2 : decode cX8_floor 2 = .ok (.invokevirtual 104, 3) := by decide +kernel
theorem dX8_floor_5 : decode cX8_floor 5 = .ok (.ifCond .ne 6, 3) := by decide +kernel
theorem dX8_floor_8 : decode cX8_floor 8 = .ok (.ldc 107, 2) := by decide +kernel
theorem dX8_floor_10 : decode cX8_floor 10 = .ok (.ireturn, 1) := by decide +kernel
theorem dX8_floor_11 : decode cX8_floor 11 = .ok (.iload_n 2, 1) := by decide +kernel
theorem dX8_floor_12 : decode cX8_floor 12 = .ok (.tableswitch 97 0 5 #[40, 50, 59, 68, 77, 87], 40) := by decide +kernel
theorem dX8_floor_52 : decode cX8_floor 52 = .ok (.aload_n 0, 1) := by decide +kernel
theorem dX8_floor_53 : decode cX8_floor 53 = .ok (.getfield 32, 3) := by decide +kernel
theorem dX8_floor_56 : decode cX8_floor 56 = .ok (.getfield 108, 3) := by decide +kernel
theorem dX8_floor_59 : decode cX8_floor 59 = .ok (.iload_n 1, 1) := by decide +kernel
theorem dX8_floor_60 : decode cX8_floor 60 = .ok (.iaload, 1) := by decide +kernel
theorem dX8_floor_61 : decode cX8_floor 61 = .ok (.ireturn, 1) := by decide +kernel
theorem dX8_floor_62 : decode cX8_floor 62 = .ok (.aload_n 0, 1) := by decide +kernel
theorem dX8_floor_63 : decode cX8_floor 63 = .ok (.getfield 32, 3) := by decide +kernel
theorem dX8_floor_66 : decode cX8_floor 66 = .ok (.iload_n 1, 1) := by decide +kernel
theorem dX8_floor_67 : decode cX8_floor 67 = .ok (.invokevirtual 111, 3) := by decide +kernel
theorem dX8_floor_70 : decode cX8_floor 70 = .ok (.ireturn, 1) := by decide +kernel
theorem dX8_floor_71 : decode cX8_floor 71 = .ok (.aload_n 0, 1) := by decide +kernel
theorem dX8_floor_72 : decode cX8_floor 72 = .ok (.getfield 23, 3) := by decide +kernel
theorem dX8_floor_75 : decode cX8_floor 75 = .ok (.iload_n 1, 1) := by decide +kernel
theorem dX8_floor_76 : decode cX8_floor 76 = .ok (.invokevirtual 115, 3) := by decide +kernel
theorem dX8_floor_79 : decode cX8_floor 79 = .ok (.ireturn, 1) := by decide +kernel
theorem dX8_floor_80 : decode cX8_floor 80 = .ok (.aload_n 0, 1) := by decide +kernel
theorem dX8_floor_81 : decode cX8_floor 81 = .ok (.getfield 23, 3) := by decide +kernel
theorem dX8_floor_84 : decode cX8_floor 84 = .ok (.iload_n 1, 1) := by decide +kernel
theorem dX8_floor_85 : decode cX8_floor 85 = .ok (.invokevirtual 118, 3) := by decide +kernel
theorem dX8_floor_88 : decode cX8_floor 88 = .ok (.ireturn, 1) := by decide +kernel
theorem dX8_floor_89 : decode cX8_floor 89 = .ok (.aload_n 0, 1) := by decide +kernel
theorem dX8_floor_90 : decode cX8_floor 90 = .ok (.getfield 41, 3) := by decide +kernel
theorem dX8_floor_93 : decode cX8_floor 93 = .ok (.getfield 121, 3) := by decide +kernel
theorem dX8_floor_96 : decode cX8_floor 96 = .ok (.iload_n 1, 1) := by decide +kernel
theorem dX8_floor_97 : decode cX8_floor 97 = .ok (.iaload, 1) := by decide +kernel
theorem dX8_floor_98 : decode cX8_floor 98 = .ok (.ireturn, 1) := by decide +kernel
theorem dX8_floor_99 : decode cX8_floor 99 = .ok (.aload_n 0, 1) := by decide +kernel
theorem dX8_floor_100 : decode cX8_floor 100 = .ok (.getfield 32, 3) := by decide +kernel
theorem dX8_floor_103 : decode cX8_floor 103 = .ok (.getfield 124, 3) := by decide +kernel
theorem dX8_floor_106 : decode cX8_floor 106 = .ok (.iload_n 1, 1) := by decide +kernel
theorem dX8_floor_107 : decode cX8_floor 107 = .ok (.iaload, 1) := by decide +kernel
theorem dX8_floor_108 : decode cX8_floor 108 = .ok (.ireturn, 1) := by decide +kernel
theorem dX8_floor_109 : decode cX8_floor 109 = .ok (.ldc 107, 2) := by decide +kernel
theorem dX8_floor_111 : decode cX8_floor 111 = .ok (.ireturn, 1) := by decide +kernel
theorem dX8_cut_0 : decode cX8_cut 0 = .ok (.iload_n 1, 1) := by decide +kernel
theorem dX8_cut_1 : decode cX8_cut 1 = .ok (.iconst 0, 1) := by decide +kernel
theorem dX8_cut_2 : decode cX8_cut 2 = .ok (.ldc 127, 2) := by decide +kernel
theorem dX8_cut_4 : decode cX8_cut 4 = .ok (.invokestatic 79, 3) := by decide +kernel
theorem dX8_cut_7 : decode cX8_cut 7 = .ok (.ifCond .eq 19, 3) := by decide +kernel
theorem dX8_cut_10 : decode cX8_cut 10 = .ok (.iload_n 2, 1) := by decide +kernel
theorem dX8_cut_11 : decode cX8_cut 11 = .ok (.invokestatic 75, 3) := by decide +kernel
theorem dX8_cut_14 : decode cX8_cut 14 = .ok (.ifCond .eq 12, 3) := by decide +kernel
theorem dX8_cut_17 : decode cX8_cut 17 = .ok (.iload_n 3, 1) := by decide +kernel
theorem dX8_cut_18 : decode cX8_cut 18 = .ok (.iconst 0, 1) := by decide +kernel
theorem dX8_cut_19 : decode cX8_cut 19 = .ok (.iconst 2, 1) := by decide +kernel
theorem dX8_cut_20 : decode cX8_cut 20 = .ok (.invokestatic 79, 3) := by decide +kernel
theorem dX8_cut_23 : decode cX8_cut 23 = .ok (.ifCond .ne 6, 3) := by decide +kernel
theorem dX8_cut_26 : decode cX8_cut 26 = .ok (.bipush (-2), 2) := by decide +kernel
theorem dX8_cut_28 : decode cX8_cut 28 = .ok (.ireturn, 1) := by decide +kernel
theorem dX8_cut_29 : decode cX8_cut 29 = .ok (.aload_n 0, 1) := by decide +kernel
theorem dX8_cut_30 : decode cX8_cut 30 = .ok (.getfield 16, 3) := by decide +kernel
theorem dX8_cut_33 : decode cX8_cut 33 = .ok (.iload_n 1, 1) := by decide +kernel
theorem dX8_cut_34 : decode cX8_cut 34 = .ok (.iload_n 2, 1) := by decide +kernel
theorem dX8_cut_35 : decode cX8_cut 35 = .ok (.iload_n 3, 1) := by decide +kernel
theorem dX8_cut_36 : decode cX8_cut 36 = .ok (.invokevirtual 128, 3) := by decide +kernel
theorem dX8_cut_39 : decode cX8_cut 39 = .ok (.ireturn, 1) := by decide +kernel
theorem dX8_shim_0 : decode cX8_shim 0 = .ok (.iload_n 1, 1) := by decide +kernel
theorem dX8_shim_1 : decode cX8_shim 1 = .ok (.invokestatic 131, 3) := by decide +kernel
theorem dX8_shim_4 : decode cX8_shim 4 = .ok (.ifCond .eq 14, 3) := by decide +kernel
theorem dX8_shim_7 : decode cX8_shim 7 = .ok (.iload_n 2, 1) := by decide +kernel
theorem dX8_shim_8 : decode cX8_shim 8 = .ok (.bipush (-99), 2) := by decide +kernel
theorem dX8_shim_10 : decode cX8_shim 10 = .ok (.bipush 99, 2) := by decide +kernel
theorem dX8_shim_12 : decode cX8_shim 12 = .ok (.invokestatic 79, 3) := by decide +kernel
theorem dX8_shim_15 : decode cX8_shim 15 = .ok (.ifCond .ne 6, 3) := by decide +kernel
theorem dX8_shim_18 : decode cX8_shim 18 = .ok (.ldc 107, 2) := by decide +kernel
theorem dX8_shim_20 : decode cX8_shim 20 = .ok (.ireturn, 1) := by decide +kernel
theorem dX8_shim_21 : decode cX8_shim 21 = .ok (.aload_n 0, 1) := by decide +kernel
theorem dX8_shim_22 : decode cX8_shim 22 = .ok (.getfield 32, 3) := by decide +kernel
theorem dX8_shim_25 : decode cX8_shim 25 = .ok (.getfield 124, 3) := by decide +kernel
theorem dX8_shim_28 : decode cX8_shim 28 = .ok (.iload_n 1, 1) := by decide +kernel
theorem dX8_shim_29 : decode cX8_shim 29 = .ok (.iaload, 1) := by decide +kernel
theorem dX8_shim_30 : decode cX8_shim 30 = .ok (.istore_n 3, 1) := by decide +kernel
theorem dX8_shim_31 : decode cX8_shim 31 = .ok (.aload_n 0, 1) := by decide +kernel
theorem dX8_shim_32 : decode cX8_shim 32 = .ok (.getfield 32, 3) := by decide +kernel
theorem dX8_shim_35 : decode cX8_shim 35 = .ok (.getfield 124, 3) := by decide +kernel
theorem dX8_shim_38 : decode cX8_shim 38 = .ok (.iload_n 1, 1) := by decide +kernel
theorem dX8_shim_39 : decode cX8_shim 39 = .ok (.iload_n 2, 1) := by decide +kernel
theorem dX8_shim_40 : decode cX8_shim 40 = .ok (.iastore, 1) := by decide +kernel
theorem dX8_shim_41 : decode cX8_shim 41 = .ok (.aload_n 0, 1) := by decide +kernel
theorem dX8_shim_42 : decode cX8_shim 42 = .ok (.getfield 32, 3) := by decide +kernel
theorem dX8_shim_45 : decode cX8_shim 45 = .ok (.invokevirtual 87, 3) := by decide +kernel
theorem dX8_shim_48 : decode cX8_shim 48 = .ok (.iload_n 3, 1) := by decide +kernel
theorem dX8_shim_49 : decode cX8_shim 49 = .ok (.ireturn, 1) := by decide +kernel
theorem dX8_set_0 : decode cX8_set 0 = .ok (.iload_n 1, 1) := by decide +kernel
theorem dX8_set_1 : decode cX8_set 1 = .ok (.iconst 0, 1) := by decide +kernel
theorem dX8_set_2 : decode cX8_set 2 = .ok (.iconst 3, 1) := by decide +kernel
theorem dX8_set_3 : decode cX8_set 3 = .ok (.invokestatic 79, 3) := by decide +kernel
theorem dX8_set_6 : decode cX8_set 6 = .ok (.ifCond .eq 20, 3) := by decide +kernel
theorem dX8_set_9 : decode cX8_set 9 = .ok (.iload_n 2, 1) := by decide +kernel
theorem dX8_set_10 : decode cX8_set 10 = .ok (.getstatic 134, 3) := by decide +kernel
theorem dX8_set_13 : decode cX8_set 13 = .ok (.iload_n 1, 1) := by decide +kernel
theorem dX8_set_14 : decode cX8_set 14 = .ok (.iaload, 1) := by decide +kernel
theorem dX8_set_15 : decode cX8_set 15 = .ok (.getstatic 137, 3) := by decide +kernel
theorem dX8_set_18 : decode cX8_set 18 = .ok (.iload_n 1, 1) := by decide +kernel

theorem dX3_take_47 : decode cX3_take 47 = .ok (.iload_n 1, 1) := by decide +kernel
theorem dX3_take_48 : decode cX3_take 48 = .ok (.dup2, 1) := by decide +kernel
theorem dX3_take_49 : decode cX3_take 49 = .ok (.iaload, 1) := by decide +kernel
theorem dX3_take_50 : decode cX3_take 50 = .ok (.iload 5, 2) := by decide +kernel
theorem dX3_take_52 : decode cX3_take 52 = .ok (.isub, 1) := by decide +kernel
theorem dX3_take_53 : decode cX3_take 53 = .ok (.iastore, 1) := by decide +kernel
theorem dX3_take_54 : decode cX3_take 54 = .ok (.iload 5, 2) := by decide +kernel
theorem dX3_take_56 : decode cX3_take 56 = .ok (.ireturn, 1) := by decide +kernel
theorem dX3_takeFirst_0 : decode cX3_takeFirst 0 = .ok (.iload_n 2, 1) := by decide +kernel
theorem dX3_takeFirst_1 : decode cX3_takeFirst 1 = .ok (.aload_n 0, 1) := by decide +kernel
theorem dX3_takeFirst_2 : decode cX3_takeFirst 2 = .ok (.iload_n 1, 1) := by decide +kernel
theorem dX3_takeFirst_3 : decode cX3_takeFirst 3 = .ok (.invokevirtual 37, 3) := by decide +kernel
theorem dX3_takeFirst_6 : decode cX3_takeFirst 6 = .ok (.invokestatic 45, 3) := by decide +kernel
theorem dX3_takeFirst_9 : decode cX3_takeFirst 9 = .ok (.istore 4, 2) := by decide +kernel
theorem dX3_takeFirst_11 : decode cX3_takeFirst 11 = .ok (.iconst 0, 1) := by decide +kernel
theorem dX3_takeFirst_12 : decode cX3_takeFirst 12 = .ok (.istore 5, 2) := by decide +kernel
theorem dX3_takeFirst_14 : decode cX3_takeFirst 14 = .ok (.bipush 63, 2) := by decide +kernel
theorem dX3_takeFirst_16 : decode cX3_takeFirst 16 = .ok (.istore 6, 2) := by decide +kernel
theorem dX3_takeFirst_18 : decode cX3_takeFirst 18 = .ok (.iload 6, 2) := by decide +kernel
theorem dX3_takeFirst_20 : decode cX3_takeFirst 20 = .ok (.ifCond .lt 66, 3) := by decide +kernel
theorem dX3_takeFirst_23 : decode cX3_takeFirst 23 = .ok (.iload 5, 2) := by decide +kernel
theorem dX3_takeFirst_25 : decode cX3_takeFirst 25 = .ok (.iload 4, 2) := by decide +kernel
theorem dX3_takeFirst_27 : decode cX3_takeFirst 27 = .ok (.if_icmp .ge 59, 3) := by decide +kernel
theorem dX3_takeFirst_30 : decode cX3_takeFirst 30 = .ok (.iconst 0, 1) := by decide +kernel
theorem dX3_takeFirst_31 : decode cX3_takeFirst 31 = .ok (.istore 7, 2) := by decide +kernel
theorem dX3_takeFirst_33 : decode cX3_takeFirst 33 = .ok (.iload 7, 2) := by decide +kernel
theorem dX3_takeFirst_35 : decode cX3_takeFirst 35 = .ok (.iconst 3, 1) := by decide +kernel
theorem dX3_takeFirst_36 : decode cX3_takeFirst 36 = .ok (.if_icmp .ge 44, 3) := by decide +kernel
theorem dX3_takeFirst_39 : decode cX3_takeFirst 39 = .ok (.iload 7, 2) := by decide +kernel
theorem dX3_takeFirst_41 : decode cX3_takeFirst 41 = .ok (.iconst 1, 1) := by decide +kernel
theorem dX3_takeFirst_42 : decode cX3_takeFirst 42 = .ok (.if_icmp .ne 7, 3) := by decide +kernel
theorem dX3_takeFirst_45 : decode cX3_takeFirst 45 = .ok (.iconst 1, 1) := by decide +kernel
theorem dX3_takeFirst_46 : decode cX3_takeFirst 46 = .ok (.goto 4, 3) := by decide +kernel
theorem dX3_takeFirst_49 : decode cX3_takeFirst 49 = .ok (.iconst 0, 1) := by decide +kernel
theorem dX3_takeFirst_50 : decode cX3_takeFirst 50 = .ok (.iload_n 1, 1) := by decide +kernel
theorem dX3_takeFirst_51 : decode cX3_takeFirst 51 = .ok (.if_icmp .ne 23, 3) := by decide +kernel
theorem dX3_takeFirst_54 : decode cX3_takeFirst 54 = .ok (.iload 5, 2) := by decide +kernel
theorem dX3_takeFirst_56 : decode cX3_takeFirst 56 = .ok (.aload_n 0, 1) := by decide +kernel
theorem dX3_takeFirst_57 : decode cX3_takeFirst 57 = .ok (.iload 7, 2) := by decide +kernel
theorem dX3_takeFirst_59 : decode cX3_takeFirst 59 = .ok (.iload_n 3, 1) := by decide +kernel
theorem dX3_takeFirst_60 : decode cX3_takeFirst 60 = .ok (.iload 6, 2) := by decide +kernel
theorem dX3_takeFirst_62 : decode cX3_takeFirst 62 = .ok (.isub, 1) := by decide +kernel
theorem dX3_takeFirst_63 : decode cX3_takeFirst 63 = .ok (.iload 4, 2) := by decide +kernel
theorem dX3_takeFirst_65 : decode cX3_takeFirst 65 = .ok (.iload 5, 2) := by decide +kernel
theorem dX3_takeFirst_67 : decode cX3_takeFirst 67 = .ok (.isub, 1) := by decide +kernel
theorem dX3_takeFirst_68 : decode cX3_takeFirst 68 = .ok (.invokevirtual 50, 3) := by decide +kernel
theorem dX3_takeFirst_71 : decode cX3_takeFirst 71 = .ok (.iadd, 1) := by decide +kernel
theorem dX3_takeFirst_72 : decode cX3_takeFirst 72 = .ok (.istore 5, 2) := by decide +kernel
theorem dX3_takeFirst_74 : decode cX3_takeFirst 74 = .ok (.iinc 7 1, 3) := by decide +kernel
theorem dX3_takeFirst_77 : decode cX3_takeFirst 77 = .ok (.goto (-44), 3) := by decide +kernel
theorem dX3_takeFirst_80 : decode cX3_takeFirst 80 = .ok (.iinc 6 (-1), 3) := by decide +kernel
theorem dX3_takeFirst_83 : decode cX3_takeFirst 83 = .ok (.goto (-65), 3) := by decide +kernel
theorem dX3_takeFirst_86 : decode cX3_takeFirst 86 = .ok (.iload 5, 2) := by decide +kernel
theorem dX3_takeFirst_88 : decode cX3_takeFirst 88 = .ok (.ireturn, 1) := by decide +kernel
theorem dX3_carryFirst_0 : decode cX3_carryFirst 0 = .ok (.iload_n 2, 1) := by decide +kernel
theorem dX3_carryFirst_1 : decode cX3_carryFirst 1 = .ok (.istore 5, 2) := by decide +kernel
theorem dX3_carryFirst_3 : decode cX3_carryFirst 3 = .ok (.bipush 63, 2) := by decide +kernel
theorem dX3_carryFirst_5 : decode cX3_carryFirst 5 = .ok (.istore 6, 2) := by decide +kernel
theorem dX3_carryFirst_7 : decode cX3_carryFirst 7 = .ok (.iload 6, 2) := by decide +kernel
theorem dX3_carryFirst_9 : decode cX3_carryFirst 9 = .ok (.ifCond .lt 46, 3) := by decide +kernel
theorem dX3_carryFirst_12 : decode cX3_carryFirst 12 = .ok (.iload 5, 2) := by decide +kernel
theorem dX3_carryFirst_14 : decode cX3_carryFirst 14 = .ok (.ifCond .le 41, 3) := by decide +kernel
theorem dX3_carryFirst_17 : decode cX3_carryFirst 17 = .ok (.aload_n 0, 1) := by decide +kernel
theorem dX3_carryFirst_18 : decode cX3_carryFirst 18 = .ok (.iload_n 1, 1) := by decide +kernel
theorem dX3_carryFirst_19 : decode cX3_carryFirst 19 = .ok (.iload_n 3, 1) := by decide +kernel
theorem dX3_carryFirst_20 : decode cX3_carryFirst 20 = .ok (.iload 6, 2) := by decide +kernel
theorem dX3_carryFirst_22 : decode cX3_carryFirst 22 = .ok (.isub, 1) := by decide +kernel
theorem dX3_carryFirst_23 : decode cX3_carryFirst 23 = .ok (.iload 5, 2) := by decide +kernel
theorem dX3_carryFirst_25 : decode cX3_carryFirst 25 = .ok (.invokevirtual 50, 3) := by decide +kernel
theorem dX3_carryFirst_28 : decode cX3_carryFirst 28 = .ok (.istore 7, 2) := by decide +kernel
theorem dX3_carryFirst_30 : decode cX3_carryFirst 30 = .ok (.aload 4, 2) := by decide +kernel
theorem dX3_carryFirst_32 : decode cX3_carryFirst 32 = .ok (.iload_n 1, 1) := by decide +kernel
theorem dX3_carryFirst_33 : decode cX3_carryFirst 33 = .ok (.iload_n 3, 1) := by decide +kernel
theorem dX3_carryFirst_34 : decode cX3_carryFirst 34 = .ok (.iload 6, 2) := by decide +kernel
theorem dX3_carryFirst_36 : decode cX3_carryFirst 36 = .ok (.isub, 1) := by decide +kernel
theorem dX3_carryFirst_37 : decode cX3_carryFirst 37 = .ok (.iload 7, 2) := by decide +kernel
theorem dX3_carryFirst_39 : decode cX3_carryFirst 39 = .ok (.invokevirtual 54, 3) := by decide +kernel
theorem dX3_carryFirst_42 : decode cX3_carryFirst 42 = .ok (.iload 5, 2) := by decide +kernel
theorem dX3_carryFirst_44 : decode cX3_carryFirst 44 = .ok (.iload 7, 2) := by decide +kernel
theorem dX3_carryFirst_46 : decode cX3_carryFirst 46 = .ok (.isub, 1) := by decide +kernel
theorem dX3_carryFirst_47 : decode cX3_carryFirst 47 = .ok (.istore 5, 2) := by decide +kernel
theorem dX3_carryFirst_49 : decode cX3_carryFirst 49 = .ok (.iinc 6 (-1), 3) := by decide +kernel
theorem dX3_carryFirst_52 : decode cX3_carryFirst 52 = .ok (.goto (-45), 3) := by decide +kernel
theorem dX3_carryFirst_55 : decode cX3_carryFirst 55 = .ok (.return_, 1) := by decide +kernel
theorem dX3_throwOlder_0 : decode cX3_throwOlder 0 = .ok (.aload_n 0, 1) := by decide +kernel
theorem dX3_throwOlder_1 : decode cX3_throwOlder 1 = .ok (.invokevirtual 24, 3) := by decide +kernel
theorem dX3_throwOlder_4 : decode cX3_throwOlder 4 = .ok (.istore_n 3, 1) := by decide +kernel
theorem dX3_throwOlder_5 : decode cX3_throwOlder 5 = .ok (.iload_n 3, 1) := by decide +kernel
theorem dX3_throwOlder_6 : decode cX3_throwOlder 6 = .ok (.ifCond .ne 5, 3) := by decide +kernel
theorem dX3_throwOlder_9 : decode cX3_throwOlder 9 = .ok (.iconst 0, 1) := by decide +kernel
theorem dX3_throwOlder_10 : decode cX3_throwOlder 10 = .ok (.ireturn, 1) := by decide +kernel
theorem dX3_throwOlder_11 : decode cX3_throwOlder 11 = .ok (.iload_n 1, 1) := by decide +kernel
theorem dX3_throwOlder_12 : decode cX3_throwOlder 12 = .ok (.iconst 1, 1) := by decide +kernel
theorem dX3_throwOlder_13 : decode cX3_throwOlder 13 = .ok (.iadd, 1) := by decide +kernel
theorem dX3_throwOlder_14 : decode cX3_throwOlder 14 = .ok (.istore 4, 2) := by decide +kernel
theorem dX3_throwOlder_16 : decode cX3_throwOlder 16 = .ok (.iload 4, 2) := by decide +kernel
theorem dX3_throwOlder_18 : decode cX3_throwOlder 18 = .ok (.bipush 64, 2) := by decide +kernel
theorem dX3_throwOlder_20 : decode cX3_throwOlder 20 = .ok (.if_icmp .ge 36, 3) := by decide +kernel
theorem dX3_throwOlder_23 : decode cX3_throwOlder 23 = .ok (.iconst 0, 1) := by decide +kernel
theorem dX3_throwOlder_24 : decode cX3_throwOlder 24 = .ok (.istore 5, 2) := by decide +kernel
theorem dX3_throwOlder_26 : decode cX3_throwOlder 26 = .ok (.iload 5, 2) := by decide +kernel
theorem dX3_throwOlder_28 : decode cX3_throwOlder 28 = .ok (.iconst 3, 1) := by decide +kernel
theorem dX3_throwOlder_29 : decode cX3_throwOlder 29 = .ok (.if_icmp .ge 21, 3) := by decide +kernel
theorem dX3_throwOlder_32 : decode cX3_throwOlder 32 = .ok (.aload_n 0, 1) := by decide +kernel
theorem dX3_throwOlder_33 : decode cX3_throwOlder 33 = .ok (.iload 5, 2) := by decide +kernel
theorem dX3_throwOlder_35 : decode cX3_throwOlder 35 = .ok (.iload_n 2, 1) := by decide +kernel
theorem dX3_throwOlder_36 : decode cX3_throwOlder 36 = .ok (.iload 4, 2) := by decide +kernel
theorem dX3_throwOlder_38 : decode cX3_throwOlder 38 = .ok (.isub, 1) := by decide +kernel
theorem dX3_throwOlder_39 : decode cX3_throwOlder 39 = .ok (.iload_n 3, 1) := by decide +kernel
theorem dX3_throwOlder_40 : decode cX3_throwOlder 40 = .ok (.invokevirtual 50, 3) := by decide +kernel
theorem dX3_throwOlder_43 : decode cX3_throwOlder 43 = .ok (.pop, 1) := by decide +kernel
theorem dX3_throwOlder_44 : decode cX3_throwOlder 44 = .ok (.iinc 5 1, 3) := by decide +kernel
theorem dX3_throwOlder_47 : decode cX3_throwOlder 47 = .ok (.goto (-21), 3) := by decide +kernel
theorem dX3_throwOlder_50 : decode cX3_throwOlder 50 = .ok (.iinc 4 1, 3) := by decide +kernel
theorem dX3_throwOlder_53 : decode cX3_throwOlder 53 = .ok (.goto (-37), 3) := by decide +kernel
theorem dX3_throwOlder_56 : decode cX3_throwOlder 56 = .ok (.iload_n 3, 1) := by decide +kernel
theorem dX3_throwOlder_57 : decode cX3_throwOlder 57 = .ok (.aload_n 0, 1) := by decide +kernel
theorem dX3_throwOlder_58 : decode cX3_throwOlder 58 = .ok (.invokevirtual 24, 3) := by decide +kernel
theorem dX3_throwOlder_61 : decode cX3_throwOlder 61 = .ok (.isub, 1) := by decide +kernel
theorem dX3_throwOlder_62 : decode cX3_throwOlder 62 = .ok (.ireturn, 1) := by decide +kernel
theorem dX3_oldest_0 : decode cX3_oldest 0 = .ok (.aload_n 0, 1) := by decide +kernel
theorem dX3_oldest_1 : decode cX3_oldest 1 = .ok (.invokevirtual 24, 3) := by decide +kernel
theorem dX3_oldest_4 : decode cX3_oldest 4 = .ok (.ifCond .ne 5, 3) := by decide +kernel
theorem dX3_oldest_7 : decode cX3_oldest 7 = .ok (.iconst (-1), 1) := by decide +kernel
theorem dX3_oldest_8 : decode cX3_oldest 8 = .ok (.ireturn, 1) := by decide +kernel
theorem dX3_oldest_9 : decode cX3_oldest 9 = .ok (.bipush 63, 2) := by decide +kernel
theorem dX3_oldest_11 : decode cX3_oldest 11 = .ok (.istore_n 2, 1) := by decide +kernel
theorem dX3_oldest_12 : decode cX3_oldest 12 = .ok (.iload_n 2, 1) := by decide +kernel
theorem dX3_oldest_13 : decode cX3_oldest 13 = .ok (.ifCond .lt 41, 3) := by decide +kernel
theorem dX3_oldest_16 : decode cX3_oldest 16 = .ok (.iconst 0, 1) := by decide +kernel
theorem dX3_oldest_17 : decode cX3_oldest 17 = .ok (.istore_n 3, 1) := by decide +kernel
theorem dX3_oldest_18 : decode cX3_oldest 18 = .ok (.iload_n 3, 1) := by decide +kernel
theorem dX3_oldest_19 : decode cX3_oldest 19 = .ok (.iconst 3, 1) := by decide +kernel
theorem dX3_oldest_20 : decode cX3_oldest 20 = .ok (.if_icmp .ge 28, 3) := by decide +kernel
theorem dX3_oldest_23 : decode cX3_oldest 23 = .ok (.aload_n 0, 1) := by decide +kernel
theorem dX3_oldest_24 : decode cX3_oldest 24 = .ok (.getfield 11, 3) := by decide +kernel
theorem dX3_oldest_27 : decode cX3_oldest 27 = .ok (.iload_n 3, 1) := by decide +kernel
theorem dX3_oldest_28 : decode cX3_oldest 28 = .ok (.iload_n 1, 1) := by decide +kernel
theorem dX3_oldest_29 : decode cX3_oldest 29 = .ok (.iload_n 2, 1) := by decide +kernel
theorem dX3_oldest_30 : decode cX3_oldest 30 = .ok (.isub, 1) := by decide +kernel
theorem dX3_oldest_31 : decode cX3_oldest 31 = .ok (.invokestatic 41, 3) := by decide +kernel
theorem dX3_oldest_34 : decode cX3_oldest 34 = .ok (.iaload, 1) := by decide +kernel
theorem dX3_oldest_35 : decode cX3_oldest 35 = .ok (.ifCond .le 7, 3) := by decide +kernel
theorem dX3_oldest_38 : decode cX3_oldest 38 = .ok (.iload_n 1, 1) := by decide +kernel
theorem dX3_oldest_39 : decode cX3_oldest 39 = .ok (.iload_n 2, 1) := by decide +kernel
theorem dX3_oldest_40 : decode cX3_oldest 40 = .ok (.isub, 1) := by decide +kernel
theorem dX3_oldest_41 : decode cX3_oldest 41 = .ok (.ireturn, 1) := by decide +kernel
theorem dX3_oldest_42 : decode cX3_oldest 42 = .ok (.iinc 3 1, 3) := by decide +kernel
theorem dX3_oldest_45 : decode cX3_oldest 45 = .ok (.goto (-27), 3) := by decide +kernel
theorem dX3_oldest_48 : decode cX3_oldest 48 = .ok (.iinc 2 (-1), 3) := by decide +kernel
theorem dX3_oldest_51 : decode cX3_oldest 51 = .ok (.goto (-39), 3) := by decide +kernel
theorem dX3_oldest_54 : decode cX3_oldest 54 = .ok (.iconst (-1), 1) := by decide +kernel
theorem dX3_oldest_55 : decode cX3_oldest 55 = .ok (.ireturn, 1) := by decide +kernel
theorem dX4_init_0 : decode cX4_init 0 = .ok (.aload_n 0, 1) := by decide +kernel
theorem dX4_init_1 : decode cX4_init 1 = .ok (.invokespecial 3, 3) := by decide +kernel
theorem dX4_init_4 : decode cX4_init 4 = .ok (.aload_n 0, 1) := by decide +kernel
theorem dX4_init_5 : decode cX4_init 5 = .ok (.bipush 6, 2) := by decide +kernel
theorem dX4_init_7 : decode cX4_init 7 = .ok (.anewarray 9, 3) := by decide +kernel
theorem dX4_init_10 : decode cX4_init 10 = .ok (.putfield 11, 3) := by decide +kernel
theorem dX4_init_13 : decode cX4_init 13 = .ok (.iconst 0, 1) := by decide +kernel
theorem dX4_init_14 : decode cX4_init 14 = .ok (.istore_n 1, 1) := by decide +kernel
theorem dX4_init_15 : decode cX4_init 15 = .ok (.iload_n 1, 1) := by decide +kernel
theorem dX4_init_16 : decode cX4_init 16 = .ok (.bipush 6, 2) := by decide +kernel
theorem dX4_init_18 : decode cX4_init 18 = .ok (.if_icmp .ge 22, 3) := by decide +kernel
theorem dX4_init_21 : decode cX4_init 21 = .ok (.aload_n 0, 1) := by decide +kernel
theorem dX4_init_22 : decode cX4_init 22 = .ok (.getfield 11, 3) := by decide +kernel
theorem dX4_init_25 : decode cX4_init 25 = .ok (.iload_n 1, 1) := by decide +kernel
theorem dX4_init_26 : decode cX4_init 26 = .ok (.new 9, 3) := by decide +kernel
theorem dX4_init_29 : decode cX4_init 29 = .ok (.dup, 1) := by decide +kernel
theorem dX4_init_30 : decode cX4_init 30 = .ok (.invokespecial 17, 3) := by decide +kernel
theorem dX4_init_33 : decode cX4_init 33 = .ok (.aastore, 1) := by decide +kernel
theorem dX4_init_34 : decode cX4_init 34 = .ok (.iinc 1 1, 3) := by decide +kernel
theorem dX4_init_37 : decode cX4_init 37 = .ok (.goto (-22), 3) := by decide +kernel
theorem dX4_init_40 : decode cX4_init 40 = .ok (.return_, 1) := by decide +kernel
theorem dX4_keep_0 : decode cX4_keep 0 = .ok (.aload_n 0, 1) := by decide +kernel
theorem dX4_keep_1 : decode cX4_keep 1 = .ok (.getfield 11, 3) := by decide +kernel
theorem dX4_keep_4 : decode cX4_keep 4 = .ok (.aload_n 0, 1) := by decide +kernel
theorem dX4_keep_5 : decode cX4_keep 5 = .ok (.getfield 18, 3) := by decide +kernel
theorem dX4_keep_8 : decode cX4_keep 8 = .ok (.aaload, 1) := by decide +kernel
theorem dX4_keep_9 : decode cX4_keep 9 = .ok (.aload_n 1, 1) := by decide +kernel
theorem dX4_keep_10 : decode cX4_keep 10 = .ok (.invokevirtual 22, 3) := by decide +kernel
theorem dX4_keep_13 : decode cX4_keep 13 = .ok (.aload_n 0, 1) := by decide +kernel
theorem dX4_keep_14 : decode cX4_keep 14 = .ok (.aload_n 0, 1) := by decide +kernel
theorem dX4_keep_15 : decode cX4_keep 15 = .ok (.getfield 18, 3) := by decide +kernel
theorem dX4_keep_18 : decode cX4_keep 18 = .ok (.iconst 1, 1) := by decide +kernel
theorem dX4_keep_19 : decode cX4_keep 19 = .ok (.iadd, 1) := by decide +kernel
theorem dX4_keep_20 : decode cX4_keep 20 = .ok (.bipush 6, 2) := by decide +kernel
theorem dX4_keep_22 : decode cX4_keep 22 = .ok (.if_icmp .ge 12, 3) := by decide +kernel
theorem dX4_keep_25 : decode cX4_keep 25 = .ok (.aload_n 0, 1) := by decide +kernel
theorem dX4_keep_26 : decode cX4_keep 26 = .ok (.getfield 18, 3) := by decide +kernel
theorem dX4_keep_29 : decode cX4_keep 29 = .ok (.iconst 1, 1) := by decide +kernel
theorem dX4_keep_30 : decode cX4_keep 30 = .ok (.iadd, 1) := by decide +kernel
theorem dX4_keep_31 : decode cX4_keep 31 = .ok (.goto 4, 3) := by decide +kernel
theorem dX4_keep_34 : decode cX4_keep 34 = .ok (.iconst 0, 1) := by decide +kernel
theorem dX4_keep_35 : decode cX4_keep 35 = .ok (.putfield 18, 3) := by decide +kernel
theorem dX4_keep_38 : decode cX4_keep 38 = .ok (.aload_n 0, 1) := by decide +kernel
theorem dX4_keep_39 : decode cX4_keep 39 = .ok (.bipush 6, 2) := by decide +kernel
theorem dX4_keep_41 : decode cX4_keep 41 = .ok (.aload_n 0, 1) := by decide +kernel
theorem dX4_keep_42 : decode cX4_keep 42 = .ok (.getfield 26, 3) := by decide +kernel
theorem dX4_keep_45 : decode cX4_keep 45 = .ok (.iconst 1, 1) := by decide +kernel
theorem dX4_keep_46 : decode cX4_keep 46 = .ok (.iadd, 1) := by decide +kernel
theorem dX4_keep_47 : decode cX4_keep 47 = .ok (.invokestatic 29, 3) := by decide +kernel
theorem dX4_keep_50 : decode cX4_keep 50 = .ok (.putfield 26, 3) := by decide +kernel
theorem dX4_keep_53 : decode cX4_keep 53 = .ok (.return_, 1) := by decide +kernel
theorem dX5_init_0 : decode cX5_init 0 = .ok (.aload_n 0, 1) := by decide +kernel
theorem dX5_init_1 : decode cX5_init 1 = .ok (.invokespecial 3, 3) := by decide +kernel
theorem dX5_init_4 : decode cX5_init 4 = .ok (.aload_n 0, 1) := by decide +kernel
theorem dX5_init_5 : decode cX5_init 5 = .ok (.iconst 4, 1) := by decide +kernel
theorem dX5_init_6 : decode cX5_init 6 = .ok (.newarray .int, 2) := by decide +kernel
theorem dX5_init_8 : decode cX5_init 8 = .ok (.putfield 11, 3) := by decide +kernel
theorem dX5_init_11 : decode cX5_init 11 = .ok (.return_, 1) := by decide +kernel
theorem dX6_init_0 : decode cX6_init 0 = .ok (.aload_n 0, 1) := by decide +kernel
theorem dX6_init_1 : decode cX6_init 1 = .ok (.invokespecial 3, 3) := by decide +kernel
theorem dX6_init_4 : decode cX6_init 4 = .ok (.aload_n 0, 1) := by decide +kernel
theorem dX6_init_5 : decode cX6_init 5 = .ok (.iconst 0, 1) := by decide +kernel
theorem dX6_init_6 : decode cX6_init 6 = .ok (.putfield 9, 3) := by decide +kernel
theorem dX6_init_9 : decode cX6_init 9 = .ok (.aload_n 0, 1) := by decide +kernel
theorem dX6_init_10 : decode cX6_init 10 = .ok (.iconst (-1), 1) := by decide +kernel
theorem dX6_init_11 : decode cX6_init 11 = .ok (.putfield 15, 3) := by decide +kernel
theorem dX6_init_14 : decode cX6_init 14 = .ok (.return_, 1) := by decide +kernel
theorem dX6_copyFrom_0 : decode cX6_copyFrom 0 = .ok (.aload_n 0, 1) := by decide +kernel
theorem dX6_copyFrom_1 : decode cX6_copyFrom 1 = .ok (.aload_n 1, 1) := by decide +kernel
theorem dX6_copyFrom_2 : decode cX6_copyFrom 2 = .ok (.getfield 9, 3) := by decide +kernel
theorem dX6_copyFrom_5 : decode cX6_copyFrom 5 = .ok (.putfield 9, 3) := by decide +kernel
theorem dX6_copyFrom_8 : decode cX6_copyFrom 8 = .ok (.aload_n 0, 1) := by decide +kernel
theorem dX6_copyFrom_9 : decode cX6_copyFrom 9 = .ok (.aload_n 1, 1) := by decide +kernel
theorem dX6_copyFrom_10 : decode cX6_copyFrom 10 = .ok (.getfield 18, 3) := by decide +kernel
theorem dX6_copyFrom_13 : decode cX6_copyFrom 13 = .ok (.putfield 18, 3) := by decide +kernel
theorem dX6_copyFrom_16 : decode cX6_copyFrom 16 = .ok (.aload_n 0, 1) := by decide +kernel
theorem dX6_copyFrom_17 : decode cX6_copyFrom 17 = .ok (.aload_n 1, 1) := by decide +kernel
theorem dX6_copyFrom_18 : decode cX6_copyFrom 18 = .ok (.getfield 21, 3) := by decide +kernel
theorem dX6_copyFrom_21 : decode cX6_copyFrom 21 = .ok (.putfield 21, 3) := by decide +kernel
theorem dX6_copyFrom_24 : decode cX6_copyFrom 24 = .ok (.aload_n 0, 1) := by decide +kernel
theorem dX6_copyFrom_25 : decode cX6_copyFrom 25 = .ok (.aload_n 1, 1) := by decide +kernel
theorem dX6_copyFrom_26 : decode cX6_copyFrom 26 = .ok (.getfield 24, 3) := by decide +kernel
theorem dX6_copyFrom_29 : decode cX6_copyFrom 29 = .ok (.putfield 24, 3) := by decide +kernel
theorem dX6_copyFrom_32 : decode cX6_copyFrom 32 = .ok (.aload_n 0, 1) := by decide +kernel
theorem dX6_copyFrom_33 : decode cX6_copyFrom 33 = .ok (.aload_n 1, 1) := by decide +kernel
theorem dX6_copyFrom_34 : decode cX6_copyFrom 34 = .ok (.getfield 27, 3) := by decide +kernel
theorem dX6_copyFrom_37 : decode cX6_copyFrom 37 = .ok (.putfield 27, 3) := by decide +kernel
theorem dX6_copyFrom_40 : decode cX6_copyFrom 40 = .ok (.aload_n 0, 1) := by decide +kernel
theorem dX6_copyFrom_41 : decode cX6_copyFrom 41 = .ok (.aload_n 1, 1) := by decide +kernel
theorem dX6_copyFrom_42 : decode cX6_copyFrom 42 = .ok (.getfield 30, 3) := by decide +kernel
theorem dX6_copyFrom_45 : decode cX6_copyFrom 45 = .ok (.putfield 30, 3) := by decide +kernel
theorem dX6_copyFrom_48 : decode cX6_copyFrom 48 = .ok (.aload_n 0, 1) := by decide +kernel
theorem dX6_copyFrom_49 : decode cX6_copyFrom 49 = .ok (.aload_n 1, 1) := by decide +kernel
theorem dX6_copyFrom_50 : decode cX6_copyFrom 50 = .ok (.getfield 33, 3) := by decide +kernel
theorem dX6_copyFrom_53 : decode cX6_copyFrom 53 = .ok (.putfield 33, 3) := by decide +kernel
theorem dX6_copyFrom_56 : decode cX6_copyFrom 56 = .ok (.aload_n 0, 1) := by decide +kernel
theorem dX6_copyFrom_57 : decode cX6_copyFrom 57 = .ok (.aload_n 1, 1) := by decide +kernel
theorem dX6_copyFrom_58 : decode cX6_copyFrom 58 = .ok (.getfield 36, 3) := by decide +kernel
theorem dX6_copyFrom_61 : decode cX6_copyFrom 61 = .ok (.putfield 36, 3) := by decide +kernel
theorem dX6_copyFrom_64 : decode cX6_copyFrom 64 = .ok (.aload_n 0, 1) := by decide +kernel
theorem dX6_copyFrom_65 : decode cX6_copyFrom 65 = .ok (.aload_n 1, 1) := by decide +kernel
theorem dX6_copyFrom_66 : decode cX6_copyFrom 66 = .ok (.getfield 15, 3) := by decide +kernel
theorem dX6_copyFrom_69 : decode cX6_copyFrom 69 = .ok (.putfield 15, 3) := by decide +kernel
theorem dX6_copyFrom_72 : decode cX6_copyFrom 72 = .ok (.aload_n 0, 1) := by decide +kernel
theorem dX6_copyFrom_73 : decode cX6_copyFrom 73 = .ok (.aload_n 1, 1) := by decide +kernel
theorem dX6_copyFrom_74 : decode cX6_copyFrom 74 = .ok (.getfield 39, 3) := by decide +kernel
theorem dX6_copyFrom_77 : decode cX6_copyFrom 77 = .ok (.putfield 39, 3) := by decide +kernel
theorem dX6_copyFrom_80 : decode cX6_copyFrom 80 = .ok (.aload_n 0, 1) := by decide +kernel
theorem dX6_copyFrom_81 : decode cX6_copyFrom 81 = .ok (.aload_n 1, 1) := by decide +kernel
theorem dX6_copyFrom_82 : decode cX6_copyFrom 82 = .ok (.getfield 42, 3) := by decide +kernel
theorem dX6_copyFrom_85 : decode cX6_copyFrom 85 = .ok (.putfield 42, 3) := by decide +kernel
theorem dX6_copyFrom_88 : decode cX6_copyFrom 88 = .ok (.aload_n 0, 1) := by decide +kernel
theorem dX6_copyFrom_89 : decode cX6_copyFrom 89 = .ok (.aload_n 1, 1) := by decide +kernel
theorem dX6_copyFrom_90 : decode cX6_copyFrom 90 = .ok (.getfield 45, 3) := by decide +kernel
theorem dX6_copyFrom_93 : decode cX6_copyFrom 93 = .ok (.putfield 45, 3) := by decide +kernel
theorem dX6_copyFrom_96 : decode cX6_copyFrom 96 = .ok (.return_, 1) := by decide +kernel
theorem dX6_owed_0 : decode cX6_owed 0 = .ok (.aload_n 0, 1) := by decide +kernel
theorem dX6_owed_1 : decode cX6_owed 1 = .ok (.getfield 33, 3) := by decide +kernel
theorem dX6_owed_4 : decode cX6_owed 4 = .ok (.aload_n 0, 1) := by decide +kernel
theorem dX6_owed_5 : decode cX6_owed 5 = .ok (.getfield 36, 3) := by decide +kernel
theorem dX6_owed_8 : decode cX6_owed 8 = .ok (.iadd, 1) := by decide +kernel
theorem dX6_owed_9 : decode cX6_owed 9 = .ok (.ireturn, 1) := by decide +kernel
theorem dX6_waiting_0 : decode cX6_waiting 0 = .ok (.aload_n 0, 1) := by decide +kernel
theorem dX6_waiting_1 : decode cX6_waiting 1 = .ok (.getfield 15, 3) := by decide +kernel
theorem dX6_waiting_4 : decode cX6_waiting 4 = .ok (.iconst (-1), 1) := by decide +kernel
theorem dX6_waiting_5 : decode cX6_waiting 5 = .ok (.if_icmp .ne 7, 3) := by decide +kernel
theorem dX6_waiting_8 : decode cX6_waiting 8 = .ok (.iconst (-1), 1) := by decide +kernel
theorem dX6_waiting_9 : decode cX6_waiting 9 = .ok (.goto 9, 3) := by decide +kernel
theorem dX6_waiting_12 : decode cX6_waiting 12 = .ok (.iload_n 1, 1) := by decide +kernel
theorem dX6_waiting_13 : decode cX6_waiting 13 = .ok (.aload_n 0, 1) := by decide +kernel
theorem dX6_waiting_14 : decode cX6_waiting 14 = .ok (.getfield 15, 3) := by decide +kernel
theorem dX6_waiting_17 : decode cX6_waiting 17 = .ok (.isub, 1) := by decide +kernel
theorem dX6_waiting_18 : decode cX6_waiting 18 = .ok (.ireturn, 1) := by decide +kernel
theorem dX6_callToEat_0 : decode cX6_callToEat 0 = .ok (.aload_n 0, 1) := by decide +kernel
theorem dX6_callToEat_1 : decode cX6_callToEat 1 = .ok (.getfield 15, 3) := by decide +kernel
theorem dX6_callToEat_4 : decode cX6_callToEat 4 = .ok (.iconst (-1), 1) := by decide +kernel
theorem dX6_callToEat_5 : decode cX6_callToEat 5 = .ok (.if_icmp .ne 8, 3) := by decide +kernel
theorem dX6_callToEat_8 : decode cX6_callToEat 8 = .ok (.aload_n 0, 1) := by decide +kernel
theorem dX6_callToEat_9 : decode cX6_callToEat 9 = .ok (.iload_n 1, 1) := by decide +kernel
theorem dX6_callToEat_10 : decode cX6_callToEat 10 = .ok (.putfield 15, 3) := by decide +kernel
theorem dX6_callToEat_13 : decode cX6_callToEat 13 = .ok (.aload_n 0, 1) := by decide +kernel
theorem dX6_callToEat_14 : decode cX6_callToEat 14 = .ok (.dup, 1) := by decide +kernel
theorem dX6_callToEat_15 : decode cX6_callToEat 15 = .ok (.getfield 33, 3) := by decide +kernel
theorem dX6_callToEat_18 : decode cX6_callToEat 18 = .ok (.aload_n 0, 1) := by decide +kernel
theorem dX6_callToEat_19 : decode cX6_callToEat 19 = .ok (.getfield 24, 3) := by decide +kernel
theorem dX6_callToEat_22 : decode cX6_callToEat 22 = .ok (.iadd, 1) := by decide +kernel
theorem dX6_callToEat_23 : decode cX6_callToEat 23 = .ok (.putfield 33, 3) := by decide +kernel
theorem dX6_callToEat_26 : decode cX6_callToEat 26 = .ok (.aload_n 0, 1) := by decide +kernel
theorem dX6_callToEat_27 : decode cX6_callToEat 27 = .ok (.dup, 1) := by decide +kernel
theorem dX6_callToEat_28 : decode cX6_callToEat 28 = .ok (.getfield 36, 3) := by decide +kernel
theorem dX6_callToEat_31 : decode cX6_callToEat 31 = .ok (.aload_n 0, 1) := by decide +kernel
theorem dX6_callToEat_32 : decode cX6_callToEat 32 = .ok (.getfield 21, 3) := by decide +kernel
theorem dX6_callToEat_35 : decode cX6_callToEat 35 = .ok (.aload_n 0, 1) := by decide +kernel
theorem dX6_callToEat_36 : decode cX6_callToEat 36 = .ok (.getfield 24, 3) := by decide +kernel
theorem dX6_callToEat_39 : decode cX6_callToEat 39 = .ok (.isub, 1) := by decide +kernel
theorem dX6_callToEat_40 : decode cX6_callToEat 40 = .ok (.iadd, 1) := by decide +kernel
theorem dX6_callToEat_41 : decode cX6_callToEat 41 = .ok (.putfield 36, 3) := by decide +kernel
theorem dX6_callToEat_44 : decode cX6_callToEat 44 = .ok (.aload_n 0, 1) := by decide +kernel
theorem dX6_callToEat_45 : decode cX6_callToEat 45 = .ok (.dup, 1) := by decide +kernel
theorem dX6_callToEat_46 : decode cX6_callToEat 46 = .ok (.getfield 27, 3) := by decide +kernel
theorem dX6_callToEat_49 : decode cX6_callToEat 49 = .ok (.aload_n 0, 1) := by decide +kernel
theorem dX6_callToEat_50 : decode cX6_callToEat 50 = .ok (.getfield 30, 3) := by decide +kernel
theorem dX6_callToEat_53 : decode cX6_callToEat 53 = .ok (.iadd, 1) := by decide +kernel
theorem dX6_callToEat_54 : decode cX6_callToEat 54 = .ok (.putfield 27, 3) := by decide +kernel
theorem dX6_callToEat_57 : decode cX6_callToEat 57 = .ok (.return_, 1) := by decide +kernel
theorem dX6_serveGreens_0 : decode cX6_serveGreens 0 = .ok (.aload_n 0, 1) := by decide +kernel
theorem dX6_serveGreens_1 : decode cX6_serveGreens 1 = .ok (.dup, 1) := by decide +kernel
theorem dX6_serveGreens_2 : decode cX6_serveGreens 2 = .ok (.getfield 33, 3) := by decide +kernel
theorem dX6_serveGreens_5 : decode cX6_serveGreens 5 = .ok (.iload_n 1, 1) := by decide +kernel
theorem dX6_serveGreens_6 : decode cX6_serveGreens 6 = .ok (.isub, 1) := by decide +kernel
theorem dX6_serveGreens_7 : decode cX6_serveGreens 7 = .ok (.putfield 33, 3) := by decide +kernel
theorem dX6_serveGreens_10 : decode cX6_serveGreens 10 = .ok (.aload_n 0, 1) := by decide +kernel
theorem dX6_serveGreens_11 : decode cX6_serveGreens 11 = .ok (.iload_n 1, 1) := by decide +kernel
theorem dX6_serveGreens_12 : decode cX6_serveGreens 12 = .ok (.invokevirtual 48, 3) := by decide +kernel
theorem dX6_serveGreens_15 : decode cX6_serveGreens 15 = .ok (.return_, 1) := by decide +kernel
theorem dX6_serveOthers_0 : decode cX6_serveOthers 0 = .ok (.aload_n 0, 1) := by decide +kernel
theorem dX6_serveOthers_1 : decode cX6_serveOthers 1 = .ok (.dup, 1) := by decide +kernel
theorem dX6_serveOthers_2 : decode cX6_serveOthers 2 = .ok (.getfield 36, 3) := by decide +kernel
theorem dX6_serveOthers_5 : decode cX6_serveOthers 5 = .ok (.iload_n 1, 1) := by decide +kernel
theorem dX6_serveOthers_6 : decode cX6_serveOthers 6 = .ok (.isub, 1) := by decide +kernel
theorem dX6_serveOthers_7 : decode cX6_serveOthers 7 = .ok (.putfield 36, 3) := by decide +kernel
theorem dX6_serveOthers_10 : decode cX6_serveOthers 10 = .ok (.aload_n 0, 1) := by decide +kernel
theorem dX6_serveOthers_11 : decode cX6_serveOthers 11 = .ok (.iload_n 1, 1) := by decide +kernel
theorem dX6_serveOthers_12 : decode cX6_serveOthers 12 = .ok (.invokevirtual 48, 3) := by decide +kernel
theorem dX6_serveOthers_15 : decode cX6_serveOthers 15 = .ok (.return_, 1) := by decide +kernel
theorem dX6_noteServed_0 : decode cX6_noteServed 0 = .ok (.aload_n 0, 1) := by decide +kernel
theorem dX6_noteServed_1 : decode cX6_noteServed 1 = .ok (.dup, 1) := by decide +kernel
theorem dX6_noteServed_2 : decode cX6_noteServed 2 = .ok (.getfield 39, 3) := by decide +kernel
theorem dX6_noteServed_5 : decode cX6_noteServed 5 = .ok (.iload_n 1, 1) := by decide +kernel
theorem dX6_noteServed_6 : decode cX6_noteServed 6 = .ok (.iadd, 1) := by decide +kernel
theorem dX6_noteServed_7 : decode cX6_noteServed 7 = .ok (.putfield 39, 3) := by decide +kernel
theorem dX6_noteServed_10 : decode cX6_noteServed 10 = .ok (.aload_n 0, 1) := by decide +kernel
theorem dX6_noteServed_11 : decode cX6_noteServed 11 = .ok (.invokevirtual 52, 3) := by decide +kernel
theorem dX6_noteServed_14 : decode cX6_noteServed 14 = .ok (.ifCond .ne 8, 3) := by decide +kernel
theorem dX6_noteServed_17 : decode cX6_noteServed 17 = .ok (.aload_n 0, 1) := by decide +kernel
theorem dX6_noteServed_18 : decode cX6_noteServed 18 = .ok (.iconst (-1), 1) := by decide +kernel
theorem dX6_noteServed_19 : decode cX6_noteServed 19 = .ok (.putfield 15, 3) := by decide +kernel
theorem dX6_noteServed_22 : decode cX6_noteServed 22 = .ok (.return_, 1) := by decide +kernel
theorem dX6_takeIn_0 : decode cX6_takeIn 0 = .ok (.aload_n 0, 1) := by decide +kernel
theorem dX6_takeIn_1 : decode cX6_takeIn 1 = .ok (.dup, 1) := by decide +kernel
theorem dX6_takeIn_2 : decode cX6_takeIn 2 = .ok (.getfield 21, 3) := by decide +kernel
theorem dX6_takeIn_5 : decode cX6_takeIn 5 = .ok (.aload_n 1, 1) := by decide +kernel
theorem dX6_takeIn_6 : decode cX6_takeIn 6 = .ok (.getfield 21, 3) := by decide +kernel
theorem dX6_takeIn_9 : decode cX6_takeIn 9 = .ok (.iadd, 1) := by decide +kernel
theorem dX6_takeIn_10 : decode cX6_takeIn 10 = .ok (.putfield 21, 3) := by decide +kernel
theorem dX6_takeIn_13 : decode cX6_takeIn 13 = .ok (.aload_n 0, 1) := by decide +kernel
theorem dX6_takeIn_14 : decode cX6_takeIn 14 = .ok (.dup, 1) := by decide +kernel
theorem dX6_takeIn_15 : decode cX6_takeIn 15 = .ok (.getfield 24, 3) := by decide +kernel
theorem dX6_takeIn_18 : decode cX6_takeIn 18 = .ok (.aload_n 1, 1) := by decide +kernel
theorem dX6_takeIn_19 : decode cX6_takeIn 19 = .ok (.getfield 24, 3) := by decide +kernel
theorem dX6_takeIn_22 : decode cX6_takeIn 22 = .ok (.iadd, 1) := by decide +kernel
theorem dX6_takeIn_23 : decode cX6_takeIn 23 = .ok (.putfield 24, 3) := by decide +kernel
theorem dX6_takeIn_26 : decode cX6_takeIn 26 = .ok (.aload_n 0, 1) := by decide +kernel
theorem dX6_takeIn_27 : decode cX6_takeIn 27 = .ok (.dup, 1) := by decide +kernel
theorem dX6_takeIn_28 : decode cX6_takeIn 28 = .ok (.getfield 33, 3) := by decide +kernel
theorem dX6_takeIn_31 : decode cX6_takeIn 31 = .ok (.aload_n 1, 1) := by decide +kernel
theorem dX6_takeIn_32 : decode cX6_takeIn 32 = .ok (.getfield 33, 3) := by decide +kernel
theorem dX6_takeIn_35 : decode cX6_takeIn 35 = .ok (.iadd, 1) := by decide +kernel
theorem dX6_takeIn_36 : decode cX6_takeIn 36 = .ok (.putfield 33, 3) := by decide +kernel
theorem dX6_takeIn_39 : decode cX6_takeIn 39 = .ok (.aload_n 0, 1) := by decide +kernel
theorem dX6_takeIn_40 : decode cX6_takeIn 40 = .ok (.dup, 1) := by decide +kernel
theorem dX6_takeIn_41 : decode cX6_takeIn 41 = .ok (.getfield 36, 3) := by decide +kernel
theorem dX6_takeIn_44 : decode cX6_takeIn 44 = .ok (.aload_n 1, 1) := by decide +kernel
theorem dX6_takeIn_45 : decode cX6_takeIn 45 = .ok (.getfield 36, 3) := by decide +kernel
theorem dX6_takeIn_48 : decode cX6_takeIn 48 = .ok (.iadd, 1) := by decide +kernel
theorem dX6_takeIn_49 : decode cX6_takeIn 49 = .ok (.putfield 36, 3) := by decide +kernel
theorem dX6_takeIn_52 : decode cX6_takeIn 52 = .ok (.aload_n 0, 1) := by decide +kernel
theorem dX6_takeIn_53 : decode cX6_takeIn 53 = .ok (.getfield 15, 3) := by decide +kernel
theorem dX6_takeIn_56 : decode cX6_takeIn 56 = .ok (.iconst (-1), 1) := by decide +kernel
theorem dX6_takeIn_57 : decode cX6_takeIn 57 = .ok (.if_icmp .ne 14, 3) := by decide +kernel
theorem dX6_takeIn_60 : decode cX6_takeIn 60 = .ok (.aload_n 0, 1) := by decide +kernel
theorem dX6_takeIn_61 : decode cX6_takeIn 61 = .ok (.aload_n 1, 1) := by decide +kernel
theorem dX6_takeIn_62 : decode cX6_takeIn 62 = .ok (.getfield 15, 3) := by decide +kernel
theorem dX6_takeIn_65 : decode cX6_takeIn 65 = .ok (.putfield 15, 3) := by decide +kernel
theorem dX6_takeIn_68 : decode cX6_takeIn 68 = .ok (.goto 26, 3) := by decide +kernel
theorem dX6_takeIn_71 : decode cX6_takeIn 71 = .ok (.aload_n 1, 1) := by decide +kernel
theorem dX6_takeIn_72 : decode cX6_takeIn 72 = .ok (.getfield 15, 3) := by decide +kernel
theorem dX6_takeIn_75 : decode cX6_takeIn 75 = .ok (.iconst (-1), 1) := by decide +kernel
theorem dX6_takeIn_76 : decode cX6_takeIn 76 = .ok (.if_icmp .eq 18, 3) := by decide +kernel
theorem dX6_takeIn_79 : decode cX6_takeIn 79 = .ok (.aload_n 0, 1) := by decide +kernel
theorem dX6_takeIn_80 : decode cX6_takeIn 80 = .ok (.aload_n 0, 1) := by decide +kernel
theorem dX6_takeIn_81 : decode cX6_takeIn 81 = .ok (.getfield 15, 3) := by decide +kernel
theorem dX6_takeIn_84 : decode cX6_takeIn 84 = .ok (.aload_n 1, 1) := by decide +kernel
theorem dX6_takeIn_85 : decode cX6_takeIn 85 = .ok (.getfield 15, 3) := by decide +kernel
theorem dX6_takeIn_88 : decode cX6_takeIn 88 = .ok (.invokestatic 56, 3) := by decide +kernel
theorem dX6_takeIn_91 : decode cX6_takeIn 91 = .ok (.putfield 15, 3) := by decide +kernel
theorem dX6_takeIn_94 : decode cX6_takeIn 94 = .ok (.return_, 1) := by decide +kernel
theorem dX6_leave_0 : decode cX6_leave 0 = .ok (.aload_n 0, 1) := by decide +kernel
theorem dX6_leave_1 : decode cX6_leave 1 = .ok (.iload_n 1, 1) := by decide +kernel
theorem dX6_leave_2 : decode cX6_leave 2 = .ok (.putfield 9, 3) := by decide +kernel
theorem dX6_leave_5 : decode cX6_leave 5 = .ok (.aload_n 0, 1) := by decide +kernel
theorem dX6_leave_6 : decode cX6_leave 6 = .ok (.iconst 0, 1) := by decide +kernel
theorem dX6_leave_7 : decode cX6_leave 7 = .ok (.putfield 21, 3) := by decide +kernel
theorem dX6_leave_10 : decode cX6_leave 10 = .ok (.aload_n 0, 1) := by decide +kernel
theorem dX6_leave_11 : decode cX6_leave 11 = .ok (.iconst 0, 1) := by decide +kernel
theorem dX6_leave_12 : decode cX6_leave 12 = .ok (.putfield 24, 3) := by decide +kernel
theorem dX6_leave_15 : decode cX6_leave 15 = .ok (.aload_n 0, 1) := by decide +kernel
theorem dX6_leave_16 : decode cX6_leave 16 = .ok (.iconst 0, 1) := by decide +kernel
theorem dX6_leave_17 : decode cX6_leave 17 = .ok (.putfield 33, 3) := by decide +kernel
theorem dX6_leave_20 : decode cX6_leave 20 = .ok (.aload_n 0, 1) := by decide +kernel
theorem dX6_leave_21 : decode cX6_leave 21 = .ok (.iconst 0, 1) := by decide +kernel
theorem dX6_leave_22 : decode cX6_leave 22 = .ok (.putfield 36, 3) := by decide +kernel
theorem dX6_leave_25 : decode cX6_leave 25 = .ok (.aload_n 0, 1) := by decide +kernel
theorem dX6_leave_26 : decode cX6_leave 26 = .ok (.iconst (-1), 1) := by decide +kernel
theorem dX6_leave_27 : decode cX6_leave 27 = .ok (.putfield 15, 3) := by decide +kernel
theorem dX6_leave_30 : decode cX6_leave 30 = .ok (.return_, 1) := by decide +kernel
theorem dX6_property_0 : decode cX6_property 0 = .ok (.aload_n 0, 1) := by decide +kernel
theorem dX6_property_1 : decode cX6_property 1 = .ok (.getfield 9, 3) := by decide +kernel
theorem dX6_property_4 : decode cX6_property 4 = .ok (.ifCond .eq 16, 3) := by decide +kernel
theorem dX6_property_7 : decode cX6_property 7 = .ok (.iload_n 1, 1) := by decide +kernel
theorem dX6_property_8 : decode cX6_property 8 = .ok (.iconst 1, 1) := by decide +kernel
theorem dX6_property_9 : decode cX6_property 9 = .ok (.if_icmp .lt 11, 3) := by decide +kernel
theorem dX6_property_12 : decode cX6_property 12 = .ok (.iload_n 1, 1) := by decide +kernel
theorem dX6_property_13 : decode cX6_property 13 = .ok (.bipush 8, 2) := by decide +kernel
theorem dX6_property_15 : decode cX6_property 15 = .ok (.if_icmp .gt 5, 3) := by decide +kernel
theorem dX6_property_18 : decode cX6_property 18 = .ok (.iconst (-1), 1) := by decide +kernel
theorem dX6_property_19 : decode cX6_property 19 = .ok (.ireturn, 1) := by decide +kernel
theorem dX6_property_20 : decode cX6_property 20 = .ok (.iload_n 1, 1) := by decide +kernel
theorem dX6_property_21 : decode cX6_property 21 = .ok (.tableswitch 114 0 10 #[59, 64, 69, 74, 79, 84, 89, 94, 99, 104, 109], 59) := by decide +kernel
theorem dX6_property_80 : decode cX6_property 80 = .ok (.aload_n 0, 1) := by decide +kernel
theorem dX6_property_81 : decode cX6_property 81 = .ok (.getfield 9, 3) := by decide +kernel
theorem dX6_property_84 : decode cX6_property 84 = .ok (.ireturn, 1) := by decide +kernel
theorem dX6_property_85 : decode cX6_property 85 = .ok (.aload_n 0, 1) := by decide +kernel
theorem dX6_property_86 : decode cX6_property 86 = .ok (.getfield 18, 3) := by decide +kernel
theorem dX6_property_89 : decode cX6_property 89 = .ok (.ireturn, 1) := by decide +kernel
theorem dX6_property_90 : decode cX6_property 90 = .ok (.aload_n 0, 1) := by decide +kernel
theorem dX6_property_91 : decode cX6_property 91 = .ok (.getfield 21, 3) := by decide +kernel
theorem dX6_property_94 : decode cX6_property 94 = .ok (.ireturn, 1) := by decide +kernel
theorem dX6_property_95 : decode cX6_property 95 = .ok (.aload_n 0, 1) := by decide +kernel
theorem dX6_property_96 : decode cX6_property 96 = .ok (.getfield 24, 3) := by decide +kernel
theorem dX6_property_99 : decode cX6_property 99 = .ok (.ireturn, 1) := by decide +kernel
theorem dX6_property_100 : decode cX6_property 100 = .ok (.aload_n 0, 1) := by decide +kernel
theorem dX6_property_101 : decode cX6_property 101 = .ok (.getfield 27, 3) := by decide +kernel
theorem dX6_property_104 : decode cX6_property 104 = .ok (.ireturn, 1) := by decide +kernel
theorem dX6_property_105 : decode cX6_property 105 = .ok (.aload_n 0, 1) := by decide +kernel
theorem dX6_property_106 : decode cX6_property 106 = .ok (.getfield 30, 3) := by decide +kernel
theorem dX6_property_109 : decode cX6_property 109 = .ok (.ireturn, 1) := by decide +kernel
theorem dX6_property_110 : decode cX6_property 110 = .ok (.aload_n 0, 1) := by decide +kernel
theorem dX6_property_111 : decode cX6_property 111 = .ok (.getfield 33, 3) := by decide +kernel
theorem dX6_property_114 : decode cX6_property 114 = .ok (.ireturn, 1) := by decide +kernel
theorem dX6_property_115 : decode cX6_property 115 = .ok (.aload_n 0, 1) := by decide +kernel
theorem dX6_property_116 : decode cX6_property 116 = .ok (.getfield 36, 3) := by decide +kernel
theorem dX6_property_119 : decode cX6_property 119 = .ok (.ireturn, 1) := by decide +kernel
theorem dX6_property_120 : decode cX6_property 120 = .ok (.aload_n 0, 1) := by decide +kernel
theorem dX6_property_121 : decode cX6_property 121 = .ok (.getfield 15, 3) := by decide +kernel
theorem dX6_property_124 : decode cX6_property 124 = .ok (.ireturn, 1) := by decide +kernel
theorem dX6_property_125 : decode cX6_property 125 = .ok (.aload_n 0, 1) := by decide +kernel
theorem dX6_property_126 : decode cX6_property 126 = .ok (.getfield 39, 3) := by decide +kernel
theorem dX6_property_129 : decode cX6_property 129 = .ok (.ireturn, 1) := by decide +kernel
theorem dX6_property_130 : decode cX6_property 130 = .ok (.aload_n 0, 1) := by decide +kernel
theorem dX6_property_131 : decode cX6_property 131 = .ok (.getfield 42, 3) := by decide +kernel
theorem dX6_property_134 : decode cX6_property 134 = .ok (.ireturn, 1) := by decide +kernel
theorem dX6_property_135 : decode cX6_property 135 = .ok (.aload_n 0, 1) := by decide +kernel
theorem dX6_property_136 : decode cX6_property 136 = .ok (.getfield 45, 3) := by decide +kernel
theorem dX6_property_139 : decode cX6_property 139 = .ok (.ireturn, 1) := by decide +kernel
theorem dX7_init_0 : decode cX7_init 0 = .ok (.aload_n 0, 1) := by decide +kernel
theorem dX7_init_1 : decode cX7_init 1 = .ok (.invokespecial 1, 3) := by decide +kernel
theorem dX7_init_4 : decode cX7_init 4 = .ok (.aload_n 0, 1) := by decide +kernel
theorem dX7_init_5 : decode cX7_init 5 = .ok (.new 7, 3) := by decide +kernel
theorem dX7_init_8 : decode cX7_init 8 = .ok (.dup, 1) := by decide +kernel
theorem dX7_init_9 : decode cX7_init 9 = .ok (.invokespecial 9, 3) := by decide +kernel
theorem dX7_init_12 : decode cX7_init 12 = .ok (.putfield 10, 3) := by decide +kernel
theorem dX7_init_15 : decode cX7_init 15 = .ok (.aload_n 0, 1) := by decide +kernel
theorem dX7_init_16 : decode cX7_init 16 = .ok (.new 7, 3) := by decide +kernel
theorem dX7_init_19 : decode cX7_init 19 = .ok (.dup, 1) := by decide +kernel
theorem dX7_init_20 : decode cX7_init 20 = .ok (.invokespecial 9, 3) := by decide +kernel
theorem dX7_init_23 : decode cX7_init 23 = .ok (.putfield 16, 3) := by decide +kernel
theorem dX7_init_26 : decode cX7_init 26 = .ok (.aload_n 0, 1) := by decide +kernel
theorem dX7_init_27 : decode cX7_init 27 = .ok (.new 19, 3) := by decide +kernel
theorem dX7_init_30 : decode cX7_init 30 = .ok (.dup, 1) := by decide +kernel
theorem dX7_init_31 : decode cX7_init 31 = .ok (.invokespecial 21, 3) := by decide +kernel
theorem dX7_init_34 : decode cX7_init 34 = .ok (.putfield 22, 3) := by decide +kernel
theorem dX7_init_37 : decode cX7_init 37 = .ok (.aload_n 0, 1) := by decide +kernel
theorem dX7_init_38 : decode cX7_init 38 = .ok (.bipush 60, 2) := by decide +kernel
theorem dX7_init_40 : decode cX7_init 40 = .ok (.newarray .char, 2) := by decide +kernel
theorem dX7_init_42 : decode cX7_init 42 = .ok (.putfield 26, 3) := by decide +kernel
theorem dX7_init_45 : decode cX7_init 45 = .ok (.aload_n 0, 1) := by decide +kernel
theorem dX7_init_46 : decode cX7_init 46 = .ok (.new 30, 3) := by decide +kernel
theorem dX7_init_49 : decode cX7_init 49 = .ok (.dup, 1) := by decide +kernel
theorem dX7_init_50 : decode cX7_init 50 = .ok (.invokespecial 32, 3) := by decide +kernel
theorem dX7_init_53 : decode cX7_init 53 = .ok (.putfield 33, 3) := by decide +kernel
theorem dX7_init_56 : decode cX7_init 56 = .ok (.aload_n 0, 1) := by decide +kernel
theorem dX7_init_57 : decode cX7_init 57 = .ok (.iconst 0, 1) := by decide +kernel
theorem dX7_init_58 : decode cX7_init 58 = .ok (.putfield 37, 3) := by decide +kernel
theorem dX7_init_61 : decode cX7_init 61 = .ok (.return_, 1) := by decide +kernel
theorem dX7_addPlace_0 : decode cX7_addPlace 0 = .ok (.iload_n 1, 1) := by decide +kernel
theorem dX7_addPlace_1 : decode cX7_addPlace 1 = .ok (.iconst 0, 1) := by decide +kernel
theorem dX7_addPlace_2 : decode cX7_addPlace 2 = .ok (.bipush 99, 2) := by decide +kernel
theorem dX7_addPlace_4 : decode cX7_addPlace 4 = .ok (.invokestatic 41, 3) := by decide +kernel
theorem dX7_addPlace_7 : decode cX7_addPlace 7 = .ok (.iload_n 2, 1) := by decide +kernel
theorem dX7_addPlace_8 : decode cX7_addPlace 8 = .ok (.iconst 0, 1) := by decide +kernel
theorem dX7_addPlace_9 : decode cX7_addPlace 9 = .ok (.bipush 99, 2) := by decide +kernel
theorem dX7_addPlace_11 : decode cX7_addPlace 11 = .ok (.invokestatic 41, 3) := by decide +kernel
theorem dX7_addPlace_14 : decode cX7_addPlace 14 = .ok (.aload_n 0, 1) := by decide +kernel
theorem dX7_addPlace_15 : decode cX7_addPlace 15 = .ok (.getfield 10, 3) := by decide +kernel
theorem dX7_addPlace_18 : decode cX7_addPlace 18 = .ok (.getfield 45, 3) := by decide +kernel
theorem dX7_addPlace_21 : decode cX7_addPlace 21 = .ok (.bipush 8, 2) := by decide +kernel
theorem dX7_addPlace_23 : decode cX7_addPlace 23 = .ok (.if_icmp .ge 7, 3) := by decide +kernel
theorem dX7_addPlace_26 : decode cX7_addPlace 26 = .ok (.iconst 1, 1) := by decide +kernel
theorem dX7_addPlace_27 : decode cX7_addPlace 27 = .ok (.goto 4, 3) := by decide +kernel
theorem dX7_addPlace_30 : decode cX7_addPlace 30 = .ok (.iconst 0, 1) := by decide +kernel
theorem dX7_addPlace_31 : decode cX7_addPlace 31 = .ok (.invokestatic 48, 3) := by decide +kernel
theorem dX7_addPlace_34 : decode cX7_addPlace 34 = .ok (.aload_n 0, 1) := by decide +kernel
theorem dX7_addPlace_35 : decode cX7_addPlace 35 = .ok (.getfield 22, 3) := by decide +kernel
theorem dX7_addPlace_38 : decode cX7_addPlace 38 = .ok (.aload_n 0, 1) := by decide +kernel
theorem dX7_addPlace_39 : decode cX7_addPlace 39 = .ok (.getfield 10, 3) := by decide +kernel
theorem dX7_addPlace_42 : decode cX7_addPlace 42 = .ok (.invokevirtual 52, 3) := by decide +kernel
theorem dX7_addPlace_45 : decode cX7_addPlace 45 = .ok (.aload_n 0, 1) := by decide +kernel
theorem dX7_addPlace_46 : decode cX7_addPlace 46 = .ok (.getfield 10, 3) := by decide +kernel
theorem dX7_addPlace_49 : decode cX7_addPlace 49 = .ok (.iload_n 1, 1) := by decide +kernel
theorem dX7_addPlace_50 : decode cX7_addPlace 50 = .ok (.iload_n 2, 1) := by decide +kernel
theorem dX7_addPlace_51 : decode cX7_addPlace 51 = .ok (.invokevirtual 56, 3) := by decide +kernel
theorem dX7_addPlace_54 : decode cX7_addPlace 54 = .ok (.ireturn, 1) := by decide +kernel
theorem dX7_addKitchen_0 : decode cX7_addKitchen 0 = .ok (.iload_n 1, 1) := by decide +kernel
theorem dX7_addKitchen_1 : decode cX7_addKitchen 1 = .ok (.aload_n 0, 1) := by decide +kernel
theorem dX7_addKitchen_2 : decode cX7_addKitchen 2 = .ok (.getfield 10, 3) := by decide +kernel
theorem dX7_addKitchen_5 : decode cX7_addKitchen 5 = .ok (.getfield 45, 3) := by decide +kernel
theorem dX7_addKitchen_8 : decode cX7_addKitchen 8 = .ok (.invokestatic 60, 3) := by decide +kernel
theorem dX7_addKitchen_11 : decode cX7_addKitchen 11 = .ok (.aload_n 0, 1) := by decide +kernel
theorem dX7_addKitchen_12 : decode cX7_addKitchen 12 = .ok (.getfield 10, 3) := by decide +kernel
theorem dX7_addKitchen_15 : decode cX7_addKitchen 15 = .ok (.getfield 64, 3) := by decide +kernel
theorem dX7_addKitchen_18 : decode cX7_addKitchen 18 = .ok (.iconst 3, 1) := by decide +kernel
theorem dX7_addKitchen_19 : decode cX7_addKitchen 19 = .ok (.if_icmp .ge 7, 3) := by decide +kernel
theorem dX7_addKitchen_22 : decode cX7_addKitchen 22 = .ok (.iconst 1, 1) := by decide +kernel
theorem dX7_addKitchen_23 : decode cX7_addKitchen 23 = .ok (.goto 4, 3) := by decide +kernel
theorem dX7_addKitchen_26 : decode cX7_addKitchen 26 = .ok (.iconst 0, 1) := by decide +kernel
theorem dX7_addKitchen_27 : decode cX7_addKitchen 27 = .ok (.invokestatic 48, 3) := by decide +kernel
theorem dX7_addKitchen_30 : decode cX7_addKitchen 30 = .ok (.aload_n 0, 1) := by decide +kernel
theorem dX7_addKitchen_31 : decode cX7_addKitchen 31 = .ok (.getfield 22, 3) := by decide +kernel
theorem dX7_addKitchen_34 : decode cX7_addKitchen 34 = .ok (.aload_n 0, 1) := by decide +kernel
theorem dX7_addKitchen_35 : decode cX7_addKitchen 35 = .ok (.getfield 10, 3) := by decide +kernel
theorem dX7_addKitchen_38 : decode cX7_addKitchen 38 = .ok (.invokevirtual 52, 3) := by decide +kernel
theorem dX7_addKitchen_41 : decode cX7_addKitchen 41 = .ok (.aload_n 0, 1) := by decide +kernel
theorem dX7_addKitchen_42 : decode cX7_addKitchen 42 = .ok (.getfield 10, 3) := by decide +kernel
theorem dX7_addKitchen_45 : decode cX7_addKitchen 45 = .ok (.iload_n 1, 1) := by decide +kernel
theorem dX7_addKitchen_46 : decode cX7_addKitchen 46 = .ok (.invokevirtual 67, 3) := by decide +kernel
theorem dX7_addKitchen_49 : decode cX7_addKitchen 49 = .ok (.ireturn, 1) := by decide +kernel
theorem dX7_addLorry_0 : decode cX7_addLorry 0 = .ok (.iload_n 1, 1) := by decide +kernel
theorem dX7_addLorry_1 : decode cX7_addLorry 1 = .ok (.aload_n 0, 1) := by decide +kernel
theorem dX7_addLorry_2 : decode cX7_addLorry 2 = .ok (.getfield 10, 3) := by decide +kernel
theorem dX7_addLorry_5 : decode cX7_addLorry 5 = .ok (.getfield 45, 3) := by decide +kernel
theorem dX7_addLorry_8 : decode cX7_addLorry 8 = .ok (.invokestatic 60, 3) := by decide +kernel
theorem dX7_addLorry_11 : decode cX7_addLorry 11 = .ok (.aload_n 0, 1) := by decide +kernel
theorem dX7_addLorry_12 : decode cX7_addLorry 12 = .ok (.getfield 10, 3) := by decide +kernel
theorem dX7_addLorry_15 : decode cX7_addLorry 15 = .ok (.getfield 71, 3) := by decide +kernel
theorem dX7_addLorry_18 : decode cX7_addLorry 18 = .ok (.iconst 4, 1) := by decide +kernel
theorem dX7_addLorry_19 : decode cX7_addLorry 19 = .ok (.if_icmp .ge 7, 3) := by decide +kernel
theorem dX7_addLorry_22 : decode cX7_addLorry 22 = .ok (.iconst 1, 1) := by decide +kernel
theorem dX7_addLorry_23 : decode cX7_addLorry 23 = .ok (.goto 4, 3) := by decide +kernel
theorem dX7_addLorry_26 : decode cX7_addLorry 26 = .ok (.iconst 0, 1) := by decide +kernel
theorem dX7_addLorry_27 : decode cX7_addLorry 27 = .ok (.invokestatic 48, 3) := by decide +kernel
theorem dX7_addLorry_30 : decode cX7_addLorry 30 = .ok (.aload_n 0, 1) := by decide +kernel
theorem dX7_addLorry_31 : decode cX7_addLorry 31 = .ok (.getfield 22, 3) := by decide +kernel
theorem dX7_addLorry_34 : decode cX7_addLorry 34 = .ok (.aload_n 0, 1) := by decide +kernel
theorem dX7_addLorry_35 : decode cX7_addLorry 35 = .ok (.getfield 10, 3) := by decide +kernel
theorem dX7_addLorry_38 : decode cX7_addLorry 38 = .ok (.invokevirtual 52, 3) := by decide +kernel
theorem dX7_addLorry_41 : decode cX7_addLorry 41 = .ok (.aload_n 0, 1) := by decide +kernel
theorem dX7_addLorry_42 : decode cX7_addLorry 42 = .ok (.getfield 10, 3) := by decide +kernel
theorem dX7_addLorry_45 : decode cX7_addLorry 45 = .ok (.iload_n 1, 1) := by decide +kernel
theorem dX7_addLorry_46 : decode cX7_addLorry 46 = .ok (.invokevirtual 74, 3) := by decide +kernel
theorem dX7_addLorry_49 : decode cX7_addLorry 49 = .ok (.ireturn, 1) := by decide +kernel
theorem dX7_stock_0 : decode cX7_stock 0 = .ok (.iload_n 1, 1) := by decide +kernel
theorem dX7_stock_1 : decode cX7_stock 1 = .ok (.aload_n 0, 1) := by decide +kernel
theorem dX7_stock_2 : decode cX7_stock 2 = .ok (.getfield 10, 3) := by decide +kernel
theorem dX7_stock_5 : decode cX7_stock 5 = .ok (.getfield 64, 3) := by decide +kernel
theorem dX7_stock_8 : decode cX7_stock 8 = .ok (.invokestatic 60, 3) := by decide +kernel
theorem dX7_stock_11 : decode cX7_stock 11 = .ok (.iload_n 2, 1) := by decide +kernel
theorem dX7_stock_12 : decode cX7_stock 12 = .ok (.iconst 0, 1) := by decide +kernel
theorem dX7_stock_13 : decode cX7_stock 13 = .ok (.iconst 2, 1) := by decide +kernel
theorem dX7_stock_14 : decode cX7_stock 14 = .ok (.invokestatic 41, 3) := by decide +kernel
theorem dX7_stock_17 : decode cX7_stock 17 = .ok (.iload_n 3, 1) := by decide +kernel
theorem dX7_stock_18 : decode cX7_stock 18 = .ok (.iconst 1, 1) := by decide +kernel
theorem dX7_stock_19 : decode cX7_stock 19 = .ok (.sipush 500, 3) := by decide +kernel
theorem dX7_stock_22 : decode cX7_stock 22 = .ok (.invokestatic 41, 3) := by decide +kernel
theorem dX7_stock_25 : decode cX7_stock 25 = .ok (.aload_n 0, 1) := by decide +kernel
theorem dX7_stock_26 : decode cX7_stock 26 = .ok (.getfield 10, 3) := by decide +kernel
theorem dX7_stock_29 : decode cX7_stock 29 = .ok (.getfield 87, 3) := by decide +kernel
theorem dX7_stock_32 : decode cX7_stock 32 = .ok (.iload_n 1, 1) := by decide +kernel
theorem dX7_stock_33 : decode cX7_stock 33 = .ok (.aaload, 1) := by decide +kernel
theorem dX7_stock_34 : decode cX7_stock 34 = .ok (.getfield 91, 3) := by decide +kernel
theorem dX7_stock_37 : decode cX7_stock 37 = .ok (.astore 4, 2) := by decide +kernel
theorem dX7_stock_39 : decode cX7_stock 39 = .ok (.aload 4, 2) := by decide +kernel
theorem dX7_stock_41 : decode cX7_stock 41 = .ok (.iload_n 2, 1) := by decide +kernel
theorem dX7_stock_42 : decode cX7_stock 42 = .ok (.iaload, 1) := by decide +kernel
theorem dX7_stock_43 : decode cX7_stock 43 = .ok (.iload_n 3, 1) := by decide +kernel
theorem dX7_stock_44 : decode cX7_stock 44 = .ok (.iadd, 1) := by decide +kernel
theorem dX7_stock_45 : decode cX7_stock 45 = .ok (.sipush 999, 3) := by decide +kernel
theorem dX7_stock_48 : decode cX7_stock 48 = .ok (.if_icmp .gt 7, 3) := by decide +kernel
theorem dX7_stock_51 : decode cX7_stock 51 = .ok (.iconst 1, 1) := by decide +kernel
theorem dX7_stock_52 : decode cX7_stock 52 = .ok (.goto 4, 3) := by decide +kernel
theorem dX7_stock_55 : decode cX7_stock 55 = .ok (.iconst 0, 1) := by decide +kernel
theorem dX7_stock_56 : decode cX7_stock 56 = .ok (.invokestatic 48, 3) := by decide +kernel
theorem dX7_stock_59 : decode cX7_stock 59 = .ok (.aload_n 0, 1) := by decide +kernel
theorem dX7_stock_60 : decode cX7_stock 60 = .ok (.getfield 22, 3) := by decide +kernel
theorem dX7_stock_63 : decode cX7_stock 63 = .ok (.aload_n 0, 1) := by decide +kernel
theorem dX7_stock_64 : decode cX7_stock 64 = .ok (.getfield 10, 3) := by decide +kernel
theorem dX7_stock_67 : decode cX7_stock 67 = .ok (.invokevirtual 52, 3) := by decide +kernel
theorem dX7_stock_70 : decode cX7_stock 70 = .ok (.aload 4, 2) := by decide +kernel
theorem dX7_stock_72 : decode cX7_stock 72 = .ok (.iload_n 2, 1) := by decide +kernel
theorem dX7_stock_73 : decode cX7_stock 73 = .ok (.dup2, 1) := by decide +kernel
theorem dX7_stock_74 : decode cX7_stock 74 = .ok (.iaload, 1) := by decide +kernel
theorem dX7_stock_75 : decode cX7_stock 75 = .ok (.iload_n 3, 1) := by decide +kernel
theorem dX7_stock_76 : decode cX7_stock 76 = .ok (.iadd, 1) := by decide +kernel
theorem dX7_stock_77 : decode cX7_stock 77 = .ok (.iastore, 1) := by decide +kernel
theorem dX7_stock_78 : decode cX7_stock 78 = .ok (.aload 4, 2) := by decide +kernel
theorem dX7_stock_80 : decode cX7_stock 80 = .ok (.iload_n 2, 1) := by decide +kernel
theorem dX7_stock_81 : decode cX7_stock 81 = .ok (.iaload, 1) := by decide +kernel
theorem dX7_stock_82 : decode cX7_stock 82 = .ok (.ireturn, 1) := by decide +kernel
theorem dX7_cook_0 : decode cX7_cook 0 = .ok (.iload_n 1, 1) := by decide +kernel
theorem dX7_cook_1 : decode cX7_cook 1 = .ok (.aload_n 0, 1) := by decide +kernel
theorem dX7_cook_2 : decode cX7_cook 2 = .ok (.getfield 10, 3) := by decide +kernel
theorem dX7_cook_5 : decode cX7_cook 5 = .ok (.getfield 64, 3) := by decide +kernel
theorem dX7_cook_8 : decode cX7_cook 8 = .ok (.invokestatic 60, 3) := by decide +kernel
theorem dX7_cook_11 : decode cX7_cook 11 = .ok (.iload_n 2, 1) := by decide +kernel
theorem dX7_cook_12 : decode cX7_cook 12 = .ok (.iconst 0, 1) := by decide +kernel
theorem dX7_cook_13 : decode cX7_cook 13 = .ok (.iconst 2, 1) := by decide +kernel
theorem dX7_cook_14 : decode cX7_cook 14 = .ok (.invokestatic 41, 3) := by decide +kernel
theorem dX7_cook_17 : decode cX7_cook 17 = .ok (.iload_n 3, 1) := by decide +kernel
theorem dX7_cook_18 : decode cX7_cook 18 = .ok (.iconst 1, 1) := by decide +kernel
theorem dX7_cook_19 : decode cX7_cook 19 = .ok (.sipush 300, 3) := by decide +kernel
theorem dX7_cook_22 : decode cX7_cook 22 = .ok (.invokestatic 41, 3) := by decide +kernel
theorem dX7_cook_25 : decode cX7_cook 25 = .ok (.aload_n 0, 1) := by decide +kernel
theorem dX7_cook_26 : decode cX7_cook 26 = .ok (.getfield 10, 3) := by decide +kernel
theorem dX7_cook_29 : decode cX7_cook 29 = .ok (.getfield 87, 3) := by decide +kernel
theorem dX7_cook_32 : decode cX7_cook 32 = .ok (.iload_n 1, 1) := by decide +kernel
theorem dX7_cook_33 : decode cX7_cook 33 = .ok (.aaload, 1) := by decide +kernel
theorem dX7_cook_34 : decode cX7_cook 34 = .ok (.astore 4, 2) := by decide +kernel
theorem dX7_cook_36 : decode cX7_cook 36 = .ok (.aload 4, 2) := by decide +kernel
theorem dX7_cook_38 : decode cX7_cook 38 = .ok (.getfield 96, 3) := by decide +kernel
theorem dX7_cook_41 : decode cX7_cook 41 = .ok (.ifCond .ne 17, 3) := by decide +kernel
theorem dX7_cook_44 : decode cX7_cook 44 = .ok (.aload 4, 2) := by decide +kernel
theorem dX7_cook_46 : decode cX7_cook 46 = .ok (.iload_n 2, 1) := by decide +kernel
theorem dX7_cook_47 : decode cX7_cook 47 = .ok (.invokevirtual 99, 3) := by decide +kernel
theorem dX7_cook_50 : decode cX7_cook 50 = .ok (.iload_n 3, 1) := by decide +kernel
theorem dX7_cook_51 : decode cX7_cook 51 = .ok (.if_icmp .lt 7, 3) := by decide +kernel
theorem dX7_cook_54 : decode cX7_cook 54 = .ok (.iconst 1, 1) := by decide +kernel
theorem dX7_cook_55 : decode cX7_cook 55 = .ok (.goto 4, 3) := by decide +kernel
theorem dX7_cook_58 : decode cX7_cook 58 = .ok (.iconst 0, 1) := by decide +kernel
theorem dX7_cook_59 : decode cX7_cook 59 = .ok (.invokestatic 48, 3) := by decide +kernel
theorem dX7_cook_62 : decode cX7_cook 62 = .ok (.aload_n 0, 1) := by decide +kernel
theorem dX7_cook_63 : decode cX7_cook 63 = .ok (.getfield 22, 3) := by decide +kernel
theorem dX7_cook_66 : decode cX7_cook 66 = .ok (.aload_n 0, 1) := by decide +kernel
theorem dX7_cook_67 : decode cX7_cook 67 = .ok (.getfield 10, 3) := by decide +kernel
theorem dX7_cook_70 : decode cX7_cook 70 = .ok (.invokevirtual 52, 3) := by decide +kernel
theorem dX7_cook_73 : decode cX7_cook 73 = .ok (.aload 4, 2) := by decide +kernel
theorem dX7_cook_75 : decode cX7_cook 75 = .ok (.iload_n 2, 1) := by decide +kernel
theorem dX7_cook_76 : decode cX7_cook 76 = .ok (.iload_n 3, 1) := by decide +kernel
theorem dX7_cook_77 : decode cX7_cook 77 = .ok (.invokevirtual 102, 3) := by decide +kernel
theorem dX7_cook_80 : decode cX7_cook 80 = .ok (.iload_n 3, 1) := by decide +kernel
theorem dX7_cook_81 : decode cX7_cook 81 = .ok (.aload_n 0, 1) := by decide +kernel
theorem dX7_cook_82 : decode cX7_cook 82 = .ok (.getfield 10, 3) := by decide +kernel
theorem dX7_cook_85 : decode cX7_cook 85 = .ok (.getfield 84, 3) := by decide +kernel
theorem dX7_cook_88 : decode cX7_cook 88 = .ok (.iconst 4, 1) := by decide +kernel
theorem dX7_cook_89 : decode cX7_cook 89 = .ok (.iaload, 1) := by decide +kernel
theorem dX7_cook_90 : decode cX7_cook 90 = .ok (.invokestatic 105, 3) := by decide +kernel
theorem dX7_cook_93 : decode cX7_cook 93 = .ok (.ireturn, 1) := by decide +kernel
theorem dX7_load_0 : decode cX7_load 0 = .ok (.iload_n 1, 1) := by decide +kernel
theorem dX7_load_1 : decode cX7_load 1 = .ok (.aload_n 0, 1) := by decide +kernel
theorem dX7_load_2 : decode cX7_load 2 = .ok (.getfield 10, 3) := by decide +kernel
theorem dX7_load_5 : decode cX7_load 5 = .ok (.getfield 71, 3) := by decide +kernel
theorem dX7_load_8 : decode cX7_load 8 = .ok (.invokestatic 60, 3) := by decide +kernel
theorem dX7_load_11 : decode cX7_load 11 = .ok (.iload_n 2, 1) := by decide +kernel
theorem dX7_load_12 : decode cX7_load 12 = .ok (.aload_n 0, 1) := by decide +kernel
theorem dX7_load_13 : decode cX7_load 13 = .ok (.getfield 10, 3) := by decide +kernel
theorem dX7_load_16 : decode cX7_load 16 = .ok (.getfield 64, 3) := by decide +kernel
theorem dX7_load_19 : decode cX7_load 19 = .ok (.invokestatic 60, 3) := by decide +kernel
theorem dX7_load_22 : decode cX7_load 22 = .ok (.iload_n 3, 1) := by decide +kernel
theorem dX7_load_23 : decode cX7_load 23 = .ok (.iconst 0, 1) := by decide +kernel
theorem dX7_load_24 : decode cX7_load 24 = .ok (.iconst 2, 1) := by decide +kernel
theorem dX7_load_25 : decode cX7_load 25 = .ok (.invokestatic 41, 3) := by decide +kernel
theorem dX7_load_28 : decode cX7_load 28 = .ok (.iload 4, 2) := by decide +kernel
theorem dX7_load_30 : decode cX7_load 30 = .ok (.iconst 1, 1) := by decide +kernel
theorem dX7_load_31 : decode cX7_load 31 = .ok (.sipush 500, 3) := by decide +kernel
theorem dX7_load_34 : decode cX7_load 34 = .ok (.invokestatic 41, 3) := by decide +kernel
theorem dX7_load_37 : decode cX7_load 37 = .ok (.aload_n 0, 1) := by decide +kernel
theorem dX7_load_38 : decode cX7_load 38 = .ok (.getfield 10, 3) := by decide +kernel
theorem dX7_load_41 : decode cX7_load 41 = .ok (.getfield 108, 3) := by decide +kernel
theorem dX7_load_44 : decode cX7_load 44 = .ok (.iload_n 1, 1) := by decide +kernel
theorem dX7_load_45 : decode cX7_load 45 = .ok (.aaload, 1) := by decide +kernel
theorem dX7_load_46 : decode cX7_load 46 = .ok (.astore 5, 2) := by decide +kernel
theorem dX7_load_48 : decode cX7_load 48 = .ok (.aload_n 0, 1) := by decide +kernel
theorem dX7_load_49 : decode cX7_load 49 = .ok (.getfield 10, 3) := by decide +kernel
theorem dX7_load_52 : decode cX7_load 52 = .ok (.getfield 87, 3) := by decide +kernel
theorem dX7_load_55 : decode cX7_load 55 = .ok (.iload_n 2, 1) := by decide +kernel
theorem dX7_load_56 : decode cX7_load 56 = .ok (.aaload, 1) := by decide +kernel
theorem dX7_load_57 : decode cX7_load 57 = .ok (.astore 6, 2) := by decide +kernel
theorem dX7_load_59 : decode cX7_load 59 = .ok (.aload 5, 2) := by decide +kernel
theorem dX7_load_61 : decode cX7_load 61 = .ok (.getfield 112, 3) := by decide +kernel
theorem dX7_load_64 : decode cX7_load 64 = .ok (.aload 6, 2) := by decide +kernel
theorem dX7_load_66 : decode cX7_load 66 = .ok (.getfield 117, 3) := by decide +kernel
theorem dX7_load_69 : decode cX7_load 69 = .ok (.if_icmp .ne 7, 3) := by decide +kernel
theorem dX7_load_72 : decode cX7_load 72 = .ok (.iconst 1, 1) := by decide +kernel
theorem dX7_load_73 : decode cX7_load 73 = .ok (.goto 4, 3) := by decide +kernel
theorem dX7_load_76 : decode cX7_load 76 = .ok (.iconst 0, 1) := by decide +kernel
theorem dX7_load_77 : decode cX7_load 77 = .ok (.invokestatic 48, 3) := by decide +kernel
theorem dX7_load_80 : decode cX7_load 80 = .ok (.aload 6, 2) := by decide +kernel
theorem dX7_load_82 : decode cX7_load 82 = .ok (.getfield 118, 3) := by decide +kernel
theorem dX7_load_85 : decode cX7_load 85 = .ok (.getfield 122, 3) := by decide +kernel
theorem dX7_load_88 : decode cX7_load 88 = .ok (.iload_n 3, 1) := by decide +kernel
theorem dX7_load_89 : decode cX7_load 89 = .ok (.iaload, 1) := by decide +kernel
theorem dX7_load_90 : decode cX7_load 90 = .ok (.iload 4, 2) := by decide +kernel
theorem dX7_load_92 : decode cX7_load 92 = .ok (.if_icmp .lt 7, 3) := by decide +kernel
theorem dX7_load_95 : decode cX7_load 95 = .ok (.iconst 1, 1) := by decide +kernel
theorem dX7_load_96 : decode cX7_load 96 = .ok (.goto 4, 3) := by decide +kernel
theorem dX7_load_99 : decode cX7_load 99 = .ok (.iconst 0, 1) := by decide +kernel
theorem dX7_load_100 : decode cX7_load 100 = .ok (.invokestatic 48, 3) := by decide +kernel
theorem dX7_load_103 : decode cX7_load 103 = .ok (.aload 5, 2) := by decide +kernel
theorem dX7_load_105 : decode cX7_load 105 = .ok (.getfield 127, 3) := by decide +kernel
theorem dX7_load_108 : decode cX7_load 108 = .ok (.invokevirtual 128, 3) := by decide +kernel
theorem dX7_load_111 : decode cX7_load 111 = .ok (.iload 4, 2) := by decide +kernel
theorem dX7_load_113 : decode cX7_load 113 = .ok (.iadd, 1) := by decide +kernel
theorem dX7_load_114 : decode cX7_load 114 = .ok (.aload_n 0, 1) := by decide +kernel
theorem dX7_load_115 : decode cX7_load 115 = .ok (.getfield 10, 3) := by decide +kernel
theorem dX7_load_118 : decode cX7_load 118 = .ok (.getfield 84, 3) := by decide +kernel
theorem dX7_load_121 : decode cX7_load 121 = .ok (.iconst 5, 1) := by decide +kernel
theorem dX7_load_122 : decode cX7_load 122 = .ok (.iaload, 1) := by decide +kernel
theorem dX7_load_123 : decode cX7_load 123 = .ok (.if_icmp .gt 7, 3) := by decide +kernel
theorem dX7_load_126 : decode cX7_load 126 = .ok (.iconst 1, 1) := by decide +kernel
theorem dX7_load_127 : decode cX7_load 127 = .ok (.goto 4, 3) := by decide +kernel
theorem dX7_load_130 : decode cX7_load 130 = .ok (.iconst 0, 1) := by decide +kernel
theorem dX7_load_131 : decode cX7_load 131 = .ok (.invokestatic 48, 3) := by decide +kernel
theorem dX7_load_134 : decode cX7_load 134 = .ok (.aload_n 0, 1) := by decide +kernel
theorem dX7_load_135 : decode cX7_load 135 = .ok (.getfield 22, 3) := by decide +kernel
theorem dX7_load_138 : decode cX7_load 138 = .ok (.aload_n 0, 1) := by decide +kernel
theorem dX7_load_139 : decode cX7_load 139 = .ok (.getfield 10, 3) := by decide +kernel
theorem dX7_load_142 : decode cX7_load 142 = .ok (.invokevirtual 52, 3) := by decide +kernel
theorem dX7_load_145 : decode cX7_load 145 = .ok (.aload 6, 2) := by decide +kernel
theorem dX7_load_147 : decode cX7_load 147 = .ok (.getfield 118, 3) := by decide +kernel
theorem dX7_load_150 : decode cX7_load 150 = .ok (.iload_n 3, 1) := by decide +kernel
theorem dX7_load_151 : decode cX7_load 151 = .ok (.iload 4, 2) := by decide +kernel
theorem dX7_load_153 : decode cX7_load 153 = .ok (.aload_n 0, 1) := by decide +kernel
theorem dX7_load_154 : decode cX7_load 154 = .ok (.getfield 10, 3) := by decide +kernel
theorem dX7_load_157 : decode cX7_load 157 = .ok (.getfield 132, 3) := by decide +kernel
theorem dX7_load_160 : decode cX7_load 160 = .ok (.aload 5, 2) := by decide +kernel
theorem dX7_load_162 : decode cX7_load 162 = .ok (.getfield 127, 3) := by decide +kernel
theorem dX7_load_165 : decode cX7_load 165 = .ok (.invokevirtual 135, 3) := by decide +kernel
theorem dX7_load_168 : decode cX7_load 168 = .ok (.aload 5, 2) := by decide +kernel
theorem dX7_load_170 : decode cX7_load 170 = .ok (.getfield 127, 3) := by decide +kernel
theorem dX7_load_173 : decode cX7_load 173 = .ok (.invokevirtual 128, 3) := by decide +kernel
theorem dX7_load_176 : decode cX7_load 176 = .ok (.ireturn, 1) := by decide +kernel
theorem dX7_unload_0 : decode cX7_unload 0 = .ok (.iload_n 1, 1) := by decide +kernel
theorem dX7_unload_1 : decode cX7_unload 1 = .ok (.aload_n 0, 1) := by decide +kernel
theorem dX7_unload_2 : decode cX7_unload 2 = .ok (.getfield 10, 3) := by decide +kernel
theorem dX7_unload_5 : decode cX7_unload 5 = .ok (.getfield 71, 3) := by decide +kernel
theorem dX7_unload_8 : decode cX7_unload 8 = .ok (.invokestatic 60, 3) := by decide +kernel
theorem dX7_unload_11 : decode cX7_unload 11 = .ok (.iload_n 2, 1) := by decide +kernel
theorem dX7_unload_12 : decode cX7_unload 12 = .ok (.aload_n 0, 1) := by decide +kernel
theorem dX7_unload_13 : decode cX7_unload 13 = .ok (.getfield 10, 3) := by decide +kernel
theorem dX7_unload_16 : decode cX7_unload 16 = .ok (.getfield 64, 3) := by decide +kernel
theorem dX7_unload_19 : decode cX7_unload 19 = .ok (.invokestatic 60, 3) := by decide +kernel
theorem dX7_unload_22 : decode cX7_unload 22 = .ok (.aload_n 0, 1) := by decide +kernel
theorem dX7_unload_23 : decode cX7_unload 23 = .ok (.getfield 10, 3) := by decide +kernel
theorem dX7_unload_26 : decode cX7_unload 26 = .ok (.getfield 108, 3) := by decide +kernel
theorem dX7_unload_29 : decode cX7_unload 29 = .ok (.iload_n 1, 1) := by decide +kernel
theorem dX7_unload_30 : decode cX7_unload 30 = .ok (.aaload, 1) := by decide +kernel
theorem dX7_unload_31 : decode cX7_unload 31 = .ok (.astore_n 3, 1) := by decide +kernel
theorem dX7_unload_32 : decode cX7_unload 32 = .ok (.aload_n 0, 1) := by decide +kernel
theorem dX7_unload_33 : decode cX7_unload 33 = .ok (.getfield 10, 3) := by decide +kernel
theorem dX7_unload_36 : decode cX7_unload 36 = .ok (.getfield 87, 3) := by decide +kernel
theorem dX7_unload_39 : decode cX7_unload 39 = .ok (.iload_n 2, 1) := by decide +kernel
theorem dX7_unload_40 : decode cX7_unload 40 = .ok (.aaload, 1) := by decide +kernel
theorem dX7_unload_41 : decode cX7_unload 41 = .ok (.astore 4, 2) := by decide +kernel
theorem dX7_unload_43 : decode cX7_unload 43 = .ok (.aload_n 3, 1) := by decide +kernel
theorem dX7_unload_44 : decode cX7_unload 44 = .ok (.getfield 112, 3) := by decide +kernel
theorem dX7_unload_47 : decode cX7_unload 47 = .ok (.aload 4, 2) := by decide +kernel
theorem dX7_unload_49 : decode cX7_unload 49 = .ok (.getfield 117, 3) := by decide +kernel
theorem dX7_unload_52 : decode cX7_unload 52 = .ok (.if_icmp .ne 7, 3) := by decide +kernel
theorem dX7_unload_55 : decode cX7_unload 55 = .ok (.iconst 1, 1) := by decide +kernel
theorem dX7_unload_56 : decode cX7_unload 56 = .ok (.goto 4, 3) := by decide +kernel
theorem dX7_unload_59 : decode cX7_unload 59 = .ok (.iconst 0, 1) := by decide +kernel
theorem dX7_unload_60 : decode cX7_unload 60 = .ok (.invokestatic 48, 3) := by decide +kernel
theorem dX7_unload_63 : decode cX7_unload 63 = .ok (.aload_n 0, 1) := by decide +kernel
theorem dX7_unload_64 : decode cX7_unload 64 = .ok (.getfield 22, 3) := by decide +kernel
theorem dX7_unload_67 : decode cX7_unload 67 = .ok (.aload_n 0, 1) := by decide +kernel
theorem dX7_unload_68 : decode cX7_unload 68 = .ok (.getfield 10, 3) := by decide +kernel
theorem dX7_unload_71 : decode cX7_unload 71 = .ok (.invokevirtual 52, 3) := by decide +kernel
theorem dX7_unload_74 : decode cX7_unload 74 = .ok (.aload_n 3, 1) := by decide +kernel
theorem dX7_unload_75 : decode cX7_unload 75 = .ok (.getfield 127, 3) := by decide +kernel
theorem dX7_unload_78 : decode cX7_unload 78 = .ok (.invokevirtual 128, 3) := by decide +kernel
theorem dX7_unload_81 : decode cX7_unload 81 = .ok (.istore 5, 2) := by decide +kernel
theorem dX7_unload_83 : decode cX7_unload 83 = .ok (.iconst 0, 1) := by decide +kernel
theorem dX7_unload_84 : decode cX7_unload 84 = .ok (.istore 6, 2) := by decide +kernel
theorem dX7_unload_86 : decode cX7_unload 86 = .ok (.iload 6, 2) := by decide +kernel
theorem dX7_unload_88 : decode cX7_unload 88 = .ok (.iconst 3, 1) := by decide +kernel
theorem dX7_unload_89 : decode cX7_unload 89 = .ok (.if_icmp .ge 32, 3) := by decide +kernel
theorem dX7_unload_92 : decode cX7_unload 92 = .ok (.aload_n 3, 1) := by decide +kernel
theorem dX7_unload_93 : decode cX7_unload 93 = .ok (.getfield 127, 3) := by decide +kernel
theorem dX7_unload_96 : decode cX7_unload 96 = .ok (.iload 6, 2) := by decide +kernel
theorem dX7_unload_98 : decode cX7_unload 98 = .ok (.iload 5, 2) := by decide +kernel
theorem dX7_unload_100 : decode cX7_unload 100 = .ok (.aload_n 0, 1) := by decide +kernel
theorem dX7_unload_101 : decode cX7_unload 101 = .ok (.getfield 10, 3) := by decide +kernel
theorem dX7_unload_104 : decode cX7_unload 104 = .ok (.getfield 132, 3) := by decide +kernel
theorem dX7_unload_107 : decode cX7_unload 107 = .ok (.aload 4, 2) := by decide +kernel
theorem dX7_unload_109 : decode cX7_unload 109 = .ok (.getfield 118, 3) := by decide +kernel
theorem dX7_unload_112 : decode cX7_unload 112 = .ok (.invokevirtual 135, 3) := by decide +kernel
theorem dX7_unload_115 : decode cX7_unload 115 = .ok (.iinc 6 1, 3) := by decide +kernel
theorem dX7_unload_118 : decode cX7_unload 118 = .ok (.goto (-32), 3) := by decide +kernel
theorem dX7_unload_121 : decode cX7_unload 121 = .ok (.iload 5, 2) := by decide +kernel
theorem dX7_unload_123 : decode cX7_unload 123 = .ok (.ireturn, 1) := by decide +kernel
theorem dX7_drive_0 : decode cX7_drive 0 = .ok (.iload_n 1, 1) := by decide +kernel
theorem dX7_drive_1 : decode cX7_drive 1 = .ok (.aload_n 0, 1) := by decide +kernel
theorem dX7_drive_2 : decode cX7_drive 2 = .ok (.getfield 10, 3) := by decide +kernel
theorem dX7_drive_5 : decode cX7_drive 5 = .ok (.getfield 71, 3) := by decide +kernel
theorem dX7_drive_8 : decode cX7_drive 8 = .ok (.invokestatic 60, 3) := by decide +kernel
theorem dX7_drive_11 : decode cX7_drive 11 = .ok (.iload_n 2, 1) := by decide +kernel
theorem dX7_drive_12 : decode cX7_drive 12 = .ok (.aload_n 0, 1) := by decide +kernel
theorem dX7_drive_13 : decode cX7_drive 13 = .ok (.getfield 10, 3) := by decide +kernel
theorem dX7_drive_16 : decode cX7_drive 16 = .ok (.getfield 45, 3) := by decide +kernel
theorem dX7_drive_19 : decode cX7_drive 19 = .ok (.invokestatic 60, 3) := by decide +kernel
theorem dX7_drive_22 : decode cX7_drive 22 = .ok (.aload_n 0, 1) := by decide +kernel
theorem dX7_drive_23 : decode cX7_drive 23 = .ok (.getfield 10, 3) := by decide +kernel
theorem dX7_drive_26 : decode cX7_drive 26 = .ok (.getfield 108, 3) := by decide +kernel
theorem dX7_drive_29 : decode cX7_drive 29 = .ok (.iload_n 1, 1) := by decide +kernel
theorem dX7_drive_30 : decode cX7_drive 30 = .ok (.aaload, 1) := by decide +kernel
theorem dX7_drive_31 : decode cX7_drive 31 = .ok (.astore_n 3, 1) := by decide +kernel
theorem dX7_drive_32 : decode cX7_drive 32 = .ok (.aload_n 3, 1) := by decide +kernel
theorem dX7_drive_33 : decode cX7_drive 33 = .ok (.getfield 112, 3) := by decide +kernel
theorem dX7_drive_36 : decode cX7_drive 36 = .ok (.iconst (-1), 1) := by decide +kernel
theorem dX7_drive_37 : decode cX7_drive 37 = .ok (.if_icmp .eq 15, 3) := by decide +kernel
theorem dX7_drive_40 : decode cX7_drive 40 = .ok (.aload_n 3, 1) := by decide +kernel
theorem dX7_drive_41 : decode cX7_drive 41 = .ok (.getfield 112, 3) := by decide +kernel
theorem dX7_drive_44 : decode cX7_drive 44 = .ok (.iload_n 2, 1) := by decide +kernel
theorem dX7_drive_45 : decode cX7_drive 45 = .ok (.if_icmp .eq 7, 3) := by decide +kernel
theorem dX7_drive_48 : decode cX7_drive 48 = .ok (.iconst 1, 1) := by decide +kernel
theorem dX7_drive_49 : decode cX7_drive 49 = .ok (.goto 4, 3) := by decide +kernel
theorem dX7_drive_52 : decode cX7_drive 52 = .ok (.iconst 0, 1) := by decide +kernel
theorem dX7_drive_53 : decode cX7_drive 53 = .ok (.invokestatic 48, 3) := by decide +kernel
theorem dX7_drive_56 : decode cX7_drive 56 = .ok (.aload_n 0, 1) := by decide +kernel
theorem dX7_drive_57 : decode cX7_drive 57 = .ok (.getfield 22, 3) := by decide +kernel
theorem dX7_drive_60 : decode cX7_drive 60 = .ok (.aload_n 0, 1) := by decide +kernel
theorem dX7_drive_61 : decode cX7_drive 61 = .ok (.getfield 10, 3) := by decide +kernel
theorem dX7_drive_64 : decode cX7_drive 64 = .ok (.invokevirtual 52, 3) := by decide +kernel
theorem dX7_drive_67 : decode cX7_drive 67 = .ok (.aload_n 3, 1) := by decide +kernel
theorem dX7_drive_68 : decode cX7_drive 68 = .ok (.aload_n 0, 1) := by decide +kernel
theorem dX7_drive_69 : decode cX7_drive 69 = .ok (.getfield 10, 3) := by decide +kernel
theorem dX7_drive_72 : decode cX7_drive 72 = .ok (.aload_n 3, 1) := by decide +kernel
theorem dX7_drive_73 : decode cX7_drive 73 = .ok (.getfield 112, 3) := by decide +kernel
theorem dX7_drive_76 : decode cX7_drive 76 = .ok (.iload_n 2, 1) := by decide +kernel
theorem dX7_drive_77 : decode cX7_drive 77 = .ok (.invokevirtual 139, 3) := by decide +kernel
theorem dX7_drive_80 : decode cX7_drive 80 = .ok (.putfield 142, 3) := by decide +kernel
theorem dX7_drive_83 : decode cX7_drive 83 = .ok (.aload_n 3, 1) := by decide +kernel
theorem dX7_drive_84 : decode cX7_drive 84 = .ok (.iconst (-1), 1) := by decide +kernel
theorem dX7_drive_85 : decode cX7_drive 85 = .ok (.putfield 112, 3) := by decide +kernel
theorem dX7_drive_88 : decode cX7_drive 88 = .ok (.aload_n 3, 1) := by decide +kernel
theorem dX7_drive_89 : decode cX7_drive 89 = .ok (.iload_n 2, 1) := by decide +kernel
theorem dX7_drive_90 : decode cX7_drive 90 = .ok (.putfield 145, 3) := by decide +kernel
theorem dX7_drive_93 : decode cX7_drive 93 = .ok (.aload_n 3, 1) := by decide +kernel
theorem dX7_drive_94 : decode cX7_drive 94 = .ok (.getfield 142, 3) := by decide +kernel
theorem dX7_drive_97 : decode cX7_drive 97 = .ok (.ireturn, 1) := by decide +kernel
theorem dX7_addUnit_0 : decode cX7_addUnit 0 = .ok (.iload_n 1, 1) := by decide +kernel
theorem dX7_addUnit_1 : decode cX7_addUnit 1 = .ok (.aload_n 0, 1) := by decide +kernel
theorem dX7_addUnit_2 : decode cX7_addUnit 2 = .ok (.getfield 10, 3) := by decide +kernel
theorem dX7_addUnit_5 : decode cX7_addUnit 5 = .ok (.getfield 45, 3) := by decide +kernel
theorem dX7_addUnit_8 : decode cX7_addUnit 8 = .ok (.invokestatic 60, 3) := by decide +kernel
theorem dX7_addUnit_11 : decode cX7_addUnit 11 = .ok (.iload_n 2, 1) := by decide +kernel
theorem dX7_addUnit_12 : decode cX7_addUnit 12 = .ok (.iconst 1, 1) := by decide +kernel
theorem dX7_addUnit_13 : decode cX7_addUnit 13 = .ok (.sipush 300, 3) := by decide +kernel
theorem dX7_addUnit_16 : decode cX7_addUnit 16 = .ok (.invokestatic 41, 3) := by decide +kernel
theorem dX7_addUnit_19 : decode cX7_addUnit 19 = .ok (.iload_n 3, 1) := by decide +kernel
theorem dX7_addUnit_20 : decode cX7_addUnit 20 = .ok (.iconst 0, 1) := by decide +kernel
theorem dX7_addUnit_21 : decode cX7_addUnit 21 = .ok (.iload_n 2, 1) := by decide +kernel
theorem dX7_addUnit_22 : decode cX7_addUnit 22 = .ok (.invokestatic 41, 3) := by decide +kernel
theorem dX7_addUnit_25 : decode cX7_addUnit 25 = .ok (.iload 4, 2) := by decide +kernel
theorem dX7_addUnit_27 : decode cX7_addUnit 27 = .ok (.iconst 1, 1) := by decide +kernel
theorem dX7_addUnit_28 : decode cX7_addUnit 28 = .ok (.sipush 600, 3) := by decide +kernel
theorem dX7_addUnit_31 : decode cX7_addUnit 31 = .ok (.invokestatic 41, 3) := by decide +kernel
theorem dX7_addUnit_34 : decode cX7_addUnit 34 = .ok (.iload 5, 2) := by decide +kernel
theorem dX7_addUnit_36 : decode cX7_addUnit 36 = .ok (.bipush 30, 2) := by decide +kernel
theorem dX7_addUnit_38 : decode cX7_addUnit 38 = .ok (.sipush 600, 3) := by decide +kernel
theorem dX7_addUnit_41 : decode cX7_addUnit 41 = .ok (.invokestatic 41, 3) := by decide +kernel
theorem dX7_addUnit_44 : decode cX7_addUnit 44 = .ok (.aload_n 0, 1) := by decide +kernel
theorem dX7_addUnit_45 : decode cX7_addUnit 45 = .ok (.getfield 10, 3) := by decide +kernel
theorem dX7_addUnit_48 : decode cX7_addUnit 48 = .ok (.getfield 148, 3) := by decide +kernel
theorem dX7_addUnit_51 : decode cX7_addUnit 51 = .ok (.bipush 12, 2) := by decide +kernel
theorem dX7_addUnit_53 : decode cX7_addUnit 53 = .ok (.if_icmp .ge 7, 3) := by decide +kernel
theorem dX7_addUnit_56 : decode cX7_addUnit 56 = .ok (.iconst 1, 1) := by decide +kernel
theorem dX7_addUnit_57 : decode cX7_addUnit 57 = .ok (.goto 4, 3) := by decide +kernel
theorem dX7_addUnit_60 : decode cX7_addUnit 60 = .ok (.iconst 0, 1) := by decide +kernel
theorem dX7_addUnit_61 : decode cX7_addUnit 61 = .ok (.invokestatic 48, 3) := by decide +kernel
theorem dX7_addUnit_64 : decode cX7_addUnit 64 = .ok (.aload_n 0, 1) := by decide +kernel
theorem dX7_addUnit_65 : decode cX7_addUnit 65 = .ok (.getfield 22, 3) := by decide +kernel
theorem dX7_addUnit_68 : decode cX7_addUnit 68 = .ok (.aload_n 0, 1) := by decide +kernel
theorem dX7_addUnit_69 : decode cX7_addUnit 69 = .ok (.getfield 10, 3) := by decide +kernel
theorem dX7_addUnit_72 : decode cX7_addUnit 72 = .ok (.invokevirtual 52, 3) := by decide +kernel
theorem dX7_addUnit_75 : decode cX7_addUnit 75 = .ok (.aload_n 0, 1) := by decide +kernel
theorem dX7_addUnit_76 : decode cX7_addUnit 76 = .ok (.getfield 10, 3) := by decide +kernel
theorem dX7_addUnit_79 : decode cX7_addUnit 79 = .ok (.iload_n 1, 1) := by decide +kernel
theorem dX7_addUnit_80 : decode cX7_addUnit 80 = .ok (.iload_n 2, 1) := by decide +kernel
theorem dX7_addUnit_81 : decode cX7_addUnit 81 = .ok (.iload_n 3, 1) := by decide +kernel
theorem dX7_addUnit_82 : decode cX7_addUnit 82 = .ok (.aload_n 0, 1) := by decide +kernel
theorem dX7_addUnit_83 : decode cX7_addUnit 83 = .ok (.getfield 10, 3) := by decide +kernel
theorem dX7_addUnit_86 : decode cX7_addUnit 86 = .ok (.getfield 132, 3) := by decide +kernel
theorem dX7_addUnit_89 : decode cX7_addUnit 89 = .ok (.iload 4, 2) := by decide +kernel
theorem dX7_addUnit_91 : decode cX7_addUnit 91 = .ok (.iadd, 1) := by decide +kernel
theorem dX7_addUnit_92 : decode cX7_addUnit 92 = .ok (.iload 5, 2) := by decide +kernel
theorem dX7_addUnit_94 : decode cX7_addUnit 94 = .ok (.invokevirtual 151, 3) := by decide +kernel
theorem dX7_addUnit_97 : decode cX7_addUnit 97 = .ok (.ireturn, 1) := by decide +kernel
theorem dX7_split_0 : decode cX7_split 0 = .ok (.iload_n 1, 1) := by decide +kernel
theorem dX7_split_1 : decode cX7_split 1 = .ok (.aload_n 0, 1) := by decide +kernel
theorem dX7_split_2 : decode cX7_split 2 = .ok (.getfield 10, 3) := by decide +kernel
theorem dX7_split_5 : decode cX7_split 5 = .ok (.getfield 148, 3) := by decide +kernel
theorem dX7_split_8 : decode cX7_split 8 = .ok (.invokestatic 60, 3) := by decide +kernel
theorem dX7_split_11 : decode cX7_split 11 = .ok (.iload_n 2, 1) := by decide +kernel
theorem dX7_split_12 : decode cX7_split 12 = .ok (.iconst 1, 1) := by decide +kernel
theorem dX7_split_13 : decode cX7_split 13 = .ok (.sipush 299, 3) := by decide +kernel
theorem dX7_split_16 : decode cX7_split 16 = .ok (.invokestatic 41, 3) := by decide +kernel
theorem dX7_split_19 : decode cX7_split 19 = .ok (.iload_n 3, 1) := by decide +kernel
theorem dX7_split_20 : decode cX7_split 20 = .ok (.iconst 0, 1) := by decide +kernel
theorem dX7_split_21 : decode cX7_split 21 = .ok (.iload_n 2, 1) := by decide +kernel
theorem dX7_split_22 : decode cX7_split 22 = .ok (.invokestatic 41, 3) := by decide +kernel
theorem dX7_split_25 : decode cX7_split 25 = .ok (.aload_n 0, 1) := by decide +kernel
theorem dX7_split_26 : decode cX7_split 26 = .ok (.getfield 10, 3) := by decide +kernel
theorem dX7_split_29 : decode cX7_split 29 = .ok (.getfield 155, 3) := by decide +kernel
theorem dX7_split_32 : decode cX7_split 32 = .ok (.iload_n 1, 1) := by decide +kernel
theorem dX7_split_33 : decode cX7_split 33 = .ok (.aaload, 1) := by decide +kernel
theorem dX7_split_34 : decode cX7_split 34 = .ok (.astore 4, 2) := by decide +kernel
theorem dX7_split_36 : decode cX7_split 36 = .ok (.aload 4, 2) := by decide +kernel
theorem dX7_split_38 : decode cX7_split 38 = .ok (.getfield 159, 3) := by decide +kernel
theorem dX7_split_41 : decode cX7_split 41 = .ok (.ifCond .ne 19, 3) := by decide +kernel
theorem dX7_split_44 : decode cX7_split 44 = .ok (.aload_n 0, 1) := by decide +kernel
theorem dX7_split_45 : decode cX7_split 45 = .ok (.getfield 10, 3) := by decide +kernel
theorem dX7_split_48 : decode cX7_split 48 = .ok (.getfield 148, 3) := by decide +kernel
theorem dX7_split_51 : decode cX7_split 51 = .ok (.bipush 12, 2) := by decide +kernel
theorem dX7_split_53 : decode cX7_split 53 = .ok (.if_icmp .ge 7, 3) := by decide +kernel
theorem dX7_split_56 : decode cX7_split 56 = .ok (.iconst 1, 1) := by decide +kernel
theorem dX7_split_57 : decode cX7_split 57 = .ok (.goto 4, 3) := by decide +kernel
theorem dX7_split_60 : decode cX7_split 60 = .ok (.iconst 0, 1) := by decide +kernel
theorem dX7_split_61 : decode cX7_split 61 = .ok (.invokestatic 48, 3) := by decide +kernel
theorem dX7_split_64 : decode cX7_split 64 = .ok (.aload 4, 2) := by decide +kernel
theorem dX7_split_66 : decode cX7_split 66 = .ok (.getfield 164, 3) := by decide +kernel
theorem dX7_split_69 : decode cX7_split 69 = .ok (.iload_n 2, 1) := by decide +kernel
theorem dX7_split_70 : decode cX7_split 70 = .ok (.if_icmp .le 16, 3) := by decide +kernel
theorem dX7_split_73 : decode cX7_split 73 = .ok (.aload 4, 2) := by decide +kernel
theorem dX7_split_75 : decode cX7_split 75 = .ok (.getfield 167, 3) := by decide +kernel
theorem dX7_split_78 : decode cX7_split 78 = .ok (.iload_n 3, 1) := by decide +kernel
theorem dX7_split_79 : decode cX7_split 79 = .ok (.if_icmp .lt 7, 3) := by decide +kernel
theorem dX7_split_82 : decode cX7_split 82 = .ok (.iconst 1, 1) := by decide +kernel
theorem dX7_split_83 : decode cX7_split 83 = .ok (.goto 4, 3) := by decide +kernel
theorem dX7_split_86 : decode cX7_split 86 = .ok (.iconst 0, 1) := by decide +kernel
theorem dX7_split_87 : decode cX7_split 87 = .ok (.invokestatic 48, 3) := by decide +kernel
theorem dX7_split_90 : decode cX7_split 90 = .ok (.aload 4, 2) := by decide +kernel
theorem dX7_split_92 : decode cX7_split 92 = .ok (.getfield 164, 3) := by decide +kernel
theorem dX7_split_95 : decode cX7_split 95 = .ok (.aload 4, 2) := by decide +kernel
theorem dX7_split_97 : decode cX7_split 97 = .ok (.getfield 167, 3) := by decide +kernel
theorem dX7_split_100 : decode cX7_split 100 = .ok (.isub, 1) := by decide +kernel
theorem dX7_split_101 : decode cX7_split 101 = .ok (.iload_n 2, 1) := by decide +kernel
theorem dX7_split_102 : decode cX7_split 102 = .ok (.iload_n 3, 1) := by decide +kernel
theorem dX7_split_103 : decode cX7_split 103 = .ok (.isub, 1) := by decide +kernel
theorem dX7_split_104 : decode cX7_split 104 = .ok (.if_icmp .lt 7, 3) := by decide +kernel
theorem dX7_split_107 : decode cX7_split 107 = .ok (.iconst 1, 1) := by decide +kernel
theorem dX7_split_108 : decode cX7_split 108 = .ok (.goto 4, 3) := by decide +kernel
theorem dX7_split_111 : decode cX7_split 111 = .ok (.iconst 0, 1) := by decide +kernel
theorem dX7_split_112 : decode cX7_split 112 = .ok (.invokestatic 48, 3) := by decide +kernel
theorem dX7_split_115 : decode cX7_split 115 = .ok (.aload_n 0, 1) := by decide +kernel
theorem dX7_split_116 : decode cX7_split 116 = .ok (.getfield 22, 3) := by decide +kernel
theorem dX7_split_119 : decode cX7_split 119 = .ok (.aload_n 0, 1) := by decide +kernel
theorem dX7_split_120 : decode cX7_split 120 = .ok (.getfield 10, 3) := by decide +kernel
theorem dX7_split_123 : decode cX7_split 123 = .ok (.invokevirtual 52, 3) := by decide +kernel
theorem dX7_split_126 : decode cX7_split 126 = .ok (.aload 4, 2) := by decide +kernel
theorem dX7_split_128 : decode cX7_split 128 = .ok (.dup, 1) := by decide +kernel
theorem dX7_split_129 : decode cX7_split 129 = .ok (.getfield 164, 3) := by decide +kernel
theorem dX7_split_132 : decode cX7_split 132 = .ok (.iload_n 2, 1) := by decide +kernel
theorem dX7_split_133 : decode cX7_split 133 = .ok (.isub, 1) := by decide +kernel
theorem dX7_split_134 : decode cX7_split 134 = .ok (.putfield 164, 3) := by decide +kernel
theorem dX7_split_137 : decode cX7_split 137 = .ok (.aload 4, 2) := by decide +kernel
theorem dX7_split_139 : decode cX7_split 139 = .ok (.dup, 1) := by decide +kernel
theorem dX7_split_140 : decode cX7_split 140 = .ok (.getfield 167, 3) := by decide +kernel
theorem dX7_split_143 : decode cX7_split 143 = .ok (.iload_n 3, 1) := by decide +kernel
theorem dX7_split_144 : decode cX7_split 144 = .ok (.isub, 1) := by decide +kernel
theorem dX7_split_145 : decode cX7_split 145 = .ok (.putfield 167, 3) := by decide +kernel
theorem dX7_split_148 : decode cX7_split 148 = .ok (.aload_n 0, 1) := by decide +kernel
theorem dX7_split_149 : decode cX7_split 149 = .ok (.getfield 10, 3) := by decide +kernel
theorem dX7_split_152 : decode cX7_split 152 = .ok (.aload 4, 2) := by decide +kernel
theorem dX7_split_154 : decode cX7_split 154 = .ok (.getfield 170, 3) := by decide +kernel
theorem dX7_split_157 : decode cX7_split 157 = .ok (.iload_n 2, 1) := by decide +kernel
theorem dX7_split_158 : decode cX7_split 158 = .ok (.iload_n 3, 1) := by decide +kernel
theorem dX7_split_159 : decode cX7_split 159 = .ok (.aload 4, 2) := by decide +kernel
theorem dX7_split_161 : decode cX7_split 161 = .ok (.getfield 171, 3) := by decide +kernel
theorem dX7_split_164 : decode cX7_split 164 = .ok (.aload 4, 2) := by decide +kernel
theorem dX7_split_166 : decode cX7_split 166 = .ok (.getfield 174, 3) := by decide +kernel
theorem dX7_split_169 : decode cX7_split 169 = .ok (.invokevirtual 151, 3) := by decide +kernel
theorem dX7_split_172 : decode cX7_split 172 = .ok (.ireturn, 1) := by decide +kernel
theorem dX7_join_0 : decode cX7_join 0 = .ok (.iload_n 1, 1) := by decide +kernel
theorem dX7_join_1 : decode cX7_join 1 = .ok (.aload_n 0, 1) := by decide +kernel
theorem dX7_join_2 : decode cX7_join 2 = .ok (.getfield 10, 3) := by decide +kernel
theorem dX7_join_5 : decode cX7_join 5 = .ok (.getfield 148, 3) := by decide +kernel
theorem dX7_join_8 : decode cX7_join 8 = .ok (.invokestatic 60, 3) := by decide +kernel
theorem dX7_join_11 : decode cX7_join 11 = .ok (.iload_n 2, 1) := by decide +kernel
theorem dX7_join_12 : decode cX7_join 12 = .ok (.aload_n 0, 1) := by decide +kernel
theorem dX7_join_13 : decode cX7_join 13 = .ok (.getfield 10, 3) := by decide +kernel
theorem dX7_join_16 : decode cX7_join 16 = .ok (.getfield 148, 3) := by decide +kernel
theorem dX7_join_19 : decode cX7_join 19 = .ok (.invokestatic 60, 3) := by decide +kernel
theorem dX7_join_22 : decode cX7_join 22 = .ok (.iload_n 1, 1) := by decide +kernel
theorem dX7_join_23 : decode cX7_join 23 = .ok (.iload_n 2, 1) := by decide +kernel
theorem dX7_join_24 : decode cX7_join 24 = .ok (.if_icmp .ne 13, 3) := by decide +kernel
theorem dX7_join_27 : decode cX7_join 27 = .ok (.new 177, 3) := by decide +kernel
theorem dX7_join_30 : decode cX7_join 30 = .ok (.dup, 1) := by decide +kernel
theorem dX7_join_31 : decode cX7_join 31 = .ok (.ldc 179, 2) := by decide +kernel
theorem dX7_join_33 : decode cX7_join 33 = .ok (.invokespecial 181, 3) := by decide +kernel
theorem dX7_join_36 : decode cX7_join 36 = .ok (.athrow, 1) := by decide +kernel
theorem dX7_join_37 : decode cX7_join 37 = .ok (.aload_n 0, 1) := by decide +kernel
theorem dX7_join_38 : decode cX7_join 38 = .ok (.getfield 10, 3) := by decide +kernel
theorem dX7_join_41 : decode cX7_join 41 = .ok (.getfield 155, 3) := by decide +kernel
theorem dX7_join_44 : decode cX7_join 44 = .ok (.iload_n 1, 1) := by decide +kernel
theorem dX7_join_45 : decode cX7_join 45 = .ok (.aaload, 1) := by decide +kernel
theorem dX7_join_46 : decode cX7_join 46 = .ok (.astore_n 3, 1) := by decide +kernel
theorem dX7_join_47 : decode cX7_join 47 = .ok (.aload_n 0, 1) := by decide +kernel
theorem dX7_join_48 : decode cX7_join 48 = .ok (.getfield 10, 3) := by decide +kernel
theorem dX7_join_51 : decode cX7_join 51 = .ok (.getfield 155, 3) := by decide +kernel
theorem dX7_join_54 : decode cX7_join 54 = .ok (.iload_n 2, 1) := by decide +kernel
theorem dX7_join_55 : decode cX7_join 55 = .ok (.aaload, 1) := by decide +kernel
theorem dX7_join_56 : decode cX7_join 56 = .ok (.astore 4, 2) := by decide +kernel
theorem dX7_join_58 : decode cX7_join 58 = .ok (.aload_n 3, 1) := by decide +kernel
theorem dX7_join_59 : decode cX7_join 59 = .ok (.getfield 159, 3) := by decide +kernel
theorem dX7_join_62 : decode cX7_join 62 = .ok (.ifCond .ne 15, 3) := by decide +kernel
theorem dX7_join_65 : decode cX7_join 65 = .ok (.aload 4, 2) := by decide +kernel
theorem dX7_join_67 : decode cX7_join 67 = .ok (.getfield 159, 3) := by decide +kernel
theorem dX7_join_70 : decode cX7_join 70 = .ok (.ifCond .ne 7, 3) := by decide +kernel
theorem dX7_join_73 : decode cX7_join 73 = .ok (.iconst 1, 1) := by decide +kernel
theorem dX7_join_74 : decode cX7_join 74 = .ok (.goto 4, 3) := by decide +kernel
theorem dX7_join_77 : decode cX7_join 77 = .ok (.iconst 0, 1) := by decide +kernel
theorem dX7_join_78 : decode cX7_join 78 = .ok (.invokestatic 48, 3) := by decide +kernel
theorem dX7_join_81 : decode cX7_join 81 = .ok (.aload_n 3, 1) := by decide +kernel
theorem dX7_join_82 : decode cX7_join 82 = .ok (.getfield 170, 3) := by decide +kernel
theorem dX7_join_85 : decode cX7_join 85 = .ok (.aload 4, 2) := by decide +kernel
theorem dX7_join_87 : decode cX7_join 87 = .ok (.getfield 170, 3) := by decide +kernel
theorem dX7_join_90 : decode cX7_join 90 = .ok (.if_icmp .ne 23, 3) := by decide +kernel
theorem dX7_join_93 : decode cX7_join 93 = .ok (.aload_n 3, 1) := by decide +kernel
theorem dX7_join_94 : decode cX7_join 94 = .ok (.getfield 164, 3) := by decide +kernel
theorem dX7_join_97 : decode cX7_join 97 = .ok (.aload 4, 2) := by decide +kernel
theorem dX7_join_99 : decode cX7_join 99 = .ok (.getfield 164, 3) := by decide +kernel
theorem dX7_join_102 : decode cX7_join 102 = .ok (.iadd, 1) := by decide +kernel
theorem dX7_join_103 : decode cX7_join 103 = .ok (.sipush 300, 3) := by decide +kernel
theorem dX7_join_106 : decode cX7_join 106 = .ok (.if_icmp .gt 7, 3) := by decide +kernel
theorem dX7_join_109 : decode cX7_join 109 = .ok (.iconst 1, 1) := by decide +kernel
theorem dX7_join_110 : decode cX7_join 110 = .ok (.goto 4, 3) := by decide +kernel
theorem dX7_join_113 : decode cX7_join 113 = .ok (.iconst 0, 1) := by decide +kernel
theorem dX7_join_114 : decode cX7_join 114 = .ok (.invokestatic 48, 3) := by decide +kernel
theorem dX7_join_117 : decode cX7_join 117 = .ok (.aload_n 0, 1) := by decide +kernel
theorem dX7_join_118 : decode cX7_join 118 = .ok (.getfield 22, 3) := by decide +kernel
theorem dX7_join_121 : decode cX7_join 121 = .ok (.aload_n 0, 1) := by decide +kernel
theorem dX7_join_122 : decode cX7_join 122 = .ok (.getfield 10, 3) := by decide +kernel
theorem dX7_join_125 : decode cX7_join 125 = .ok (.invokevirtual 52, 3) := by decide +kernel
theorem dX7_join_128 : decode cX7_join 128 = .ok (.aload 4, 2) := by decide +kernel
theorem dX7_join_130 : decode cX7_join 130 = .ok (.aload_n 3, 1) := by decide +kernel
theorem dX7_join_131 : decode cX7_join 131 = .ok (.invokevirtual 184, 3) := by decide +kernel
theorem dX7_join_134 : decode cX7_join 134 = .ok (.aload_n 3, 1) := by decide +kernel
theorem dX7_join_135 : decode cX7_join 135 = .ok (.iconst 2, 1) := by decide +kernel
theorem dX7_join_136 : decode cX7_join 136 = .ok (.invokevirtual 188, 3) := by decide +kernel
theorem dX7_join_139 : decode cX7_join 139 = .ok (.aload 4, 2) := by decide +kernel
theorem dX7_join_141 : decode cX7_join 141 = .ok (.getfield 164, 3) := by decide +kernel
theorem dX7_join_144 : decode cX7_join 144 = .ok (.ireturn, 1) := by decide +kernel
theorem dX7_move_0 : decode cX7_move 0 = .ok (.iload_n 1, 1) := by decide +kernel
theorem dX7_move_1 : decode cX7_move 1 = .ok (.aload_n 0, 1) := by decide +kernel
theorem dX7_move_2 : decode cX7_move 2 = .ok (.getfield 10, 3) := by decide +kernel
theorem dX7_move_5 : decode cX7_move 5 = .ok (.getfield 148, 3) := by decide +kernel
theorem dX7_move_8 : decode cX7_move 8 = .ok (.invokestatic 60, 3) := by decide +kernel
theorem dX7_move_11 : decode cX7_move 11 = .ok (.iload_n 2, 1) := by decide +kernel
theorem dX7_move_12 : decode cX7_move 12 = .ok (.aload_n 0, 1) := by decide +kernel
theorem dX7_move_13 : decode cX7_move 13 = .ok (.getfield 10, 3) := by decide +kernel
theorem dX7_move_16 : decode cX7_move 16 = .ok (.getfield 45, 3) := by decide +kernel
theorem dX7_move_19 : decode cX7_move 19 = .ok (.invokestatic 60, 3) := by decide +kernel
theorem dX7_move_22 : decode cX7_move 22 = .ok (.aload_n 0, 1) := by decide +kernel
theorem dX7_move_23 : decode cX7_move 23 = .ok (.getfield 10, 3) := by decide +kernel
theorem dX7_move_26 : decode cX7_move 26 = .ok (.getfield 155, 3) := by decide +kernel
theorem dX7_move_29 : decode cX7_move 29 = .ok (.iload_n 1, 1) := by decide +kernel
theorem dX7_move_30 : decode cX7_move 30 = .ok (.aaload, 1) := by decide +kernel
theorem dX7_move_31 : decode cX7_move 31 = .ok (.astore_n 3, 1) := by decide +kernel
theorem dX7_move_32 : decode cX7_move 32 = .ok (.aload_n 3, 1) := by decide +kernel
theorem dX7_move_33 : decode cX7_move 33 = .ok (.getfield 159, 3) := by decide +kernel
theorem dX7_move_36 : decode cX7_move 36 = .ok (.ifCond .ne 7, 3) := by decide +kernel
theorem dX7_move_39 : decode cX7_move 39 = .ok (.iconst 1, 1) := by decide +kernel
theorem dX7_move_40 : decode cX7_move 40 = .ok (.goto 4, 3) := by decide +kernel
theorem dX7_move_43 : decode cX7_move 43 = .ok (.iconst 0, 1) := by decide +kernel
theorem dX7_move_44 : decode cX7_move 44 = .ok (.invokestatic 48, 3) := by decide +kernel
theorem dX7_move_47 : decode cX7_move 47 = .ok (.aload_n 0, 1) := by decide +kernel
theorem dX7_move_48 : decode cX7_move 48 = .ok (.getfield 22, 3) := by decide +kernel
theorem dX7_move_51 : decode cX7_move 51 = .ok (.aload_n 0, 1) := by decide +kernel
theorem dX7_move_52 : decode cX7_move 52 = .ok (.getfield 10, 3) := by decide +kernel
theorem dX7_move_55 : decode cX7_move 55 = .ok (.invokevirtual 52, 3) := by decide +kernel
theorem dX7_move_58 : decode cX7_move 58 = .ok (.aload_n 3, 1) := by decide +kernel
theorem dX7_move_59 : decode cX7_move 59 = .ok (.getfield 170, 3) := by decide +kernel
theorem dX7_move_62 : decode cX7_move 62 = .ok (.istore 4, 2) := by decide +kernel
theorem dX7_move_64 : decode cX7_move 64 = .ok (.aload_n 3, 1) := by decide +kernel
theorem dX7_move_65 : decode cX7_move 65 = .ok (.iload_n 2, 1) := by decide +kernel
theorem dX7_move_66 : decode cX7_move 66 = .ok (.putfield 170, 3) := by decide +kernel
theorem dX7_move_69 : decode cX7_move 69 = .ok (.iload 4, 2) := by decide +kernel
theorem dX7_move_71 : decode cX7_move 71 = .ok (.ireturn, 1) := by decide +kernel
theorem dX7_wrap_0 : decode cX7_wrap 0 = .ok (.iload_n 1, 1) := by decide +kernel
theorem dX7_wrap_1 : decode cX7_wrap 1 = .ok (.aload_n 0, 1) := by decide +kernel
theorem dX7_wrap_2 : decode cX7_wrap 2 = .ok (.getfield 10, 3) := by decide +kernel
theorem dX7_wrap_5 : decode cX7_wrap 5 = .ok (.getfield 148, 3) := by decide +kernel
theorem dX7_wrap_8 : decode cX7_wrap 8 = .ok (.invokestatic 60, 3) := by decide +kernel
theorem dX7_wrap_11 : decode cX7_wrap 11 = .ok (.aload_n 0, 1) := by decide +kernel
theorem dX7_wrap_12 : decode cX7_wrap 12 = .ok (.getfield 10, 3) := by decide +kernel
theorem dX7_wrap_15 : decode cX7_wrap 15 = .ok (.getfield 155, 3) := by decide +kernel
theorem dX7_wrap_18 : decode cX7_wrap 18 = .ok (.iload_n 1, 1) := by decide +kernel
theorem dX7_wrap_19 : decode cX7_wrap 19 = .ok (.aaload, 1) := by decide +kernel
theorem dX7_wrap_20 : decode cX7_wrap 20 = .ok (.astore_n 2, 1) := by decide +kernel
theorem dX7_wrap_21 : decode cX7_wrap 21 = .ok (.aload_n 2, 1) := by decide +kernel
theorem dX7_wrap_22 : decode cX7_wrap 22 = .ok (.getfield 159, 3) := by decide +kernel
theorem dX7_wrap_25 : decode cX7_wrap 25 = .ok (.ifCond .ne 7, 3) := by decide +kernel
theorem dX7_wrap_28 : decode cX7_wrap 28 = .ok (.iconst 1, 1) := by decide +kernel
theorem dX7_wrap_29 : decode cX7_wrap 29 = .ok (.goto 4, 3) := by decide +kernel
theorem dX7_wrap_32 : decode cX7_wrap 32 = .ok (.iconst 0, 1) := by decide +kernel
theorem dX7_wrap_33 : decode cX7_wrap 33 = .ok (.invokestatic 48, 3) := by decide +kernel
theorem dX7_wrap_36 : decode cX7_wrap 36 = .ok (.aload_n 0, 1) := by decide +kernel
theorem dX7_wrap_37 : decode cX7_wrap 37 = .ok (.getfield 22, 3) := by decide +kernel
theorem dX7_wrap_40 : decode cX7_wrap 40 = .ok (.aload_n 0, 1) := by decide +kernel
theorem dX7_wrap_41 : decode cX7_wrap 41 = .ok (.getfield 10, 3) := by decide +kernel
theorem dX7_wrap_44 : decode cX7_wrap 44 = .ok (.invokevirtual 52, 3) := by decide +kernel
theorem dX7_wrap_47 : decode cX7_wrap 47 = .ok (.aload_n 2, 1) := by decide +kernel
theorem dX7_wrap_48 : decode cX7_wrap 48 = .ok (.aload_n 2, 1) := by decide +kernel
theorem dX7_wrap_49 : decode cX7_wrap 49 = .ok (.invokevirtual 192, 3) := by decide +kernel
theorem dX7_wrap_52 : decode cX7_wrap 52 = .ok (.putfield 195, 3) := by decide +kernel
theorem dX7_wrap_55 : decode cX7_wrap 55 = .ok (.aload_n 2, 1) := by decide +kernel
theorem dX7_wrap_56 : decode cX7_wrap 56 = .ok (.iconst 1, 1) := by decide +kernel
theorem dX7_wrap_57 : decode cX7_wrap 57 = .ok (.invokevirtual 188, 3) := by decide +kernel
theorem dX7_wrap_60 : decode cX7_wrap 60 = .ok (.aload_n 2, 1) := by decide +kernel
theorem dX7_wrap_61 : decode cX7_wrap 61 = .ok (.getfield 195, 3) := by decide +kernel
theorem dX7_wrap_64 : decode cX7_wrap 64 = .ok (.ireturn, 1) := by decide +kernel
theorem dX7_pass_0 : decode cX7_pass 0 = .ok (.iload_n 1, 1) := by decide +kernel
theorem dX7_pass_1 : decode cX7_pass 1 = .ok (.iconst 1, 1) := by decide +kernel
theorem dX7_pass_2 : decode cX7_pass 2 = .ok (.sipush 200, 3) := by decide +kernel
theorem dX7_pass_5 : decode cX7_pass 5 = .ok (.invokestatic 41, 3) := by decide +kernel
theorem dX7_pass_8 : decode cX7_pass 8 = .ok (.aload_n 0, 1) := by decide +kernel
theorem dX7_pass_9 : decode cX7_pass 9 = .ok (.getfield 10, 3) := by decide +kernel
theorem dX7_pass_12 : decode cX7_pass 12 = .ok (.getfield 132, 3) := by decide +kernel
theorem dX7_pass_15 : decode cX7_pass 15 = .ok (.iload_n 1, 1) := by decide +kernel
theorem dX7_pass_16 : decode cX7_pass 16 = .ok (.iadd, 1) := by decide +kernel
theorem dX7_pass_17 : decode cX7_pass 17 = .ok (.sipush 20000, 3) := by decide +kernel
theorem dX7_pass_20 : decode cX7_pass 20 = .ok (.if_icmp .gt 7, 3) := by decide +kernel
theorem dX7_pass_23 : decode cX7_pass 23 = .ok (.iconst 1, 1) := by decide +kernel
theorem dX7_pass_24 : decode cX7_pass 24 = .ok (.goto 4, 3) := by decide +kernel
theorem dX7_pass_27 : decode cX7_pass 27 = .ok (.iconst 0, 1) := by decide +kernel
theorem dX7_pass_28 : decode cX7_pass 28 = .ok (.invokestatic 48, 3) := by decide +kernel
theorem dX7_pass_31 : decode cX7_pass 31 = .ok (.aload_n 0, 1) := by decide +kernel
theorem dX7_pass_32 : decode cX7_pass 32 = .ok (.getfield 22, 3) := by decide +kernel
theorem dX7_pass_35 : decode cX7_pass 35 = .ok (.aload_n 0, 1) := by decide +kernel
theorem dX7_pass_36 : decode cX7_pass 36 = .ok (.getfield 10, 3) := by decide +kernel
theorem dX7_pass_39 : decode cX7_pass 39 = .ok (.invokevirtual 52, 3) := by decide +kernel
theorem dX7_pass_42 : decode cX7_pass 42 = .ok (.aload_n 0, 1) := by decide +kernel
theorem dX7_pass_43 : decode cX7_pass 43 = .ok (.getfield 10, 3) := by decide +kernel
theorem dX7_pass_46 : decode cX7_pass 46 = .ok (.invokevirtual 198, 3) := by decide +kernel
theorem dX7_pass_49 : decode cX7_pass 49 = .ok (.istore_n 2, 1) := by decide +kernel
theorem dX7_pass_50 : decode cX7_pass 50 = .ok (.iconst 0, 1) := by decide +kernel
theorem dX7_pass_51 : decode cX7_pass 51 = .ok (.istore_n 3, 1) := by decide +kernel
theorem dX7_pass_52 : decode cX7_pass 52 = .ok (.iload_n 3, 1) := by decide +kernel
theorem dX7_pass_53 : decode cX7_pass 53 = .ok (.iload_n 1, 1) := by decide +kernel
theorem dX7_pass_54 : decode cX7_pass 54 = .ok (.if_icmp .ge 16, 3) := by decide +kernel
theorem dX7_pass_57 : decode cX7_pass 57 = .ok (.aload_n 0, 1) := by decide +kernel
theorem dX7_pass_58 : decode cX7_pass 58 = .ok (.getfield 10, 3) := by decide +kernel
theorem dX7_pass_61 : decode cX7_pass 61 = .ok (.invokevirtual 201, 3) := by decide +kernel
theorem dX7_pass_64 : decode cX7_pass 64 = .ok (.iinc 3 1, 3) := by decide +kernel
theorem dX7_pass_67 : decode cX7_pass 67 = .ok (.goto (-15), 3) := by decide +kernel
theorem dX7_pass_70 : decode cX7_pass 70 = .ok (.aload_n 0, 1) := by decide +kernel
theorem dX7_pass_71 : decode cX7_pass 71 = .ok (.getfield 10, 3) := by decide +kernel
theorem dX7_pass_74 : decode cX7_pass 74 = .ok (.invokevirtual 198, 3) := by decide +kernel
theorem dX7_pass_77 : decode cX7_pass 77 = .ok (.iload_n 2, 1) := by decide +kernel
theorem dX7_pass_78 : decode cX7_pass 78 = .ok (.isub, 1) := by decide +kernel
theorem dX7_pass_79 : decode cX7_pass 79 = .ok (.ireturn, 1) := by decide +kernel
theorem dX7_unit_0 : decode cX7_unit 0 = .ok (.iload_n 1, 1) := by decide +kernel
theorem dX7_unit_1 : decode cX7_unit 1 = .ok (.aload_n 0, 1) := by decide +kernel
theorem dX7_unit_2 : decode cX7_unit 2 = .ok (.getfield 10, 3) := by decide +kernel
theorem dX7_unit_5 : decode cX7_unit 5 = .ok (.getfield 148, 3) := by decide +kernel
theorem dX7_unit_8 : decode cX7_unit 8 = .ok (.invokestatic 60, 3) := by decide +kernel
theorem dX7_unit_11 : decode cX7_unit 11 = .ok (.iload_n 2, 1) := by decide +kernel
theorem dX7_unit_12 : decode cX7_unit 12 = .ok (.iconst 0, 1) := by decide +kernel
theorem dX7_unit_13 : decode cX7_unit 13 = .ok (.bipush 11, 2) := by decide +kernel
theorem dX7_unit_15 : decode cX7_unit 15 = .ok (.invokestatic 41, 3) := by decide +kernel
theorem dX7_unit_18 : decode cX7_unit 18 = .ok (.aload_n 0, 1) := by decide +kernel
theorem dX7_unit_19 : decode cX7_unit 19 = .ok (.getfield 10, 3) := by decide +kernel
theorem dX7_unit_22 : decode cX7_unit 22 = .ok (.getfield 155, 3) := by decide +kernel
theorem dX7_unit_25 : decode cX7_unit 25 = .ok (.iload_n 1, 1) := by decide +kernel
theorem dX7_unit_26 : decode cX7_unit 26 = .ok (.aaload, 1) := by decide +kernel
theorem dX7_unit_27 : decode cX7_unit 27 = .ok (.iload_n 2, 1) := by decide +kernel
theorem dX7_unit_28 : decode cX7_unit 28 = .ok (.invokevirtual 250, 3) := by decide +kernel
theorem dX7_unit_31 : decode cX7_unit 31 = .ok (.ireturn, 1) := by decide +kernel
theorem dX7_kitchen_0 : decode cX7_kitchen 0 = .ok (.iload_n 1, 1) := by decide +kernel
theorem dX7_kitchen_1 : decode cX7_kitchen 1 = .ok (.aload_n 0, 1) := by decide +kernel
theorem dX7_kitchen_2 : decode cX7_kitchen 2 = .ok (.getfield 10, 3) := by decide +kernel
theorem dX7_kitchen_5 : decode cX7_kitchen 5 = .ok (.getfield 64, 3) := by decide +kernel
theorem dX7_kitchen_8 : decode cX7_kitchen 8 = .ok (.invokestatic 60, 3) := by decide +kernel
theorem dX7_kitchen_11 : decode cX7_kitchen 11 = .ok (.iload_n 2, 1) := by decide +kernel
theorem dX7_kitchen_12 : decode cX7_kitchen 12 = .ok (.iconst 0, 1) := by decide +kernel
theorem dX7_kitchen_13 : decode cX7_kitchen 13 = .ok (.bipush 11, 2) := by decide +kernel
theorem dX7_kitchen_15 : decode cX7_kitchen 15 = .ok (.invokestatic 41, 3) := by decide +kernel
theorem dX7_kitchen_18 : decode cX7_kitchen 18 = .ok (.aload_n 0, 1) := by decide +kernel
theorem dX7_kitchen_19 : decode cX7_kitchen 19 = .ok (.getfield 10, 3) := by decide +kernel
theorem dX7_kitchen_22 : decode cX7_kitchen 22 = .ok (.getfield 87, 3) := by decide +kernel
theorem dX7_kitchen_25 : decode cX7_kitchen 25 = .ok (.iload_n 1, 1) := by decide +kernel
theorem dX7_kitchen_26 : decode cX7_kitchen 26 = .ok (.aaload, 1) := by decide +kernel
theorem dX7_kitchen_27 : decode cX7_kitchen 27 = .ok (.iload_n 2, 1) := by decide +kernel
theorem dX7_kitchen_28 : decode cX7_kitchen 28 = .ok (.aload_n 0, 1) := by decide +kernel
theorem dX7_kitchen_29 : decode cX7_kitchen 29 = .ok (.getfield 10, 3) := by decide +kernel
theorem dX7_kitchen_32 : decode cX7_kitchen 32 = .ok (.getfield 132, 3) := by decide +kernel
theorem dX7_kitchen_35 : decode cX7_kitchen 35 = .ok (.invokevirtual 253, 3) := by decide +kernel
theorem dX7_kitchen_38 : decode cX7_kitchen 38 = .ok (.ireturn, 1) := by decide +kernel
theorem dX7_lorry_0 : decode cX7_lorry 0 = .ok (.iload_n 1, 1) := by decide +kernel
theorem dX7_lorry_1 : decode cX7_lorry 1 = .ok (.aload_n 0, 1) := by decide +kernel
theorem dX7_lorry_2 : decode cX7_lorry 2 = .ok (.getfield 10, 3) := by decide +kernel
theorem dX7_lorry_5 : decode cX7_lorry 5 = .ok (.getfield 71, 3) := by decide +kernel
theorem dX7_lorry_8 : decode cX7_lorry 8 = .ok (.invokestatic 60, 3) := by decide +kernel
theorem dX7_lorry_11 : decode cX7_lorry 11 = .ok (.iload_n 2, 1) := by decide +kernel
theorem dX7_lorry_12 : decode cX7_lorry 12 = .ok (.iconst 0, 1) := by decide +kernel
theorem dX7_lorry_13 : decode cX7_lorry 13 = .ok (.bipush 8, 2) := by decide +kernel
theorem dX7_lorry_15 : decode cX7_lorry 15 = .ok (.invokestatic 41, 3) := by decide +kernel
theorem dX7_lorry_18 : decode cX7_lorry 18 = .ok (.aload_n 0, 1) := by decide +kernel
theorem dX7_lorry_19 : decode cX7_lorry 19 = .ok (.getfield 10, 3) := by decide +kernel
theorem dX7_lorry_22 : decode cX7_lorry 22 = .ok (.getfield 108, 3) := by decide +kernel
theorem dX7_lorry_25 : decode cX7_lorry 25 = .ok (.iload_n 1, 1) := by decide +kernel
theorem dX7_lorry_26 : decode cX7_lorry 26 = .ok (.aaload, 1) := by decide +kernel
theorem dX7_lorry_27 : decode cX7_lorry 27 = .ok (.iload_n 2, 1) := by decide +kernel
theorem dX7_lorry_28 : decode cX7_lorry 28 = .ok (.aload_n 0, 1) := by decide +kernel
theorem dX7_lorry_29 : decode cX7_lorry 29 = .ok (.getfield 10, 3) := by decide +kernel
theorem dX7_lorry_32 : decode cX7_lorry 32 = .ok (.getfield 132, 3) := by decide +kernel
theorem dX7_lorry_35 : decode cX7_lorry 35 = .ok (.invokevirtual 255, 3) := by decide +kernel
theorem dX7_lorry_38 : decode cX7_lorry 38 = .ok (.ireturn, 1) := by decide +kernel
theorem dX7_count_0 : decode cX7_count 0 = .ok (.iload_n 1, 1) := by decide +kernel
theorem dX7_count_1 : decode cX7_count 1 = .ok (.iconst 0, 1) := by decide +kernel
theorem dX7_count_2 : decode cX7_count 2 = .ok (.bipush 16, 2) := by decide +kernel
theorem dX7_count_4 : decode cX7_count 4 = .ok (.invokestatic 41, 3) := by decide +kernel
theorem dX7_count_7 : decode cX7_count 7 = .ok (.iload_n 1, 1) := by decide +kernel
theorem dX7_count_8 : decode cX7_count 8 = .ok (.tableswitch 208 0 15 #[80, 88, 96, 104, 112, 120, 128, 136, 144, 152, 160, 168, 176, 184, 192, 200], 80) := by decide +kernel
theorem dX7_count_88 : decode cX7_count 88 = .ok (.aload_n 0, 1) := by decide +kernel
theorem dX7_count_89 : decode cX7_count 89 = .ok (.getfield 10, 3) := by decide +kernel
theorem dX7_count_92 : decode cX7_count 92 = .ok (.getfield 45, 3) := by decide +kernel
theorem dX7_count_95 : decode cX7_count 95 = .ok (.ireturn, 1) := by decide +kernel
theorem dX7_count_96 : decode cX7_count 96 = .ok (.aload_n 0, 1) := by decide +kernel
theorem dX7_count_97 : decode cX7_count 97 = .ok (.getfield 10, 3) := by decide +kernel
theorem dX7_count_100 : decode cX7_count 100 = .ok (.getfield 64, 3) := by decide +kernel
theorem dX7_count_103 : decode cX7_count 103 = .ok (.ireturn, 1) := by decide +kernel
theorem dX7_count_104 : decode cX7_count 104 = .ok (.aload_n 0, 1) := by decide +kernel
theorem dX7_count_105 : decode cX7_count 105 = .ok (.getfield 10, 3) := by decide +kernel
theorem dX7_count_108 : decode cX7_count 108 = .ok (.getfield 71, 3) := by decide +kernel
theorem dX7_count_111 : decode cX7_count 111 = .ok (.ireturn, 1) := by decide +kernel
theorem dX7_count_112 : decode cX7_count 112 = .ok (.aload_n 0, 1) := by decide +kernel
theorem dX7_count_113 : decode cX7_count 113 = .ok (.getfield 10, 3) := by decide +kernel
theorem dX7_count_116 : decode cX7_count 116 = .ok (.getfield 148, 3) := by decide +kernel
theorem dX7_count_119 : decode cX7_count 119 = .ok (.ireturn, 1) := by decide +kernel
theorem dX7_count_120 : decode cX7_count 120 = .ok (.aload_n 0, 1) := by decide +kernel
theorem dX7_count_121 : decode cX7_count 121 = .ok (.getfield 10, 3) := by decide +kernel
theorem dX7_count_124 : decode cX7_count 124 = .ok (.invokevirtual 256, 3) := by decide +kernel

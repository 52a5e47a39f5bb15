theorem dX8_wouldDo_18 : decode cX8_wouldDo 18 = .ok (.iload_n 3, 1) := by decide +kernel
theorem dX8_wouldDo_19 : decode cX8_wouldDo 19 = .ok (.iaload, 1) := by decide +kernel
theorem dX8_wouldDo_20 : decode cX8_wouldDo 20 = .ok (.iastore, 1) := by decide +kernel
theorem dX8_wouldDo_21 : decode cX8_wouldDo 21 = .ok (.iinc 3 1, 3) := by decide +kernel
theorem dX8_wouldDo_24 : decode cX8_wouldDo 24 = .ok (.goto (-22), 3) := by decide +kernel
theorem dX8_wouldDo_27 : decode cX8_wouldDo 27 = .ok (.aload_n 0, 1) := by decide +kernel
theorem dX8_wouldDo_28 : decode cX8_wouldDo 28 = .ok (.iload_n 1, 1) := by decide +kernel
theorem dX8_wouldDo_29 : decode cX8_wouldDo 29 = .ok (.invokevirtual 162, 3) := by decide +kernel
theorem dX8_wouldDo_32 : decode cX8_wouldDo 32 = .ok (.istore_n 3, 1) := by decide +kernel
theorem dX8_wouldDo_33 : decode cX8_wouldDo 33 = .ok (.iload_n 2, 1) := by decide +kernel
theorem dX8_wouldDo_34 : decode cX8_wouldDo 34 = .ok (.ifCond .ne 7, 3) := by decide +kernel
theorem dX8_wouldDo_37 : decode cX8_wouldDo 37 = .ok (.iload_n 3, 1) := by decide +kernel
theorem dX8_wouldDo_38 : decode cX8_wouldDo 38 = .ok (.goto 66, 3) := by decide +kernel
theorem dX8_wouldDo_41 : decode cX8_wouldDo 41 = .ok (.iload_n 2, 1) := by decide +kernel
theorem dX8_wouldDo_42 : decode cX8_wouldDo 42 = .ok (.iconst 1, 1) := by decide +kernel
theorem dX8_wouldDo_43 : decode cX8_wouldDo 43 = .ok (.if_icmp .ne 21, 3) := by decide +kernel
theorem dX8_wouldDo_46 : decode cX8_wouldDo 46 = .ok (.aload_n 0, 1) := by decide +kernel
theorem dX8_wouldDo_47 : decode cX8_wouldDo 47 = .ok (.getfield 7, 3) := by decide +kernel
theorem dX8_wouldDo_50 : decode cX8_wouldDo 50 = .ok (.bipush 13, 2) := by decide +kernel
theorem dX8_wouldDo_52 : decode cX8_wouldDo 52 = .ok (.iaload, 1) := by decide +kernel
theorem dX8_wouldDo_53 : decode cX8_wouldDo 53 = .ok (.aload_n 0, 1) := by decide +kernel
theorem dX8_wouldDo_54 : decode cX8_wouldDo 54 = .ok (.getfield 22, 3) := by decide +kernel
theorem dX8_wouldDo_57 : decode cX8_wouldDo 57 = .ok (.bipush 13, 2) := by decide +kernel
theorem dX8_wouldDo_59 : decode cX8_wouldDo 59 = .ok (.iaload, 1) := by decide +kernel
theorem dX8_wouldDo_60 : decode cX8_wouldDo 60 = .ok (.isub, 1) := by decide +kernel
theorem dX8_wouldDo_61 : decode cX8_wouldDo 61 = .ok (.goto 43, 3) := by decide +kernel
theorem dX8_wouldDo_64 : decode cX8_wouldDo 64 = .ok (.iload_n 2, 1) := by decide +kernel
theorem dX8_wouldDo_65 : decode cX8_wouldDo 65 = .ok (.iconst 2, 1) := by decide +kernel
theorem dX8_wouldDo_66 : decode cX8_wouldDo 66 = .ok (.if_icmp .ne 21, 3) := by decide +kernel
theorem dX8_wouldDo_69 : decode cX8_wouldDo 69 = .ok (.aload_n 0, 1) := by decide +kernel
theorem dX8_wouldDo_70 : decode cX8_wouldDo 70 = .ok (.getfield 7, 3) := by decide +kernel
theorem dX8_wouldDo_73 : decode cX8_wouldDo 73 = .ok (.bipush 16, 2) := by decide +kernel
theorem dX8_wouldDo_75 : decode cX8_wouldDo 75 = .ok (.iaload, 1) := by decide +kernel
theorem dX8_wouldDo_76 : decode cX8_wouldDo 76 = .ok (.aload_n 0, 1) := by decide +kernel
theorem dX8_wouldDo_77 : decode cX8_wouldDo 77 = .ok (.getfield 22, 3) := by decide +kernel
theorem dX8_wouldDo_80 : decode cX8_wouldDo 80 = .ok (.bipush 16, 2) := by decide +kernel
theorem dX8_wouldDo_82 : decode cX8_wouldDo 82 = .ok (.iaload, 1) := by decide +kernel
theorem dX8_wouldDo_83 : decode cX8_wouldDo 83 = .ok (.isub, 1) := by decide +kernel
theorem dX8_wouldDo_84 : decode cX8_wouldDo 84 = .ok (.goto 20, 3) := by decide +kernel
theorem dX8_wouldDo_87 : decode cX8_wouldDo 87 = .ok (.iload_n 2, 1) := by decide +kernel
theorem dX8_wouldDo_88 : decode cX8_wouldDo 88 = .ok (.iconst 3, 1) := by decide +kernel
theorem dX8_wouldDo_89 : decode cX8_wouldDo 89 = .ok (.if_icmp .ne 11, 3) := by decide +kernel
theorem dX8_wouldDo_92 : decode cX8_wouldDo 92 = .ok (.aload_n 0, 1) := by decide +kernel
theorem dX8_wouldDo_93 : decode cX8_wouldDo 93 = .ok (.iconst 2, 1) := by decide +kernel
theorem dX8_wouldDo_94 : decode cX8_wouldDo 94 = .ok (.invokevirtual 218, 3) := by decide +kernel
theorem dX8_wouldDo_97 : decode cX8_wouldDo 97 = .ok (.goto 7, 3) := by decide +kernel
theorem dX8_wouldDo_100 : decode cX8_wouldDo 100 = .ok (.aload_n 0, 1) := by decide +kernel
theorem dX8_wouldDo_101 : decode cX8_wouldDo 101 = .ok (.getfield 131, 3) := by decide +kernel
theorem dX8_wouldDo_104 : decode cX8_wouldDo 104 = .ok (.istore 4, 2) := by decide +kernel
theorem dX8_wouldDo_106 : decode cX8_wouldDo 106 = .ok (.iconst 0, 1) := by decide +kernel
theorem dX8_wouldDo_107 : decode cX8_wouldDo 107 = .ok (.istore 5, 2) := by decide +kernel
theorem dX8_wouldDo_109 : decode cX8_wouldDo 109 = .ok (.iload 5, 2) := by decide +kernel
theorem dX8_wouldDo_111 : decode cX8_wouldDo 111 = .ok (.sipush 1561, 3) := by decide +kernel
theorem dX8_wouldDo_114 : decode cX8_wouldDo 114 = .ok (.if_icmp .ge 23, 3) := by decide +kernel
theorem dX8_wouldDo_117 : decode cX8_wouldDo 117 = .ok (.aload_n 0, 1) := by decide +kernel
theorem dX8_wouldDo_118 : decode cX8_wouldDo 118 = .ok (.getfield 7, 3) := by decide +kernel
theorem dX8_wouldDo_121 : decode cX8_wouldDo 121 = .ok (.iload 5, 2) := by decide +kernel
theorem dX8_wouldDo_123 : decode cX8_wouldDo 123 = .ok (.aload_n 0, 1) := by decide +kernel
theorem dX8_wouldDo_124 : decode cX8_wouldDo 124 = .ok (.getfield 22, 3) := by decide +kernel
theorem dX8_wouldDo_127 : decode cX8_wouldDo 127 = .ok (.iload 5, 2) := by decide +kernel
theorem dX8_wouldDo_129 : decode cX8_wouldDo 129 = .ok (.iaload, 1) := by decide +kernel
theorem dX8_wouldDo_130 : decode cX8_wouldDo 130 = .ok (.iastore, 1) := by decide +kernel
theorem dX8_wouldDo_131 : decode cX8_wouldDo 131 = .ok (.iinc 5 1, 3) := by decide +kernel
theorem dX8_wouldDo_134 : decode cX8_wouldDo 134 = .ok (.goto (-25), 3) := by decide +kernel
theorem dX8_wouldDo_137 : decode cX8_wouldDo 137 = .ok (.iload 4, 2) := by decide +kernel
theorem dX8_wouldDo_139 : decode cX8_wouldDo 139 = .ok (.ireturn, 1) := by decide +kernel
theorem dX8_ifPassed_0 : decode cX8_ifPassed 0 = .ok (.aload_n 0, 1) := by decide +kernel
theorem dX8_ifPassed_1 : decode cX8_ifPassed 1 = .ok (.iload_n 1, 1) := by decide +kernel
theorem dX8_ifPassed_2 : decode cX8_ifPassed 2 = .ok (.iconst 1, 1) := by decide +kernel
theorem dX8_ifPassed_3 : decode cX8_ifPassed 3 = .ok (.sipush 200, 3) := by decide +kernel
theorem dX8_ifPassed_6 : decode cX8_ifPassed 6 = .ok (.invokestatic 32, 3) := by decide +kernel
theorem dX8_ifPassed_9 : decode cX8_ifPassed 9 = .ok (.ifCond .eq 16, 3) := by decide +kernel
theorem dX8_ifPassed_12 : decode cX8_ifPassed 12 = .ok (.iload_n 2, 1) := by decide +kernel
theorem dX8_ifPassed_13 : decode cX8_ifPassed 13 = .ok (.iconst 0, 1) := by decide +kernel
theorem dX8_ifPassed_14 : decode cX8_ifPassed 14 = .ok (.iconst 3, 1) := by decide +kernel
theorem dX8_ifPassed_15 : decode cX8_ifPassed 15 = .ok (.invokestatic 32, 3) := by decide +kernel
theorem dX8_ifPassed_18 : decode cX8_ifPassed 18 = .ok (.ifCond .eq 7, 3) := by decide +kernel
theorem dX8_ifPassed_21 : decode cX8_ifPassed 21 = .ok (.iconst 0, 1) := by decide +kernel
theorem dX8_ifPassed_22 : decode cX8_ifPassed 22 = .ok (.goto 4, 3) := by decide +kernel
theorem dX8_ifPassed_25 : decode cX8_ifPassed 25 = .ok (.iconst 1, 1) := by decide +kernel
theorem dX8_ifPassed_26 : decode cX8_ifPassed 26 = .ok (.putfield 25, 3) := by decide +kernel
theorem dX8_ifPassed_29 : decode cX8_ifPassed 29 = .ok (.aload_n 0, 1) := by decide +kernel
theorem dX8_ifPassed_30 : decode cX8_ifPassed 30 = .ok (.getfield 25, 3) := by decide +kernel
theorem dX8_ifPassed_33 : decode cX8_ifPassed 33 = .ok (.ifCond .le 7, 3) := by decide +kernel
theorem dX8_ifPassed_36 : decode cX8_ifPassed 36 = .ok (.iconst 0, 1) := by decide +kernel
theorem dX8_ifPassed_37 : decode cX8_ifPassed 37 = .ok (.goto 9, 3) := by decide +kernel
theorem dX8_ifPassed_40 : decode cX8_ifPassed 40 = .ok (.aload_n 0, 1) := by decide +kernel
theorem dX8_ifPassed_41 : decode cX8_ifPassed 41 = .ok (.iload_n 1, 1) := by decide +kernel
theorem dX8_ifPassed_42 : decode cX8_ifPassed 42 = .ok (.iload_n 2, 1) := by decide +kernel
theorem dX8_ifPassed_43 : decode cX8_ifPassed 43 = .ok (.invokevirtual 227, 3) := by decide +kernel
theorem dX8_ifPassed_46 : decode cX8_ifPassed 46 = .ok (.ireturn, 1) := by decide +kernel
theorem dX8_callsNow_0 : decode cX8_callsNow 0 = .ok (.iconst 0, 1) := by decide +kernel
theorem dX8_callsNow_1 : decode cX8_callsNow 1 = .ok (.istore_n 3, 1) := by decide +kernel
theorem dX8_callsNow_2 : decode cX8_callsNow 2 = .ok (.iconst 0, 1) := by decide +kernel
theorem dX8_callsNow_3 : decode cX8_callsNow 3 = .ok (.istore 4, 2) := by decide +kernel
theorem dX8_callsNow_5 : decode cX8_callsNow 5 = .ok (.iload 4, 2) := by decide +kernel
theorem dX8_callsNow_7 : decode cX8_callsNow 7 = .ok (.aload_n 0, 1) := by decide +kernel
theorem dX8_callsNow_8 : decode cX8_callsNow 8 = .ok (.getfield 7, 3) := by decide +kernel
theorem dX8_callsNow_11 : decode cX8_callsNow 11 = .ok (.bipush 9, 2) := by decide +kernel
theorem dX8_callsNow_13 : decode cX8_callsNow 13 = .ok (.iaload, 1) := by decide +kernel
theorem dX8_callsNow_14 : decode cX8_callsNow 14 = .ok (.if_icmp .ge 94, 3) := by decide +kernel
theorem dX8_callsNow_17 : decode cX8_callsNow 17 = .ok (.aload_n 0, 1) := by decide +kernel
theorem dX8_callsNow_18 : decode cX8_callsNow 18 = .ok (.getfield 7, 3) := by decide +kernel
theorem dX8_callsNow_21 : decode cX8_callsNow 21 = .ok (.bipush 10, 2) := by decide +kernel
theorem dX8_callsNow_23 : decode cX8_callsNow 23 = .ok (.iaload, 1) := by decide +kernel
theorem dX8_callsNow_24 : decode cX8_callsNow 24 = .ok (.iload_n 1, 1) := by decide +kernel
theorem dX8_callsNow_25 : decode cX8_callsNow 25 = .ok (.iadd, 1) := by decide +kernel
theorem dX8_callsNow_26 : decode cX8_callsNow 26 = .ok (.aload_n 0, 1) := by decide +kernel
theorem dX8_callsNow_27 : decode cX8_callsNow 27 = .ok (.iload 4, 2) := by decide +kernel
theorem dX8_callsNow_29 : decode cX8_callsNow 29 = .ok (.iconst 4, 1) := by decide +kernel
theorem dX8_callsNow_30 : decode cX8_callsNow 30 = .ok (.invokevirtual 93, 3) := by decide +kernel
theorem dX8_callsNow_33 : decode cX8_callsNow 33 = .ok (.isub, 1) := by decide +kernel
theorem dX8_callsNow_34 : decode cX8_callsNow 34 = .ok (.istore 5, 2) := by decide +kernel
theorem dX8_callsNow_36 : decode cX8_callsNow 36 = .ok (.aload_n 0, 1) := by decide +kernel
theorem dX8_callsNow_37 : decode cX8_callsNow 37 = .ok (.iload 4, 2) := by decide +kernel
theorem dX8_callsNow_39 : decode cX8_callsNow 39 = .ok (.invokevirtual 107, 3) := by decide +kernel
theorem dX8_callsNow_42 : decode cX8_callsNow 42 = .ok (.ifCond .eq 23, 3) := by decide +kernel
theorem dX8_callsNow_45 : decode cX8_callsNow 45 = .ok (.iload 5, 2) := by decide +kernel
theorem dX8_callsNow_47 : decode cX8_callsNow 47 = .ok (.ifCond .lt 18, 3) := by decide +kernel
theorem dX8_callsNow_50 : decode cX8_callsNow 50 = .ok (.iconst 1, 1) := by decide +kernel
theorem dX8_callsNow_51 : decode cX8_callsNow 51 = .ok (.iload 5, 2) := by decide +kernel
theorem dX8_callsNow_53 : decode cX8_callsNow 53 = .ok (.aload_n 0, 1) := by decide +kernel
theorem dX8_callsNow_54 : decode cX8_callsNow 54 = .ok (.iload 4, 2) := by decide +kernel
theorem dX8_callsNow_56 : decode cX8_callsNow 56 = .ok (.iconst 5, 1) := by decide +kernel
theorem dX8_callsNow_57 : decode cX8_callsNow 57 = .ok (.invokevirtual 93, 3) := by decide +kernel
theorem dX8_callsNow_60 : decode cX8_callsNow 60 = .ok (.idiv, 1) := by decide +kernel
theorem dX8_callsNow_61 : decode cX8_callsNow 61 = .ok (.iadd, 1) := by decide +kernel
theorem dX8_callsNow_62 : decode cX8_callsNow 62 = .ok (.goto 4, 3) := by decide +kernel
theorem dX8_callsNow_65 : decode cX8_callsNow 65 = .ok (.iconst 0, 1) := by decide +kernel
theorem dX8_callsNow_66 : decode cX8_callsNow 66 = .ok (.istore 6, 2) := by decide +kernel
theorem dX8_callsNow_68 : decode cX8_callsNow 68 = .ok (.aload_n 0, 1) := by decide +kernel
theorem dX8_callsNow_69 : decode cX8_callsNow 69 = .ok (.iload 4, 2) := by decide +kernel
theorem dX8_callsNow_71 : decode cX8_callsNow 71 = .ok (.iconst 3, 1) := by decide +kernel
theorem dX8_callsNow_72 : decode cX8_callsNow 72 = .ok (.invokevirtual 93, 3) := by decide +kernel
theorem dX8_callsNow_75 : decode cX8_callsNow 75 = .ok (.istore 7, 2) := by decide +kernel
theorem dX8_callsNow_77 : decode cX8_callsNow 77 = .ok (.iload_n 3, 1) := by decide +kernel
theorem dX8_callsNow_78 : decode cX8_callsNow 78 = .ok (.iload 6, 2) := by decide +kernel
theorem dX8_callsNow_80 : decode cX8_callsNow 80 = .ok (.iload_n 2, 1) := by decide +kernel
theorem dX8_callsNow_81 : decode cX8_callsNow 81 = .ok (.ifCond .ne 8, 3) := by decide +kernel
theorem dX8_callsNow_84 : decode cX8_callsNow 84 = .ok (.iload 7, 2) := by decide +kernel
theorem dX8_callsNow_86 : decode cX8_callsNow 86 = .ok (.goto 13, 3) := by decide +kernel
theorem dX8_callsNow_89 : decode cX8_callsNow 89 = .ok (.aload_n 0, 1) := by decide +kernel
theorem dX8_callsNow_90 : decode cX8_callsNow 90 = .ok (.iload 4, 2) := by decide +kernel
theorem dX8_callsNow_92 : decode cX8_callsNow 92 = .ok (.iconst 2, 1) := by decide +kernel
theorem dX8_callsNow_93 : decode cX8_callsNow 93 = .ok (.invokevirtual 93, 3) := by decide +kernel
theorem dX8_callsNow_96 : decode cX8_callsNow 96 = .ok (.iload 7, 2) := by decide +kernel
theorem dX8_callsNow_98 : decode cX8_callsNow 98 = .ok (.isub, 1) := by decide +kernel
theorem dX8_callsNow_99 : decode cX8_callsNow 99 = .ok (.imul, 1) := by decide +kernel
theorem dX8_callsNow_100 : decode cX8_callsNow 100 = .ok (.iadd, 1) := by decide +kernel
theorem dX8_callsNow_101 : decode cX8_callsNow 101 = .ok (.istore_n 3, 1) := by decide +kernel
theorem dX8_callsNow_102 : decode cX8_callsNow 102 = .ok (.iinc 4 1, 3) := by decide +kernel
theorem dX8_callsNow_105 : decode cX8_callsNow 105 = .ok (.goto (-100), 3) := by decide +kernel
theorem dX8_callsNow_108 : decode cX8_callsNow 108 = .ok (.iload_n 3, 1) := by decide +kernel
theorem dX8_callsNow_109 : decode cX8_callsNow 109 = .ok (.ireturn, 1) := by decide +kernel
theorem dX8_callsIn_0 : decode cX8_callsIn 0 = .ok (.aload_n 0, 1) := by decide +kernel
theorem dX8_callsIn_1 : decode cX8_callsIn 1 = .ok (.iload_n 1, 1) := by decide +kernel
theorem dX8_callsIn_2 : decode cX8_callsIn 2 = .ok (.iconst 1, 1) := by decide +kernel
theorem dX8_callsIn_3 : decode cX8_callsIn 3 = .ok (.sipush 1000, 3) := by decide +kernel
theorem dX8_callsIn_6 : decode cX8_callsIn 6 = .ok (.invokestatic 32, 3) := by decide +kernel
theorem dX8_callsIn_9 : decode cX8_callsIn 9 = .ok (.ifCond .eq 16, 3) := by decide +kernel
theorem dX8_callsIn_12 : decode cX8_callsIn 12 = .ok (.iload_n 2, 1) := by decide +kernel
theorem dX8_callsIn_13 : decode cX8_callsIn 13 = .ok (.iconst 0, 1) := by decide +kernel
theorem dX8_callsIn_14 : decode cX8_callsIn 14 = .ok (.iconst 1, 1) := by decide +kernel
theorem dX8_callsIn_15 : decode cX8_callsIn 15 = .ok (.invokestatic 32, 3) := by decide +kernel
theorem dX8_callsIn_18 : decode cX8_callsIn 18 = .ok (.ifCond .eq 7, 3) := by decide +kernel
theorem dX8_callsIn_21 : decode cX8_callsIn 21 = .ok (.iconst 0, 1) := by decide +kernel
theorem dX8_callsIn_22 : decode cX8_callsIn 22 = .ok (.goto 4, 3) := by decide +kernel
theorem dX8_callsIn_25 : decode cX8_callsIn 25 = .ok (.iconst 1, 1) := by decide +kernel
theorem dX8_callsIn_26 : decode cX8_callsIn 26 = .ok (.putfield 25, 3) := by decide +kernel
theorem dX8_callsIn_29 : decode cX8_callsIn 29 = .ok (.aload_n 0, 1) := by decide +kernel
theorem dX8_callsIn_30 : decode cX8_callsIn 30 = .ok (.getfield 25, 3) := by decide +kernel
theorem dX8_callsIn_33 : decode cX8_callsIn 33 = .ok (.ifCond .le 7, 3) := by decide +kernel
theorem dX8_callsIn_36 : decode cX8_callsIn 36 = .ok (.iconst 0, 1) := by decide +kernel
theorem dX8_callsIn_37 : decode cX8_callsIn 37 = .ok (.goto 9, 3) := by decide +kernel
theorem dX8_callsIn_40 : decode cX8_callsIn 40 = .ok (.aload_n 0, 1) := by decide +kernel
theorem dX8_callsIn_41 : decode cX8_callsIn 41 = .ok (.iload_n 1, 1) := by decide +kernel
theorem dX8_callsIn_42 : decode cX8_callsIn 42 = .ok (.iload_n 2, 1) := by decide +kernel
theorem dX8_callsIn_43 : decode cX8_callsIn 43 = .ok (.invokevirtual 230, 3) := by decide +kernel
theorem dX8_callsIn_46 : decode cX8_callsIn 46 = .ok (.ireturn, 1) := by decide +kernel
theorem dX8_canCook_0 : decode cX8_canCook 0 = .ok (.aload_n 0, 1) := by decide +kernel
theorem dX8_canCook_1 : decode cX8_canCook 1 = .ok (.aload_n 0, 1) := by decide +kernel
theorem dX8_canCook_2 : decode cX8_canCook 2 = .ok (.iload_n 1, 1) := by decide +kernel
theorem dX8_canCook_3 : decode cX8_canCook 3 = .ok (.invokevirtual 69, 3) := by decide +kernel
theorem dX8_canCook_6 : decode cX8_canCook 6 = .ok (.ifCond .ne 7, 3) := by decide +kernel
theorem dX8_canCook_9 : decode cX8_canCook 9 = .ok (.iconst 1, 1) := by decide +kernel
theorem dX8_canCook_10 : decode cX8_canCook 10 = .ok (.goto 15, 3) := by decide +kernel
theorem dX8_canCook_13 : decode cX8_canCook 13 = .ok (.iload_n 2, 1) := by decide +kernel
theorem dX8_canCook_14 : decode cX8_canCook 14 = .ok (.invokestatic 72, 3) := by decide +kernel
theorem dX8_canCook_17 : decode cX8_canCook 17 = .ok (.ifCond .eq 7, 3) := by decide +kernel
theorem dX8_canCook_20 : decode cX8_canCook 20 = .ok (.iconst 0, 1) := by decide +kernel
theorem dX8_canCook_21 : decode cX8_canCook 21 = .ok (.goto 4, 3) := by decide +kernel
theorem dX8_canCook_24 : decode cX8_canCook 24 = .ok (.iconst 2, 1) := by decide +kernel
theorem dX8_canCook_25 : decode cX8_canCook 25 = .ok (.putfield 25, 3) := by decide +kernel
theorem dX8_canCook_28 : decode cX8_canCook 28 = .ok (.aload_n 0, 1) := by decide +kernel
theorem dX8_canCook_29 : decode cX8_canCook 29 = .ok (.getfield 25, 3) := by decide +kernel
theorem dX8_canCook_32 : decode cX8_canCook 32 = .ok (.ifCond .le 7, 3) := by decide +kernel
theorem dX8_canCook_35 : decode cX8_canCook 35 = .ok (.iconst 0, 1) := by decide +kernel
theorem dX8_canCook_36 : decode cX8_canCook 36 = .ok (.goto 9, 3) := by decide +kernel
theorem dX8_canCook_39 : decode cX8_canCook 39 = .ok (.aload_n 0, 1) := by decide +kernel
theorem dX8_canCook_40 : decode cX8_canCook 40 = .ok (.iload_n 1, 1) := by decide +kernel
theorem dX8_canCook_41 : decode cX8_canCook 41 = .ok (.iload_n 2, 1) := by decide +kernel
theorem dX8_canCook_42 : decode cX8_canCook 42 = .ok (.invokevirtual 78, 3) := by decide +kernel
theorem dX8_canCook_45 : decode cX8_canCook 45 = .ok (.ireturn, 1) := by decide +kernel
theorem dX8_eatenBy_0 : decode cX8_eatenBy 0 = .ok (.iconst 3, 1) := by decide +kernel
theorem dX8_eatenBy_1 : decode cX8_eatenBy 1 = .ok (.iload_n 2, 1) := by decide +kernel
theorem dX8_eatenBy_2 : decode cX8_eatenBy 2 = .ok (.iadd, 1) := by decide +kernel
theorem dX8_eatenBy_3 : decode cX8_eatenBy 3 = .ok (.istore_n 3, 1) := by decide +kernel
theorem dX8_eatenBy_4 : decode cX8_eatenBy 4 = .ok (.aload_n 0, 1) := by decide +kernel
theorem dX8_eatenBy_5 : decode cX8_eatenBy 5 = .ok (.iload_n 1, 1) := by decide +kernel
theorem dX8_eatenBy_6 : decode cX8_eatenBy 6 = .ok (.iconst 2, 1) := by decide +kernel
theorem dX8_eatenBy_7 : decode cX8_eatenBy 7 = .ok (.invokevirtual 93, 3) := by decide +kernel
theorem dX8_eatenBy_10 : decode cX8_eatenBy 10 = .ok (.aload_n 0, 1) := by decide +kernel
theorem dX8_eatenBy_11 : decode cX8_eatenBy 11 = .ok (.iload_n 1, 1) := by decide +kernel
theorem dX8_eatenBy_12 : decode cX8_eatenBy 12 = .ok (.iconst 3, 1) := by decide +kernel
theorem dX8_eatenBy_13 : decode cX8_eatenBy 13 = .ok (.invokevirtual 93, 3) := by decide +kernel
theorem dX8_eatenBy_16 : decode cX8_eatenBy 16 = .ok (.if_icmp .le 7, 3) := by decide +kernel
theorem dX8_eatenBy_19 : decode cX8_eatenBy 19 = .ok (.iconst 1, 1) := by decide +kernel
theorem dX8_eatenBy_20 : decode cX8_eatenBy 20 = .ok (.goto 4, 3) := by decide +kernel
theorem dX8_eatenBy_23 : decode cX8_eatenBy 23 = .ok (.iconst 0, 1) := by decide +kernel
theorem dX8_eatenBy_24 : decode cX8_eatenBy 24 = .ok (.istore 4, 2) := by decide +kernel
theorem dX8_eatenBy_26 : decode cX8_eatenBy 26 = .ok (.aload_n 0, 1) := by decide +kernel
theorem dX8_eatenBy_27 : decode cX8_eatenBy 27 = .ok (.iload_n 3, 1) := by decide +kernel
theorem dX8_eatenBy_28 : decode cX8_eatenBy 28 = .ok (.iconst 0, 1) := by decide +kernel
theorem dX8_eatenBy_29 : decode cX8_eatenBy 29 = .ok (.invokevirtual 36, 3) := by decide +kernel
theorem dX8_eatenBy_32 : decode cX8_eatenBy 32 = .ok (.aload_n 0, 1) := by decide +kernel
theorem dX8_eatenBy_33 : decode cX8_eatenBy 33 = .ok (.iload_n 3, 1) := by decide +kernel
theorem dX8_eatenBy_34 : decode cX8_eatenBy 34 = .ok (.iconst 2, 1) := by decide +kernel
theorem dX8_eatenBy_35 : decode cX8_eatenBy 35 = .ok (.invokevirtual 36, 3) := by decide +kernel
theorem dX8_eatenBy_38 : decode cX8_eatenBy 38 = .ok (.iadd, 1) := by decide +kernel
theorem dX8_eatenBy_39 : decode cX8_eatenBy 39 = .ok (.iload 4, 2) := by decide +kernel
theorem dX8_eatenBy_41 : decode cX8_eatenBy 41 = .ok (.ifCond .eq 12, 3) := by decide +kernel
theorem dX8_eatenBy_44 : decode cX8_eatenBy 44 = .ok (.aload_n 0, 1) := by decide +kernel
theorem dX8_eatenBy_45 : decode cX8_eatenBy 45 = .ok (.iload_n 3, 1) := by decide +kernel
theorem dX8_eatenBy_46 : decode cX8_eatenBy 46 = .ok (.iconst 1, 1) := by decide +kernel
theorem dX8_eatenBy_47 : decode cX8_eatenBy 47 = .ok (.invokevirtual 36, 3) := by decide +kernel
theorem dX8_eatenBy_50 : decode cX8_eatenBy 50 = .ok (.goto 4, 3) := by decide +kernel
theorem dX8_eatenBy_53 : decode cX8_eatenBy 53 = .ok (.iconst 0, 1) := by decide +kernel
theorem dX8_eatenBy_54 : decode cX8_eatenBy 54 = .ok (.iadd, 1) := by decide +kernel
theorem dX8_eatenBy_55 : decode cX8_eatenBy 55 = .ok (.ireturn, 1) := by decide +kernel
theorem dX8_lorryFor_0 : decode cX8_lorryFor 0 = .ok (.iconst (-1), 1) := by decide +kernel
theorem dX8_lorryFor_1 : decode cX8_lorryFor 1 = .ok (.istore_n 2, 1) := by decide +kernel
theorem dX8_lorryFor_2 : decode cX8_lorryFor 2 = .ok (.iconst 0, 1) := by decide +kernel
theorem dX8_lorryFor_3 : decode cX8_lorryFor 3 = .ok (.istore_n 3, 1) := by decide +kernel
theorem dX8_lorryFor_4 : decode cX8_lorryFor 4 = .ok (.iconst 0, 1) := by decide +kernel
theorem dX8_lorryFor_5 : decode cX8_lorryFor 5 = .ok (.istore 4, 2) := by decide +kernel
theorem dX8_lorryFor_7 : decode cX8_lorryFor 7 = .ok (.iconst 0, 1) := by decide +kernel
theorem dX8_lorryFor_8 : decode cX8_lorryFor 8 = .ok (.istore 5, 2) := by decide +kernel
theorem dX8_lorryFor_10 : decode cX8_lorryFor 10 = .ok (.iload 5, 2) := by decide +kernel
theorem dX8_lorryFor_12 : decode cX8_lorryFor 12 = .ok (.aload_n 0, 1) := by decide +kernel
theorem dX8_lorryFor_13 : decode cX8_lorryFor 13 = .ok (.getfield 7, 3) := by decide +kernel
theorem dX8_lorryFor_16 : decode cX8_lorryFor 16 = .ok (.bipush 8, 2) := by decide +kernel
theorem dX8_lorryFor_18 : decode cX8_lorryFor 18 = .ok (.iaload, 1) := by decide +kernel
theorem dX8_lorryFor_19 : decode cX8_lorryFor 19 = .ok (.if_icmp .ge 133, 3) := by decide +kernel
theorem dX8_lorryFor_22 : decode cX8_lorryFor 22 = .ok (.aload_n 0, 1) := by decide +kernel
theorem dX8_lorryFor_23 : decode cX8_lorryFor 23 = .ok (.iload_n 1, 1) := by decide +kernel
theorem dX8_lorryFor_24 : decode cX8_lorryFor 24 = .ok (.invokevirtual 107, 3) := by decide +kernel
theorem dX8_lorryFor_27 : decode cX8_lorryFor 27 = .ok (.ifCond .eq 125, 3) := by decide +kernel
theorem dX8_lorryFor_30 : decode cX8_lorryFor 30 = .ok (.aload_n 0, 1) := by decide +kernel
theorem dX8_lorryFor_31 : decode cX8_lorryFor 31 = .ok (.getfield 7, 3) := by decide +kernel
theorem dX8_lorryFor_34 : decode cX8_lorryFor 34 = .ok (.bipush 61, 2) := by decide +kernel
theorem dX8_lorryFor_36 : decode cX8_lorryFor 36 = .ok (.iload 5, 2) := by decide +kernel
theorem dX8_lorryFor_38 : decode cX8_lorryFor 38 = .ok (.iadd, 1) := by decide +kernel
theorem dX8_lorryFor_39 : decode cX8_lorryFor 39 = .ok (.iaload, 1) := by decide +kernel
theorem dX8_lorryFor_40 : decode cX8_lorryFor 40 = .ok (.aload_n 0, 1) := by decide +kernel
theorem dX8_lorryFor_41 : decode cX8_lorryFor 41 = .ok (.aload_n 0, 1) := by decide +kernel
theorem dX8_lorryFor_42 : decode cX8_lorryFor 42 = .ok (.getfield 7, 3) := by decide +kernel
theorem dX8_lorryFor_45 : decode cX8_lorryFor 45 = .ok (.bipush 57, 2) := by decide +kernel
theorem dX8_lorryFor_47 : decode cX8_lorryFor 47 = .ok (.iload 5, 2) := by decide +kernel
theorem dX8_lorryFor_49 : decode cX8_lorryFor 49 = .ok (.iadd, 1) := by decide +kernel
theorem dX8_lorryFor_50 : decode cX8_lorryFor 50 = .ok (.iaload, 1) := by decide +kernel
theorem dX8_lorryFor_51 : decode cX8_lorryFor 51 = .ok (.aload_n 0, 1) := by decide +kernel
theorem dX8_lorryFor_52 : decode cX8_lorryFor 52 = .ok (.iload_n 1, 1) := by decide +kernel
theorem dX8_lorryFor_53 : decode cX8_lorryFor 53 = .ok (.iconst 1, 1) := by decide +kernel
theorem dX8_lorryFor_54 : decode cX8_lorryFor 54 = .ok (.invokevirtual 93, 3) := by decide +kernel
theorem dX8_lorryFor_57 : decode cX8_lorryFor 57 = .ok (.invokevirtual 90, 3) := by decide +kernel
theorem dX8_lorryFor_60 : decode cX8_lorryFor 60 = .ok (.iadd, 1) := by decide +kernel
theorem dX8_lorryFor_61 : decode cX8_lorryFor 61 = .ok (.istore 6, 2) := by decide +kernel
theorem dX8_lorryFor_63 : decode cX8_lorryFor 63 = .ok (.aload_n 0, 1) := by decide +kernel
theorem dX8_lorryFor_64 : decode cX8_lorryFor 64 = .ok (.iload_n 1, 1) := by decide +kernel
theorem dX8_lorryFor_65 : decode cX8_lorryFor 65 = .ok (.iload 5, 2) := by decide +kernel
theorem dX8_lorryFor_67 : decode cX8_lorryFor 67 = .ok (.invokevirtual 233, 3) := by decide +kernel
theorem dX8_lorryFor_70 : decode cX8_lorryFor 70 = .ok (.istore 7, 2) := by decide +kernel
theorem dX8_lorryFor_72 : decode cX8_lorryFor 72 = .ok (.iload 7, 2) := by decide +kernel
theorem dX8_lorryFor_74 : decode cX8_lorryFor 74 = .ok (.ifCond .le 31, 3) := by decide +kernel
theorem dX8_lorryFor_77 : decode cX8_lorryFor 77 = .ok (.iload_n 2, 1) := by decide +kernel
theorem dX8_lorryFor_78 : decode cX8_lorryFor 78 = .ok (.iconst (-1), 1) := by decide +kernel
theorem dX8_lorryFor_79 : decode cX8_lorryFor 79 = .ok (.if_icmp .eq 22, 3) := by decide +kernel
theorem dX8_lorryFor_82 : decode cX8_lorryFor 82 = .ok (.iload 6, 2) := by decide +kernel
theorem dX8_lorryFor_84 : decode cX8_lorryFor 84 = .ok (.iload_n 3, 1) := by decide +kernel
theorem dX8_lorryFor_85 : decode cX8_lorryFor 85 = .ok (.if_icmp .lt 16, 3) := by decide +kernel
theorem dX8_lorryFor_88 : decode cX8_lorryFor 88 = .ok (.iload 6, 2) := by decide +kernel
theorem dX8_lorryFor_90 : decode cX8_lorryFor 90 = .ok (.iload_n 3, 1) := by decide +kernel
theorem dX8_lorryFor_91 : decode cX8_lorryFor 91 = .ok (.if_icmp .ne 14, 3) := by decide +kernel
theorem dX8_lorryFor_94 : decode cX8_lorryFor 94 = .ok (.iload 7, 2) := by decide +kernel
theorem dX8_lorryFor_96 : decode cX8_lorryFor 96 = .ok (.iload 4, 2) := by decide +kernel
theorem dX8_lorryFor_98 : decode cX8_lorryFor 98 = .ok (.if_icmp .le 7, 3) := by decide +kernel
theorem dX8_lorryFor_101 : decode cX8_lorryFor 101 = .ok (.iconst 1, 1) := by decide +kernel
theorem dX8_lorryFor_102 : decode cX8_lorryFor 102 = .ok (.goto 4, 3) := by decide +kernel
theorem dX8_lorryFor_105 : decode cX8_lorryFor 105 = .ok (.iconst 0, 1) := by decide +kernel
theorem dX8_lorryFor_106 : decode cX8_lorryFor 106 = .ok (.istore 8, 2) := by decide +kernel
theorem dX8_lorryFor_108 : decode cX8_lorryFor 108 = .ok (.iload 8, 2) := by decide +kernel
theorem dX8_lorryFor_110 : decode cX8_lorryFor 110 = .ok (.ifCond .eq 8, 3) := by decide +kernel
theorem dX8_lorryFor_113 : decode cX8_lorryFor 113 = .ok (.iload 5, 2) := by decide +kernel
theorem dX8_lorryFor_115 : decode cX8_lorryFor 115 = .ok (.goto 4, 3) := by decide +kernel
theorem dX8_lorryFor_118 : decode cX8_lorryFor 118 = .ok (.iload_n 2, 1) := by decide +kernel
theorem dX8_lorryFor_119 : decode cX8_lorryFor 119 = .ok (.istore_n 2, 1) := by decide +kernel
theorem dX8_lorryFor_120 : decode cX8_lorryFor 120 = .ok (.iload 8, 2) := by decide +kernel
theorem dX8_lorryFor_122 : decode cX8_lorryFor 122 = .ok (.ifCond .eq 8, 3) := by decide +kernel
theorem dX8_lorryFor_125 : decode cX8_lorryFor 125 = .ok (.iload 6, 2) := by decide +kernel
theorem dX8_lorryFor_127 : decode cX8_lorryFor 127 = .ok (.goto 4, 3) := by decide +kernel
theorem dX8_lorryFor_130 : decode cX8_lorryFor 130 = .ok (.iload_n 3, 1) := by decide +kernel
theorem dX8_lorryFor_131 : decode cX8_lorryFor 131 = .ok (.istore_n 3, 1) := by decide +kernel
theorem dX8_lorryFor_132 : decode cX8_lorryFor 132 = .ok (.iload 8, 2) := by decide +kernel
theorem dX8_lorryFor_134 : decode cX8_lorryFor 134 = .ok (.ifCond .eq 8, 3) := by decide +kernel
theorem dX8_lorryFor_137 : decode cX8_lorryFor 137 = .ok (.iload 7, 2) := by decide +kernel
theorem dX8_lorryFor_139 : decode cX8_lorryFor 139 = .ok (.goto 5, 3) := by decide +kernel
theorem dX8_lorryFor_142 : decode cX8_lorryFor 142 = .ok (.iload 4, 2) := by decide +kernel
theorem dX8_lorryFor_144 : decode cX8_lorryFor 144 = .ok (.istore 4, 2) := by decide +kernel
theorem dX8_lorryFor_146 : decode cX8_lorryFor 146 = .ok (.iinc 5 1, 3) := by decide +kernel
theorem dX8_lorryFor_149 : decode cX8_lorryFor 149 = .ok (.goto (-139), 3) := by decide +kernel
theorem dX8_lorryFor_152 : decode cX8_lorryFor 152 = .ok (.iload_n 2, 1) := by decide +kernel
theorem dX8_lorryFor_153 : decode cX8_lorryFor 153 = .ok (.ireturn, 1) := by decide +kernel
theorem dX8_bestLorry_0 : decode cX8_bestLorry 0 = .ok (.aload_n 0, 1) := by decide +kernel
theorem dX8_bestLorry_1 : decode cX8_bestLorry 1 = .ok (.aload_n 0, 1) := by decide +kernel
theorem dX8_bestLorry_2 : decode cX8_bestLorry 2 = .ok (.iload_n 1, 1) := by decide +kernel
theorem dX8_bestLorry_3 : decode cX8_bestLorry 3 = .ok (.invokevirtual 110, 3) := by decide +kernel
theorem dX8_bestLorry_6 : decode cX8_bestLorry 6 = .ok (.ifCond .eq 7, 3) := by decide +kernel
theorem dX8_bestLorry_9 : decode cX8_bestLorry 9 = .ok (.iconst 0, 1) := by decide +kernel
theorem dX8_bestLorry_10 : decode cX8_bestLorry 10 = .ok (.goto 4, 3) := by decide +kernel
theorem dX8_bestLorry_13 : decode cX8_bestLorry 13 = .ok (.iconst 1, 1) := by decide +kernel
theorem dX8_bestLorry_14 : decode cX8_bestLorry 14 = .ok (.putfield 25, 3) := by decide +kernel
theorem dX8_bestLorry_17 : decode cX8_bestLorry 17 = .ok (.aload_n 0, 1) := by decide +kernel
theorem dX8_bestLorry_18 : decode cX8_bestLorry 18 = .ok (.getfield 25, 3) := by decide +kernel
theorem dX8_bestLorry_21 : decode cX8_bestLorry 21 = .ok (.ifCond .le 7, 3) := by decide +kernel
theorem dX8_bestLorry_24 : decode cX8_bestLorry 24 = .ok (.iconst 0, 1) := by decide +kernel
theorem dX8_bestLorry_25 : decode cX8_bestLorry 25 = .ok (.goto 8, 3) := by decide +kernel
theorem dX8_bestLorry_28 : decode cX8_bestLorry 28 = .ok (.aload_n 0, 1) := by decide +kernel
theorem dX8_bestLorry_29 : decode cX8_bestLorry 29 = .ok (.iload_n 1, 1) := by decide +kernel
theorem dX8_bestLorry_30 : decode cX8_bestLorry 30 = .ok (.invokevirtual 236, 3) := by decide +kernel
theorem dX8_bestLorry_33 : decode cX8_bestLorry 33 = .ok (.ireturn, 1) := by decide +kernel
theorem dX8_graceFor_0 : decode cX8_graceFor 0 = .ok (.aload_n 0, 1) := by decide +kernel
theorem dX8_graceFor_1 : decode cX8_graceFor 1 = .ok (.iload_n 1, 1) := by decide +kernel
theorem dX8_graceFor_2 : decode cX8_graceFor 2 = .ok (.iconst 4, 1) := by decide +kernel
theorem dX8_graceFor_3 : decode cX8_graceFor 3 = .ok (.invokevirtual 227, 3) := by decide +kernel
theorem dX8_graceFor_6 : decode cX8_graceFor 6 = .ok (.istore_n 2, 1) := by decide +kernel
theorem dX8_graceFor_7 : decode cX8_graceFor 7 = .ok (.aload_n 0, 1) := by decide +kernel
theorem dX8_graceFor_8 : decode cX8_graceFor 8 = .ok (.getfield 7, 3) := by decide +kernel
theorem dX8_graceFor_11 : decode cX8_graceFor 11 = .ok (.iconst 2, 1) := by decide +kernel
theorem dX8_graceFor_12 : decode cX8_graceFor 12 = .ok (.iaload, 1) := by decide +kernel
theorem dX8_graceFor_13 : decode cX8_graceFor 13 = .ok (.ifCond .ne 7, 3) := by decide +kernel
theorem dX8_graceFor_16 : decode cX8_graceFor 16 = .ok (.iconst 0, 1) := by decide +kernel
theorem dX8_graceFor_17 : decode cX8_graceFor 17 = .ok (.goto 14, 3) := by decide +kernel
theorem dX8_graceFor_20 : decode cX8_graceFor 20 = .ok (.iload_n 2, 1) := by decide +kernel
theorem dX8_graceFor_21 : decode cX8_graceFor 21 = .ok (.bipush 120, 2) := by decide +kernel
theorem dX8_graceFor_23 : decode cX8_graceFor 23 = .ok (.if_icmp .le 7, 3) := by decide +kernel
theorem dX8_graceFor_26 : decode cX8_graceFor 26 = .ok (.iconst (-1), 1) := by decide +kernel
theorem dX8_graceFor_27 : decode cX8_graceFor 27 = .ok (.goto 4, 3) := by decide +kernel
theorem dX8_graceFor_30 : decode cX8_graceFor 30 = .ok (.iload_n 2, 1) := by decide +kernel
theorem dX8_graceFor_31 : decode cX8_graceFor 31 = .ok (.ireturn, 1) := by decide +kernel
theorem dX8_enoughGrace_0 : decode cX8_enoughGrace 0 = .ok (.aload_n 0, 1) := by decide +kernel
theorem dX8_enoughGrace_1 : decode cX8_enoughGrace 1 = .ok (.iload_n 1, 1) := by decide +kernel
theorem dX8_enoughGrace_2 : decode cX8_enoughGrace 2 = .ok (.iconst 1, 1) := by decide +kernel
theorem dX8_enoughGrace_3 : decode cX8_enoughGrace 3 = .ok (.sipush 200, 3) := by decide +kernel
theorem dX8_enoughGrace_6 : decode cX8_enoughGrace 6 = .ok (.invokestatic 32, 3) := by decide +kernel
theorem dX8_enoughGrace_9 : decode cX8_enoughGrace 9 = .ok (.ifCond .eq 7, 3) := by decide +kernel
theorem dX8_enoughGrace_12 : decode cX8_enoughGrace 12 = .ok (.iconst 0, 1) := by decide +kernel
theorem dX8_enoughGrace_13 : decode cX8_enoughGrace 13 = .ok (.goto 4, 3) := by decide +kernel
theorem dX8_enoughGrace_16 : decode cX8_enoughGrace 16 = .ok (.iconst 1, 1) := by decide +kernel
theorem dX8_enoughGrace_17 : decode cX8_enoughGrace 17 = .ok (.putfield 25, 3) := by decide +kernel
theorem dX8_enoughGrace_20 : decode cX8_enoughGrace 20 = .ok (.aload_n 0, 1) := by decide +kernel
theorem dX8_enoughGrace_21 : decode cX8_enoughGrace 21 = .ok (.getfield 25, 3) := by decide +kernel
theorem dX8_enoughGrace_24 : decode cX8_enoughGrace 24 = .ok (.ifCond .le 7, 3) := by decide +kernel
theorem dX8_enoughGrace_27 : decode cX8_enoughGrace 27 = .ok (.iconst 0, 1) := by decide +kernel
theorem dX8_enoughGrace_28 : decode cX8_enoughGrace 28 = .ok (.goto 8, 3) := by decide +kernel
theorem dX8_enoughGrace_31 : decode cX8_enoughGrace 31 = .ok (.aload_n 0, 1) := by decide +kernel
theorem dX8_enoughGrace_32 : decode cX8_enoughGrace 32 = .ok (.iload_n 1, 1) := by decide +kernel
theorem dX8_enoughGrace_33 : decode cX8_enoughGrace 33 = .ok (.invokevirtual 239, 3) := by decide +kernel
theorem dX8_enoughGrace_36 : decode cX8_enoughGrace 36 = .ok (.ireturn, 1) := by decide +kernel
theorem dX8_share_0 : decode cX8_share 0 = .ok (.aload_n 0, 1) := by decide +kernel
theorem dX8_share_1 : decode cX8_share 1 = .ok (.getfield 7, 3) := by decide +kernel
theorem dX8_share_4 : decode cX8_share 4 = .ok (.bipush 14, 2) := by decide +kernel
theorem dX8_share_6 : decode cX8_share 6 = .ok (.iaload, 1) := by decide +kernel
theorem dX8_share_7 : decode cX8_share 7 = .ok (.ifCond .ne 7, 3) := by decide +kernel
theorem dX8_share_10 : decode cX8_share 10 = .ok (.dconst 0, 1) := by decide +kernel
theorem dX8_share_11 : decode cX8_share 11 = .ok (.goto 20, 3) := by decide +kernel
theorem dX8_share_14 : decode cX8_share 14 = .ok (.aload_n 0, 1) := by decide +kernel
theorem dX8_share_15 : decode cX8_share 15 = .ok (.getfield 7, 3) := by decide +kernel
theorem dX8_share_18 : decode cX8_share 18 = .ok (.bipush 12, 2) := by decide +kernel
theorem dX8_share_20 : decode cX8_share 20 = .ok (.iaload, 1) := by decide +kernel
theorem dX8_share_21 : decode cX8_share 21 = .ok (.i2d, 1) := by decide +kernel
theorem dX8_share_22 : decode cX8_share 22 = .ok (.aload_n 0, 1) := by decide +kernel
theorem dX8_share_23 : decode cX8_share 23 = .ok (.getfield 7, 3) := by decide +kernel
theorem dX8_share_26 : decode cX8_share 26 = .ok (.bipush 14, 2) := by decide +kernel
theorem dX8_share_28 : decode cX8_share 28 = .ok (.iaload, 1) := by decide +kernel
theorem dX8_share_29 : decode cX8_share 29 = .ok (.i2d, 1) := by decide +kernel
theorem dX8_share_30 : decode cX8_share 30 = .ok (.ddiv, 1) := by decide +kernel
theorem dX8_share_31 : decode cX8_share 31 = .ok (.dreturn, 1) := by decide +kernel
theorem dX8_servedShare_0 : decode cX8_servedShare 0 = .ok (.aload_n 0, 1) := by decide +kernel
theorem dX8_servedShare_1 : decode cX8_servedShare 1 = .ok (.iconst 0, 1) := by decide +kernel
theorem dX8_servedShare_2 : decode cX8_servedShare 2 = .ok (.putfield 25, 3) := by decide +kernel
theorem dX8_servedShare_5 : decode cX8_servedShare 5 = .ok (.aload_n 0, 1) := by decide +kernel
theorem dX8_servedShare_6 : decode cX8_servedShare 6 = .ok (.invokevirtual 242, 3) := by decide +kernel
theorem dX8_servedShare_9 : decode cX8_servedShare 9 = .ok (.dreturn, 1) := by decide +kernel
theorem dX8_mix_0 : decode cX8_mix 0 = .ok (.aload_n 0, 1) := by decide +kernel
theorem dX8_mix_1 : decode cX8_mix 1 = .ok (.ldc2_w 246, 3) := by decide +kernel
theorem dX8_mix_4 : decode cX8_mix 4 = .ok (.aload_n 0, 1) := by decide +kernel
theorem dX8_mix_5 : decode cX8_mix 5 = .ok (.getfield 248, 3) := by decide +kernel
theorem dX8_mix_8 : decode cX8_mix 8 = .ok (.lmul, 1) := by decide +kernel
theorem dX8_mix_9 : decode cX8_mix 9 = .ok (.lload_n 1, 1) := by decide +kernel
theorem dX8_mix_10 : decode cX8_mix 10 = .ok (.ladd, 1) := by decide +kernel
theorem dX8_mix_11 : decode cX8_mix 11 = .ok (.putfield 248, 3) := by decide +kernel
theorem dX8_mix_14 : decode cX8_mix 14 = .ok (.return_, 1) := by decide +kernel
theorem dX8_mixUnits_0 : decode cX8_mixUnits 0 = .ok (.iconst 0, 1) := by decide +kernel
theorem dX8_mixUnits_1 : decode cX8_mixUnits 1 = .ok (.istore_n 1, 1) := by decide +kernel
theorem dX8_mixUnits_2 : decode cX8_mixUnits 2 = .ok (.iload_n 1, 1) := by decide +kernel
theorem dX8_mixUnits_3 : decode cX8_mixUnits 3 = .ok (.aload_n 0, 1) := by decide +kernel
theorem dX8_mixUnits_4 : decode cX8_mixUnits 4 = .ok (.getfield 7, 3) := by decide +kernel
theorem dX8_mixUnits_7 : decode cX8_mixUnits 7 = .ok (.bipush 9, 2) := by decide +kernel
theorem dX8_mixUnits_9 : decode cX8_mixUnits 9 = .ok (.iaload, 1) := by decide +kernel
theorem dX8_mixUnits_10 : decode cX8_mixUnits 10 = .ok (.if_icmp .ge 44, 3) := by decide +kernel
theorem dX8_mixUnits_13 : decode cX8_mixUnits 13 = .ok (.iconst 0, 1) := by decide +kernel
theorem dX8_mixUnits_14 : decode cX8_mixUnits 14 = .ok (.istore_n 2, 1) := by decide +kernel
theorem dX8_mixUnits_15 : decode cX8_mixUnits 15 = .ok (.iload_n 2, 1) := by decide +kernel
theorem dX8_mixUnits_16 : decode cX8_mixUnits 16 = .ok (.bipush 12, 2) := by decide +kernel
theorem dX8_mixUnits_18 : decode cX8_mixUnits 18 = .ok (.if_icmp .ge 20, 3) := by decide +kernel
theorem dX8_mixUnits_21 : decode cX8_mixUnits 21 = .ok (.aload_n 0, 1) := by decide +kernel
theorem dX8_mixUnits_22 : decode cX8_mixUnits 22 = .ok (.aload_n 0, 1) := by decide +kernel
theorem dX8_mixUnits_23 : decode cX8_mixUnits 23 = .ok (.iload_n 1, 1) := by decide +kernel
theorem dX8_mixUnits_24 : decode cX8_mixUnits 24 = .ok (.iload_n 2, 1) := by decide +kernel
theorem dX8_mixUnits_25 : decode cX8_mixUnits 25 = .ok (.invokevirtual 206, 3) := by decide +kernel
theorem dX8_mixUnits_28 : decode cX8_mixUnits 28 = .ok (.i2l, 1) := by decide +kernel
theorem dX8_mixUnits_29 : decode cX8_mixUnits 29 = .ok (.invokevirtual 252, 3) := by decide +kernel
theorem dX8_mixUnits_32 : decode cX8_mixUnits 32 = .ok (.iinc 2 1, 3) := by decide +kernel
theorem dX8_mixUnits_35 : decode cX8_mixUnits 35 = .ok (.goto (-20), 3) := by decide +kernel
theorem dX8_mixUnits_38 : decode cX8_mixUnits 38 = .ok (.aload_n 0, 1) := by decide +kernel
theorem dX8_mixUnits_39 : decode cX8_mixUnits 39 = .ok (.aload_n 0, 1) := by decide +kernel
theorem dX8_mixUnits_40 : decode cX8_mixUnits 40 = .ok (.iload_n 1, 1) := by decide +kernel
theorem dX8_mixUnits_41 : decode cX8_mixUnits 41 = .ok (.invokevirtual 236, 3) := by decide +kernel
theorem dX8_mixUnits_44 : decode cX8_mixUnits 44 = .ok (.i2l, 1) := by decide +kernel
theorem dX8_mixUnits_45 : decode cX8_mixUnits 45 = .ok (.invokevirtual 252, 3) := by decide +kernel
theorem dX8_mixUnits_48 : decode cX8_mixUnits 48 = .ok (.iinc 1 1, 3) := by decide +kernel
theorem dX8_mixUnits_51 : decode cX8_mixUnits 51 = .ok (.goto (-49), 3) := by decide +kernel
theorem dX8_mixUnits_54 : decode cX8_mixUnits 54 = .ok (.return_, 1) := by decide +kernel
theorem dX8_mixStores_0 : decode cX8_mixStores 0 = .ok (.iconst 0, 1) := by decide +kernel
theorem dX8_mixStores_1 : decode cX8_mixStores 1 = .ok (.istore_n 1, 1) := by decide +kernel
theorem dX8_mixStores_2 : decode cX8_mixStores 2 = .ok (.iload_n 1, 1) := by decide +kernel
theorem dX8_mixStores_3 : decode cX8_mixStores 3 = .ok (.aload_n 0, 1) := by decide +kernel
theorem dX8_mixStores_4 : decode cX8_mixStores 4 = .ok (.getfield 7, 3) := by decide +kernel
theorem dX8_mixStores_7 : decode cX8_mixStores 7 = .ok (.bipush 7, 2) := by decide +kernel
theorem dX8_mixStores_9 : decode cX8_mixStores 9 = .ok (.iaload, 1) := by decide +kernel
theorem dX8_mixStores_10 : decode cX8_mixStores 10 = .ok (.if_icmp .ge 58, 3) := by decide +kernel
theorem dX8_mixStores_13 : decode cX8_mixStores 13 = .ok (.iconst 0, 1) := by decide +kernel
theorem dX8_mixStores_14 : decode cX8_mixStores 14 = .ok (.istore_n 2, 1) := by decide +kernel
theorem dX8_mixStores_15 : decode cX8_mixStores 15 = .ok (.iload_n 2, 1) := by decide +kernel
theorem dX8_mixStores_16 : decode cX8_mixStores 16 = .ok (.bipush 12, 2) := by decide +kernel
theorem dX8_mixStores_18 : decode cX8_mixStores 18 = .ok (.if_icmp .ge 20, 3) := by decide +kernel
theorem dX8_mixStores_21 : decode cX8_mixStores 21 = .ok (.aload_n 0, 1) := by decide +kernel
theorem dX8_mixStores_22 : decode cX8_mixStores 22 = .ok (.aload_n 0, 1) := by decide +kernel
theorem dX8_mixStores_23 : decode cX8_mixStores 23 = .ok (.iload_n 1, 1) := by decide +kernel
theorem dX8_mixStores_24 : decode cX8_mixStores 24 = .ok (.iload_n 2, 1) := by decide +kernel
theorem dX8_mixStores_25 : decode cX8_mixStores 25 = .ok (.invokevirtual 212, 3) := by decide +kernel
theorem dX8_mixStores_28 : decode cX8_mixStores 28 = .ok (.i2l, 1) := by decide +kernel
theorem dX8_mixStores_29 : decode cX8_mixStores 29 = .ok (.invokevirtual 252, 3) := by decide +kernel
theorem dX8_mixStores_32 : decode cX8_mixStores 32 = .ok (.iinc 2 1, 3) := by decide +kernel
theorem dX8_mixStores_35 : decode cX8_mixStores 35 = .ok (.goto (-20), 3) := by decide +kernel
theorem dX8_mixStores_38 : decode cX8_mixStores 38 = .ok (.iconst 0, 1) := by decide +kernel
theorem dX8_mixStores_39 : decode cX8_mixStores 39 = .ok (.istore_n 2, 1) := by decide +kernel
theorem dX8_mixStores_40 : decode cX8_mixStores 40 = .ok (.iload_n 2, 1) := by decide +kernel
theorem dX8_mixStores_41 : decode cX8_mixStores 41 = .ok (.iconst 3, 1) := by decide +kernel
theorem dX8_mixStores_42 : decode cX8_mixStores 42 = .ok (.if_icmp .ge 20, 3) := by decide +kernel
theorem dX8_mixStores_45 : decode cX8_mixStores 45 = .ok (.aload_n 0, 1) := by decide +kernel
theorem dX8_mixStores_46 : decode cX8_mixStores 46 = .ok (.aload_n 0, 1) := by decide +kernel
theorem dX8_mixStores_47 : decode cX8_mixStores 47 = .ok (.iload_n 1, 1) := by decide +kernel
theorem dX8_mixStores_48 : decode cX8_mixStores 48 = .ok (.iload_n 2, 1) := by decide +kernel
theorem dX8_mixStores_49 : decode cX8_mixStores 49 = .ok (.invokevirtual 78, 3) := by decide +kernel
theorem dX8_mixStores_52 : decode cX8_mixStores 52 = .ok (.i2l, 1) := by decide +kernel
theorem dX8_mixStores_53 : decode cX8_mixStores 53 = .ok (.invokevirtual 252, 3) := by decide +kernel
theorem dX8_mixStores_56 : decode cX8_mixStores 56 = .ok (.iinc 2 1, 3) := by decide +kernel
theorem dX8_mixStores_59 : decode cX8_mixStores 59 = .ok (.goto (-19), 3) := by decide +kernel
theorem dX8_mixStores_62 : decode cX8_mixStores 62 = .ok (.iinc 1 1, 3) := by decide +kernel
theorem dX8_mixStores_65 : decode cX8_mixStores 65 = .ok (.goto (-63), 3) := by decide +kernel
theorem dX8_mixStores_68 : decode cX8_mixStores 68 = .ok (.iconst 0, 1) := by decide +kernel
theorem dX8_mixStores_69 : decode cX8_mixStores 69 = .ok (.istore_n 1, 1) := by decide +kernel
theorem dX8_mixStores_70 : decode cX8_mixStores 70 = .ok (.iload_n 1, 1) := by decide +kernel
theorem dX8_mixStores_71 : decode cX8_mixStores 71 = .ok (.bipush 9, 2) := by decide +kernel
theorem dX8_mixStores_73 : decode cX8_mixStores 73 = .ok (.aload_n 0, 1) := by decide +kernel
theorem dX8_mixStores_74 : decode cX8_mixStores 74 = .ok (.getfield 7, 3) := by decide +kernel
theorem dX8_mixStores_77 : decode cX8_mixStores 77 = .ok (.bipush 8, 2) := by decide +kernel
theorem dX8_mixStores_79 : decode cX8_mixStores 79 = .ok (.iaload, 1) := by decide +kernel
theorem dX8_mixStores_80 : decode cX8_mixStores 80 = .ok (.imul, 1) := by decide +kernel
theorem dX8_mixStores_81 : decode cX8_mixStores 81 = .ok (.if_icmp .ge 26, 3) := by decide +kernel
theorem dX8_mixStores_84 : decode cX8_mixStores 84 = .ok (.aload_n 0, 1) := by decide +kernel
theorem dX8_mixStores_85 : decode cX8_mixStores 85 = .ok (.aload_n 0, 1) := by decide +kernel
theorem dX8_mixStores_86 : decode cX8_mixStores 86 = .ok (.iload_n 1, 1) := by decide +kernel
theorem dX8_mixStores_87 : decode cX8_mixStores 87 = .ok (.bipush 9, 2) := by decide +kernel
theorem dX8_mixStores_89 : decode cX8_mixStores 89 = .ok (.idiv, 1) := by decide +kernel
theorem dX8_mixStores_90 : decode cX8_mixStores 90 = .ok (.iload_n 1, 1) := by decide +kernel
theorem dX8_mixStores_91 : decode cX8_mixStores 91 = .ok (.bipush 9, 2) := by decide +kernel
theorem dX8_mixStores_93 : decode cX8_mixStores 93 = .ok (.irem, 1) := by decide +kernel
theorem dX8_mixStores_94 : decode cX8_mixStores 94 = .ok (.invokevirtual 215, 3) := by decide +kernel
theorem dX8_mixStores_97 : decode cX8_mixStores 97 = .ok (.i2l, 1) := by decide +kernel
theorem dX8_mixStores_98 : decode cX8_mixStores 98 = .ok (.invokevirtual 252, 3) := by decide +kernel
theorem dX8_mixStores_101 : decode cX8_mixStores 101 = .ok (.iinc 1 1, 3) := by decide +kernel
theorem dX8_mixStores_104 : decode cX8_mixStores 104 = .ok (.goto (-34), 3) := by decide +kernel
theorem dX8_mixStores_107 : decode cX8_mixStores 107 = .ok (.return_, 1) := by decide +kernel
theorem dX8_digest_0 : decode cX8_digest 0 = .ok (.aload_n 0, 1) := by decide +kernel
theorem dX8_digest_1 : decode cX8_digest 1 = .ok (.iconst 0, 1) := by decide +kernel
theorem dX8_digest_2 : decode cX8_digest 2 = .ok (.putfield 25, 3) := by decide +kernel
theorem dX8_digest_5 : decode cX8_digest 5 = .ok (.aload_n 0, 1) := by decide +kernel
theorem dX8_digest_6 : decode cX8_digest 6 = .ok (.ldc2_w 256, 3) := by decide +kernel
theorem dX8_digest_9 : decode cX8_digest 9 = .ok (.putfield 248, 3) := by decide +kernel
theorem dX8_digest_12 : decode cX8_digest 12 = .ok (.iconst 0, 1) := by decide +kernel
theorem dX8_digest_13 : decode cX8_digest 13 = .ok (.istore_n 1, 1) := by decide +kernel
theorem dX8_digest_14 : decode cX8_digest 14 = .ok (.iload_n 1, 1) := by decide +kernel
theorem dX8_digest_15 : decode cX8_digest 15 = .ok (.bipush 17, 2) := by decide +kernel
theorem dX8_digest_17 : decode cX8_digest 17 = .ok (.if_icmp .ge 19, 3) := by decide +kernel
theorem dX8_digest_20 : decode cX8_digest 20 = .ok (.aload_n 0, 1) := by decide +kernel
theorem dX8_digest_21 : decode cX8_digest 21 = .ok (.aload_n 0, 1) := by decide +kernel
theorem dX8_digest_22 : decode cX8_digest 22 = .ok (.iload_n 1, 1) := by decide +kernel
theorem dX8_digest_23 : decode cX8_digest 23 = .ok (.invokevirtual 224, 3) := by decide +kernel
theorem dX8_digest_26 : decode cX8_digest 26 = .ok (.i2l, 1) := by decide +kernel
theorem dX8_digest_27 : decode cX8_digest 27 = .ok (.invokevirtual 252, 3) := by decide +kernel
theorem dX8_digest_30 : decode cX8_digest 30 = .ok (.iinc 1 1, 3) := by decide +kernel
theorem dX8_digest_33 : decode cX8_digest 33 = .ok (.goto (-19), 3) := by decide +kernel
theorem dX8_digest_36 : decode cX8_digest 36 = .ok (.iconst 0, 1) := by decide +kernel
theorem dX8_digest_37 : decode cX8_digest 37 = .ok (.istore_n 1, 1) := by decide +kernel
theorem dX8_digest_38 : decode cX8_digest 38 = .ok (.iload_n 1, 1) := by decide +kernel
theorem dX8_digest_39 : decode cX8_digest 39 = .ok (.bipush 6, 2) := by decide +kernel
theorem dX8_digest_41 : decode cX8_digest 41 = .ok (.if_icmp .ge 22, 3) := by decide +kernel
theorem dX8_digest_44 : decode cX8_digest 44 = .ok (.aload_n 0, 1) := by decide +kernel
theorem dX8_digest_45 : decode cX8_digest 45 = .ok (.aload_n 0, 1) := by decide +kernel
theorem dX8_digest_46 : decode cX8_digest 46 = .ok (.getfield 7, 3) := by decide +kernel
theorem dX8_digest_49 : decode cX8_digest 49 = .ok (.iconst 0, 1) := by decide +kernel
theorem dX8_digest_50 : decode cX8_digest 50 = .ok (.iload_n 1, 1) := by decide +kernel
theorem dX8_digest_51 : decode cX8_digest 51 = .ok (.iadd, 1) := by decide +kernel
theorem dX8_digest_52 : decode cX8_digest 52 = .ok (.iaload, 1) := by decide +kernel
theorem dX8_digest_53 : decode cX8_digest 53 = .ok (.i2l, 1) := by decide +kernel
theorem dX8_digest_54 : decode cX8_digest 54 = .ok (.invokevirtual 252, 3) := by decide +kernel
theorem dX8_digest_57 : decode cX8_digest 57 = .ok (.iinc 1 1, 3) := by decide +kernel
theorem dX8_digest_60 : decode cX8_digest 60 = .ok (.goto (-22), 3) := by decide +kernel
theorem dX8_digest_63 : decode cX8_digest 63 = .ok (.iconst 0, 1) := by decide +kernel
theorem dX8_digest_64 : decode cX8_digest 64 = .ok (.istore_n 1, 1) := by decide +kernel
theorem dX8_digest_65 : decode cX8_digest 65 = .ok (.iload_n 1, 1) := by decide +kernel
theorem dX8_digest_66 : decode cX8_digest 66 = .ok (.bipush 7, 2) := by decide +kernel
theorem dX8_digest_68 : decode cX8_digest 68 = .ok (.aload_n 0, 1) := by decide +kernel
theorem dX8_digest_69 : decode cX8_digest 69 = .ok (.getfield 7, 3) := by decide +kernel
theorem dX8_digest_72 : decode cX8_digest 72 = .ok (.bipush 6, 2) := by decide +kernel
theorem dX8_digest_74 : decode cX8_digest 74 = .ok (.iaload, 1) := by decide +kernel
theorem dX8_digest_75 : decode cX8_digest 75 = .ok (.imul, 1) := by decide +kernel
theorem dX8_digest_76 : decode cX8_digest 76 = .ok (.if_icmp .ge 26, 3) := by decide +kernel
theorem dX8_digest_79 : decode cX8_digest 79 = .ok (.aload_n 0, 1) := by decide +kernel
theorem dX8_digest_80 : decode cX8_digest 80 = .ok (.aload_n 0, 1) := by decide +kernel
theorem dX8_digest_81 : decode cX8_digest 81 = .ok (.iload_n 1, 1) := by decide +kernel
theorem dX8_digest_82 : decode cX8_digest 82 = .ok (.bipush 7, 2) := by decide +kernel
theorem dX8_digest_84 : decode cX8_digest 84 = .ok (.idiv, 1) := by decide +kernel
theorem dX8_digest_85 : decode cX8_digest 85 = .ok (.iload_n 1, 1) := by decide +kernel
theorem dX8_digest_86 : decode cX8_digest 86 = .ok (.bipush 7, 2) := by decide +kernel
theorem dX8_digest_88 : decode cX8_digest 88 = .ok (.irem, 1) := by decide +kernel
theorem dX8_digest_89 : decode cX8_digest 89 = .ok (.invokevirtual 203, 3) := by decide +kernel
theorem dX8_digest_92 : decode cX8_digest 92 = .ok (.i2l, 1) := by decide +kernel
theorem dX8_digest_93 : decode cX8_digest 93 = .ok (.invokevirtual 252, 3) := by decide +kernel
theorem dX8_digest_96 : decode cX8_digest 96 = .ok (.iinc 1 1, 3) := by decide +kernel
theorem dX8_digest_99 : decode cX8_digest 99 = .ok (.goto (-34), 3) := by decide +kernel
theorem dX8_digest_102 : decode cX8_digest 102 = .ok (.aload_n 0, 1) := by decide +kernel
theorem dX8_digest_103 : decode cX8_digest 103 = .ok (.invokevirtual 258, 3) := by decide +kernel
theorem dX8_digest_106 : decode cX8_digest 106 = .ok (.aload_n 0, 1) := by decide +kernel
theorem dX8_digest_107 : decode cX8_digest 107 = .ok (.invokevirtual 261, 3) := by decide +kernel
theorem dX8_digest_110 : decode cX8_digest 110 = .ok (.iconst 0, 1) := by decide +kernel
theorem dX8_digest_111 : decode cX8_digest 111 = .ok (.istore_n 1, 1) := by decide +kernel
theorem dX8_digest_112 : decode cX8_digest 112 = .ok (.iload_n 1, 1) := by decide +kernel
theorem dX8_digest_113 : decode cX8_digest 113 = .ok (.iconst 4, 1) := by decide +kernel
theorem dX8_digest_114 : decode cX8_digest 114 = .ok (.if_icmp .ge 21, 3) := by decide +kernel
theorem dX8_digest_117 : decode cX8_digest 117 = .ok (.aload_n 0, 1) := by decide +kernel
theorem dX8_digest_118 : decode cX8_digest 118 = .ok (.aload_n 0, 1) := by decide +kernel
theorem dX8_digest_119 : decode cX8_digest 119 = .ok (.bipush 30, 2) := by decide +kernel
theorem dX8_digest_121 : decode cX8_digest 121 = .ok (.iload_n 1, 1) := by decide +kernel
theorem dX8_digest_122 : decode cX8_digest 122 = .ok (.invokevirtual 227, 3) := by decide +kernel
theorem dX8_digest_125 : decode cX8_digest 125 = .ok (.i2l, 1) := by decide +kernel
theorem dX8_digest_126 : decode cX8_digest 126 = .ok (.invokevirtual 252, 3) := by decide +kernel
theorem dX8_digest_129 : decode cX8_digest 129 = .ok (.iinc 1 1, 3) := by decide +kernel
theorem dX8_digest_132 : decode cX8_digest 132 = .ok (.goto (-20), 3) := by decide +kernel
theorem dX8_digest_135 : decode cX8_digest 135 = .ok (.aload_n 0, 1) := by decide +kernel
theorem dX8_digest_136 : decode cX8_digest 136 = .ok (.aload_n 0, 1) := by decide +kernel
theorem dX8_digest_137 : decode cX8_digest 137 = .ok (.bipush 120, 2) := by decide +kernel
theorem dX8_digest_139 : decode cX8_digest 139 = .ok (.iconst 0, 1) := by decide +kernel
theorem dX8_digest_140 : decode cX8_digest 140 = .ok (.invokevirtual 230, 3) := by decide +kernel
theorem dX8_digest_143 : decode cX8_digest 143 = .ok (.i2l, 1) := by decide +kernel
theorem dX8_digest_144 : decode cX8_digest 144 = .ok (.invokevirtual 252, 3) := by decide +kernel
theorem dX8_digest_147 : decode cX8_digest 147 = .ok (.aload_n 0, 1) := by decide +kernel
theorem dX8_digest_148 : decode cX8_digest 148 = .ok (.aload_n 0, 1) := by decide +kernel
theorem dX8_digest_149 : decode cX8_digest 149 = .ok (.bipush 120, 2) := by decide +kernel
theorem dX8_digest_151 : decode cX8_digest 151 = .ok (.iconst 1, 1) := by decide +kernel
theorem dX8_digest_152 : decode cX8_digest 152 = .ok (.invokevirtual 230, 3) := by decide +kernel
theorem dX8_digest_155 : decode cX8_digest 155 = .ok (.i2l, 1) := by decide +kernel
theorem dX8_digest_156 : decode cX8_digest 156 = .ok (.invokevirtual 252, 3) := by decide +kernel
theorem dX8_digest_159 : decode cX8_digest 159 = .ok (.aload_n 0, 1) := by decide +kernel
theorem dX8_digest_160 : decode cX8_digest 160 = .ok (.aload_n 0, 1) := by decide +kernel
theorem dX8_digest_161 : decode cX8_digest 161 = .ok (.bipush 20, 2) := by decide +kernel
theorem dX8_digest_163 : decode cX8_digest 163 = .ok (.invokevirtual 239, 3) := by decide +kernel
theorem dX8_digest_166 : decode cX8_digest 166 = .ok (.i2l, 1) := by decide +kernel
theorem dX8_digest_167 : decode cX8_digest 167 = .ok (.invokevirtual 252, 3) := by decide +kernel
theorem dX8_digest_170 : decode cX8_digest 170 = .ok (.aload_n 0, 1) := by decide +kernel
theorem dX8_digest_171 : decode cX8_digest 171 = .ok (.aload_n 0, 1) := by decide +kernel
theorem dX8_digest_172 : decode cX8_digest 172 = .ok (.invokevirtual 242, 3) := by decide +kernel
theorem dX8_digest_175 : decode cX8_digest 175 = .ok (.invokestatic 264, 3) := by decide +kernel
theorem dX8_digest_178 : decode cX8_digest 178 = .ok (.invokevirtual 252, 3) := by decide +kernel
theorem dX8_digest_181 : decode cX8_digest 181 = .ok (.aload_n 0, 1) := by decide +kernel
theorem dX8_digest_182 : decode cX8_digest 182 = .ok (.aload_n 0, 1) := by decide +kernel
theorem dX8_digest_183 : decode cX8_digest 183 = .ok (.getfield 165, 3) := by decide +kernel
theorem dX8_digest_186 : decode cX8_digest 186 = .ok (.i2l, 1) := by decide +kernel
theorem dX8_digest_187 : decode cX8_digest 187 = .ok (.invokevirtual 252, 3) := by decide +kernel
theorem dX8_digest_190 : decode cX8_digest 190 = .ok (.iconst 0, 1) := by decide +kernel
theorem dX8_digest_191 : decode cX8_digest 191 = .ok (.istore_n 1, 1) := by decide +kernel
theorem dX8_digest_192 : decode cX8_digest 192 = .ok (.iload_n 1, 1) := by decide +kernel
theorem dX8_digest_193 : decode cX8_digest 193 = .ok (.aload_n 0, 1) := by decide +kernel
theorem dX8_digest_194 : decode cX8_digest 194 = .ok (.getfield 165, 3) := by decide +kernel
theorem dX8_digest_197 : decode cX8_digest 197 = .ok (.if_icmp .ge 20, 3) := by decide +kernel
theorem dX8_digest_200 : decode cX8_digest 200 = .ok (.aload_n 0, 1) := by decide +kernel
theorem dX8_digest_201 : decode cX8_digest 201 = .ok (.aload_n 0, 1) := by decide +kernel
theorem dX8_digest_202 : decode cX8_digest 202 = .ok (.getfield 16, 3) := by decide +kernel
theorem dX8_digest_205 : decode cX8_digest 205 = .ok (.iload_n 1, 1) := by decide +kernel
theorem dX8_digest_206 : decode cX8_digest 206 = .ok (.iaload, 1) := by decide +kernel
theorem dX8_digest_207 : decode cX8_digest 207 = .ok (.i2l, 1) := by decide +kernel
theorem dX8_digest_208 : decode cX8_digest 208 = .ok (.invokevirtual 252, 3) := by decide +kernel
theorem dX8_digest_211 : decode cX8_digest 211 = .ok (.iinc 1 1, 3) := by decide +kernel
theorem dX8_digest_214 : decode cX8_digest 214 = .ok (.goto (-22), 3) := by decide +kernel
theorem dX8_digest_217 : decode cX8_digest 217 = .ok (.aload_n 0, 1) := by decide +kernel
theorem dX8_digest_218 : decode cX8_digest 218 = .ok (.getfield 248, 3) := by decide +kernel
theorem dX8_digest_221 : decode cX8_digest 221 = .ok (.lreturn, 1) := by decide +kernel
theorem dL_addPlace_0 : decode cL_addPlace 0 = .ok (.aload_n 3, 1) := by decide +kernel
theorem dL_addPlace_1 : decode cL_addPlace 1 = .ok (.iconst 0, 1) := by decide +kernel
theorem dL_addPlace_2 : decode cL_addPlace 2 = .ok (.aload_n 0, 1) := by decide +kernel
theorem dL_addPlace_3 : decode cL_addPlace 3 = .ok (.iload_n 1, 1) := by decide +kernel
theorem dL_addPlace_4 : decode cL_addPlace 4 = .ok (.iload_n 2, 1) := by decide +kernel
theorem dL_addPlace_5 : decode cL_addPlace 5 = .ok (.invokevirtual 7, 3) := by decide +kernel
theorem dL_addPlace_8 : decode cL_addPlace 8 = .ok (.i2l, 1) := by decide +kernel
theorem dL_addPlace_9 : decode cL_addPlace 9 = .ok (.lastore, 1) := by decide +kernel
theorem dL_addPlace_10 : decode cL_addPlace 10 = .ok (.goto 11, 3) := by decide +kernel
theorem dL_addPlace_13 : decode cL_addPlace 13 = .ok (.astore 4, 2) := by decide +kernel
theorem dL_addPlace_15 : decode cL_addPlace 15 = .ok (.iconst 1, 1) := by decide +kernel
theorem dL_addPlace_16 : decode cL_addPlace 16 = .ok (.ireturn, 1) := by decide +kernel
theorem dL_addPlace_17 : decode cL_addPlace 17 = .ok (.astore 4, 2) := by decide +kernel
theorem dL_addPlace_19 : decode cL_addPlace 19 = .ok (.iconst 2, 1) := by decide +kernel
theorem dL_addPlace_20 : decode cL_addPlace 20 = .ok (.ireturn, 1) := by decide +kernel
theorem dL_addPlace_21 : decode cL_addPlace 21 = .ok (.iconst 0, 1) := by decide +kernel
theorem dL_addPlace_22 : decode cL_addPlace 22 = .ok (.ireturn, 1) := by decide +kernel
theorem dL_addKitchen_0 : decode cL_addKitchen 0 = .ok (.aload_n 2, 1) := by decide +kernel
theorem dL_addKitchen_1 : decode cL_addKitchen 1 = .ok (.iconst 0, 1) := by decide +kernel
theorem dL_addKitchen_2 : decode cL_addKitchen 2 = .ok (.aload_n 0, 1) := by decide +kernel
theorem dL_addKitchen_3 : decode cL_addKitchen 3 = .ok (.iload_n 1, 1) := by decide +kernel
theorem dL_addKitchen_4 : decode cL_addKitchen 4 = .ok (.invokevirtual 17, 3) := by decide +kernel
theorem dL_addKitchen_7 : decode cL_addKitchen 7 = .ok (.i2l, 1) := by decide +kernel
theorem dL_addKitchen_8 : decode cL_addKitchen 8 = .ok (.lastore, 1) := by decide +kernel
theorem dL_addKitchen_9 : decode cL_addKitchen 9 = .ok (.goto 9, 3) := by decide +kernel
theorem dL_addKitchen_12 : decode cL_addKitchen 12 = .ok (.astore_n 3, 1) := by decide +kernel
theorem dL_addKitchen_13 : decode cL_addKitchen 13 = .ok (.iconst 1, 1) := by decide +kernel
theorem dL_addKitchen_14 : decode cL_addKitchen 14 = .ok (.ireturn, 1) := by decide +kernel
theorem dL_addKitchen_15 : decode cL_addKitchen 15 = .ok (.astore_n 3, 1) := by decide +kernel
theorem dL_addKitchen_16 : decode cL_addKitchen 16 = .ok (.iconst 2, 1) := by decide +kernel
theorem dL_addKitchen_17 : decode cL_addKitchen 17 = .ok (.ireturn, 1) := by decide +kernel
theorem dL_addKitchen_18 : decode cL_addKitchen 18 = .ok (.iconst 0, 1) := by decide +kernel
theorem dL_addKitchen_19 : decode cL_addKitchen 19 = .ok (.ireturn, 1) := by decide +kernel
theorem dL_addLorry_0 : decode cL_addLorry 0 = .ok (.aload_n 2, 1) := by decide +kernel
theorem dL_addLorry_1 : decode cL_addLorry 1 = .ok (.iconst 0, 1) := by decide +kernel
theorem dL_addLorry_2 : decode cL_addLorry 2 = .ok (.aload_n 0, 1) := by decide +kernel
theorem dL_addLorry_3 : decode cL_addLorry 3 = .ok (.iload_n 1, 1) := by decide +kernel
theorem dL_addLorry_4 : decode cL_addLorry 4 = .ok (.invokevirtual 23, 3) := by decide +kernel
theorem dL_addLorry_7 : decode cL_addLorry 7 = .ok (.i2l, 1) := by decide +kernel
theorem dL_addLorry_8 : decode cL_addLorry 8 = .ok (.lastore, 1) := by decide +kernel
theorem dL_addLorry_9 : decode cL_addLorry 9 = .ok (.goto 9, 3) := by decide +kernel
theorem dL_addLorry_12 : decode cL_addLorry 12 = .ok (.astore_n 3, 1) := by decide +kernel
theorem dL_addLorry_13 : decode cL_addLorry 13 = .ok (.iconst 1, 1) := by decide +kernel
theorem dL_addLorry_14 : decode cL_addLorry 14 = .ok (.ireturn, 1) := by decide +kernel
theorem dL_addLorry_15 : decode cL_addLorry 15 = .ok (.astore_n 3, 1) := by decide +kernel
theorem dL_addLorry_16 : decode cL_addLorry 16 = .ok (.iconst 2, 1) := by decide +kernel
theorem dL_addLorry_17 : decode cL_addLorry 17 = .ok (.ireturn, 1) := by decide +kernel
theorem dL_addLorry_18 : decode cL_addLorry 18 = .ok (.iconst 0, 1) := by decide +kernel
theorem dL_addLorry_19 : decode cL_addLorry 19 = .ok (.ireturn, 1) := by decide +kernel
theorem dL_set_0 : decode cL_set 0 = .ok (.aload_n 3, 1) := by decide +kernel
theorem dL_set_1 : decode cL_set 1 = .ok (.iconst 0, 1) := by decide +kernel
theorem dL_set_2 : decode cL_set 2 = .ok (.aload_n 0, 1) := by decide +kernel
theorem dL_set_3 : decode cL_set 3 = .ok (.iload_n 1, 1) := by decide +kernel
theorem dL_set_4 : decode cL_set 4 = .ok (.iload_n 2, 1) := by decide +kernel
theorem dL_set_5 : decode cL_set 5 = .ok (.invokevirtual 26, 3) := by decide +kernel
theorem dL_set_8 : decode cL_set 8 = .ok (.i2l, 1) := by decide +kernel
theorem dL_set_9 : decode cL_set 9 = .ok (.lastore, 1) := by decide +kernel
theorem dL_set_10 : decode cL_set 10 = .ok (.goto 11, 3) := by decide +kernel
theorem dL_set_13 : decode cL_set 13 = .ok (.astore 4, 2) := by decide +kernel
theorem dL_set_15 : decode cL_set 15 = .ok (.iconst 1, 1) := by decide +kernel
theorem dL_set_16 : decode cL_set 16 = .ok (.ireturn, 1) := by decide +kernel
theorem dL_set_17 : decode cL_set 17 = .ok (.astore 4, 2) := by decide +kernel
theorem dL_set_19 : decode cL_set 19 = .ok (.iconst 2, 1) := by decide +kernel
theorem dL_set_20 : decode cL_set 20 = .ok (.ireturn, 1) := by decide +kernel
theorem dL_set_21 : decode cL_set 21 = .ok (.iconst 0, 1) := by decide +kernel
theorem dL_set_22 : decode cL_set 22 = .ok (.ireturn, 1) := by decide +kernel
theorem dL_stock_0 : decode cL_stock 0 = .ok (.aload 4, 2) := by decide +kernel
theorem dL_stock_2 : decode cL_stock 2 = .ok (.iconst 0, 1) := by decide +kernel
theorem dL_stock_3 : decode cL_stock 3 = .ok (.aload_n 0, 1) := by decide +kernel
theorem dL_stock_4 : decode cL_stock 4 = .ok (.iload_n 1, 1) := by decide +kernel
theorem dL_stock_5 : decode cL_stock 5 = .ok (.iload_n 2, 1) := by decide +kernel
theorem dL_stock_6 : decode cL_stock 6 = .ok (.iload_n 3, 1) := by decide +kernel
theorem dL_stock_7 : decode cL_stock 7 = .ok (.invokevirtual 29, 3) := by decide +kernel
theorem dL_stock_10 : decode cL_stock 10 = .ok (.i2l, 1) := by decide +kernel
theorem dL_stock_11 : decode cL_stock 11 = .ok (.lastore, 1) := by decide +kernel
theorem dL_stock_12 : decode cL_stock 12 = .ok (.goto 15, 3) := by decide +kernel
theorem dL_stock_15 : decode cL_stock 15 = .ok (.astore 5, 2) := by decide +kernel
theorem dL_stock_17 : decode cL_stock 17 = .ok (.iconst 1, 1) := by decide +kernel
theorem dL_stock_18 : decode cL_stock 18 = .ok (.ireturn, 1) := by decide +kernel
theorem dL_stock_19 : decode cL_stock 19 = .ok (.astore 5, 2) := by decide +kernel
theorem dL_stock_21 : decode cL_stock 21 = .ok (.iconst 2, 1) := by decide +kernel
theorem dL_stock_22 : decode cL_stock 22 = .ok (.ireturn, 1) := by decide +kernel
theorem dL_stock_23 : decode cL_stock 23 = .ok (.astore 5, 2) := by decide +kernel
theorem dL_stock_25 : decode cL_stock 25 = .ok (.iconst 3, 1) := by decide +kernel
theorem dL_stock_26 : decode cL_stock 26 = .ok (.ireturn, 1) := by decide +kernel
theorem dL_stock_27 : decode cL_stock 27 = .ok (.iconst 0, 1) := by decide +kernel
theorem dL_stock_28 : decode cL_stock 28 = .ok (.ireturn, 1) := by decide +kernel
theorem dL_cook_0 : decode cL_cook 0 = .ok (.aload 4, 2) := by decide +kernel
theorem dL_cook_2 : decode cL_cook 2 = .ok (.iconst 0, 1) := by decide +kernel
theorem dL_cook_3 : decode cL_cook 3 = .ok (.aload_n 0, 1) := by decide +kernel
theorem dL_cook_4 : decode cL_cook 4 = .ok (.iload_n 1, 1) := by decide +kernel
theorem dL_cook_5 : decode cL_cook 5 = .ok (.iload_n 2, 1) := by decide +kernel
theorem dL_cook_6 : decode cL_cook 6 = .ok (.iload_n 3, 1) := by decide +kernel
theorem dL_cook_7 : decode cL_cook 7 = .ok (.invokevirtual 33, 3) := by decide +kernel
theorem dL_cook_10 : decode cL_cook 10 = .ok (.i2l, 1) := by decide +kernel
theorem dL_cook_11 : decode cL_cook 11 = .ok (.lastore, 1) := by decide +kernel
theorem dL_cook_12 : decode cL_cook 12 = .ok (.goto 15, 3) := by decide +kernel
theorem dL_cook_15 : decode cL_cook 15 = .ok (.astore 5, 2) := by decide +kernel
theorem dL_cook_17 : decode cL_cook 17 = .ok (.iconst 1, 1) := by decide +kernel
theorem dL_cook_18 : decode cL_cook 18 = .ok (.ireturn, 1) := by decide +kernel
theorem dL_cook_19 : decode cL_cook 19 = .ok (.astore 5, 2) := by decide +kernel
theorem dL_cook_21 : decode cL_cook 21 = .ok (.iconst 2, 1) := by decide +kernel
theorem dL_cook_22 : decode cL_cook 22 = .ok (.ireturn, 1) := by decide +kernel
theorem dL_cook_23 : decode cL_cook 23 = .ok (.astore 5, 2) := by decide +kernel
theorem dL_cook_25 : decode cL_cook 25 = .ok (.iconst 3, 1) := by decide +kernel
theorem dL_cook_26 : decode cL_cook 26 = .ok (.ireturn, 1) := by decide +kernel
theorem dL_cook_27 : decode cL_cook 27 = .ok (.iconst 0, 1) := by decide +kernel
theorem dL_cook_28 : decode cL_cook 28 = .ok (.ireturn, 1) := by decide +kernel
theorem dL_load_0 : decode cL_load 0 = .ok (.aload 5, 2) := by decide +kernel
theorem dL_load_2 : decode cL_load 2 = .ok (.iconst 0, 1) := by decide +kernel
theorem dL_load_3 : decode cL_load 3 = .ok (.aload_n 0, 1) := by decide +kernel
theorem dL_load_4 : decode cL_load 4 = .ok (.iload_n 1, 1) := by decide +kernel
theorem dL_load_5 : decode cL_load 5 = .ok (.iload_n 2, 1) := by decide +kernel
theorem dL_load_6 : decode cL_load 6 = .ok (.iload_n 3, 1) := by decide +kernel
theorem dL_load_7 : decode cL_load 7 = .ok (.iload 4, 2) := by decide +kernel
theorem dL_load_9 : decode cL_load 9 = .ok (.invokevirtual 36, 3) := by decide +kernel
theorem dL_load_12 : decode cL_load 12 = .ok (.i2l, 1) := by decide +kernel
theorem dL_load_13 : decode cL_load 13 = .ok (.lastore, 1) := by decide +kernel
theorem dL_load_14 : decode cL_load 14 = .ok (.goto 15, 3) := by decide +kernel
theorem dL_load_17 : decode cL_load 17 = .ok (.astore 6, 2) := by decide +kernel
theorem dL_load_19 : decode cL_load 19 = .ok (.iconst 1, 1) := by decide +kernel
theorem dL_load_20 : decode cL_load 20 = .ok (.ireturn, 1) := by decide +kernel
theorem dL_load_21 : decode cL_load 21 = .ok (.astore 6, 2) := by decide +kernel
theorem dL_load_23 : decode cL_load 23 = .ok (.iconst 2, 1) := by decide +kernel
theorem dL_load_24 : decode cL_load 24 = .ok (.ireturn, 1) := by decide +kernel
theorem dL_load_25 : decode cL_load 25 = .ok (.astore 6, 2) := by decide +kernel
theorem dL_load_27 : decode cL_load 27 = .ok (.iconst 3, 1) := by decide +kernel
theorem dL_load_28 : decode cL_load 28 = .ok (.ireturn, 1) := by decide +kernel
theorem dL_load_29 : decode cL_load 29 = .ok (.iconst 0, 1) := by decide +kernel
theorem dL_load_30 : decode cL_load 30 = .ok (.ireturn, 1) := by decide +kernel
theorem dL_unload_0 : decode cL_unload 0 = .ok (.aload_n 3, 1) := by decide +kernel
theorem dL_unload_1 : decode cL_unload 1 = .ok (.iconst 0, 1) := by decide +kernel
theorem dL_unload_2 : decode cL_unload 2 = .ok (.aload_n 0, 1) := by decide +kernel
theorem dL_unload_3 : decode cL_unload 3 = .ok (.iload_n 1, 1) := by decide +kernel
theorem dL_unload_4 : decode cL_unload 4 = .ok (.iload_n 2, 1) := by decide +kernel
theorem dL_unload_5 : decode cL_unload 5 = .ok (.invokevirtual 40, 3) := by decide +kernel
theorem dL_unload_8 : decode cL_unload 8 = .ok (.i2l, 1) := by decide +kernel
theorem dL_unload_9 : decode cL_unload 9 = .ok (.lastore, 1) := by decide +kernel
theorem dL_unload_10 : decode cL_unload 10 = .ok (.goto 11, 3) := by decide +kernel
theorem dL_unload_13 : decode cL_unload 13 = .ok (.astore 4, 2) := by decide +kernel
theorem dL_unload_15 : decode cL_unload 15 = .ok (.iconst 1, 1) := by decide +kernel
theorem dL_unload_16 : decode cL_unload 16 = .ok (.ireturn, 1) := by decide +kernel
theorem dL_unload_17 : decode cL_unload 17 = .ok (.astore 4, 2) := by decide +kernel
theorem dL_unload_19 : decode cL_unload 19 = .ok (.iconst 2, 1) := by decide +kernel
theorem dL_unload_20 : decode cL_unload 20 = .ok (.ireturn, 1) := by decide +kernel
theorem dL_unload_21 : decode cL_unload 21 = .ok (.iconst 0, 1) := by decide +kernel
theorem dL_unload_22 : decode cL_unload 22 = .ok (.ireturn, 1) := by decide +kernel
theorem dL_drive_0 : decode cL_drive 0 = .ok (.aload_n 3, 1) := by decide +kernel
theorem dL_drive_1 : decode cL_drive 1 = .ok (.iconst 0, 1) := by decide +kernel
theorem dL_drive_2 : decode cL_drive 2 = .ok (.aload_n 0, 1) := by decide +kernel
theorem dL_drive_3 : decode cL_drive 3 = .ok (.iload_n 1, 1) := by decide +kernel
theorem dL_drive_4 : decode cL_drive 4 = .ok (.iload_n 2, 1) := by decide +kernel
theorem dL_drive_5 : decode cL_drive 5 = .ok (.invokevirtual 43, 3) := by decide +kernel
theorem dL_drive_8 : decode cL_drive 8 = .ok (.i2l, 1) := by decide +kernel
theorem dL_drive_9 : decode cL_drive 9 = .ok (.lastore, 1) := by decide +kernel
theorem dL_drive_10 : decode cL_drive 10 = .ok (.goto 11, 3) := by decide +kernel
theorem dL_drive_13 : decode cL_drive 13 = .ok (.astore 4, 2) := by decide +kernel
theorem dL_drive_15 : decode cL_drive 15 = .ok (.iconst 1, 1) := by decide +kernel
theorem dL_drive_16 : decode cL_drive 16 = .ok (.ireturn, 1) := by decide +kernel
theorem dL_drive_17 : decode cL_drive 17 = .ok (.astore 4, 2) := by decide +kernel
theorem dL_drive_19 : decode cL_drive 19 = .ok (.iconst 2, 1) := by decide +kernel
theorem dL_drive_20 : decode cL_drive 20 = .ok (.ireturn, 1) := by decide +kernel
theorem dL_drive_21 : decode cL_drive 21 = .ok (.iconst 0, 1) := by decide +kernel
theorem dL_drive_22 : decode cL_drive 22 = .ok (.ireturn, 1) := by decide +kernel
theorem dL_addUnit_0 : decode cL_addUnit 0 = .ok (.aload 6, 2) := by decide +kernel
theorem dL_addUnit_2 : decode cL_addUnit 2 = .ok (.iconst 0, 1) := by decide +kernel
theorem dL_addUnit_3 : decode cL_addUnit 3 = .ok (.aload_n 0, 1) := by decide +kernel
theorem dL_addUnit_4 : decode cL_addUnit 4 = .ok (.iload_n 1, 1) := by decide +kernel
theorem dL_addUnit_5 : decode cL_addUnit 5 = .ok (.iload_n 2, 1) := by decide +kernel
theorem dL_addUnit_6 : decode cL_addUnit 6 = .ok (.iload_n 3, 1) := by decide +kernel
theorem dL_addUnit_7 : decode cL_addUnit 7 = .ok (.iload 4, 2) := by decide +kernel
theorem dL_addUnit_9 : decode cL_addUnit 9 = .ok (.iload 5, 2) := by decide +kernel
theorem dL_addUnit_11 : decode cL_addUnit 11 = .ok (.invokevirtual 46, 3) := by decide +kernel
theorem dL_addUnit_14 : decode cL_addUnit 14 = .ok (.i2l, 1) := by decide +kernel
theorem dL_addUnit_15 : decode cL_addUnit 15 = .ok (.lastore, 1) := by decide +kernel
theorem dL_addUnit_16 : decode cL_addUnit 16 = .ok (.goto 15, 3) := by decide +kernel
theorem dL_addUnit_19 : decode cL_addUnit 19 = .ok (.astore 7, 2) := by decide +kernel
theorem dL_addUnit_21 : decode cL_addUnit 21 = .ok (.iconst 1, 1) := by decide +kernel
theorem dL_addUnit_22 : decode cL_addUnit 22 = .ok (.ireturn, 1) := by decide +kernel
theorem dL_addUnit_23 : decode cL_addUnit 23 = .ok (.astore 7, 2) := by decide +kernel
theorem dL_addUnit_25 : decode cL_addUnit 25 = .ok (.iconst 2, 1) := by decide +kernel
theorem dL_addUnit_26 : decode cL_addUnit 26 = .ok (.ireturn, 1) := by decide +kernel
theorem dL_addUnit_27 : decode cL_addUnit 27 = .ok (.astore 7, 2) := by decide +kernel
theorem dL_addUnit_29 : decode cL_addUnit 29 = .ok (.iconst 3, 1) := by decide +kernel
theorem dL_addUnit_30 : decode cL_addUnit 30 = .ok (.ireturn, 1) := by decide +kernel
theorem dL_addUnit_31 : decode cL_addUnit 31 = .ok (.iconst 0, 1) := by decide +kernel
theorem dL_addUnit_32 : decode cL_addUnit 32 = .ok (.ireturn, 1) := by decide +kernel
theorem dL_split_0 : decode cL_split 0 = .ok (.aload 4, 2) := by decide +kernel
theorem dL_split_2 : decode cL_split 2 = .ok (.iconst 0, 1) := by decide +kernel
theorem dL_split_3 : decode cL_split 3 = .ok (.aload_n 0, 1) := by decide +kernel
theorem dL_split_4 : decode cL_split 4 = .ok (.iload_n 1, 1) := by decide +kernel
theorem dL_split_5 : decode cL_split 5 = .ok (.iload_n 2, 1) := by decide +kernel
theorem dL_split_6 : decode cL_split 6 = .ok (.iload_n 3, 1) := by decide +kernel
theorem dL_split_7 : decode cL_split 7 = .ok (.invokevirtual 50, 3) := by decide +kernel
theorem dL_split_10 : decode cL_split 10 = .ok (.i2l, 1) := by decide +kernel
theorem dL_split_11 : decode cL_split 11 = .ok (.lastore, 1) := by decide +kernel
theorem dL_split_12 : decode cL_split 12 = .ok (.goto 15, 3) := by decide +kernel
theorem dL_split_15 : decode cL_split 15 = .ok (.astore 5, 2) := by decide +kernel
theorem dL_split_17 : decode cL_split 17 = .ok (.iconst 1, 1) := by decide +kernel
theorem dL_split_18 : decode cL_split 18 = .ok (.ireturn, 1) := by decide +kernel
theorem dL_split_19 : decode cL_split 19 = .ok (.astore 5, 2) := by decide +kernel
theorem dL_split_21 : decode cL_split 21 = .ok (.iconst 2, 1) := by decide +kernel
theorem dL_split_22 : decode cL_split 22 = .ok (.ireturn, 1) := by decide +kernel
theorem dL_split_23 : decode cL_split 23 = .ok (.astore 5, 2) := by decide +kernel
theorem dL_split_25 : decode cL_split 25 = .ok (.iconst 3, 1) := by decide +kernel
theorem dL_split_26 : decode cL_split 26 = .ok (.ireturn, 1) := by decide +kernel
theorem dL_split_27 : decode cL_split 27 = .ok (.iconst 0, 1) := by decide +kernel
theorem dL_split_28 : decode cL_split 28 = .ok (.ireturn, 1) := by decide +kernel
theorem dL_join_0 : decode cL_join 0 = .ok (.aload_n 3, 1) := by decide +kernel
theorem dL_join_1 : decode cL_join 1 = .ok (.iconst 0, 1) := by decide +kernel
theorem dL_join_2 : decode cL_join 2 = .ok (.aload_n 0, 1) := by decide +kernel
theorem dL_join_3 : decode cL_join 3 = .ok (.iload_n 1, 1) := by decide +kernel
theorem dL_join_4 : decode cL_join 4 = .ok (.iload_n 2, 1) := by decide +kernel
theorem dL_join_5 : decode cL_join 5 = .ok (.invokevirtual 53, 3) := by decide +kernel
theorem dL_join_8 : decode cL_join 8 = .ok (.i2l, 1) := by decide +kernel
theorem dL_join_9 : decode cL_join 9 = .ok (.lastore, 1) := by decide +kernel
theorem dL_join_10 : decode cL_join 10 = .ok (.goto 15, 3) := by decide +kernel
theorem dL_join_13 : decode cL_join 13 = .ok (.astore 4, 2) := by decide +kernel
theorem dL_join_15 : decode cL_join 15 = .ok (.iconst 1, 1) := by decide +kernel
theorem dL_join_16 : decode cL_join 16 = .ok (.ireturn, 1) := by decide +kernel
theorem dL_join_17 : decode cL_join 17 = .ok (.astore 4, 2) := by decide +kernel
theorem dL_join_19 : decode cL_join 19 = .ok (.iconst 2, 1) := by decide +kernel
theorem dL_join_20 : decode cL_join 20 = .ok (.ireturn, 1) := by decide +kernel
theorem dL_join_21 : decode cL_join 21 = .ok (.astore 4, 2) := by decide +kernel
theorem dL_join_23 : decode cL_join 23 = .ok (.iconst 3, 1) := by decide +kernel
theorem dL_join_24 : decode cL_join 24 = .ok (.ireturn, 1) := by decide +kernel
theorem dL_join_25 : decode cL_join 25 = .ok (.iconst 0, 1) := by decide +kernel
theorem dL_join_26 : decode cL_join 26 = .ok (.ireturn, 1) := by decide +kernel
theorem dL_move_0 : decode cL_move 0 = .ok (.aload_n 3, 1) := by decide +kernel
theorem dL_move_1 : decode cL_move 1 = .ok (.iconst 0, 1) := by decide +kernel
theorem dL_move_2 : decode cL_move 2 = .ok (.aload_n 0, 1) := by decide +kernel
theorem dL_move_3 : decode cL_move 3 = .ok (.iload_n 1, 1) := by decide +kernel
theorem dL_move_4 : decode cL_move 4 = .ok (.iload_n 2, 1) := by decide +kernel
theorem dL_move_5 : decode cL_move 5 = .ok (.invokevirtual 56, 3) := by decide +kernel
theorem dL_move_8 : decode cL_move 8 = .ok (.i2l, 1) := by decide +kernel
theorem dL_move_9 : decode cL_move 9 = .ok (.lastore, 1) := by decide +kernel
theorem dL_move_10 : decode cL_move 10 = .ok (.goto 11, 3) := by decide +kernel
theorem dL_move_13 : decode cL_move 13 = .ok (.astore 4, 2) := by decide +kernel
theorem dL_move_15 : decode cL_move 15 = .ok (.iconst 1, 1) := by decide +kernel
theorem dL_move_16 : decode cL_move 16 = .ok (.ireturn, 1) := by decide +kernel
theorem dL_move_17 : decode cL_move 17 = .ok (.astore 4, 2) := by decide +kernel
theorem dL_move_19 : decode cL_move 19 = .ok (.iconst 2, 1) := by decide +kernel
theorem dL_move_20 : decode cL_move 20 = .ok (.ireturn, 1) := by decide +kernel
theorem dL_move_21 : decode cL_move 21 = .ok (.iconst 0, 1) := by decide +kernel
theorem dL_move_22 : decode cL_move 22 = .ok (.ireturn, 1) := by decide +kernel
theorem dL_wrap_0 : decode cL_wrap 0 = .ok (.aload_n 2, 1) := by decide +kernel
theorem dL_wrap_1 : decode cL_wrap 1 = .ok (.iconst 0, 1) := by decide +kernel
theorem dL_wrap_2 : decode cL_wrap 2 = .ok (.aload_n 0, 1) := by decide +kernel
theorem dL_wrap_3 : decode cL_wrap 3 = .ok (.iload_n 1, 1) := by decide +kernel
theorem dL_wrap_4 : decode cL_wrap 4 = .ok (.invokevirtual 59, 3) := by decide +kernel
theorem dL_wrap_7 : decode cL_wrap 7 = .ok (.i2l, 1) := by decide +kernel
theorem dL_wrap_8 : decode cL_wrap 8 = .ok (.lastore, 1) := by decide +kernel
theorem dL_wrap_9 : decode cL_wrap 9 = .ok (.goto 9, 3) := by decide +kernel
theorem dL_wrap_12 : decode cL_wrap 12 = .ok (.astore_n 3, 1) := by decide +kernel
theorem dL_wrap_13 : decode cL_wrap 13 = .ok (.iconst 1, 1) := by decide +kernel
theorem dL_wrap_14 : decode cL_wrap 14 = .ok (.ireturn, 1) := by decide +kernel
theorem dL_wrap_15 : decode cL_wrap 15 = .ok (.astore_n 3, 1) := by decide +kernel
theorem dL_wrap_16 : decode cL_wrap 16 = .ok (.iconst 2, 1) := by decide +kernel
theorem dL_wrap_17 : decode cL_wrap 17 = .ok (.ireturn, 1) := by decide +kernel
theorem dL_wrap_18 : decode cL_wrap 18 = .ok (.iconst 0, 1) := by decide +kernel
theorem dL_wrap_19 : decode cL_wrap 19 = .ok (.ireturn, 1) := by decide +kernel
theorem dL_pass_0 : decode cL_pass 0 = .ok (.aload_n 2, 1) := by decide +kernel
theorem dL_pass_1 : decode cL_pass 1 = .ok (.iconst 0, 1) := by decide +kernel
theorem dL_pass_2 : decode cL_pass 2 = .ok (.aload_n 0, 1) := by decide +kernel
theorem dL_pass_3 : decode cL_pass 3 = .ok (.iload_n 1, 1) := by decide +kernel
theorem dL_pass_4 : decode cL_pass 4 = .ok (.invokevirtual 62, 3) := by decide +kernel
theorem dL_pass_7 : decode cL_pass 7 = .ok (.i2l, 1) := by decide +kernel
theorem dL_pass_8 : decode cL_pass 8 = .ok (.lastore, 1) := by decide +kernel
theorem dL_pass_9 : decode cL_pass 9 = .ok (.goto 9, 3) := by decide +kernel
theorem dL_pass_12 : decode cL_pass 12 = .ok (.astore_n 3, 1) := by decide +kernel
theorem dL_pass_13 : decode cL_pass 13 = .ok (.iconst 1, 1) := by decide +kernel
theorem dL_pass_14 : decode cL_pass 14 = .ok (.ireturn, 1) := by decide +kernel
theorem dL_pass_15 : decode cL_pass 15 = .ok (.astore_n 3, 1) := by decide +kernel
theorem dL_pass_16 : decode cL_pass 16 = .ok (.iconst 2, 1) := by decide +kernel
theorem dL_pass_17 : decode cL_pass 17 = .ok (.ireturn, 1) := by decide +kernel
theorem dL_pass_18 : decode cL_pass 18 = .ok (.iconst 0, 1) := by decide +kernel
theorem dL_pass_19 : decode cL_pass 19 = .ok (.ireturn, 1) := by decide +kernel
theorem dL_append_0 : decode cL_append 0 = .ok (.aload_n 2, 1) := by decide +kernel
theorem dL_append_1 : decode cL_append 1 = .ok (.iconst 0, 1) := by decide +kernel
theorem dL_append_2 : decode cL_append 2 = .ok (.aload_n 0, 1) := by decide +kernel
theorem dL_append_3 : decode cL_append 3 = .ok (.iload_n 1, 1) := by decide +kernel
theorem dL_append_4 : decode cL_append 4 = .ok (.invokevirtual 65, 3) := by decide +kernel
theorem dL_append_7 : decode cL_append 7 = .ok (.i2l, 1) := by decide +kernel
theorem dL_append_8 : decode cL_append 8 = .ok (.lastore, 1) := by decide +kernel
theorem dL_append_9 : decode cL_append 9 = .ok (.goto 9, 3) := by decide +kernel
theorem dL_append_12 : decode cL_append 12 = .ok (.astore_n 3, 1) := by decide +kernel
theorem dL_append_13 : decode cL_append 13 = .ok (.iconst 1, 1) := by decide +kernel
theorem dL_append_14 : decode cL_append 14 = .ok (.ireturn, 1) := by decide +kernel
theorem dL_append_15 : decode cL_append 15 = .ok (.astore_n 3, 1) := by decide +kernel
theorem dL_append_16 : decode cL_append 16 = .ok (.iconst 2, 1) := by decide +kernel
theorem dL_append_17 : decode cL_append 17 = .ok (.ireturn, 1) := by decide +kernel
theorem dL_append_18 : decode cL_append 18 = .ok (.iconst 0, 1) := by decide +kernel
theorem dL_append_19 : decode cL_append 19 = .ok (.ireturn, 1) := by decide +kernel
theorem dL_addSheet_0 : decode cL_addSheet 0 = .ok (.aload_n 1, 1) := by decide +kernel
theorem dL_addSheet_1 : decode cL_addSheet 1 = .ok (.iconst 0, 1) := by decide +kernel
theorem dL_addSheet_2 : decode cL_addSheet 2 = .ok (.aload_n 0, 1) := by decide +kernel
theorem dL_addSheet_3 : decode cL_addSheet 3 = .ok (.invokevirtual 68, 3) := by decide +kernel
theorem dL_addSheet_6 : decode cL_addSheet 6 = .ok (.i2l, 1) := by decide +kernel
theorem dL_addSheet_7 : decode cL_addSheet 7 = .ok (.lastore, 1) := by decide +kernel
theorem dL_addSheet_8 : decode cL_addSheet 8 = .ok (.goto 6, 3) := by decide +kernel
theorem dL_addSheet_11 : decode cL_addSheet 11 = .ok (.astore_n 2, 1) := by decide +kernel
theorem dL_addSheet_12 : decode cL_addSheet 12 = .ok (.iconst 1, 1) := by decide +kernel
theorem dL_addSheet_13 : decode cL_addSheet 13 = .ok (.ireturn, 1) := by decide +kernel
theorem dL_addSheet_14 : decode cL_addSheet 14 = .ok (.iconst 0, 1) := by decide +kernel
theorem dL_addSheet_15 : decode cL_addSheet 15 = .ok (.ireturn, 1) := by decide +kernel
theorem dL_undo_0 : decode cL_undo 0 = .ok (.aload_n 1, 1) := by decide +kernel
theorem dL_undo_1 : decode cL_undo 1 = .ok (.iconst 0, 1) := by decide +kernel
theorem dL_undo_2 : decode cL_undo 2 = .ok (.aload_n 0, 1) := by decide +kernel
theorem dL_undo_3 : decode cL_undo 3 = .ok (.invokevirtual 72, 3) := by decide +kernel
theorem dL_undo_6 : decode cL_undo 6 = .ok (.i2l, 1) := by decide +kernel
theorem dL_undo_7 : decode cL_undo 7 = .ok (.lastore, 1) := by decide +kernel
theorem dL_undo_8 : decode cL_undo 8 = .ok (.goto 6, 3) := by decide +kernel
theorem dL_undo_11 : decode cL_undo 11 = .ok (.astore_n 2, 1) := by decide +kernel
theorem dL_undo_12 : decode cL_undo 12 = .ok (.iconst 1, 1) := by decide +kernel
theorem dL_undo_13 : decode cL_undo 13 = .ok (.ireturn, 1) := by decide +kernel
theorem dL_undo_14 : decode cL_undo 14 = .ok (.iconst 0, 1) := by decide +kernel
theorem dL_undo_15 : decode cL_undo 15 = .ok (.ireturn, 1) := by decide +kernel
theorem dL_place_0 : decode cL_place 0 = .ok (.aload_n 3, 1) := by decide +kernel
theorem dL_place_1 : decode cL_place 1 = .ok (.iconst 0, 1) := by decide +kernel
theorem dL_place_2 : decode cL_place 2 = .ok (.aload_n 0, 1) := by decide +kernel
theorem dL_place_3 : decode cL_place 3 = .ok (.iload_n 1, 1) := by decide +kernel
theorem dL_place_4 : decode cL_place 4 = .ok (.iload_n 2, 1) := by decide +kernel
theorem dL_place_5 : decode cL_place 5 = .ok (.invokevirtual 75, 3) := by decide +kernel
theorem dL_place_8 : decode cL_place 8 = .ok (.i2l, 1) := by decide +kernel
theorem dL_place_9 : decode cL_place 9 = .ok (.lastore, 1) := by decide +kernel
theorem dL_place_10 : decode cL_place 10 = .ok (.goto 11, 3) := by decide +kernel
theorem dL_place_13 : decode cL_place 13 = .ok (.astore 4, 2) := by decide +kernel
theorem dL_place_15 : decode cL_place 15 = .ok (.iconst 1, 1) := by decide +kernel
theorem dL_place_16 : decode cL_place 16 = .ok (.ireturn, 1) := by decide +kernel
theorem dL_place_17 : decode cL_place 17 = .ok (.astore 4, 2) := by decide +kernel
theorem dL_place_19 : decode cL_place 19 = .ok (.iconst 2, 1) := by decide +kernel
theorem dL_place_20 : decode cL_place 20 = .ok (.ireturn, 1) := by decide +kernel
theorem dL_place_21 : decode cL_place 21 = .ok (.iconst 0, 1) := by decide +kernel
theorem dL_place_22 : decode cL_place 22 = .ok (.ireturn, 1) := by decide +kernel
theorem dL_unit_0 : decode cL_unit 0 = .ok (.aload_n 3, 1) := by decide +kernel
theorem dL_unit_1 : decode cL_unit 1 = .ok (.iconst 0, 1) := by decide +kernel
theorem dL_unit_2 : decode cL_unit 2 = .ok (.aload_n 0, 1) := by decide +kernel
theorem dL_unit_3 : decode cL_unit 3 = .ok (.iload_n 1, 1) := by decide +kernel
theorem dL_unit_4 : decode cL_unit 4 = .ok (.iload_n 2, 1) := by decide +kernel
theorem dL_unit_5 : decode cL_unit 5 = .ok (.invokevirtual 78, 3) := by decide +kernel
theorem dL_unit_8 : decode cL_unit 8 = .ok (.i2l, 1) := by decide +kernel
theorem dL_unit_9 : decode cL_unit 9 = .ok (.lastore, 1) := by decide +kernel
theorem dL_unit_10 : decode cL_unit 10 = .ok (.goto 11, 3) := by decide +kernel
theorem dL_unit_13 : decode cL_unit 13 = .ok (.astore 4, 2) := by decide +kernel
theorem dL_unit_15 : decode cL_unit 15 = .ok (.iconst 1, 1) := by decide +kernel
theorem dL_unit_16 : decode cL_unit 16 = .ok (.ireturn, 1) := by decide +kernel
theorem dL_unit_17 : decode cL_unit 17 = .ok (.astore 4, 2) := by decide +kernel
theorem dL_unit_19 : decode cL_unit 19 = .ok (.iconst 2, 1) := by decide +kernel
theorem dL_unit_20 : decode cL_unit 20 = .ok (.ireturn, 1) := by decide +kernel
theorem dL_unit_21 : decode cL_unit 21 = .ok (.iconst 0, 1) := by decide +kernel
theorem dL_unit_22 : decode cL_unit 22 = .ok (.ireturn, 1) := by decide +kernel
theorem dL_kitchen_0 : decode cL_kitchen 0 = .ok (.aload_n 3, 1) := by decide +kernel
theorem dL_kitchen_1 : decode cL_kitchen 1 = .ok (.iconst 0, 1) := by decide +kernel
theorem dL_kitchen_2 : decode cL_kitchen 2 = .ok (.aload_n 0, 1) := by decide +kernel
theorem dL_kitchen_3 : decode cL_kitchen 3 = .ok (.iload_n 1, 1) := by decide +kernel
theorem dL_kitchen_4 : decode cL_kitchen 4 = .ok (.iload_n 2, 1) := by decide +kernel
theorem dL_kitchen_5 : decode cL_kitchen 5 = .ok (.invokevirtual 81, 3) := by decide +kernel
theorem dL_kitchen_8 : decode cL_kitchen 8 = .ok (.i2l, 1) := by decide +kernel
theorem dL_kitchen_9 : decode cL_kitchen 9 = .ok (.lastore, 1) := by decide +kernel
theorem dL_kitchen_10 : decode cL_kitchen 10 = .ok (.goto 11, 3) := by decide +kernel
theorem dL_kitchen_13 : decode cL_kitchen 13 = .ok (.astore 4, 2) := by decide +kernel
theorem dL_kitchen_15 : decode cL_kitchen 15 = .ok (.iconst 1, 1) := by decide +kernel
theorem dL_kitchen_16 : decode cL_kitchen 16 = .ok (.ireturn, 1) := by decide +kernel
theorem dL_kitchen_17 : decode cL_kitchen 17 = .ok (.astore 4, 2) := by decide +kernel
theorem dL_kitchen_19 : decode cL_kitchen 19 = .ok (.iconst 2, 1) := by decide +kernel
theorem dL_kitchen_20 : decode cL_kitchen 20 = .ok (.ireturn, 1) := by decide +kernel
theorem dL_kitchen_21 : decode cL_kitchen 21 = .ok (.iconst 0, 1) := by decide +kernel
theorem dL_kitchen_22 : decode cL_kitchen 22 = .ok (.ireturn, 1) := by decide +kernel
theorem dL_lorry_0 : decode cL_lorry 0 = .ok (.aload_n 3, 1) := by decide +kernel
theorem dL_lorry_1 : decode cL_lorry 1 = .ok (.iconst 0, 1) := by decide +kernel
theorem dL_lorry_2 : decode cL_lorry 2 = .ok (.aload_n 0, 1) := by decide +kernel
theorem dL_lorry_3 : decode cL_lorry 3 = .ok (.iload_n 1, 1) := by decide +kernel
theorem dL_lorry_4 : decode cL_lorry 4 = .ok (.iload_n 2, 1) := by decide +kernel
theorem dL_lorry_5 : decode cL_lorry 5 = .ok (.invokevirtual 84, 3) := by decide +kernel
theorem dL_lorry_8 : decode cL_lorry 8 = .ok (.i2l, 1) := by decide +kernel
theorem dL_lorry_9 : decode cL_lorry 9 = .ok (.lastore, 1) := by decide +kernel
theorem dL_lorry_10 : decode cL_lorry 10 = .ok (.goto 11, 3) := by decide +kernel
theorem dL_lorry_13 : decode cL_lorry 13 = .ok (.astore 4, 2) := by decide +kernel
theorem dL_lorry_15 : decode cL_lorry 15 = .ok (.iconst 1, 1) := by decide +kernel
theorem dL_lorry_16 : decode cL_lorry 16 = .ok (.ireturn, 1) := by decide +kernel
theorem dL_lorry_17 : decode cL_lorry 17 = .ok (.astore 4, 2) := by decide +kernel
theorem dL_lorry_19 : decode cL_lorry 19 = .ok (.iconst 2, 1) := by decide +kernel
theorem dL_lorry_20 : decode cL_lorry 20 = .ok (.ireturn, 1) := by decide +kernel
theorem dL_lorry_21 : decode cL_lorry 21 = .ok (.iconst 0, 1) := by decide +kernel
theorem dL_lorry_22 : decode cL_lorry 22 = .ok (.ireturn, 1) := by decide +kernel
theorem dL_count_0 : decode cL_count 0 = .ok (.aload_n 2, 1) := by decide +kernel
theorem dL_count_1 : decode cL_count 1 = .ok (.iconst 0, 1) := by decide +kernel
theorem dL_count_2 : decode cL_count 2 = .ok (.aload_n 0, 1) := by decide +kernel
theorem dL_count_3 : decode cL_count 3 = .ok (.iload_n 1, 1) := by decide +kernel
theorem dL_count_4 : decode cL_count 4 = .ok (.invokevirtual 87, 3) := by decide +kernel
theorem dL_count_7 : decode cL_count 7 = .ok (.i2l, 1) := by decide +kernel
theorem dL_count_8 : decode cL_count 8 = .ok (.lastore, 1) := by decide +kernel
theorem dL_count_9 : decode cL_count 9 = .ok (.goto 6, 3) := by decide +kernel
theorem dL_count_12 : decode cL_count 12 = .ok (.astore_n 3, 1) := by decide +kernel
theorem dL_count_13 : decode cL_count 13 = .ok (.iconst 1, 1) := by decide +kernel
theorem dL_count_14 : decode cL_count 14 = .ok (.ireturn, 1) := by decide +kernel
theorem dL_count_15 : decode cL_count 15 = .ok (.iconst 0, 1) := by decide +kernel
theorem dL_count_16 : decode cL_count 16 = .ok (.ireturn, 1) := by decide +kernel
theorem dL_setting_0 : decode cL_setting 0 = .ok (.aload_n 2, 1) := by decide +kernel
theorem dL_setting_1 : decode cL_setting 1 = .ok (.iconst 0, 1) := by decide +kernel
theorem dL_setting_2 : decode cL_setting 2 = .ok (.aload_n 0, 1) := by decide +kernel
theorem dL_setting_3 : decode cL_setting 3 = .ok (.iload_n 1, 1) := by decide +kernel
theorem dL_setting_4 : decode cL_setting 4 = .ok (.invokevirtual 90, 3) := by decide +kernel
theorem dL_setting_7 : decode cL_setting 7 = .ok (.i2l, 1) := by decide +kernel
theorem dL_setting_8 : decode cL_setting 8 = .ok (.lastore, 1) := by decide +kernel
theorem dL_setting_9 : decode cL_setting 9 = .ok (.goto 6, 3) := by decide +kernel
theorem dL_setting_12 : decode cL_setting 12 = .ok (.astore_n 3, 1) := by decide +kernel
theorem dL_setting_13 : decode cL_setting 13 = .ok (.iconst 1, 1) := by decide +kernel
theorem dL_setting_14 : decode cL_setting 14 = .ok (.ireturn, 1) := by decide +kernel
theorem dL_setting_15 : decode cL_setting 15 = .ok (.iconst 0, 1) := by decide +kernel
theorem dL_setting_16 : decode cL_setting 16 = .ok (.ireturn, 1) := by decide +kernel
theorem dL_ifPassed_0 : decode cL_ifPassed 0 = .ok (.aload_n 3, 1) := by decide +kernel
theorem dL_ifPassed_1 : decode cL_ifPassed 1 = .ok (.iconst 0, 1) := by decide +kernel
theorem dL_ifPassed_2 : decode cL_ifPassed 2 = .ok (.aload_n 0, 1) := by decide +kernel
theorem dL_ifPassed_3 : decode cL_ifPassed 3 = .ok (.iload_n 1, 1) := by decide +kernel
theorem dL_ifPassed_4 : decode cL_ifPassed 4 = .ok (.iload_n 2, 1) := by decide +kernel
theorem dL_ifPassed_5 : decode cL_ifPassed 5 = .ok (.invokevirtual 93, 3) := by decide +kernel
theorem dL_ifPassed_8 : decode cL_ifPassed 8 = .ok (.i2l, 1) := by decide +kernel
theorem dL_ifPassed_9 : decode cL_ifPassed 9 = .ok (.lastore, 1) := by decide +kernel
theorem dL_ifPassed_10 : decode cL_ifPassed 10 = .ok (.goto 7, 3) := by decide +kernel
theorem dL_ifPassed_13 : decode cL_ifPassed 13 = .ok (.astore 4, 2) := by decide +kernel
theorem dL_ifPassed_15 : decode cL_ifPassed 15 = .ok (.iconst 1, 1) := by decide +kernel
theorem dL_ifPassed_16 : decode cL_ifPassed 16 = .ok (.ireturn, 1) := by decide +kernel
theorem dL_ifPassed_17 : decode cL_ifPassed 17 = .ok (.iconst 0, 1) := by decide +kernel
theorem dL_ifPassed_18 : decode cL_ifPassed 18 = .ok (.ireturn, 1) := by decide +kernel
theorem dL_callsIn_0 : decode cL_callsIn 0 = .ok (.aload_n 3, 1) := by decide +kernel
theorem dL_callsIn_1 : decode cL_callsIn 1 = .ok (.iconst 0, 1) := by decide +kernel
theorem dL_callsIn_2 : decode cL_callsIn 2 = .ok (.aload_n 0, 1) := by decide +kernel
theorem dL_callsIn_3 : decode cL_callsIn 3 = .ok (.iload_n 1, 1) := by decide +kernel
theorem dL_callsIn_4 : decode cL_callsIn 4 = .ok (.iload_n 2, 1) := by decide +kernel
theorem dL_callsIn_5 : decode cL_callsIn 5 = .ok (.invokevirtual 96, 3) := by decide +kernel
theorem dL_callsIn_8 : decode cL_callsIn 8 = .ok (.i2l, 1) := by decide +kernel
theorem dL_callsIn_9 : decode cL_callsIn 9 = .ok (.lastore, 1) := by decide +kernel
theorem dL_callsIn_10 : decode cL_callsIn 10 = .ok (.goto 7, 3) := by decide +kernel
theorem dL_callsIn_13 : decode cL_callsIn 13 = .ok (.astore 4, 2) := by decide +kernel
theorem dL_callsIn_15 : decode cL_callsIn 15 = .ok (.iconst 1, 1) := by decide +kernel
theorem dL_callsIn_16 : decode cL_callsIn 16 = .ok (.ireturn, 1) := by decide +kernel
theorem dL_callsIn_17 : decode cL_callsIn 17 = .ok (.iconst 0, 1) := by decide +kernel
theorem dL_callsIn_18 : decode cL_callsIn 18 = .ok (.ireturn, 1) := by decide +kernel
theorem dL_canCook_0 : decode cL_canCook 0 = .ok (.aload_n 3, 1) := by decide +kernel
theorem dL_canCook_1 : decode cL_canCook 1 = .ok (.iconst 0, 1) := by decide +kernel
theorem dL_canCook_2 : decode cL_canCook 2 = .ok (.aload_n 0, 1) := by decide +kernel
theorem dL_canCook_3 : decode cL_canCook 3 = .ok (.iload_n 1, 1) := by decide +kernel
theorem dL_canCook_4 : decode cL_canCook 4 = .ok (.iload_n 2, 1) := by decide +kernel
theorem dL_canCook_5 : decode cL_canCook 5 = .ok (.invokevirtual 99, 3) := by decide +kernel
theorem dL_canCook_8 : decode cL_canCook 8 = .ok (.i2l, 1) := by decide +kernel
theorem dL_canCook_9 : decode cL_canCook 9 = .ok (.lastore, 1) := by decide +kernel
theorem dL_canCook_10 : decode cL_canCook 10 = .ok (.goto 11, 3) := by decide +kernel
theorem dL_canCook_13 : decode cL_canCook 13 = .ok (.astore 4, 2) := by decide +kernel
theorem dL_canCook_15 : decode cL_canCook 15 = .ok (.iconst 1, 1) := by decide +kernel
theorem dL_canCook_16 : decode cL_canCook 16 = .ok (.ireturn, 1) := by decide +kernel
theorem dL_canCook_17 : decode cL_canCook 17 = .ok (.astore 4, 2) := by decide +kernel
theorem dL_canCook_19 : decode cL_canCook 19 = .ok (.iconst 2, 1) := by decide +kernel
theorem dL_canCook_20 : decode cL_canCook 20 = .ok (.ireturn, 1) := by decide +kernel
theorem dL_canCook_21 : decode cL_canCook 21 = .ok (.iconst 0, 1) := by decide +kernel
theorem dL_canCook_22 : decode cL_canCook 22 = .ok (.ireturn, 1) := by decide +kernel
theorem dL_bestLorry_0 : decode cL_bestLorry 0 = .ok (.aload_n 2, 1) := by decide +kernel
theorem dL_bestLorry_1 : decode cL_bestLorry 1 = .ok (.iconst 0, 1) := by decide +kernel
theorem dL_bestLorry_2 : decode cL_bestLorry 2 = .ok (.aload_n 0, 1) := by decide +kernel
theorem dL_bestLorry_3 : decode cL_bestLorry 3 = .ok (.iload_n 1, 1) := by decide +kernel
theorem dL_bestLorry_4 : decode cL_bestLorry 4 = .ok (.invokevirtual 102, 3) := by decide +kernel
theorem dL_bestLorry_7 : decode cL_bestLorry 7 = .ok (.i2l, 1) := by decide +kernel
theorem dL_bestLorry_8 : decode cL_bestLorry 8 = .ok (.lastore, 1) := by decide +kernel
theorem dL_bestLorry_9 : decode cL_bestLorry 9 = .ok (.goto 6, 3) := by decide +kernel
theorem dL_bestLorry_12 : decode cL_bestLorry 12 = .ok (.astore_n 3, 1) := by decide +kernel
theorem dL_bestLorry_13 : decode cL_bestLorry 13 = .ok (.iconst 1, 1) := by decide +kernel
theorem dL_bestLorry_14 : decode cL_bestLorry 14 = .ok (.ireturn, 1) := by decide +kernel
theorem dL_bestLorry_15 : decode cL_bestLorry 15 = .ok (.iconst 0, 1) := by decide +kernel
theorem dL_bestLorry_16 : decode cL_bestLorry 16 = .ok (.ireturn, 1) := by decide +kernel
theorem dL_enoughGrace_0 : decode cL_enoughGrace 0 = .ok (.aload_n 2, 1) := by decide +kernel
theorem dL_enoughGrace_1 : decode cL_enoughGrace 1 = .ok (.iconst 0, 1) := by decide +kernel
theorem dL_enoughGrace_2 : decode cL_enoughGrace 2 = .ok (.aload_n 0, 1) := by decide +kernel
theorem dL_enoughGrace_3 : decode cL_enoughGrace 3 = .ok (.iload_n 1, 1) := by decide +kernel
theorem dL_enoughGrace_4 : decode cL_enoughGrace 4 = .ok (.invokevirtual 105, 3) := by decide +kernel
theorem dL_enoughGrace_7 : decode cL_enoughGrace 7 = .ok (.i2l, 1) := by decide +kernel
theorem dL_enoughGrace_8 : decode cL_enoughGrace 8 = .ok (.lastore, 1) := by decide +kernel
theorem dL_enoughGrace_9 : decode cL_enoughGrace 9 = .ok (.goto 6, 3) := by decide +kernel
theorem dL_enoughGrace_12 : decode cL_enoughGrace 12 = .ok (.astore_n 3, 1) := by decide +kernel
theorem dL_enoughGrace_13 : decode cL_enoughGrace 13 = .ok (.iconst 1, 1) := by decide +kernel
theorem dL_enoughGrace_14 : decode cL_enoughGrace 14 = .ok (.ireturn, 1) := by decide +kernel
theorem dL_enoughGrace_15 : decode cL_enoughGrace 15 = .ok (.iconst 0, 1) := by decide +kernel
theorem dL_enoughGrace_16 : decode cL_enoughGrace 16 = .ok (.ireturn, 1) := by decide +kernel
theorem dL_law_0 : decode cL_law 0 = .ok (.new 8, 3) := by decide +kernel
theorem dL_law_3 : decode cL_law 3 = .ok (.dup, 1) := by decide +kernel
theorem dL_law_4 : decode cL_law 4 = .ok (.invokespecial 108, 3) := by decide +kernel
theorem dL_law_7 : decode cL_law 7 = .ok (.astore_n 1, 1) := by decide +kernel
theorem dL_law_8 : decode cL_law 8 = .ok (.new 109, 3) := by decide +kernel
theorem dL_law_11 : decode cL_law 11 = .ok (.dup, 1) := by decide +kernel
theorem dL_law_12 : decode cL_law 12 = .ok (.invokespecial 111, 3) := by decide +kernel
theorem dL_law_15 : decode cL_law 15 = .ok (.astore_n 2, 1) := by decide +kernel
theorem dL_law_16 : decode cL_law 16 = .ok (.iconst 1, 1) := by decide +kernel
theorem dL_law_17 : decode cL_law 17 = .ok (.newarray .long, 2) := by decide +kernel
theorem dL_law_19 : decode cL_law 19 = .ok (.astore_n 3, 1) := by decide +kernel
theorem dL_law_20 : decode cL_law 20 = .ok (.iconst 0, 1) := by decide +kernel
theorem dL_law_21 : decode cL_law 21 = .ok (.istore 4, 2) := by decide +kernel
theorem dL_law_23 : decode cL_law 23 = .ok (.iload 4, 2) := by decide +kernel
theorem dL_law_25 : decode cL_law 25 = .ok (.aload_n 0, 1) := by decide +kernel
theorem dL_law_26 : decode cL_law 26 = .ok (.arraylength, 1) := by decide +kernel
theorem dL_law_27 : decode cL_law 27 = .ok (.bipush 6, 2) := by decide +kernel
theorem dL_law_29 : decode cL_law 29 = .ok (.isub, 1) := by decide +kernel
theorem dL_law_30 : decode cL_law 30 = .ok (.if_icmp .gt 2157, 3) := by decide +kernel
theorem dL_law_33 : decode cL_law 33 = .ok (.aload_n 0, 1) := by decide +kernel
theorem dL_law_34 : decode cL_law 34 = .ok (.iload 4, 2) := by decide +kernel
theorem dL_law_36 : decode cL_law 36 = .ok (.iaload, 1) := by decide +kernel
theorem dL_law_37 : decode cL_law 37 = .ok (.bipush 63, 2) := by decide +kernel
theorem dL_law_39 : decode cL_law 39 = .ok (.iand, 1) := by decide +kernel
theorem dL_law_40 : decode cL_law 40 = .ok (.tableswitch 2141 0 32 #[148, 216, 272, 328, 396, 476, 556, 648, 716, 784, 888, 968, 1036, 1104, 1160, 1216, 1272, 1285, 1298, 1342, 1386, 1454, 1522, 1590, 1658, 1714, 1770, 1838, 1906, 1974, 2030, 2086, 2127], 148) := by decide +kernel
theorem dL_law_188 : decode cL_law 188 = .ok (.aload_n 1, 1) := by decide +kernel
theorem dL_law_189 : decode cL_law 189 = .ok (.aload_n 0, 1) := by decide +kernel
theorem dL_law_190 : decode cL_law 190 = .ok (.iload 4, 2) := by decide +kernel
theorem dL_law_192 : decode cL_law 192 = .ok (.iconst 1, 1) := by decide +kernel
theorem dL_law_193 : decode cL_law 193 = .ok (.iadd, 1) := by decide +kernel
theorem dL_law_194 : decode cL_law 194 = .ok (.iaload, 1) := by decide +kernel
theorem dL_law_195 : decode cL_law 195 = .ok (.aload_n 0, 1) := by decide +kernel
theorem dL_law_196 : decode cL_law 196 = .ok (.iload 4, 2) := by decide +kernel
theorem dL_law_198 : decode cL_law 198 = .ok (.iconst 2, 1) := by decide +kernel
theorem dL_law_199 : decode cL_law 199 = .ok (.iadd, 1) := by decide +kernel
theorem dL_law_200 : decode cL_law 200 = .ok (.iaload, 1) := by decide +kernel
theorem dL_law_201 : decode cL_law 201 = .ok (.aload_n 3, 1) := by decide +kernel
theorem dL_law_202 : decode cL_law 202 = .ok (.invokestatic 112, 3) := by decide +kernel
theorem dL_law_205 : decode cL_law 205 = .ok (.istore 5, 2) := by decide +kernel
theorem dL_law_207 : decode cL_law 207 = .ok (.aload_n 2, 1) := by decide +kernel
theorem dL_law_208 : decode cL_law 208 = .ok (.aload_n 0, 1) := by decide +kernel
theorem dL_law_209 : decode cL_law 209 = .ok (.iload 4, 2) := by decide +kernel
theorem dL_law_211 : decode cL_law 211 = .ok (.iconst 1, 1) := by decide +kernel
theorem dL_law_212 : decode cL_law 212 = .ok (.iadd, 1) := by decide +kernel
theorem dL_law_213 : decode cL_law 213 = .ok (.iaload, 1) := by decide +kernel
theorem dL_law_214 : decode cL_law 214 = .ok (.aload_n 0, 1) := by decide +kernel
theorem dL_law_215 : decode cL_law 215 = .ok (.iload 4, 2) := by decide +kernel
theorem dL_law_217 : decode cL_law 217 = .ok (.iconst 2, 1) := by decide +kernel
theorem dL_law_218 : decode cL_law 218 = .ok (.iadd, 1) := by decide +kernel
theorem dL_law_219 : decode cL_law 219 = .ok (.iaload, 1) := by decide +kernel
theorem dL_law_220 : decode cL_law 220 = .ok (.invokevirtual 117, 3) := by decide +kernel
theorem dL_law_223 : decode cL_law 223 = .ok (.istore 6, 2) := by decide +kernel
theorem dL_law_225 : decode cL_law 225 = .ok (.aload_n 2, 1) := by decide +kernel
theorem dL_law_226 : decode cL_law 226 = .ok (.invokevirtual 118, 3) := by decide +kernel
theorem dL_law_229 : decode cL_law 229 = .ok (.iload 5, 2) := by decide +kernel
theorem dL_law_231 : decode cL_law 231 = .ok (.if_icmp .eq 5, 3) := by decide +kernel
theorem dL_law_234 : decode cL_law 234 = .ok (.iconst 0, 1) := by decide +kernel
theorem dL_law_235 : decode cL_law 235 = .ok (.ireturn, 1) := by decide +kernel
theorem dL_law_236 : decode cL_law 236 = .ok (.iload 5, 2) := by decide +kernel
theorem dL_law_238 : decode cL_law 238 = .ok (.ifCond .ne 15, 3) := by decide +kernel
theorem dL_law_241 : decode cL_law 241 = .ok (.aload_n 3, 1) := by decide +kernel
theorem dL_law_242 : decode cL_law 242 = .ok (.iconst 0, 1) := by decide +kernel
theorem dL_law_243 : decode cL_law 243 = .ok (.laload, 1) := by decide +kernel
theorem dL_law_244 : decode cL_law 244 = .ok (.iload 6, 2) := by decide +kernel
theorem dL_law_246 : decode cL_law 246 = .ok (.i2l, 1) := by decide +kernel
theorem dL_law_247 : decode cL_law 247 = .ok (.lcmp, 1) := by decide +kernel
theorem dL_law_248 : decode cL_law 248 = .ok (.ifCond .eq 5, 3) := by decide +kernel
theorem dL_law_251 : decode cL_law 251 = .ok (.iconst 0, 1) := by decide +kernel
theorem dL_law_252 : decode cL_law 252 = .ok (.ireturn, 1) := by decide +kernel
theorem dL_law_253 : decode cL_law 253 = .ok (.goto 1928, 3) := by decide +kernel
theorem dL_law_256 : decode cL_law 256 = .ok (.aload_n 1, 1) := by decide +kernel
theorem dL_law_257 : decode cL_law 257 = .ok (.aload_n 0, 1) := by decide +kernel
theorem dL_law_258 : decode cL_law 258 = .ok (.iload 4, 2) := by decide +kernel
theorem dL_law_260 : decode cL_law 260 = .ok (.iconst 1, 1) := by decide +kernel
theorem dL_law_261 : decode cL_law 261 = .ok (.iadd, 1) := by decide +kernel
theorem dL_law_262 : decode cL_law 262 = .ok (.iaload, 1) := by decide +kernel
theorem dL_law_263 : decode cL_law 263 = .ok (.aload_n 3, 1) := by decide +kernel
theorem dL_law_264 : decode cL_law 264 = .ok (.invokestatic 121, 3) := by decide +kernel
theorem dL_law_267 : decode cL_law 267 = .ok (.istore 5, 2) := by decide +kernel
theorem dL_law_269 : decode cL_law 269 = .ok (.aload_n 2, 1) := by decide +kernel
theorem dL_law_270 : decode cL_law 270 = .ok (.aload_n 0, 1) := by decide +kernel
theorem dL_law_271 : decode cL_law 271 = .ok (.iload 4, 2) := by decide +kernel
theorem dL_law_273 : decode cL_law 273 = .ok (.iconst 1, 1) := by decide +kernel
theorem dL_law_274 : decode cL_law 274 = .ok (.iadd, 1) := by decide +kernel
theorem dL_law_275 : decode cL_law 275 = .ok (.iaload, 1) := by decide +kernel
theorem dL_law_276 : decode cL_law 276 = .ok (.invokevirtual 124, 3) := by decide +kernel
theorem dL_law_279 : decode cL_law 279 = .ok (.istore 6, 2) := by decide +kernel
theorem dL_law_281 : decode cL_law 281 = .ok (.aload_n 2, 1) := by decide +kernel
theorem dL_law_282 : decode cL_law 282 = .ok (.invokevirtual 118, 3) := by decide +kernel
theorem dL_law_285 : decode cL_law 285 = .ok (.iload 5, 2) := by decide +kernel
theorem dL_law_287 : decode cL_law 287 = .ok (.if_icmp .eq 5, 3) := by decide +kernel
theorem dL_law_290 : decode cL_law 290 = .ok (.iconst 0, 1) := by decide +kernel
theorem dL_law_291 : decode cL_law 291 = .ok (.ireturn, 1) := by decide +kernel
theorem dL_law_292 : decode cL_law 292 = .ok (.iload 5, 2) := by decide +kernel
theorem dL_law_294 : decode cL_law 294 = .ok (.ifCond .ne 15, 3) := by decide +kernel
theorem dL_law_297 : decode cL_law 297 = .ok (.aload_n 3, 1) := by decide +kernel
theorem dL_law_298 : decode cL_law 298 = .ok (.iconst 0, 1) := by decide +kernel
theorem dL_law_299 : decode cL_law 299 = .ok (.laload, 1) := by decide +kernel
theorem dL_law_300 : decode cL_law 300 = .ok (.iload 6, 2) := by decide +kernel
theorem dL_law_302 : decode cL_law 302 = .ok (.i2l, 1) := by decide +kernel
theorem dL_law_303 : decode cL_law 303 = .ok (.lcmp, 1) := by decide +kernel
theorem dL_law_304 : decode cL_law 304 = .ok (.ifCond .eq 5, 3) := by decide +kernel
theorem dL_law_307 : decode cL_law 307 = .ok (.iconst 0, 1) := by decide +kernel
theorem dL_law_308 : decode cL_law 308 = .ok (.ireturn, 1) := by decide +kernel
theorem dL_law_309 : decode cL_law 309 = .ok (.goto 1872, 3) := by decide +kernel
theorem dL_law_312 : decode cL_law 312 = .ok (.aload_n 1, 1) := by decide +kernel
theorem dL_law_313 : decode cL_law 313 = .ok (.aload_n 0, 1) := by decide +kernel
theorem dL_law_314 : decode cL_law 314 = .ok (.iload 4, 2) := by decide +kernel
theorem dL_law_316 : decode cL_law 316 = .ok (.iconst 1, 1) := by decide +kernel
theorem dL_law_317 : decode cL_law 317 = .ok (.iadd, 1) := by decide +kernel
theorem dL_law_318 : decode cL_law 318 = .ok (.iaload, 1) := by decide +kernel
theorem dL_law_319 : decode cL_law 319 = .ok (.aload_n 3, 1) := by decide +kernel
theorem dL_law_320 : decode cL_law 320 = .ok (.invokestatic 125, 3) := by decide +kernel
theorem dL_law_323 : decode cL_law 323 = .ok (.istore 5, 2) := by decide +kernel
theorem dL_law_325 : decode cL_law 325 = .ok (.aload_n 2, 1) := by decide +kernel
theorem dL_law_326 : decode cL_law 326 = .ok (.aload_n 0, 1) := by decide +kernel
theorem dL_law_327 : decode cL_law 327 = .ok (.iload 4, 2) := by decide +kernel
theorem dL_law_329 : decode cL_law 329 = .ok (.iconst 1, 1) := by decide +kernel
theorem dL_law_330 : decode cL_law 330 = .ok (.iadd, 1) := by decide +kernel
theorem dL_law_331 : decode cL_law 331 = .ok (.iaload, 1) := by decide +kernel
theorem dL_law_332 : decode cL_law 332 = .ok (.invokevirtual 127, 3) := by decide +kernel
theorem dL_law_335 : decode cL_law 335 = .ok (.istore 6, 2) := by decide +kernel
theorem dL_law_337 : decode cL_law 337 = .ok (.aload_n 2, 1) := by decide +kernel
theorem dL_law_338 : decode cL_law 338 = .ok (.invokevirtual 118, 3) := by decide +kernel
theorem dL_law_341 : decode cL_law 341 = .ok (.iload 5, 2) := by decide +kernel
theorem dL_law_343 : decode cL_law 343 = .ok (.if_icmp .eq 5, 3) := by decide +kernel
theorem dL_law_346 : decode cL_law 346 = .ok (.iconst 0, 1) := by decide +kernel
theorem dL_law_347 : decode cL_law 347 = .ok (.ireturn, 1) := by decide +kernel
theorem dL_law_348 : decode cL_law 348 = .ok (.iload 5, 2) := by decide +kernel
theorem dL_law_350 : decode cL_law 350 = .ok (.ifCond .ne 15, 3) := by decide +kernel
theorem dL_law_353 : decode cL_law 353 = .ok (.aload_n 3, 1) := by decide +kernel
theorem dL_law_354 : decode cL_law 354 = .ok (.iconst 0, 1) := by decide +kernel
theorem dL_law_355 : decode cL_law 355 = .ok (.laload, 1) := by decide +kernel
theorem dL_law_356 : decode cL_law 356 = .ok (.iload 6, 2) := by decide +kernel
theorem dL_law_358 : decode cL_law 358 = .ok (.i2l, 1) := by decide +kernel
theorem dL_law_359 : decode cL_law 359 = .ok (.lcmp, 1) := by decide +kernel
theorem dL_law_360 : decode cL_law 360 = .ok (.ifCond .eq 5, 3) := by decide +kernel
theorem dL_law_363 : decode cL_law 363 = .ok (.iconst 0, 1) := by decide +kernel
theorem dL_law_364 : decode cL_law 364 = .ok (.ireturn, 1) := by decide +kernel
theorem dL_law_365 : decode cL_law 365 = .ok (.goto 1816, 3) := by decide +kernel
theorem dL_law_368 : decode cL_law 368 = .ok (.aload_n 1, 1) := by decide +kernel
theorem dL_law_369 : decode cL_law 369 = .ok (.aload_n 0, 1) := by decide +kernel
theorem dL_law_370 : decode cL_law 370 = .ok (.iload 4, 2) := by decide +kernel
theorem dL_law_372 : decode cL_law 372 = .ok (.iconst 1, 1) := by decide +kernel
theorem dL_law_373 : decode cL_law 373 = .ok (.iadd, 1) := by decide +kernel
theorem dL_law_374 : decode cL_law 374 = .ok (.iaload, 1) := by decide +kernel
theorem dL_law_375 : decode cL_law 375 = .ok (.aload_n 0, 1) := by decide +kernel
theorem dL_law_376 : decode cL_law 376 = .ok (.iload 4, 2) := by decide +kernel
theorem dL_law_378 : decode cL_law 378 = .ok (.iconst 2, 1) := by decide +kernel
theorem dL_law_379 : decode cL_law 379 = .ok (.iadd, 1) := by decide +kernel
theorem dL_law_380 : decode cL_law 380 = .ok (.iaload, 1) := by decide +kernel
theorem dL_law_381 : decode cL_law 381 = .ok (.aload_n 3, 1) := by decide +kernel
theorem dL_law_382 : decode cL_law 382 = .ok (.invokestatic 128, 3) := by decide +kernel
theorem dL_law_385 : decode cL_law 385 = .ok (.istore 5, 2) := by decide +kernel
theorem dL_law_387 : decode cL_law 387 = .ok (.aload_n 2, 1) := by decide +kernel
theorem dL_law_388 : decode cL_law 388 = .ok (.aload_n 0, 1) := by decide +kernel
theorem dL_law_389 : decode cL_law 389 = .ok (.iload 4, 2) := by decide +kernel
theorem dL_law_391 : decode cL_law 391 = .ok (.iconst 1, 1) := by decide +kernel
theorem dL_law_392 : decode cL_law 392 = .ok (.iadd, 1) := by decide +kernel
theorem dL_law_393 : decode cL_law 393 = .ok (.iaload, 1) := by decide +kernel
theorem dL_law_394 : decode cL_law 394 = .ok (.aload_n 0, 1) := by decide +kernel
theorem dL_law_395 : decode cL_law 395 = .ok (.iload 4, 2) := by decide +kernel
theorem dL_law_397 : decode cL_law 397 = .ok (.iconst 2, 1) := by decide +kernel
theorem dL_law_398 : decode cL_law 398 = .ok (.iadd, 1) := by decide +kernel
theorem dL_law_399 : decode cL_law 399 = .ok (.iaload, 1) := by decide +kernel
theorem dL_law_400 : decode cL_law 400 = .ok (.invokevirtual 130, 3) := by decide +kernel
theorem dL_law_403 : decode cL_law 403 = .ok (.istore 6, 2) := by decide +kernel
theorem dL_law_405 : decode cL_law 405 = .ok (.aload_n 2, 1) := by decide +kernel
theorem dL_law_406 : decode cL_law 406 = .ok (.invokevirtual 118, 3) := by decide +kernel
theorem dL_law_409 : decode cL_law 409 = .ok (.iload 5, 2) := by decide +kernel
theorem dL_law_411 : decode cL_law 411 = .ok (.if_icmp .eq 5, 3) := by decide +kernel
theorem dL_law_414 : decode cL_law 414 = .ok (.iconst 0, 1) := by decide +kernel
theorem dL_law_415 : decode cL_law 415 = .ok (.ireturn, 1) := by decide +kernel
theorem dL_law_416 : decode cL_law 416 = .ok (.iload 5, 2) := by decide +kernel
theorem dL_law_418 : decode cL_law 418 = .ok (.ifCond .ne 15, 3) := by decide +kernel
theorem dL_law_421 : decode cL_law 421 = .ok (.aload_n 3, 1) := by decide +kernel
theorem dL_law_422 : decode cL_law 422 = .ok (.iconst 0, 1) := by decide +kernel
theorem dL_law_423 : decode cL_law 423 = .ok (.laload, 1) := by decide +kernel
theorem dL_law_424 : decode cL_law 424 = .ok (.iload 6, 2) := by decide +kernel
theorem dL_law_426 : decode cL_law 426 = .ok (.i2l, 1) := by decide +kernel
theorem dL_law_427 : decode cL_law 427 = .ok (.lcmp, 1) := by decide +kernel
theorem dL_law_428 : decode cL_law 428 = .ok (.ifCond .eq 5, 3) := by decide +kernel
theorem dL_law_431 : decode cL_law 431 = .ok (.iconst 0, 1) := by decide +kernel
theorem dL_law_432 : decode cL_law 432 = .ok (.ireturn, 1) := by decide +kernel
theorem dL_law_433 : decode cL_law 433 = .ok (.goto 1748, 3) := by decide +kernel
theorem dL_law_436 : decode cL_law 436 = .ok (.aload_n 1, 1) := by decide +kernel
theorem dL_law_437 : decode cL_law 437 = .ok (.aload_n 0, 1) := by decide +kernel
theorem dL_law_438 : decode cL_law 438 = .ok (.iload 4, 2) := by decide +kernel
theorem dL_law_440 : decode cL_law 440 = .ok (.iconst 1, 1) := by decide +kernel
theorem dL_law_441 : decode cL_law 441 = .ok (.iadd, 1) := by decide +kernel
theorem dL_law_442 : decode cL_law 442 = .ok (.iaload, 1) := by decide +kernel
theorem dL_law_443 : decode cL_law 443 = .ok (.aload_n 0, 1) := by decide +kernel
theorem dL_law_444 : decode cL_law 444 = .ok (.iload 4, 2) := by decide +kernel
theorem dL_law_446 : decode cL_law 446 = .ok (.iconst 2, 1) := by decide +kernel
theorem dL_law_447 : decode cL_law 447 = .ok (.iadd, 1) := by decide +kernel
theorem dL_law_448 : decode cL_law 448 = .ok (.iaload, 1) := by decide +kernel
theorem dL_law_449 : decode cL_law 449 = .ok (.aload_n 0, 1) := by decide +kernel
theorem dL_law_450 : decode cL_law 450 = .ok (.iload 4, 2) := by decide +kernel
theorem dL_law_452 : decode cL_law 452 = .ok (.iconst 3, 1) := by decide +kernel
theorem dL_law_453 : decode cL_law 453 = .ok (.iadd, 1) := by decide +kernel
theorem dL_law_454 : decode cL_law 454 = .ok (.iaload, 1) := by decide +kernel
theorem dL_law_455 : decode cL_law 455 = .ok (.aload_n 3, 1) := by decide +kernel
theorem dL_law_456 : decode cL_law 456 = .ok (.invokestatic 131, 3) := by decide +kernel
theorem dL_law_459 : decode cL_law 459 = .ok (.istore 5, 2) := by decide +kernel
theorem dL_law_461 : decode cL_law 461 = .ok (.aload_n 2, 1) := by decide +kernel
theorem dL_law_462 : decode cL_law 462 = .ok (.aload_n 0, 1) := by decide +kernel
theorem dL_law_463 : decode cL_law 463 = .ok (.iload 4, 2) := by decide +kernel
theorem dL_law_465 : decode cL_law 465 = .ok (.iconst 1, 1) := by decide +kernel
theorem dL_law_466 : decode cL_law 466 = .ok (.iadd, 1) := by decide +kernel
theorem dL_law_467 : decode cL_law 467 = .ok (.iaload, 1) := by decide +kernel
theorem dL_law_468 : decode cL_law 468 = .ok (.aload_n 0, 1) := by decide +kernel
theorem dL_law_469 : decode cL_law 469 = .ok (.iload 4, 2) := by decide +kernel
theorem dL_law_471 : decode cL_law 471 = .ok (.iconst 2, 1) := by decide +kernel
theorem dL_law_472 : decode cL_law 472 = .ok (.iadd, 1) := by decide +kernel
theorem dL_law_473 : decode cL_law 473 = .ok (.iaload, 1) := by decide +kernel
theorem dL_law_474 : decode cL_law 474 = .ok (.aload_n 0, 1) := by decide +kernel
theorem dL_law_475 : decode cL_law 475 = .ok (.iload 4, 2) := by decide +kernel
theorem dL_law_477 : decode cL_law 477 = .ok (.iconst 3, 1) := by decide +kernel
theorem dL_law_478 : decode cL_law 478 = .ok (.iadd, 1) := by decide +kernel
theorem dL_law_479 : decode cL_law 479 = .ok (.iaload, 1) := by decide +kernel
theorem dL_law_480 : decode cL_law 480 = .ok (.invokevirtual 134, 3) := by decide +kernel
theorem dL_law_483 : decode cL_law 483 = .ok (.istore 6, 2) := by decide +kernel
theorem dL_law_485 : decode cL_law 485 = .ok (.aload_n 2, 1) := by decide +kernel
theorem dL_law_486 : decode cL_law 486 = .ok (.invokevirtual 118, 3) := by decide +kernel
theorem dL_law_489 : decode cL_law 489 = .ok (.iload 5, 2) := by decide +kernel
theorem dL_law_491 : decode cL_law 491 = .ok (.if_icmp .eq 5, 3) := by decide +kernel
theorem dL_law_494 : decode cL_law 494 = .ok (.iconst 0, 1) := by decide +kernel
theorem dL_law_495 : decode cL_law 495 = .ok (.ireturn, 1) := by decide +kernel
theorem dL_law_496 : decode cL_law 496 = .ok (.iload 5, 2) := by decide +kernel
theorem dL_law_498 : decode cL_law 498 = .ok (.ifCond .ne 15, 3) := by decide +kernel
theorem dL_law_501 : decode cL_law 501 = .ok (.aload_n 3, 1) := by decide +kernel
theorem dL_law_502 : decode cL_law 502 = .ok (.iconst 0, 1) := by decide +kernel
theorem dL_law_503 : decode cL_law 503 = .ok (.laload, 1) := by decide +kernel
theorem dL_law_504 : decode cL_law 504 = .ok (.iload 6, 2) := by decide +kernel
theorem dL_law_506 : decode cL_law 506 = .ok (.i2l, 1) := by decide +kernel
theorem dL_law_507 : decode cL_law 507 = .ok (.lcmp, 1) := by decide +kernel
theorem dL_law_508 : decode cL_law 508 = .ok (.ifCond .eq 5, 3) := by decide +kernel
theorem dL_law_511 : decode cL_law 511 = .ok (.iconst 0, 1) := by decide +kernel
theorem dL_law_512 : decode cL_law 512 = .ok (.ireturn, 1) := by decide +kernel
theorem dL_law_513 : decode cL_law 513 = .ok (.goto 1668, 3) := by decide +kernel
theorem dL_law_516 : decode cL_law 516 = .ok (.aload_n 1, 1) := by decide +kernel
theorem dL_law_517 : decode cL_law 517 = .ok (.aload_n 0, 1) := by decide +kernel
theorem dL_law_518 : decode cL_law 518 = .ok (.iload 4, 2) := by decide +kernel
theorem dL_law_520 : decode cL_law 520 = .ok (.iconst 1, 1) := by decide +kernel
theorem dL_law_521 : decode cL_law 521 = .ok (.iadd, 1) := by decide +kernel
theorem dL_law_522 : decode cL_law 522 = .ok (.iaload, 1) := by decide +kernel
theorem dL_law_523 : decode cL_law 523 = .ok (.aload_n 0, 1) := by decide +kernel
theorem dL_law_524 : decode cL_law 524 = .ok (.iload 4, 2) := by decide +kernel
theorem dL_law_526 : decode cL_law 526 = .ok (.iconst 2, 1) := by decide +kernel
theorem dL_law_527 : decode cL_law 527 = .ok (.iadd, 1) := by decide +kernel
theorem dL_law_528 : decode cL_law 528 = .ok (.iaload, 1) := by decide +kernel
theorem dL_law_529 : decode cL_law 529 = .ok (.aload_n 0, 1) := by decide +kernel
theorem dL_law_530 : decode cL_law 530 = .ok (.iload 4, 2) := by decide +kernel
theorem dL_law_532 : decode cL_law 532 = .ok (.iconst 3, 1) := by decide +kernel
theorem dL_law_533 : decode cL_law 533 = .ok (.iadd, 1) := by decide +kernel
theorem dL_law_534 : decode cL_law 534 = .ok (.iaload, 1) := by decide +kernel
theorem dL_law_535 : decode cL_law 535 = .ok (.aload_n 3, 1) := by decide +kernel
theorem dL_law_536 : decode cL_law 536 = .ok (.invokestatic 135, 3) := by decide +kernel
theorem dL_law_539 : decode cL_law 539 = .ok (.istore 5, 2) := by decide +kernel
theorem dL_law_541 : decode cL_law 541 = .ok (.aload_n 2, 1) := by decide +kernel
theorem dL_law_542 : decode cL_law 542 = .ok (.aload_n 0, 1) := by decide +kernel
theorem dL_law_543 : decode cL_law 543 = .ok (.iload 4, 2) := by decide +kernel
theorem dL_law_545 : decode cL_law 545 = .ok (.iconst 1, 1) := by decide +kernel
theorem dL_law_546 : decode cL_law 546 = .ok (.iadd, 1) := by decide +kernel
theorem dL_law_547 : decode cL_law 547 = .ok (.iaload, 1) := by decide +kernel
theorem dL_law_548 : decode cL_law 548 = .ok (.aload_n 0, 1) := by decide +kernel
theorem dL_law_549 : decode cL_law 549 = .ok (.iload 4, 2) := by decide +kernel
theorem dL_law_551 : decode cL_law 551 = .ok (.iconst 2, 1) := by decide +kernel
theorem dL_law_552 : decode cL_law 552 = .ok (.iadd, 1) := by decide +kernel
theorem dL_law_553 : decode cL_law 553 = .ok (.iaload, 1) := by decide +kernel
theorem dL_law_554 : decode cL_law 554 = .ok (.aload_n 0, 1) := by decide +kernel
theorem dL_law_555 : decode cL_law 555 = .ok (.iload 4, 2) := by decide +kernel
theorem dL_law_557 : decode cL_law 557 = .ok (.iconst 3, 1) := by decide +kernel
theorem dL_law_558 : decode cL_law 558 = .ok (.iadd, 1) := by decide +kernel
theorem dL_law_559 : decode cL_law 559 = .ok (.iaload, 1) := by decide +kernel
theorem dL_law_560 : decode cL_law 560 = .ok (.invokevirtual 137, 3) := by decide +kernel
theorem dL_law_563 : decode cL_law 563 = .ok (.istore 6, 2) := by decide +kernel
theorem dL_law_565 : decode cL_law 565 = .ok (.aload_n 2, 1) := by decide +kernel
theorem dL_law_566 : decode cL_law 566 = .ok (.invokevirtual 118, 3) := by decide +kernel
theorem dL_law_569 : decode cL_law 569 = .ok (.iload 5, 2) := by decide +kernel
theorem dL_law_571 : decode cL_law 571 = .ok (.if_icmp .eq 5, 3) := by decide +kernel
theorem dL_law_574 : decode cL_law 574 = .ok (.iconst 0, 1) := by decide +kernel
theorem dL_law_575 : decode cL_law 575 = .ok (.ireturn, 1) := by decide +kernel
theorem dL_law_576 : decode cL_law 576 = .ok (.iload 5, 2) := by decide +kernel
theorem dL_law_578 : decode cL_law 578 = .ok (.ifCond .ne 15, 3) := by decide +kernel
theorem dL_law_581 : decode cL_law 581 = .ok (.aload_n 3, 1) := by decide +kernel
theorem dL_law_582 : decode cL_law 582 = .ok (.iconst 0, 1) := by decide +kernel
theorem dL_law_583 : decode cL_law 583 = .ok (.laload, 1) := by decide +kernel
theorem dL_law_584 : decode cL_law 584 = .ok (.iload 6, 2) := by decide +kernel
theorem dL_law_586 : decode cL_law 586 = .ok (.i2l, 1) := by decide +kernel
theorem dL_law_587 : decode cL_law 587 = .ok (.lcmp, 1) := by decide +kernel
theorem dL_law_588 : decode cL_law 588 = .ok (.ifCond .eq 5, 3) := by decide +kernel
theorem dL_law_591 : decode cL_law 591 = .ok (.iconst 0, 1) := by decide +kernel
theorem dL_law_592 : decode cL_law 592 = .ok (.ireturn, 1) := by decide +kernel
theorem dL_law_593 : decode cL_law 593 = .ok (.goto 1588, 3) := by decide +kernel
theorem dL_law_596 : decode cL_law 596 = .ok (.aload_n 1, 1) := by decide +kernel
theorem dL_law_597 : decode cL_law 597 = .ok (.aload_n 0, 1) := by decide +kernel
theorem dL_law_598 : decode cL_law 598 = .ok (.iload 4, 2) := by decide +kernel
theorem dL_law_600 : decode cL_law 600 = .ok (.iconst 1, 1) := by decide +kernel
theorem dL_law_601 : decode cL_law 601 = .ok (.iadd, 1) := by decide +kernel
theorem dL_law_602 : decode cL_law 602 = .ok (.iaload, 1) := by decide +kernel
theorem dL_law_603 : decode cL_law 603 = .ok (.aload_n 0, 1) := by decide +kernel
theorem dL_law_604 : decode cL_law 604 = .ok (.iload 4, 2) := by decide +kernel
theorem dL_law_606 : decode cL_law 606 = .ok (.iconst 2, 1) := by decide +kernel
theorem dL_law_607 : decode cL_law 607 = .ok (.iadd, 1) := by decide +kernel
theorem dL_law_608 : decode cL_law 608 = .ok (.iaload, 1) := by decide +kernel
theorem dL_law_609 : decode cL_law 609 = .ok (.aload_n 0, 1) := by decide +kernel
theorem dL_law_610 : decode cL_law 610 = .ok (.iload 4, 2) := by decide +kernel
theorem dL_law_612 : decode cL_law 612 = .ok (.iconst 3, 1) := by decide +kernel
theorem dL_law_613 : decode cL_law 613 = .ok (.iadd, 1) := by decide +kernel
theorem dL_law_614 : decode cL_law 614 = .ok (.iaload, 1) := by decide +kernel
theorem dL_law_615 : decode cL_law 615 = .ok (.aload_n 0, 1) := by decide +kernel
theorem dL_law_616 : decode cL_law 616 = .ok (.iload 4, 2) := by decide +kernel
theorem dL_law_618 : decode cL_law 618 = .ok (.iconst 4, 1) := by decide +kernel
theorem dL_law_619 : decode cL_law 619 = .ok (.iadd, 1) := by decide +kernel
theorem dL_law_620 : decode cL_law 620 = .ok (.iaload, 1) := by decide +kernel
theorem dL_law_621 : decode cL_law 621 = .ok (.aload_n 3, 1) := by decide +kernel
theorem dL_law_622 : decode cL_law 622 = .ok (.invokestatic 138, 3) := by decide +kernel
theorem dL_law_625 : decode cL_law 625 = .ok (.istore 5, 2) := by decide +kernel
theorem dL_law_627 : decode cL_law 627 = .ok (.aload_n 2, 1) := by decide +kernel
theorem dL_law_628 : decode cL_law 628 = .ok (.aload_n 0, 1) := by decide +kernel
theorem dL_law_629 : decode cL_law 629 = .ok (.iload 4, 2) := by decide +kernel
theorem dL_law_631 : decode cL_law 631 = .ok (.iconst 1, 1) := by decide +kernel
theorem dL_law_632 : decode cL_law 632 = .ok (.iadd, 1) := by decide +kernel
theorem dL_law_633 : decode cL_law 633 = .ok (.iaload, 1) := by decide +kernel
theorem dL_law_634 : decode cL_law 634 = .ok (.aload_n 0, 1) := by decide +kernel
theorem dL_law_635 : decode cL_law 635 = .ok (.iload 4, 2) := by decide +kernel
theorem dL_law_637 : decode cL_law 637 = .ok (.iconst 2, 1) := by decide +kernel
theorem dL_law_638 : decode cL_law 638 = .ok (.iadd, 1) := by decide +kernel
theorem dL_law_639 : decode cL_law 639 = .ok (.iaload, 1) := by decide +kernel
theorem dL_law_640 : decode cL_law 640 = .ok (.aload_n 0, 1) := by decide +kernel
theorem dL_law_641 : decode cL_law 641 = .ok (.iload 4, 2) := by decide +kernel
theorem dL_law_643 : decode cL_law 643 = .ok (.iconst 3, 1) := by decide +kernel
theorem dL_law_644 : decode cL_law 644 = .ok (.iadd, 1) := by decide +kernel
theorem dL_law_645 : decode cL_law 645 = .ok (.iaload, 1) := by decide +kernel
theorem dL_law_646 : decode cL_law 646 = .ok (.aload_n 0, 1) := by decide +kernel
theorem dL_law_647 : decode cL_law 647 = .ok (.iload 4, 2) := by decide +kernel
theorem dL_law_649 : decode cL_law 649 = .ok (.iconst 4, 1) := by decide +kernel
theorem dL_law_650 : decode cL_law 650 = .ok (.iadd, 1) := by decide +kernel
theorem dL_law_651 : decode cL_law 651 = .ok (.iaload, 1) := by decide +kernel
theorem dL_law_652 : decode cL_law 652 = .ok (.invokevirtual 141, 3) := by decide +kernel
theorem dL_law_655 : decode cL_law 655 = .ok (.istore 6, 2) := by decide +kernel
theorem dL_law_657 : decode cL_law 657 = .ok (.aload_n 2, 1) := by decide +kernel
theorem dL_law_658 : decode cL_law 658 = .ok (.invokevirtual 118, 3) := by decide +kernel
theorem dL_law_661 : decode cL_law 661 = .ok (.iload 5, 2) := by decide +kernel
theorem dL_law_663 : decode cL_law 663 = .ok (.if_icmp .eq 5, 3) := by decide +kernel
theorem dL_law_666 : decode cL_law 666 = .ok (.iconst 0, 1) := by decide +kernel
theorem dL_law_667 : decode cL_law 667 = .ok (.ireturn, 1) := by decide +kernel
theorem dL_law_668 : decode cL_law 668 = .ok (.iload 5, 2) := by decide +kernel
theorem dL_law_670 : decode cL_law 670 = .ok (.ifCond .ne 15, 3) := by decide +kernel
theorem dL_law_673 : decode cL_law 673 = .ok (.aload_n 3, 1) := by decide +kernel
theorem dL_law_674 : decode cL_law 674 = .ok (.iconst 0, 1) := by decide +kernel
theorem dL_law_675 : decode cL_law 675 = .ok (.laload, 1) := by decide +kernel
theorem dL_law_676 : decode cL_law 676 = .ok (.iload 6, 2) := by decide +kernel
theorem dL_law_678 : decode cL_law 678 = .ok (.i2l, 1) := by decide +kernel
theorem dL_law_679 : decode cL_law 679 = .ok (.lcmp, 1) := by decide +kernel
theorem dL_law_680 : decode cL_law 680 = .ok (.ifCond .eq 5, 3) := by decide +kernel
theorem dL_law_683 : decode cL_law 683 = .ok (.iconst 0, 1) := by decide +kernel
theorem dL_law_684 : decode cL_law 684 = .ok (.ireturn, 1) := by decide +kernel
theorem dL_law_685 : decode cL_law 685 = .ok (.goto 1496, 3) := by decide +kernel
theorem dL_law_688 : decode cL_law 688 = .ok (.aload_n 1, 1) := by decide +kernel
theorem dL_law_689 : decode cL_law 689 = .ok (.aload_n 0, 1) := by decide +kernel
theorem dL_law_690 : decode cL_law 690 = .ok (.iload 4, 2) := by decide +kernel
theorem dL_law_692 : decode cL_law 692 = .ok (.iconst 1, 1) := by decide +kernel
theorem dL_law_693 : decode cL_law 693 = .ok (.iadd, 1) := by decide +kernel
theorem dL_law_694 : decode cL_law 694 = .ok (.iaload, 1) := by decide +kernel
theorem dL_law_695 : decode cL_law 695 = .ok (.aload_n 0, 1) := by decide +kernel
theorem dL_law_696 : decode cL_law 696 = .ok (.iload 4, 2) := by decide +kernel
theorem dL_law_698 : decode cL_law 698 = .ok (.iconst 2, 1) := by decide +kernel
theorem dL_law_699 : decode cL_law 699 = .ok (.iadd, 1) := by decide +kernel
theorem dL_law_700 : decode cL_law 700 = .ok (.iaload, 1) := by decide +kernel
theorem dL_law_701 : decode cL_law 701 = .ok (.aload_n 3, 1) := by decide +kernel
theorem dL_law_702 : decode cL_law 702 = .ok (.invokestatic 142, 3) := by decide +kernel
theorem dL_law_705 : decode cL_law 705 = .ok (.istore 5, 2) := by decide +kernel
theorem dL_law_707 : decode cL_law 707 = .ok (.aload_n 2, 1) := by decide +kernel
theorem dL_law_708 : decode cL_law 708 = .ok (.aload_n 0, 1) := by decide +kernel
theorem dL_law_709 : decode cL_law 709 = .ok (.iload 4, 2) := by decide +kernel
theorem dL_law_711 : decode cL_law 711 = .ok (.iconst 1, 1) := by decide +kernel
theorem dL_law_712 : decode cL_law 712 = .ok (.iadd, 1) := by decide +kernel
theorem dL_law_713 : decode cL_law 713 = .ok (.iaload, 1) := by decide +kernel
theorem dL_law_714 : decode cL_law 714 = .ok (.aload_n 0, 1) := by decide +kernel
theorem dL_law_715 : decode cL_law 715 = .ok (.iload 4, 2) := by decide +kernel
theorem dL_law_717 : decode cL_law 717 = .ok (.iconst 2, 1) := by decide +kernel
theorem dL_law_718 : decode cL_law 718 = .ok (.iadd, 1) := by decide +kernel
theorem dL_law_719 : decode cL_law 719 = .ok (.iaload, 1) := by decide +kernel
theorem dL_law_720 : decode cL_law 720 = .ok (.invokevirtual 144, 3) := by decide +kernel
theorem dL_law_723 : decode cL_law 723 = .ok (.istore 6, 2) := by decide +kernel
theorem dL_law_725 : decode cL_law 725 = .ok (.aload_n 2, 1) := by decide +kernel
theorem dL_law_726 : decode cL_law 726 = .ok (.invokevirtual 118, 3) := by decide +kernel
theorem dL_law_729 : decode cL_law 729 = .ok (.iload 5, 2) := by decide +kernel
theorem dL_law_731 : decode cL_law 731 = .ok (.if_icmp .eq 5, 3) := by decide +kernel
theorem dL_law_734 : decode cL_law 734 = .ok (.iconst 0, 1) := by decide +kernel
theorem dL_law_735 : decode cL_law 735 = .ok (.ireturn, 1) := by decide +kernel
theorem dL_law_736 : decode cL_law 736 = .ok (.iload 5, 2) := by decide +kernel
theorem dL_law_738 : decode cL_law 738 = .ok (.ifCond .ne 15, 3) := by decide +kernel
theorem dL_law_741 : decode cL_law 741 = .ok (.aload_n 3, 1) := by decide +kernel
theorem dL_law_742 : decode cL_law 742 = .ok (.iconst 0, 1) := by decide +kernel
theorem dL_law_743 : decode cL_law 743 = .ok (.laload, 1) := by decide +kernel
theorem dL_law_744 : decode cL_law 744 = .ok (.iload 6, 2) := by decide +kernel
theorem dL_law_746 : decode cL_law 746 = .ok (.i2l, 1) := by decide +kernel
theorem dL_law_747 : decode cL_law 747 = .ok (.lcmp, 1) := by decide +kernel
theorem dL_law_748 : decode cL_law 748 = .ok (.ifCond .eq 5, 3) := by decide +kernel
theorem dL_law_751 : decode cL_law 751 = .ok (.iconst 0, 1) := by decide +kernel
theorem dL_law_752 : decode cL_law 752 = .ok (.ireturn, 1) := by decide +kernel
theorem dL_law_753 : decode cL_law 753 = .ok (.goto 1428, 3) := by decide +kernel
theorem dL_law_756 : decode cL_law 756 = .ok (.aload_n 1, 1) := by decide +kernel
theorem dL_law_757 : decode cL_law 757 = .ok (.aload_n 0, 1) := by decide +kernel
theorem dL_law_758 : decode cL_law 758 = .ok (.iload 4, 2) := by decide +kernel
theorem dL_law_760 : decode cL_law 760 = .ok (.iconst 1, 1) := by decide +kernel
theorem dL_law_761 : decode cL_law 761 = .ok (.iadd, 1) := by decide +kernel
theorem dL_law_762 : decode cL_law 762 = .ok (.iaload, 1) := by decide +kernel
theorem dL_law_763 : decode cL_law 763 = .ok (.aload_n 0, 1) := by decide +kernel
theorem dL_law_764 : decode cL_law 764 = .ok (.iload 4, 2) := by decide +kernel
theorem dL_law_766 : decode cL_law 766 = .ok (.iconst 2, 1) := by decide +kernel
theorem dL_law_767 : decode cL_law 767 = .ok (.iadd, 1) := by decide +kernel
theorem dL_law_768 : decode cL_law 768 = .ok (.iaload, 1) := by decide +kernel
theorem dL_law_769 : decode cL_law 769 = .ok (.aload_n 3, 1) := by decide +kernel
theorem dL_law_770 : decode cL_law 770 = .ok (.invokestatic 145, 3) := by decide +kernel
theorem dL_law_773 : decode cL_law 773 = .ok (.istore 5, 2) := by decide +kernel
theorem dL_law_775 : decode cL_law 775 = .ok (.aload_n 2, 1) := by decide +kernel
theorem dL_law_776 : decode cL_law 776 = .ok (.aload_n 0, 1) := by decide +kernel
theorem dL_law_777 : decode cL_law 777 = .ok (.iload 4, 2) := by decide +kernel
theorem dL_law_779 : decode cL_law 779 = .ok (.iconst 1, 1) := by decide +kernel
theorem dL_law_780 : decode cL_law 780 = .ok (.iadd, 1) := by decide +kernel
theorem dL_law_781 : decode cL_law 781 = .ok (.iaload, 1) := by decide +kernel
theorem dL_law_782 : decode cL_law 782 = .ok (.aload_n 0, 1) := by decide +kernel
theorem dL_law_783 : decode cL_law 783 = .ok (.iload 4, 2) := by decide +kernel
theorem dL_law_785 : decode cL_law 785 = .ok (.iconst 2, 1) := by decide +kernel
theorem dL_law_786 : decode cL_law 786 = .ok (.iadd, 1) := by decide +kernel
theorem dL_law_787 : decode cL_law 787 = .ok (.iaload, 1) := by decide +kernel
theorem dL_law_788 : decode cL_law 788 = .ok (.invokevirtual 147, 3) := by decide +kernel
theorem dL_law_791 : decode cL_law 791 = .ok (.istore 6, 2) := by decide +kernel
theorem dL_law_793 : decode cL_law 793 = .ok (.aload_n 2, 1) := by decide +kernel
theorem dL_law_794 : decode cL_law 794 = .ok (.invokevirtual 118, 3) := by decide +kernel
theorem dL_law_797 : decode cL_law 797 = .ok (.iload 5, 2) := by decide +kernel
theorem dL_law_799 : decode cL_law 799 = .ok (.if_icmp .eq 5, 3) := by decide +kernel
theorem dL_law_802 : decode cL_law 802 = .ok (.iconst 0, 1) := by decide +kernel
theorem dL_law_803 : decode cL_law 803 = .ok (.ireturn, 1) := by decide +kernel
theorem dL_law_804 : decode cL_law 804 = .ok (.iload 5, 2) := by decide +kernel
theorem dL_law_806 : decode cL_law 806 = .ok (.ifCond .ne 15, 3) := by decide +kernel
theorem dL_law_809 : decode cL_law 809 = .ok (.aload_n 3, 1) := by decide +kernel
theorem dL_law_810 : decode cL_law 810 = .ok (.iconst 0, 1) := by decide +kernel
theorem dL_law_811 : decode cL_law 811 = .ok (.laload, 1) := by decide +kernel
theorem dL_law_812 : decode cL_law 812 = .ok (.iload 6, 2) := by decide +kernel
theorem dL_law_814 : decode cL_law 814 = .ok (.i2l, 1) := by decide +kernel
theorem dL_law_815 : decode cL_law 815 = .ok (.lcmp, 1) := by decide +kernel
theorem dL_law_816 : decode cL_law 816 = .ok (.ifCond .eq 5, 3) := by decide +kernel
theorem dL_law_819 : decode cL_law 819 = .ok (.iconst 0, 1) := by decide +kernel
theorem dL_law_820 : decode cL_law 820 = .ok (.ireturn, 1) := by decide +kernel
theorem dL_law_821 : decode cL_law 821 = .ok (.goto 1360, 3) := by decide +kernel
theorem dL_law_824 : decode cL_law 824 = .ok (.aload_n 1, 1) := by decide +kernel
theorem dL_law_825 : decode cL_law 825 = .ok (.aload_n 0, 1) := by decide +kernel
theorem dL_law_826 : decode cL_law 826 = .ok (.iload 4, 2) := by decide +kernel
theorem dL_law_828 : decode cL_law 828 = .ok (.iconst 1, 1) := by decide +kernel
theorem dL_law_829 : decode cL_law 829 = .ok (.iadd, 1) := by decide +kernel
theorem dL_law_830 : decode cL_law 830 = .ok (.iaload, 1) := by decide +kernel
theorem dL_law_831 : decode cL_law 831 = .ok (.aload_n 0, 1) := by decide +kernel
theorem dL_law_832 : decode cL_law 832 = .ok (.iload 4, 2) := by decide +kernel
theorem dL_law_834 : decode cL_law 834 = .ok (.iconst 2, 1) := by decide +kernel
theorem dL_law_835 : decode cL_law 835 = .ok (.iadd, 1) := by decide +kernel
theorem dL_law_836 : decode cL_law 836 = .ok (.iaload, 1) := by decide +kernel
theorem dL_law_837 : decode cL_law 837 = .ok (.aload_n 0, 1) := by decide +kernel
theorem dL_law_838 : decode cL_law 838 = .ok (.iload 4, 2) := by decide +kernel
theorem dL_law_840 : decode cL_law 840 = .ok (.iconst 3, 1) := by decide +kernel
theorem dL_law_841 : decode cL_law 841 = .ok (.iadd, 1) := by decide +kernel
theorem dL_law_842 : decode cL_law 842 = .ok (.iaload, 1) := by decide +kernel
theorem dL_law_843 : decode cL_law 843 = .ok (.aload_n 0, 1) := by decide +kernel
theorem dL_law_844 : decode cL_law 844 = .ok (.iload 4, 2) := by decide +kernel
theorem dL_law_846 : decode cL_law 846 = .ok (.iconst 4, 1) := by decide +kernel
theorem dL_law_847 : decode cL_law 847 = .ok (.iadd, 1) := by decide +kernel
theorem dL_law_848 : decode cL_law 848 = .ok (.iaload, 1) := by decide +kernel
theorem dL_law_849 : decode cL_law 849 = .ok (.aload_n 0, 1) := by decide +kernel
theorem dL_law_850 : decode cL_law 850 = .ok (.iload 4, 2) := by decide +kernel
theorem dL_law_852 : decode cL_law 852 = .ok (.iconst 5, 1) := by decide +kernel
theorem dL_law_853 : decode cL_law 853 = .ok (.iadd, 1) := by decide +kernel
theorem dL_law_854 : decode cL_law 854 = .ok (.iaload, 1) := by decide +kernel
theorem dL_law_855 : decode cL_law 855 = .ok (.aload_n 3, 1) := by decide +kernel
theorem dL_law_856 : decode cL_law 856 = .ok (.invokestatic 148, 3) := by decide +kernel
theorem dL_law_859 : decode cL_law 859 = .ok (.istore 5, 2) := by decide +kernel
theorem dL_law_861 : decode cL_law 861 = .ok (.aload_n 2, 1) := by decide +kernel
theorem dL_law_862 : decode cL_law 862 = .ok (.aload_n 0, 1) := by decide +kernel
theorem dL_law_863 : decode cL_law 863 = .ok (.iload 4, 2) := by decide +kernel
theorem dL_law_865 : decode cL_law 865 = .ok (.iconst 1, 1) := by decide +kernel
theorem dL_law_866 : decode cL_law 866 = .ok (.iadd, 1) := by decide +kernel
theorem dL_law_867 : decode cL_law 867 = .ok (.iaload, 1) := by decide +kernel
theorem dL_law_868 : decode cL_law 868 = .ok (.aload_n 0, 1) := by decide +kernel
theorem dL_law_869 : decode cL_law 869 = .ok (.iload 4, 2) := by decide +kernel
theorem dL_law_871 : decode cL_law 871 = .ok (.iconst 2, 1) := by decide +kernel
theorem dL_law_872 : decode cL_law 872 = .ok (.iadd, 1) := by decide +kernel
theorem dL_law_873 : decode cL_law 873 = .ok (.iaload, 1) := by decide +kernel
theorem dL_law_874 : decode cL_law 874 = .ok (.aload_n 0, 1) := by decide +kernel
theorem dL_law_875 : decode cL_law 875 = .ok (.iload 4, 2) := by decide +kernel
theorem dL_law_877 : decode cL_law 877 = .ok (.iconst 3, 1) := by decide +kernel
theorem dL_law_878 : decode cL_law 878 = .ok (.iadd, 1) := by decide +kernel
theorem dL_law_879 : decode cL_law 879 = .ok (.iaload, 1) := by decide +kernel
theorem dL_law_880 : decode cL_law 880 = .ok (.aload_n 0, 1) := by decide +kernel
theorem dL_law_881 : decode cL_law 881 = .ok (.iload 4, 2) := by decide +kernel
theorem dL_law_883 : decode cL_law 883 = .ok (.iconst 4, 1) := by decide +kernel
theorem dL_law_884 : decode cL_law 884 = .ok (.iadd, 1) := by decide +kernel
theorem dL_law_885 : decode cL_law 885 = .ok (.iaload, 1) := by decide +kernel
theorem dL_law_886 : decode cL_law 886 = .ok (.aload_n 0, 1) := by decide +kernel
theorem dL_law_887 : decode cL_law 887 = .ok (.iload 4, 2) := by decide +kernel
theorem dL_law_889 : decode cL_law 889 = .ok (.iconst 5, 1) := by decide +kernel
theorem dL_law_890 : decode cL_law 890 = .ok (.iadd, 1) := by decide +kernel
theorem dL_law_891 : decode cL_law 891 = .ok (.iaload, 1) := by decide +kernel
theorem dL_law_892 : decode cL_law 892 = .ok (.invokevirtual 151, 3) := by decide +kernel
theorem dL_law_895 : decode cL_law 895 = .ok (.istore 6, 2) := by decide +kernel
theorem dL_law_897 : decode cL_law 897 = .ok (.aload_n 2, 1) := by decide +kernel
theorem dL_law_898 : decode cL_law 898 = .ok (.invokevirtual 118, 3) := by decide +kernel
theorem dL_law_901 : decode cL_law 901 = .ok (.iload 5, 2) := by decide +kernel
theorem dL_law_903 : decode cL_law 903 = .ok (.if_icmp .eq 5, 3) := by decide +kernel
theorem dL_law_906 : decode cL_law 906 = .ok (.iconst 0, 1) := by decide +kernel
theorem dL_law_907 : decode cL_law 907 = .ok (.ireturn, 1) := by decide +kernel
theorem dL_law_908 : decode cL_law 908 = .ok (.iload 5, 2) := by decide +kernel
theorem dL_law_910 : decode cL_law 910 = .ok (.ifCond .ne 15, 3) := by decide +kernel
theorem dL_law_913 : decode cL_law 913 = .ok (.aload_n 3, 1) := by decide +kernel
theorem dL_law_914 : decode cL_law 914 = .ok (.iconst 0, 1) := by decide +kernel
theorem dL_law_915 : decode cL_law 915 = .ok (.laload, 1) := by decide +kernel
theorem dL_law_916 : decode cL_law 916 = .ok (.iload 6, 2) := by decide +kernel
theorem dL_law_918 : decode cL_law 918 = .ok (.i2l, 1) := by decide +kernel
theorem dL_law_919 : decode cL_law 919 = .ok (.lcmp, 1) := by decide +kernel
theorem dL_law_920 : decode cL_law 920 = .ok (.ifCond .eq 5, 3) := by decide +kernel
theorem dL_law_923 : decode cL_law 923 = .ok (.iconst 0, 1) := by decide +kernel
theorem dL_law_924 : decode cL_law 924 = .ok (.ireturn, 1) := by decide +kernel
theorem dL_law_925 : decode cL_law 925 = .ok (.goto 1256, 3) := by decide +kernel
theorem dL_law_928 : decode cL_law 928 = .ok (.aload_n 1, 1) := by decide +kernel
theorem dL_law_929 : decode cL_law 929 = .ok (.aload_n 0, 1) := by decide +kernel
theorem dL_law_930 : decode cL_law 930 = .ok (.iload 4, 2) := by decide +kernel
theorem dL_law_932 : decode cL_law 932 = .ok (.iconst 1, 1) := by decide +kernel
theorem dL_law_933 : decode cL_law 933 = .ok (.iadd, 1) := by decide +kernel
theorem dL_law_934 : decode cL_law 934 = .ok (.iaload, 1) := by decide +kernel
theorem dL_law_935 : decode cL_law 935 = .ok (.aload_n 0, 1) := by decide +kernel
theorem dL_law_936 : decode cL_law 936 = .ok (.iload 4, 2) := by decide +kernel
theorem dL_law_938 : decode cL_law 938 = .ok (.iconst 2, 1) := by decide +kernel
theorem dL_law_939 : decode cL_law 939 = .ok (.iadd, 1) := by decide +kernel
theorem dL_law_940 : decode cL_law 940 = .ok (.iaload, 1) := by decide +kernel
theorem dL_law_941 : decode cL_law 941 = .ok (.aload_n 0, 1) := by decide +kernel
theorem dL_law_942 : decode cL_law 942 = .ok (.iload 4, 2) := by decide +kernel
theorem dL_law_944 : decode cL_law 944 = .ok (.iconst 3, 1) := by decide +kernel
theorem dL_law_945 : decode cL_law 945 = .ok (.iadd, 1) := by decide +kernel
theorem dL_law_946 : decode cL_law 946 = .ok (.iaload, 1) := by decide +kernel
theorem dL_law_947 : decode cL_law 947 = .ok (.aload_n 3, 1) := by decide +kernel
theorem dL_law_948 : decode cL_law 948 = .ok (.invokestatic 152, 3) := by decide +kernel
theorem dL_law_951 : decode cL_law 951 = .ok (.istore 5, 2) := by decide +kernel
theorem dL_law_953 : decode cL_law 953 = .ok (.aload_n 2, 1) := by decide +kernel
theorem dL_law_954 : decode cL_law 954 = .ok (.aload_n 0, 1) := by decide +kernel
theorem dL_law_955 : decode cL_law 955 = .ok (.iload 4, 2) := by decide +kernel
theorem dL_law_957 : decode cL_law 957 = .ok (.iconst 1, 1) := by decide +kernel
theorem dL_law_958 : decode cL_law 958 = .ok (.iadd, 1) := by decide +kernel
theorem dL_law_959 : decode cL_law 959 = .ok (.iaload, 1) := by decide +kernel
theorem dL_law_960 : decode cL_law 960 = .ok (.aload_n 0, 1) := by decide +kernel
theorem dL_law_961 : decode cL_law 961 = .ok (.iload 4, 2) := by decide +kernel
theorem dL_law_963 : decode cL_law 963 = .ok (.iconst 2, 1) := by decide +kernel
theorem dL_law_964 : decode cL_law 964 = .ok (.iadd, 1) := by decide +kernel
theorem dL_law_965 : decode cL_law 965 = .ok (.iaload, 1) := by decide +kernel
theorem dL_law_966 : decode cL_law 966 = .ok (.aload_n 0, 1) := by decide +kernel
theorem dL_law_967 : decode cL_law 967 = .ok (.iload 4, 2) := by decide +kernel
theorem dL_law_969 : decode cL_law 969 = .ok (.iconst 3, 1) := by decide +kernel
theorem dL_law_970 : decode cL_law 970 = .ok (.iadd, 1) := by decide +kernel
theorem dL_law_971 : decode cL_law 971 = .ok (.iaload, 1) := by decide +kernel
theorem dL_law_972 : decode cL_law 972 = .ok (.invokevirtual 154, 3) := by decide +kernel
theorem dL_law_975 : decode cL_law 975 = .ok (.istore 6, 2) := by decide +kernel
theorem dL_law_977 : decode cL_law 977 = .ok (.aload_n 2, 1) := by decide +kernel
theorem dL_law_978 : decode cL_law 978 = .ok (.invokevirtual 118, 3) := by decide +kernel
theorem dL_law_981 : decode cL_law 981 = .ok (.iload 5, 2) := by decide +kernel
theorem dL_law_983 : decode cL_law 983 = .ok (.if_icmp .eq 5, 3) := by decide +kernel
theorem dL_law_986 : decode cL_law 986 = .ok (.iconst 0, 1) := by decide +kernel
theorem dL_law_987 : decode cL_law 987 = .ok (.ireturn, 1) := by decide +kernel
theorem dL_law_988 : decode cL_law 988 = .ok (.iload 5, 2) := by decide +kernel
theorem dL_law_990 : decode cL_law 990 = .ok (.ifCond .ne 15, 3) := by decide +kernel
theorem dL_law_993 : decode cL_law 993 = .ok (.aload_n 3, 1) := by decide +kernel
theorem dL_law_994 : decode cL_law 994 = .ok (.iconst 0, 1) := by decide +kernel
theorem dL_law_995 : decode cL_law 995 = .ok (.laload, 1) := by decide +kernel
theorem dL_law_996 : decode cL_law 996 = .ok (.iload 6, 2) := by decide +kernel
theorem dL_law_998 : decode cL_law 998 = .ok (.i2l, 1) := by decide +kernel
theorem dL_law_999 : decode cL_law 999 = .ok (.lcmp, 1) := by decide +kernel
theorem dL_law_1000 : decode cL_law 1000 = .ok (.ifCond .eq 5, 3) := by decide +kernel
theorem dL_law_1003 : decode cL_law 1003 = .ok (.iconst 0, 1) := by decide +kernel
theorem dL_law_1004 : decode cL_law 1004 = .ok (.ireturn, 1) := by decide +kernel
theorem dL_law_1005 : decode cL_law 1005 = .ok (.goto 1176, 3) := by decide +kernel
theorem dL_law_1008 : decode cL_law 1008 = .ok (.aload_n 1, 1) := by decide +kernel
theorem dL_law_1009 : decode cL_law 1009 = .ok (.aload_n 0, 1) := by decide +kernel
theorem dL_law_1010 : decode cL_law 1010 = .ok (.iload 4, 2) := by decide +kernel
theorem dL_law_1012 : decode cL_law 1012 = .ok (.iconst 1, 1) := by decide +kernel
theorem dL_law_1013 : decode cL_law 1013 = .ok (.iadd, 1) := by decide +kernel
theorem dL_law_1014 : decode cL_law 1014 = .ok (.iaload, 1) := by decide +kernel
theorem dL_law_1015 : decode cL_law 1015 = .ok (.aload_n 0, 1) := by decide +kernel
theorem dL_law_1016 : decode cL_law 1016 = .ok (.iload 4, 2) := by decide +kernel
theorem dL_law_1018 : decode cL_law 1018 = .ok (.iconst 2, 1) := by decide +kernel
theorem dL_law_1019 : decode cL_law 1019 = .ok (.iadd, 1) := by decide +kernel
theorem dL_law_1020 : decode cL_law 1020 = .ok (.iaload, 1) := by decide +kernel
theorem dL_law_1021 : decode cL_law 1021 = .ok (.aload_n 3, 1) := by decide +kernel
theorem dL_law_1022 : decode cL_law 1022 = .ok (.invokestatic 155, 3) := by decide +kernel
theorem dL_law_1025 : decode cL_law 1025 = .ok (.istore 5, 2) := by decide +kernel
theorem dL_law_1027 : decode cL_law 1027 = .ok (.aload_n 2, 1) := by decide +kernel
theorem dL_law_1028 : decode cL_law 1028 = .ok (.aload_n 0, 1) := by decide +kernel
theorem dL_law_1029 : decode cL_law 1029 = .ok (.iload 4, 2) := by decide +kernel
theorem dL_law_1031 : decode cL_law 1031 = .ok (.iconst 1, 1) := by decide +kernel
theorem dL_law_1032 : decode cL_law 1032 = .ok (.iadd, 1) := by decide +kernel
theorem dL_law_1033 : decode cL_law 1033 = .ok (.iaload, 1) := by decide +kernel
theorem dL_law_1034 : decode cL_law 1034 = .ok (.aload_n 0, 1) := by decide +kernel
theorem dL_law_1035 : decode cL_law 1035 = .ok (.iload 4, 2) := by decide +kernel
theorem dL_law_1037 : decode cL_law 1037 = .ok (.iconst 2, 1) := by decide +kernel
theorem dL_law_1038 : decode cL_law 1038 = .ok (.iadd, 1) := by decide +kernel
theorem dL_law_1039 : decode cL_law 1039 = .ok (.iaload, 1) := by decide +kernel
theorem dL_law_1040 : decode cL_law 1040 = .ok (.invokevirtual 157, 3) := by decide +kernel
theorem dL_law_1043 : decode cL_law 1043 = .ok (.istore 6, 2) := by decide +kernel
theorem dL_law_1045 : decode cL_law 1045 = .ok (.aload_n 2, 1) := by decide +kernel
theorem dL_law_1046 : decode cL_law 1046 = .ok (.invokevirtual 118, 3) := by decide +kernel
theorem dL_law_1049 : decode cL_law 1049 = .ok (.iload 5, 2) := by decide +kernel
theorem dL_law_1051 : decode cL_law 1051 = .ok (.if_icmp .eq 5, 3) := by decide +kernel
theorem dL_law_1054 : decode cL_law 1054 = .ok (.iconst 0, 1) := by decide +kernel
theorem dL_law_1055 : decode cL_law 1055 = .ok (.ireturn, 1) := by decide +kernel
theorem dL_law_1056 : decode cL_law 1056 = .ok (.iload 5, 2) := by decide +kernel
theorem dL_law_1058 : decode cL_law 1058 = .ok (.ifCond .ne 15, 3) := by decide +kernel
theorem dL_law_1061 : decode cL_law 1061 = .ok (.aload_n 3, 1) := by decide +kernel
theorem dL_law_1062 : decode cL_law 1062 = .ok (.iconst 0, 1) := by decide +kernel
theorem dL_law_1063 : decode cL_law 1063 = .ok (.laload, 1) := by decide +kernel
theorem dL_law_1064 : decode cL_law 1064 = .ok (.iload 6, 2) := by decide +kernel
theorem dL_law_1066 : decode cL_law 1066 = .ok (.i2l, 1) := by decide +kernel
theorem dL_law_1067 : decode cL_law 1067 = .ok (.lcmp, 1) := by decide +kernel
theorem dL_law_1068 : decode cL_law 1068 = .ok (.ifCond .eq 5, 3) := by decide +kernel
theorem dL_law_1071 : decode cL_law 1071 = .ok (.iconst 0, 1) := by decide +kernel
theorem dL_law_1072 : decode cL_law 1072 = .ok (.ireturn, 1) := by decide +kernel
theorem dL_law_1073 : decode cL_law 1073 = .ok (.goto 1108, 3) := by decide +kernel
theorem dL_law_1076 : decode cL_law 1076 = .ok (.aload_n 1, 1) := by decide +kernel
theorem dL_law_1077 : decode cL_law 1077 = .ok (.aload_n 0, 1) := by decide +kernel
theorem dL_law_1078 : decode cL_law 1078 = .ok (.iload 4, 2) := by decide +kernel
theorem dL_law_1080 : decode cL_law 1080 = .ok (.iconst 1, 1) := by decide +kernel
theorem dL_law_1081 : decode cL_law 1081 = .ok (.iadd, 1) := by decide +kernel
theorem dL_law_1082 : decode cL_law 1082 = .ok (.iaload, 1) := by decide +kernel
theorem dL_law_1083 : decode cL_law 1083 = .ok (.aload_n 0, 1) := by decide +kernel
theorem dL_law_1084 : decode cL_law 1084 = .ok (.iload 4, 2) := by decide +kernel
theorem dL_law_1086 : decode cL_law 1086 = .ok (.iconst 2, 1) := by decide +kernel
theorem dL_law_1087 : decode cL_law 1087 = .ok (.iadd, 1) := by decide +kernel
theorem dL_law_1088 : decode cL_law 1088 = .ok (.iaload, 1) := by decide +kernel
theorem dL_law_1089 : decode cL_law 1089 = .ok (.aload_n 3, 1) := by decide +kernel
theorem dL_law_1090 : decode cL_law 1090 = .ok (.invokestatic 158, 3) := by decide +kernel
theorem dL_law_1093 : decode cL_law 1093 = .ok (.istore 5, 2) := by decide +kernel
theorem dL_law_1095 : decode cL_law 1095 = .ok (.aload_n 2, 1) := by decide +kernel
theorem dL_law_1096 : decode cL_law 1096 = .ok (.aload_n 0, 1) := by decide +kernel
theorem dL_law_1097 : decode cL_law 1097 = .ok (.iload 4, 2) := by decide +kernel
theorem dL_law_1099 : decode cL_law 1099 = .ok (.iconst 1, 1) := by decide +kernel
theorem dL_law_1100 : decode cL_law 1100 = .ok (.iadd, 1) := by decide +kernel
theorem dL_law_1101 : decode cL_law 1101 = .ok (.iaload, 1) := by decide +kernel
theorem dL_law_1102 : decode cL_law 1102 = .ok (.aload_n 0, 1) := by decide +kernel
theorem dL_law_1103 : decode cL_law 1103 = .ok (.iload 4, 2) := by decide +kernel
theorem dL_law_1105 : decode cL_law 1105 = .ok (.iconst 2, 1) := by decide +kernel
theorem dL_law_1106 : decode cL_law 1106 = .ok (.iadd, 1) := by decide +kernel
theorem dL_law_1107 : decode cL_law 1107 = .ok (.iaload, 1) := by decide +kernel
theorem dL_law_1108 : decode cL_law 1108 = .ok (.invokevirtual 160, 3) := by decide +kernel
theorem dL_law_1111 : decode cL_law 1111 = .ok (.istore 6, 2) := by decide +kernel
theorem dL_law_1113 : decode cL_law 1113 = .ok (.aload_n 2, 1) := by decide +kernel
theorem dL_law_1114 : decode cL_law 1114 = .ok (.invokevirtual 118, 3) := by decide +kernel
theorem dL_law_1117 : decode cL_law 1117 = .ok (.iload 5, 2) := by decide +kernel
theorem dL_law_1119 : decode cL_law 1119 = .ok (.if_icmp .eq 5, 3) := by decide +kernel
theorem dL_law_1122 : decode cL_law 1122 = .ok (.iconst 0, 1) := by decide +kernel
theorem dL_law_1123 : decode cL_law 1123 = .ok (.ireturn, 1) := by decide +kernel
theorem dL_law_1124 : decode cL_law 1124 = .ok (.iload 5, 2) := by decide +kernel
theorem dL_law_1126 : decode cL_law 1126 = .ok (.ifCond .ne 15, 3) := by decide +kernel
theorem dL_law_1129 : decode cL_law 1129 = .ok (.aload_n 3, 1) := by decide +kernel
theorem dL_law_1130 : decode cL_law 1130 = .ok (.iconst 0, 1) := by decide +kernel
theorem dL_law_1131 : decode cL_law 1131 = .ok (.laload, 1) := by decide +kernel
theorem dL_law_1132 : decode cL_law 1132 = .ok (.iload 6, 2) := by decide +kernel
theorem dL_law_1134 : decode cL_law 1134 = .ok (.i2l, 1) := by decide +kernel
theorem dL_law_1135 : decode cL_law 1135 = .ok (.lcmp, 1) := by decide +kernel
theorem dL_law_1136 : decode cL_law 1136 = .ok (.ifCond .eq 5, 3) := by decide +kernel
theorem dL_law_1139 : decode cL_law 1139 = .ok (.iconst 0, 1) := by decide +kernel
theorem dL_law_1140 : decode cL_law 1140 = .ok (.ireturn, 1) := by decide +kernel
theorem dL_law_1141 : decode cL_law 1141 = .ok (.goto 1040, 3) := by decide +kernel
theorem dL_law_1144 : decode cL_law 1144 = .ok (.aload_n 1, 1) := by decide +kernel
theorem dL_law_1145 : decode cL_law 1145 = .ok (.aload_n 0, 1) := by decide +kernel
theorem dL_law_1146 : decode cL_law 1146 = .ok (.iload 4, 2) := by decide +kernel
theorem dL_law_1148 : decode cL_law 1148 = .ok (.iconst 1, 1) := by decide +kernel
theorem dL_law_1149 : decode cL_law 1149 = .ok (.iadd, 1) := by decide +kernel
theorem dL_law_1150 : decode cL_law 1150 = .ok (.iaload, 1) := by decide +kernel
theorem dL_law_1151 : decode cL_law 1151 = .ok (.aload_n 3, 1) := by decide +kernel
theorem dL_law_1152 : decode cL_law 1152 = .ok (.invokestatic 161, 3) := by decide +kernel
theorem dL_law_1155 : decode cL_law 1155 = .ok (.istore 5, 2) := by decide +kernel
theorem dL_law_1157 : decode cL_law 1157 = .ok (.aload_n 2, 1) := by decide +kernel
theorem dL_law_1158 : decode cL_law 1158 = .ok (.aload_n 0, 1) := by decide +kernel
theorem dL_law_1159 : decode cL_law 1159 = .ok (.iload 4, 2) := by decide +kernel
theorem dL_law_1161 : decode cL_law 1161 = .ok (.iconst 1, 1) := by decide +kernel
theorem dL_law_1162 : decode cL_law 1162 = .ok (.iadd, 1) := by decide +kernel
theorem dL_law_1163 : decode cL_law 1163 = .ok (.iaload, 1) := by decide +kernel
theorem dL_law_1164 : decode cL_law 1164 = .ok (.invokevirtual 163, 3) := by decide +kernel
theorem dL_law_1167 : decode cL_law 1167 = .ok (.istore 6, 2) := by decide +kernel
theorem dL_law_1169 : decode cL_law 1169 = .ok (.aload_n 2, 1) := by decide +kernel
theorem dL_law_1170 : decode cL_law 1170 = .ok (.invokevirtual 118, 3) := by decide +kernel
theorem dL_law_1173 : decode cL_law 1173 = .ok (.iload 5, 2) := by decide +kernel
theorem dL_law_1175 : decode cL_law 1175 = .ok (.if_icmp .eq 5, 3) := by decide +kernel
theorem dL_law_1178 : decode cL_law 1178 = .ok (.iconst 0, 1) := by decide +kernel
theorem dL_law_1179 : decode cL_law 1179 = .ok (.ireturn, 1) := by decide +kernel
theorem dL_law_1180 : decode cL_law 1180 = .ok (.iload 5, 2) := by decide +kernel
theorem dL_law_1182 : decode cL_law 1182 = .ok (.ifCond .ne 15, 3) := by decide +kernel
theorem dL_law_1185 : decode cL_law 1185 = .ok (.aload_n 3, 1) := by decide +kernel
theorem dL_law_1186 : decode cL_law 1186 = .ok (.iconst 0, 1) := by decide +kernel
theorem dL_law_1187 : decode cL_law 1187 = .ok (.laload, 1) := by decide +kernel
theorem dL_law_1188 : decode cL_law 1188 = .ok (.iload 6, 2) := by decide +kernel
theorem dL_law_1190 : decode cL_law 1190 = .ok (.i2l, 1) := by decide +kernel
theorem dL_law_1191 : decode cL_law 1191 = .ok (.lcmp, 1) := by decide +kernel
theorem dL_law_1192 : decode cL_law 1192 = .ok (.ifCond .eq 5, 3) := by decide +kernel
theorem dL_law_1195 : decode cL_law 1195 = .ok (.iconst 0, 1) := by decide +kernel
theorem dL_law_1196 : decode cL_law 1196 = .ok (.ireturn, 1) := by decide +kernel
theorem dL_law_1197 : decode cL_law 1197 = .ok (.goto 984, 3) := by decide +kernel
theorem dL_law_1200 : decode cL_law 1200 = .ok (.aload_n 1, 1) := by decide +kernel
theorem dL_law_1201 : decode cL_law 1201 = .ok (.aload_n 0, 1) := by decide +kernel
theorem dL_law_1202 : decode cL_law 1202 = .ok (.iload 4, 2) := by decide +kernel
theorem dL_law_1204 : decode cL_law 1204 = .ok (.iconst 1, 1) := by decide +kernel
theorem dL_law_1205 : decode cL_law 1205 = .ok (.iadd, 1) := by decide +kernel
theorem dL_law_1206 : decode cL_law 1206 = .ok (.iaload, 1) := by decide +kernel
theorem dL_law_1207 : decode cL_law 1207 = .ok (.aload_n 3, 1) := by decide +kernel
theorem dL_law_1208 : decode cL_law 1208 = .ok (.invokestatic 164, 3) := by decide +kernel
theorem dL_law_1211 : decode cL_law 1211 = .ok (.istore 5, 2) := by decide +kernel
theorem dL_law_1213 : decode cL_law 1213 = .ok (.aload_n 2, 1) := by decide +kernel
theorem dL_law_1214 : decode cL_law 1214 = .ok (.aload_n 0, 1) := by decide +kernel
theorem dL_law_1215 : decode cL_law 1215 = .ok (.iload 4, 2) := by decide +kernel
theorem dL_law_1217 : decode cL_law 1217 = .ok (.iconst 1, 1) := by decide +kernel
theorem dL_law_1218 : decode cL_law 1218 = .ok (.iadd, 1) := by decide +kernel
theorem dL_law_1219 : decode cL_law 1219 = .ok (.iaload, 1) := by decide +kernel
theorem dL_law_1220 : decode cL_law 1220 = .ok (.invokevirtual 166, 3) := by decide +kernel
theorem dL_law_1223 : decode cL_law 1223 = .ok (.istore 6, 2) := by decide +kernel
theorem dL_law_1225 : decode cL_law 1225 = .ok (.aload_n 2, 1) := by decide +kernel
theorem dL_law_1226 : decode cL_law 1226 = .ok (.invokevirtual 118, 3) := by decide +kernel
theorem dL_law_1229 : decode cL_law 1229 = .ok (.iload 5, 2) := by decide +kernel
theorem dL_law_1231 : decode cL_law 1231 = .ok (.if_icmp .eq 5, 3) := by decide +kernel
theorem dL_law_1234 : decode cL_law 1234 = .ok (.iconst 0, 1) := by decide +kernel
theorem dL_law_1235 : decode cL_law 1235 = .ok (.ireturn, 1) := by decide +kernel
theorem dL_law_1236 : decode cL_law 1236 = .ok (.iload 5, 2) := by decide +kernel
theorem dL_law_1238 : decode cL_law 1238 = .ok (.ifCond .ne 15, 3) := by decide +kernel
theorem dL_law_1241 : decode cL_law 1241 = .ok (.aload_n 3, 1) := by decide +kernel
theorem dL_law_1242 : decode cL_law 1242 = .ok (.iconst 0, 1) := by decide +kernel
theorem dL_law_1243 : decode cL_law 1243 = .ok (.laload, 1) := by decide +kernel
theorem dL_law_1244 : decode cL_law 1244 = .ok (.iload 6, 2) := by decide +kernel
theorem dL_law_1246 : decode cL_law 1246 = .ok (.i2l, 1) := by decide +kernel
theorem dL_law_1247 : decode cL_law 1247 = .ok (.lcmp, 1) := by decide +kernel
theorem dL_law_1248 : decode cL_law 1248 = .ok (.ifCond .eq 5, 3) := by decide +kernel
theorem dL_law_1251 : decode cL_law 1251 = .ok (.iconst 0, 1) := by decide +kernel
theorem dL_law_1252 : decode cL_law 1252 = .ok (.ireturn, 1) := by decide +kernel
theorem dL_law_1253 : decode cL_law 1253 = .ok (.goto 928, 3) := by decide +kernel
theorem dL_law_1256 : decode cL_law 1256 = .ok (.aload_n 1, 1) := by decide +kernel
theorem dL_law_1257 : decode cL_law 1257 = .ok (.aload_n 0, 1) := by decide +kernel
theorem dL_law_1258 : decode cL_law 1258 = .ok (.iload 4, 2) := by decide +kernel
theorem dL_law_1260 : decode cL_law 1260 = .ok (.iconst 1, 1) := by decide +kernel
theorem dL_law_1261 : decode cL_law 1261 = .ok (.iadd, 1) := by decide +kernel
theorem dL_law_1262 : decode cL_law 1262 = .ok (.iaload, 1) := by decide +kernel
theorem dL_law_1263 : decode cL_law 1263 = .ok (.aload_n 3, 1) := by decide +kernel
theorem dL_law_1264 : decode cL_law 1264 = .ok (.invokestatic 167, 3) := by decide +kernel
theorem dL_law_1267 : decode cL_law 1267 = .ok (.istore 5, 2) := by decide +kernel
theorem dL_law_1269 : decode cL_law 1269 = .ok (.aload_n 2, 1) := by decide +kernel
theorem dL_law_1270 : decode cL_law 1270 = .ok (.aload_n 0, 1) := by decide +kernel
theorem dL_law_1271 : decode cL_law 1271 = .ok (.iload 4, 2) := by decide +kernel
theorem dL_law_1273 : decode cL_law 1273 = .ok (.iconst 1, 1) := by decide +kernel
theorem dL_law_1274 : decode cL_law 1274 = .ok (.iadd, 1) := by decide +kernel
theorem dL_law_1275 : decode cL_law 1275 = .ok (.iaload, 1) := by decide +kernel
theorem dL_law_1276 : decode cL_law 1276 = .ok (.invokevirtual 169, 3) := by decide +kernel
theorem dL_law_1279 : decode cL_law 1279 = .ok (.istore 6, 2) := by decide +kernel
theorem dL_law_1281 : decode cL_law 1281 = .ok (.aload_n 2, 1) := by decide +kernel
theorem dL_law_1282 : decode cL_law 1282 = .ok (.invokevirtual 118, 3) := by decide +kernel
theorem dL_law_1285 : decode cL_law 1285 = .ok (.iload 5, 2) := by decide +kernel
theorem dL_law_1287 : decode cL_law 1287 = .ok (.if_icmp .eq 5, 3) := by decide +kernel
theorem dL_law_1290 : decode cL_law 1290 = .ok (.iconst 0, 1) := by decide +kernel
theorem dL_law_1291 : decode cL_law 1291 = .ok (.ireturn, 1) := by decide +kernel
theorem dL_law_1292 : decode cL_law 1292 = .ok (.iload 5, 2) := by decide +kernel
theorem dL_law_1294 : decode cL_law 1294 = .ok (.ifCond .ne 15, 3) := by decide +kernel
theorem dL_law_1297 : decode cL_law 1297 = .ok (.aload_n 3, 1) := by decide +kernel
theorem dL_law_1298 : decode cL_law 1298 = .ok (.iconst 0, 1) := by decide +kernel
theorem dL_law_1299 : decode cL_law 1299 = .ok (.laload, 1) := by decide +kernel
theorem dL_law_1300 : decode cL_law 1300 = .ok (.iload 6, 2) := by decide +kernel
theorem dL_law_1302 : decode cL_law 1302 = .ok (.i2l, 1) := by decide +kernel
theorem dL_law_1303 : decode cL_law 1303 = .ok (.lcmp, 1) := by decide +kernel
theorem dL_law_1304 : decode cL_law 1304 = .ok (.ifCond .eq 5, 3) := by decide +kernel
theorem dL_law_1307 : decode cL_law 1307 = .ok (.iconst 0, 1) := by decide +kernel
theorem dL_law_1308 : decode cL_law 1308 = .ok (.ireturn, 1) := by decide +kernel
theorem dL_law_1309 : decode cL_law 1309 = .ok (.goto 872, 3) := by decide +kernel
theorem dL_law_1312 : decode cL_law 1312 = .ok (.aload_n 1, 1) := by decide +kernel
theorem dL_law_1313 : decode cL_law 1313 = .ok (.invokevirtual 170, 3) := by decide +kernel
theorem dL_law_1316 : decode cL_law 1316 = .ok (.aload_n 2, 1) := by decide +kernel
theorem dL_law_1317 : decode cL_law 1317 = .ok (.invokevirtual 173, 3) := by decide +kernel
theorem dL_law_1320 : decode cL_law 1320 = .ok (.if_icmp .eq 861, 3) := by decide +kernel
theorem dL_law_1323 : decode cL_law 1323 = .ok (.iconst 0, 1) := by decide +kernel
theorem dL_law_1324 : decode cL_law 1324 = .ok (.ireturn, 1) := by decide +kernel
theorem dL_law_1325 : decode cL_law 1325 = .ok (.aload_n 1, 1) := by decide +kernel
theorem dL_law_1326 : decode cL_law 1326 = .ok (.invokevirtual 174, 3) := by decide +kernel
theorem dL_law_1329 : decode cL_law 1329 = .ok (.aload_n 2, 1) := by decide +kernel
theorem dL_law_1330 : decode cL_law 1330 = .ok (.invokevirtual 177, 3) := by decide +kernel
theorem dL_law_1333 : decode cL_law 1333 = .ok (.if_icmp .eq 848, 3) := by decide +kernel
theorem dL_law_1336 : decode cL_law 1336 = .ok (.iconst 0, 1) := by decide +kernel
theorem dL_law_1337 : decode cL_law 1337 = .ok (.ireturn, 1) := by decide +kernel
theorem dL_law_1338 : decode cL_law 1338 = .ok (.aload_n 1, 1) := by decide +kernel
theorem dL_law_1339 : decode cL_law 1339 = .ok (.aload_n 3, 1) := by decide +kernel
theorem dL_law_1340 : decode cL_law 1340 = .ok (.invokestatic 178, 3) := by decide +kernel
theorem dL_law_1343 : decode cL_law 1343 = .ok (.istore 5, 2) := by decide +kernel
theorem dL_law_1345 : decode cL_law 1345 = .ok (.aload_n 2, 1) := by decide +kernel
theorem dL_law_1346 : decode cL_law 1346 = .ok (.invokevirtual 181, 3) := by decide +kernel
theorem dL_law_1349 : decode cL_law 1349 = .ok (.istore 6, 2) := by decide +kernel
theorem dL_law_1351 : decode cL_law 1351 = .ok (.aload_n 2, 1) := by decide +kernel
theorem dL_law_1352 : decode cL_law 1352 = .ok (.invokevirtual 118, 3) := by decide +kernel
theorem dL_law_1355 : decode cL_law 1355 = .ok (.iload 5, 2) := by decide +kernel
theorem dL_law_1357 : decode cL_law 1357 = .ok (.if_icmp .eq 5, 3) := by decide +kernel
theorem dL_law_1360 : decode cL_law 1360 = .ok (.iconst 0, 1) := by decide +kernel
theorem dL_law_1361 : decode cL_law 1361 = .ok (.ireturn, 1) := by decide +kernel
theorem dL_law_1362 : decode cL_law 1362 = .ok (.iload 5, 2) := by decide +kernel
theorem dL_law_1364 : decode cL_law 1364 = .ok (.ifCond .ne 15, 3) := by decide +kernel
theorem dL_law_1367 : decode cL_law 1367 = .ok (.aload_n 3, 1) := by decide +kernel
theorem dL_law_1368 : decode cL_law 1368 = .ok (.iconst 0, 1) := by decide +kernel
theorem dL_law_1369 : decode cL_law 1369 = .ok (.laload, 1) := by decide +kernel
theorem dL_law_1370 : decode cL_law 1370 = .ok (.iload 6, 2) := by decide +kernel
theorem dL_law_1372 : decode cL_law 1372 = .ok (.i2l, 1) := by decide +kernel
theorem dL_law_1373 : decode cL_law 1373 = .ok (.lcmp, 1) := by decide +kernel
theorem dL_law_1374 : decode cL_law 1374 = .ok (.ifCond .eq 5, 3) := by decide +kernel
theorem dL_law_1377 : decode cL_law 1377 = .ok (.iconst 0, 1) := by decide +kernel
theorem dL_law_1378 : decode cL_law 1378 = .ok (.ireturn, 1) := by decide +kernel
theorem dL_law_1379 : decode cL_law 1379 = .ok (.goto 802, 3) := by decide +kernel
theorem dL_law_1382 : decode cL_law 1382 = .ok (.aload_n 1, 1) := by decide +kernel
theorem dL_law_1383 : decode cL_law 1383 = .ok (.aload_n 3, 1) := by decide +kernel
theorem dL_law_1384 : decode cL_law 1384 = .ok (.invokestatic 182, 3) := by decide +kernel
theorem dL_law_1387 : decode cL_law 1387 = .ok (.istore 5, 2) := by decide +kernel
theorem dL_law_1389 : decode cL_law 1389 = .ok (.aload_n 2, 1) := by decide +kernel
theorem dL_law_1390 : decode cL_law 1390 = .ok (.invokevirtual 184, 3) := by decide +kernel
theorem dL_law_1393 : decode cL_law 1393 = .ok (.istore 6, 2) := by decide +kernel
theorem dL_law_1395 : decode cL_law 1395 = .ok (.aload_n 2, 1) := by decide +kernel
theorem dL_law_1396 : decode cL_law 1396 = .ok (.invokevirtual 118, 3) := by decide +kernel
theorem dL_law_1399 : decode cL_law 1399 = .ok (.iload 5, 2) := by decide +kernel
theorem dL_law_1401 : decode cL_law 1401 = .ok (.if_icmp .eq 5, 3) := by decide +kernel
theorem dL_law_1404 : decode cL_law 1404 = .ok (.iconst 0, 1) := by decide +kernel
theorem dL_law_1405 : decode cL_law 1405 = .ok (.ireturn, 1) := by decide +kernel
theorem dL_law_1406 : decode cL_law 1406 = .ok (.iload 5, 2) := by decide +kernel
theorem dL_law_1408 : decode cL_law 1408 = .ok (.ifCond .ne 15, 3) := by decide +kernel
theorem dL_law_1411 : decode cL_law 1411 = .ok (.aload_n 3, 1) := by decide +kernel
theorem dL_law_1412 : decode cL_law 1412 = .ok (.iconst 0, 1) := by decide +kernel
theorem dL_law_1413 : decode cL_law 1413 = .ok (.laload, 1) := by decide +kernel
theorem dL_law_1414 : decode cL_law 1414 = .ok (.iload 6, 2) := by decide +kernel
theorem dL_law_1416 : decode cL_law 1416 = .ok (.i2l, 1) := by decide +kernel
theorem dL_law_1417 : decode cL_law 1417 = .ok (.lcmp, 1) := by decide +kernel
theorem dL_law_1418 : decode cL_law 1418 = .ok (.ifCond .eq 5, 3) := by decide +kernel
theorem dL_law_1421 : decode cL_law 1421 = .ok (.iconst 0, 1) := by decide +kernel
theorem dL_law_1422 : decode cL_law 1422 = .ok (.ireturn, 1) := by decide +kernel
theorem dL_law_1423 : decode cL_law 1423 = .ok (.goto 758, 3) := by decide +kernel
theorem dL_law_1426 : decode cL_law 1426 = .ok (.aload_n 1, 1) := by decide +kernel
theorem dL_law_1427 : decode cL_law 1427 = .ok (.aload_n 0, 1) := by decide +kernel
theorem dL_law_1428 : decode cL_law 1428 = .ok (.iload 4, 2) := by decide +kernel
theorem dL_law_1430 : decode cL_law 1430 = .ok (.iconst 1, 1) := by decide +kernel
theorem dL_law_1431 : decode cL_law 1431 = .ok (.iadd, 1) := by decide +kernel
theorem dL_law_1432 : decode cL_law 1432 = .ok (.iaload, 1) := by decide +kernel
theorem dL_law_1433 : decode cL_law 1433 = .ok (.aload_n 0, 1) := by decide +kernel
theorem dL_law_1434 : decode cL_law 1434 = .ok (.iload 4, 2) := by decide +kernel
theorem dL_law_1436 : decode cL_law 1436 = .ok (.iconst 2, 1) := by decide +kernel
theorem dL_law_1437 : decode cL_law 1437 = .ok (.iadd, 1) := by decide +kernel
theorem dL_law_1438 : decode cL_law 1438 = .ok (.iaload, 1) := by decide +kernel
theorem dL_law_1439 : decode cL_law 1439 = .ok (.aload_n 3, 1) := by decide +kernel
theorem dL_law_1440 : decode cL_law 1440 = .ok (.invokestatic 185, 3) := by decide +kernel
theorem dL_law_1443 : decode cL_law 1443 = .ok (.istore 5, 2) := by decide +kernel
theorem dL_law_1445 : decode cL_law 1445 = .ok (.aload_n 2, 1) := by decide +kernel
theorem dL_law_1446 : decode cL_law 1446 = .ok (.aload_n 0, 1) := by decide +kernel
theorem dL_law_1447 : decode cL_law 1447 = .ok (.iload 4, 2) := by decide +kernel
theorem dL_law_1449 : decode cL_law 1449 = .ok (.iconst 1, 1) := by decide +kernel
theorem dL_law_1450 : decode cL_law 1450 = .ok (.iadd, 1) := by decide +kernel
theorem dL_law_1451 : decode cL_law 1451 = .ok (.iaload, 1) := by decide +kernel
theorem dL_law_1452 : decode cL_law 1452 = .ok (.aload_n 0, 1) := by decide +kernel
theorem dL_law_1453 : decode cL_law 1453 = .ok (.iload 4, 2) := by decide +kernel
theorem dL_law_1455 : decode cL_law 1455 = .ok (.iconst 2, 1) := by decide +kernel
theorem dL_law_1456 : decode cL_law 1456 = .ok (.iadd, 1) := by decide +kernel
theorem dL_law_1457 : decode cL_law 1457 = .ok (.iaload, 1) := by decide +kernel
theorem dL_law_1458 : decode cL_law 1458 = .ok (.invokevirtual 187, 3) := by decide +kernel
theorem dL_law_1461 : decode cL_law 1461 = .ok (.istore 6, 2) := by decide +kernel
theorem dL_law_1463 : decode cL_law 1463 = .ok (.aload_n 2, 1) := by decide +kernel
theorem dL_law_1464 : decode cL_law 1464 = .ok (.invokevirtual 118, 3) := by decide +kernel
theorem dL_law_1467 : decode cL_law 1467 = .ok (.iload 5, 2) := by decide +kernel
theorem dL_law_1469 : decode cL_law 1469 = .ok (.if_icmp .eq 5, 3) := by decide +kernel
theorem dL_law_1472 : decode cL_law 1472 = .ok (.iconst 0, 1) := by decide +kernel
theorem dL_law_1473 : decode cL_law 1473 = .ok (.ireturn, 1) := by decide +kernel
theorem dL_law_1474 : decode cL_law 1474 = .ok (.iload 5, 2) := by decide +kernel
theorem dL_law_1476 : decode cL_law 1476 = .ok (.ifCond .ne 15, 3) := by decide +kernel
theorem dL_law_1479 : decode cL_law 1479 = .ok (.aload_n 3, 1) := by decide +kernel
theorem dL_law_1480 : decode cL_law 1480 = .ok (.iconst 0, 1) := by decide +kernel
theorem dL_law_1481 : decode cL_law 1481 = .ok (.laload, 1) := by decide +kernel
theorem dL_law_1482 : decode cL_law 1482 = .ok (.iload 6, 2) := by decide +kernel
theorem dL_law_1484 : decode cL_law 1484 = .ok (.i2l, 1) := by decide +kernel
theorem dL_law_1485 : decode cL_law 1485 = .ok (.lcmp, 1) := by decide +kernel
theorem dL_law_1486 : decode cL_law 1486 = .ok (.ifCond .eq 5, 3) := by decide +kernel
theorem dL_law_1489 : decode cL_law 1489 = .ok (.iconst 0, 1) := by decide +kernel
theorem dL_law_1490 : decode cL_law 1490 = .ok (.ireturn, 1) := by decide +kernel
theorem dL_law_1491 : decode cL_law 1491 = .ok (.goto 690, 3) := by decide +kernel
theorem dL_law_1494 : decode cL_law 1494 = .ok (.aload_n 1, 1) := by decide +kernel
theorem dL_law_1495 : decode cL_law 1495 = .ok (.aload_n 0, 1) := by decide +kernel
theorem dL_law_1496 : decode cL_law 1496 = .ok (.iload 4, 2) := by decide +kernel
theorem dL_law_1498 : decode cL_law 1498 = .ok (.iconst 1, 1) := by decide +kernel
theorem dL_law_1499 : decode cL_law 1499 = .ok (.iadd, 1) := by decide +kernel
theorem dL_law_1500 : decode cL_law 1500 = .ok (.iaload, 1) := by decide +kernel
theorem dL_law_1501 : decode cL_law 1501 = .ok (.aload_n 0, 1) := by decide +kernel
theorem dL_law_1502 : decode cL_law 1502 = .ok (.iload 4, 2) := by decide +kernel
theorem dL_law_1504 : decode cL_law 1504 = .ok (.iconst 2, 1) := by decide +kernel
theorem dL_law_1505 : decode cL_law 1505 = .ok (.iadd, 1) := by decide +kernel
theorem dL_law_1506 : decode cL_law 1506 = .ok (.iaload, 1) := by decide +kernel
theorem dL_law_1507 : decode cL_law 1507 = .ok (.aload_n 3, 1) := by decide +kernel
theorem dL_law_1508 : decode cL_law 1508 = .ok (.invokestatic 188, 3) := by decide +kernel
theorem dL_law_1511 : decode cL_law 1511 = .ok (.istore 5, 2) := by decide +kernel
theorem dL_law_1513 : decode cL_law 1513 = .ok (.aload_n 2, 1) := by decide +kernel
theorem dL_law_1514 : decode cL_law 1514 = .ok (.aload_n 0, 1) := by decide +kernel
theorem dL_law_1515 : decode cL_law 1515 = .ok (.iload 4, 2) := by decide +kernel
theorem dL_law_1517 : decode cL_law 1517 = .ok (.iconst 1, 1) := by decide +kernel
theorem dL_law_1518 : decode cL_law 1518 = .ok (.iadd, 1) := by decide +kernel
theorem dL_law_1519 : decode cL_law 1519 = .ok (.iaload, 1) := by decide +kernel
theorem dL_law_1520 : decode cL_law 1520 = .ok (.aload_n 0, 1) := by decide +kernel
theorem dL_law_1521 : decode cL_law 1521 = .ok (.iload 4, 2) := by decide +kernel
theorem dL_law_1523 : decode cL_law 1523 = .ok (.iconst 2, 1) := by decide +kernel
theorem dL_law_1524 : decode cL_law 1524 = .ok (.iadd, 1) := by decide +kernel
theorem dL_law_1525 : decode cL_law 1525 = .ok (.iaload, 1) := by decide +kernel
theorem dL_law_1526 : decode cL_law 1526 = .ok (.invokevirtual 190, 3) := by decide +kernel
theorem dL_law_1529 : decode cL_law 1529 = .ok (.istore 6, 2) := by decide +kernel
theorem dL_law_1531 : decode cL_law 1531 = .ok (.aload_n 2, 1) := by decide +kernel
theorem dL_law_1532 : decode cL_law 1532 = .ok (.invokevirtual 118, 3) := by decide +kernel
theorem dL_law_1535 : decode cL_law 1535 = .ok (.iload 5, 2) := by decide +kernel
theorem dL_law_1537 : decode cL_law 1537 = .ok (.if_icmp .eq 5, 3) := by decide +kernel
theorem dL_law_1540 : decode cL_law 1540 = .ok (.iconst 0, 1) := by decide +kernel
theorem dL_law_1541 : decode cL_law 1541 = .ok (.ireturn, 1) := by decide +kernel
theorem dL_law_1542 : decode cL_law 1542 = .ok (.iload 5, 2) := by decide +kernel
theorem dL_law_1544 : decode cL_law 1544 = .ok (.ifCond .ne 15, 3) := by decide +kernel
theorem dL_law_1547 : decode cL_law 1547 = .ok (.aload_n 3, 1) := by decide +kernel
theorem dL_law_1548 : decode cL_law 1548 = .ok (.iconst 0, 1) := by decide +kernel
theorem dL_law_1549 : decode cL_law 1549 = .ok (.laload, 1) := by decide +kernel
theorem dL_law_1550 : decode cL_law 1550 = .ok (.iload 6, 2) := by decide +kernel
theorem dL_law_1552 : decode cL_law 1552 = .ok (.i2l, 1) := by decide +kernel
theorem dL_law_1553 : decode cL_law 1553 = .ok (.lcmp, 1) := by decide +kernel
theorem dL_law_1554 : decode cL_law 1554 = .ok (.ifCond .eq 5, 3) := by decide +kernel
theorem dL_law_1557 : decode cL_law 1557 = .ok (.iconst 0, 1) := by decide +kernel
theorem dL_law_1558 : decode cL_law 1558 = .ok (.ireturn, 1) := by decide +kernel
theorem dL_law_1559 : decode cL_law 1559 = .ok (.goto 622, 3) := by decide +kernel
theorem dL_law_1562 : decode cL_law 1562 = .ok (.aload_n 1, 1) := by decide +kernel
theorem dL_law_1563 : decode cL_law 1563 = .ok (.aload_n 0, 1) := by decide +kernel
theorem dL_law_1564 : decode cL_law 1564 = .ok (.iload 4, 2) := by decide +kernel
theorem dL_law_1566 : decode cL_law 1566 = .ok (.iconst 1, 1) := by decide +kernel
theorem dL_law_1567 : decode cL_law 1567 = .ok (.iadd, 1) := by decide +kernel
theorem dL_law_1568 : decode cL_law 1568 = .ok (.iaload, 1) := by decide +kernel
theorem dL_law_1569 : decode cL_law 1569 = .ok (.aload_n 0, 1) := by decide +kernel
theorem dL_law_1570 : decode cL_law 1570 = .ok (.iload 4, 2) := by decide +kernel
theorem dL_law_1572 : decode cL_law 1572 = .ok (.iconst 2, 1) := by decide +kernel
theorem dL_law_1573 : decode cL_law 1573 = .ok (.iadd, 1) := by decide +kernel
theorem dL_law_1574 : decode cL_law 1574 = .ok (.iaload, 1) := by decide +kernel
theorem dL_law_1575 : decode cL_law 1575 = .ok (.aload_n 3, 1) := by decide +kernel
theorem dL_law_1576 : decode cL_law 1576 = .ok (.invokestatic 191, 3) := by decide +kernel
theorem dL_law_1579 : decode cL_law 1579 = .ok (.istore 5, 2) := by decide +kernel
theorem dL_law_1581 : decode cL_law 1581 = .ok (.aload_n 2, 1) := by decide +kernel
theorem dL_law_1582 : decode cL_law 1582 = .ok (.aload_n 0, 1) := by decide +kernel
theorem dL_law_1583 : decode cL_law 1583 = .ok (.iload 4, 2) := by decide +kernel
theorem dL_law_1585 : decode cL_law 1585 = .ok (.iconst 1, 1) := by decide +kernel
theorem dL_law_1586 : decode cL_law 1586 = .ok (.iadd, 1) := by decide +kernel
theorem dL_law_1587 : decode cL_law 1587 = .ok (.iaload, 1) := by decide +kernel
theorem dL_law_1588 : decode cL_law 1588 = .ok (.aload_n 0, 1) := by decide +kernel
theorem dL_law_1589 : decode cL_law 1589 = .ok (.iload 4, 2) := by decide +kernel
theorem dL_law_1591 : decode cL_law 1591 = .ok (.iconst 2, 1) := by decide +kernel
theorem dL_law_1592 : decode cL_law 1592 = .ok (.iadd, 1) := by decide +kernel
theorem dL_law_1593 : decode cL_law 1593 = .ok (.iaload, 1) := by decide +kernel
theorem dL_law_1594 : decode cL_law 1594 = .ok (.invokevirtual 193, 3) := by decide +kernel
theorem dL_law_1597 : decode cL_law 1597 = .ok (.istore 6, 2) := by decide +kernel
theorem dL_law_1599 : decode cL_law 1599 = .ok (.aload_n 2, 1) := by decide +kernel
theorem dL_law_1600 : decode cL_law 1600 = .ok (.invokevirtual 118, 3) := by decide +kernel
theorem dL_law_1603 : decode cL_law 1603 = .ok (.iload 5, 2) := by decide +kernel
theorem dL_law_1605 : decode cL_law 1605 = .ok (.if_icmp .eq 5, 3) := by decide +kernel
theorem dL_law_1608 : decode cL_law 1608 = .ok (.iconst 0, 1) := by decide +kernel
theorem dL_law_1609 : decode cL_law 1609 = .ok (.ireturn, 1) := by decide +kernel
theorem dL_law_1610 : decode cL_law 1610 = .ok (.iload 5, 2) := by decide +kernel
theorem dL_law_1612 : decode cL_law 1612 = .ok (.ifCond .ne 15, 3) := by decide +kernel
theorem dL_law_1615 : decode cL_law 1615 = .ok (.aload_n 3, 1) := by decide +kernel
theorem dL_law_1616 : decode cL_law 1616 = .ok (.iconst 0, 1) := by decide +kernel
theorem dL_law_1617 : decode cL_law 1617 = .ok (.laload, 1) := by decide +kernel
theorem dL_law_1618 : decode cL_law 1618 = .ok (.iload 6, 2) := by decide +kernel
theorem dL_law_1620 : decode cL_law 1620 = .ok (.i2l, 1) := by decide +kernel
theorem dL_law_1621 : decode cL_law 1621 = .ok (.lcmp, 1) := by decide +kernel
theorem dL_law_1622 : decode cL_law 1622 = .ok (.ifCond .eq 5, 3) := by decide +kernel
theorem dL_law_1625 : decode cL_law 1625 = .ok (.iconst 0, 1) := by decide +kernel
theorem dL_law_1626 : decode cL_law 1626 = .ok (.ireturn, 1) := by decide +kernel
theorem dL_law_1627 : decode cL_law 1627 = .ok (.goto 554, 3) := by decide +kernel
theorem dL_law_1630 : decode cL_law 1630 = .ok (.aload_n 1, 1) := by decide +kernel
theorem dL_law_1631 : decode cL_law 1631 = .ok (.aload_n 0, 1) := by decide +kernel
theorem dL_law_1632 : decode cL_law 1632 = .ok (.iload 4, 2) := by decide +kernel
theorem dL_law_1634 : decode cL_law 1634 = .ok (.iconst 1, 1) := by decide +kernel
theorem dL_law_1635 : decode cL_law 1635 = .ok (.iadd, 1) := by decide +kernel
theorem dL_law_1636 : decode cL_law 1636 = .ok (.iaload, 1) := by decide +kernel
theorem dL_law_1637 : decode cL_law 1637 = .ok (.aload_n 0, 1) := by decide +kernel
theorem dL_law_1638 : decode cL_law 1638 = .ok (.iload 4, 2) := by decide +kernel
theorem dL_law_1640 : decode cL_law 1640 = .ok (.iconst 2, 1) := by decide +kernel
theorem dL_law_1641 : decode cL_law 1641 = .ok (.iadd, 1) := by decide +kernel
theorem dL_law_1642 : decode cL_law 1642 = .ok (.iaload, 1) := by decide +kernel
theorem dL_law_1643 : decode cL_law 1643 = .ok (.aload_n 3, 1) := by decide +kernel
theorem dL_law_1644 : decode cL_law 1644 = .ok (.invokestatic 194, 3) := by decide +kernel
theorem dL_law_1647 : decode cL_law 1647 = .ok (.istore 5, 2) := by decide +kernel
theorem dL_law_1649 : decode cL_law 1649 = .ok (.aload_n 2, 1) := by decide +kernel
theorem dL_law_1650 : decode cL_law 1650 = .ok (.aload_n 0, 1) := by decide +kernel
theorem dL_law_1651 : decode cL_law 1651 = .ok (.iload 4, 2) := by decide +kernel
theorem dL_law_1653 : decode cL_law 1653 = .ok (.iconst 1, 1) := by decide +kernel
theorem dL_law_1654 : decode cL_law 1654 = .ok (.iadd, 1) := by decide +kernel
theorem dL_law_1655 : decode cL_law 1655 = .ok (.iaload, 1) := by decide +kernel
theorem dL_law_1656 : decode cL_law 1656 = .ok (.aload_n 0, 1) := by decide +kernel
theorem dL_law_1657 : decode cL_law 1657 = .ok (.iload 4, 2) := by decide +kernel
theorem dL_law_1659 : decode cL_law 1659 = .ok (.iconst 2, 1) := by decide +kernel
theorem dL_law_1660 : decode cL_law 1660 = .ok (.iadd, 1) := by decide +kernel
theorem dL_law_1661 : decode cL_law 1661 = .ok (.iaload, 1) := by decide +kernel
theorem dL_law_1662 : decode cL_law 1662 = .ok (.invokevirtual 196, 3) := by decide +kernel
theorem dL_law_1665 : decode cL_law 1665 = .ok (.istore 6, 2) := by decide +kernel
theorem dL_law_1667 : decode cL_law 1667 = .ok (.aload_n 2, 1) := by decide +kernel
theorem dL_law_1668 : decode cL_law 1668 = .ok (.invokevirtual 118, 3) := by decide +kernel
theorem dL_law_1671 : decode cL_law 1671 = .ok (.iload 5, 2) := by decide +kernel
theorem dL_law_1673 : decode cL_law 1673 = .ok (.if_icmp .eq 5, 3) := by decide +kernel
theorem dL_law_1676 : decode cL_law 1676 = .ok (.iconst 0, 1) := by decide +kernel
theorem dL_law_1677 : decode cL_law 1677 = .ok (.ireturn, 1) := by decide +kernel
theorem dL_law_1678 : decode cL_law 1678 = .ok (.iload 5, 2) := by decide +kernel
theorem dL_law_1680 : decode cL_law 1680 = .ok (.ifCond .ne 15, 3) := by decide +kernel
theorem dL_law_1683 : decode cL_law 1683 = .ok (.aload_n 3, 1) := by decide +kernel
theorem dL_law_1684 : decode cL_law 1684 = .ok (.iconst 0, 1) := by decide +kernel
theorem dL_law_1685 : decode cL_law 1685 = .ok (.laload, 1) := by decide +kernel
theorem dL_law_1686 : decode cL_law 1686 = .ok (.iload 6, 2) := by decide +kernel
theorem dL_law_1688 : decode cL_law 1688 = .ok (.i2l, 1) := by decide +kernel
theorem dL_law_1689 : decode cL_law 1689 = .ok (.lcmp, 1) := by decide +kernel
theorem dL_law_1690 : decode cL_law 1690 = .ok (.ifCond .eq 5, 3) := by decide +kernel
theorem dL_law_1693 : decode cL_law 1693 = .ok (.iconst 0, 1) := by decide +kernel
theorem dL_law_1694 : decode cL_law 1694 = .ok (.ireturn, 1) := by decide +kernel
theorem dL_law_1695 : decode cL_law 1695 = .ok (.goto 486, 3) := by decide +kernel
theorem dL_law_1698 : decode cL_law 1698 = .ok (.aload_n 1, 1) := by decide +kernel
theorem dL_law_1699 : decode cL_law 1699 = .ok (.aload_n 0, 1) := by decide +kernel
theorem dL_law_1700 : decode cL_law 1700 = .ok (.iload 4, 2) := by decide +kernel
theorem dL_law_1702 : decode cL_law 1702 = .ok (.iconst 1, 1) := by decide +kernel
theorem dL_law_1703 : decode cL_law 1703 = .ok (.iadd, 1) := by decide +kernel
theorem dL_law_1704 : decode cL_law 1704 = .ok (.iaload, 1) := by decide +kernel
theorem dL_law_1705 : decode cL_law 1705 = .ok (.aload_n 3, 1) := by decide +kernel
theorem dL_law_1706 : decode cL_law 1706 = .ok (.invokestatic 197, 3) := by decide +kernel
theorem dL_law_1709 : decode cL_law 1709 = .ok (.istore 5, 2) := by decide +kernel
theorem dL_law_1711 : decode cL_law 1711 = .ok (.aload_n 2, 1) := by decide +kernel
theorem dL_law_1712 : decode cL_law 1712 = .ok (.aload_n 0, 1) := by decide +kernel
theorem dL_law_1713 : decode cL_law 1713 = .ok (.iload 4, 2) := by decide +kernel
theorem dL_law_1715 : decode cL_law 1715 = .ok (.iconst 1, 1) := by decide +kernel
theorem dL_law_1716 : decode cL_law 1716 = .ok (.iadd, 1) := by decide +kernel
theorem dL_law_1717 : decode cL_law 1717 = .ok (.iaload, 1) := by decide +kernel
theorem dL_law_1718 : decode cL_law 1718 = .ok (.invokevirtual 199, 3) := by decide +kernel
theorem dL_law_1721 : decode cL_law 1721 = .ok (.istore 6, 2) := by decide +kernel
theorem dL_law_1723 : decode cL_law 1723 = .ok (.aload_n 2, 1) := by decide +kernel
theorem dL_law_1724 : decode cL_law 1724 = .ok (.invokevirtual 118, 3) := by decide +kernel
theorem dL_law_1727 : decode cL_law 1727 = .ok (.iload 5, 2) := by decide +kernel
theorem dL_law_1729 : decode cL_law 1729 = .ok (.if_icmp .eq 5, 3) := by decide +kernel
theorem dL_law_1732 : decode cL_law 1732 = .ok (.iconst 0, 1) := by decide +kernel
theorem dL_law_1733 : decode cL_law 1733 = .ok (.ireturn, 1) := by decide +kernel
theorem dL_law_1734 : decode cL_law 1734 = .ok (.iload 5, 2) := by decide +kernel
theorem dL_law_1736 : decode cL_law 1736 = .ok (.ifCond .ne 15, 3) := by decide +kernel
theorem dL_law_1739 : decode cL_law 1739 = .ok (.aload_n 3, 1) := by decide +kernel
theorem dL_law_1740 : decode cL_law 1740 = .ok (.iconst 0, 1) := by decide +kernel
theorem dL_law_1741 : decode cL_law 1741 = .ok (.laload, 1) := by decide +kernel
theorem dL_law_1742 : decode cL_law 1742 = .ok (.iload 6, 2) := by decide +kernel
theorem dL_law_1744 : decode cL_law 1744 = .ok (.i2l, 1) := by decide +kernel
theorem dL_law_1745 : decode cL_law 1745 = .ok (.lcmp, 1) := by decide +kernel
theorem dL_law_1746 : decode cL_law 1746 = .ok (.ifCond .eq 5, 3) := by decide +kernel
theorem dL_law_1749 : decode cL_law 1749 = .ok (.iconst 0, 1) := by decide +kernel
theorem dL_law_1750 : decode cL_law 1750 = .ok (.ireturn, 1) := by decide +kernel
theorem dL_law_1751 : decode cL_law 1751 = .ok (.goto 430, 3) := by decide +kernel
theorem dL_law_1754 : decode cL_law 1754 = .ok (.aload_n 1, 1) := by decide +kernel
theorem dL_law_1755 : decode cL_law 1755 = .ok (.aload_n 0, 1) := by decide +kernel
theorem dL_law_1756 : decode cL_law 1756 = .ok (.iload 4, 2) := by decide +kernel
theorem dL_law_1758 : decode cL_law 1758 = .ok (.iconst 1, 1) := by decide +kernel
theorem dL_law_1759 : decode cL_law 1759 = .ok (.iadd, 1) := by decide +kernel
theorem dL_law_1760 : decode cL_law 1760 = .ok (.iaload, 1) := by decide +kernel
theorem dL_law_1761 : decode cL_law 1761 = .ok (.aload_n 3, 1) := by decide +kernel
theorem dL_law_1762 : decode cL_law 1762 = .ok (.invokestatic 200, 3) := by decide +kernel
theorem dL_law_1765 : decode cL_law 1765 = .ok (.istore 5, 2) := by decide +kernel
theorem dL_law_1767 : decode cL_law 1767 = .ok (.aload_n 2, 1) := by decide +kernel
theorem dL_law_1768 : decode cL_law 1768 = .ok (.aload_n 0, 1) := by decide +kernel
theorem dL_law_1769 : decode cL_law 1769 = .ok (.iload 4, 2) := by decide +kernel
theorem dL_law_1771 : decode cL_law 1771 = .ok (.iconst 1, 1) := by decide +kernel
theorem dL_law_1772 : decode cL_law 1772 = .ok (.iadd, 1) := by decide +kernel
theorem dL_law_1773 : decode cL_law 1773 = .ok (.iaload, 1) := by decide +kernel
theorem dL_law_1774 : decode cL_law 1774 = .ok (.invokevirtual 202, 3) := by decide +kernel
theorem dL_law_1777 : decode cL_law 1777 = .ok (.istore 6, 2) := by decide +kernel
theorem dL_law_1779 : decode cL_law 1779 = .ok (.aload_n 2, 1) := by decide +kernel
theorem dL_law_1780 : decode cL_law 1780 = .ok (.invokevirtual 118, 3) := by decide +kernel
theorem dL_law_1783 : decode cL_law 1783 = .ok (.iload 5, 2) := by decide +kernel
theorem dL_law_1785 : decode cL_law 1785 = .ok (.if_icmp .eq 5, 3) := by decide +kernel
theorem dL_law_1788 : decode cL_law 1788 = .ok (.iconst 0, 1) := by decide +kernel
theorem dL_law_1789 : decode cL_law 1789 = .ok (.ireturn, 1) := by decide +kernel
theorem dL_law_1790 : decode cL_law 1790 = .ok (.iload 5, 2) := by decide +kernel
theorem dL_law_1792 : decode cL_law 1792 = .ok (.ifCond .ne 15, 3) := by decide +kernel
theorem dL_law_1795 : decode cL_law 1795 = .ok (.aload_n 3, 1) := by decide +kernel
theorem dL_law_1796 : decode cL_law 1796 = .ok (.iconst 0, 1) := by decide +kernel
theorem dL_law_1797 : decode cL_law 1797 = .ok (.laload, 1) := by decide +kernel
theorem dL_law_1798 : decode cL_law 1798 = .ok (.iload 6, 2) := by decide +kernel
theorem dL_law_1800 : decode cL_law 1800 = .ok (.i2l, 1) := by decide +kernel
theorem dL_law_1801 : decode cL_law 1801 = .ok (.lcmp, 1) := by decide +kernel
theorem dL_law_1802 : decode cL_law 1802 = .ok (.ifCond .eq 5, 3) := by decide +kernel
theorem dL_law_1805 : decode cL_law 1805 = .ok (.iconst 0, 1) := by decide +kernel
theorem dL_law_1806 : decode cL_law 1806 = .ok (.ireturn, 1) := by decide +kernel
theorem dL_law_1807 : decode cL_law 1807 = .ok (.goto 374, 3) := by decide +kernel
theorem dL_law_1810 : decode cL_law 1810 = .ok (.aload_n 1, 1) := by decide +kernel
theorem dL_law_1811 : decode cL_law 1811 = .ok (.aload_n 0, 1) := by decide +kernel
theorem dL_law_1812 : decode cL_law 1812 = .ok (.iload 4, 2) := by decide +kernel
theorem dL_law_1814 : decode cL_law 1814 = .ok (.iconst 1, 1) := by decide +kernel
theorem dL_law_1815 : decode cL_law 1815 = .ok (.iadd, 1) := by decide +kernel
theorem dL_law_1816 : decode cL_law 1816 = .ok (.iaload, 1) := by decide +kernel
theorem dL_law_1817 : decode cL_law 1817 = .ok (.aload_n 0, 1) := by decide +kernel
theorem dL_law_1818 : decode cL_law 1818 = .ok (.iload 4, 2) := by decide +kernel
theorem dL_law_1820 : decode cL_law 1820 = .ok (.iconst 2, 1) := by decide +kernel
theorem dL_law_1821 : decode cL_law 1821 = .ok (.iadd, 1) := by decide +kernel
theorem dL_law_1822 : decode cL_law 1822 = .ok (.iaload, 1) := by decide +kernel
theorem dL_law_1823 : decode cL_law 1823 = .ok (.aload_n 3, 1) := by decide +kernel
theorem dL_law_1824 : decode cL_law 1824 = .ok (.invokestatic 203, 3) := by decide +kernel
theorem dL_law_1827 : decode cL_law 1827 = .ok (.istore 5, 2) := by decide +kernel
theorem dL_law_1829 : decode cL_law 1829 = .ok (.aload_n 2, 1) := by decide +kernel
theorem dL_law_1830 : decode cL_law 1830 = .ok (.aload_n 0, 1) := by decide +kernel
theorem dL_law_1831 : decode cL_law 1831 = .ok (.iload 4, 2) := by decide +kernel
theorem dL_law_1833 : decode cL_law 1833 = .ok (.iconst 1, 1) := by decide +kernel
theorem dL_law_1834 : decode cL_law 1834 = .ok (.iadd, 1) := by decide +kernel
theorem dL_law_1835 : decode cL_law 1835 = .ok (.iaload, 1) := by decide +kernel
theorem dL_law_1836 : decode cL_law 1836 = .ok (.aload_n 0, 1) := by decide +kernel
theorem dL_law_1837 : decode cL_law 1837 = .ok (.iload 4, 2) := by decide +kernel
theorem dL_law_1839 : decode cL_law 1839 = .ok (.iconst 2, 1) := by decide +kernel
theorem dL_law_1840 : decode cL_law 1840 = .ok (.iadd, 1) := by decide +kernel
theorem dL_law_1841 : decode cL_law 1841 = .ok (.iaload, 1) := by decide +kernel
theorem dL_law_1842 : decode cL_law 1842 = .ok (.invokevirtual 205, 3) := by decide +kernel
theorem dL_law_1845 : decode cL_law 1845 = .ok (.istore 6, 2) := by decide +kernel
theorem dL_law_1847 : decode cL_law 1847 = .ok (.aload_n 2, 1) := by decide +kernel
theorem dL_law_1848 : decode cL_law 1848 = .ok (.invokevirtual 118, 3) := by decide +kernel
theorem dL_law_1851 : decode cL_law 1851 = .ok (.iload 5, 2) := by decide +kernel
theorem dL_law_1853 : decode cL_law 1853 = .ok (.if_icmp .eq 5, 3) := by decide +kernel
theorem dL_law_1856 : decode cL_law 1856 = .ok (.iconst 0, 1) := by decide +kernel
theorem dL_law_1857 : decode cL_law 1857 = .ok (.ireturn, 1) := by decide +kernel
theorem dL_law_1858 : decode cL_law 1858 = .ok (.iload 5, 2) := by decide +kernel
theorem dL_law_1860 : decode cL_law 1860 = .ok (.ifCond .ne 15, 3) := by decide +kernel
theorem dL_law_1863 : decode cL_law 1863 = .ok (.aload_n 3, 1) := by decide +kernel
theorem dL_law_1864 : decode cL_law 1864 = .ok (.iconst 0, 1) := by decide +kernel
theorem dL_law_1865 : decode cL_law 1865 = .ok (.laload, 1) := by decide +kernel
theorem dL_law_1866 : decode cL_law 1866 = .ok (.iload 6, 2) := by decide +kernel
theorem dL_law_1868 : decode cL_law 1868 = .ok (.i2l, 1) := by decide +kernel
theorem dL_law_1869 : decode cL_law 1869 = .ok (.lcmp, 1) := by decide +kernel
theorem dL_law_1870 : decode cL_law 1870 = .ok (.ifCond .eq 5, 3) := by decide +kernel
theorem dL_law_1873 : decode cL_law 1873 = .ok (.iconst 0, 1) := by decide +kernel
theorem dL_law_1874 : decode cL_law 1874 = .ok (.ireturn, 1) := by decide +kernel
theorem dL_law_1875 : decode cL_law 1875 = .ok (.goto 306, 3) := by decide +kernel
theorem dL_law_1878 : decode cL_law 1878 = .ok (.aload_n 1, 1) := by decide +kernel
theorem dL_law_1879 : decode cL_law 1879 = .ok (.aload_n 0, 1) := by decide +kernel
theorem dL_law_1880 : decode cL_law 1880 = .ok (.iload 4, 2) := by decide +kernel
theorem dL_law_1882 : decode cL_law 1882 = .ok (.iconst 1, 1) := by decide +kernel
theorem dL_law_1883 : decode cL_law 1883 = .ok (.iadd, 1) := by decide +kernel
theorem dL_law_1884 : decode cL_law 1884 = .ok (.iaload, 1) := by decide +kernel
theorem dL_law_1885 : decode cL_law 1885 = .ok (.aload_n 0, 1) := by decide +kernel
theorem dL_law_1886 : decode cL_law 1886 = .ok (.iload 4, 2) := by decide +kernel
theorem dL_law_1888 : decode cL_law 1888 = .ok (.iconst 2, 1) := by decide +kernel
theorem dL_law_1889 : decode cL_law 1889 = .ok (.iadd, 1) := by decide +kernel
theorem dL_law_1890 : decode cL_law 1890 = .ok (.iaload, 1) := by decide +kernel
theorem dL_law_1891 : decode cL_law 1891 = .ok (.aload_n 3, 1) := by decide +kernel
theorem dL_law_1892 : decode cL_law 1892 = .ok (.invokestatic 206, 3) := by decide +kernel
theorem dL_law_1895 : decode cL_law 1895 = .ok (.istore 5, 2) := by decide +kernel
theorem dL_law_1897 : decode cL_law 1897 = .ok (.aload_n 2, 1) := by decide +kernel
theorem dL_law_1898 : decode cL_law 1898 = .ok (.aload_n 0, 1) := by decide +kernel
theorem dL_law_1899 : decode cL_law 1899 = .ok (.iload 4, 2) := by decide +kernel
theorem dL_law_1901 : decode cL_law 1901 = .ok (.iconst 1, 1) := by decide +kernel
theorem dL_law_1902 : decode cL_law 1902 = .ok (.iadd, 1) := by decide +kernel
theorem dL_law_1903 : decode cL_law 1903 = .ok (.iaload, 1) := by decide +kernel
theorem dL_law_1904 : decode cL_law 1904 = .ok (.aload_n 0, 1) := by decide +kernel
theorem dL_law_1905 : decode cL_law 1905 = .ok (.iload 4, 2) := by decide +kernel
theorem dL_law_1907 : decode cL_law 1907 = .ok (.iconst 2, 1) := by decide +kernel
theorem dL_law_1908 : decode cL_law 1908 = .ok (.iadd, 1) := by decide +kernel
theorem dL_law_1909 : decode cL_law 1909 = .ok (.iaload, 1) := by decide +kernel
theorem dL_law_1910 : decode cL_law 1910 = .ok (.invokevirtual 208, 3) := by decide +kernel
theorem dL_law_1913 : decode cL_law 1913 = .ok (.istore 6, 2) := by decide +kernel
theorem dL_law_1915 : decode cL_law 1915 = .ok (.aload_n 2, 1) := by decide +kernel
theorem dL_law_1916 : decode cL_law 1916 = .ok (.invokevirtual 118, 3) := by decide +kernel
theorem dL_law_1919 : decode cL_law 1919 = .ok (.iload 5, 2) := by decide +kernel
theorem dL_law_1921 : decode cL_law 1921 = .ok (.if_icmp .eq 5, 3) := by decide +kernel
theorem dL_law_1924 : decode cL_law 1924 = .ok (.iconst 0, 1) := by decide +kernel
theorem dL_law_1925 : decode cL_law 1925 = .ok (.ireturn, 1) := by decide +kernel
theorem dL_law_1926 : decode cL_law 1926 = .ok (.iload 5, 2) := by decide +kernel
theorem dL_law_1928 : decode cL_law 1928 = .ok (.ifCond .ne 15, 3) := by decide +kernel
theorem dL_law_1931 : decode cL_law 1931 = .ok (.aload_n 3, 1) := by decide +kernel
theorem dL_law_1932 : decode cL_law 1932 = .ok (.iconst 0, 1) := by decide +kernel
theorem dL_law_1933 : decode cL_law 1933 = .ok (.laload, 1) := by decide +kernel
theorem dL_law_1934 : decode cL_law 1934 = .ok (.iload 6, 2) := by decide +kernel
theorem dL_law_1936 : decode cL_law 1936 = .ok (.i2l, 1) := by decide +kernel
theorem dL_law_1937 : decode cL_law 1937 = .ok (.lcmp, 1) := by decide +kernel
theorem dL_law_1938 : decode cL_law 1938 = .ok (.ifCond .eq 5, 3) := by decide +kernel
theorem dL_law_1941 : decode cL_law 1941 = .ok (.iconst 0, 1) := by decide +kernel
theorem dL_law_1942 : decode cL_law 1942 = .ok (.ireturn, 1) := by decide +kernel
theorem dL_law_1943 : decode cL_law 1943 = .ok (.goto 238, 3) := by decide +kernel
theorem dL_law_1946 : decode cL_law 1946 = .ok (.aload_n 1, 1) := by decide +kernel
theorem dL_law_1947 : decode cL_law 1947 = .ok (.aload_n 0, 1) := by decide +kernel
theorem dL_law_1948 : decode cL_law 1948 = .ok (.iload 4, 2) := by decide +kernel
theorem dL_law_1950 : decode cL_law 1950 = .ok (.iconst 1, 1) := by decide +kernel
theorem dL_law_1951 : decode cL_law 1951 = .ok (.iadd, 1) := by decide +kernel
theorem dL_law_1952 : decode cL_law 1952 = .ok (.iaload, 1) := by decide +kernel
theorem dL_law_1953 : decode cL_law 1953 = .ok (.aload_n 0, 1) := by decide +kernel
theorem dL_law_1954 : decode cL_law 1954 = .ok (.iload 4, 2) := by decide +kernel
theorem dL_law_1956 : decode cL_law 1956 = .ok (.iconst 2, 1) := by decide +kernel
theorem dL_law_1957 : decode cL_law 1957 = .ok (.iadd, 1) := by decide +kernel
theorem dL_law_1958 : decode cL_law 1958 = .ok (.iaload, 1) := by decide +kernel
theorem dL_law_1959 : decode cL_law 1959 = .ok (.aload_n 3, 1) := by decide +kernel
theorem dL_law_1960 : decode cL_law 1960 = .ok (.invokestatic 209, 3) := by decide +kernel
theorem dL_law_1963 : decode cL_law 1963 = .ok (.istore 5, 2) := by decide +kernel
theorem dL_law_1965 : decode cL_law 1965 = .ok (.aload_n 2, 1) := by decide +kernel
theorem dL_law_1966 : decode cL_law 1966 = .ok (.aload_n 0, 1) := by decide +kernel
theorem dL_law_1967 : decode cL_law 1967 = .ok (.iload 4, 2) := by decide +kernel
theorem dL_law_1969 : decode cL_law 1969 = .ok (.iconst 1, 1) := by decide +kernel
theorem dL_law_1970 : decode cL_law 1970 = .ok (.iadd, 1) := by decide +kernel
theorem dL_law_1971 : decode cL_law 1971 = .ok (.iaload, 1) := by decide +kernel
theorem dL_law_1972 : decode cL_law 1972 = .ok (.aload_n 0, 1) := by decide +kernel
theorem dL_law_1973 : decode cL_law 1973 = .ok (.iload 4, 2) := by decide +kernel
theorem dL_law_1975 : decode cL_law 1975 = .ok (.iconst 2, 1) := by decide +kernel
theorem dL_law_1976 : decode cL_law 1976 = .ok (.iadd, 1) := by decide +kernel
theorem dL_law_1977 : decode cL_law 1977 = .ok (.iaload, 1) := by decide +kernel
theorem dL_law_1978 : decode cL_law 1978 = .ok (.invokevirtual 211, 3) := by decide +kernel
theorem dL_law_1981 : decode cL_law 1981 = .ok (.istore 6, 2) := by decide +kernel
theorem dL_law_1983 : decode cL_law 1983 = .ok (.aload_n 2, 1) := by decide +kernel
theorem dL_law_1984 : decode cL_law 1984 = .ok (.invokevirtual 118, 3) := by decide +kernel
theorem dL_law_1987 : decode cL_law 1987 = .ok (.iload 5, 2) := by decide +kernel
theorem dL_law_1989 : decode cL_law 1989 = .ok (.if_icmp .eq 5, 3) := by decide +kernel
theorem dL_law_1992 : decode cL_law 1992 = .ok (.iconst 0, 1) := by decide +kernel
theorem dL_law_1993 : decode cL_law 1993 = .ok (.ireturn, 1) := by decide +kernel
theorem dL_law_1994 : decode cL_law 1994 = .ok (.iload 5, 2) := by decide +kernel
theorem dL_law_1996 : decode cL_law 1996 = .ok (.ifCond .ne 15, 3) := by decide +kernel
theorem dL_law_1999 : decode cL_law 1999 = .ok (.aload_n 3, 1) := by decide +kernel
theorem dL_law_2000 : decode cL_law 2000 = .ok (.iconst 0, 1) := by decide +kernel
theorem dL_law_2001 : decode cL_law 2001 = .ok (.laload, 1) := by decide +kernel
theorem dL_law_2002 : decode cL_law 2002 = .ok (.iload 6, 2) := by decide +kernel
theorem dL_law_2004 : decode cL_law 2004 = .ok (.i2l, 1) := by decide +kernel
theorem dL_law_2005 : decode cL_law 2005 = .ok (.lcmp, 1) := by decide +kernel
theorem dL_law_2006 : decode cL_law 2006 = .ok (.ifCond .eq 5, 3) := by decide +kernel
theorem dL_law_2009 : decode cL_law 2009 = .ok (.iconst 0, 1) := by decide +kernel
theorem dL_law_2010 : decode cL_law 2010 = .ok (.ireturn, 1) := by decide +kernel
theorem dL_law_2011 : decode cL_law 2011 = .ok (.goto 170, 3) := by decide +kernel
theorem dL_law_2014 : decode cL_law 2014 = .ok (.aload_n 1, 1) := by decide +kernel
theorem dL_law_2015 : decode cL_law 2015 = .ok (.aload_n 0, 1) := by decide +kernel
theorem dL_law_2016 : decode cL_law 2016 = .ok (.iload 4, 2) := by decide +kernel
theorem dL_law_2018 : decode cL_law 2018 = .ok (.iconst 1, 1) := by decide +kernel
theorem dL_law_2019 : decode cL_law 2019 = .ok (.iadd, 1) := by decide +kernel
theorem dL_law_2020 : decode cL_law 2020 = .ok (.iaload, 1) := by decide +kernel
theorem dL_law_2021 : decode cL_law 2021 = .ok (.aload_n 3, 1) := by decide +kernel
theorem dL_law_2022 : decode cL_law 2022 = .ok (.invokestatic 212, 3) := by decide +kernel
theorem dL_law_2025 : decode cL_law 2025 = .ok (.istore 5, 2) := by decide +kernel
theorem dL_law_2027 : decode cL_law 2027 = .ok (.aload_n 2, 1) := by decide +kernel
theorem dL_law_2028 : decode cL_law 2028 = .ok (.aload_n 0, 1) := by decide +kernel
theorem dL_law_2029 : decode cL_law 2029 = .ok (.iload 4, 2) := by decide +kernel
theorem dL_law_2031 : decode cL_law 2031 = .ok (.iconst 1, 1) := by decide +kernel
theorem dL_law_2032 : decode cL_law 2032 = .ok (.iadd, 1) := by decide +kernel
theorem dL_law_2033 : decode cL_law 2033 = .ok (.iaload, 1) := by decide +kernel
theorem dL_law_2034 : decode cL_law 2034 = .ok (.invokevirtual 214, 3) := by decide +kernel
theorem dL_law_2037 : decode cL_law 2037 = .ok (.istore 6, 2) := by decide +kernel
theorem dL_law_2039 : decode cL_law 2039 = .ok (.aload_n 2, 1) := by decide +kernel
theorem dL_law_2040 : decode cL_law 2040 = .ok (.invokevirtual 118, 3) := by decide +kernel
theorem dL_law_2043 : decode cL_law 2043 = .ok (.iload 5, 2) := by decide +kernel
theorem dL_law_2045 : decode cL_law 2045 = .ok (.if_icmp .eq 5, 3) := by decide +kernel
theorem dL_law_2048 : decode cL_law 2048 = .ok (.iconst 0, 1) := by decide +kernel
theorem dL_law_2049 : decode cL_law 2049 = .ok (.ireturn, 1) := by decide +kernel
theorem dL_law_2050 : decode cL_law 2050 = .ok (.iload 5, 2) := by decide +kernel
theorem dL_law_2052 : decode cL_law 2052 = .ok (.ifCond .ne 15, 3) := by decide +kernel
theorem dL_law_2055 : decode cL_law 2055 = .ok (.aload_n 3, 1) := by decide +kernel
theorem dL_law_2056 : decode cL_law 2056 = .ok (.iconst 0, 1) := by decide +kernel
theorem dL_law_2057 : decode cL_law 2057 = .ok (.laload, 1) := by decide +kernel
theorem dL_law_2058 : decode cL_law 2058 = .ok (.iload 6, 2) := by decide +kernel
theorem dL_law_2060 : decode cL_law 2060 = .ok (.i2l, 1) := by decide +kernel
theorem dL_law_2061 : decode cL_law 2061 = .ok (.lcmp, 1) := by decide +kernel
theorem dL_law_2062 : decode cL_law 2062 = .ok (.ifCond .eq 5, 3) := by decide +kernel
theorem dL_law_2065 : decode cL_law 2065 = .ok (.iconst 0, 1) := by decide +kernel
theorem dL_law_2066 : decode cL_law 2066 = .ok (.ireturn, 1) := by decide +kernel
theorem dL_law_2067 : decode cL_law 2067 = .ok (.goto 114, 3) := by decide +kernel
theorem dL_law_2070 : decode cL_law 2070 = .ok (.aload_n 1, 1) := by decide +kernel
theorem dL_law_2071 : decode cL_law 2071 = .ok (.aload_n 0, 1) := by decide +kernel
theorem dL_law_2072 : decode cL_law 2072 = .ok (.iload 4, 2) := by decide +kernel
theorem dL_law_2074 : decode cL_law 2074 = .ok (.iconst 1, 1) := by decide +kernel
theorem dL_law_2075 : decode cL_law 2075 = .ok (.iadd, 1) := by decide +kernel
theorem dL_law_2076 : decode cL_law 2076 = .ok (.iaload, 1) := by decide +kernel
theorem dL_law_2077 : decode cL_law 2077 = .ok (.aload_n 3, 1) := by decide +kernel
theorem dL_law_2078 : decode cL_law 2078 = .ok (.invokestatic 215, 3) := by decide +kernel
theorem dL_law_2081 : decode cL_law 2081 = .ok (.istore 5, 2) := by decide +kernel
theorem dL_law_2083 : decode cL_law 2083 = .ok (.aload_n 2, 1) := by decide +kernel
theorem dL_law_2084 : decode cL_law 2084 = .ok (.aload_n 0, 1) := by decide +kernel
theorem dL_law_2085 : decode cL_law 2085 = .ok (.iload 4, 2) := by decide +kernel
theorem dL_law_2087 : decode cL_law 2087 = .ok (.iconst 1, 1) := by decide +kernel
theorem dL_law_2088 : decode cL_law 2088 = .ok (.iadd, 1) := by decide +kernel
theorem dL_law_2089 : decode cL_law 2089 = .ok (.iaload, 1) := by decide +kernel
theorem dL_law_2090 : decode cL_law 2090 = .ok (.invokevirtual 217, 3) := by decide +kernel
theorem dL_law_2093 : decode cL_law 2093 = .ok (.istore 6, 2) := by decide +kernel
theorem dL_law_2095 : decode cL_law 2095 = .ok (.aload_n 2, 1) := by decide +kernel
theorem dL_law_2096 : decode cL_law 2096 = .ok (.invokevirtual 118, 3) := by decide +kernel
theorem dL_law_2099 : decode cL_law 2099 = .ok (.iload 5, 2) := by decide +kernel
theorem dL_law_2101 : decode cL_law 2101 = .ok (.if_icmp .eq 5, 3) := by decide +kernel
theorem dL_law_2104 : decode cL_law 2104 = .ok (.iconst 0, 1) := by decide +kernel
theorem dL_law_2105 : decode cL_law 2105 = .ok (.ireturn, 1) := by decide +kernel
theorem dL_law_2106 : decode cL_law 2106 = .ok (.iload 5, 2) := by decide +kernel
theorem dL_law_2108 : decode cL_law 2108 = .ok (.ifCond .ne 15, 3) := by decide +kernel
theorem dL_law_2111 : decode cL_law 2111 = .ok (.aload_n 3, 1) := by decide +kernel
theorem dL_law_2112 : decode cL_law 2112 = .ok (.iconst 0, 1) := by decide +kernel
theorem dL_law_2113 : decode cL_law 2113 = .ok (.laload, 1) := by decide +kernel
theorem dL_law_2114 : decode cL_law 2114 = .ok (.iload 6, 2) := by decide +kernel
theorem dL_law_2116 : decode cL_law 2116 = .ok (.i2l, 1) := by decide +kernel
theorem dL_law_2117 : decode cL_law 2117 = .ok (.lcmp, 1) := by decide +kernel
theorem dL_law_2118 : decode cL_law 2118 = .ok (.ifCond .eq 5, 3) := by decide +kernel
theorem dL_law_2121 : decode cL_law 2121 = .ok (.iconst 0, 1) := by decide +kernel
theorem dL_law_2122 : decode cL_law 2122 = .ok (.ireturn, 1) := by decide +kernel
theorem dL_law_2123 : decode cL_law 2123 = .ok (.goto 58, 3) := by decide +kernel
theorem dL_law_2126 : decode cL_law 2126 = .ok (.aload_n 1, 1) := by decide +kernel
theorem dL_law_2127 : decode cL_law 2127 = .ok (.invokevirtual 218, 3) := by decide +kernel
theorem dL_law_2130 : decode cL_law 2130 = .ok (.dstore 5, 2) := by decide +kernel
theorem dL_law_2132 : decode cL_law 2132 = .ok (.aload_n 2, 1) := by decide +kernel
theorem dL_law_2133 : decode cL_law 2133 = .ok (.invokevirtual 222, 3) := by decide +kernel
theorem dL_law_2136 : decode cL_law 2136 = .ok (.dstore 7, 2) := by decide +kernel
theorem dL_law_2138 : decode cL_law 2138 = .ok (.dload 5, 2) := by decide +kernel
theorem dL_law_2140 : decode cL_law 2140 = .ok (.dload 7, 2) := by decide +kernel
theorem dL_law_2142 : decode cL_law 2142 = .ok (.dcmp .l, 1) := by decide +kernel
theorem dL_law_2143 : decode cL_law 2143 = .ok (.ifCond .eq 21, 3) := by decide +kernel
theorem dL_law_2146 : decode cL_law 2146 = .ok (.dload 5, 2) := by decide +kernel
theorem dL_law_2148 : decode cL_law 2148 = .ok (.dload 5, 2) := by decide +kernel
theorem dL_law_2150 : decode cL_law 2150 = .ok (.dcmp .l, 1) := by decide +kernel
theorem dL_law_2151 : decode cL_law 2151 = .ok (.ifCond .eq 11, 3) := by decide +kernel
theorem dL_law_2154 : decode cL_law 2154 = .ok (.dload 7, 2) := by decide +kernel
theorem dL_law_2156 : decode cL_law 2156 = .ok (.dload 7, 2) := by decide +kernel
theorem dL_law_2158 : decode cL_law 2158 = .ok (.dcmp .l, 1) := by decide +kernel
theorem dL_law_2159 : decode cL_law 2159 = .ok (.ifCond .ne 5, 3) := by decide +kernel
theorem dL_law_2162 : decode cL_law 2162 = .ok (.iconst 0, 1) := by decide +kernel
theorem dL_law_2163 : decode cL_law 2163 = .ok (.ireturn, 1) := by decide +kernel
theorem dL_law_2164 : decode cL_law 2164 = .ok (.goto 17, 3) := by decide +kernel
theorem dL_law_2167 : decode cL_law 2167 = .ok (.aload_n 1, 1) := by decide +kernel
theorem dL_law_2168 : decode cL_law 2168 = .ok (.invokevirtual 223, 3) := by decide +kernel
theorem dL_law_2171 : decode cL_law 2171 = .ok (.aload_n 2, 1) := by decide +kernel
theorem dL_law_2172 : decode cL_law 2172 = .ok (.invokevirtual 227, 3) := by decide +kernel
theorem dL_law_2175 : decode cL_law 2175 = .ok (.lcmp, 1) := by decide +kernel
theorem dL_law_2176 : decode cL_law 2176 = .ok (.ifCond .eq 5, 3) := by decide +kernel
theorem dL_law_2179 : decode cL_law 2179 = .ok (.iconst 0, 1) := by decide +kernel
theorem dL_law_2180 : decode cL_law 2180 = .ok (.ireturn, 1) := by decide +kernel
theorem dL_law_2181 : decode cL_law 2181 = .ok (.iinc 4 6, 3) := by decide +kernel
theorem dL_law_2184 : decode cL_law 2184 = .ok (.goto (-2161), 3) := by decide +kernel
theorem dL_law_2187 : decode cL_law 2187 = .ok (.iconst 1, 1) := by decide +kernel
theorem dL_law_2188 : decode cL_law 2188 = .ok (.ireturn, 1) := by decide +kernel

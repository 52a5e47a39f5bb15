theorem dX7_cook_11 : decode cX7_cook 11 = .ok (.iload_n 2, 1) := by decide +kernel
theorem dX7_cook_12 : decode cX7_cook 12 = .ok (.iconst 0, 1) := by decide +kernel
theorem dX7_cook_13 : decode cX7_cook 13 = .ok (.iconst 2, 1) := by decide +kernel
theorem dX7_cook_14 : decode cX7_cook 14 = .ok (.invokestatic 41, 3) := by decide +kernel
theorem dX7_cook_17 : decode cX7_cook 17 = .ok (.iload_n 3, 1) := by decide +kernel
theorem dX7_cook_18 : decode cX7_cook 18 = .ok (.iconst 1, 1) := by decide +kernel
theorem dX7_cook_19 : decode cX7_cook 19 = .ok (.sipush 300, 3) := by decide +kernel
theorem dX7_cook_22 : decode cX7_cook 22 = .ok (.invokestatic 41, 3) := by decide +kernel
theorem dX7_cook_25 : decode cX7_cook 25 = .ok (.aload_n 0, 1) := by decide +kernel
theorem dX7_cook_26 : decode cX7_cook 26 = .ok (.getfield 10, 3) := by decide +kernel
theorem dX7_cook_29 : decode cX7_cook 29 = .ok (.getfield 87, 3) := by decide +kernel
theorem dX7_cook_32 : decode cX7_cook 32 = .ok (.iload_n 1, 1) := by decide +kernel
theorem dX7_cook_33 : decode cX7_cook 33 = .ok (.aaload, 1) := by decide +kernel
theorem dX7_cook_34 : decode cX7_cook 34 = .ok (.astore 4, 2) := by decide +kernel
theorem dX7_cook_36 : decode cX7_cook 36 = .ok (.aload 4, 2) := by decide +kernel
theorem dX7_cook_38 : decode cX7_cook 38 = .ok (.getfield 96, 3) := by decide +kernel
theorem dX7_cook_41 : decode cX7_cook 41 = .ok (.ifCond .ne 17, 3) := by decide +kernel
theorem dX7_cook_44 : decode cX7_cook 44 = .ok (.aload 4, 2) := by decide +kernel
theorem dX7_cook_46 : decode cX7_cook 46 = .ok (.iload_n 2, 1) := by decide +kernel
theorem dX7_cook_47 : decode cX7_cook 47 = .ok (.invokevirtual 99, 3) := by decide +kernel
theorem dX7_cook_50 : decode cX7_cook 50 = .ok (.iload_n 3, 1) := by decide +kernel
theorem dX7_cook_51 : decode cX7_cook 51 = .ok (.if_icmp .lt 7, 3) := by decide +kernel
theorem dX7_cook_54 : decode cX7_cook 54 = .ok (.iconst 1, 1) := by decide +kernel
theorem dX7_cook_55 : decode cX7_cook 55 = .ok (.goto 4, 3) := by decide +kernel
theorem dX7_cook_58 : decode cX7_cook 58 = .ok (.iconst 0, 1) := by decide +kernel
theorem dX7_cook_59 : decode cX7_cook 59 = .ok (.invokestatic 48, 3) := by decide +kernel
theorem dX7_cook_62 : decode cX7_cook 62 = .ok (.aload_n 0, 1) := by decide +kernel
theorem dX7_cook_63 : decode cX7_cook 63 = .ok (.getfield 22, 3) := by decide +kernel
theorem dX7_cook_66 : decode cX7_cook 66 = .ok (.aload_n 0, 1) := by decide +kernel
theorem dX7_cook_67 : decode cX7_cook 67 = .ok (.getfield 10, 3) := by decide +kernel
theorem dX7_cook_70 : decode cX7_cook 70 = .ok (.invokevirtual 52, 3) := by decide +kernel
theorem dX7_cook_73 : decode cX7_cook 73 = .ok (.aload 4, 2) := by decide +kernel
theorem dX7_cook_75 : decode cX7_cook 75 = .ok (.iload_n 2, 1) := by decide +kernel
theorem dX7_cook_76 : decode cX7_cook 76 = .ok (.iload_n 3, 1) := by decide +kernel
theorem dX7_cook_77 : decode cX7_cook 77 = .ok (.invokevirtual 102, 3) := by decide +kernel
theorem dX7_cook_80 : decode cX7_cook 80 = .ok (.iload_n 3, 1) := by decide +kernel
theorem dX7_cook_81 : decode cX7_cook 81 = .ok (.aload_n 0, 1) := by decide +kernel
theorem dX7_cook_82 : decode cX7_cook 82 = .ok (.getfield 10, 3) := by decide +kernel
theorem dX7_cook_85 : decode cX7_cook 85 = .ok (.getfield 84, 3) := by decide +kernel
theorem dX7_cook_88 : decode cX7_cook 88 = .ok (.iconst 4, 1) := by decide +kernel
theorem dX7_cook_89 : decode cX7_cook 89 = .ok (.iaload, 1) := by decide +kernel
theorem dX7_cook_90 : decode cX7_cook 90 = .ok (.invokestatic 105, 3) := by decide +kernel
theorem dX7_cook_93 : decode cX7_cook 93 = .ok (.ireturn, 1) := by decide +kernel
theorem dX7_load_0 : decode cX7_load 0 = .ok (.iload_n 1, 1) := by decide +kernel
theorem dX7_load_1 : decode cX7_load 1 = .ok (.aload_n 0, 1) := by decide +kernel
theorem dX7_load_2 : decode cX7_load 2 = .ok (.getfield 10, 3) := by decide +kernel
theorem dX7_load_5 : decode cX7_load 5 = .ok (.getfield 71, 3) := by decide +kernel
theorem dX7_load_8 : decode cX7_load 8 = .ok (.invokestatic 60, 3) := by decide +kernel
theorem dX7_load_11 : decode cX7_load 11 = .ok (.iload_n 2, 1) := by decide +kernel
theorem dX7_load_12 : decode cX7_load 12 = .ok (.aload_n 0, 1) := by decide +kernel
theorem dX7_load_13 : decode cX7_load 13 = .ok (.getfield 10, 3) := by decide +kernel
theorem dX7_load_16 : decode cX7_load 16 = .ok (.getfield 64, 3) := by decide +kernel
theorem dX7_load_19 : decode cX7_load 19 = .ok (.invokestatic 60, 3) := by decide +kernel
theorem dX7_load_22 : decode cX7_load 22 = .ok (.iload_n 3, 1) := by decide +kernel
theorem dX7_load_23 : decode cX7_load 23 = .ok (.iconst 0, 1) := by decide +kernel
theorem dX7_load_24 : decode cX7_load 24 = .ok (.iconst 2, 1) := by decide +kernel
theorem dX7_load_25 : decode cX7_load 25 = .ok (.invokestatic 41, 3) := by decide +kernel
theorem dX7_load_28 : decode cX7_load 28 = .ok (.iload 4, 2) := by decide +kernel
theorem dX7_load_30 : decode cX7_load 30 = .ok (.iconst 1, 1) := by decide +kernel
theorem dX7_load_31 : decode cX7_load 31 = .ok (.sipush 500, 3) := by decide +kernel
theorem dX7_load_34 : decode cX7_load 34 = .ok (.invokestatic 41, 3) := by decide +kernel
theorem dX7_load_37 : decode cX7_load 37 = .ok (.aload_n 0, 1) := by decide +kernel
theorem dX7_load_38 : decode cX7_load 38 = .ok (.getfield 10, 3) := by decide +kernel
theorem dX7_load_41 : decode cX7_load 41 = .ok (.getfield 108, 3) := by decide +kernel
theorem dX7_load_44 : decode cX7_load 44 = .ok (.iload_n 1, 1) := by decide +kernel
theorem dX7_load_45 : decode cX7_load 45 = .ok (.aaload, 1) := by decide +kernel
theorem dX7_load_46 : decode cX7_load 46 = .ok (.astore 5, 2) := by decide +kernel
theorem dX7_load_48 : decode cX7_load 48 = .ok (.aload_n 0, 1) := by decide +kernel
theorem dX7_load_49 : decode cX7_load 49 = .ok (.getfield 10, 3) := by decide +kernel
theorem dX7_load_52 : decode cX7_load 52 = .ok (.getfield 87, 3) := by decide +kernel
theorem dX7_load_55 : decode cX7_load 55 = .ok (.iload_n 2, 1) := by decide +kernel
theorem dX7_load_56 : decode cX7_load 56 = .ok (.aaload, 1) := by decide +kernel
theorem dX7_load_57 : decode cX7_load 57 = .ok (.astore 6, 2) := by decide +kernel
theorem dX7_load_59 : decode cX7_load 59 = .ok (.aload 5, 2) := by decide +kernel
theorem dX7_load_61 : decode cX7_load 61 = .ok (.getfield 112, 3) := by decide +kernel
theorem dX7_load_64 : decode cX7_load 64 = .ok (.aload 6, 2) := by decide +kernel
theorem dX7_load_66 : decode cX7_load 66 = .ok (.getfield 117, 3) := by decide +kernel
theorem dX7_load_69 : decode cX7_load 69 = .ok (.if_icmp .ne 7, 3) := by decide +kernel
theorem dX7_load_72 : decode cX7_load 72 = .ok (.iconst 1, 1) := by decide +kernel
theorem dX7_load_73 : decode cX7_load 73 = .ok (.goto 4, 3) := by decide +kernel
theorem dX7_load_76 : decode cX7_load 76 = .ok (.iconst 0, 1) := by decide +kernel
theorem dX7_load_77 : decode cX7_load 77 = .ok (.invokestatic 48, 3) := by decide +kernel
theorem dX7_load_80 : decode cX7_load 80 = .ok (.aload 6, 2) := by decide +kernel
theorem dX7_load_82 : decode cX7_load 82 = .ok (.getfield 118, 3) := by decide +kernel
theorem dX7_load_85 : decode cX7_load 85 = .ok (.getfield 122, 3) := by decide +kernel
theorem dX7_load_88 : decode cX7_load 88 = .ok (.iload_n 3, 1) := by decide +kernel
theorem dX7_load_89 : decode cX7_load 89 = .ok (.iaload, 1) := by decide +kernel
theorem dX7_load_90 : decode cX7_load 90 = .ok (.iload 4, 2) := by decide +kernel
theorem dX7_load_92 : decode cX7_load 92 = .ok (.if_icmp .lt 7, 3) := by decide +kernel
theorem dX7_load_95 : decode cX7_load 95 = .ok (.iconst 1, 1) := by decide +kernel
theorem dX7_load_96 : decode cX7_load 96 = .ok (.goto 4, 3) := by decide +kernel
theorem dX7_load_99 : decode cX7_load 99 = .ok (.iconst 0, 1) := by decide +kernel
theorem dX7_load_100 : decode cX7_load 100 = .ok (.invokestatic 48, 3) := by decide +kernel
theorem dX7_load_103 : decode cX7_load 103 = .ok (.aload 5, 2) := by decide +kernel
theorem dX7_load_105 : decode cX7_load 105 = .ok (.getfield 127, 3) := by decide +kernel
theorem dX7_load_108 : decode cX7_load 108 = .ok (.invokevirtual 128, 3) := by decide +kernel
theorem dX7_load_111 : decode cX7_load 111 = .ok (.iload 4, 2) := by decide +kernel
theorem dX7_load_113 : decode cX7_load 113 = .ok (.iadd, 1) := by decide +kernel
theorem dX7_load_114 : decode cX7_load 114 = .ok (.aload_n 0, 1) := by decide +kernel
theorem dX7_load_115 : decode cX7_load 115 = .ok (.getfield 10, 3) := by decide +kernel
theorem dX7_load_118 : decode cX7_load 118 = .ok (.getfield 84, 3) := by decide +kernel
theorem dX7_load_121 : decode cX7_load 121 = .ok (.iconst 5, 1) := by decide +kernel
theorem dX7_load_122 : decode cX7_load 122 = .ok (.iaload, 1) := by decide +kernel
theorem dX7_load_123 : decode cX7_load 123 = .ok (.if_icmp .gt 7, 3) := by decide +kernel
theorem dX7_load_126 : decode cX7_load 126 = .ok (.iconst 1, 1) := by decide +kernel
theorem dX7_load_127 : decode cX7_load 127 = .ok (.goto 4, 3) := by decide +kernel
theorem dX7_load_130 : decode cX7_load 130 = .ok (.iconst 0, 1) := by decide +kernel
theorem dX7_load_131 : decode cX7_load 131 = .ok (.invokestatic 48, 3) := by decide +kernel
theorem dX7_load_134 : decode cX7_load 134 = .ok (.aload_n 0, 1) := by decide +kernel
theorem dX7_load_135 : decode cX7_load 135 = .ok (.getfield 22, 3) := by decide +kernel
theorem dX7_load_138 : decode cX7_load 138 = .ok (.aload_n 0, 1) := by decide +kernel
theorem dX7_load_139 : decode cX7_load 139 = .ok (.getfield 10, 3) := by decide +kernel
theorem dX7_load_142 : decode cX7_load 142 = .ok (.invokevirtual 52, 3) := by decide +kernel
theorem dX7_load_145 : decode cX7_load 145 = .ok (.aload 6, 2) := by decide +kernel
theorem dX7_load_147 : decode cX7_load 147 = .ok (.getfield 118, 3) := by decide +kernel
theorem dX7_load_150 : decode cX7_load 150 = .ok (.iload_n 3, 1) := by decide +kernel
theorem dX7_load_151 : decode cX7_load 151 = .ok (.iload 4, 2) := by decide +kernel
theorem dX7_load_153 : decode cX7_load 153 = .ok (.aload_n 0, 1) := by decide +kernel
theorem dX7_load_154 : decode cX7_load 154 = .ok (.getfield 10, 3) := by decide +kernel
theorem dX7_load_157 : decode cX7_load 157 = .ok (.getfield 132, 3) := by decide +kernel
theorem dX7_load_160 : decode cX7_load 160 = .ok (.aload 5, 2) := by decide +kernel
theorem dX7_load_162 : decode cX7_load 162 = .ok (.getfield 127, 3) := by decide +kernel
theorem dX7_load_165 : decode cX7_load 165 = .ok (.invokevirtual 135, 3) := by decide +kernel
theorem dX7_load_168 : decode cX7_load 168 = .ok (.aload 5, 2) := by decide +kernel
theorem dX7_load_170 : decode cX7_load 170 = .ok (.getfield 127, 3) := by decide +kernel
theorem dX7_load_173 : decode cX7_load 173 = .ok (.invokevirtual 128, 3) := by decide +kernel
theorem dX7_load_176 : decode cX7_load 176 = .ok (.ireturn, 1) := by decide +kernel
theorem dX7_unload_0 : decode cX7_unload 0 = .ok (.iload_n 1, 1) := by decide +kernel
theorem dX7_unload_1 : decode cX7_unload 1 = .ok (.aload_n 0, 1) := by decide +kernel
theorem dX7_unload_2 : decode cX7_unload 2 = .ok (.getfield 10, 3) := by decide +kernel
theorem dX7_unload_5 : decode cX7_unload 5 = .ok (.getfield 71, 3) := by decide +kernel
theorem dX7_unload_8 : decode cX7_unload 8 = .ok (.invokestatic 60, 3) := by decide +kernel
theorem dX7_unload_11 : decode cX7_unload 11 = .ok (.iload_n 2, 1) := by decide +kernel
theorem dX7_unload_12 : decode cX7_unload 12 = .ok (.aload_n 0, 1) := by decide +kernel
theorem dX7_unload_13 : decode cX7_unload 13 = .ok (.getfield 10, 3) := by decide +kernel
theorem dX7_unload_16 : decode cX7_unload 16 = .ok (.getfield 64, 3) := by decide +kernel
theorem dX7_unload_19 : decode cX7_unload 19 = .ok (.invokestatic 60, 3) := by decide +kernel
theorem dX7_unload_22 : decode cX7_unload 22 = .ok (.aload_n 0, 1) := by decide +kernel
theorem dX7_unload_23 : decode cX7_unload 23 = .ok (.getfield 10, 3) := by decide +kernel
theorem dX7_unload_26 : decode cX7_unload 26 = .ok (.getfield 108, 3) := by decide +kernel
theorem dX7_unload_29 : decode cX7_unload 29 = .ok (.iload_n 1, 1) := by decide +kernel
theorem dX7_unload_30 : decode cX7_unload 30 = .ok (.aaload, 1) := by decide +kernel
theorem dX7_unload_31 : decode cX7_unload 31 = .ok (.astore_n 3, 1) := by decide +kernel
theorem dX7_unload_32 : decode cX7_unload 32 = .ok (.aload_n 0, 1) := by decide +kernel
theorem dX7_unload_33 : decode cX7_unload 33 = .ok (.getfield 10, 3) := by decide +kernel
theorem dX7_unload_36 : decode cX7_unload 36 = .ok (.getfield 87, 3) := by decide +kernel
theorem dX7_unload_39 : decode cX7_unload 39 = .ok (.iload_n 2, 1) := by decide +kernel
theorem dX7_unload_40 : decode cX7_unload 40 = .ok (.aaload, 1) := by decide +kernel
theorem dX7_unload_41 : decode cX7_unload 41 = .ok (.astore 4, 2) := by decide +kernel
theorem dX7_unload_43 : decode cX7_unload 43 = .ok (.aload_n 3, 1) := by decide +kernel
theorem dX7_unload_44 : decode cX7_unload 44 = .ok (.getfield 112, 3) := by decide +kernel
theorem dX7_unload_47 : decode cX7_unload 47 = .ok (.aload 4, 2) := by decide +kernel
theorem dX7_unload_49 : decode cX7_unload 49 = .ok (.getfield 117, 3) := by decide +kernel
theorem dX7_unload_52 : decode cX7_unload 52 = .ok (.if_icmp .ne 7, 3) := by decide +kernel
theorem dX7_unload_55 : decode cX7_unload 55 = .ok (.iconst 1, 1) := by decide +kernel
theorem dX7_unload_56 : decode cX7_unload 56 = .ok (.goto 4, 3) := by decide +kernel
theorem dX7_unload_59 : decode cX7_unload 59 = .ok (.iconst 0, 1) := by decide +kernel
theorem dX7_unload_60 : decode cX7_unload 60 = .ok (.invokestatic 48, 3) := by decide +kernel
theorem dX7_unload_63 : decode cX7_unload 63 = .ok (.aload_n 0, 1) := by decide +kernel
theorem dX7_unload_64 : decode cX7_unload 64 = .ok (.getfield 22, 3) := by decide +kernel
theorem dX7_unload_67 : decode cX7_unload 67 = .ok (.aload_n 0, 1) := by decide +kernel
theorem dX7_unload_68 : decode cX7_unload 68 = .ok (.getfield 10, 3) := by decide +kernel
theorem dX7_unload_71 : decode cX7_unload 71 = .ok (.invokevirtual 52, 3) := by decide +kernel
theorem dX7_unload_74 : decode cX7_unload 74 = .ok (.aload_n 3, 1) := by decide +kernel
theorem dX7_unload_75 : decode cX7_unload 75 = .ok (.getfield 127, 3) := by decide +kernel
theorem dX7_unload_78 : decode cX7_unload 78 = .ok (.invokevirtual 128, 3) := by decide +kernel
theorem dX7_unload_81 : decode cX7_unload 81 = .ok (.istore 5, 2) := by decide +kernel
theorem dX7_unload_83 : decode cX7_unload 83 = .ok (.iconst 0, 1) := by decide +kernel
theorem dX7_unload_84 : decode cX7_unload 84 = .ok (.istore 6, 2) := by decide +kernel
theorem dX7_unload_86 : decode cX7_unload 86 = .ok (.iload 6, 2) := by decide +kernel
theorem dX7_unload_88 : decode cX7_unload 88 = .ok (.iconst 3, 1) := by decide +kernel
theorem dX7_unload_89 : decode cX7_unload 89 = .ok (.if_icmp .ge 32, 3) := by decide +kernel
theorem dX7_unload_92 : decode cX7_unload 92 = .ok (.aload_n 3, 1) := by decide +kernel
theorem dX7_unload_93 : decode cX7_unload 93 = .ok (.getfield 127, 3) := by decide +kernel
theorem dX7_unload_96 : decode cX7_unload 96 = .ok (.iload 6, 2) := by decide +kernel
theorem dX7_unload_98 : decode cX7_unload 98 = .ok (.iload 5, 2) := by decide +kernel
theorem dX7_unload_100 : decode cX7_unload 100 = .ok (.aload_n 0, 1) := by decide +kernel
theorem dX7_unload_101 : decode cX7_unload 101 = .ok (.getfield 10, 3) := by decide +kernel
theorem dX7_unload_104 : decode cX7_unload 104 = .ok (.getfield 132, 3) := by decide +kernel
theorem dX7_unload_107 : decode cX7_unload 107 = .ok (.aload 4, 2) := by decide +kernel
theorem dX7_unload_109 : decode cX7_unload 109 = .ok (.getfield 118, 3) := by decide +kernel
theorem dX7_unload_112 : decode cX7_unload 112 = .ok (.invokevirtual 135, 3) := by decide +kernel
theorem dX7_unload_115 : decode cX7_unload 115 = .ok (.iinc 6 1, 3) := by decide +kernel
theorem dX7_unload_118 : decode cX7_unload 118 = .ok (.goto (-32), 3) := by decide +kernel
theorem dX7_unload_121 : decode cX7_unload 121 = .ok (.iload 5, 2) := by decide +kernel
theorem dX7_unload_123 : decode cX7_unload 123 = .ok (.ireturn, 1) := by decide +kernel
theorem dX7_drive_0 : decode cX7_drive 0 = .ok (.iload_n 1, 1) := by decide +kernel
theorem dX7_drive_1 : decode cX7_drive 1 = .ok (.aload_n 0, 1) := by decide +kernel
theorem dX7_drive_2 : decode cX7_drive 2 = .ok (.getfield 10, 3) := by decide +kernel
theorem dX7_drive_5 : decode cX7_drive 5 = .ok (.getfield 71, 3) := by decide +kernel
theorem dX7_drive_8 : decode cX7_drive 8 = .ok (.invokestatic 60, 3) := by decide +kernel
theorem dX7_drive_11 : decode cX7_drive 11 = .ok (.iload_n 2, 1) := by decide +kernel
theorem dX7_drive_12 : decode cX7_drive 12 = .ok (.aload_n 0, 1) := by decide +kernel
theorem dX7_drive_13 : decode cX7_drive 13 = .ok (.getfield 10, 3) := by decide +kernel
theorem dX7_drive_16 : decode cX7_drive 16 = .ok (.getfield 45, 3) := by decide +kernel
theorem dX7_drive_19 : decode cX7_drive 19 = .ok (.invokestatic 60, 3) := by decide +kernel
theorem dX7_drive_22 : decode cX7_drive 22 = .ok (.aload_n 0, 1) := by decide +kernel
theorem dX7_drive_23 : decode cX7_drive 23 = .ok (.getfield 10, 3) := by decide +kernel
theorem dX7_drive_26 : decode cX7_drive 26 = .ok (.getfield 108, 3) := by decide +kernel
theorem dX7_drive_29 : decode cX7_drive 29 = .ok (.iload_n 1, 1) := by decide +kernel
theorem dX7_drive_30 : decode cX7_drive 30 = .ok (.aaload, 1) := by decide +kernel
theorem dX7_drive_31 : decode cX7_drive 31 = .ok (.astore_n 3, 1) := by decide +kernel
theorem dX7_drive_32 : decode cX7_drive 32 = .ok (.aload_n 3, 1) := by decide +kernel
theorem dX7_drive_33 : decode cX7_drive 33 = .ok (.getfield 112, 3) := by decide +kernel
theorem dX7_drive_36 : decode cX7_drive 36 = .ok (.iconst (-1), 1) := by decide +kernel
theorem dX7_drive_37 : decode cX7_drive 37 = .ok (.if_icmp .eq 15, 3) := by decide +kernel
theorem dX7_drive_40 : decode cX7_drive 40 = .ok (.aload_n 3, 1) := by decide +kernel
theorem dX7_drive_41 : decode cX7_drive 41 = .ok (.getfield 112, 3) := by decide +kernel
theorem dX7_drive_44 : decode cX7_drive 44 = .ok (.iload_n 2, 1) := by decide +kernel
theorem dX7_drive_45 : decode cX7_drive 45 = .ok (.if_icmp .eq 7, 3) := by decide +kernel
theorem dX7_drive_48 : decode cX7_drive 48 = .ok (.iconst 1, 1) := by decide +kernel
theorem dX7_drive_49 : decode cX7_drive 49 = .ok (.goto 4, 3) := by decide +kernel
theorem dX7_drive_52 : decode cX7_drive 52 = .ok (.iconst 0, 1) := by decide +kernel
theorem dX7_drive_53 : decode cX7_drive 53 = .ok (.invokestatic 48, 3) := by decide +kernel
theorem dX7_drive_56 : decode cX7_drive 56 = .ok (.aload_n 0, 1) := by decide +kernel
theorem dX7_drive_57 : decode cX7_drive 57 = .ok (.getfield 22, 3) := by decide +kernel
theorem dX7_drive_60 : decode cX7_drive 60 = .ok (.aload_n 0, 1) := by decide +kernel
theorem dX7_drive_61 : decode cX7_drive 61 = .ok (.getfield 10, 3) := by decide +kernel
theorem dX7_drive_64 : decode cX7_drive 64 = .ok (.invokevirtual 52, 3) := by decide +kernel
theorem dX7_drive_67 : decode cX7_drive 67 = .ok (.aload_n 3, 1) := by decide +kernel
theorem dX7_drive_68 : decode cX7_drive 68 = .ok (.aload_n 0, 1) := by decide +kernel
theorem dX7_drive_69 : decode cX7_drive 69 = .ok (.getfield 10, 3) := by decide +kernel
theorem dX7_drive_72 : decode cX7_drive 72 = .ok (.aload_n 3, 1) := by decide +kernel
theorem dX7_drive_73 : decode cX7_drive 73 = .ok (.getfield 112, 3) := by decide +kernel
theorem dX7_drive_76 : decode cX7_drive 76 = .ok (.iload_n 2, 1) := by decide +kernel
theorem dX7_drive_77 : decode cX7_drive 77 = .ok (.invokevirtual 139, 3) := by decide +kernel
theorem dX7_drive_80 : decode cX7_drive 80 = .ok (.putfield 142, 3) := by decide +kernel
theorem dX7_drive_83 : decode cX7_drive 83 = .ok (.aload_n 3, 1) := by decide +kernel
theorem dX7_drive_84 : decode cX7_drive 84 = .ok (.iconst (-1), 1) := by decide +kernel
theorem dX7_drive_85 : decode cX7_drive 85 = .ok (.putfield 112, 3) := by decide +kernel
theorem dX7_drive_88 : decode cX7_drive 88 = .ok (.aload_n 3, 1) := by decide +kernel
theorem dX7_drive_89 : decode cX7_drive 89 = .ok (.iload_n 2, 1) := by decide +kernel
theorem dX7_drive_90 : decode cX7_drive 90 = .ok (.putfield 145, 3) := by decide +kernel
theorem dX7_drive_93 : decode cX7_drive 93 = .ok (.aload_n 3, 1) := by decide +kernel
theorem dX7_drive_94 : decode cX7_drive 94 = .ok (.getfield 142, 3) := by decide +kernel
theorem dX7_drive_97 : decode cX7_drive 97 = .ok (.ireturn, 1) := by decide +kernel
theorem dX7_addUnit_0 : decode cX7_addUnit 0 = .ok (.iload_n 1, 1) := by decide +kernel
theorem dX7_addUnit_1 : decode cX7_addUnit 1 = .ok (.aload_n 0, 1) := by decide +kernel
theorem dX7_addUnit_2 : decode cX7_addUnit 2 = .ok (.getfield 10, 3) := by decide +kernel
theorem dX7_addUnit_5 : decode cX7_addUnit 5 = .ok (.getfield 45, 3) := by decide +kernel
theorem dX7_addUnit_8 : decode cX7_addUnit 8 = .ok (.invokestatic 60, 3) := by decide +kernel
theorem dX7_addUnit_11 : decode cX7_addUnit 11 = .ok (.iload_n 2, 1) := by decide +kernel
theorem dX7_addUnit_12 : decode cX7_addUnit 12 = .ok (.iconst 1, 1) := by decide +kernel
theorem dX7_addUnit_13 : decode cX7_addUnit 13 = .ok (.sipush 300, 3) := by decide +kernel
theorem dX7_addUnit_16 : decode cX7_addUnit 16 = .ok (.invokestatic 41, 3) := by decide +kernel
theorem dX7_addUnit_19 : decode cX7_addUnit 19 = .ok (.iload_n 3, 1) := by decide +kernel
theorem dX7_addUnit_20 : decode cX7_addUnit 20 = .ok (.iconst 0, 1) := by decide +kernel
theorem dX7_addUnit_21 : decode cX7_addUnit 21 = .ok (.iload_n 2, 1) := by decide +kernel
theorem dX7_addUnit_22 : decode cX7_addUnit 22 = .ok (.invokestatic 41, 3) := by decide +kernel
theorem dX7_addUnit_25 : decode cX7_addUnit 25 = .ok (.iload 4, 2) := by decide +kernel
theorem dX7_addUnit_27 : decode cX7_addUnit 27 = .ok (.iconst 1, 1) := by decide +kernel
theorem dX7_addUnit_28 : decode cX7_addUnit 28 = .ok (.sipush 600, 3) := by decide +kernel
theorem dX7_addUnit_31 : decode cX7_addUnit 31 = .ok (.invokestatic 41, 3) := by decide +kernel
theorem dX7_addUnit_34 : decode cX7_addUnit 34 = .ok (.iload 5, 2) := by decide +kernel
theorem dX7_addUnit_36 : decode cX7_addUnit 36 = .ok (.bipush 30, 2) := by decide +kernel
theorem dX7_addUnit_38 : decode cX7_addUnit 38 = .ok (.sipush 600, 3) := by decide +kernel
theorem dX7_addUnit_41 : decode cX7_addUnit 41 = .ok (.invokestatic 41, 3) := by decide +kernel
theorem dX7_addUnit_44 : decode cX7_addUnit 44 = .ok (.aload_n 0, 1) := by decide +kernel
theorem dX7_addUnit_45 : decode cX7_addUnit 45 = .ok (.getfield 10, 3) := by decide +kernel
theorem dX7_addUnit_48 : decode cX7_addUnit 48 = .ok (.getfield 148, 3) := by decide +kernel
theorem dX7_addUnit_51 : decode cX7_addUnit 51 = .ok (.bipush 12, 2) := by decide +kernel
theorem dX7_addUnit_53 : decode cX7_addUnit 53 = .ok (.if_icmp .ge 7, 3) := by decide +kernel
theorem dX7_addUnit_56 : decode cX7_addUnit 56 = .ok (.iconst 1, 1) := by decide +kernel
theorem dX7_addUnit_57 : decode cX7_addUnit 57 = .ok (.goto 4, 3) := by decide +kernel
theorem dX7_addUnit_60 : decode cX7_addUnit 60 = .ok (.iconst 0, 1) := by decide +kernel
theorem dX7_addUnit_61 : decode cX7_addUnit 61 = .ok (.invokestatic 48, 3) := by decide +kernel
theorem dX7_addUnit_64 : decode cX7_addUnit 64 = .ok (.aload_n 0, 1) := by decide +kernel
theorem dX7_addUnit_65 : decode cX7_addUnit 65 = .ok (.getfield 22, 3) := by decide +kernel
theorem dX7_addUnit_68 : decode cX7_addUnit 68 = .ok (.aload_n 0, 1) := by decide +kernel
theorem dX7_addUnit_69 : decode cX7_addUnit 69 = .ok (.getfield 10, 3) := by decide +kernel
theorem dX7_addUnit_72 : decode cX7_addUnit 72 = .ok (.invokevirtual 52, 3) := by decide +kernel
theorem dX7_addUnit_75 : decode cX7_addUnit 75 = .ok (.aload_n 0, 1) := by decide +kernel
theorem dX7_addUnit_76 : decode cX7_addUnit 76 = .ok (.getfield 10, 3) := by decide +kernel
theorem dX7_addUnit_79 : decode cX7_addUnit 79 = .ok (.iload_n 1, 1) := by decide +kernel
theorem dX7_addUnit_80 : decode cX7_addUnit 80 = .ok (.iload_n 2, 1) := by decide +kernel
theorem dX7_addUnit_81 : decode cX7_addUnit 81 = .ok (.iload_n 3, 1) := by decide +kernel
theorem dX7_addUnit_82 : decode cX7_addUnit 82 = .ok (.aload_n 0, 1) := by decide +kernel
theorem dX7_addUnit_83 : decode cX7_addUnit 83 = .ok (.getfield 10, 3) := by decide +kernel
theorem dX7_addUnit_86 : decode cX7_addUnit 86 = .ok (.getfield 132, 3) := by decide +kernel
theorem dX7_addUnit_89 : decode cX7_addUnit 89 = .ok (.iload 4, 2) := by decide +kernel
theorem dX7_addUnit_91 : decode cX7_addUnit 91 = .ok (.iadd, 1) := by decide +kernel
theorem dX7_addUnit_92 : decode cX7_addUnit 92 = .ok (.iload 5, 2) := by decide +kernel
theorem dX7_addUnit_94 : decode cX7_addUnit 94 = .ok (.invokevirtual 151, 3) := by decide +kernel
theorem dX7_addUnit_97 : decode cX7_addUnit 97 = .ok (.ireturn, 1) := by decide +kernel
theorem dX7_split_0 : decode cX7_split 0 = .ok (.iload_n 1, 1) := by decide +kernel
theorem dX7_split_1 : decode cX7_split 1 = .ok (.aload_n 0, 1) := by decide +kernel
theorem dX7_split_2 : decode cX7_split 2 = .ok (.getfield 10, 3) := by decide +kernel
theorem dX7_split_5 : decode cX7_split 5 = .ok (.getfield 148, 3) := by decide +kernel
theorem dX7_split_8 : decode cX7_split 8 = .ok (.invokestatic 60, 3) := by decide +kernel
theorem dX7_split_11 : decode cX7_split 11 = .ok (.iload_n 2, 1) := by decide +kernel
theorem dX7_split_12 : decode cX7_split 12 = .ok (.iconst 1, 1) := by decide +kernel
theorem dX7_split_13 : decode cX7_split 13 = .ok (.sipush 299, 3) := by decide +kernel
theorem dX7_split_16 : decode cX7_split 16 = .ok (.invokestatic 41, 3) := by decide +kernel
theorem dX7_split_19 : decode cX7_split 19 = .ok (.iload_n 3, 1) := by decide +kernel
theorem dX7_split_20 : decode cX7_split 20 = .ok (.iconst 0, 1) := by decide +kernel
theorem dX7_split_21 : decode cX7_split 21 = .ok (.iload_n 2, 1) := by decide +kernel
theorem dX7_split_22 : decode cX7_split 22 = .ok (.invokestatic 41, 3) := by decide +kernel
theorem dX7_split_25 : decode cX7_split 25 = .ok (.aload_n 0, 1) := by decide +kernel
theorem dX7_split_26 : decode cX7_split 26 = .ok (.getfield 10, 3) := by decide +kernel
theorem dX7_split_29 : decode cX7_split 29 = .ok (.getfield 155, 3) := by decide +kernel
theorem dX7_split_32 : decode cX7_split 32 = .ok (.iload_n 1, 1) := by decide +kernel
theorem dX7_split_33 : decode cX7_split 33 = .ok (.aaload, 1) := by decide +kernel
theorem dX7_split_34 : decode cX7_split 34 = .ok (.astore 4, 2) := by decide +kernel
theorem dX7_split_36 : decode cX7_split 36 = .ok (.aload 4, 2) := by decide +kernel
theorem dX7_split_38 : decode cX7_split 38 = .ok (.getfield 159, 3) := by decide +kernel
theorem dX7_split_41 : decode cX7_split 41 = .ok (.ifCond .ne 19, 3) := by decide +kernel
theorem dX7_split_44 : decode cX7_split 44 = .ok (.aload_n 0, 1) := by decide +kernel
theorem dX7_split_45 : decode cX7_split 45 = .ok (.getfield 10, 3) := by decide +kernel
theorem dX7_split_48 : decode cX7_split 48 = .ok (.getfield 148, 3) := by decide +kernel
theorem dX7_split_51 : decode cX7_split 51 = .ok (.bipush 12, 2) := by decide +kernel
theorem dX7_split_53 : decode cX7_split 53 = .ok (.if_icmp .ge 7, 3) := by decide +kernel
theorem dX7_split_56 : decode cX7_split 56 = .ok (.iconst 1, 1) := by decide +kernel
theorem dX7_split_57 : decode cX7_split 57 = .ok (.goto 4, 3) := by decide +kernel
theorem dX7_split_60 : decode cX7_split 60 = .ok (.iconst 0, 1) := by decide +kernel
theorem dX7_split_61 : decode cX7_split 61 = .ok (.invokestatic 48, 3) := by decide +kernel
theorem dX7_split_64 : decode cX7_split 64 = .ok (.aload 4, 2) := by decide +kernel
theorem dX7_split_66 : decode cX7_split 66 = .ok (.getfield 164, 3) := by decide +kernel
theorem dX7_split_69 : decode cX7_split 69 = .ok (.iload_n 2, 1) := by decide +kernel
theorem dX7_split_70 : decode cX7_split 70 = .ok (.if_icmp .le 16, 3) := by decide +kernel
theorem dX7_split_73 : decode cX7_split 73 = .ok (.aload 4, 2) := by decide +kernel
theorem dX7_split_75 : decode cX7_split 75 = .ok (.getfield 167, 3) := by decide +kernel
theorem dX7_split_78 : decode cX7_split 78 = .ok (.iload_n 3, 1) := by decide +kernel
theorem dX7_split_79 : decode cX7_split 79 = .ok (.if_icmp .lt 7, 3) := by decide +kernel
theorem dX7_split_82 : decode cX7_split 82 = .ok (.iconst 1, 1) := by decide +kernel
theorem dX7_split_83 : decode cX7_split 83 = .ok (.goto 4, 3) := by decide +kernel
theorem dX7_split_86 : decode cX7_split 86 = .ok (.iconst 0, 1) := by decide +kernel
theorem dX7_split_87 : decode cX7_split 87 = .ok (.invokestatic 48, 3) := by decide +kernel
theorem dX7_split_90 : decode cX7_split 90 = .ok (.aload 4, 2) := by decide +kernel
theorem dX7_split_92 : decode cX7_split 92 = .ok (.getfield 164, 3) := by decide +kernel
theorem dX7_split_95 : decode cX7_split 95 = .ok (.aload 4, 2) := by decide +kernel
theorem dX7_split_97 : decode cX7_split 97 = .ok (.getfield 167, 3) := by decide +kernel
theorem dX7_split_100 : decode cX7_split 100 = .ok (.isub, 1) := by decide +kernel
theorem dX7_split_101 : decode cX7_split 101 = .ok (.iload_n 2, 1) := by decide +kernel
theorem dX7_split_102 : decode cX7_split 102 = .ok (.iload_n 3, 1) := by decide +kernel
theorem dX7_split_103 : decode cX7_split 103 = .ok (.isub, 1) := by decide +kernel
theorem dX7_split_104 : decode cX7_split 104 = .ok (.if_icmp .lt 7, 3) := by decide +kernel
theorem dX7_split_107 : decode cX7_split 107 = .ok (.iconst 1, 1) := by decide +kernel
theorem dX7_split_108 : decode cX7_split 108 = .ok (.goto 4, 3) := by decide +kernel
theorem dX7_split_111 : decode cX7_split 111 = .ok (.iconst 0, 1) := by decide +kernel
theorem dX7_split_112 : decode cX7_split 112 = .ok (.invokestatic 48, 3) := by decide +kernel
theorem dX7_split_115 : decode cX7_split 115 = .ok (.aload_n 0, 1) := by decide +kernel
theorem dX7_split_116 : decode cX7_split 116 = .ok (.getfield 22, 3) := by decide +kernel
theorem dX7_split_119 : decode cX7_split 119 = .ok (.aload_n 0, 1) := by decide +kernel
theorem dX7_split_120 : decode cX7_split 120 = .ok (.getfield 10, 3) := by decide +kernel
theorem dX7_split_123 : decode cX7_split 123 = .ok (.invokevirtual 52, 3) := by decide +kernel
theorem dX7_split_126 : decode cX7_split 126 = .ok (.aload 4, 2) := by decide +kernel
theorem dX7_split_128 : decode cX7_split 128 = .ok (.dup, 1) := by decide +kernel
theorem dX7_split_129 : decode cX7_split 129 = .ok (.getfield 164, 3) := by decide +kernel
theorem dX7_split_132 : decode cX7_split 132 = .ok (.iload_n 2, 1) := by decide +kernel
theorem dX7_split_133 : decode cX7_split 133 = .ok (.isub, 1) := by decide +kernel
theorem dX7_split_134 : decode cX7_split 134 = .ok (.putfield 164, 3) := by decide +kernel
theorem dX7_split_137 : decode cX7_split 137 = .ok (.aload 4, 2) := by decide +kernel
theorem dX7_split_139 : decode cX7_split 139 = .ok (.dup, 1) := by decide +kernel
theorem dX7_split_140 : decode cX7_split 140 = .ok (.getfield 167, 3) := by decide +kernel
theorem dX7_split_143 : decode cX7_split 143 = .ok (.iload_n 3, 1) := by decide +kernel
theorem dX7_split_144 : decode cX7_split 144 = .ok (.isub, 1) := by decide +kernel
theorem dX7_split_145 : decode cX7_split 145 = .ok (.putfield 167, 3) := by decide +kernel
theorem dX7_split_148 : decode cX7_split 148 = .ok (.aload_n 0, 1) := by decide +kernel
theorem dX7_split_149 : decode cX7_split 149 = .ok (.getfield 10, 3) := by decide +kernel
theorem dX7_split_152 : decode cX7_split 152 = .ok (.aload 4, 2) := by decide +kernel
theorem dX7_split_154 : decode cX7_split 154 = .ok (.getfield 170, 3) := by decide +kernel
theorem dX7_split_157 : decode cX7_split 157 = .ok (.iload_n 2, 1) := by decide +kernel
theorem dX7_split_158 : decode cX7_split 158 = .ok (.iload_n 3, 1) := by decide +kernel
theorem dX7_split_159 : decode cX7_split 159 = .ok (.aload 4, 2) := by decide +kernel
theorem dX7_split_161 : decode cX7_split 161 = .ok (.getfield 171, 3) := by decide +kernel
theorem dX7_split_164 : decode cX7_split 164 = .ok (.aload 4, 2) := by decide +kernel
theorem dX7_split_166 : decode cX7_split 166 = .ok (.getfield 174, 3) := by decide +kernel
theorem dX7_split_169 : decode cX7_split 169 = .ok (.invokevirtual 151, 3) := by decide +kernel
theorem dX7_split_172 : decode cX7_split 172 = .ok (.ireturn, 1) := by decide +kernel
theorem dX7_join_0 : decode cX7_join 0 = .ok (.iload_n 1, 1) := by decide +kernel
theorem dX7_join_1 : decode cX7_join 1 = .ok (.aload_n 0, 1) := by decide +kernel
theorem dX7_join_2 : decode cX7_join 2 = .ok (.getfield 10, 3) := by decide +kernel
theorem dX7_join_5 : decode cX7_join 5 = .ok (.getfield 148, 3) := by decide +kernel
theorem dX7_join_8 : decode cX7_join 8 = .ok (.invokestatic 60, 3) := by decide +kernel
theorem dX7_join_11 : decode cX7_join 11 = .ok (.iload_n 2, 1) := by decide +kernel
theorem dX7_join_12 : decode cX7_join 12 = .ok (.aload_n 0, 1) := by decide +kernel
theorem dX7_join_13 : decode cX7_join 13 = .ok (.getfield 10, 3) := by decide +kernel
theorem dX7_join_16 : decode cX7_join 16 = .ok (.getfield 148, 3) := by decide +kernel
theorem dX7_join_19 : decode cX7_join 19 = .ok (.invokestatic 60, 3) := by decide +kernel
theorem dX7_join_22 : decode cX7_join 22 = .ok (.iload_n 1, 1) := by decide +kernel
theorem dX7_join_23 : decode cX7_join 23 = .ok (.iload_n 2, 1) := by decide +kernel
theorem dX7_join_24 : decode cX7_join 24 = .ok (.if_icmp .ne 13, 3) := by decide +kernel
theorem dX7_join_27 : decode cX7_join 27 = .ok (.new 177, 3) := by decide +kernel
theorem dX7_join_30 : decode cX7_join 30 = .ok (.dup, 1) := by decide +kernel
theorem dX7_join_31 : decode cX7_join 31 = .ok (.ldc 179, 2) := by decide +kernel
theorem dX7_join_33 : decode cX7_join 33 = .ok (.invokespecial 181, 3) := by decide +kernel
theorem dX7_join_36 : decode cX7_join 36 = .ok (.athrow, 1) := by decide +kernel
theorem dX7_join_37 : decode cX7_join 37 = .ok (.aload_n 0, 1) := by decide +kernel
theorem dX7_join_38 : decode cX7_join 38 = .ok (.getfield 10, 3) := by decide +kernel
theorem dX7_join_41 : decode cX7_join 41 = .ok (.getfield 155, 3) := by decide +kernel
theorem dX7_join_44 : decode cX7_join 44 = .ok (.iload_n 1, 1) := by decide +kernel
theorem dX7_join_45 : decode cX7_join 45 = .ok (.aaload, 1) := by decide +kernel
theorem dX7_join_46 : decode cX7_join 46 = .ok (.astore_n 3, 1) := by decide +kernel
theorem dX7_join_47 : decode cX7_join 47 = .ok (.aload_n 0, 1) := by decide +kernel
theorem dX7_join_48 : decode cX7_join 48 = .ok (.getfield 10, 3) := by decide +kernel
theorem dX7_join_51 : decode cX7_join 51 = .ok (.getfield 155, 3) := by decide +kernel
theorem dX7_join_54 : decode cX7_join 54 = .ok (.iload_n 2, 1) := by decide +kernel
theorem dX7_join_55 : decode cX7_join 55 = .ok (.aaload, 1) := by decide +kernel
theorem dX7_join_56 : decode cX7_join 56 = .ok (.astore 4, 2) := by decide +kernel
theorem dX7_join_58 : decode cX7_join 58 = .ok (.aload_n 3, 1) := by decide +kernel
theorem dX7_join_59 : decode cX7_join 59 = .ok (.getfield 159, 3) := by decide +kernel
theorem dX7_join_62 : decode cX7_join 62 = .ok (.ifCond .ne 15, 3) := by decide +kernel
theorem dX7_join_65 : decode cX7_join 65 = .ok (.aload 4, 2) := by decide +kernel
theorem dX7_join_67 : decode cX7_join 67 = .ok (.getfield 159, 3) := by decide +kernel
theorem dX7_join_70 : decode cX7_join 70 = .ok (.ifCond .ne 7, 3) := by decide +kernel
theorem dX7_join_73 : decode cX7_join 73 = .ok (.iconst 1, 1) := by decide +kernel
theorem dX7_join_74 : decode cX7_join 74 = .ok (.goto 4, 3) := by decide +kernel
theorem dX7_join_77 : decode cX7_join 77 = .ok (.iconst 0, 1) := by decide +kernel
theorem dX7_join_78 : decode cX7_join 78 = .ok (.invokestatic 48, 3) := by decide +kernel
theorem dX7_join_81 : decode cX7_join 81 = .ok (.aload_n 3, 1) := by decide +kernel
theorem dX7_join_82 : decode cX7_join 82 = .ok (.getfield 170, 3) := by decide +kernel
theorem dX7_join_85 : decode cX7_join 85 = .ok (.aload 4, 2) := by decide +kernel
theorem dX7_join_87 : decode cX7_join 87 = .ok (.getfield 170, 3) := by decide +kernel
theorem dX7_join_90 : decode cX7_join 90 = .ok (.if_icmp .ne 23, 3) := by decide +kernel
theorem dX7_join_93 : decode cX7_join 93 = .ok (.aload_n 3, 1) := by decide +kernel
theorem dX7_join_94 : decode cX7_join 94 = .ok (.getfield 164, 3) := by decide +kernel
theorem dX7_join_97 : decode cX7_join 97 = .ok (.aload 4, 2) := by decide +kernel
theorem dX7_join_99 : decode cX7_join 99 = .ok (.getfield 164, 3) := by decide +kernel
theorem dX7_join_102 : decode cX7_join 102 = .ok (.iadd, 1) := by decide +kernel
theorem dX7_join_103 : decode cX7_join 103 = .ok (.sipush 300, 3) := by decide +kernel
theorem dX7_join_106 : decode cX7_join 106 = .ok (.if_icmp .gt 7, 3) := by decide +kernel
theorem dX7_join_109 : decode cX7_join 109 = .ok (.iconst 1, 1) := by decide +kernel
theorem dX7_join_110 : decode cX7_join 110 = .ok (.goto 4, 3) := by decide +kernel
theorem dX7_join_113 : decode cX7_join 113 = .ok (.iconst 0, 1) := by decide +kernel
theorem dX7_join_114 : decode cX7_join 114 = .ok (.invokestatic 48, 3) := by decide +kernel
theorem dX7_join_117 : decode cX7_join 117 = .ok (.aload_n 0, 1) := by decide +kernel
theorem dX7_join_118 : decode cX7_join 118 = .ok (.getfield 22, 3) := by decide +kernel
theorem dX7_join_121 : decode cX7_join 121 = .ok (.aload_n 0, 1) := by decide +kernel
theorem dX7_join_122 : decode cX7_join 122 = .ok (.getfield 10, 3) := by decide +kernel
theorem dX7_join_125 : decode cX7_join 125 = .ok (.invokevirtual 52, 3) := by decide +kernel
theorem dX7_join_128 : decode cX7_join 128 = .ok (.aload 4, 2) := by decide +kernel
theorem dX7_join_130 : decode cX7_join 130 = .ok (.aload_n 3, 1) := by decide +kernel
theorem dX7_join_131 : decode cX7_join 131 = .ok (.invokevirtual 184, 3) := by decide +kernel
theorem dX7_join_134 : decode cX7_join 134 = .ok (.aload_n 3, 1) := by decide +kernel
theorem dX7_join_135 : decode cX7_join 135 = .ok (.iconst 2, 1) := by decide +kernel
theorem dX7_join_136 : decode cX7_join 136 = .ok (.invokevirtual 188, 3) := by decide +kernel
theorem dX7_join_139 : decode cX7_join 139 = .ok (.aload 4, 2) := by decide +kernel
theorem dX7_join_141 : decode cX7_join 141 = .ok (.getfield 164, 3) := by decide +kernel
theorem dX7_join_144 : decode cX7_join 144 = .ok (.ireturn, 1) := by decide +kernel
theorem dX7_move_0 : decode cX7_move 0 = .ok (.iload_n 1, 1) := by decide +kernel
theorem dX7_move_1 : decode cX7_move 1 = .ok (.aload_n 0, 1) := by decide +kernel
theorem dX7_move_2 : decode cX7_move 2 = .ok (.getfield 10, 3) := by decide +kernel
theorem dX7_move_5 : decode cX7_move 5 = .ok (.getfield 148, 3) := by decide +kernel
theorem dX7_move_8 : decode cX7_move 8 = .ok (.invokestatic 60, 3) := by decide +kernel
theorem dX7_move_11 : decode cX7_move 11 = .ok (.iload_n 2, 1) := by decide +kernel
theorem dX7_move_12 : decode cX7_move 12 = .ok (.aload_n 0, 1) := by decide +kernel
theorem dX7_move_13 : decode cX7_move 13 = .ok (.getfield 10, 3) := by decide +kernel
theorem dX7_move_16 : decode cX7_move 16 = .ok (.getfield 45, 3) := by decide +kernel
theorem dX7_move_19 : decode cX7_move 19 = .ok (.invokestatic 60, 3) := by decide +kernel
theorem dX7_move_22 : decode cX7_move 22 = .ok (.aload_n 0, 1) := by decide +kernel
theorem dX7_move_23 : decode cX7_move 23 = .ok (.getfield 10, 3) := by decide +kernel
theorem dX7_move_26 : decode cX7_move 26 = .ok (.getfield 155, 3) := by decide +kernel
theorem dX7_move_29 : decode cX7_move 29 = .ok (.iload_n 1, 1) := by decide +kernel
theorem dX7_move_30 : decode cX7_move 30 = .ok (.aaload, 1) := by decide +kernel
theorem dX7_move_31 : decode cX7_move 31 = .ok (.astore_n 3, 1) := by decide +kernel
theorem dX7_move_32 : decode cX7_move 32 = .ok (.aload_n 3, 1) := by decide +kernel
theorem dX7_move_33 : decode cX7_move 33 = .ok (.getfield 159, 3) := by decide +kernel
theorem dX7_move_36 : decode cX7_move 36 = .ok (.ifCond .ne 7, 3) := by decide +kernel
theorem dX7_move_39 : decode cX7_move 39 = .ok (.iconst 1, 1) := by decide +kernel
theorem dX7_move_40 : decode cX7_move 40 = .ok (.goto 4, 3) := by decide +kernel
theorem dX7_move_43 : decode cX7_move 43 = .ok (.iconst 0, 1) := by decide +kernel
theorem dX7_move_44 : decode cX7_move 44 = .ok (.invokestatic 48, 3) := by decide +kernel
theorem dX7_move_47 : decode cX7_move 47 = .ok (.aload_n 0, 1) := by decide +kernel
theorem dX7_move_48 : decode cX7_move 48 = .ok (.getfield 22, 3) := by decide +kernel
theorem dX7_move_51 : decode cX7_move 51 = .ok (.aload_n 0, 1) := by decide +kernel
theorem dX7_move_52 : decode cX7_move 52 = .ok (.getfield 10, 3) := by decide +kernel
theorem dX7_move_55 : decode cX7_move 55 = .ok (.invokevirtual 52, 3) := by decide +kernel
theorem dX7_move_58 : decode cX7_move 58 = .ok (.aload_n 3, 1) := by decide +kernel
theorem dX7_move_59 : decode cX7_move 59 = .ok (.getfield 170, 3) := by decide +kernel
theorem dX7_move_62 : decode cX7_move 62 = .ok (.istore 4, 2) := by decide +kernel
theorem dX7_move_64 : decode cX7_move 64 = .ok (.aload_n 3, 1) := by decide +kernel
theorem dX7_move_65 : decode cX7_move 65 = .ok (.iload_n 2, 1) := by decide +kernel
theorem dX7_move_66 : decode cX7_move 66 = .ok (.putfield 170, 3) := by decide +kernel
theorem dX7_move_69 : decode cX7_move 69 = .ok (.iload 4, 2) := by decide +kernel
theorem dX7_move_71 : decode cX7_move 71 = .ok (.ireturn, 1) := by decide +kernel
theorem dX7_wrap_0 : decode cX7_wrap 0 = .ok (.iload_n 1, 1) := by decide +kernel
theorem dX7_wrap_1 : decode cX7_wrap 1 = .ok (.aload_n 0, 1) := by decide +kernel
theorem dX7_wrap_2 : decode cX7_wrap 2 = .ok (.getfield 10, 3) := by decide +kernel
theorem dX7_wrap_5 : decode cX7_wrap 5 = .ok (.getfield 148, 3) := by decide +kernel
theorem dX7_wrap_8 : decode cX7_wrap 8 = .ok (.invokestatic 60, 3) := by decide +kernel
theorem dX7_wrap_11 : decode cX7_wrap 11 = .ok (.aload_n 0, 1) := by decide +kernel
theorem dX7_wrap_12 : decode cX7_wrap 12 = .ok (.getfield 10, 3) := by decide +kernel
theorem dX7_wrap_15 : decode cX7_wrap 15 = .ok (.getfield 155, 3) := by decide +kernel
theorem dX7_wrap_18 : decode cX7_wrap 18 = .ok (.iload_n 1, 1) := by decide +kernel
theorem dX7_wrap_19 : decode cX7_wrap 19 = .ok (.aaload, 1) := by decide +kernel
theorem dX7_wrap_20 : decode cX7_wrap 20 = .ok (.astore_n 2, 1) := by decide +kernel
theorem dX7_wrap_21 : decode cX7_wrap 21 = .ok (.aload_n 2, 1) := by decide +kernel
theorem dX7_wrap_22 : decode cX7_wrap 22 = .ok (.getfield 159, 3) := by decide +kernel
theorem dX7_wrap_25 : decode cX7_wrap 25 = .ok (.ifCond .ne 7, 3) := by decide +kernel
theorem dX7_wrap_28 : decode cX7_wrap 28 = .ok (.iconst 1, 1) := by decide +kernel
theorem dX7_wrap_29 : decode cX7_wrap 29 = .ok (.goto 4, 3) := by decide +kernel
theorem dX7_wrap_32 : decode cX7_wrap 32 = .ok (.iconst 0, 1) := by decide +kernel
theorem dX7_wrap_33 : decode cX7_wrap 33 = .ok (.invokestatic 48, 3) := by decide +kernel
theorem dX7_wrap_36 : decode cX7_wrap 36 = .ok (.aload_n 0, 1) := by decide +kernel
theorem dX7_wrap_37 : decode cX7_wrap 37 = .ok (.getfield 22, 3) := by decide +kernel
theorem dX7_wrap_40 : decode cX7_wrap 40 = .ok (.aload_n 0, 1) := by decide +kernel
theorem dX7_wrap_41 : decode cX7_wrap 41 = .ok (.getfield 10, 3) := by decide +kernel
theorem dX7_wrap_44 : decode cX7_wrap 44 = .ok (.invokevirtual 52, 3) := by decide +kernel
theorem dX7_wrap_47 : decode cX7_wrap 47 = .ok (.aload_n 2, 1) := by decide +kernel
theorem dX7_wrap_48 : decode cX7_wrap 48 = .ok (.aload_n 2, 1) := by decide +kernel
theorem dX7_wrap_49 : decode cX7_wrap 49 = .ok (.invokevirtual 192, 3) := by decide +kernel
theorem dX7_wrap_52 : decode cX7_wrap 52 = .ok (.putfield 195, 3) := by decide +kernel
theorem dX7_wrap_55 : decode cX7_wrap 55 = .ok (.aload_n 2, 1) := by decide +kernel
theorem dX7_wrap_56 : decode cX7_wrap 56 = .ok (.iconst 1, 1) := by decide +kernel
theorem dX7_wrap_57 : decode cX7_wrap 57 = .ok (.invokevirtual 188, 3) := by decide +kernel
theorem dX7_wrap_60 : decode cX7_wrap 60 = .ok (.aload_n 2, 1) := by decide +kernel
theorem dX7_wrap_61 : decode cX7_wrap 61 = .ok (.getfield 195, 3) := by decide +kernel
theorem dX7_wrap_64 : decode cX7_wrap 64 = .ok (.ireturn, 1) := by decide +kernel
theorem dX7_pass_0 : decode cX7_pass 0 = .ok (.iload_n 1, 1) := by decide +kernel
theorem dX7_pass_1 : decode cX7_pass 1 = .ok (.iconst 1, 1) := by decide +kernel
theorem dX7_pass_2 : decode cX7_pass 2 = .ok (.sipush 200, 3) := by decide +kernel
theorem dX7_pass_5 : decode cX7_pass 5 = .ok (.invokestatic 41, 3) := by decide +kernel
theorem dX7_pass_8 : decode cX7_pass 8 = .ok (.aload_n 0, 1) := by decide +kernel
theorem dX7_pass_9 : decode cX7_pass 9 = .ok (.getfield 10, 3) := by decide +kernel
theorem dX7_pass_12 : decode cX7_pass 12 = .ok (.getfield 132, 3) := by decide +kernel
theorem dX7_pass_15 : decode cX7_pass 15 = .ok (.iload_n 1, 1) := by decide +kernel
theorem dX7_pass_16 : decode cX7_pass 16 = .ok (.iadd, 1) := by decide +kernel
theorem dX7_pass_17 : decode cX7_pass 17 = .ok (.sipush 20000, 3) := by decide +kernel
theorem dX7_pass_20 : decode cX7_pass 20 = .ok (.if_icmp .gt 7, 3) := by decide +kernel
theorem dX7_pass_23 : decode cX7_pass 23 = .ok (.iconst 1, 1) := by decide +kernel
theorem dX7_pass_24 : decode cX7_pass 24 = .ok (.goto 4, 3) := by decide +kernel
theorem dX7_pass_27 : decode cX7_pass 27 = .ok (.iconst 0, 1) := by decide +kernel
theorem dX7_pass_28 : decode cX7_pass 28 = .ok (.invokestatic 48, 3) := by decide +kernel
theorem dX7_pass_31 : decode cX7_pass 31 = .ok (.aload_n 0, 1) := by decide +kernel
theorem dX7_pass_32 : decode cX7_pass 32 = .ok (.getfield 22, 3) := by decide +kernel
theorem dX7_pass_35 : decode cX7_pass 35 = .ok (.aload_n 0, 1) := by decide +kernel
theorem dX7_pass_36 : decode cX7_pass 36 = .ok (.getfield 10, 3) := by decide +kernel
theorem dX7_pass_39 : decode cX7_pass 39 = .ok (.invokevirtual 52, 3) := by decide +kernel
theorem dX7_pass_42 : decode cX7_pass 42 = .ok (.aload_n 0, 1) := by decide +kernel
theorem dX7_pass_43 : decode cX7_pass 43 = .ok (.getfield 10, 3) := by decide +kernel
theorem dX7_pass_46 : decode cX7_pass 46 = .ok (.invokevirtual 198, 3) := by decide +kernel
theorem dX7_pass_49 : decode cX7_pass 49 = .ok (.istore_n 2, 1) := by decide +kernel
theorem dX7_pass_50 : decode cX7_pass 50 = .ok (.iconst 0, 1) := by decide +kernel
theorem dX7_pass_51 : decode cX7_pass 51 = .ok (.istore_n 3, 1) := by decide +kernel
theorem dX7_pass_52 : decode cX7_pass 52 = .ok (.iload_n 3, 1) := by decide +kernel
theorem dX7_pass_53 : decode cX7_pass 53 = .ok (.iload_n 1, 1) := by decide +kernel
theorem dX7_pass_54 : decode cX7_pass 54 = .ok (.if_icmp .ge 16, 3) := by decide +kernel
theorem dX7_pass_57 : decode cX7_pass 57 = .ok (.aload_n 0, 1) := by decide +kernel
theorem dX7_pass_58 : decode cX7_pass 58 = .ok (.getfield 10, 3) := by decide +kernel
theorem dX7_pass_61 : decode cX7_pass 61 = .ok (.invokevirtual 201, 3) := by decide +kernel
theorem dX7_pass_64 : decode cX7_pass 64 = .ok (.iinc 3 1, 3) := by decide +kernel
theorem dX7_pass_67 : decode cX7_pass 67 = .ok (.goto (-15), 3) := by decide +kernel
theorem dX7_pass_70 : decode cX7_pass 70 = .ok (.aload_n 0, 1) := by decide +kernel
theorem dX7_pass_71 : decode cX7_pass 71 = .ok (.getfield 10, 3) := by decide +kernel
theorem dX7_pass_74 : decode cX7_pass 74 = .ok (.invokevirtual 198, 3) := by decide +kernel
theorem dX7_pass_77 : decode cX7_pass 77 = .ok (.iload_n 2, 1) := by decide +kernel
theorem dX7_pass_78 : decode cX7_pass 78 = .ok (.isub, 1) := by decide +kernel
theorem dX7_pass_79 : decode cX7_pass 79 = .ok (.ireturn, 1) := by decide +kernel
theorem dX7_append_0 : decode cX7_append 0 = .ok (.iload_n 1, 1) := by decide +kernel
theorem dX7_append_1 : decode cX7_append 1 = .ok (.bipush 33, 2) := by decide +kernel
theorem dX7_append_3 : decode cX7_append 3 = .ok (.bipush 126, 2) := by decide +kernel
theorem dX7_append_5 : decode cX7_append 5 = .ok (.invokestatic 41, 3) := by decide +kernel
theorem dX7_append_8 : decode cX7_append 8 = .ok (.aload_n 0, 1) := by decide +kernel
theorem dX7_append_9 : decode cX7_append 9 = .ok (.getfield 37, 3) := by decide +kernel
theorem dX7_append_12 : decode cX7_append 12 = .ok (.bipush 60, 2) := by decide +kernel
theorem dX7_append_14 : decode cX7_append 14 = .ok (.if_icmp .ge 7, 3) := by decide +kernel
theorem dX7_append_17 : decode cX7_append 17 = .ok (.iconst 1, 1) := by decide +kernel
theorem dX7_append_18 : decode cX7_append 18 = .ok (.goto 4, 3) := by decide +kernel
theorem dX7_append_21 : decode cX7_append 21 = .ok (.iconst 0, 1) := by decide +kernel
theorem dX7_append_22 : decode cX7_append 22 = .ok (.invokestatic 48, 3) := by decide +kernel
theorem dX7_append_25 : decode cX7_append 25 = .ok (.aload_n 0, 1) := by decide +kernel
theorem dX7_append_26 : decode cX7_append 26 = .ok (.getfield 26, 3) := by decide +kernel
theorem dX7_append_29 : decode cX7_append 29 = .ok (.aload_n 0, 1) := by decide +kernel
theorem dX7_append_30 : decode cX7_append 30 = .ok (.getfield 37, 3) := by decide +kernel
theorem dX7_append_33 : decode cX7_append 33 = .ok (.iload_n 1, 1) := by decide +kernel
theorem dX7_append_34 : decode cX7_append 34 = .ok (.i2c, 1) := by decide +kernel
theorem dX7_append_35 : decode cX7_append 35 = .ok (.castore, 1) := by decide +kernel
theorem dX7_append_36 : decode cX7_append 36 = .ok (.aload_n 0, 1) := by decide +kernel
theorem dX7_append_37 : decode cX7_append 37 = .ok (.dup, 1) := by decide +kernel
theorem dX7_append_38 : decode cX7_append 38 = .ok (.getfield 37, 3) := by decide +kernel
theorem dX7_append_41 : decode cX7_append 41 = .ok (.iconst 1, 1) := by decide +kernel
theorem dX7_append_42 : decode cX7_append 42 = .ok (.iadd, 1) := by decide +kernel
theorem dX7_append_43 : decode cX7_append 43 = .ok (.putfield 37, 3) := by decide +kernel
theorem dX7_append_46 : decode cX7_append 46 = .ok (.aload_n 0, 1) := by decide +kernel
theorem dX7_append_47 : decode cX7_append 47 = .ok (.getfield 37, 3) := by decide +kernel
theorem dX7_append_50 : decode cX7_append 50 = .ok (.ireturn, 1) := by decide +kernel
theorem dX7_clearBuffer_0 : decode cX7_clearBuffer 0 = .ok (.aload_n 0, 1) := by decide +kernel
theorem dX7_clearBuffer_1 : decode cX7_clearBuffer 1 = .ok (.getfield 37, 3) := by decide +kernel
theorem dX7_clearBuffer_4 : decode cX7_clearBuffer 4 = .ok (.istore_n 1, 1) := by decide +kernel
theorem dX7_clearBuffer_5 : decode cX7_clearBuffer 5 = .ok (.aload_n 0, 1) := by decide +kernel
theorem dX7_clearBuffer_6 : decode cX7_clearBuffer 6 = .ok (.iconst 0, 1) := by decide +kernel
theorem dX7_clearBuffer_7 : decode cX7_clearBuffer 7 = .ok (.putfield 37, 3) := by decide +kernel
theorem dX7_clearBuffer_10 : decode cX7_clearBuffer 10 = .ok (.iload_n 1, 1) := by decide +kernel
theorem dX7_clearBuffer_11 : decode cX7_clearBuffer 11 = .ok (.ireturn, 1) := by decide +kernel
theorem dX7_firstError_0 : decode cX7_firstError 0 = .ok (.aload_n 0, 1) := by decide +kernel
theorem dX7_firstError_1 : decode cX7_firstError 1 = .ok (.getfield 33, 3) := by decide +kernel
theorem dX7_firstError_4 : decode cX7_firstError 4 = .ok (.invokevirtual 204, 3) := by decide +kernel
theorem dX7_firstError_7 : decode cX7_firstError 7 = .ok (.iconst 0, 1) := by decide +kernel
theorem dX7_firstError_8 : decode cX7_firstError 8 = .ok (.istore_n 1, 1) := by decide +kernel
theorem dX7_firstError_9 : decode cX7_firstError 9 = .ok (.iload_n 1, 1) := by decide +kernel
theorem dX7_firstError_10 : decode cX7_firstError 10 = .ok (.aload_n 0, 1) := by decide +kernel
theorem dX7_firstError_11 : decode cX7_firstError 11 = .ok (.getfield 37, 3) := by decide +kernel
theorem dX7_firstError_14 : decode cX7_firstError 14 = .ok (.if_icmp .ge 27, 3) := by decide +kernel
theorem dX7_firstError_17 : decode cX7_firstError 17 = .ok (.aload_n 0, 1) := by decide +kernel
theorem dX7_firstError_18 : decode cX7_firstError 18 = .ok (.getfield 33, 3) := by decide +kernel
theorem dX7_firstError_21 : decode cX7_firstError 21 = .ok (.aload_n 0, 1) := by decide +kernel
theorem dX7_firstError_22 : decode cX7_firstError 22 = .ok (.getfield 26, 3) := by decide +kernel
theorem dX7_firstError_25 : decode cX7_firstError 25 = .ok (.iload_n 1, 1) := by decide +kernel
theorem dX7_firstError_26 : decode cX7_firstError 26 = .ok (.caload, 1) := by decide +kernel
theorem dX7_firstError_27 : decode cX7_firstError 27 = .ok (.invokevirtual 207, 3) := by decide +kernel
theorem dX7_firstError_30 : decode cX7_firstError 30 = .ok (.ifCond .ne 5, 3) := by decide +kernel
theorem dX7_firstError_33 : decode cX7_firstError 33 = .ok (.iload_n 1, 1) := by decide +kernel
theorem dX7_firstError_34 : decode cX7_firstError 34 = .ok (.ireturn, 1) := by decide +kernel
theorem dX7_firstError_35 : decode cX7_firstError 35 = .ok (.iinc 1 1, 3) := by decide +kernel
theorem dX7_firstError_38 : decode cX7_firstError 38 = .ok (.goto (-29), 3) := by decide +kernel
theorem dX7_firstError_41 : decode cX7_firstError 41 = .ok (.aload_n 0, 1) := by decide +kernel
theorem dX7_firstError_42 : decode cX7_firstError 42 = .ok (.getfield 37, 3) := by decide +kernel
theorem dX7_firstError_45 : decode cX7_firstError 45 = .ok (.ireturn, 1) := by decide +kernel
theorem dX7_addSheet_0 : decode cX7_addSheet 0 = .ok (.aload_n 0, 1) := by decide +kernel
theorem dX7_addSheet_1 : decode cX7_addSheet 1 = .ok (.invokevirtual 211, 3) := by decide +kernel
theorem dX7_addSheet_4 : decode cX7_addSheet 4 = .ok (.aload_n 0, 1) := by decide +kernel
theorem dX7_addSheet_5 : decode cX7_addSheet 5 = .ok (.getfield 37, 3) := by decide +kernel
theorem dX7_addSheet_8 : decode cX7_addSheet 8 = .ok (.if_icmp .lt 13, 3) := by decide +kernel
theorem dX7_addSheet_11 : decode cX7_addSheet 11 = .ok (.aload_n 0, 1) := by decide +kernel
theorem dX7_addSheet_12 : decode cX7_addSheet 12 = .ok (.getfield 33, 3) := by decide +kernel
theorem dX7_addSheet_15 : decode cX7_addSheet 15 = .ok (.invokevirtual 214, 3) := by decide +kernel
theorem dX7_addSheet_18 : decode cX7_addSheet 18 = .ok (.ifCond .ne 13, 3) := by decide +kernel
theorem dX7_addSheet_21 : decode cX7_addSheet 21 = .ok (.new 177, 3) := by decide +kernel
theorem dX7_addSheet_24 : decode cX7_addSheet 24 = .ok (.dup, 1) := by decide +kernel
theorem dX7_addSheet_25 : decode cX7_addSheet 25 = .ok (.ldc 218, 2) := by decide +kernel
theorem dX7_addSheet_27 : decode cX7_addSheet 27 = .ok (.invokespecial 181, 3) := by decide +kernel
theorem dX7_addSheet_30 : decode cX7_addSheet 30 = .ok (.athrow, 1) := by decide +kernel
theorem dX7_addSheet_31 : decode cX7_addSheet 31 = .ok (.aload_n 0, 1) := by decide +kernel
theorem dX7_addSheet_32 : decode cX7_addSheet 32 = .ok (.getfield 22, 3) := by decide +kernel
theorem dX7_addSheet_35 : decode cX7_addSheet 35 = .ok (.aload_n 0, 1) := by decide +kernel
theorem dX7_addSheet_36 : decode cX7_addSheet 36 = .ok (.getfield 10, 3) := by decide +kernel
theorem dX7_addSheet_39 : decode cX7_addSheet 39 = .ok (.invokevirtual 52, 3) := by decide +kernel
theorem dX7_addSheet_42 : decode cX7_addSheet 42 = .ok (.aload_n 0, 1) := by decide +kernel
theorem dX7_addSheet_43 : decode cX7_addSheet 43 = .ok (.invokevirtual 220, 3) := by decide +kernel
theorem dX7_addSheet_46 : decode cX7_addSheet 46 = .ok (.istore_n 1, 1) := by decide +kernel
theorem dX7_addSheet_47 : decode cX7_addSheet 47 = .ok (.aload_n 0, 1) := by decide +kernel
theorem dX7_addSheet_48 : decode cX7_addSheet 48 = .ok (.iconst 0, 1) := by decide +kernel
theorem dX7_addSheet_49 : decode cX7_addSheet 49 = .ok (.putfield 37, 3) := by decide +kernel
theorem dX7_addSheet_52 : decode cX7_addSheet 52 = .ok (.iload_n 1, 1) := by decide +kernel
theorem dX7_addSheet_53 : decode cX7_addSheet 53 = .ok (.ireturn, 1) := by decide +kernel
theorem dX7_undo_0 : decode cX7_undo 0 = .ok (.aload_n 0, 1) := by decide +kernel
theorem dX7_undo_1 : decode cX7_undo 1 = .ok (.getfield 22, 3) := by decide +kernel
theorem dX7_undo_4 : decode cX7_undo 4 = .ok (.getfield 223, 3) := by decide +kernel
theorem dX7_undo_7 : decode cX7_undo 7 = .ok (.ifCond .le 7, 3) := by decide +kernel
theorem dX7_undo_10 : decode cX7_undo 10 = .ok (.iconst 1, 1) := by decide +kernel
theorem dX7_undo_11 : decode cX7_undo 11 = .ok (.goto 4, 3) := by decide +kernel
theorem dX7_undo_14 : decode cX7_undo 14 = .ok (.iconst 0, 1) := by decide +kernel
theorem dX7_undo_15 : decode cX7_undo 15 = .ok (.invokestatic 48, 3) := by decide +kernel
theorem dX7_undo_18 : decode cX7_undo 18 = .ok (.aload_n 0, 1) := by decide +kernel
theorem dX7_undo_19 : decode cX7_undo 19 = .ok (.getfield 22, 3) := by decide +kernel
theorem dX7_undo_22 : decode cX7_undo 22 = .ok (.aload_n 0, 1) := by decide +kernel
theorem dX7_undo_23 : decode cX7_undo 23 = .ok (.getfield 10, 3) := by decide +kernel
theorem dX7_undo_26 : decode cX7_undo 26 = .ok (.invokevirtual 226, 3) := by decide +kernel
theorem dX7_undo_29 : decode cX7_undo 29 = .ok (.aload_n 0, 1) := by decide +kernel
theorem dX7_undo_30 : decode cX7_undo 30 = .ok (.getfield 22, 3) := by decide +kernel
theorem dX7_undo_33 : decode cX7_undo 33 = .ok (.getfield 223, 3) := by decide +kernel
theorem dX7_undo_36 : decode cX7_undo 36 = .ok (.ireturn, 1) := by decide +kernel
theorem dX7_place_0 : decode cX7_place 0 = .ok (.iload_n 1, 1) := by decide +kernel
theorem dX7_place_1 : decode cX7_place 1 = .ok (.aload_n 0, 1) := by decide +kernel
theorem dX7_place_2 : decode cX7_place 2 = .ok (.getfield 10, 3) := by decide +kernel
theorem dX7_place_5 : decode cX7_place 5 = .ok (.getfield 45, 3) := by decide +kernel
theorem dX7_place_8 : decode cX7_place 8 = .ok (.invokestatic 60, 3) := by decide +kernel
theorem dX7_place_11 : decode cX7_place 11 = .ok (.iload_n 2, 1) := by decide +kernel
theorem dX7_place_12 : decode cX7_place 12 = .ok (.iconst 0, 1) := by decide +kernel
theorem dX7_place_13 : decode cX7_place 13 = .ok (.bipush 6, 2) := by decide +kernel
theorem dX7_place_15 : decode cX7_place 15 = .ok (.invokestatic 41, 3) := by decide +kernel
theorem dX7_place_18 : decode cX7_place 18 = .ok (.iload_n 2, 1) := by decide +kernel
theorem dX7_place_19 : decode cX7_place 19 = .ok (.tableswitch 93 0 5 #[37, 47, 57, 66, 75, 84], 37) := by decide +kernel
theorem dX7_place_56 : decode cX7_place 56 = .ok (.aload_n 0, 1) := by decide +kernel
theorem dX7_place_57 : decode cX7_place 57 = .ok (.getfield 10, 3) := by decide +kernel
theorem dX7_place_60 : decode cX7_place 60 = .ok (.getfield 229, 3) := by decide +kernel
theorem dX7_place_63 : decode cX7_place 63 = .ok (.iload_n 1, 1) := by decide +kernel
theorem dX7_place_64 : decode cX7_place 64 = .ok (.iaload, 1) := by decide +kernel
theorem dX7_place_65 : decode cX7_place 65 = .ok (.ireturn, 1) := by decide +kernel
theorem dX7_place_66 : decode cX7_place 66 = .ok (.aload_n 0, 1) := by decide +kernel
theorem dX7_place_67 : decode cX7_place 67 = .ok (.getfield 10, 3) := by decide +kernel
theorem dX7_place_70 : decode cX7_place 70 = .ok (.getfield 232, 3) := by decide +kernel
theorem dX7_place_73 : decode cX7_place 73 = .ok (.iload_n 1, 1) := by decide +kernel
theorem dX7_place_74 : decode cX7_place 74 = .ok (.iaload, 1) := by decide +kernel
theorem dX7_place_75 : decode cX7_place 75 = .ok (.ireturn, 1) := by decide +kernel
theorem dX7_place_76 : decode cX7_place 76 = .ok (.aload_n 0, 1) := by decide +kernel
theorem dX7_place_77 : decode cX7_place 77 = .ok (.getfield 10, 3) := by decide +kernel
theorem dX7_place_80 : decode cX7_place 80 = .ok (.iload_n 1, 1) := by decide +kernel
theorem dX7_place_81 : decode cX7_place 81 = .ok (.invokevirtual 235, 3) := by decide +kernel
theorem dX7_place_84 : decode cX7_place 84 = .ok (.ireturn, 1) := by decide +kernel
theorem dX7_place_85 : decode cX7_place 85 = .ok (.aload_n 0, 1) := by decide +kernel
theorem dX7_place_86 : decode cX7_place 86 = .ok (.getfield 10, 3) := by decide +kernel
theorem dX7_place_89 : decode cX7_place 89 = .ok (.iload_n 1, 1) := by decide +kernel
theorem dX7_place_90 : decode cX7_place 90 = .ok (.invokevirtual 238, 3) := by decide +kernel
theorem dX7_place_93 : decode cX7_place 93 = .ok (.ireturn, 1) := by decide +kernel
theorem dX7_place_94 : decode cX7_place 94 = .ok (.aload_n 0, 1) := by decide +kernel
theorem dX7_place_95 : decode cX7_place 95 = .ok (.getfield 10, 3) := by decide +kernel
theorem dX7_place_98 : decode cX7_place 98 = .ok (.iload_n 1, 1) := by decide +kernel
theorem dX7_place_99 : decode cX7_place 99 = .ok (.invokevirtual 241, 3) := by decide +kernel
theorem dX7_place_102 : decode cX7_place 102 = .ok (.ireturn, 1) := by decide +kernel
theorem dX7_place_103 : decode cX7_place 103 = .ok (.aload_n 0, 1) := by decide +kernel
theorem dX7_place_104 : decode cX7_place 104 = .ok (.getfield 10, 3) := by decide +kernel
theorem dX7_place_107 : decode cX7_place 107 = .ok (.iload_n 1, 1) := by decide +kernel
theorem dX7_place_108 : decode cX7_place 108 = .ok (.invokevirtual 244, 3) := by decide +kernel
theorem dX7_place_111 : decode cX7_place 111 = .ok (.ireturn, 1) := by decide +kernel
theorem dX7_place_112 : decode cX7_place 112 = .ok (.aload_n 0, 1) := by decide +kernel
theorem dX7_place_113 : decode cX7_place 113 = .ok (.getfield 10, 3) := by decide +kernel
theorem dX7_place_116 : decode cX7_place 116 = .ok (.iload_n 1, 1) := by decide +kernel
theorem dX7_place_117 : decode cX7_place 117 = .ok (.invokevirtual 247, 3) := by decide +kernel
theorem dX7_place_120 : decode cX7_place 120 = .ok (.ireturn, 1) := by decide +kernel
theorem dX7_unit_0 : decode cX7_unit 0 = .ok (.iload_n 1, 1) := by decide +kernel
theorem dX7_unit_1 : decode cX7_unit 1 = .ok (.aload_n 0, 1) := by decide +kernel
theorem dX7_unit_2 : decode cX7_unit 2 = .ok (.getfield 10, 3) := by decide +kernel
theorem dX7_unit_5 : decode cX7_unit 5 = .ok (.getfield 148, 3) := by decide +kernel
theorem dX7_unit_8 : decode cX7_unit 8 = .ok (.invokestatic 60, 3) := by decide +kernel
theorem dX7_unit_11 : decode cX7_unit 11 = .ok (.iload_n 2, 1) := by decide +kernel
theorem dX7_unit_12 : decode cX7_unit 12 = .ok (.iconst 0, 1) := by decide +kernel
theorem dX7_unit_13 : decode cX7_unit 13 = .ok (.bipush 11, 2) := by decide +kernel
theorem dX7_unit_15 : decode cX7_unit 15 = .ok (.invokestatic 41, 3) := by decide +kernel
theorem dX7_unit_18 : decode cX7_unit 18 = .ok (.aload_n 0, 1) := by decide +kernel
theorem dX7_unit_19 : decode cX7_unit 19 = .ok (.getfield 10, 3) := by decide +kernel
theorem dX7_unit_22 : decode cX7_unit 22 = .ok (.getfield 155, 3) := by decide +kernel
theorem dX7_unit_25 : decode cX7_unit 25 = .ok (.iload_n 1, 1) := by decide +kernel
theorem dX7_unit_26 : decode cX7_unit 26 = .ok (.aaload, 1) := by decide +kernel
theorem dX7_unit_27 : decode cX7_unit 27 = .ok (.iload_n 2, 1) := by decide +kernel
theorem dX7_unit_28 : decode cX7_unit 28 = .ok (.invokevirtual 250, 3) := by decide +kernel
theorem dX7_unit_31 : decode cX7_unit 31 = .ok (.ireturn, 1) := by decide +kernel
theorem dX7_kitchen_0 : decode cX7_kitchen 0 = .ok (.iload_n 1, 1) := by decide +kernel
theorem dX7_kitchen_1 : decode cX7_kitchen 1 = .ok (.aload_n 0, 1) := by decide +kernel
theorem dX7_kitchen_2 : decode cX7_kitchen 2 = .ok (.getfield 10, 3) := by decide +kernel
theorem dX7_kitchen_5 : decode cX7_kitchen 5 = .ok (.getfield 64, 3) := by decide +kernel
theorem dX7_kitchen_8 : decode cX7_kitchen 8 = .ok (.invokestatic 60, 3) := by decide +kernel
theorem dX7_kitchen_11 : decode cX7_kitchen 11 = .ok (.iload_n 2, 1) := by decide +kernel
theorem dX7_kitchen_12 : decode cX7_kitchen 12 = .ok (.iconst 0, 1) := by decide +kernel
theorem dX7_kitchen_13 : decode cX7_kitchen 13 = .ok (.bipush 11, 2) := by decide +kernel
theorem dX7_kitchen_15 : decode cX7_kitchen 15 = .ok (.invokestatic 41, 3) := by decide +kernel
theorem dX7_kitchen_18 : decode cX7_kitchen 18 = .ok (.aload_n 0, 1) := by decide +kernel
theorem dX7_kitchen_19 : decode cX7_kitchen 19 = .ok (.getfield 10, 3) := by decide +kernel
theorem dX7_kitchen_22 : decode cX7_kitchen 22 = .ok (.getfield 87, 3) := by decide +kernel
theorem dX7_kitchen_25 : decode cX7_kitchen 25 = .ok (.iload_n 1, 1) := by decide +kernel
theorem dX7_kitchen_26 : decode cX7_kitchen 26 = .ok (.aaload, 1) := by decide +kernel
theorem dX7_kitchen_27 : decode cX7_kitchen 27 = .ok (.iload_n 2, 1) := by decide +kernel
theorem dX7_kitchen_28 : decode cX7_kitchen 28 = .ok (.aload_n 0, 1) := by decide +kernel
theorem dX7_kitchen_29 : decode cX7_kitchen 29 = .ok (.getfield 10, 3) := by decide +kernel
theorem dX7_kitchen_32 : decode cX7_kitchen 32 = .ok (.getfield 132, 3) := by decide +kernel
theorem dX7_kitchen_35 : decode cX7_kitchen 35 = .ok (.invokevirtual 253, 3) := by decide +kernel
theorem dX7_kitchen_38 : decode cX7_kitchen 38 = .ok (.ireturn, 1) := by decide +kernel
theorem dX7_lorry_0 : decode cX7_lorry 0 = .ok (.iload_n 1, 1) := by decide +kernel
theorem dX7_lorry_1 : decode cX7_lorry 1 = .ok (.aload_n 0, 1) := by decide +kernel
theorem dX7_lorry_2 : decode cX7_lorry 2 = .ok (.getfield 10, 3) := by decide +kernel
theorem dX7_lorry_5 : decode cX7_lorry 5 = .ok (.getfield 71, 3) := by decide +kernel
theorem dX7_lorry_8 : decode cX7_lorry 8 = .ok (.invokestatic 60, 3) := by decide +kernel
theorem dX7_lorry_11 : decode cX7_lorry 11 = .ok (.iload_n 2, 1) := by decide +kernel
theorem dX7_lorry_12 : decode cX7_lorry 12 = .ok (.iconst 0, 1) := by decide +kernel
theorem dX7_lorry_13 : decode cX7_lorry 13 = .ok (.bipush 8, 2) := by decide +kernel
theorem dX7_lorry_15 : decode cX7_lorry 15 = .ok (.invokestatic 41, 3) := by decide +kernel
theorem dX7_lorry_18 : decode cX7_lorry 18 = .ok (.aload_n 0, 1) := by decide +kernel
theorem dX7_lorry_19 : decode cX7_lorry 19 = .ok (.getfield 10, 3) := by decide +kernel
theorem dX7_lorry_22 : decode cX7_lorry 22 = .ok (.getfield 108, 3) := by decide +kernel
theorem dX7_lorry_25 : decode cX7_lorry 25 = .ok (.iload_n 1, 1) := by decide +kernel
theorem dX7_lorry_26 : decode cX7_lorry 26 = .ok (.aaload, 1) := by decide +kernel
theorem dX7_lorry_27 : decode cX7_lorry 27 = .ok (.iload_n 2, 1) := by decide +kernel
theorem dX7_lorry_28 : decode cX7_lorry 28 = .ok (.aload_n 0, 1) := by decide +kernel
theorem dX7_lorry_29 : decode cX7_lorry 29 = .ok (.getfield 10, 3) := by decide +kernel
theorem dX7_lorry_32 : decode cX7_lorry 32 = .ok (.getfield 132, 3) := by decide +kernel
theorem dX7_lorry_35 : decode cX7_lorry 35 = .ok (.invokevirtual 255, 3) := by decide +kernel
theorem dX7_lorry_38 : decode cX7_lorry 38 = .ok (.ireturn, 1) := by decide +kernel
theorem dX7_count_0 : decode cX7_count 0 = .ok (.iload_n 1, 1) := by decide +kernel
theorem dX7_count_1 : decode cX7_count 1 = .ok (.iconst 0, 1) := by decide +kernel
theorem dX7_count_2 : decode cX7_count 2 = .ok (.bipush 16, 2) := by decide +kernel
theorem dX7_count_4 : decode cX7_count 4 = .ok (.invokestatic 41, 3) := by decide +kernel
theorem dX7_count_7 : decode cX7_count 7 = .ok (.iload_n 1, 1) := by decide +kernel
theorem dX7_count_8 : decode cX7_count 8 = .ok (.tableswitch 208 0 15 #[80, 88, 96, 104, 112, 120, 128, 136, 144, 152, 160, 168, 176, 184, 192, 200], 80) := by decide +kernel
theorem dX7_count_88 : decode cX7_count 88 = .ok (.aload_n 0, 1) := by decide +kernel
theorem dX7_count_89 : decode cX7_count 89 = .ok (.getfield 10, 3) := by decide +kernel
theorem dX7_count_92 : decode cX7_count 92 = .ok (.getfield 45, 3) := by decide +kernel
theorem dX7_count_95 : decode cX7_count 95 = .ok (.ireturn, 1) := by decide +kernel
theorem dX7_count_96 : decode cX7_count 96 = .ok (.aload_n 0, 1) := by decide +kernel
theorem dX7_count_97 : decode cX7_count 97 = .ok (.getfield 10, 3) := by decide +kernel
theorem dX7_count_100 : decode cX7_count 100 = .ok (.getfield 64, 3) := by decide +kernel
theorem dX7_count_103 : decode cX7_count 103 = .ok (.ireturn, 1) := by decide +kernel
theorem dX7_count_104 : decode cX7_count 104 = .ok (.aload_n 0, 1) := by decide +kernel
theorem dX7_count_105 : decode cX7_count 105 = .ok (.getfield 10, 3) := by decide +kernel
theorem dX7_count_108 : decode cX7_count 108 = .ok (.getfield 71, 3) := by decide +kernel
theorem dX7_count_111 : decode cX7_count 111 = .ok (.ireturn, 1) := by decide +kernel
theorem dX7_count_112 : decode cX7_count 112 = .ok (.aload_n 0, 1) := by decide +kernel
theorem dX7_count_113 : decode cX7_count 113 = .ok (.getfield 10, 3) := by decide +kernel
theorem dX7_count_116 : decode cX7_count 116 = .ok (.getfield 148, 3) := by decide +kernel
theorem dX7_count_119 : decode cX7_count 119 = .ok (.ireturn, 1) := by decide +kernel
theorem dX7_count_120 : decode cX7_count 120 = .ok (.aload_n 0, 1) := by decide +kernel
theorem dX7_count_121 : decode cX7_count 121 = .ok (.getfield 10, 3) := by decide +kernel
theorem dX7_count_124 : decode cX7_count 124 = .ok (.invokevirtual 256, 3) := by decide +kernel
theorem dX7_count_127 : decode cX7_count 127 = .ok (.ireturn, 1) := by decide +kernel
theorem dX7_count_128 : decode cX7_count 128 = .ok (.aload_n 0, 1) := by decide +kernel
theorem dX7_count_129 : decode cX7_count 129 = .ok (.getfield 10, 3) := by decide +kernel
theorem dX7_count_132 : decode cX7_count 132 = .ok (.invokevirtual 259, 3) := by decide +kernel
theorem dX7_count_135 : decode cX7_count 135 = .ok (.ireturn, 1) := by decide +kernel
theorem dX7_count_136 : decode cX7_count 136 = .ok (.aload_n 0, 1) := by decide +kernel
theorem dX7_count_137 : decode cX7_count 137 = .ok (.getfield 10, 3) := by decide +kernel
theorem dX7_count_140 : decode cX7_count 140 = .ok (.getfield 132, 3) := by decide +kernel
theorem dX7_count_143 : decode cX7_count 143 = .ok (.ireturn, 1) := by decide +kernel
theorem dX7_count_144 : decode cX7_count 144 = .ok (.aload_n 0, 1) := by decide +kernel
theorem dX7_count_145 : decode cX7_count 145 = .ok (.getfield 10, 3) := by decide +kernel
theorem dX7_count_148 : decode cX7_count 148 = .ok (.invokevirtual 261, 3) := by decide +kernel
theorem dX7_count_151 : decode cX7_count 151 = .ok (.ireturn, 1) := by decide +kernel
theorem dX7_count_152 : decode cX7_count 152 = .ok (.aload_n 0, 1) := by decide +kernel
theorem dX7_count_153 : decode cX7_count 153 = .ok (.getfield 10, 3) := by decide +kernel
theorem dX7_count_156 : decode cX7_count 156 = .ok (.invokevirtual 198, 3) := by decide +kernel
theorem dX7_count_159 : decode cX7_count 159 = .ok (.ireturn, 1) := by decide +kernel
theorem dX7_count_160 : decode cX7_count 160 = .ok (.aload_n 0, 1) := by decide +kernel
theorem dX7_count_161 : decode cX7_count 161 = .ok (.getfield 10, 3) := by decide +kernel
theorem dX7_count_164 : decode cX7_count 164 = .ok (.invokevirtual 264, 3) := by decide +kernel
theorem dX7_count_167 : decode cX7_count 167 = .ok (.ireturn, 1) := by decide +kernel
theorem dX7_count_168 : decode cX7_count 168 = .ok (.aload_n 0, 1) := by decide +kernel
theorem dX7_count_169 : decode cX7_count 169 = .ok (.getfield 10, 3) := by decide +kernel
theorem dX7_count_172 : decode cX7_count 172 = .ok (.invokevirtual 267, 3) := by decide +kernel
theorem dX7_count_175 : decode cX7_count 175 = .ok (.ireturn, 1) := by decide +kernel
theorem dX7_count_176 : decode cX7_count 176 = .ok (.aload_n 0, 1) := by decide +kernel
theorem dX7_count_177 : decode cX7_count 177 = .ok (.getfield 10, 3) := by decide +kernel
theorem dX7_count_180 : decode cX7_count 180 = .ok (.invokevirtual 270, 3) := by decide +kernel
theorem dX7_count_183 : decode cX7_count 183 = .ok (.ireturn, 1) := by decide +kernel
theorem dX7_count_184 : decode cX7_count 184 = .ok (.aload_n 0, 1) := by decide +kernel
theorem dX7_count_185 : decode cX7_count 185 = .ok (.getfield 10, 3) := by decide +kernel
theorem dX7_count_188 : decode cX7_count 188 = .ok (.getfield 273, 3) := by decide +kernel
theorem dX7_count_191 : decode cX7_count 191 = .ok (.ireturn, 1) := by decide +kernel
theorem dX7_count_192 : decode cX7_count 192 = .ok (.aload_n 0, 1) := by decide +kernel
theorem dX7_count_193 : decode cX7_count 193 = .ok (.getfield 10, 3) := by decide +kernel
theorem dX7_count_196 : decode cX7_count 196 = .ok (.invokevirtual 276, 3) := by decide +kernel
theorem dX7_count_199 : decode cX7_count 199 = .ok (.ireturn, 1) := by decide +kernel
theorem dX7_count_200 : decode cX7_count 200 = .ok (.aload_n 0, 1) := by decide +kernel
theorem dX7_count_201 : decode cX7_count 201 = .ok (.getfield 10, 3) := by decide +kernel
theorem dX7_count_204 : decode cX7_count 204 = .ok (.invokevirtual 277, 3) := by decide +kernel
theorem dX7_count_207 : decode cX7_count 207 = .ok (.ireturn, 1) := by decide +kernel
theorem dX7_count_208 : decode cX7_count 208 = .ok (.aload_n 0, 1) := by decide +kernel
theorem dX7_count_209 : decode cX7_count 209 = .ok (.getfield 10, 3) := by decide +kernel
theorem dX7_count_212 : decode cX7_count 212 = .ok (.invokevirtual 279, 3) := by decide +kernel
theorem dX7_count_215 : decode cX7_count 215 = .ok (.ireturn, 1) := by decide +kernel
theorem dX7_count_216 : decode cX7_count 216 = .ok (.aload_n 0, 1) := by decide +kernel
theorem dX7_count_217 : decode cX7_count 217 = .ok (.getfield 22, 3) := by decide +kernel
theorem dX7_count_220 : decode cX7_count 220 = .ok (.getfield 223, 3) := by decide +kernel
theorem dX7_count_223 : decode cX7_count 223 = .ok (.ireturn, 1) := by decide +kernel
theorem dX7_setting_0 : decode cX7_setting 0 = .ok (.iload_n 1, 1) := by decide +kernel
theorem dX7_setting_1 : decode cX7_setting 1 = .ok (.bipush 6, 2) := by decide +kernel
theorem dX7_setting_3 : decode cX7_setting 3 = .ok (.invokestatic 60, 3) := by decide +kernel
theorem dX7_setting_6 : decode cX7_setting 6 = .ok (.aload_n 0, 1) := by decide +kernel
theorem dX7_setting_7 : decode cX7_setting 7 = .ok (.getfield 10, 3) := by decide +kernel
theorem dX7_setting_10 : decode cX7_setting 10 = .ok (.getfield 84, 3) := by decide +kernel
theorem dX7_setting_13 : decode cX7_setting 13 = .ok (.iload_n 1, 1) := by decide +kernel
theorem dX7_setting_14 : decode cX7_setting 14 = .ok (.iaload, 1) := by decide +kernel
theorem dX7_setting_15 : decode cX7_setting 15 = .ok (.ireturn, 1) := by decide +kernel
theorem dX7_ifPassed_0 : decode cX7_ifPassed 0 = .ok (.iload_n 1, 1) := by decide +kernel
theorem dX7_ifPassed_1 : decode cX7_ifPassed 1 = .ok (.iconst 1, 1) := by decide +kernel
theorem dX7_ifPassed_2 : decode cX7_ifPassed 2 = .ok (.sipush 200, 3) := by decide +kernel
theorem dX7_ifPassed_5 : decode cX7_ifPassed 5 = .ok (.invokestatic 41, 3) := by decide +kernel
theorem dX7_ifPassed_8 : decode cX7_ifPassed 8 = .ok (.iload_n 2, 1) := by decide +kernel
theorem dX7_ifPassed_9 : decode cX7_ifPassed 9 = .ok (.iconst 0, 1) := by decide +kernel
theorem dX7_ifPassed_10 : decode cX7_ifPassed 10 = .ok (.iconst 3, 1) := by decide +kernel
theorem dX7_ifPassed_11 : decode cX7_ifPassed 11 = .ok (.invokestatic 41, 3) := by decide +kernel
theorem dX7_ifPassed_14 : decode cX7_ifPassed 14 = .ok (.aload_n 0, 1) := by decide +kernel
theorem dX7_ifPassed_15 : decode cX7_ifPassed 15 = .ok (.iload_n 1, 1) := by decide +kernel
theorem dX7_ifPassed_16 : decode cX7_ifPassed 16 = .ok (.invokevirtual 282, 3) := by decide +kernel
theorem dX7_ifPassed_19 : decode cX7_ifPassed 19 = .ok (.aload_n 0, 1) := by decide +kernel
theorem dX7_ifPassed_20 : decode cX7_ifPassed 20 = .ok (.iload_n 2, 1) := by decide +kernel
theorem dX7_ifPassed_21 : decode cX7_ifPassed 21 = .ok (.invokevirtual 285, 3) := by decide +kernel
theorem dX7_ifPassed_24 : decode cX7_ifPassed 24 = .ok (.ireturn, 1) := by decide +kernel
theorem dX7_callsIn_0 : decode cX7_callsIn 0 = .ok (.iload_n 1, 1) := by decide +kernel
theorem dX7_callsIn_1 : decode cX7_callsIn 1 = .ok (.iconst 1, 1) := by decide +kernel
theorem dX7_callsIn_2 : decode cX7_callsIn 2 = .ok (.sipush 1000, 3) := by decide +kernel
theorem dX7_callsIn_5 : decode cX7_callsIn 5 = .ok (.invokestatic 41, 3) := by decide +kernel
theorem dX7_callsIn_8 : decode cX7_callsIn 8 = .ok (.iload_n 2, 1) := by decide +kernel
theorem dX7_callsIn_9 : decode cX7_callsIn 9 = .ok (.iconst 0, 1) := by decide +kernel
theorem dX7_callsIn_10 : decode cX7_callsIn 10 = .ok (.iconst 1, 1) := by decide +kernel
theorem dX7_callsIn_11 : decode cX7_callsIn 11 = .ok (.invokestatic 41, 3) := by decide +kernel
theorem dX7_callsIn_14 : decode cX7_callsIn 14 = .ok (.aload_n 0, 1) := by decide +kernel
theorem dX7_callsIn_15 : decode cX7_callsIn 15 = .ok (.getfield 10, 3) := by decide +kernel
theorem dX7_callsIn_18 : decode cX7_callsIn 18 = .ok (.getfield 132, 3) := by decide +kernel
theorem dX7_callsIn_21 : decode cX7_callsIn 21 = .ok (.iload_n 1, 1) := by decide +kernel
theorem dX7_callsIn_22 : decode cX7_callsIn 22 = .ok (.iadd, 1) := by decide +kernel
theorem dX7_callsIn_23 : decode cX7_callsIn 23 = .ok (.istore_n 3, 1) := by decide +kernel
theorem dX7_callsIn_24 : decode cX7_callsIn 24 = .ok (.iconst 0, 1) := by decide +kernel
theorem dX7_callsIn_25 : decode cX7_callsIn 25 = .ok (.istore 4, 2) := by decide +kernel
theorem dX7_callsIn_27 : decode cX7_callsIn 27 = .ok (.iconst 0, 1) := by decide +kernel
theorem dX7_callsIn_28 : decode cX7_callsIn 28 = .ok (.istore 5, 2) := by decide +kernel
theorem dX7_callsIn_30 : decode cX7_callsIn 30 = .ok (.iload 5, 2) := by decide +kernel
theorem dX7_callsIn_32 : decode cX7_callsIn 32 = .ok (.aload_n 0, 1) := by decide +kernel
theorem dX7_callsIn_33 : decode cX7_callsIn 33 = .ok (.getfield 10, 3) := by decide +kernel
theorem dX7_callsIn_36 : decode cX7_callsIn 36 = .ok (.getfield 148, 3) := by decide +kernel
theorem dX7_callsIn_39 : decode cX7_callsIn 39 = .ok (.if_icmp .ge 60, 3) := by decide +kernel
theorem dX7_callsIn_42 : decode cX7_callsIn 42 = .ok (.aload_n 0, 1) := by decide +kernel
theorem dX7_callsIn_43 : decode cX7_callsIn 43 = .ok (.getfield 10, 3) := by decide +kernel
theorem dX7_callsIn_46 : decode cX7_callsIn 46 = .ok (.getfield 155, 3) := by decide +kernel
theorem dX7_callsIn_49 : decode cX7_callsIn 49 = .ok (.iload 5, 2) := by decide +kernel
theorem dX7_callsIn_51 : decode cX7_callsIn 51 = .ok (.aaload, 1) := by decide +kernel
theorem dX7_callsIn_52 : decode cX7_callsIn 52 = .ok (.astore 6, 2) := by decide +kernel
theorem dX7_callsIn_54 : decode cX7_callsIn 54 = .ok (.iload_n 2, 1) := by decide +kernel
theorem dX7_callsIn_55 : decode cX7_callsIn 55 = .ok (.ifCond .ne 11, 3) := by decide +kernel
theorem dX7_callsIn_58 : decode cX7_callsIn 58 = .ok (.aload 6, 2) := by decide +kernel
theorem dX7_callsIn_60 : decode cX7_callsIn 60 = .ok (.getfield 167, 3) := by decide +kernel
theorem dX7_callsIn_63 : decode cX7_callsIn 63 = .ok (.goto 14, 3) := by decide +kernel
theorem dX7_callsIn_66 : decode cX7_callsIn 66 = .ok (.aload 6, 2) := by decide +kernel
theorem dX7_callsIn_68 : decode cX7_callsIn 68 = .ok (.getfield 164, 3) := by decide +kernel
theorem dX7_callsIn_71 : decode cX7_callsIn 71 = .ok (.aload 6, 2) := by decide +kernel
theorem dX7_callsIn_73 : decode cX7_callsIn 73 = .ok (.getfield 167, 3) := by decide +kernel
theorem dX7_callsIn_76 : decode cX7_callsIn 76 = .ok (.isub, 1) := by decide +kernel
theorem dX7_callsIn_77 : decode cX7_callsIn 77 = .ok (.istore 7, 2) := by decide +kernel
theorem dX7_callsIn_79 : decode cX7_callsIn 79 = .ok (.iload 4, 2) := by decide +kernel
theorem dX7_callsIn_81 : decode cX7_callsIn 81 = .ok (.iload 7, 2) := by decide +kernel
theorem dX7_callsIn_83 : decode cX7_callsIn 83 = .ok (.aload 6, 2) := by decide +kernel
theorem dX7_callsIn_85 : decode cX7_callsIn 85 = .ok (.iload_n 3, 1) := by decide +kernel
theorem dX7_callsIn_86 : decode cX7_callsIn 86 = .ok (.invokevirtual 288, 3) := by decide +kernel
theorem dX7_callsIn_89 : decode cX7_callsIn 89 = .ok (.imul, 1) := by decide +kernel
theorem dX7_callsIn_90 : decode cX7_callsIn 90 = .ok (.iadd, 1) := by decide +kernel
theorem dX7_callsIn_91 : decode cX7_callsIn 91 = .ok (.istore 4, 2) := by decide +kernel
theorem dX7_callsIn_93 : decode cX7_callsIn 93 = .ok (.iinc 5 1, 3) := by decide +kernel
theorem dX7_callsIn_96 : decode cX7_callsIn 96 = .ok (.goto (-66), 3) := by decide +kernel
theorem dX7_callsIn_99 : decode cX7_callsIn 99 = .ok (.iload 4, 2) := by decide +kernel
theorem dX7_callsIn_101 : decode cX7_callsIn 101 = .ok (.ireturn, 1) := by decide +kernel
theorem dX7_canCook_0 : decode cX7_canCook 0 = .ok (.iload_n 1, 1) := by decide +kernel
theorem dX7_canCook_1 : decode cX7_canCook 1 = .ok (.aload_n 0, 1) := by decide +kernel
theorem dX7_canCook_2 : decode cX7_canCook 2 = .ok (.getfield 10, 3) := by decide +kernel
theorem dX7_canCook_5 : decode cX7_canCook 5 = .ok (.getfield 64, 3) := by decide +kernel
theorem dX7_canCook_8 : decode cX7_canCook 8 = .ok (.invokestatic 60, 3) := by decide +kernel
theorem dX7_canCook_11 : decode cX7_canCook 11 = .ok (.iload_n 2, 1) := by decide +kernel
theorem dX7_canCook_12 : decode cX7_canCook 12 = .ok (.iconst 0, 1) := by decide +kernel
theorem dX7_canCook_13 : decode cX7_canCook 13 = .ok (.iconst 2, 1) := by decide +kernel
theorem dX7_canCook_14 : decode cX7_canCook 14 = .ok (.invokestatic 41, 3) := by decide +kernel
theorem dX7_canCook_17 : decode cX7_canCook 17 = .ok (.aload_n 0, 1) := by decide +kernel
theorem dX7_canCook_18 : decode cX7_canCook 18 = .ok (.getfield 10, 3) := by decide +kernel
theorem dX7_canCook_21 : decode cX7_canCook 21 = .ok (.getfield 87, 3) := by decide +kernel
theorem dX7_canCook_24 : decode cX7_canCook 24 = .ok (.iload_n 1, 1) := by decide +kernel
theorem dX7_canCook_25 : decode cX7_canCook 25 = .ok (.aaload, 1) := by decide +kernel
theorem dX7_canCook_26 : decode cX7_canCook 26 = .ok (.iload_n 2, 1) := by decide +kernel
theorem dX7_canCook_27 : decode cX7_canCook 27 = .ok (.invokevirtual 99, 3) := by decide +kernel
theorem dX7_canCook_30 : decode cX7_canCook 30 = .ok (.ireturn, 1) := by decide +kernel
theorem dX7_bestLorry_0 : decode cX7_bestLorry 0 = .ok (.iload_n 1, 1) := by decide +kernel
theorem dX7_bestLorry_1 : decode cX7_bestLorry 1 = .ok (.aload_n 0, 1) := by decide +kernel
theorem dX7_bestLorry_2 : decode cX7_bestLorry 2 = .ok (.getfield 10, 3) := by decide +kernel
theorem dX7_bestLorry_5 : decode cX7_bestLorry 5 = .ok (.getfield 148, 3) := by decide +kernel
theorem dX7_bestLorry_8 : decode cX7_bestLorry 8 = .ok (.invokestatic 60, 3) := by decide +kernel
theorem dX7_bestLorry_11 : decode cX7_bestLorry 11 = .ok (.aload_n 0, 1) := by decide +kernel
theorem dX7_bestLorry_12 : decode cX7_bestLorry 12 = .ok (.getfield 10, 3) := by decide +kernel
theorem dX7_bestLorry_15 : decode cX7_bestLorry 15 = .ok (.getfield 155, 3) := by decide +kernel
theorem dX7_bestLorry_18 : decode cX7_bestLorry 18 = .ok (.iload_n 1, 1) := by decide +kernel
theorem dX7_bestLorry_19 : decode cX7_bestLorry 19 = .ok (.aaload, 1) := by decide +kernel
theorem dX7_bestLorry_20 : decode cX7_bestLorry 20 = .ok (.astore_n 2, 1) := by decide +kernel
theorem dX7_bestLorry_21 : decode cX7_bestLorry 21 = .ok (.aload_n 2, 1) := by decide +kernel
theorem dX7_bestLorry_22 : decode cX7_bestLorry 22 = .ok (.getfield 159, 3) := by decide +kernel
theorem dX7_bestLorry_25 : decode cX7_bestLorry 25 = .ok (.ifCond .ne 14, 3) := by decide +kernel
theorem dX7_bestLorry_28 : decode cX7_bestLorry 28 = .ok (.aload_n 0, 1) := by decide +kernel
theorem dX7_bestLorry_29 : decode cX7_bestLorry 29 = .ok (.getfield 10, 3) := by decide +kernel
theorem dX7_bestLorry_32 : decode cX7_bestLorry 32 = .ok (.aload_n 2, 1) := by decide +kernel
theorem dX7_bestLorry_33 : decode cX7_bestLorry 33 = .ok (.invokevirtual 291, 3) := by decide +kernel
theorem dX7_bestLorry_36 : decode cX7_bestLorry 36 = .ok (.goto 4, 3) := by decide +kernel
theorem dX7_bestLorry_39 : decode cX7_bestLorry 39 = .ok (.iconst (-1), 1) := by decide +kernel
theorem dX7_bestLorry_40 : decode cX7_bestLorry 40 = .ok (.ireturn, 1) := by decide +kernel
theorem dX7_enoughGrace_0 : decode cX7_enoughGrace 0 = .ok (.iload_n 1, 1) := by decide +kernel
theorem dX7_enoughGrace_1 : decode cX7_enoughGrace 1 = .ok (.iconst 1, 1) := by decide +kernel
theorem dX7_enoughGrace_2 : decode cX7_enoughGrace 2 = .ok (.sipush 200, 3) := by decide +kernel
theorem dX7_enoughGrace_5 : decode cX7_enoughGrace 5 = .ok (.invokestatic 41, 3) := by decide +kernel
theorem dX7_enoughGrace_8 : decode cX7_enoughGrace 8 = .ok (.aload_n 0, 1) := by decide +kernel
theorem dX7_enoughGrace_9 : decode cX7_enoughGrace 9 = .ok (.iload_n 1, 1) := by decide +kernel
theorem dX7_enoughGrace_10 : decode cX7_enoughGrace 10 = .ok (.invokevirtual 295, 3) := by decide +kernel
theorem dX7_enoughGrace_13 : decode cX7_enoughGrace 13 = .ok (.ireturn, 1) := by decide +kernel
theorem dX7_servedShare_0 : decode cX7_servedShare 0 = .ok (.aload_n 0, 1) := by decide +kernel
theorem dX7_servedShare_1 : decode cX7_servedShare 1 = .ok (.getfield 10, 3) := by decide +kernel
theorem dX7_servedShare_4 : decode cX7_servedShare 4 = .ok (.getfield 273, 3) := by decide +kernel
theorem dX7_servedShare_7 : decode cX7_servedShare 7 = .ok (.istore_n 1, 1) := by decide +kernel
theorem dX7_servedShare_8 : decode cX7_servedShare 8 = .ok (.iload_n 1, 1) := by decide +kernel
theorem dX7_servedShare_9 : decode cX7_servedShare 9 = .ok (.ifCond .ne 7, 3) := by decide +kernel
theorem dX7_servedShare_12 : decode cX7_servedShare 12 = .ok (.dconst 0, 1) := by decide +kernel
theorem dX7_servedShare_13 : decode cX7_servedShare 13 = .ok (.goto 14, 3) := by decide +kernel
theorem dX7_servedShare_16 : decode cX7_servedShare 16 = .ok (.aload_n 0, 1) := by decide +kernel
theorem dX7_servedShare_17 : decode cX7_servedShare 17 = .ok (.getfield 10, 3) := by decide +kernel
theorem dX7_servedShare_20 : decode cX7_servedShare 20 = .ok (.invokevirtual 198, 3) := by decide +kernel
theorem dX7_servedShare_23 : decode cX7_servedShare 23 = .ok (.i2d, 1) := by decide +kernel
theorem dX7_servedShare_24 : decode cX7_servedShare 24 = .ok (.iload_n 1, 1) := by decide +kernel
theorem dX7_servedShare_25 : decode cX7_servedShare 25 = .ok (.i2d, 1) := by decide +kernel
theorem dX7_servedShare_26 : decode cX7_servedShare 26 = .ok (.ddiv, 1) := by decide +kernel
theorem dX7_servedShare_27 : decode cX7_servedShare 27 = .ok (.dreturn, 1) := by decide +kernel
theorem dX7_digest_0 : decode cX7_digest 0 = .ok (.ldc2_w 298, 3) := by decide +kernel
theorem dX7_digest_3 : decode cX7_digest 3 = .ok (.lstore_n 1, 1) := by decide +kernel
theorem dX7_digest_4 : decode cX7_digest 4 = .ok (.iconst 0, 1) := by decide +kernel
theorem dX7_digest_5 : decode cX7_digest 5 = .ok (.istore_n 3, 1) := by decide +kernel
theorem dX7_digest_6 : decode cX7_digest 6 = .ok (.iload_n 3, 1) := by decide +kernel
theorem dX7_digest_7 : decode cX7_digest 7 = .ok (.bipush 16, 2) := by decide +kernel
theorem dX7_digest_9 : decode cX7_digest 9 = .ok (.if_icmp .gt 22, 3) := by decide +kernel
theorem dX7_digest_12 : decode cX7_digest 12 = .ok (.ldc2_w 300, 3) := by decide +kernel
theorem dX7_digest_15 : decode cX7_digest 15 = .ok (.lload_n 1, 1) := by decide +kernel
theorem dX7_digest_16 : decode cX7_digest 16 = .ok (.lmul, 1) := by decide +kernel
theorem dX7_digest_17 : decode cX7_digest 17 = .ok (.aload_n 0, 1) := by decide +kernel
theorem dX7_digest_18 : decode cX7_digest 18 = .ok (.iload_n 3, 1) := by decide +kernel
theorem dX7_digest_19 : decode cX7_digest 19 = .ok (.invokevirtual 302, 3) := by decide +kernel
theorem dX7_digest_22 : decode cX7_digest 22 = .ok (.i2l, 1) := by decide +kernel
theorem dX7_digest_23 : decode cX7_digest 23 = .ok (.ladd, 1) := by decide +kernel
theorem dX7_digest_24 : decode cX7_digest 24 = .ok (.lstore_n 1, 1) := by decide +kernel
theorem dX7_digest_25 : decode cX7_digest 25 = .ok (.iinc 3 1, 3) := by decide +kernel
theorem dX7_digest_28 : decode cX7_digest 28 = .ok (.goto (-22), 3) := by decide +kernel
theorem dX7_digest_31 : decode cX7_digest 31 = .ok (.iconst 0, 1) := by decide +kernel
theorem dX7_digest_32 : decode cX7_digest 32 = .ok (.istore_n 3, 1) := by decide +kernel
theorem dX7_digest_33 : decode cX7_digest 33 = .ok (.iload_n 3, 1) := by decide +kernel
theorem dX7_digest_34 : decode cX7_digest 34 = .ok (.bipush 6, 2) := by decide +kernel
theorem dX7_digest_36 : decode cX7_digest 36 = .ok (.if_icmp .ge 26, 3) := by decide +kernel
theorem dX7_digest_39 : decode cX7_digest 39 = .ok (.ldc2_w 300, 3) := by decide +kernel
theorem dX7_digest_42 : decode cX7_digest 42 = .ok (.lload_n 1, 1) := by decide +kernel
theorem dX7_digest_43 : decode cX7_digest 43 = .ok (.lmul, 1) := by decide +kernel
theorem dX7_digest_44 : decode cX7_digest 44 = .ok (.aload_n 0, 1) := by decide +kernel
theorem dX7_digest_45 : decode cX7_digest 45 = .ok (.getfield 10, 3) := by decide +kernel
theorem dX7_digest_48 : decode cX7_digest 48 = .ok (.getfield 84, 3) := by decide +kernel
theorem dX7_digest_51 : decode cX7_digest 51 = .ok (.iload_n 3, 1) := by decide +kernel
theorem dX7_digest_52 : decode cX7_digest 52 = .ok (.iaload, 1) := by decide +kernel
theorem dX7_digest_53 : decode cX7_digest 53 = .ok (.i2l, 1) := by decide +kernel
theorem dX7_digest_54 : decode cX7_digest 54 = .ok (.ladd, 1) := by decide +kernel
theorem dX7_digest_55 : decode cX7_digest 55 = .ok (.lstore_n 1, 1) := by decide +kernel
theorem dX7_digest_56 : decode cX7_digest 56 = .ok (.iinc 3 1, 3) := by decide +kernel
theorem dX7_digest_59 : decode cX7_digest 59 = .ok (.goto (-26), 3) := by decide +kernel
theorem dX7_digest_62 : decode cX7_digest 62 = .ok (.aload_n 0, 1) := by decide +kernel
theorem dX7_digest_63 : decode cX7_digest 63 = .ok (.lload_n 1, 1) := by decide +kernel
theorem dX7_digest_64 : decode cX7_digest 64 = .ok (.invokevirtual 305, 3) := by decide +kernel
theorem dX7_digest_67 : decode cX7_digest 67 = .ok (.lstore_n 1, 1) := by decide +kernel
theorem dX7_digest_68 : decode cX7_digest 68 = .ok (.aload_n 0, 1) := by decide +kernel
theorem dX7_digest_69 : decode cX7_digest 69 = .ok (.lload_n 1, 1) := by decide +kernel
theorem dX7_digest_70 : decode cX7_digest 70 = .ok (.invokevirtual 309, 3) := by decide +kernel
theorem dX7_digest_73 : decode cX7_digest 73 = .ok (.lstore_n 1, 1) := by decide +kernel
theorem dX7_digest_74 : decode cX7_digest 74 = .ok (.aload_n 0, 1) := by decide +kernel
theorem dX7_digest_75 : decode cX7_digest 75 = .ok (.lload_n 1, 1) := by decide +kernel
theorem dX7_digest_76 : decode cX7_digest 76 = .ok (.invokevirtual 312, 3) := by decide +kernel
theorem dX7_digest_79 : decode cX7_digest 79 = .ok (.lstore_n 1, 1) := by decide +kernel
theorem dX7_digest_80 : decode cX7_digest 80 = .ok (.aload_n 0, 1) := by decide +kernel
theorem dX7_digest_81 : decode cX7_digest 81 = .ok (.lload_n 1, 1) := by decide +kernel
theorem dX7_digest_82 : decode cX7_digest 82 = .ok (.invokevirtual 315, 3) := by decide +kernel
theorem dX7_digest_85 : decode cX7_digest 85 = .ok (.lstore_n 1, 1) := by decide +kernel
theorem dX7_digest_86 : decode cX7_digest 86 = .ok (.aload_n 0, 1) := by decide +kernel
theorem dX7_digest_87 : decode cX7_digest 87 = .ok (.bipush 30, 2) := by decide +kernel
theorem dX7_digest_89 : decode cX7_digest 89 = .ok (.invokevirtual 282, 3) := by decide +kernel
theorem dX7_digest_92 : decode cX7_digest 92 = .ok (.iconst 0, 1) := by decide +kernel
theorem dX7_digest_93 : decode cX7_digest 93 = .ok (.istore_n 3, 1) := by decide +kernel
theorem dX7_digest_94 : decode cX7_digest 94 = .ok (.iload_n 3, 1) := by decide +kernel
theorem dX7_digest_95 : decode cX7_digest 95 = .ok (.iconst 3, 1) := by decide +kernel
theorem dX7_digest_96 : decode cX7_digest 96 = .ok (.if_icmp .gt 22, 3) := by decide +kernel
theorem dX7_digest_99 : decode cX7_digest 99 = .ok (.ldc2_w 300, 3) := by decide +kernel
theorem dX7_digest_102 : decode cX7_digest 102 = .ok (.lload_n 1, 1) := by decide +kernel
theorem dX7_digest_103 : decode cX7_digest 103 = .ok (.lmul, 1) := by decide +kernel
theorem dX7_digest_104 : decode cX7_digest 104 = .ok (.aload_n 0, 1) := by decide +kernel
theorem dX7_digest_105 : decode cX7_digest 105 = .ok (.iload_n 3, 1) := by decide +kernel
theorem dX7_digest_106 : decode cX7_digest 106 = .ok (.invokevirtual 285, 3) := by decide +kernel
theorem dX7_digest_109 : decode cX7_digest 109 = .ok (.i2l, 1) := by decide +kernel
theorem dX7_digest_110 : decode cX7_digest 110 = .ok (.ladd, 1) := by decide +kernel
theorem dX7_digest_111 : decode cX7_digest 111 = .ok (.lstore_n 1, 1) := by decide +kernel
theorem dX7_digest_112 : decode cX7_digest 112 = .ok (.iinc 3 1, 3) := by decide +kernel
theorem dX7_digest_115 : decode cX7_digest 115 = .ok (.goto (-21), 3) := by decide +kernel
theorem dX7_digest_118 : decode cX7_digest 118 = .ok (.ldc2_w 300, 3) := by decide +kernel
theorem dX7_digest_121 : decode cX7_digest 121 = .ok (.lload_n 1, 1) := by decide +kernel
theorem dX7_digest_122 : decode cX7_digest 122 = .ok (.lmul, 1) := by decide +kernel
theorem dX7_digest_123 : decode cX7_digest 123 = .ok (.aload_n 0, 1) := by decide +kernel
theorem dX7_digest_124 : decode cX7_digest 124 = .ok (.bipush 120, 2) := by decide +kernel
theorem dX7_digest_126 : decode cX7_digest 126 = .ok (.iconst 0, 1) := by decide +kernel
theorem dX7_digest_127 : decode cX7_digest 127 = .ok (.invokevirtual 318, 3) := by decide +kernel
theorem dX7_digest_130 : decode cX7_digest 130 = .ok (.i2l, 1) := by decide +kernel
theorem dX7_digest_131 : decode cX7_digest 131 = .ok (.ladd, 1) := by decide +kernel
theorem dX7_digest_132 : decode cX7_digest 132 = .ok (.lstore_n 1, 1) := by decide +kernel
theorem dX7_digest_133 : decode cX7_digest 133 = .ok (.ldc2_w 300, 3) := by decide +kernel
theorem dX7_digest_136 : decode cX7_digest 136 = .ok (.lload_n 1, 1) := by decide +kernel
theorem dX7_digest_137 : decode cX7_digest 137 = .ok (.lmul, 1) := by decide +kernel
theorem dX7_digest_138 : decode cX7_digest 138 = .ok (.aload_n 0, 1) := by decide +kernel
theorem dX7_digest_139 : decode cX7_digest 139 = .ok (.bipush 120, 2) := by decide +kernel
theorem dX7_digest_141 : decode cX7_digest 141 = .ok (.iconst 1, 1) := by decide +kernel
theorem dX7_digest_142 : decode cX7_digest 142 = .ok (.invokevirtual 318, 3) := by decide +kernel
theorem dX7_digest_145 : decode cX7_digest 145 = .ok (.i2l, 1) := by decide +kernel
theorem dX7_digest_146 : decode cX7_digest 146 = .ok (.ladd, 1) := by decide +kernel
theorem dX7_digest_147 : decode cX7_digest 147 = .ok (.lstore_n 1, 1) := by decide +kernel
theorem dX7_digest_148 : decode cX7_digest 148 = .ok (.ldc2_w 300, 3) := by decide +kernel
theorem dX7_digest_151 : decode cX7_digest 151 = .ok (.lload_n 1, 1) := by decide +kernel
theorem dX7_digest_152 : decode cX7_digest 152 = .ok (.lmul, 1) := by decide +kernel
theorem dX7_digest_153 : decode cX7_digest 153 = .ok (.aload_n 0, 1) := by decide +kernel
theorem dX7_digest_154 : decode cX7_digest 154 = .ok (.bipush 20, 2) := by decide +kernel
theorem dX7_digest_156 : decode cX7_digest 156 = .ok (.invokevirtual 295, 3) := by decide +kernel
theorem dX7_digest_159 : decode cX7_digest 159 = .ok (.i2l, 1) := by decide +kernel
theorem dX7_digest_160 : decode cX7_digest 160 = .ok (.ladd, 1) := by decide +kernel
theorem dX7_digest_161 : decode cX7_digest 161 = .ok (.lstore_n 1, 1) := by decide +kernel
theorem dX7_digest_162 : decode cX7_digest 162 = .ok (.ldc2_w 300, 3) := by decide +kernel
theorem dX7_digest_165 : decode cX7_digest 165 = .ok (.lload_n 1, 1) := by decide +kernel
theorem dX7_digest_166 : decode cX7_digest 166 = .ok (.lmul, 1) := by decide +kernel
theorem dX7_digest_167 : decode cX7_digest 167 = .ok (.aload_n 0, 1) := by decide +kernel
theorem dX7_digest_168 : decode cX7_digest 168 = .ok (.invokevirtual 321, 3) := by decide +kernel
theorem dX7_digest_171 : decode cX7_digest 171 = .ok (.invokestatic 325, 3) := by decide +kernel
theorem dX7_digest_174 : decode cX7_digest 174 = .ok (.ladd, 1) := by decide +kernel
theorem dX7_digest_175 : decode cX7_digest 175 = .ok (.lstore_n 1, 1) := by decide +kernel
theorem dX7_digest_176 : decode cX7_digest 176 = .ok (.ldc2_w 300, 3) := by decide +kernel
theorem dX7_digest_179 : decode cX7_digest 179 = .ok (.lload_n 1, 1) := by decide +kernel
theorem dX7_digest_180 : decode cX7_digest 180 = .ok (.lmul, 1) := by decide +kernel
theorem dX7_digest_181 : decode cX7_digest 181 = .ok (.aload_n 0, 1) := by decide +kernel
theorem dX7_digest_182 : decode cX7_digest 182 = .ok (.getfield 37, 3) := by decide +kernel
theorem dX7_digest_185 : decode cX7_digest 185 = .ok (.i2l, 1) := by decide +kernel
theorem dX7_digest_186 : decode cX7_digest 186 = .ok (.ladd, 1) := by decide +kernel
theorem dX7_digest_187 : decode cX7_digest 187 = .ok (.lstore_n 1, 1) := by decide +kernel
theorem dX7_digest_188 : decode cX7_digest 188 = .ok (.iconst 0, 1) := by decide +kernel
theorem dX7_digest_189 : decode cX7_digest 189 = .ok (.istore_n 3, 1) := by decide +kernel
theorem dX7_digest_190 : decode cX7_digest 190 = .ok (.iload_n 3, 1) := by decide +kernel
theorem dX7_digest_191 : decode cX7_digest 191 = .ok (.aload_n 0, 1) := by decide +kernel
theorem dX7_digest_192 : decode cX7_digest 192 = .ok (.getfield 37, 3) := by decide +kernel
theorem dX7_digest_195 : decode cX7_digest 195 = .ok (.if_icmp .ge 23, 3) := by decide +kernel
theorem dX7_digest_198 : decode cX7_digest 198 = .ok (.ldc2_w 300, 3) := by decide +kernel
theorem dX7_digest_201 : decode cX7_digest 201 = .ok (.lload_n 1, 1) := by decide +kernel
theorem dX7_digest_202 : decode cX7_digest 202 = .ok (.lmul, 1) := by decide +kernel
theorem dX7_digest_203 : decode cX7_digest 203 = .ok (.aload_n 0, 1) := by decide +kernel
theorem dX7_digest_204 : decode cX7_digest 204 = .ok (.getfield 26, 3) := by decide +kernel
theorem dX7_digest_207 : decode cX7_digest 207 = .ok (.iload_n 3, 1) := by decide +kernel
theorem dX7_digest_208 : decode cX7_digest 208 = .ok (.caload, 1) := by decide +kernel
theorem dX7_digest_209 : decode cX7_digest 209 = .ok (.i2l, 1) := by decide +kernel
theorem dX7_digest_210 : decode cX7_digest 210 = .ok (.ladd, 1) := by decide +kernel
theorem dX7_digest_211 : decode cX7_digest 211 = .ok (.lstore_n 1, 1) := by decide +kernel
theorem dX7_digest_212 : decode cX7_digest 212 = .ok (.iinc 3 1, 3) := by decide +kernel
theorem dX7_digest_215 : decode cX7_digest 215 = .ok (.goto (-25), 3) := by decide +kernel
theorem dX7_digest_218 : decode cX7_digest 218 = .ok (.lload_n 1, 1) := by decide +kernel
theorem dX7_digest_219 : decode cX7_digest 219 = .ok (.lreturn, 1) := by decide +kernel
theorem dX7_requireIndex_0 : decode cX7_requireIndex 0 = .ok (.iload_n 0, 1) := by decide +kernel
theorem dX7_requireIndex_1 : decode cX7_requireIndex 1 = .ok (.ifCond .lt 8, 3) := by decide +kernel
theorem dX7_requireIndex_4 : decode cX7_requireIndex 4 = .ok (.iload_n 0, 1) := by decide +kernel
theorem dX7_requireIndex_5 : decode cX7_requireIndex 5 = .ok (.iload_n 1, 1) := by decide +kernel
theorem dX7_requireIndex_6 : decode cX7_requireIndex 6 = .ok (.if_icmp .lt 14, 3) := by decide +kernel
theorem dX7_requireIndex_9 : decode cX7_requireIndex 9 = .ok (.new 329, 3) := by decide +kernel
theorem dX7_requireIndex_12 : decode cX7_requireIndex 12 = .ok (.dup, 1) := by decide +kernel
theorem dX7_requireIndex_13 : decode cX7_requireIndex 13 = .ok (.ldc_w 331, 3) := by decide +kernel
theorem dX7_requireIndex_16 : decode cX7_requireIndex 16 = .ok (.invokespecial 333, 3) := by decide +kernel
theorem dX7_requireIndex_19 : decode cX7_requireIndex 19 = .ok (.athrow, 1) := by decide +kernel
theorem dX7_requireIndex_20 : decode cX7_requireIndex 20 = .ok (.return_, 1) := by decide +kernel
theorem dX7_requireRange_0 : decode cX7_requireRange 0 = .ok (.iload_n 0, 1) := by decide +kernel
theorem dX7_requireRange_1 : decode cX7_requireRange 1 = .ok (.iload_n 1, 1) := by decide +kernel
theorem dX7_requireRange_2 : decode cX7_requireRange 2 = .ok (.if_icmp .lt 8, 3) := by decide +kernel
theorem dX7_requireRange_5 : decode cX7_requireRange 5 = .ok (.iload_n 0, 1) := by decide +kernel
theorem dX7_requireRange_6 : decode cX7_requireRange 6 = .ok (.iload_n 2, 1) := by decide +kernel
theorem dX7_requireRange_7 : decode cX7_requireRange 7 = .ok (.if_icmp .le 14, 3) := by decide +kernel
theorem dX7_requireRange_10 : decode cX7_requireRange 10 = .ok (.new 177, 3) := by decide +kernel
theorem dX7_requireRange_13 : decode cX7_requireRange 13 = .ok (.dup, 1) := by decide +kernel
theorem dX7_requireRange_14 : decode cX7_requireRange 14 = .ok (.ldc_w 334, 3) := by decide +kernel
theorem dX7_requireRange_17 : decode cX7_requireRange 17 = .ok (.invokespecial 181, 3) := by decide +kernel
theorem dX7_requireRange_20 : decode cX7_requireRange 20 = .ok (.athrow, 1) := by decide +kernel
theorem dX7_requireRange_21 : decode cX7_requireRange 21 = .ok (.return_, 1) := by decide +kernel
theorem dX7_requireState_0 : decode cX7_requireState 0 = .ok (.iload_n 0, 1) := by decide +kernel
theorem dX7_requireState_1 : decode cX7_requireState 1 = .ok (.ifCond .ne 14, 3) := by decide +kernel
theorem dX7_requireState_4 : decode cX7_requireState 4 = .ok (.new 336, 3) := by decide +kernel
theorem dX7_requireState_7 : decode cX7_requireState 7 = .ok (.dup, 1) := by decide +kernel
theorem dX7_requireState_8 : decode cX7_requireState 8 = .ok (.ldc_w 338, 3) := by decide +kernel
theorem dX7_requireState_11 : decode cX7_requireState 11 = .ok (.invokespecial 340, 3) := by decide +kernel
theorem dX7_requireState_14 : decode cX7_requireState 14 = .ok (.athrow, 1) := by decide +kernel
theorem dX7_requireState_15 : decode cX7_requireState 15 = .ok (.return_, 1) := by decide +kernel
theorem dX7_dividedUp_0 : decode cX7_dividedUp 0 = .ok (.iload_n 1, 1) := by decide +kernel
theorem dX7_dividedUp_1 : decode cX7_dividedUp 1 = .ok (.iconst 1, 1) := by decide +kernel
theorem dX7_dividedUp_2 : decode cX7_dividedUp 2 = .ok (.if_icmp .ge 7, 3) := by decide +kernel
theorem dX7_dividedUp_5 : decode cX7_dividedUp 5 = .ok (.iconst 0, 1) := by decide +kernel
theorem dX7_dividedUp_6 : decode cX7_dividedUp 6 = .ok (.goto 10, 3) := by decide +kernel
theorem dX7_dividedUp_9 : decode cX7_dividedUp 9 = .ok (.iload_n 0, 1) := by decide +kernel
theorem dX7_dividedUp_10 : decode cX7_dividedUp 10 = .ok (.iload_n 1, 1) := by decide +kernel
theorem dX7_dividedUp_11 : decode cX7_dividedUp 11 = .ok (.iadd, 1) := by decide +kernel
theorem dX7_dividedUp_12 : decode cX7_dividedUp 12 = .ok (.iconst 1, 1) := by decide +kernel
theorem dX7_dividedUp_13 : decode cX7_dividedUp 13 = .ok (.isub, 1) := by decide +kernel
theorem dX7_dividedUp_14 : decode cX7_dividedUp 14 = .ok (.iload_n 1, 1) := by decide +kernel
theorem dX7_dividedUp_15 : decode cX7_dividedUp 15 = .ok (.idiv, 1) := by decide +kernel
theorem dX7_dividedUp_16 : decode cX7_dividedUp 16 = .ok (.ireturn, 1) := by decide +kernel
theorem dX7_addUnitsOfSheet_0 : decode cX7_addUnitsOfSheet 0 = .ok (.iconst 0, 1) := by decide +kernel
theorem dX7_addUnitsOfSheet_1 : decode cX7_addUnitsOfSheet 1 = .ok (.istore_n 1, 1) := by decide +kernel
theorem dX7_addUnitsOfSheet_2 : decode cX7_addUnitsOfSheet 2 = .ok (.aload_n 0, 1) := by decide +kernel
theorem dX7_addUnitsOfSheet_3 : decode cX7_addUnitsOfSheet 3 = .ok (.getfield 33, 3) := by decide +kernel
theorem dX7_addUnitsOfSheet_6 : decode cX7_addUnitsOfSheet 6 = .ok (.invokevirtual 204, 3) := by decide +kernel
theorem dX7_addUnitsOfSheet_9 : decode cX7_addUnitsOfSheet 9 = .ok (.iconst 0, 1) := by decide +kernel
theorem dX7_addUnitsOfSheet_10 : decode cX7_addUnitsOfSheet 10 = .ok (.istore_n 2, 1) := by decide +kernel
theorem dX7_addUnitsOfSheet_11 : decode cX7_addUnitsOfSheet 11 = .ok (.iload_n 2, 1) := by decide +kernel
theorem dX7_addUnitsOfSheet_12 : decode cX7_addUnitsOfSheet 12 = .ok (.aload_n 0, 1) := by decide +kernel
theorem dX7_addUnitsOfSheet_13 : decode cX7_addUnitsOfSheet 13 = .ok (.getfield 37, 3) := by decide +kernel
theorem dX7_addUnitsOfSheet_16 : decode cX7_addUnitsOfSheet 16 = .ok (.if_icmp .gt 113, 3) := by decide +kernel
theorem dX7_addUnitsOfSheet_19 : decode cX7_addUnitsOfSheet 19 = .ok (.iload_n 2, 1) := by decide +kernel
theorem dX7_addUnitsOfSheet_20 : decode cX7_addUnitsOfSheet 20 = .ok (.aload_n 0, 1) := by decide +kernel
theorem dX7_addUnitsOfSheet_21 : decode cX7_addUnitsOfSheet 21 = .ok (.getfield 37, 3) := by decide +kernel
theorem dX7_addUnitsOfSheet_24 : decode cX7_addUnitsOfSheet 24 = .ok (.if_icmp .eq 14, 3) := by decide +kernel
theorem dX7_addUnitsOfSheet_27 : decode cX7_addUnitsOfSheet 27 = .ok (.aload_n 0, 1) := by decide +kernel
theorem dX7_addUnitsOfSheet_28 : decode cX7_addUnitsOfSheet 28 = .ok (.getfield 26, 3) := by decide +kernel
theorem dX7_addUnitsOfSheet_31 : decode cX7_addUnitsOfSheet 31 = .ok (.iload_n 2, 1) := by decide +kernel
theorem dX7_addUnitsOfSheet_32 : decode cX7_addUnitsOfSheet 32 = .ok (.caload, 1) := by decide +kernel
theorem dX7_addUnitsOfSheet_33 : decode cX7_addUnitsOfSheet 33 = .ok (.bipush 44, 2) := by decide +kernel
theorem dX7_addUnitsOfSheet_35 : decode cX7_addUnitsOfSheet 35 = .ok (.if_icmp .ne 66, 3) := by decide +kernel
theorem dX7_addUnitsOfSheet_38 : decode cX7_addUnitsOfSheet 38 = .ok (.aload_n 0, 1) := by decide +kernel
theorem dX7_addUnitsOfSheet_39 : decode cX7_addUnitsOfSheet 39 = .ok (.invokevirtual 341, 3) := by decide +kernel
theorem dX7_addUnitsOfSheet_42 : decode cX7_addUnitsOfSheet 42 = .ok (.ifCond .ne 5, 3) := by decide +kernel
theorem dX7_addUnitsOfSheet_45 : decode cX7_addUnitsOfSheet 45 = .ok (.iload_n 1, 1) := by decide +kernel
theorem dX7_addUnitsOfSheet_46 : decode cX7_addUnitsOfSheet 46 = .ok (.ireturn, 1) := by decide +kernel
theorem dX7_addUnitsOfSheet_47 : decode cX7_addUnitsOfSheet 47 = .ok (.aload_n 0, 1) := by decide +kernel
theorem dX7_addUnitsOfSheet_48 : decode cX7_addUnitsOfSheet 48 = .ok (.getfield 10, 3) := by decide +kernel
theorem dX7_addUnitsOfSheet_51 : decode cX7_addUnitsOfSheet 51 = .ok (.aload_n 0, 1) := by decide +kernel
theorem dX7_addUnitsOfSheet_52 : decode cX7_addUnitsOfSheet 52 = .ok (.getfield 33, 3) := by decide +kernel
theorem dX7_addUnitsOfSheet_55 : decode cX7_addUnitsOfSheet 55 = .ok (.getfield 344, 3) := by decide +kernel
theorem dX7_addUnitsOfSheet_58 : decode cX7_addUnitsOfSheet 58 = .ok (.aload_n 0, 1) := by decide +kernel
theorem dX7_addUnitsOfSheet_59 : decode cX7_addUnitsOfSheet 59 = .ok (.getfield 33, 3) := by decide +kernel
theorem dX7_addUnitsOfSheet_62 : decode cX7_addUnitsOfSheet 62 = .ok (.invokevirtual 345, 3) := by decide +kernel
theorem dX7_addUnitsOfSheet_65 : decode cX7_addUnitsOfSheet 65 = .ok (.aload_n 0, 1) := by decide +kernel
theorem dX7_addUnitsOfSheet_66 : decode cX7_addUnitsOfSheet 66 = .ok (.getfield 33, 3) := by decide +kernel
theorem dX7_addUnitsOfSheet_69 : decode cX7_addUnitsOfSheet 69 = .ok (.invokevirtual 346, 3) := by decide +kernel
theorem dX7_addUnitsOfSheet_72 : decode cX7_addUnitsOfSheet 72 = .ok (.aload_n 0, 1) := by decide +kernel
theorem dX7_addUnitsOfSheet_73 : decode cX7_addUnitsOfSheet 73 = .ok (.getfield 10, 3) := by decide +kernel
theorem dX7_addUnitsOfSheet_76 : decode cX7_addUnitsOfSheet 76 = .ok (.getfield 132, 3) := by decide +kernel
theorem dX7_addUnitsOfSheet_79 : decode cX7_addUnitsOfSheet 79 = .ok (.aload_n 0, 1) := by decide +kernel
theorem dX7_addUnitsOfSheet_80 : decode cX7_addUnitsOfSheet 80 = .ok (.getfield 33, 3) := by decide +kernel
theorem dX7_addUnitsOfSheet_83 : decode cX7_addUnitsOfSheet 83 = .ok (.invokevirtual 348, 3) := by decide +kernel
theorem dX7_addUnitsOfSheet_86 : decode cX7_addUnitsOfSheet 86 = .ok (.iadd, 1) := by decide +kernel
theorem dX7_addUnitsOfSheet_87 : decode cX7_addUnitsOfSheet 87 = .ok (.aload_n 0, 1) := by decide +kernel
theorem dX7_addUnitsOfSheet_88 : decode cX7_addUnitsOfSheet 88 = .ok (.getfield 33, 3) := by decide +kernel
theorem dX7_addUnitsOfSheet_91 : decode cX7_addUnitsOfSheet 91 = .ok (.invokevirtual 351, 3) := by decide +kernel
theorem dX7_addUnitsOfSheet_94 : decode cX7_addUnitsOfSheet 94 = .ok (.invokevirtual 151, 3) := by decide +kernel
theorem dX7_addUnitsOfSheet_97 : decode cX7_addUnitsOfSheet 97 = .ok (.pop, 1) := by decide +kernel
theorem dX7_addUnitsOfSheet_98 : decode cX7_addUnitsOfSheet 98 = .ok (.iinc 1 1, 3) := by decide +kernel
theorem dX7_addUnitsOfSheet_101 : decode cX7_addUnitsOfSheet 101 = .ok (.iload_n 2, 1) := by decide +kernel
theorem dX7_addUnitsOfSheet_102 : decode cX7_addUnitsOfSheet 102 = .ok (.aload_n 0, 1) := by decide +kernel
theorem dX7_addUnitsOfSheet_103 : decode cX7_addUnitsOfSheet 103 = .ok (.getfield 37, 3) := by decide +kernel
theorem dX7_addUnitsOfSheet_106 : decode cX7_addUnitsOfSheet 106 = .ok (.if_icmp .ge 17, 3) := by decide +kernel
theorem dX7_addUnitsOfSheet_109 : decode cX7_addUnitsOfSheet 109 = .ok (.aload_n 0, 1) := by decide +kernel
theorem dX7_addUnitsOfSheet_110 : decode cX7_addUnitsOfSheet 110 = .ok (.getfield 33, 3) := by decide +kernel
theorem dX7_addUnitsOfSheet_113 : decode cX7_addUnitsOfSheet 113 = .ok (.aload_n 0, 1) := by decide +kernel
theorem dX7_addUnitsOfSheet_114 : decode cX7_addUnitsOfSheet 114 = .ok (.getfield 26, 3) := by decide +kernel
theorem dX7_addUnitsOfSheet_117 : decode cX7_addUnitsOfSheet 117 = .ok (.iload_n 2, 1) := by decide +kernel
theorem dX7_addUnitsOfSheet_118 : decode cX7_addUnitsOfSheet 118 = .ok (.caload, 1) := by decide +kernel
theorem dX7_addUnitsOfSheet_119 : decode cX7_addUnitsOfSheet 119 = .ok (.invokevirtual 207, 3) := by decide +kernel
theorem dX7_addUnitsOfSheet_122 : decode cX7_addUnitsOfSheet 122 = .ok (.pop, 1) := by decide +kernel
theorem dX7_addUnitsOfSheet_123 : decode cX7_addUnitsOfSheet 123 = .ok (.iinc 2 1, 3) := by decide +kernel
theorem dX7_addUnitsOfSheet_126 : decode cX7_addUnitsOfSheet 126 = .ok (.goto (-115), 3) := by decide +kernel
theorem dX7_addUnitsOfSheet_129 : decode cX7_addUnitsOfSheet 129 = .ok (.iload_n 1, 1) := by decide +kernel
theorem dX7_addUnitsOfSheet_130 : decode cX7_addUnitsOfSheet 130 = .ok (.ireturn, 1) := by decide +kernel
theorem dX7_mayAddReadUnit_0 : decode cX7_mayAddReadUnit 0 = .ok (.aload_n 0, 1) := by decide +kernel
theorem dX7_mayAddReadUnit_1 : decode cX7_mayAddReadUnit 1 = .ok (.getfield 33, 3) := by decide +kernel
theorem dX7_mayAddReadUnit_4 : decode cX7_mayAddReadUnit 4 = .ok (.getfield 344, 3) := by decide +kernel
theorem dX7_mayAddReadUnit_7 : decode cX7_mayAddReadUnit 7 = .ok (.aload_n 0, 1) := by decide +kernel
theorem dX7_mayAddReadUnit_8 : decode cX7_mayAddReadUnit 8 = .ok (.getfield 10, 3) := by decide +kernel
theorem dX7_mayAddReadUnit_11 : decode cX7_mayAddReadUnit 11 = .ok (.getfield 45, 3) := by decide +kernel
theorem dX7_mayAddReadUnit_14 : decode cX7_mayAddReadUnit 14 = .ok (.if_icmp .ge 36, 3) := by decide +kernel
theorem dX7_mayAddReadUnit_17 : decode cX7_mayAddReadUnit 17 = .ok (.aload_n 0, 1) := by decide +kernel
theorem dX7_mayAddReadUnit_18 : decode cX7_mayAddReadUnit 18 = .ok (.getfield 33, 3) := by decide +kernel
theorem dX7_mayAddReadUnit_21 : decode cX7_mayAddReadUnit 21 = .ok (.invokevirtual 346, 3) := by decide +kernel
theorem dX7_mayAddReadUnit_24 : decode cX7_mayAddReadUnit 24 = .ok (.aload_n 0, 1) := by decide +kernel
theorem dX7_mayAddReadUnit_25 : decode cX7_mayAddReadUnit 25 = .ok (.getfield 33, 3) := by decide +kernel
theorem dX7_mayAddReadUnit_28 : decode cX7_mayAddReadUnit 28 = .ok (.invokevirtual 345, 3) := by decide +kernel
theorem dX7_mayAddReadUnit_31 : decode cX7_mayAddReadUnit 31 = .ok (.if_icmp .gt 19, 3) := by decide +kernel
theorem dX7_mayAddReadUnit_34 : decode cX7_mayAddReadUnit 34 = .ok (.aload_n 0, 1) := by decide +kernel
theorem dX7_mayAddReadUnit_35 : decode cX7_mayAddReadUnit 35 = .ok (.getfield 10, 3) := by decide +kernel
theorem dX7_mayAddReadUnit_38 : decode cX7_mayAddReadUnit 38 = .ok (.getfield 148, 3) := by decide +kernel
theorem dX7_mayAddReadUnit_41 : decode cX7_mayAddReadUnit 41 = .ok (.bipush 12, 2) := by decide +kernel
theorem dX7_mayAddReadUnit_43 : decode cX7_mayAddReadUnit 43 = .ok (.if_icmp .ge 7, 3) := by decide +kernel
theorem dX7_mayAddReadUnit_46 : decode cX7_mayAddReadUnit 46 = .ok (.iconst 1, 1) := by decide +kernel
theorem dX7_mayAddReadUnit_47 : decode cX7_mayAddReadUnit 47 = .ok (.goto 4, 3) := by decide +kernel
theorem dX7_mayAddReadUnit_50 : decode cX7_mayAddReadUnit 50 = .ok (.iconst 0, 1) := by decide +kernel
theorem dX7_mayAddReadUnit_51 : decode cX7_mayAddReadUnit 51 = .ok (.ireturn, 1) := by decide +kernel
theorem dX7_lookAhead_0 : decode cX7_lookAhead 0 = .ok (.aload_n 0, 1) := by decide +kernel
theorem dX7_lookAhead_1 : decode cX7_lookAhead 1 = .ok (.getfield 16, 3) := by decide +kernel
theorem dX7_lookAhead_4 : decode cX7_lookAhead 4 = .ok (.aload_n 0, 1) := by decide +kernel
theorem dX7_lookAhead_5 : decode cX7_lookAhead 5 = .ok (.getfield 10, 3) := by decide +kernel
theorem dX7_lookAhead_8 : decode cX7_lookAhead 8 = .ok (.invokevirtual 353, 3) := by decide +kernel
theorem dX7_lookAhead_11 : decode cX7_lookAhead 11 = .ok (.iconst 0, 1) := by decide +kernel
theorem dX7_lookAhead_12 : decode cX7_lookAhead 12 = .ok (.istore_n 2, 1) := by decide +kernel
theorem dX7_lookAhead_13 : decode cX7_lookAhead 13 = .ok (.iload_n 2, 1) := by decide +kernel
theorem dX7_lookAhead_14 : decode cX7_lookAhead 14 = .ok (.iload_n 1, 1) := by decide +kernel
theorem dX7_lookAhead_15 : decode cX7_lookAhead 15 = .ok (.if_icmp .ge 16, 3) := by decide +kernel
theorem dX7_lookAhead_18 : decode cX7_lookAhead 18 = .ok (.aload_n 0, 1) := by decide +kernel
theorem dX7_lookAhead_19 : decode cX7_lookAhead 19 = .ok (.getfield 16, 3) := by decide +kernel
theorem dX7_lookAhead_22 : decode cX7_lookAhead 22 = .ok (.invokevirtual 201, 3) := by decide +kernel
theorem dX7_lookAhead_25 : decode cX7_lookAhead 25 = .ok (.iinc 2 1, 3) := by decide +kernel
theorem dX7_lookAhead_28 : decode cX7_lookAhead 28 = .ok (.goto (-15), 3) := by decide +kernel
theorem dX7_lookAhead_31 : decode cX7_lookAhead 31 = .ok (.return_, 1) := by decide +kernel
theorem dX7_forecast_0 : decode cX7_forecast 0 = .ok (.iload_n 1, 1) := by decide +kernel
theorem dX7_forecast_1 : decode cX7_forecast 1 = .ok (.tableswitch 75 0 2 #[27, 43, 59], 27) := by decide +kernel
theorem dX7_forecast_28 : decode cX7_forecast 28 = .ok (.aload_n 0, 1) := by decide +kernel
theorem dX7_forecast_29 : decode cX7_forecast 29 = .ok (.getfield 16, 3) := by decide +kernel
theorem dX7_forecast_32 : decode cX7_forecast 32 = .ok (.invokevirtual 198, 3) := by decide +kernel
theorem dX7_forecast_35 : decode cX7_forecast 35 = .ok (.aload_n 0, 1) := by decide +kernel
theorem dX7_forecast_36 : decode cX7_forecast 36 = .ok (.getfield 10, 3) := by decide +kernel
theorem dX7_forecast_39 : decode cX7_forecast 39 = .ok (.invokevirtual 198, 3) := by decide +kernel
theorem dX7_forecast_42 : decode cX7_forecast 42 = .ok (.isub, 1) := by decide +kernel
theorem dX7_forecast_43 : decode cX7_forecast 43 = .ok (.ireturn, 1) := by decide +kernel
theorem dX7_forecast_44 : decode cX7_forecast 44 = .ok (.aload_n 0, 1) := by decide +kernel
theorem dX7_forecast_45 : decode cX7_forecast 45 = .ok (.getfield 16, 3) := by decide +kernel
theorem dX7_forecast_48 : decode cX7_forecast 48 = .ok (.invokevirtual 264, 3) := by decide +kernel
theorem dX7_forecast_51 : decode cX7_forecast 51 = .ok (.aload_n 0, 1) := by decide +kernel
theorem dX7_forecast_52 : decode cX7_forecast 52 = .ok (.getfield 10, 3) := by decide +kernel
theorem dX7_forecast_55 : decode cX7_forecast 55 = .ok (.invokevirtual 264, 3) := by decide +kernel
theorem dX7_forecast_58 : decode cX7_forecast 58 = .ok (.isub, 1) := by decide +kernel
theorem dX7_forecast_59 : decode cX7_forecast 59 = .ok (.ireturn, 1) := by decide +kernel
theorem dX7_forecast_60 : decode cX7_forecast 60 = .ok (.aload_n 0, 1) := by decide +kernel
theorem dX7_forecast_61 : decode cX7_forecast 61 = .ok (.getfield 16, 3) := by decide +kernel
theorem dX7_forecast_64 : decode cX7_forecast 64 = .ok (.invokevirtual 279, 3) := by decide +kernel
theorem dX7_forecast_67 : decode cX7_forecast 67 = .ok (.aload_n 0, 1) := by decide +kernel
theorem dX7_forecast_68 : decode cX7_forecast 68 = .ok (.getfield 10, 3) := by decide +kernel
theorem dX7_forecast_71 : decode cX7_forecast 71 = .ok (.invokevirtual 279, 3) := by decide +kernel
theorem dX7_forecast_74 : decode cX7_forecast 74 = .ok (.isub, 1) := by decide +kernel
theorem dX7_forecast_75 : decode cX7_forecast 75 = .ok (.ireturn, 1) := by decide +kernel
theorem dX7_forecast_76 : decode cX7_forecast 76 = .ok (.aload_n 0, 1) := by decide +kernel
theorem dX7_forecast_77 : decode cX7_forecast 77 = .ok (.getfield 16, 3) := by decide +kernel
theorem dX7_forecast_80 : decode cX7_forecast 80 = .ok (.invokevirtual 276, 3) := by decide +kernel
theorem dX7_forecast_83 : decode cX7_forecast 83 = .ok (.ireturn, 1) := by decide +kernel
theorem dX7_leastGrace_0 : decode cX7_leastGrace 0 = .ok (.iconst 0, 1) := by decide +kernel
theorem dX7_leastGrace_1 : decode cX7_leastGrace 1 = .ok (.istore_n 2, 1) := by decide +kernel
theorem dX7_leastGrace_2 : decode cX7_leastGrace 2 = .ok (.aload_n 0, 1) := by decide +kernel
theorem dX7_leastGrace_3 : decode cX7_leastGrace 3 = .ok (.getfield 16, 3) := by decide +kernel
theorem dX7_leastGrace_6 : decode cX7_leastGrace 6 = .ok (.aload_n 0, 1) := by decide +kernel
theorem dX7_leastGrace_7 : decode cX7_leastGrace 7 = .ok (.getfield 10, 3) := by decide +kernel
theorem dX7_leastGrace_10 : decode cX7_leastGrace 10 = .ok (.invokevirtual 353, 3) := by decide +kernel
theorem dX7_leastGrace_13 : decode cX7_leastGrace 13 = .ok (.iconst 0, 1) := by decide +kernel
theorem dX7_leastGrace_14 : decode cX7_leastGrace 14 = .ok (.istore_n 3, 1) := by decide +kernel
theorem dX7_leastGrace_15 : decode cX7_leastGrace 15 = .ok (.iload_n 3, 1) := by decide +kernel
theorem dX7_leastGrace_16 : decode cX7_leastGrace 16 = .ok (.iload_n 1, 1) := by decide +kernel
theorem dX7_leastGrace_17 : decode cX7_leastGrace 17 = .ok (.if_icmp .ge 93, 3) := by decide +kernel
theorem dX7_leastGrace_20 : decode cX7_leastGrace 20 = .ok (.aload_n 0, 1) := by decide +kernel
theorem dX7_leastGrace_21 : decode cX7_leastGrace 21 = .ok (.getfield 10, 3) := by decide +kernel
theorem dX7_leastGrace_24 : decode cX7_leastGrace 24 = .ok (.getfield 84, 3) := by decide +kernel
theorem dX7_leastGrace_27 : decode cX7_leastGrace 27 = .ok (.iconst 2, 1) := by decide +kernel
theorem dX7_leastGrace_28 : decode cX7_leastGrace 28 = .ok (.iaload, 1) := by decide +kernel
theorem dX7_leastGrace_29 : decode cX7_leastGrace 29 = .ok (.ifCond .le 81, 3) := by decide +kernel
theorem dX7_leastGrace_32 : decode cX7_leastGrace 32 = .ok (.aload_n 0, 1) := by decide +kernel
theorem dX7_leastGrace_33 : decode cX7_leastGrace 33 = .ok (.getfield 16, 3) := by decide +kernel
theorem dX7_leastGrace_36 : decode cX7_leastGrace 36 = .ok (.invokevirtual 201, 3) := by decide +kernel
theorem dX7_leastGrace_39 : decode cX7_leastGrace 39 = .ok (.iconst 0, 1) := by decide +kernel
theorem dX7_leastGrace_40 : decode cX7_leastGrace 40 = .ok (.istore 4, 2) := by decide +kernel
theorem dX7_leastGrace_42 : decode cX7_leastGrace 42 = .ok (.iload 4, 2) := by decide +kernel
theorem dX7_leastGrace_44 : decode cX7_leastGrace 44 = .ok (.aload_n 0, 1) := by decide +kernel
theorem dX7_leastGrace_45 : decode cX7_leastGrace 45 = .ok (.getfield 10, 3) := by decide +kernel
theorem dX7_leastGrace_48 : decode cX7_leastGrace 48 = .ok (.getfield 148, 3) := by decide +kernel
theorem dX7_leastGrace_51 : decode cX7_leastGrace 51 = .ok (.if_icmp .ge 53, 3) := by decide +kernel
theorem dX7_leastGrace_54 : decode cX7_leastGrace 54 = .ok (.aload_n 0, 1) := by decide +kernel
theorem dX7_leastGrace_55 : decode cX7_leastGrace 55 = .ok (.getfield 10, 3) := by decide +kernel
theorem dX7_leastGrace_58 : decode cX7_leastGrace 58 = .ok (.getfield 155, 3) := by decide +kernel
theorem dX7_leastGrace_61 : decode cX7_leastGrace 61 = .ok (.iload 4, 2) := by decide +kernel
theorem dX7_leastGrace_63 : decode cX7_leastGrace 63 = .ok (.aaload, 1) := by decide +kernel
theorem dX7_leastGrace_64 : decode cX7_leastGrace 64 = .ok (.getfield 356, 3) := by decide +kernel
theorem dX7_leastGrace_67 : decode cX7_leastGrace 67 = .ok (.ldc_w 359, 3) := by decide +kernel
theorem dX7_leastGrace_70 : decode cX7_leastGrace 70 = .ok (.if_icmp .ge 28, 3) := by decide +kernel
theorem dX7_leastGrace_73 : decode cX7_leastGrace 73 = .ok (.iload_n 2, 1) := by decide +kernel
theorem dX7_leastGrace_74 : decode cX7_leastGrace 74 = .ok (.aload_n 0, 1) := by decide +kernel
theorem dX7_leastGrace_75 : decode cX7_leastGrace 75 = .ok (.getfield 16, 3) := by decide +kernel
theorem dX7_leastGrace_78 : decode cX7_leastGrace 78 = .ok (.getfield 155, 3) := by decide +kernel
theorem dX7_leastGrace_81 : decode cX7_leastGrace 81 = .ok (.iload 4, 2) := by decide +kernel
theorem dX7_leastGrace_83 : decode cX7_leastGrace 83 = .ok (.aaload, 1) := by decide +kernel
theorem dX7_leastGrace_84 : decode cX7_leastGrace 84 = .ok (.aload_n 0, 1) := by decide +kernel
theorem dX7_leastGrace_85 : decode cX7_leastGrace 85 = .ok (.getfield 16, 3) := by decide +kernel
theorem dX7_leastGrace_88 : decode cX7_leastGrace 88 = .ok (.getfield 132, 3) := by decide +kernel
theorem dX7_leastGrace_91 : decode cX7_leastGrace 91 = .ok (.invokevirtual 360, 3) := by decide +kernel
theorem dX7_leastGrace_94 : decode cX7_leastGrace 94 = .ok (.invokestatic 363, 3) := by decide +kernel
theorem dX7_leastGrace_97 : decode cX7_leastGrace 97 = .ok (.istore_n 2, 1) := by decide +kernel
theorem dX7_leastGrace_98 : decode cX7_leastGrace 98 = .ok (.iinc 4 1, 3) := by decide +kernel
theorem dX7_leastGrace_101 : decode cX7_leastGrace 101 = .ok (.goto (-59), 3) := by decide +kernel
theorem dX7_leastGrace_104 : decode cX7_leastGrace 104 = .ok (.iinc 3 1, 3) := by decide +kernel
theorem dX7_leastGrace_107 : decode cX7_leastGrace 107 = .ok (.goto (-92), 3) := by decide +kernel
theorem dX7_leastGrace_110 : decode cX7_leastGrace 110 = .ok (.iload_n 2, 1) := by decide +kernel
theorem dX7_leastGrace_111 : decode cX7_leastGrace 111 = .ok (.bipush 120, 2) := by decide +kernel
theorem dX7_leastGrace_113 : decode cX7_leastGrace 113 = .ok (.if_icmp .gt 7, 3) := by decide +kernel
theorem dX7_leastGrace_116 : decode cX7_leastGrace 116 = .ok (.iload_n 2, 1) := by decide +kernel
theorem dX7_leastGrace_117 : decode cX7_leastGrace 117 = .ok (.goto 4, 3) := by decide +kernel
theorem dX7_leastGrace_120 : decode cX7_leastGrace 120 = .ok (.iconst (-1), 1) := by decide +kernel
theorem dX7_leastGrace_121 : decode cX7_leastGrace 121 = .ok (.ireturn, 1) := by decide +kernel
theorem dX7_hashPlaces_0 : decode cX7_hashPlaces 0 = .ok (.lload_n 1, 1) := by decide +kernel
theorem dX7_hashPlaces_1 : decode cX7_hashPlaces 1 = .ok (.lstore_n 3, 1) := by decide +kernel
theorem dX7_hashPlaces_2 : decode cX7_hashPlaces 2 = .ok (.iconst 0, 1) := by decide +kernel
theorem dX7_hashPlaces_3 : decode cX7_hashPlaces 3 = .ok (.istore 5, 2) := by decide +kernel
theorem dX7_hashPlaces_5 : decode cX7_hashPlaces 5 = .ok (.iload 5, 2) := by decide +kernel
theorem dX7_hashPlaces_7 : decode cX7_hashPlaces 7 = .ok (.aload_n 0, 1) := by decide +kernel
theorem dX7_hashPlaces_8 : decode cX7_hashPlaces 8 = .ok (.getfield 10, 3) := by decide +kernel
theorem dX7_hashPlaces_11 : decode cX7_hashPlaces 11 = .ok (.getfield 45, 3) := by decide +kernel
theorem dX7_hashPlaces_14 : decode cX7_hashPlaces 14 = .ok (.if_icmp .ge 41, 3) := by decide +kernel
theorem dX7_hashPlaces_17 : decode cX7_hashPlaces 17 = .ok (.iconst 0, 1) := by decide +kernel
theorem dX7_hashPlaces_18 : decode cX7_hashPlaces 18 = .ok (.istore 6, 2) := by decide +kernel
theorem dX7_hashPlaces_20 : decode cX7_hashPlaces 20 = .ok (.iload 6, 2) := by decide +kernel
theorem dX7_hashPlaces_22 : decode cX7_hashPlaces 22 = .ok (.bipush 6, 2) := by decide +kernel
theorem dX7_hashPlaces_24 : decode cX7_hashPlaces 24 = .ok (.if_icmp .gt 25, 3) := by decide +kernel
theorem dX7_hashPlaces_27 : decode cX7_hashPlaces 27 = .ok (.ldc2_w 300, 3) := by decide +kernel
theorem dX7_hashPlaces_30 : decode cX7_hashPlaces 30 = .ok (.lload_n 3, 1) := by decide +kernel
theorem dX7_hashPlaces_31 : decode cX7_hashPlaces 31 = .ok (.lmul, 1) := by decide +kernel
theorem dX7_hashPlaces_32 : decode cX7_hashPlaces 32 = .ok (.aload_n 0, 1) := by decide +kernel
theorem dX7_hashPlaces_33 : decode cX7_hashPlaces 33 = .ok (.iload 5, 2) := by decide +kernel
theorem dX7_hashPlaces_35 : decode cX7_hashPlaces 35 = .ok (.iload 6, 2) := by decide +kernel
theorem dX7_hashPlaces_37 : decode cX7_hashPlaces 37 = .ok (.invokevirtual 368, 3) := by decide +kernel
theorem dX7_hashPlaces_40 : decode cX7_hashPlaces 40 = .ok (.i2l, 1) := by decide +kernel
theorem dX7_hashPlaces_41 : decode cX7_hashPlaces 41 = .ok (.ladd, 1) := by decide +kernel
theorem dX7_hashPlaces_42 : decode cX7_hashPlaces 42 = .ok (.lstore_n 3, 1) := by decide +kernel
theorem dX7_hashPlaces_43 : decode cX7_hashPlaces 43 = .ok (.iinc 6 1, 3) := by decide +kernel
theorem dX7_hashPlaces_46 : decode cX7_hashPlaces 46 = .ok (.goto (-26), 3) := by decide +kernel
theorem dX7_hashPlaces_49 : decode cX7_hashPlaces 49 = .ok (.iinc 5 1, 3) := by decide +kernel
theorem dX7_hashPlaces_52 : decode cX7_hashPlaces 52 = .ok (.goto (-47), 3) := by decide +kernel
theorem dX7_hashPlaces_55 : decode cX7_hashPlaces 55 = .ok (.lload_n 3, 1) := by decide +kernel
theorem dX7_hashPlaces_56 : decode cX7_hashPlaces 56 = .ok (.lreturn, 1) := by decide +kernel
theorem dX7_hashUnits_0 : decode cX7_hashUnits 0 = .ok (.lload_n 1, 1) := by decide +kernel
theorem dX7_hashUnits_1 : decode cX7_hashUnits 1 = .ok (.lstore_n 3, 1) := by decide +kernel
theorem dX7_hashUnits_2 : decode cX7_hashUnits 2 = .ok (.iconst 0, 1) := by decide +kernel
theorem dX7_hashUnits_3 : decode cX7_hashUnits 3 = .ok (.istore 5, 2) := by decide +kernel
theorem dX7_hashUnits_5 : decode cX7_hashUnits 5 = .ok (.iload 5, 2) := by decide +kernel
theorem dX7_hashUnits_7 : decode cX7_hashUnits 7 = .ok (.aload_n 0, 1) := by decide +kernel
theorem dX7_hashUnits_8 : decode cX7_hashUnits 8 = .ok (.getfield 10, 3) := by decide +kernel
theorem dX7_hashUnits_11 : decode cX7_hashUnits 11 = .ok (.getfield 148, 3) := by decide +kernel
theorem dX7_hashUnits_14 : decode cX7_hashUnits 14 = .ok (.if_icmp .ge 55, 3) := by decide +kernel
theorem dX7_hashUnits_17 : decode cX7_hashUnits 17 = .ok (.iconst 0, 1) := by decide +kernel
theorem dX7_hashUnits_18 : decode cX7_hashUnits 18 = .ok (.istore 6, 2) := by decide +kernel
theorem dX7_hashUnits_20 : decode cX7_hashUnits 20 = .ok (.iload 6, 2) := by decide +kernel
theorem dX7_hashUnits_22 : decode cX7_hashUnits 22 = .ok (.bipush 11, 2) := by decide +kernel
theorem dX7_hashUnits_24 : decode cX7_hashUnits 24 = .ok (.if_icmp .gt 25, 3) := by decide +kernel
theorem dX7_hashUnits_27 : decode cX7_hashUnits 27 = .ok (.ldc2_w 300, 3) := by decide +kernel
theorem dX7_hashUnits_30 : decode cX7_hashUnits 30 = .ok (.lload_n 3, 1) := by decide +kernel
theorem dX7_hashUnits_31 : decode cX7_hashUnits 31 = .ok (.lmul, 1) := by decide +kernel
theorem dX7_hashUnits_32 : decode cX7_hashUnits 32 = .ok (.aload_n 0, 1) := by decide +kernel
theorem dX7_hashUnits_33 : decode cX7_hashUnits 33 = .ok (.iload 5, 2) := by decide +kernel
theorem dX7_hashUnits_35 : decode cX7_hashUnits 35 = .ok (.iload 6, 2) := by decide +kernel
theorem dX7_hashUnits_37 : decode cX7_hashUnits 37 = .ok (.invokevirtual 370, 3) := by decide +kernel
theorem dX7_hashUnits_40 : decode cX7_hashUnits 40 = .ok (.i2l, 1) := by decide +kernel
theorem dX7_hashUnits_41 : decode cX7_hashUnits 41 = .ok (.ladd, 1) := by decide +kernel
theorem dX7_hashUnits_42 : decode cX7_hashUnits 42 = .ok (.lstore_n 3, 1) := by decide +kernel
theorem dX7_hashUnits_43 : decode cX7_hashUnits 43 = .ok (.iinc 6 1, 3) := by decide +kernel
theorem dX7_hashUnits_46 : decode cX7_hashUnits 46 = .ok (.goto (-26), 3) := by decide +kernel
theorem dX7_hashUnits_49 : decode cX7_hashUnits 49 = .ok (.ldc2_w 300, 3) := by decide +kernel
theorem dX7_hashUnits_52 : decode cX7_hashUnits 52 = .ok (.lload_n 3, 1) := by decide +kernel
theorem dX7_hashUnits_53 : decode cX7_hashUnits 53 = .ok (.lmul, 1) := by decide +kernel
theorem dX7_hashUnits_54 : decode cX7_hashUnits 54 = .ok (.aload_n 0, 1) := by decide +kernel
theorem dX7_hashUnits_55 : decode cX7_hashUnits 55 = .ok (.iload 5, 2) := by decide +kernel
theorem dX7_hashUnits_57 : decode cX7_hashUnits 57 = .ok (.invokevirtual 373, 3) := by decide +kernel
theorem dX7_hashUnits_60 : decode cX7_hashUnits 60 = .ok (.i2l, 1) := by decide +kernel
theorem dX7_hashUnits_61 : decode cX7_hashUnits 61 = .ok (.ladd, 1) := by decide +kernel
theorem dX7_hashUnits_62 : decode cX7_hashUnits 62 = .ok (.lstore_n 3, 1) := by decide +kernel
theorem dX7_hashUnits_63 : decode cX7_hashUnits 63 = .ok (.iinc 5 1, 3) := by decide +kernel
theorem dX7_hashUnits_66 : decode cX7_hashUnits 66 = .ok (.goto (-61), 3) := by decide +kernel
theorem dX7_hashUnits_69 : decode cX7_hashUnits 69 = .ok (.lload_n 3, 1) := by decide +kernel
theorem dX7_hashUnits_70 : decode cX7_hashUnits 70 = .ok (.lreturn, 1) := by decide +kernel
theorem dX7_hashKitchens_0 : decode cX7_hashKitchens 0 = .ok (.lload_n 1, 1) := by decide +kernel
theorem dX7_hashKitchens_1 : decode cX7_hashKitchens 1 = .ok (.lstore_n 3, 1) := by decide +kernel
theorem dX7_hashKitchens_2 : decode cX7_hashKitchens 2 = .ok (.iconst 0, 1) := by decide +kernel
theorem dX7_hashKitchens_3 : decode cX7_hashKitchens 3 = .ok (.istore 5, 2) := by decide +kernel
theorem dX7_hashKitchens_5 : decode cX7_hashKitchens 5 = .ok (.iload 5, 2) := by decide +kernel
theorem dX7_hashKitchens_7 : decode cX7_hashKitchens 7 = .ok (.aload_n 0, 1) := by decide +kernel
theorem dX7_hashKitchens_8 : decode cX7_hashKitchens 8 = .ok (.getfield 10, 3) := by decide +kernel
theorem dX7_hashKitchens_11 : decode cX7_hashKitchens 11 = .ok (.getfield 64, 3) := by decide +kernel
theorem dX7_hashKitchens_14 : decode cX7_hashKitchens 14 = .ok (.if_icmp .ge 72, 3) := by decide +kernel
theorem dX7_hashKitchens_17 : decode cX7_hashKitchens 17 = .ok (.iconst 0, 1) := by decide +kernel
theorem dX7_hashKitchens_18 : decode cX7_hashKitchens 18 = .ok (.istore 6, 2) := by decide +kernel
theorem dX7_hashKitchens_20 : decode cX7_hashKitchens 20 = .ok (.iload 6, 2) := by decide +kernel
theorem dX7_hashKitchens_22 : decode cX7_hashKitchens 22 = .ok (.bipush 11, 2) := by decide +kernel
theorem dX7_hashKitchens_24 : decode cX7_hashKitchens 24 = .ok (.if_icmp .gt 25, 3) := by decide +kernel
theorem dX7_hashKitchens_27 : decode cX7_hashKitchens 27 = .ok (.ldc2_w 300, 3) := by decide +kernel
theorem dX7_hashKitchens_30 : decode cX7_hashKitchens 30 = .ok (.lload_n 3, 1) := by decide +kernel
theorem dX7_hashKitchens_31 : decode cX7_hashKitchens 31 = .ok (.lmul, 1) := by decide +kernel
theorem dX7_hashKitchens_32 : decode cX7_hashKitchens 32 = .ok (.aload_n 0, 1) := by decide +kernel
theorem dX7_hashKitchens_33 : decode cX7_hashKitchens 33 = .ok (.iload 5, 2) := by decide +kernel
theorem dX7_hashKitchens_35 : decode cX7_hashKitchens 35 = .ok (.iload 6, 2) := by decide +kernel
theorem dX7_hashKitchens_37 : decode cX7_hashKitchens 37 = .ok (.invokevirtual 376, 3) := by decide +kernel
theorem dX7_hashKitchens_40 : decode cX7_hashKitchens 40 = .ok (.i2l, 1) := by decide +kernel
theorem dX7_hashKitchens_41 : decode cX7_hashKitchens 41 = .ok (.ladd, 1) := by decide +kernel
theorem dX7_hashKitchens_42 : decode cX7_hashKitchens 42 = .ok (.lstore_n 3, 1) := by decide +kernel
theorem dX7_hashKitchens_43 : decode cX7_hashKitchens 43 = .ok (.iinc 6 1, 3) := by decide +kernel
theorem dX7_hashKitchens_46 : decode cX7_hashKitchens 46 = .ok (.goto (-26), 3) := by decide +kernel
theorem dX7_hashKitchens_49 : decode cX7_hashKitchens 49 = .ok (.iconst 0, 1) := by decide +kernel
theorem dX7_hashKitchens_50 : decode cX7_hashKitchens 50 = .ok (.istore 6, 2) := by decide +kernel
theorem dX7_hashKitchens_52 : decode cX7_hashKitchens 52 = .ok (.iload 6, 2) := by decide +kernel
theorem dX7_hashKitchens_54 : decode cX7_hashKitchens 54 = .ok (.iconst 3, 1) := by decide +kernel
theorem dX7_hashKitchens_55 : decode cX7_hashKitchens 55 = .ok (.if_icmp .ge 25, 3) := by decide +kernel
theorem dX7_hashKitchens_58 : decode cX7_hashKitchens 58 = .ok (.ldc2_w 300, 3) := by decide +kernel
theorem dX7_hashKitchens_61 : decode cX7_hashKitchens 61 = .ok (.lload_n 3, 1) := by decide +kernel
theorem dX7_hashKitchens_62 : decode cX7_hashKitchens 62 = .ok (.lmul, 1) := by decide +kernel
theorem dX7_hashKitchens_63 : decode cX7_hashKitchens 63 = .ok (.aload_n 0, 1) := by decide +kernel
theorem dX7_hashKitchens_64 : decode cX7_hashKitchens 64 = .ok (.iload 5, 2) := by decide +kernel
theorem dX7_hashKitchens_66 : decode cX7_hashKitchens 66 = .ok (.iload 6, 2) := by decide +kernel
theorem dX7_hashKitchens_68 : decode cX7_hashKitchens 68 = .ok (.invokevirtual 379, 3) := by decide +kernel
theorem dX7_hashKitchens_71 : decode cX7_hashKitchens 71 = .ok (.i2l, 1) := by decide +kernel
theorem dX7_hashKitchens_72 : decode cX7_hashKitchens 72 = .ok (.ladd, 1) := by decide +kernel
theorem dX7_hashKitchens_73 : decode cX7_hashKitchens 73 = .ok (.lstore_n 3, 1) := by decide +kernel
theorem dX7_hashKitchens_74 : decode cX7_hashKitchens 74 = .ok (.iinc 6 1, 3) := by decide +kernel
theorem dX7_hashKitchens_77 : decode cX7_hashKitchens 77 = .ok (.goto (-25), 3) := by decide +kernel
theorem dX7_hashKitchens_80 : decode cX7_hashKitchens 80 = .ok (.iinc 5 1, 3) := by decide +kernel
theorem dX7_hashKitchens_83 : decode cX7_hashKitchens 83 = .ok (.goto (-78), 3) := by decide +kernel
theorem dX7_hashKitchens_86 : decode cX7_hashKitchens 86 = .ok (.lload_n 3, 1) := by decide +kernel
theorem dX7_hashKitchens_87 : decode cX7_hashKitchens 87 = .ok (.lreturn, 1) := by decide +kernel
theorem dX7_hashLorries_0 : decode cX7_hashLorries 0 = .ok (.lload_n 1, 1) := by decide +kernel
theorem dX7_hashLorries_1 : decode cX7_hashLorries 1 = .ok (.lstore_n 3, 1) := by decide +kernel
theorem dX7_hashLorries_2 : decode cX7_hashLorries 2 = .ok (.iconst 0, 1) := by decide +kernel
theorem dX7_hashLorries_3 : decode cX7_hashLorries 3 = .ok (.istore 5, 2) := by decide +kernel
theorem dX7_hashLorries_5 : decode cX7_hashLorries 5 = .ok (.iload 5, 2) := by decide +kernel
theorem dX7_hashLorries_7 : decode cX7_hashLorries 7 = .ok (.aload_n 0, 1) := by decide +kernel
theorem dX7_hashLorries_8 : decode cX7_hashLorries 8 = .ok (.getfield 10, 3) := by decide +kernel
theorem dX7_hashLorries_11 : decode cX7_hashLorries 11 = .ok (.getfield 71, 3) := by decide +kernel
theorem dX7_hashLorries_14 : decode cX7_hashLorries 14 = .ok (.if_icmp .ge 41, 3) := by decide +kernel
theorem dX7_hashLorries_17 : decode cX7_hashLorries 17 = .ok (.iconst 0, 1) := by decide +kernel
theorem dX7_hashLorries_18 : decode cX7_hashLorries 18 = .ok (.istore 6, 2) := by decide +kernel
theorem dX7_hashLorries_20 : decode cX7_hashLorries 20 = .ok (.iload 6, 2) := by decide +kernel
theorem dX7_hashLorries_22 : decode cX7_hashLorries 22 = .ok (.bipush 8, 2) := by decide +kernel
theorem dX7_hashLorries_24 : decode cX7_hashLorries 24 = .ok (.if_icmp .gt 25, 3) := by decide +kernel
theorem dX7_hashLorries_27 : decode cX7_hashLorries 27 = .ok (.ldc2_w 300, 3) := by decide +kernel
theorem dX7_hashLorries_30 : decode cX7_hashLorries 30 = .ok (.lload_n 3, 1) := by decide +kernel
theorem dX7_hashLorries_31 : decode cX7_hashLorries 31 = .ok (.lmul, 1) := by decide +kernel
theorem dX7_hashLorries_32 : decode cX7_hashLorries 32 = .ok (.aload_n 0, 1) := by decide +kernel
theorem dX7_hashLorries_33 : decode cX7_hashLorries 33 = .ok (.iload 5, 2) := by decide +kernel
theorem dX7_hashLorries_35 : decode cX7_hashLorries 35 = .ok (.iload 6, 2) := by decide +kernel
theorem dX7_hashLorries_37 : decode cX7_hashLorries 37 = .ok (.invokevirtual 382, 3) := by decide +kernel
theorem dX7_hashLorries_40 : decode cX7_hashLorries 40 = .ok (.i2l, 1) := by decide +kernel
theorem dX7_hashLorries_41 : decode cX7_hashLorries 41 = .ok (.ladd, 1) := by decide +kernel
theorem dX7_hashLorries_42 : decode cX7_hashLorries 42 = .ok (.lstore_n 3, 1) := by decide +kernel
theorem dX7_hashLorries_43 : decode cX7_hashLorries 43 = .ok (.iinc 6 1, 3) := by decide +kernel
theorem dX7_hashLorries_46 : decode cX7_hashLorries 46 = .ok (.goto (-26), 3) := by decide +kernel
theorem dX7_hashLorries_49 : decode cX7_hashLorries 49 = .ok (.iinc 5 1, 3) := by decide +kernel
theorem dX7_hashLorries_52 : decode cX7_hashLorries 52 = .ok (.goto (-47), 3) := by decide +kernel
theorem dX7_hashLorries_55 : decode cX7_hashLorries 55 = .ok (.lload_n 3, 1) := by decide +kernel
theorem dX7_hashLorries_56 : decode cX7_hashLorries 56 = .ok (.lreturn, 1) := by decide +kernel
theorem dX7_bitsOfShare_0 : decode cX7_bitsOfShare 0 = .ok (.dload_n 0, 1) := by decide +kernel
theorem dX7_bitsOfShare_1 : decode cX7_bitsOfShare 1 = .ok (.dconst 0, 1) := by decide +kernel
theorem dX7_bitsOfShare_2 : decode cX7_bitsOfShare 2 = .ok (.dcmp .g, 1) := by decide +kernel
theorem dX7_bitsOfShare_3 : decode cX7_bitsOfShare 3 = .ok (.ifCond .gt 5, 3) := by decide +kernel
theorem dX7_bitsOfShare_6 : decode cX7_bitsOfShare 6 = .ok (.lconst 0, 1) := by decide +kernel
theorem dX7_bitsOfShare_7 : decode cX7_bitsOfShare 7 = .ok (.lreturn, 1) := by decide +kernel
theorem dX7_bitsOfShare_8 : decode cX7_bitsOfShare 8 = .ok (.dload_n 0, 1) := by decide +kernel
theorem dX7_bitsOfShare_9 : decode cX7_bitsOfShare 9 = .ok (.dstore_n 2, 1) := by decide +kernel
theorem dX7_bitsOfShare_10 : decode cX7_bitsOfShare 10 = .ok (.ldc2_w 385, 3) := by decide +kernel
theorem dX7_bitsOfShare_13 : decode cX7_bitsOfShare 13 = .ok (.lstore 4, 2) := by decide +kernel
theorem dX7_bitsOfShare_15 : decode cX7_bitsOfShare 15 = .ok (.iconst 0, 1) := by decide +kernel
theorem dX7_bitsOfShare_16 : decode cX7_bitsOfShare 16 = .ok (.istore 6, 2) := by decide +kernel
theorem dX7_bitsOfShare_18 : decode cX7_bitsOfShare 18 = .ok (.iload 6, 2) := by decide +kernel
theorem dX7_bitsOfShare_20 : decode cX7_bitsOfShare 20 = .ok (.bipush 64, 2) := by decide +kernel
theorem dX7_bitsOfShare_22 : decode cX7_bitsOfShare 22 = .ok (.if_icmp .ge 27, 3) := by decide +kernel
theorem dX7_bitsOfShare_25 : decode cX7_bitsOfShare 25 = .ok (.dload_n 2, 1) := by decide +kernel
theorem dX7_bitsOfShare_26 : decode cX7_bitsOfShare 26 = .ok (.dconst 1, 1) := by decide +kernel
theorem dX7_bitsOfShare_27 : decode cX7_bitsOfShare 27 = .ok (.dcmp .g, 1) := by decide +kernel
theorem dX7_bitsOfShare_28 : decode cX7_bitsOfShare 28 = .ok (.ifCond .ge 21, 3) := by decide +kernel
theorem dX7_bitsOfShare_31 : decode cX7_bitsOfShare 31 = .ok (.dload_n 2, 1) := by decide +kernel
theorem dX7_bitsOfShare_32 : decode cX7_bitsOfShare 32 = .ok (.ldc2_w 387, 3) := by decide +kernel
theorem dX7_bitsOfShare_35 : decode cX7_bitsOfShare 35 = .ok (.dmul, 1) := by decide +kernel
theorem dX7_bitsOfShare_36 : decode cX7_bitsOfShare 36 = .ok (.dstore_n 2, 1) := by decide +kernel
theorem dX7_bitsOfShare_37 : decode cX7_bitsOfShare 37 = .ok (.lload 4, 2) := by decide +kernel
theorem dX7_bitsOfShare_39 : decode cX7_bitsOfShare 39 = .ok (.lconst 1, 1) := by decide +kernel
theorem dX7_bitsOfShare_40 : decode cX7_bitsOfShare 40 = .ok (.lsub, 1) := by decide +kernel
theorem dX7_bitsOfShare_41 : decode cX7_bitsOfShare 41 = .ok (.lstore 4, 2) := by decide +kernel
theorem dX7_bitsOfShare_43 : decode cX7_bitsOfShare 43 = .ok (.iinc 6 1, 3) := by decide +kernel
theorem dX7_bitsOfShare_46 : decode cX7_bitsOfShare 46 = .ok (.goto (-28), 3) := by decide +kernel
theorem dX7_bitsOfShare_49 : decode cX7_bitsOfShare 49 = .ok (.dload_n 2, 1) := by decide +kernel
theorem dX7_bitsOfShare_50 : decode cX7_bitsOfShare 50 = .ok (.dconst 1, 1) := by decide +kernel
theorem dX7_bitsOfShare_51 : decode cX7_bitsOfShare 51 = .ok (.dsub, 1) := by decide +kernel
theorem dX7_bitsOfShare_52 : decode cX7_bitsOfShare 52 = .ok (.ldc2_w 389, 3) := by decide +kernel
theorem dX7_bitsOfShare_55 : decode cX7_bitsOfShare 55 = .ok (.dmul, 1) := by decide +kernel
theorem dX7_bitsOfShare_56 : decode cX7_bitsOfShare 56 = .ok (.d2l, 1) := by decide +kernel
theorem dX7_bitsOfShare_57 : decode cX7_bitsOfShare 57 = .ok (.lstore 6, 2) := by decide +kernel
theorem dX7_bitsOfShare_59 : decode cX7_bitsOfShare 59 = .ok (.lload 4, 2) := by decide +kernel
theorem dX7_bitsOfShare_61 : decode cX7_bitsOfShare 61 = .ok (.bipush 52, 2) := by decide +kernel
theorem dX7_bitsOfShare_63 : decode cX7_bitsOfShare 63 = .ok (.lshl, 1) := by decide +kernel
theorem dX7_bitsOfShare_64 : decode cX7_bitsOfShare 64 = .ok (.lload 6, 2) := by decide +kernel
theorem dX7_bitsOfShare_66 : decode cX7_bitsOfShare 66 = .ok (.lor, 1) := by decide +kernel
theorem dX7_bitsOfShare_67 : decode cX7_bitsOfShare 67 = .ok (.lreturn, 1) := by decide +kernel
theorem dX8_init_0 : decode cX8_init 0 = .ok (.aload_n 0, 1) := by decide +kernel
theorem dX8_init_1 : decode cX8_init 1 = .ok (.invokespecial 1, 3) := by decide +kernel
theorem dX8_init_4 : decode cX8_init 4 = .ok (.aload_n 0, 1) := by decide +kernel
theorem dX8_init_5 : decode cX8_init 5 = .ok (.sipush 1561, 3) := by decide +kernel
theorem dX8_init_8 : decode cX8_init 8 = .ok (.newarray .int, 2) := by decide +kernel
theorem dX8_init_10 : decode cX8_init 10 = .ok (.putfield 7, 3) := by decide +kernel
theorem dX8_init_13 : decode cX8_init 13 = .ok (.aload_n 0, 1) := by decide +kernel
theorem dX8_init_14 : decode cX8_init 14 = .ok (.sipush 9366, 3) := by decide +kernel
theorem dX8_init_17 : decode cX8_init 17 = .ok (.newarray .int, 2) := by decide +kernel
theorem dX8_init_19 : decode cX8_init 19 = .ok (.putfield 13, 3) := by decide +kernel
theorem dX8_init_22 : decode cX8_init 22 = .ok (.aload_n 0, 1) := by decide +kernel
theorem dX8_init_23 : decode cX8_init 23 = .ok (.bipush 60, 2) := by decide +kernel
theorem dX8_init_25 : decode cX8_init 25 = .ok (.newarray .int, 2) := by decide +kernel
theorem dX8_init_27 : decode cX8_init 27 = .ok (.putfield 16, 3) := by decide +kernel
theorem dX8_init_30 : decode cX8_init 30 = .ok (.aload_n 0, 1) := by decide +kernel
theorem dX8_init_31 : decode cX8_init 31 = .ok (.bipush 45, 2) := by decide +kernel
theorem dX8_init_33 : decode cX8_init 33 = .ok (.newarray .int, 2) := by decide +kernel
theorem dX8_init_35 : decode cX8_init 35 = .ok (.putfield 19, 3) := by decide +kernel
theorem dX8_init_38 : decode cX8_init 38 = .ok (.aload_n 0, 1) := by decide +kernel
theorem dX8_init_39 : decode cX8_init 39 = .ok (.sipush 1561, 3) := by decide +kernel
theorem dX8_init_42 : decode cX8_init 42 = .ok (.newarray .int, 2) := by decide +kernel
theorem dX8_init_44 : decode cX8_init 44 = .ok (.putfield 22, 3) := by decide +kernel
theorem dX8_init_47 : decode cX8_init 47 = .ok (.aload_n 0, 1) := by decide +kernel
theorem dX8_init_48 : decode cX8_init 48 = .ok (.getfield 7, 3) := by decide +kernel
theorem dX8_init_51 : decode cX8_init 51 = .ok (.iconst 0, 1) := by decide +kernel
theorem dX8_init_52 : decode cX8_init 52 = .ok (.bipush 10, 2) := by decide +kernel
theorem dX8_init_54 : decode cX8_init 54 = .ok (.iastore, 1) := by decide +kernel
theorem dX8_init_55 : decode cX8_init 55 = .ok (.aload_n 0, 1) := by decide +kernel
theorem dX8_init_56 : decode cX8_init 56 = .ok (.getfield 7, 3) := by decide +kernel
theorem dX8_init_59 : decode cX8_init 59 = .ok (.iconst 1, 1) := by decide +kernel
theorem dX8_init_60 : decode cX8_init 60 = .ok (.bipush 15, 2) := by decide +kernel
theorem dX8_init_62 : decode cX8_init 62 = .ok (.iastore, 1) := by decide +kernel
theorem dX8_init_63 : decode cX8_init 63 = .ok (.aload_n 0, 1) := by decide +kernel
theorem dX8_init_64 : decode cX8_init 64 = .ok (.getfield 7, 3) := by decide +kernel
theorem dX8_init_67 : decode cX8_init 67 = .ok (.iconst 2, 1) := by decide +kernel
theorem dX8_init_68 : decode cX8_init 68 = .ok (.iconst 1, 1) := by decide +kernel
theorem dX8_init_69 : decode cX8_init 69 = .ok (.iastore, 1) := by decide +kernel
theorem dX8_init_70 : decode cX8_init 70 = .ok (.aload_n 0, 1) := by decide +kernel
theorem dX8_init_71 : decode cX8_init 71 = .ok (.getfield 7, 3) := by decide +kernel
theorem dX8_init_74 : decode cX8_init 74 = .ok (.iconst 3, 1) := by decide +kernel
theorem dX8_init_75 : decode cX8_init 75 = .ok (.bipush 40, 2) := by decide +kernel
theorem dX8_init_77 : decode cX8_init 77 = .ok (.iastore, 1) := by decide +kernel
theorem dX8_init_78 : decode cX8_init 78 = .ok (.aload_n 0, 1) := by decide +kernel
theorem dX8_init_79 : decode cX8_init 79 = .ok (.getfield 7, 3) := by decide +kernel
theorem dX8_init_82 : decode cX8_init 82 = .ok (.iconst 4, 1) := by decide +kernel
theorem dX8_init_83 : decode cX8_init 83 = .ok (.iconst 5, 1) := by decide +kernel
theorem dX8_init_84 : decode cX8_init 84 = .ok (.iastore, 1) := by decide +kernel
theorem dX8_init_85 : decode cX8_init 85 = .ok (.aload_n 0, 1) := by decide +kernel
theorem dX8_init_86 : decode cX8_init 86 = .ok (.getfield 7, 3) := by decide +kernel
theorem dX8_init_89 : decode cX8_init 89 = .ok (.iconst 5, 1) := by decide +kernel
theorem dX8_init_90 : decode cX8_init 90 = .ok (.bipush 120, 2) := by decide +kernel
theorem dX8_init_92 : decode cX8_init 92 = .ok (.iastore, 1) := by decide +kernel
theorem dX8_init_93 : decode cX8_init 93 = .ok (.return_, 1) := by decide +kernel
theorem dX8_thrown_0 : decode cX8_thrown 0 = .ok (.aload_n 0, 1) := by decide +kernel
theorem dX8_thrown_1 : decode cX8_thrown 1 = .ok (.getfield 25, 3) := by decide +kernel
theorem dX8_thrown_4 : decode cX8_thrown 4 = .ok (.ireturn, 1) := by decide +kernel
theorem dX8_within_0 : decode cX8_within 0 = .ok (.iload_n 0, 1) := by decide +kernel
theorem dX8_within_1 : decode cX8_within 1 = .ok (.iload_n 1, 1) := by decide +kernel
theorem dX8_within_2 : decode cX8_within 2 = .ok (.if_icmp .lt 12, 3) := by decide +kernel
theorem dX8_within_5 : decode cX8_within 5 = .ok (.iload_n 0, 1) := by decide +kernel
theorem dX8_within_6 : decode cX8_within 6 = .ok (.iload_n 2, 1) := by decide +kernel
theorem dX8_within_7 : decode cX8_within 7 = .ok (.if_icmp .gt 7, 3) := by decide +kernel
theorem dX8_within_10 : decode cX8_within 10 = .ok (.iconst 1, 1) := by decide +kernel
theorem dX8_within_11 : decode cX8_within 11 = .ok (.goto 4, 3) := by decide +kernel
theorem dX8_within_14 : decode cX8_within 14 = .ok (.iconst 0, 1) := by decide +kernel
theorem dX8_within_15 : decode cX8_within 15 = .ok (.ireturn, 1) := by decide +kernel
theorem dX8_save_0 : decode cX8_save 0 = .ok (.aload_n 0, 1) := by decide +kernel
theorem dX8_save_1 : decode cX8_save 1 = .ok (.getfield 29, 3) := by decide +kernel
theorem dX8_save_4 : decode cX8_save 4 = .ok (.bipush 6, 2) := by decide +kernel
theorem dX8_save_6 : decode cX8_save 6 = .ok (.if_icmp .ne 46, 3) := by decide +kernel
theorem dX8_save_9 : decode cX8_save 9 = .ok (.sipush 1561, 3) := by decide +kernel
theorem dX8_save_12 : decode cX8_save 12 = .ok (.istore_n 1, 1) := by decide +kernel
theorem dX8_save_13 : decode cX8_save 13 = .ok (.iload_n 1, 1) := by decide +kernel
theorem dX8_save_14 : decode cX8_save 14 = .ok (.sipush 9366, 3) := by decide +kernel
theorem dX8_save_17 : decode cX8_save 17 = .ok (.if_icmp .ge 25, 3) := by decide +kernel
theorem dX8_save_20 : decode cX8_save 20 = .ok (.aload_n 0, 1) := by decide +kernel
theorem dX8_save_21 : decode cX8_save 21 = .ok (.getfield 13, 3) := by decide +kernel
theorem dX8_save_24 : decode cX8_save 24 = .ok (.iload_n 1, 1) := by decide +kernel
theorem dX8_save_25 : decode cX8_save 25 = .ok (.sipush 1561, 3) := by decide +kernel
theorem dX8_save_28 : decode cX8_save 28 = .ok (.isub, 1) := by decide +kernel
theorem dX8_save_29 : decode cX8_save 29 = .ok (.aload_n 0, 1) := by decide +kernel
theorem dX8_save_30 : decode cX8_save 30 = .ok (.getfield 13, 3) := by decide +kernel
theorem dX8_save_33 : decode cX8_save 33 = .ok (.iload_n 1, 1) := by decide +kernel
theorem dX8_save_34 : decode cX8_save 34 = .ok (.iaload, 1) := by decide +kernel
theorem dX8_save_35 : decode cX8_save 35 = .ok (.iastore, 1) := by decide +kernel
theorem dX8_save_36 : decode cX8_save 36 = .ok (.iinc 1 1, 3) := by decide +kernel
theorem dX8_save_39 : decode cX8_save 39 = .ok (.goto (-26), 3) := by decide +kernel
theorem dX8_save_42 : decode cX8_save 42 = .ok (.aload_n 0, 1) := by decide +kernel
theorem dX8_save_43 : decode cX8_save 43 = .ok (.dup, 1) := by decide +kernel
theorem dX8_save_44 : decode cX8_save 44 = .ok (.getfield 29, 3) := by decide +kernel
theorem dX8_save_47 : decode cX8_save 47 = .ok (.iconst 1, 1) := by decide +kernel
theorem dX8_save_48 : decode cX8_save 48 = .ok (.isub, 1) := by decide +kernel
theorem dX8_save_49 : decode cX8_save 49 = .ok (.putfield 29, 3) := by decide +kernel
theorem dX8_save_52 : decode cX8_save 52 = .ok (.iconst 0, 1) := by decide +kernel
theorem dX8_save_53 : decode cX8_save 53 = .ok (.istore_n 1, 1) := by decide +kernel
theorem dX8_save_54 : decode cX8_save 54 = .ok (.iload_n 1, 1) := by decide +kernel
theorem dX8_save_55 : decode cX8_save 55 = .ok (.sipush 1561, 3) := by decide +kernel
theorem dX8_save_58 : decode cX8_save 58 = .ok (.if_icmp .ge 30, 3) := by decide +kernel
theorem dX8_save_61 : decode cX8_save 61 = .ok (.aload_n 0, 1) := by decide +kernel
theorem dX8_save_62 : decode cX8_save 62 = .ok (.getfield 13, 3) := by decide +kernel
theorem dX8_save_65 : decode cX8_save 65 = .ok (.sipush 1561, 3) := by decide +kernel
theorem dX8_save_68 : decode cX8_save 68 = .ok (.aload_n 0, 1) := by decide +kernel
theorem dX8_save_69 : decode cX8_save 69 = .ok (.getfield 29, 3) := by decide +kernel
theorem dX8_save_72 : decode cX8_save 72 = .ok (.imul, 1) := by decide +kernel
theorem dX8_save_73 : decode cX8_save 73 = .ok (.iload_n 1, 1) := by decide +kernel
theorem dX8_save_74 : decode cX8_save 74 = .ok (.iadd, 1) := by decide +kernel
theorem dX8_save_75 : decode cX8_save 75 = .ok (.aload_n 0, 1) := by decide +kernel
theorem dX8_save_76 : decode cX8_save 76 = .ok (.getfield 7, 3) := by decide +kernel
theorem dX8_save_79 : decode cX8_save 79 = .ok (.iload_n 1, 1) := by decide +kernel
theorem dX8_save_80 : decode cX8_save 80 = .ok (.iaload, 1) := by decide +kernel
theorem dX8_save_81 : decode cX8_save 81 = .ok (.iastore, 1) := by decide +kernel
theorem dX8_save_82 : decode cX8_save 82 = .ok (.iinc 1 1, 3) := by decide +kernel
theorem dX8_save_85 : decode cX8_save 85 = .ok (.goto (-31), 3) := by decide +kernel
theorem dX8_save_88 : decode cX8_save 88 = .ok (.aload_n 0, 1) := by decide +kernel
theorem dX8_save_89 : decode cX8_save 89 = .ok (.dup, 1) := by decide +kernel
theorem dX8_save_90 : decode cX8_save 90 = .ok (.getfield 29, 3) := by decide +kernel
theorem dX8_save_93 : decode cX8_save 93 = .ok (.iconst 1, 1) := by decide +kernel
theorem dX8_save_94 : decode cX8_save 94 = .ok (.iadd, 1) := by decide +kernel
theorem dX8_save_95 : decode cX8_save 95 = .ok (.putfield 29, 3) := by decide +kernel
theorem dX8_save_98 : decode cX8_save 98 = .ok (.return_, 1) := by decide +kernel
theorem dX8_isPlace_0 : decode cX8_isPlace 0 = .ok (.iload_n 1, 1) := by decide +kernel
theorem dX8_isPlace_1 : decode cX8_isPlace 1 = .ok (.iconst 0, 1) := by decide +kernel
theorem dX8_isPlace_2 : decode cX8_isPlace 2 = .ok (.aload_n 0, 1) := by decide +kernel
theorem dX8_isPlace_3 : decode cX8_isPlace 3 = .ok (.getfield 7, 3) := by decide +kernel
theorem dX8_isPlace_6 : decode cX8_isPlace 6 = .ok (.bipush 6, 2) := by decide +kernel
theorem dX8_isPlace_8 : decode cX8_isPlace 8 = .ok (.iaload, 1) := by decide +kernel
theorem dX8_isPlace_9 : decode cX8_isPlace 9 = .ok (.iconst 1, 1) := by decide +kernel
theorem dX8_isPlace_10 : decode cX8_isPlace 10 = .ok (.isub, 1) := by decide +kernel
theorem dX8_isPlace_11 : decode cX8_isPlace 11 = .ok (.invokestatic 32, 3) := by decide +kernel
theorem dX8_isPlace_14 : decode cX8_isPlace 14 = .ok (.ireturn, 1) := by decide +kernel
theorem dX8_isKitchen_0 : decode cX8_isKitchen 0 = .ok (.iload_n 1, 1) := by decide +kernel
theorem dX8_isKitchen_1 : decode cX8_isKitchen 1 = .ok (.iconst 0, 1) := by decide +kernel
theorem dX8_isKitchen_2 : decode cX8_isKitchen 2 = .ok (.aload_n 0, 1) := by decide +kernel
theorem dX8_isKitchen_3 : decode cX8_isKitchen 3 = .ok (.getfield 7, 3) := by decide +kernel
theorem dX8_isKitchen_6 : decode cX8_isKitchen 6 = .ok (.bipush 7, 2) := by decide +kernel
theorem dX8_isKitchen_8 : decode cX8_isKitchen 8 = .ok (.iaload, 1) := by decide +kernel
theorem dX8_isKitchen_9 : decode cX8_isKitchen 9 = .ok (.iconst 1, 1) := by decide +kernel
theorem dX8_isKitchen_10 : decode cX8_isKitchen 10 = .ok (.isub, 1) := by decide +kernel
theorem dX8_isKitchen_11 : decode cX8_isKitchen 11 = .ok (.invokestatic 32, 3) := by decide +kernel
theorem dX8_isKitchen_14 : decode cX8_isKitchen 14 = .ok (.ireturn, 1) := by decide +kernel
theorem dX8_isLorry_0 : decode cX8_isLorry 0 = .ok (.iload_n 1, 1) := by decide +kernel
theorem dX8_isLorry_1 : decode cX8_isLorry 1 = .ok (.iconst 0, 1) := by decide +kernel
theorem dX8_isLorry_2 : decode cX8_isLorry 2 = .ok (.aload_n 0, 1) := by decide +kernel
theorem dX8_isLorry_3 : decode cX8_isLorry 3 = .ok (.getfield 7, 3) := by decide +kernel
theorem dX8_isLorry_6 : decode cX8_isLorry 6 = .ok (.bipush 8, 2) := by decide +kernel
theorem dX8_isLorry_8 : decode cX8_isLorry 8 = .ok (.iaload, 1) := by decide +kernel
theorem dX8_isLorry_9 : decode cX8_isLorry 9 = .ok (.iconst 1, 1) := by decide +kernel
theorem dX8_isLorry_10 : decode cX8_isLorry 10 = .ok (.isub, 1) := by decide +kernel
theorem dX8_isLorry_11 : decode cX8_isLorry 11 = .ok (.invokestatic 32, 3) := by decide +kernel
theorem dX8_isLorry_14 : decode cX8_isLorry 14 = .ok (.ireturn, 1) := by decide +kernel
theorem dX8_isUnit_0 : decode cX8_isUnit 0 = .ok (.iload_n 1, 1) := by decide +kernel
theorem dX8_isUnit_1 : decode cX8_isUnit 1 = .ok (.iconst 0, 1) := by decide +kernel
theorem dX8_isUnit_2 : decode cX8_isUnit 2 = .ok (.aload_n 0, 1) := by decide +kernel
theorem dX8_isUnit_3 : decode cX8_isUnit 3 = .ok (.getfield 7, 3) := by decide +kernel
theorem dX8_isUnit_6 : decode cX8_isUnit 6 = .ok (.bipush 9, 2) := by decide +kernel
theorem dX8_isUnit_8 : decode cX8_isUnit 8 = .ok (.iaload, 1) := by decide +kernel
theorem dX8_isUnit_9 : decode cX8_isUnit 9 = .ok (.iconst 1, 1) := by decide +kernel
theorem dX8_isUnit_10 : decode cX8_isUnit 10 = .ok (.isub, 1) := by decide +kernel
theorem dX8_isUnit_11 : decode cX8_isUnit 11 = .ok (.invokestatic 32, 3) := by decide +kernel
theorem dX8_isUnit_14 : decode cX8_isUnit 14 = .ok (.ireturn, 1) := by decide +kernel
theorem dX8_size_0 : decode cX8_size 0 = .ok (.iload_n 0, 1) := by decide +kernel
theorem dX8_size_1 : decode cX8_size 1 = .ok (.ifCond .ge 8, 3) := by decide +kernel
theorem dX8_size_4 : decode cX8_size 4 = .ok (.iload_n 0, 1) := by decide +kernel
theorem dX8_size_5 : decode cX8_size 5 = .ok (.ineg, 1) := by decide +kernel
theorem dX8_size_6 : decode cX8_size 6 = .ok (.goto 4, 3) := by decide +kernel
theorem dX8_size_9 : decode cX8_size 9 = .ok (.iload_n 0, 1) := by decide +kernel
theorem dX8_size_10 : decode cX8_size 10 = .ok (.ireturn, 1) := by decide +kernel
theorem dX8_slot_0 : decode cX8_slot 0 = .ok (.sipush 217, 3) := by decide +kernel
theorem dX8_slot_3 : decode cX8_slot 3 = .ok (.sipush 192, 3) := by decide +kernel
theorem dX8_slot_6 : decode cX8_slot 6 = .ok (.iload_n 0, 1) := by decide +kernel
theorem dX8_slot_7 : decode cX8_slot 7 = .ok (.imul, 1) := by decide +kernel
theorem dX8_slot_8 : decode cX8_slot 8 = .ok (.iadd, 1) := by decide +kernel
theorem dX8_slot_9 : decode cX8_slot 9 = .ok (.bipush 64, 2) := by decide +kernel
theorem dX8_slot_11 : decode cX8_slot 11 = .ok (.iload_n 1, 1) := by decide +kernel
theorem dX8_slot_12 : decode cX8_slot 12 = .ok (.imul, 1) := by decide +kernel
theorem dX8_slot_13 : decode cX8_slot 13 = .ok (.iadd, 1) := by decide +kernel
theorem dX8_slot_14 : decode cX8_slot 14 = .ok (.iload_n 2, 1) := by decide +kernel
theorem dX8_slot_15 : decode cX8_slot 15 = .ok (.bipush 64, 2) := by decide +kernel
theorem dX8_slot_17 : decode cX8_slot 17 = .ok (.irem, 1) := by decide +kernel
theorem dX8_slot_18 : decode cX8_slot 18 = .ok (.iadd, 1) := by decide +kernel
theorem dX8_slot_19 : decode cX8_slot 19 = .ok (.ireturn, 1) := by decide +kernel
theorem dX8_firstMinute_0 : decode cX8_firstMinute 0 = .ok (.aload_n 0, 1) := by decide +kernel
theorem dX8_firstMinute_1 : decode cX8_firstMinute 1 = .ok (.getfield 7, 3) := by decide +kernel
theorem dX8_firstMinute_4 : decode cX8_firstMinute 4 = .ok (.bipush 10, 2) := by decide +kernel
theorem dX8_firstMinute_6 : decode cX8_firstMinute 6 = .ok (.iaload, 1) := by decide +kernel
theorem dX8_firstMinute_7 : decode cX8_firstMinute 7 = .ok (.bipush 64, 2) := by decide +kernel
theorem dX8_firstMinute_9 : decode cX8_firstMinute 9 = .ok (.if_icmp .ge 7, 3) := by decide +kernel
theorem dX8_firstMinute_12 : decode cX8_firstMinute 12 = .ok (.iconst 0, 1) := by decide +kernel
theorem dX8_firstMinute_13 : decode cX8_firstMinute 13 = .ok (.goto 15, 3) := by decide +kernel
theorem dX8_firstMinute_16 : decode cX8_firstMinute 16 = .ok (.aload_n 0, 1) := by decide +kernel
theorem dX8_firstMinute_17 : decode cX8_firstMinute 17 = .ok (.getfield 7, 3) := by decide +kernel
theorem dX8_firstMinute_20 : decode cX8_firstMinute 20 = .ok (.bipush 10, 2) := by decide +kernel
theorem dX8_firstMinute_22 : decode cX8_firstMinute 22 = .ok (.iaload, 1) := by decide +kernel
theorem dX8_firstMinute_23 : decode cX8_firstMinute 23 = .ok (.bipush 64, 2) := by decide +kernel
theorem dX8_firstMinute_25 : decode cX8_firstMinute 25 = .ok (.isub, 1) := by decide +kernel
theorem dX8_firstMinute_26 : decode cX8_firstMinute 26 = .ok (.iconst 1, 1) := by decide +kernel
theorem dX8_firstMinute_27 : decode cX8_firstMinute 27 = .ok (.iadd, 1) := by decide +kernel
theorem dX8_firstMinute_28 : decode cX8_firstMinute 28 = .ok (.ireturn, 1) := by decide +kernel
theorem dX8_mealsIn_0 : decode cX8_mealsIn 0 = .ok (.iconst 0, 1) := by decide +kernel
theorem dX8_mealsIn_1 : decode cX8_mealsIn 1 = .ok (.istore_n 3, 1) := by decide +kernel
theorem dX8_mealsIn_2 : decode cX8_mealsIn 2 = .ok (.iconst 0, 1) := by decide +kernel
theorem dX8_mealsIn_3 : decode cX8_mealsIn 3 = .ok (.istore 4, 2) := by decide +kernel
theorem dX8_mealsIn_5 : decode cX8_mealsIn 5 = .ok (.iload 4, 2) := by decide +kernel
theorem dX8_mealsIn_7 : decode cX8_mealsIn 7 = .ok (.bipush 64, 2) := by decide +kernel
theorem dX8_mealsIn_9 : decode cX8_mealsIn 9 = .ok (.if_icmp .ge 34, 3) := by decide +kernel
theorem dX8_mealsIn_12 : decode cX8_mealsIn 12 = .ok (.iload_n 3, 1) := by decide +kernel
theorem dX8_mealsIn_13 : decode cX8_mealsIn 13 = .ok (.aload_n 0, 1) := by decide +kernel
theorem dX8_mealsIn_14 : decode cX8_mealsIn 14 = .ok (.getfield 7, 3) := by decide +kernel
theorem dX8_mealsIn_17 : decode cX8_mealsIn 17 = .ok (.sipush 217, 3) := by decide +kernel
theorem dX8_mealsIn_20 : decode cX8_mealsIn 20 = .ok (.sipush 192, 3) := by decide +kernel
theorem dX8_mealsIn_23 : decode cX8_mealsIn 23 = .ok (.iload_n 1, 1) := by decide +kernel
theorem dX8_mealsIn_24 : decode cX8_mealsIn 24 = .ok (.imul, 1) := by decide +kernel
theorem dX8_mealsIn_25 : decode cX8_mealsIn 25 = .ok (.iadd, 1) := by decide +kernel
theorem dX8_mealsIn_26 : decode cX8_mealsIn 26 = .ok (.bipush 64, 2) := by decide +kernel
theorem dX8_mealsIn_28 : decode cX8_mealsIn 28 = .ok (.iload_n 2, 1) := by decide +kernel
theorem dX8_mealsIn_29 : decode cX8_mealsIn 29 = .ok (.imul, 1) := by decide +kernel
theorem dX8_mealsIn_30 : decode cX8_mealsIn 30 = .ok (.iadd, 1) := by decide +kernel
theorem dX8_mealsIn_31 : decode cX8_mealsIn 31 = .ok (.iload 4, 2) := by decide +kernel
theorem dX8_mealsIn_33 : decode cX8_mealsIn 33 = .ok (.iadd, 1) := by decide +kernel
theorem dX8_mealsIn_34 : decode cX8_mealsIn 34 = .ok (.iaload, 1) := by decide +kernel
theorem dX8_mealsIn_35 : decode cX8_mealsIn 35 = .ok (.iadd, 1) := by decide +kernel
theorem dX8_mealsIn_36 : decode cX8_mealsIn 36 = .ok (.istore_n 3, 1) := by decide +kernel
theorem dX8_mealsIn_37 : decode cX8_mealsIn 37 = .ok (.iinc 4 1, 3) := by decide +kernel
theorem dX8_mealsIn_40 : decode cX8_mealsIn 40 = .ok (.goto (-35), 3) := by decide +kernel
theorem dX8_mealsIn_43 : decode cX8_mealsIn 43 = .ok (.iload_n 3, 1) := by decide +kernel
theorem dX8_mealsIn_44 : decode cX8_mealsIn 44 = .ok (.ireturn, 1) := by decide +kernel
theorem dX8_allIn_0 : decode cX8_allIn 0 = .ok (.aload_n 0, 1) := by decide +kernel
theorem dX8_allIn_1 : decode cX8_allIn 1 = .ok (.iload_n 1, 1) := by decide +kernel
theorem dX8_allIn_2 : decode cX8_allIn 2 = .ok (.iconst 0, 1) := by decide +kernel
theorem dX8_allIn_3 : decode cX8_allIn 3 = .ok (.invokevirtual 36, 3) := by decide +kernel
theorem dX8_allIn_6 : decode cX8_allIn 6 = .ok (.aload_n 0, 1) := by decide +kernel
theorem dX8_allIn_7 : decode cX8_allIn 7 = .ok (.iload_n 1, 1) := by decide +kernel
theorem dX8_allIn_8 : decode cX8_allIn 8 = .ok (.iconst 1, 1) := by decide +kernel
theorem dX8_allIn_9 : decode cX8_allIn 9 = .ok (.invokevirtual 36, 3) := by decide +kernel
theorem dX8_allIn_12 : decode cX8_allIn 12 = .ok (.iadd, 1) := by decide +kernel
theorem dX8_allIn_13 : decode cX8_allIn 13 = .ok (.aload_n 0, 1) := by decide +kernel
theorem dX8_allIn_14 : decode cX8_allIn 14 = .ok (.iload_n 1, 1) := by decide +kernel
theorem dX8_allIn_15 : decode cX8_allIn 15 = .ok (.iconst 2, 1) := by decide +kernel
theorem dX8_allIn_16 : decode cX8_allIn 16 = .ok (.invokevirtual 36, 3) := by decide +kernel
theorem dX8_allIn_19 : decode cX8_allIn 19 = .ok (.iadd, 1) := by decide +kernel
theorem dX8_allIn_20 : decode cX8_allIn 20 = .ok (.ireturn, 1) := by decide +kernel
theorem dX8_oldestIn_0 : decode cX8_oldestIn 0 = .ok (.aload_n 0, 1) := by decide +kernel
theorem dX8_oldestIn_1 : decode cX8_oldestIn 1 = .ok (.invokevirtual 40, 3) := by decide +kernel
theorem dX8_oldestIn_4 : decode cX8_oldestIn 4 = .ok (.istore_n 2, 1) := by decide +kernel
theorem dX8_oldestIn_5 : decode cX8_oldestIn 5 = .ok (.iload_n 2, 1) := by decide +kernel
theorem dX8_oldestIn_6 : decode cX8_oldestIn 6 = .ok (.aload_n 0, 1) := by decide +kernel
theorem dX8_oldestIn_7 : decode cX8_oldestIn 7 = .ok (.getfield 7, 3) := by decide +kernel
theorem dX8_oldestIn_10 : decode cX8_oldestIn 10 = .ok (.bipush 10, 2) := by decide +kernel
theorem dX8_oldestIn_12 : decode cX8_oldestIn 12 = .ok (.iaload, 1) := by decide +kernel
theorem dX8_oldestIn_13 : decode cX8_oldestIn 13 = .ok (.if_icmp .gt 49, 3) := by decide +kernel
theorem dX8_oldestIn_16 : decode cX8_oldestIn 16 = .ok (.aload_n 0, 1) := by decide +kernel
theorem dX8_oldestIn_17 : decode cX8_oldestIn 17 = .ok (.getfield 7, 3) := by decide +kernel
theorem dX8_oldestIn_20 : decode cX8_oldestIn 20 = .ok (.iload_n 1, 1) := by decide +kernel
theorem dX8_oldestIn_21 : decode cX8_oldestIn 21 = .ok (.iconst 0, 1) := by decide +kernel
theorem dX8_oldestIn_22 : decode cX8_oldestIn 22 = .ok (.iload_n 2, 1) := by decide +kernel
theorem dX8_oldestIn_23 : decode cX8_oldestIn 23 = .ok (.invokestatic 44, 3) := by decide +kernel
theorem dX8_oldestIn_26 : decode cX8_oldestIn 26 = .ok (.iaload, 1) := by decide +kernel
theorem dX8_oldestIn_27 : decode cX8_oldestIn 27 = .ok (.aload_n 0, 1) := by decide +kernel
theorem dX8_oldestIn_28 : decode cX8_oldestIn 28 = .ok (.getfield 7, 3) := by decide +kernel
theorem dX8_oldestIn_31 : decode cX8_oldestIn 31 = .ok (.iload_n 1, 1) := by decide +kernel
theorem dX8_oldestIn_32 : decode cX8_oldestIn 32 = .ok (.iconst 1, 1) := by decide +kernel
theorem dX8_oldestIn_33 : decode cX8_oldestIn 33 = .ok (.iload_n 2, 1) := by decide +kernel
theorem dX8_oldestIn_34 : decode cX8_oldestIn 34 = .ok (.invokestatic 44, 3) := by decide +kernel
theorem dX8_oldestIn_37 : decode cX8_oldestIn 37 = .ok (.iaload, 1) := by decide +kernel
theorem dX8_oldestIn_38 : decode cX8_oldestIn 38 = .ok (.iadd, 1) := by decide +kernel
theorem dX8_oldestIn_39 : decode cX8_oldestIn 39 = .ok (.aload_n 0, 1) := by decide +kernel
theorem dX8_oldestIn_40 : decode cX8_oldestIn 40 = .ok (.getfield 7, 3) := by decide +kernel
theorem dX8_oldestIn_43 : decode cX8_oldestIn 43 = .ok (.iload_n 1, 1) := by decide +kernel
theorem dX8_oldestIn_44 : decode cX8_oldestIn 44 = .ok (.iconst 2, 1) := by decide +kernel
theorem dX8_oldestIn_45 : decode cX8_oldestIn 45 = .ok (.iload_n 2, 1) := by decide +kernel
theorem dX8_oldestIn_46 : decode cX8_oldestIn 46 = .ok (.invokestatic 44, 3) := by decide +kernel
theorem dX8_oldestIn_49 : decode cX8_oldestIn 49 = .ok (.iaload, 1) := by decide +kernel
theorem dX8_oldestIn_50 : decode cX8_oldestIn 50 = .ok (.iadd, 1) := by decide +kernel
theorem dX8_oldestIn_51 : decode cX8_oldestIn 51 = .ok (.ifCond .le 5, 3) := by decide +kernel
theorem dX8_oldestIn_54 : decode cX8_oldestIn 54 = .ok (.iload_n 2, 1) := by decide +kernel
theorem dX8_oldestIn_55 : decode cX8_oldestIn 55 = .ok (.ireturn, 1) := by decide +kernel
theorem dX8_oldestIn_56 : decode cX8_oldestIn 56 = .ok (.iinc 2 1, 3) := by decide +kernel
theorem dX8_oldestIn_59 : decode cX8_oldestIn 59 = .ok (.goto (-54), 3) := by decide +kernel
theorem dX8_oldestIn_62 : decode cX8_oldestIn 62 = .ok (.iconst (-1), 1) := by decide +kernel
theorem dX8_oldestIn_63 : decode cX8_oldestIn 63 = .ok (.ireturn, 1) := by decide +kernel
theorem dX8_takes_0 : decode cX8_takes 0 = .ok (.iload_n 3, 1) := by decide +kernel
theorem dX8_takes_1 : decode cX8_takes 1 = .ok (.istore 4, 2) := by decide +kernel
theorem dX8_takes_3 : decode cX8_takes 3 = .ok (.aload_n 0, 1) := by decide +kernel
theorem dX8_takes_4 : decode cX8_takes 4 = .ok (.invokevirtual 40, 3) := by decide +kernel
theorem dX8_takes_7 : decode cX8_takes 7 = .ok (.istore 5, 2) := by decide +kernel
theorem dX8_takes_9 : decode cX8_takes 9 = .ok (.iload 5, 2) := by decide +kernel
theorem dX8_takes_11 : decode cX8_takes 11 = .ok (.aload_n 0, 1) := by decide +kernel
theorem dX8_takes_12 : decode cX8_takes 12 = .ok (.getfield 7, 3) := by decide +kernel
theorem dX8_takes_15 : decode cX8_takes 15 = .ok (.bipush 10, 2) := by decide +kernel
theorem dX8_takes_17 : decode cX8_takes 17 = .ok (.iaload, 1) := by decide +kernel
theorem dX8_takes_18 : decode cX8_takes 18 = .ok (.if_icmp .gt 97, 3) := by decide +kernel
theorem dX8_takes_21 : decode cX8_takes 21 = .ok (.iload 4, 2) := by decide +kernel
theorem dX8_takes_23 : decode cX8_takes 23 = .ok (.ifCond .le 92, 3) := by decide +kernel
theorem dX8_takes_26 : decode cX8_takes 26 = .ok (.iconst 0, 1) := by decide +kernel
theorem dX8_takes_27 : decode cX8_takes 27 = .ok (.istore 6, 2) := by decide +kernel
theorem dX8_takes_29 : decode cX8_takes 29 = .ok (.iload 6, 2) := by decide +kernel
theorem dX8_takes_31 : decode cX8_takes 31 = .ok (.iconst 3, 1) := by decide +kernel
theorem dX8_takes_32 : decode cX8_takes 32 = .ok (.if_icmp .ge 77, 3) := by decide +kernel
theorem dX8_takes_35 : decode cX8_takes 35 = .ok (.iload_n 1, 1) := by decide +kernel
theorem dX8_takes_36 : decode cX8_takes 36 = .ok (.iload 6, 2) := by decide +kernel
theorem dX8_takes_38 : decode cX8_takes 38 = .ok (.iload 5, 2) := by decide +kernel
theorem dX8_takes_40 : decode cX8_takes 40 = .ok (.invokestatic 44, 3) := by decide +kernel
theorem dX8_takes_43 : decode cX8_takes 43 = .ok (.istore 7, 2) := by decide +kernel
theorem dX8_takes_45 : decode cX8_takes 45 = .ok (.iload_n 2, 1) := by decide +kernel
theorem dX8_takes_46 : decode cX8_takes 46 = .ok (.iload 6, 2) := by decide +kernel
theorem dX8_takes_48 : decode cX8_takes 48 = .ok (.ishr, 1) := by decide +kernel
theorem dX8_takes_49 : decode cX8_takes 49 = .ok (.iconst 1, 1) := by decide +kernel
theorem dX8_takes_50 : decode cX8_takes 50 = .ok (.iand, 1) := by decide +kernel
theorem dX8_takes_51 : decode cX8_takes 51 = .ok (.ifCond .ne 7, 3) := by decide +kernel
theorem dX8_takes_54 : decode cX8_takes 54 = .ok (.iconst 0, 1) := by decide +kernel
theorem dX8_takes_55 : decode cX8_takes 55 = .ok (.goto 27, 3) := by decide +kernel
theorem dX8_takes_58 : decode cX8_takes 58 = .ok (.aload_n 0, 1) := by decide +kernel
theorem dX8_takes_59 : decode cX8_takes 59 = .ok (.getfield 7, 3) := by decide +kernel
theorem dX8_takes_62 : decode cX8_takes 62 = .ok (.iload 7, 2) := by decide +kernel
theorem dX8_takes_64 : decode cX8_takes 64 = .ok (.iaload, 1) := by decide +kernel
theorem dX8_takes_65 : decode cX8_takes 65 = .ok (.iload 4, 2) := by decide +kernel
theorem dX8_takes_67 : decode cX8_takes 67 = .ok (.if_icmp .ge 13, 3) := by decide +kernel
theorem dX8_takes_70 : decode cX8_takes 70 = .ok (.aload_n 0, 1) := by decide +kernel
theorem dX8_takes_71 : decode cX8_takes 71 = .ok (.getfield 7, 3) := by decide +kernel
theorem dX8_takes_74 : decode cX8_takes 74 = .ok (.iload 7, 2) := by decide +kernel
theorem dX8_takes_76 : decode cX8_takes 76 = .ok (.iaload, 1) := by decide +kernel
theorem dX8_takes_77 : decode cX8_takes 77 = .ok (.goto 5, 3) := by decide +kernel
theorem dX8_takes_80 : decode cX8_takes 80 = .ok (.iload 4, 2) := by decide +kernel
theorem dX8_takes_82 : decode cX8_takes 82 = .ok (.istore 8, 2) := by decide +kernel
theorem dX8_takes_84 : decode cX8_takes 84 = .ok (.aload_n 0, 1) := by decide +kernel
theorem dX8_takes_85 : decode cX8_takes 85 = .ok (.getfield 7, 3) := by decide +kernel
theorem dX8_takes_88 : decode cX8_takes 88 = .ok (.iload 7, 2) := by decide +kernel
theorem dX8_takes_90 : decode cX8_takes 90 = .ok (.dup2, 1) := by decide +kernel
theorem dX8_takes_91 : decode cX8_takes 91 = .ok (.iaload, 1) := by decide +kernel
theorem dX8_takes_92 : decode cX8_takes 92 = .ok (.iload 8, 2) := by decide +kernel
theorem dX8_takes_94 : decode cX8_takes 94 = .ok (.isub, 1) := by decide +kernel
theorem dX8_takes_95 : decode cX8_takes 95 = .ok (.iastore, 1) := by decide +kernel
theorem dX8_takes_96 : decode cX8_takes 96 = .ok (.iload 4, 2) := by decide +kernel
theorem dX8_takes_98 : decode cX8_takes 98 = .ok (.iload 8, 2) := by decide +kernel
theorem dX8_takes_100 : decode cX8_takes 100 = .ok (.isub, 1) := by decide +kernel
theorem dX8_takes_101 : decode cX8_takes 101 = .ok (.istore 4, 2) := by decide +kernel
theorem dX8_takes_103 : decode cX8_takes 103 = .ok (.iinc 6 1, 3) := by decide +kernel
theorem dX8_takes_106 : decode cX8_takes 106 = .ok (.goto (-77), 3) := by decide +kernel
theorem dX8_takes_109 : decode cX8_takes 109 = .ok (.iinc 5 1, 3) := by decide +kernel
theorem dX8_takes_112 : decode cX8_takes 112 = .ok (.goto (-103), 3) := by decide +kernel
theorem dX8_takes_115 : decode cX8_takes 115 = .ok (.iload_n 3, 1) := by decide +kernel
theorem dX8_takes_116 : decode cX8_takes 116 = .ok (.iload 4, 2) := by decide +kernel
theorem dX8_takes_118 : decode cX8_takes 118 = .ok (.isub, 1) := by decide +kernel
theorem dX8_takes_119 : decode cX8_takes 119 = .ok (.ireturn, 1) := by decide +kernel
theorem dX8_stands_0 : decode cX8_stands 0 = .ok (.aload_n 0, 1) := by decide +kernel
theorem dX8_stands_1 : decode cX8_stands 1 = .ok (.getfield 7, 3) := by decide +kernel
theorem dX8_stands_4 : decode cX8_stands 4 = .ok (.bipush 61, 2) := by decide +kernel
theorem dX8_stands_6 : decode cX8_stands 6 = .ok (.iload_n 1, 1) := by decide +kernel
theorem dX8_stands_7 : decode cX8_stands 7 = .ok (.iadd, 1) := by decide +kernel
theorem dX8_stands_8 : decode cX8_stands 8 = .ok (.iaload, 1) := by decide +kernel
theorem dX8_stands_9 : decode cX8_stands 9 = .ok (.ifCond .ne 7, 3) := by decide +kernel
theorem dX8_stands_12 : decode cX8_stands 12 = .ok (.iconst 1, 1) := by decide +kernel
theorem dX8_stands_13 : decode cX8_stands 13 = .ok (.goto 4, 3) := by decide +kernel
theorem dX8_stands_16 : decode cX8_stands 16 = .ok (.iconst 0, 1) := by decide +kernel
theorem dX8_stands_17 : decode cX8_stands 17 = .ok (.ireturn, 1) := by decide +kernel
theorem dX8_isAt_0 : decode cX8_isAt 0 = .ok (.aload_n 0, 1) := by decide +kernel
theorem dX8_isAt_1 : decode cX8_isAt 1 = .ok (.iload_n 1, 1) := by decide +kernel
theorem dX8_isAt_2 : decode cX8_isAt 2 = .ok (.invokevirtual 48, 3) := by decide +kernel
theorem dX8_isAt_5 : decode cX8_isAt 5 = .ok (.ifCond .eq 20, 3) := by decide +kernel
theorem dX8_isAt_8 : decode cX8_isAt 8 = .ok (.aload_n 0, 1) := by decide +kernel
theorem dX8_isAt_9 : decode cX8_isAt 9 = .ok (.getfield 7, 3) := by decide +kernel
theorem dX8_isAt_12 : decode cX8_isAt 12 = .ok (.bipush 57, 2) := by decide +kernel
theorem dX8_isAt_14 : decode cX8_isAt 14 = .ok (.iload_n 1, 1) := by decide +kernel
theorem dX8_isAt_15 : decode cX8_isAt 15 = .ok (.iadd, 1) := by decide +kernel
theorem dX8_isAt_16 : decode cX8_isAt 16 = .ok (.iaload, 1) := by decide +kernel
theorem dX8_isAt_17 : decode cX8_isAt 17 = .ok (.iload_n 2, 1) := by decide +kernel
theorem dX8_isAt_18 : decode cX8_isAt 18 = .ok (.if_icmp .ne 7, 3) := by decide +kernel
theorem dX8_isAt_21 : decode cX8_isAt 21 = .ok (.iconst 1, 1) := by decide +kernel
theorem dX8_isAt_22 : decode cX8_isAt 22 = .ok (.goto 4, 3) := by decide +kernel
theorem dX8_isAt_25 : decode cX8_isAt 25 = .ok (.iconst 0, 1) := by decide +kernel
theorem dX8_isAt_26 : decode cX8_isAt 26 = .ok (.ireturn, 1) := by decide +kernel
theorem dX8_driveBetween_0 : decode cX8_driveBetween 0 = .ok (.aload_n 0, 1) := by decide +kernel
theorem dX8_driveBetween_1 : decode cX8_driveBetween 1 = .ok (.getfield 7, 3) := by decide +kernel
theorem dX8_driveBetween_4 : decode cX8_driveBetween 4 = .ok (.bipush 17, 2) := by decide +kernel
theorem dX8_driveBetween_6 : decode cX8_driveBetween 6 = .ok (.iload_n 1, 1) := by decide +kernel
theorem dX8_driveBetween_7 : decode cX8_driveBetween 7 = .ok (.iadd, 1) := by decide +kernel
theorem dX8_driveBetween_8 : decode cX8_driveBetween 8 = .ok (.iaload, 1) := by decide +kernel
theorem dX8_driveBetween_9 : decode cX8_driveBetween 9 = .ok (.aload_n 0, 1) := by decide +kernel
theorem dX8_driveBetween_10 : decode cX8_driveBetween 10 = .ok (.getfield 7, 3) := by decide +kernel
theorem dX8_driveBetween_13 : decode cX8_driveBetween 13 = .ok (.bipush 17, 2) := by decide +kernel
theorem dX8_driveBetween_15 : decode cX8_driveBetween 15 = .ok (.iload_n 2, 1) := by decide +kernel
theorem dX8_driveBetween_16 : decode cX8_driveBetween 16 = .ok (.iadd, 1) := by decide +kernel
theorem dX8_driveBetween_17 : decode cX8_driveBetween 17 = .ok (.iaload, 1) := by decide +kernel
theorem dX8_driveBetween_18 : decode cX8_driveBetween 18 = .ok (.isub, 1) := by decide +kernel
theorem dX8_driveBetween_19 : decode cX8_driveBetween 19 = .ok (.invokestatic 52, 3) := by decide +kernel
theorem dX8_driveBetween_22 : decode cX8_driveBetween 22 = .ok (.aload_n 0, 1) := by decide +kernel
theorem dX8_driveBetween_23 : decode cX8_driveBetween 23 = .ok (.getfield 7, 3) := by decide +kernel
theorem dX8_driveBetween_26 : decode cX8_driveBetween 26 = .ok (.bipush 25, 2) := by decide +kernel
theorem dX8_driveBetween_28 : decode cX8_driveBetween 28 = .ok (.iload_n 1, 1) := by decide +kernel
theorem dX8_driveBetween_29 : decode cX8_driveBetween 29 = .ok (.iadd, 1) := by decide +kernel
theorem dX8_driveBetween_30 : decode cX8_driveBetween 30 = .ok (.iaload, 1) := by decide +kernel
theorem dX8_driveBetween_31 : decode cX8_driveBetween 31 = .ok (.aload_n 0, 1) := by decide +kernel
theorem dX8_driveBetween_32 : decode cX8_driveBetween 32 = .ok (.getfield 7, 3) := by decide +kernel
theorem dX8_driveBetween_35 : decode cX8_driveBetween 35 = .ok (.bipush 25, 2) := by decide +kernel
theorem dX8_driveBetween_37 : decode cX8_driveBetween 37 = .ok (.iload_n 2, 1) := by decide +kernel
theorem dX8_driveBetween_38 : decode cX8_driveBetween 38 = .ok (.iadd, 1) := by decide +kernel
theorem dX8_driveBetween_39 : decode cX8_driveBetween 39 = .ok (.iaload, 1) := by decide +kernel
theorem dX8_driveBetween_40 : decode cX8_driveBetween 40 = .ok (.isub, 1) := by decide +kernel
theorem dX8_driveBetween_41 : decode cX8_driveBetween 41 = .ok (.invokestatic 52, 3) := by decide +kernel
theorem dX8_driveBetween_44 : decode cX8_driveBetween 44 = .ok (.iadd, 1) := by decide +kernel
theorem dX8_driveBetween_45 : decode cX8_driveBetween 45 = .ok (.istore_n 3, 1) := by decide +kernel
theorem dX8_driveBetween_46 : decode cX8_driveBetween 46 = .ok (.iload_n 3, 1) := by decide +kernel
theorem dX8_driveBetween_47 : decode cX8_driveBetween 47 = .ok (.aload_n 0, 1) := by decide +kernel
theorem dX8_driveBetween_48 : decode cX8_driveBetween 48 = .ok (.getfield 7, 3) := by decide +kernel
theorem dX8_driveBetween_51 : decode cX8_driveBetween 51 = .ok (.iconst 0, 1) := by decide +kernel
theorem dX8_driveBetween_52 : decode cX8_driveBetween 52 = .ok (.iaload, 1) := by decide +kernel
theorem dX8_driveBetween_53 : decode cX8_driveBetween 53 = .ok (.imul, 1) := by decide +kernel
theorem dX8_driveBetween_54 : decode cX8_driveBetween 54 = .ok (.bipush 9, 2) := by decide +kernel
theorem dX8_driveBetween_56 : decode cX8_driveBetween 56 = .ok (.iadd, 1) := by decide +kernel
theorem dX8_driveBetween_57 : decode cX8_driveBetween 57 = .ok (.bipush 10, 2) := by decide +kernel
theorem dX8_driveBetween_59 : decode cX8_driveBetween 59 = .ok (.idiv, 1) := by decide +kernel
theorem dX8_driveBetween_60 : decode cX8_driveBetween 60 = .ok (.istore 4, 2) := by decide +kernel
theorem dX8_driveBetween_62 : decode cX8_driveBetween 62 = .ok (.iload_n 1, 1) := by decide +kernel
theorem dX8_driveBetween_63 : decode cX8_driveBetween 63 = .ok (.iload_n 2, 1) := by decide +kernel
theorem dX8_driveBetween_64 : decode cX8_driveBetween 64 = .ok (.if_icmp .ne 7, 3) := by decide +kernel
theorem dX8_driveBetween_67 : decode cX8_driveBetween 67 = .ok (.iconst 0, 1) := by decide +kernel
theorem dX8_driveBetween_68 : decode cX8_driveBetween 68 = .ok (.goto 15, 3) := by decide +kernel
theorem dX8_driveBetween_71 : decode cX8_driveBetween 71 = .ok (.iload 4, 2) := by decide +kernel
theorem dX8_driveBetween_73 : decode cX8_driveBetween 73 = .ok (.iconst 1, 1) := by decide +kernel
theorem dX8_driveBetween_74 : decode cX8_driveBetween 74 = .ok (.if_icmp .ge 7, 3) := by decide +kernel
theorem dX8_driveBetween_77 : decode cX8_driveBetween 77 = .ok (.iconst 1, 1) := by decide +kernel
theorem dX8_driveBetween_78 : decode cX8_driveBetween 78 = .ok (.goto 5, 3) := by decide +kernel
theorem dX8_driveBetween_81 : decode cX8_driveBetween 81 = .ok (.iload 4, 2) := by decide +kernel
theorem dX8_driveBetween_83 : decode cX8_driveBetween 83 = .ok (.ireturn, 1) := by decide +kernel
theorem dX8_addPlace_0 : decode cX8_addPlace 0 = .ok (.aload_n 0, 1) := by decide +kernel
theorem dX8_addPlace_1 : decode cX8_addPlace 1 = .ok (.iload_n 1, 1) := by decide +kernel
theorem dX8_addPlace_2 : decode cX8_addPlace 2 = .ok (.iconst 0, 1) := by decide +kernel
theorem dX8_addPlace_3 : decode cX8_addPlace 3 = .ok (.bipush 99, 2) := by decide +kernel
theorem dX8_addPlace_5 : decode cX8_addPlace 5 = .ok (.invokestatic 32, 3) := by decide +kernel
theorem dX8_addPlace_8 : decode cX8_addPlace 8 = .ok (.ifCond .eq 13, 3) := by decide +kernel
theorem dX8_addPlace_11 : decode cX8_addPlace 11 = .ok (.iload_n 2, 1) := by decide +kernel
theorem dX8_addPlace_12 : decode cX8_addPlace 12 = .ok (.iconst 0, 1) := by decide +kernel
theorem dX8_addPlace_13 : decode cX8_addPlace 13 = .ok (.bipush 99, 2) := by decide +kernel
theorem dX8_addPlace_15 : decode cX8_addPlace 15 = .ok (.invokestatic 32, 3) := by decide +kernel
theorem dX8_addPlace_18 : decode cX8_addPlace 18 = .ok (.ifCond .ne 7, 3) := by decide +kernel
theorem dX8_addPlace_21 : decode cX8_addPlace 21 = .ok (.iconst 1, 1) := by decide +kernel
theorem dX8_addPlace_22 : decode cX8_addPlace 22 = .ok (.goto 20, 3) := by decide +kernel
theorem dX8_addPlace_25 : decode cX8_addPlace 25 = .ok (.aload_n 0, 1) := by decide +kernel
theorem dX8_addPlace_26 : decode cX8_addPlace 26 = .ok (.getfield 7, 3) := by decide +kernel
theorem dX8_addPlace_29 : decode cX8_addPlace 29 = .ok (.bipush 6, 2) := by decide +kernel
theorem dX8_addPlace_31 : decode cX8_addPlace 31 = .ok (.iaload, 1) := by decide +kernel
theorem dX8_addPlace_32 : decode cX8_addPlace 32 = .ok (.bipush 8, 2) := by decide +kernel
theorem dX8_addPlace_34 : decode cX8_addPlace 34 = .ok (.if_icmp .ne 7, 3) := by decide +kernel
theorem dX8_addPlace_37 : decode cX8_addPlace 37 = .ok (.iconst 2, 1) := by decide +kernel
theorem dX8_addPlace_38 : decode cX8_addPlace 38 = .ok (.goto 4, 3) := by decide +kernel
theorem dX8_addPlace_41 : decode cX8_addPlace 41 = .ok (.iconst 0, 1) := by decide +kernel
theorem dX8_addPlace_42 : decode cX8_addPlace 42 = .ok (.putfield 25, 3) := by decide +kernel
theorem dX8_addPlace_45 : decode cX8_addPlace 45 = .ok (.aload_n 0, 1) := by decide +kernel
theorem dX8_addPlace_46 : decode cX8_addPlace 46 = .ok (.getfield 25, 3) := by decide +kernel
theorem dX8_addPlace_49 : decode cX8_addPlace 49 = .ok (.ifCond .le 5, 3) := by decide +kernel
theorem dX8_addPlace_52 : decode cX8_addPlace 52 = .ok (.iconst 0, 1) := by decide +kernel
theorem dX8_addPlace_53 : decode cX8_addPlace 53 = .ok (.ireturn, 1) := by decide +kernel
theorem dX8_addPlace_54 : decode cX8_addPlace 54 = .ok (.aload_n 0, 1) := by decide +kernel
theorem dX8_addPlace_55 : decode cX8_addPlace 55 = .ok (.invokevirtual 56, 3) := by decide +kernel
theorem dX8_addPlace_58 : decode cX8_addPlace 58 = .ok (.aload_n 0, 1) := by decide +kernel
theorem dX8_addPlace_59 : decode cX8_addPlace 59 = .ok (.getfield 7, 3) := by decide +kernel
theorem dX8_addPlace_62 : decode cX8_addPlace 62 = .ok (.bipush 17, 2) := by decide +kernel
theorem dX8_addPlace_64 : decode cX8_addPlace 64 = .ok (.aload_n 0, 1) := by decide +kernel
theorem dX8_addPlace_65 : decode cX8_addPlace 65 = .ok (.getfield 7, 3) := by decide +kernel
theorem dX8_addPlace_68 : decode cX8_addPlace 68 = .ok (.bipush 6, 2) := by decide +kernel
theorem dX8_addPlace_70 : decode cX8_addPlace 70 = .ok (.iaload, 1) := by decide +kernel
theorem dX8_addPlace_71 : decode cX8_addPlace 71 = .ok (.iadd, 1) := by decide +kernel
theorem dX8_addPlace_72 : decode cX8_addPlace 72 = .ok (.iload_n 1, 1) := by decide +kernel
theorem dX8_addPlace_73 : decode cX8_addPlace 73 = .ok (.iastore, 1) := by decide +kernel
theorem dX8_addPlace_74 : decode cX8_addPlace 74 = .ok (.aload_n 0, 1) := by decide +kernel
theorem dX8_addPlace_75 : decode cX8_addPlace 75 = .ok (.getfield 7, 3) := by decide +kernel
theorem dX8_addPlace_78 : decode cX8_addPlace 78 = .ok (.bipush 25, 2) := by decide +kernel
theorem dX8_addPlace_80 : decode cX8_addPlace 80 = .ok (.aload_n 0, 1) := by decide +kernel
theorem dX8_addPlace_81 : decode cX8_addPlace 81 = .ok (.getfield 7, 3) := by decide +kernel
theorem dX8_addPlace_84 : decode cX8_addPlace 84 = .ok (.bipush 6, 2) := by decide +kernel
theorem dX8_addPlace_86 : decode cX8_addPlace 86 = .ok (.iaload, 1) := by decide +kernel
theorem dX8_addPlace_87 : decode cX8_addPlace 87 = .ok (.iadd, 1) := by decide +kernel
theorem dX8_addPlace_88 : decode cX8_addPlace 88 = .ok (.iload_n 2, 1) := by decide +kernel
theorem dX8_addPlace_89 : decode cX8_addPlace 89 = .ok (.iastore, 1) := by decide +kernel
theorem dX8_addPlace_90 : decode cX8_addPlace 90 = .ok (.aload_n 0, 1) := by decide +kernel
theorem dX8_addPlace_91 : decode cX8_addPlace 91 = .ok (.getfield 7, 3) := by decide +kernel
theorem dX8_addPlace_94 : decode cX8_addPlace 94 = .ok (.bipush 6, 2) := by decide +kernel
theorem dX8_addPlace_96 : decode cX8_addPlace 96 = .ok (.dup2, 1) := by decide +kernel
theorem dX8_addPlace_97 : decode cX8_addPlace 97 = .ok (.iaload, 1) := by decide +kernel
theorem dX8_addPlace_98 : decode cX8_addPlace 98 = .ok (.iconst 1, 1) := by decide +kernel
theorem dX8_addPlace_99 : decode cX8_addPlace 99 = .ok (.iadd, 1) := by decide +kernel
theorem dX8_addPlace_100 : decode cX8_addPlace 100 = .ok (.iastore, 1) := by decide +kernel
theorem dX8_addPlace_101 : decode cX8_addPlace 101 = .ok (.aload_n 0, 1) := by decide +kernel
theorem dX8_addPlace_102 : decode cX8_addPlace 102 = .ok (.getfield 7, 3) := by decide +kernel
theorem dX8_addPlace_105 : decode cX8_addPlace 105 = .ok (.bipush 6, 2) := by decide +kernel
theorem dX8_addPlace_107 : decode cX8_addPlace 107 = .ok (.iaload, 1) := by decide +kernel
theorem dX8_addPlace_108 : decode cX8_addPlace 108 = .ok (.iconst 1, 1) := by decide +kernel
theorem dX8_addPlace_109 : decode cX8_addPlace 109 = .ok (.isub, 1) := by decide +kernel
theorem dX8_addPlace_110 : decode cX8_addPlace 110 = .ok (.ireturn, 1) := by decide +kernel
theorem dX8_addKitchen_0 : decode cX8_addKitchen 0 = .ok (.aload_n 0, 1) := by decide +kernel
theorem dX8_addKitchen_1 : decode cX8_addKitchen 1 = .ok (.aload_n 0, 1) := by decide +kernel
theorem dX8_addKitchen_2 : decode cX8_addKitchen 2 = .ok (.iload_n 1, 1) := by decide +kernel
theorem dX8_addKitchen_3 : decode cX8_addKitchen 3 = .ok (.invokevirtual 59, 3) := by decide +kernel
theorem dX8_addKitchen_6 : decode cX8_addKitchen 6 = .ok (.ifCond .ne 7, 3) := by decide +kernel
theorem dX8_addKitchen_9 : decode cX8_addKitchen 9 = .ok (.iconst 1, 1) := by decide +kernel
theorem dX8_addKitchen_10 : decode cX8_addKitchen 10 = .ok (.goto 19, 3) := by decide +kernel
theorem dX8_addKitchen_13 : decode cX8_addKitchen 13 = .ok (.aload_n 0, 1) := by decide +kernel
theorem dX8_addKitchen_14 : decode cX8_addKitchen 14 = .ok (.getfield 7, 3) := by decide +kernel
theorem dX8_addKitchen_17 : decode cX8_addKitchen 17 = .ok (.bipush 7, 2) := by decide +kernel
theorem dX8_addKitchen_19 : decode cX8_addKitchen 19 = .ok (.iaload, 1) := by decide +kernel
theorem dX8_addKitchen_20 : decode cX8_addKitchen 20 = .ok (.iconst 3, 1) := by decide +kernel
theorem dX8_addKitchen_21 : decode cX8_addKitchen 21 = .ok (.if_icmp .ne 7, 3) := by decide +kernel
theorem dX8_addKitchen_24 : decode cX8_addKitchen 24 = .ok (.iconst 2, 1) := by decide +kernel
theorem dX8_addKitchen_25 : decode cX8_addKitchen 25 = .ok (.goto 4, 3) := by decide +kernel
theorem dX8_addKitchen_28 : decode cX8_addKitchen 28 = .ok (.iconst 0, 1) := by decide +kernel
theorem dX8_addKitchen_29 : decode cX8_addKitchen 29 = .ok (.putfield 25, 3) := by decide +kernel
theorem dX8_addKitchen_32 : decode cX8_addKitchen 32 = .ok (.aload_n 0, 1) := by decide +kernel
theorem dX8_addKitchen_33 : decode cX8_addKitchen 33 = .ok (.getfield 25, 3) := by decide +kernel
theorem dX8_addKitchen_36 : decode cX8_addKitchen 36 = .ok (.ifCond .le 5, 3) := by decide +kernel
theorem dX8_addKitchen_39 : decode cX8_addKitchen 39 = .ok (.iconst 0, 1) := by decide +kernel
theorem dX8_addKitchen_40 : decode cX8_addKitchen 40 = .ok (.ireturn, 1) := by decide +kernel
theorem dX8_addKitchen_41 : decode cX8_addKitchen 41 = .ok (.aload_n 0, 1) := by decide +kernel
theorem dX8_addKitchen_42 : decode cX8_addKitchen 42 = .ok (.invokevirtual 56, 3) := by decide +kernel
theorem dX8_addKitchen_45 : decode cX8_addKitchen 45 = .ok (.aload_n 0, 1) := by decide +kernel
theorem dX8_addKitchen_46 : decode cX8_addKitchen 46 = .ok (.getfield 7, 3) := by decide +kernel
theorem dX8_addKitchen_49 : decode cX8_addKitchen 49 = .ok (.bipush 33, 2) := by decide +kernel
theorem dX8_addKitchen_51 : decode cX8_addKitchen 51 = .ok (.aload_n 0, 1) := by decide +kernel
theorem dX8_addKitchen_52 : decode cX8_addKitchen 52 = .ok (.getfield 7, 3) := by decide +kernel
theorem dX8_addKitchen_55 : decode cX8_addKitchen 55 = .ok (.bipush 7, 2) := by decide +kernel
theorem dX8_addKitchen_57 : decode cX8_addKitchen 57 = .ok (.iaload, 1) := by decide +kernel
theorem dX8_addKitchen_58 : decode cX8_addKitchen 58 = .ok (.iadd, 1) := by decide +kernel
theorem dX8_addKitchen_59 : decode cX8_addKitchen 59 = .ok (.iload_n 1, 1) := by decide +kernel
theorem dX8_addKitchen_60 : decode cX8_addKitchen 60 = .ok (.iastore, 1) := by decide +kernel
theorem dX8_addKitchen_61 : decode cX8_addKitchen 61 = .ok (.aload_n 0, 1) := by decide +kernel
theorem dX8_addKitchen_62 : decode cX8_addKitchen 62 = .ok (.getfield 7, 3) := by decide +kernel
theorem dX8_addKitchen_65 : decode cX8_addKitchen 65 = .ok (.bipush 7, 2) := by decide +kernel
theorem dX8_addKitchen_67 : decode cX8_addKitchen 67 = .ok (.dup2, 1) := by decide +kernel
theorem dX8_addKitchen_68 : decode cX8_addKitchen 68 = .ok (.iaload, 1) := by decide +kernel
theorem dX8_addKitchen_69 : decode cX8_addKitchen 69 = .ok (.iconst 1, 1) := by decide +kernel
theorem dX8_addKitchen_70 : decode cX8_addKitchen 70 = .ok (.iadd, 1) := by decide +kernel
theorem dX8_addKitchen_71 : decode cX8_addKitchen 71 = .ok (.iastore, 1) := by decide +kernel
theorem dX8_addKitchen_72 : decode cX8_addKitchen 72 = .ok (.aload_n 0, 1) := by decide +kernel
theorem dX8_addKitchen_73 : decode cX8_addKitchen 73 = .ok (.getfield 7, 3) := by decide +kernel
theorem dX8_addKitchen_76 : decode cX8_addKitchen 76 = .ok (.bipush 7, 2) := by decide +kernel
theorem dX8_addKitchen_78 : decode cX8_addKitchen 78 = .ok (.iaload, 1) := by decide +kernel
theorem dX8_addKitchen_79 : decode cX8_addKitchen 79 = .ok (.iconst 1, 1) := by decide +kernel
theorem dX8_addKitchen_80 : decode cX8_addKitchen 80 = .ok (.isub, 1) := by decide +kernel
theorem dX8_addKitchen_81 : decode cX8_addKitchen 81 = .ok (.ireturn, 1) := by decide +kernel
theorem dX8_addLorry_0 : decode cX8_addLorry 0 = .ok (.aload_n 0, 1) := by decide +kernel
theorem dX8_addLorry_1 : decode cX8_addLorry 1 = .ok (.aload_n 0, 1) := by decide +kernel
theorem dX8_addLorry_2 : decode cX8_addLorry 2 = .ok (.iload_n 1, 1) := by decide +kernel
theorem dX8_addLorry_3 : decode cX8_addLorry 3 = .ok (.invokevirtual 59, 3) := by decide +kernel
theorem dX8_addLorry_6 : decode cX8_addLorry 6 = .ok (.ifCond .ne 7, 3) := by decide +kernel
theorem dX8_addLorry_9 : decode cX8_addLorry 9 = .ok (.iconst 1, 1) := by decide +kernel
theorem dX8_addLorry_10 : decode cX8_addLorry 10 = .ok (.goto 19, 3) := by decide +kernel
theorem dX8_addLorry_13 : decode cX8_addLorry 13 = .ok (.aload_n 0, 1) := by decide +kernel
theorem dX8_addLorry_14 : decode cX8_addLorry 14 = .ok (.getfield 7, 3) := by decide +kernel
theorem dX8_addLorry_17 : decode cX8_addLorry 17 = .ok (.bipush 8, 2) := by decide +kernel
theorem dX8_addLorry_19 : decode cX8_addLorry 19 = .ok (.iaload, 1) := by decide +kernel
theorem dX8_addLorry_20 : decode cX8_addLorry 20 = .ok (.iconst 4, 1) := by decide +kernel
theorem dX8_addLorry_21 : decode cX8_addLorry 21 = .ok (.if_icmp .ne 7, 3) := by decide +kernel
theorem dX8_addLorry_24 : decode cX8_addLorry 24 = .ok (.iconst 2, 1) := by decide +kernel
theorem dX8_addLorry_25 : decode cX8_addLorry 25 = .ok (.goto 4, 3) := by decide +kernel
theorem dX8_addLorry_28 : decode cX8_addLorry 28 = .ok (.iconst 0, 1) := by decide +kernel
theorem dX8_addLorry_29 : decode cX8_addLorry 29 = .ok (.putfield 25, 3) := by decide +kernel
theorem dX8_addLorry_32 : decode cX8_addLorry 32 = .ok (.aload_n 0, 1) := by decide +kernel
theorem dX8_addLorry_33 : decode cX8_addLorry 33 = .ok (.getfield 25, 3) := by decide +kernel
theorem dX8_addLorry_36 : decode cX8_addLorry 36 = .ok (.ifCond .le 5, 3) := by decide +kernel
theorem dX8_addLorry_39 : decode cX8_addLorry 39 = .ok (.iconst 0, 1) := by decide +kernel
theorem dX8_addLorry_40 : decode cX8_addLorry 40 = .ok (.ireturn, 1) := by decide +kernel
theorem dX8_addLorry_41 : decode cX8_addLorry 41 = .ok (.aload_n 0, 1) := by decide +kernel
theorem dX8_addLorry_42 : decode cX8_addLorry 42 = .ok (.invokevirtual 56, 3) := by decide +kernel
theorem dX8_addLorry_45 : decode cX8_addLorry 45 = .ok (.aload_n 0, 1) := by decide +kernel
theorem dX8_addLorry_46 : decode cX8_addLorry 46 = .ok (.getfield 7, 3) := by decide +kernel
theorem dX8_addLorry_49 : decode cX8_addLorry 49 = .ok (.bipush 57, 2) := by decide +kernel
theorem dX8_addLorry_51 : decode cX8_addLorry 51 = .ok (.aload_n 0, 1) := by decide +kernel
theorem dX8_addLorry_52 : decode cX8_addLorry 52 = .ok (.getfield 7, 3) := by decide +kernel
theorem dX8_addLorry_55 : decode cX8_addLorry 55 = .ok (.bipush 8, 2) := by decide +kernel
theorem dX8_addLorry_57 : decode cX8_addLorry 57 = .ok (.iaload, 1) := by decide +kernel
theorem dX8_addLorry_58 : decode cX8_addLorry 58 = .ok (.iadd, 1) := by decide +kernel
theorem dX8_addLorry_59 : decode cX8_addLorry 59 = .ok (.iload_n 1, 1) := by decide +kernel
theorem dX8_addLorry_60 : decode cX8_addLorry 60 = .ok (.iastore, 1) := by decide +kernel
theorem dX8_addLorry_61 : decode cX8_addLorry 61 = .ok (.aload_n 0, 1) := by decide +kernel
theorem dX8_addLorry_62 : decode cX8_addLorry 62 = .ok (.getfield 7, 3) := by decide +kernel
theorem dX8_addLorry_65 : decode cX8_addLorry 65 = .ok (.bipush 61, 2) := by decide +kernel
theorem dX8_addLorry_67 : decode cX8_addLorry 67 = .ok (.aload_n 0, 1) := by decide +kernel
theorem dX8_addLorry_68 : decode cX8_addLorry 68 = .ok (.getfield 7, 3) := by decide +kernel
theorem dX8_addLorry_71 : decode cX8_addLorry 71 = .ok (.bipush 8, 2) := by decide +kernel
theorem dX8_addLorry_73 : decode cX8_addLorry 73 = .ok (.iaload, 1) := by decide +kernel
theorem dX8_addLorry_74 : decode cX8_addLorry 74 = .ok (.iadd, 1) := by decide +kernel
theorem dX8_addLorry_75 : decode cX8_addLorry 75 = .ok (.iconst 0, 1) := by decide +kernel
theorem dX8_addLorry_76 : decode cX8_addLorry 76 = .ok (.iastore, 1) := by decide +kernel
theorem dX8_addLorry_77 : decode cX8_addLorry 77 = .ok (.aload_n 0, 1) := by decide +kernel
theorem dX8_addLorry_78 : decode cX8_addLorry 78 = .ok (.getfield 7, 3) := by decide +kernel
theorem dX8_addLorry_81 : decode cX8_addLorry 81 = .ok (.bipush 8, 2) := by decide +kernel
theorem dX8_addLorry_83 : decode cX8_addLorry 83 = .ok (.dup2, 1) := by decide +kernel
theorem dX8_addLorry_84 : decode cX8_addLorry 84 = .ok (.iaload, 1) := by decide +kernel
theorem dX8_addLorry_85 : decode cX8_addLorry 85 = .ok (.iconst 1, 1) := by decide +kernel
theorem dX8_addLorry_86 : decode cX8_addLorry 86 = .ok (.iadd, 1) := by decide +kernel
theorem dX8_addLorry_87 : decode cX8_addLorry 87 = .ok (.iastore, 1) := by decide +kernel
theorem dX8_addLorry_88 : decode cX8_addLorry 88 = .ok (.aload_n 0, 1) := by decide +kernel
theorem dX8_addLorry_89 : decode cX8_addLorry 89 = .ok (.getfield 7, 3) := by decide +kernel
theorem dX8_addLorry_92 : decode cX8_addLorry 92 = .ok (.bipush 8, 2) := by decide +kernel
theorem dX8_addLorry_94 : decode cX8_addLorry 94 = .ok (.iaload, 1) := by decide +kernel
theorem dX8_addLorry_95 : decode cX8_addLorry 95 = .ok (.iconst 1, 1) := by decide +kernel
theorem dX8_addLorry_96 : decode cX8_addLorry 96 = .ok (.isub, 1) := by decide +kernel
theorem dX8_addLorry_97 : decode cX8_addLorry 97 = .ok (.ireturn, 1) := by decide +kernel
theorem dX8_isSetting_0 : decode cX8_isSetting 0 = .ok (.iload_n 0, 1) := by decide +kernel
theorem dX8_isSetting_1 : decode cX8_isSetting 1 = .ok (.iconst 0, 1) := by decide +kernel
theorem dX8_isSetting_2 : decode cX8_isSetting 2 = .ok (.iconst 5, 1) := by decide +kernel
theorem dX8_isSetting_3 : decode cX8_isSetting 3 = .ok (.invokestatic 32, 3) := by decide +kernel
theorem dX8_isSetting_6 : decode cX8_isSetting 6 = .ok (.ireturn, 1) := by decide +kernel
theorem dX8_isValue_0 : decode cX8_isValue 0 = .ok (.iload_n 0, 1) := by decide +kernel
theorem dX8_isValue_1 : decode cX8_isValue 1 = .ok (.tableswitch 75 0 4 #[35, 43, 51, 59, 67], 35) := by decide +kernel
theorem dX8_isValue_36 : decode cX8_isValue 36 = .ok (.iload_n 1, 1) := by decide +kernel
theorem dX8_isValue_37 : decode cX8_isValue 37 = .ok (.iconst 1, 1) := by decide +kernel
theorem dX8_isValue_38 : decode cX8_isValue 38 = .ok (.bipush 50, 2) := by decide +kernel
theorem dX8_isValue_40 : decode cX8_isValue 40 = .ok (.invokestatic 32, 3) := by decide +kernel
theorem dX8_isValue_43 : decode cX8_isValue 43 = .ok (.ireturn, 1) := by decide +kernel
theorem dX8_isValue_44 : decode cX8_isValue 44 = .ok (.iload_n 1, 1) := by decide +kernel
theorem dX8_isValue_45 : decode cX8_isValue 45 = .ok (.iconst 0, 1) := by decide +kernel
theorem dX8_isValue_46 : decode cX8_isValue 46 = .ok (.bipush 120, 2) := by decide +kernel
theorem dX8_isValue_48 : decode cX8_isValue 48 = .ok (.invokestatic 32, 3) := by decide +kernel
theorem dX8_isValue_51 : decode cX8_isValue 51 = .ok (.ireturn, 1) := by decide +kernel
theorem dX8_isValue_52 : decode cX8_isValue 52 = .ok (.iload_n 1, 1) := by decide +kernel
theorem dX8_isValue_53 : decode cX8_isValue 53 = .ok (.iconst 0, 1) := by decide +kernel
theorem dX8_isValue_54 : decode cX8_isValue 54 = .ok (.bipush 20, 2) := by decide +kernel
theorem dX8_isValue_56 : decode cX8_isValue 56 = .ok (.invokestatic 32, 3) := by decide +kernel
theorem dX8_isValue_59 : decode cX8_isValue 59 = .ok (.ireturn, 1) := by decide +kernel
theorem dX8_isValue_60 : decode cX8_isValue 60 = .ok (.iload_n 1, 1) := by decide +kernel
theorem dX8_isValue_61 : decode cX8_isValue 61 = .ok (.iconst 5, 1) := by decide +kernel
theorem dX8_isValue_62 : decode cX8_isValue 62 = .ok (.bipush 60, 2) := by decide +kernel
theorem dX8_isValue_64 : decode cX8_isValue 64 = .ok (.invokestatic 32, 3) := by decide +kernel
theorem dX8_isValue_67 : decode cX8_isValue 67 = .ok (.ireturn, 1) := by decide +kernel
theorem dX8_isValue_68 : decode cX8_isValue 68 = .ok (.iload_n 1, 1) := by decide +kernel
theorem dX8_isValue_69 : decode cX8_isValue 69 = .ok (.iconst 1, 1) := by decide +kernel
theorem dX8_isValue_70 : decode cX8_isValue 70 = .ok (.bipush 20, 2) := by decide +kernel
theorem dX8_isValue_72 : decode cX8_isValue 72 = .ok (.invokestatic 32, 3) := by decide +kernel
theorem dX8_isValue_75 : decode cX8_isValue 75 = .ok (.ireturn, 1) := by decide +kernel
theorem dX8_isValue_76 : decode cX8_isValue 76 = .ok (.iload_n 1, 1) := by decide +kernel
theorem dX8_isValue_77 : decode cX8_isValue 77 = .ok (.bipush 10, 2) := by decide +kernel
theorem dX8_isValue_79 : decode cX8_isValue 79 = .ok (.sipush 500, 3) := by decide +kernel
theorem dX8_isValue_82 : decode cX8_isValue 82 = .ok (.invokestatic 32, 3) := by decide +kernel
theorem dX8_isValue_85 : decode cX8_isValue 85 = .ok (.ireturn, 1) := by decide +kernel
theorem dX8_set_0 : decode cX8_set 0 = .ok (.aload_n 0, 1) := by decide +kernel
theorem dX8_set_1 : decode cX8_set 1 = .ok (.iload_n 1, 1) := by decide +kernel
theorem dX8_set_2 : decode cX8_set 2 = .ok (.invokestatic 62, 3) := by decide +kernel
theorem dX8_set_5 : decode cX8_set 5 = .ok (.ifCond .ne 7, 3) := by decide +kernel
theorem dX8_set_8 : decode cX8_set 8 = .ok (.iconst 1, 1) := by decide +kernel
theorem dX8_set_9 : decode cX8_set 9 = .ok (.goto 16, 3) := by decide +kernel
theorem dX8_set_12 : decode cX8_set 12 = .ok (.iload_n 1, 1) := by decide +kernel
theorem dX8_set_13 : decode cX8_set 13 = .ok (.iload_n 2, 1) := by decide +kernel
theorem dX8_set_14 : decode cX8_set 14 = .ok (.invokestatic 65, 3) := by decide +kernel
theorem dX8_set_17 : decode cX8_set 17 = .ok (.ifCond .eq 7, 3) := by decide +kernel
theorem dX8_set_20 : decode cX8_set 20 = .ok (.iconst 0, 1) := by decide +kernel
theorem dX8_set_21 : decode cX8_set 21 = .ok (.goto 4, 3) := by decide +kernel
theorem dX8_set_24 : decode cX8_set 24 = .ok (.iconst 2, 1) := by decide +kernel
theorem dX8_set_25 : decode cX8_set 25 = .ok (.putfield 25, 3) := by decide +kernel
theorem dX8_set_28 : decode cX8_set 28 = .ok (.aload_n 0, 1) := by decide +kernel
theorem dX8_set_29 : decode cX8_set 29 = .ok (.getfield 25, 3) := by decide +kernel
theorem dX8_set_32 : decode cX8_set 32 = .ok (.ifCond .le 5, 3) := by decide +kernel
theorem dX8_set_35 : decode cX8_set 35 = .ok (.iconst 0, 1) := by decide +kernel
theorem dX8_set_36 : decode cX8_set 36 = .ok (.ireturn, 1) := by decide +kernel
theorem dX8_set_37 : decode cX8_set 37 = .ok (.aload_n 0, 1) := by decide +kernel
theorem dX8_set_38 : decode cX8_set 38 = .ok (.invokevirtual 56, 3) := by decide +kernel
theorem dX8_set_41 : decode cX8_set 41 = .ok (.aload_n 0, 1) := by decide +kernel
theorem dX8_set_42 : decode cX8_set 42 = .ok (.getfield 7, 3) := by decide +kernel
theorem dX8_set_45 : decode cX8_set 45 = .ok (.iconst 0, 1) := by decide +kernel
theorem dX8_set_46 : decode cX8_set 46 = .ok (.iload_n 1, 1) := by decide +kernel
theorem dX8_set_47 : decode cX8_set 47 = .ok (.iadd, 1) := by decide +kernel
theorem dX8_set_48 : decode cX8_set 48 = .ok (.iaload, 1) := by decide +kernel
theorem dX8_set_49 : decode cX8_set 49 = .ok (.istore_n 3, 1) := by decide +kernel
theorem dX8_set_50 : decode cX8_set 50 = .ok (.aload_n 0, 1) := by decide +kernel
theorem dX8_set_51 : decode cX8_set 51 = .ok (.getfield 7, 3) := by decide +kernel
theorem dX8_set_54 : decode cX8_set 54 = .ok (.iconst 0, 1) := by decide +kernel
theorem dX8_set_55 : decode cX8_set 55 = .ok (.iload_n 1, 1) := by decide +kernel
theorem dX8_set_56 : decode cX8_set 56 = .ok (.iadd, 1) := by decide +kernel
theorem dX8_set_57 : decode cX8_set 57 = .ok (.iload_n 2, 1) := by decide +kernel
theorem dX8_set_58 : decode cX8_set 58 = .ok (.iastore, 1) := by decide +kernel
theorem dX8_set_59 : decode cX8_set 59 = .ok (.iload_n 3, 1) := by decide +kernel
theorem dX8_set_60 : decode cX8_set 60 = .ok (.ireturn, 1) := by decide +kernel
theorem dX8_isKind_0 : decode cX8_isKind 0 = .ok (.iload_n 0, 1) := by decide +kernel
theorem dX8_isKind_1 : decode cX8_isKind 1 = .ok (.iconst 0, 1) := by decide +kernel
theorem dX8_isKind_2 : decode cX8_isKind 2 = .ok (.iconst 2, 1) := by decide +kernel
theorem dX8_isKind_3 : decode cX8_isKind 3 = .ok (.invokestatic 32, 3) := by decide +kernel
theorem dX8_isKind_6 : decode cX8_isKind 6 = .ok (.ireturn, 1) := by decide +kernel
theorem dX8_stock_0 : decode cX8_stock 0 = .ok (.aload_n 0, 1) := by decide +kernel
theorem dX8_stock_1 : decode cX8_stock 1 = .ok (.aload_n 0, 1) := by decide +kernel
theorem dX8_stock_2 : decode cX8_stock 2 = .ok (.iload_n 1, 1) := by decide +kernel
theorem dX8_stock_3 : decode cX8_stock 3 = .ok (.invokevirtual 69, 3) := by decide +kernel
theorem dX8_stock_6 : decode cX8_stock 6 = .ok (.ifCond .ne 7, 3) := by decide +kernel
theorem dX8_stock_9 : decode cX8_stock 9 = .ok (.iconst 1, 1) := by decide +kernel
theorem dX8_stock_10 : decode cX8_stock 10 = .ok (.goto 26, 3) := by decide +kernel
theorem dX8_stock_13 : decode cX8_stock 13 = .ok (.iload_n 2, 1) := by decide +kernel
theorem dX8_stock_14 : decode cX8_stock 14 = .ok (.invokestatic 72, 3) := by decide +kernel
theorem dX8_stock_17 : decode cX8_stock 17 = .ok (.ifCond .eq 14, 3) := by decide +kernel
theorem dX8_stock_20 : decode cX8_stock 20 = .ok (.iload_n 3, 1) := by decide +kernel
theorem dX8_stock_21 : decode cX8_stock 21 = .ok (.iconst 1, 1) := by decide +kernel
theorem dX8_stock_22 : decode cX8_stock 22 = .ok (.sipush 500, 3) := by decide +kernel
theorem dX8_stock_25 : decode cX8_stock 25 = .ok (.invokestatic 32, 3) := by decide +kernel
theorem dX8_stock_28 : decode cX8_stock 28 = .ok (.ifCond .ne 7, 3) := by decide +kernel
theorem dX8_stock_31 : decode cX8_stock 31 = .ok (.iconst 2, 1) := by decide +kernel
theorem dX8_stock_32 : decode cX8_stock 32 = .ok (.goto 4, 3) := by decide +kernel
theorem dX8_stock_35 : decode cX8_stock 35 = .ok (.iconst 0, 1) := by decide +kernel
theorem dX8_stock_36 : decode cX8_stock 36 = .ok (.putfield 25, 3) := by decide +kernel
theorem dX8_stock_39 : decode cX8_stock 39 = .ok (.aload_n 0, 1) := by decide +kernel
theorem dX8_stock_40 : decode cX8_stock 40 = .ok (.getfield 25, 3) := by decide +kernel
theorem dX8_stock_43 : decode cX8_stock 43 = .ok (.ifCond .ne 33, 3) := by decide +kernel
theorem dX8_stock_46 : decode cX8_stock 46 = .ok (.aload_n 0, 1) := by decide +kernel
theorem dX8_stock_47 : decode cX8_stock 47 = .ok (.aload_n 0, 1) := by decide +kernel
theorem dX8_stock_48 : decode cX8_stock 48 = .ok (.getfield 7, 3) := by decide +kernel
theorem dX8_stock_51 : decode cX8_stock 51 = .ok (.bipush 36, 2) := by decide +kernel
theorem dX8_stock_53 : decode cX8_stock 53 = .ok (.iconst 3, 1) := by decide +kernel
theorem dX8_stock_54 : decode cX8_stock 54 = .ok (.iload_n 1, 1) := by decide +kernel
theorem dX8_stock_55 : decode cX8_stock 55 = .ok (.imul, 1) := by decide +kernel
theorem dX8_stock_56 : decode cX8_stock 56 = .ok (.iadd, 1) := by decide +kernel
theorem dX8_stock_57 : decode cX8_stock 57 = .ok (.iload_n 2, 1) := by decide +kernel
theorem dX8_stock_58 : decode cX8_stock 58 = .ok (.iadd, 1) := by decide +kernel
theorem dX8_stock_59 : decode cX8_stock 59 = .ok (.iaload, 1) := by decide +kernel
theorem dX8_stock_60 : decode cX8_stock 60 = .ok (.iload_n 3, 1) := by decide +kernel
theorem dX8_stock_61 : decode cX8_stock 61 = .ok (.iadd, 1) := by decide +kernel
theorem dX8_stock_62 : decode cX8_stock 62 = .ok (.sipush 999, 3) := by decide +kernel
theorem dX8_stock_65 : decode cX8_stock 65 = .ok (.if_icmp .le 7, 3) := by decide +kernel
theorem dX8_stock_68 : decode cX8_stock 68 = .ok (.iconst 3, 1) := by decide +kernel
theorem dX8_stock_69 : decode cX8_stock 69 = .ok (.goto 4, 3) := by decide +kernel
theorem dX8_stock_72 : decode cX8_stock 72 = .ok (.iconst 0, 1) := by decide +kernel
theorem dX8_stock_73 : decode cX8_stock 73 = .ok (.putfield 25, 3) := by decide +kernel
theorem dX8_stock_76 : decode cX8_stock 76 = .ok (.aload_n 0, 1) := by decide +kernel
theorem dX8_stock_77 : decode cX8_stock 77 = .ok (.getfield 25, 3) := by decide +kernel
theorem dX8_stock_80 : decode cX8_stock 80 = .ok (.ifCond .le 5, 3) := by decide +kernel
theorem dX8_stock_83 : decode cX8_stock 83 = .ok (.iconst 0, 1) := by decide +kernel
theorem dX8_stock_84 : decode cX8_stock 84 = .ok (.ireturn, 1) := by decide +kernel
theorem dX8_stock_85 : decode cX8_stock 85 = .ok (.aload_n 0, 1) := by decide +kernel
theorem dX8_stock_86 : decode cX8_stock 86 = .ok (.invokevirtual 56, 3) := by decide +kernel
theorem dX8_stock_89 : decode cX8_stock 89 = .ok (.aload_n 0, 1) := by decide +kernel
theorem dX8_stock_90 : decode cX8_stock 90 = .ok (.getfield 7, 3) := by decide +kernel
theorem dX8_stock_93 : decode cX8_stock 93 = .ok (.bipush 36, 2) := by decide +kernel
theorem dX8_stock_95 : decode cX8_stock 95 = .ok (.iconst 3, 1) := by decide +kernel
theorem dX8_stock_96 : decode cX8_stock 96 = .ok (.iload_n 1, 1) := by decide +kernel
theorem dX8_stock_97 : decode cX8_stock 97 = .ok (.imul, 1) := by decide +kernel
theorem dX8_stock_98 : decode cX8_stock 98 = .ok (.iadd, 1) := by decide +kernel
theorem dX8_stock_99 : decode cX8_stock 99 = .ok (.iload_n 2, 1) := by decide +kernel
theorem dX8_stock_100 : decode cX8_stock 100 = .ok (.iadd, 1) := by decide +kernel
theorem dX8_stock_101 : decode cX8_stock 101 = .ok (.dup2, 1) := by decide +kernel
theorem dX8_stock_102 : decode cX8_stock 102 = .ok (.iaload, 1) := by decide +kernel
theorem dX8_stock_103 : decode cX8_stock 103 = .ok (.iload_n 3, 1) := by decide +kernel
theorem dX8_stock_104 : decode cX8_stock 104 = .ok (.iadd, 1) := by decide +kernel
theorem dX8_stock_105 : decode cX8_stock 105 = .ok (.iastore, 1) := by decide +kernel
theorem dX8_stock_106 : decode cX8_stock 106 = .ok (.aload_n 0, 1) := by decide +kernel
theorem dX8_stock_107 : decode cX8_stock 107 = .ok (.getfield 7, 3) := by decide +kernel
theorem dX8_stock_110 : decode cX8_stock 110 = .ok (.bipush 36, 2) := by decide +kernel
theorem dX8_stock_112 : decode cX8_stock 112 = .ok (.iconst 3, 1) := by decide +kernel
theorem dX8_stock_113 : decode cX8_stock 113 = .ok (.iload_n 1, 1) := by decide +kernel
theorem dX8_stock_114 : decode cX8_stock 114 = .ok (.imul, 1) := by decide +kernel
theorem dX8_stock_115 : decode cX8_stock 115 = .ok (.iadd, 1) := by decide +kernel
theorem dX8_stock_116 : decode cX8_stock 116 = .ok (.iload_n 2, 1) := by decide +kernel
theorem dX8_stock_117 : decode cX8_stock 117 = .ok (.iadd, 1) := by decide +kernel
theorem dX8_stock_118 : decode cX8_stock 118 = .ok (.iaload, 1) := by decide +kernel
theorem dX8_stock_119 : decode cX8_stock 119 = .ok (.ireturn, 1) := by decide +kernel
theorem dX8_needs_0 : decode cX8_needs 0 = .ok (.iload_n 0, 1) := by decide +kernel
theorem dX8_needs_1 : decode cX8_needs 1 = .ok (.lookupswitch 49 #[(0, 27), (1, 38)], 27) := by decide +kernel
theorem dX8_needs_28 : decode cX8_needs 28 = .ok (.iload_n 1, 1) := by decide +kernel
theorem dX8_needs_29 : decode cX8_needs 29 = .ok (.iconst 2, 1) := by decide +kernel
theorem dX8_needs_30 : decode cX8_needs 30 = .ok (.if_icmp .ge 7, 3) := by decide +kernel
theorem dX8_needs_33 : decode cX8_needs 33 = .ok (.iconst 1, 1) := by decide +kernel
theorem dX8_needs_34 : decode cX8_needs 34 = .ok (.goto 4, 3) := by decide +kernel
theorem dX8_needs_37 : decode cX8_needs 37 = .ok (.iconst 0, 1) := by decide +kernel
theorem dX8_needs_38 : decode cX8_needs 38 = .ok (.ireturn, 1) := by decide +kernel
theorem dX8_needs_39 : decode cX8_needs 39 = .ok (.iload_n 1, 1) := by decide +kernel
theorem dX8_needs_40 : decode cX8_needs 40 = .ok (.iconst 1, 1) := by decide +kernel
theorem dX8_needs_41 : decode cX8_needs 41 = .ok (.if_icmp .ne 7, 3) := by decide +kernel
theorem dX8_needs_44 : decode cX8_needs 44 = .ok (.iconst 0, 1) := by decide +kernel
theorem dX8_needs_45 : decode cX8_needs 45 = .ok (.goto 4, 3) := by decide +kernel
theorem dX8_needs_48 : decode cX8_needs 48 = .ok (.iconst 1, 1) := by decide +kernel
theorem dX8_needs_49 : decode cX8_needs 49 = .ok (.ireturn, 1) := by decide +kernel
theorem dX8_needs_50 : decode cX8_needs 50 = .ok (.iload_n 1, 1) := by decide +kernel
theorem dX8_needs_51 : decode cX8_needs 51 = .ok (.iconst 1, 1) := by decide +kernel
theorem dX8_needs_52 : decode cX8_needs 52 = .ok (.if_icmp .ne 7, 3) := by decide +kernel
theorem dX8_needs_55 : decode cX8_needs 55 = .ok (.iconst 2, 1) := by decide +kernel
theorem dX8_needs_56 : decode cX8_needs 56 = .ok (.goto 4, 3) := by decide +kernel
theorem dX8_needs_59 : decode cX8_needs 59 = .ok (.iconst 0, 1) := by decide +kernel
theorem dX8_needs_60 : decode cX8_needs 60 = .ok (.ireturn, 1) := by decide +kernel
theorem dX8_enoughFor_0 : decode cX8_enoughFor 0 = .ok (.sipush 300, 3) := by decide +kernel
theorem dX8_enoughFor_3 : decode cX8_enoughFor 3 = .ok (.istore_n 3, 1) := by decide +kernel
theorem dX8_enoughFor_4 : decode cX8_enoughFor 4 = .ok (.iconst 0, 1) := by decide +kernel
theorem dX8_enoughFor_5 : decode cX8_enoughFor 5 = .ok (.istore 4, 2) := by decide +kernel
theorem dX8_enoughFor_7 : decode cX8_enoughFor 7 = .ok (.iload 4, 2) := by decide +kernel
theorem dX8_enoughFor_9 : decode cX8_enoughFor 9 = .ok (.iconst 3, 1) := by decide +kernel
theorem dX8_enoughFor_10 : decode cX8_enoughFor 10 = .ok (.if_icmp .ge 58, 3) := by decide +kernel
theorem dX8_enoughFor_13 : decode cX8_enoughFor 13 = .ok (.iload_n 2, 1) := by decide +kernel
theorem dX8_enoughFor_14 : decode cX8_enoughFor 14 = .ok (.iload 4, 2) := by decide +kernel
theorem dX8_enoughFor_16 : decode cX8_enoughFor 16 = .ok (.invokestatic 75, 3) := by decide +kernel
theorem dX8_enoughFor_19 : decode cX8_enoughFor 19 = .ok (.istore 5, 2) := by decide +kernel
theorem dX8_enoughFor_21 : decode cX8_enoughFor 21 = .ok (.iload 5, 2) := by decide +kernel
theorem dX8_enoughFor_23 : decode cX8_enoughFor 23 = .ok (.ifCond .ne 7, 3) := by decide +kernel
theorem dX8_enoughFor_26 : decode cX8_enoughFor 26 = .ok (.iload_n 3, 1) := by decide +kernel
theorem dX8_enoughFor_27 : decode cX8_enoughFor 27 = .ok (.goto 20, 3) := by decide +kernel
theorem dX8_enoughFor_30 : decode cX8_enoughFor 30 = .ok (.aload_n 0, 1) := by decide +kernel
theorem dX8_enoughFor_31 : decode cX8_enoughFor 31 = .ok (.getfield 7, 3) := by decide +kernel
theorem dX8_enoughFor_34 : decode cX8_enoughFor 34 = .ok (.bipush 36, 2) := by decide +kernel
theorem dX8_enoughFor_36 : decode cX8_enoughFor 36 = .ok (.iconst 3, 1) := by decide +kernel
theorem dX8_enoughFor_37 : decode cX8_enoughFor 37 = .ok (.iload_n 1, 1) := by decide +kernel
theorem dX8_enoughFor_38 : decode cX8_enoughFor 38 = .ok (.imul, 1) := by decide +kernel
theorem dX8_enoughFor_39 : decode cX8_enoughFor 39 = .ok (.iadd, 1) := by decide +kernel
theorem dX8_enoughFor_40 : decode cX8_enoughFor 40 = .ok (.iload 4, 2) := by decide +kernel
theorem dX8_enoughFor_42 : decode cX8_enoughFor 42 = .ok (.iadd, 1) := by decide +kernel
theorem dX8_enoughFor_43 : decode cX8_enoughFor 43 = .ok (.iaload, 1) := by decide +kernel
theorem dX8_enoughFor_44 : decode cX8_enoughFor 44 = .ok (.iload 5, 2) := by decide +kernel
theorem dX8_enoughFor_46 : decode cX8_enoughFor 46 = .ok (.idiv, 1) := by decide +kernel
theorem dX8_enoughFor_47 : decode cX8_enoughFor 47 = .ok (.istore 6, 2) := by decide +kernel
theorem dX8_enoughFor_49 : decode cX8_enoughFor 49 = .ok (.iload 6, 2) := by decide +kernel
theorem dX8_enoughFor_51 : decode cX8_enoughFor 51 = .ok (.iload_n 3, 1) := by decide +kernel
theorem dX8_enoughFor_52 : decode cX8_enoughFor 52 = .ok (.if_icmp .ge 8, 3) := by decide +kernel
theorem dX8_enoughFor_55 : decode cX8_enoughFor 55 = .ok (.iload 6, 2) := by decide +kernel
theorem dX8_enoughFor_57 : decode cX8_enoughFor 57 = .ok (.goto 4, 3) := by decide +kernel
theorem dX8_enoughFor_60 : decode cX8_enoughFor 60 = .ok (.iload_n 3, 1) := by decide +kernel
theorem dX8_enoughFor_61 : decode cX8_enoughFor 61 = .ok (.istore_n 3, 1) := by decide +kernel
theorem dX8_enoughFor_62 : decode cX8_enoughFor 62 = .ok (.iinc 4 1, 3) := by decide +kernel
theorem dX8_enoughFor_65 : decode cX8_enoughFor 65 = .ok (.goto (-58), 3) := by decide +kernel
theorem dX8_enoughFor_68 : decode cX8_enoughFor 68 = .ok (.iload_n 3, 1) := by decide +kernel
theorem dX8_enoughFor_69 : decode cX8_enoughFor 69 = .ok (.ireturn, 1) := by decide +kernel
theorem dX8_cook_0 : decode cX8_cook 0 = .ok (.aload_n 0, 1) := by decide +kernel
theorem dX8_cook_1 : decode cX8_cook 1 = .ok (.aload_n 0, 1) := by decide +kernel
theorem dX8_cook_2 : decode cX8_cook 2 = .ok (.iload_n 1, 1) := by decide +kernel
theorem dX8_cook_3 : decode cX8_cook 3 = .ok (.invokevirtual 69, 3) := by decide +kernel
theorem dX8_cook_6 : decode cX8_cook 6 = .ok (.ifCond .ne 7, 3) := by decide +kernel
theorem dX8_cook_9 : decode cX8_cook 9 = .ok (.iconst 1, 1) := by decide +kernel
theorem dX8_cook_10 : decode cX8_cook 10 = .ok (.goto 26, 3) := by decide +kernel
theorem dX8_cook_13 : decode cX8_cook 13 = .ok (.iload_n 2, 1) := by decide +kernel
theorem dX8_cook_14 : decode cX8_cook 14 = .ok (.invokestatic 72, 3) := by decide +kernel
theorem dX8_cook_17 : decode cX8_cook 17 = .ok (.ifCond .eq 14, 3) := by decide +kernel
theorem dX8_cook_20 : decode cX8_cook 20 = .ok (.iload_n 3, 1) := by decide +kernel
theorem dX8_cook_21 : decode cX8_cook 21 = .ok (.iconst 1, 1) := by decide +kernel
theorem dX8_cook_22 : decode cX8_cook 22 = .ok (.sipush 300, 3) := by decide +kernel
theorem dX8_cook_25 : decode cX8_cook 25 = .ok (.invokestatic 32, 3) := by decide +kernel
theorem dX8_cook_28 : decode cX8_cook 28 = .ok (.ifCond .ne 7, 3) := by decide +kernel
theorem dX8_cook_31 : decode cX8_cook 31 = .ok (.iconst 2, 1) := by decide +kernel
theorem dX8_cook_32 : decode cX8_cook 32 = .ok (.goto 4, 3) := by decide +kernel
theorem dX8_cook_35 : decode cX8_cook 35 = .ok (.iconst 0, 1) := by decide +kernel
theorem dX8_cook_36 : decode cX8_cook 36 = .ok (.putfield 25, 3) := by decide +kernel
theorem dX8_cook_39 : decode cX8_cook 39 = .ok (.aload_n 0, 1) := by decide +kernel
theorem dX8_cook_40 : decode cX8_cook 40 = .ok (.getfield 25, 3) := by decide +kernel
theorem dX8_cook_43 : decode cX8_cook 43 = .ok (.ifCond .ne 34, 3) := by decide +kernel
theorem dX8_cook_46 : decode cX8_cook 46 = .ok (.aload_n 0, 1) := by decide +kernel
theorem dX8_cook_47 : decode cX8_cook 47 = .ok (.aload_n 0, 1) := by decide +kernel
theorem dX8_cook_48 : decode cX8_cook 48 = .ok (.getfield 7, 3) := by decide +kernel
theorem dX8_cook_51 : decode cX8_cook 51 = .ok (.bipush 48, 2) := by decide +kernel
theorem dX8_cook_53 : decode cX8_cook 53 = .ok (.iload_n 1, 1) := by decide +kernel
theorem dX8_cook_54 : decode cX8_cook 54 = .ok (.iadd, 1) := by decide +kernel
theorem dX8_cook_55 : decode cX8_cook 55 = .ok (.iaload, 1) := by decide +kernel
theorem dX8_cook_56 : decode cX8_cook 56 = .ok (.ifCond .gt 13, 3) := by decide +kernel
theorem dX8_cook_59 : decode cX8_cook 59 = .ok (.aload_n 0, 1) := by decide +kernel
theorem dX8_cook_60 : decode cX8_cook 60 = .ok (.iload_n 1, 1) := by decide +kernel
theorem dX8_cook_61 : decode cX8_cook 61 = .ok (.iload_n 2, 1) := by decide +kernel
theorem dX8_cook_62 : decode cX8_cook 62 = .ok (.invokevirtual 78, 3) := by decide +kernel
theorem dX8_cook_65 : decode cX8_cook 65 = .ok (.iload_n 3, 1) := by decide +kernel
theorem dX8_cook_66 : decode cX8_cook 66 = .ok (.if_icmp .ge 7, 3) := by decide +kernel
theorem dX8_cook_69 : decode cX8_cook 69 = .ok (.iconst 3, 1) := by decide +kernel
theorem dX8_cook_70 : decode cX8_cook 70 = .ok (.goto 4, 3) := by decide +kernel
theorem dX8_cook_73 : decode cX8_cook 73 = .ok (.iconst 0, 1) := by decide +kernel
theorem dX8_cook_74 : decode cX8_cook 74 = .ok (.putfield 25, 3) := by decide +kernel
theorem dX8_cook_77 : decode cX8_cook 77 = .ok (.aload_n 0, 1) := by decide +kernel
theorem dX8_cook_78 : decode cX8_cook 78 = .ok (.getfield 25, 3) := by decide +kernel
theorem dX8_cook_81 : decode cX8_cook 81 = .ok (.ifCond .le 5, 3) := by decide +kernel
theorem dX8_cook_84 : decode cX8_cook 84 = .ok (.iconst 0, 1) := by decide +kernel
theorem dX8_cook_85 : decode cX8_cook 85 = .ok (.ireturn, 1) := by decide +kernel
theorem dX8_cook_86 : decode cX8_cook 86 = .ok (.aload_n 0, 1) := by decide +kernel
theorem dX8_cook_87 : decode cX8_cook 87 = .ok (.invokevirtual 56, 3) := by decide +kernel
theorem dX8_cook_90 : decode cX8_cook 90 = .ok (.iconst 0, 1) := by decide +kernel
theorem dX8_cook_91 : decode cX8_cook 91 = .ok (.istore 4, 2) := by decide +kernel
theorem dX8_cook_93 : decode cX8_cook 93 = .ok (.iload 4, 2) := by decide +kernel
theorem dX8_cook_95 : decode cX8_cook 95 = .ok (.iconst 3, 1) := by decide +kernel
theorem dX8_cook_96 : decode cX8_cook 96 = .ok (.if_icmp .ge 34, 3) := by decide +kernel
theorem dX8_cook_99 : decode cX8_cook 99 = .ok (.aload_n 0, 1) := by decide +kernel
theorem dX8_cook_100 : decode cX8_cook 100 = .ok (.getfield 7, 3) := by decide +kernel
theorem dX8_cook_103 : decode cX8_cook 103 = .ok (.bipush 36, 2) := by decide +kernel
theorem dX8_cook_105 : decode cX8_cook 105 = .ok (.iconst 3, 1) := by decide +kernel
theorem dX8_cook_106 : decode cX8_cook 106 = .ok (.iload_n 1, 1) := by decide +kernel
theorem dX8_cook_107 : decode cX8_cook 107 = .ok (.imul, 1) := by decide +kernel
theorem dX8_cook_108 : decode cX8_cook 108 = .ok (.iadd, 1) := by decide +kernel
theorem dX8_cook_109 : decode cX8_cook 109 = .ok (.iload 4, 2) := by decide +kernel
theorem dX8_cook_111 : decode cX8_cook 111 = .ok (.iadd, 1) := by decide +kernel
theorem dX8_cook_112 : decode cX8_cook 112 = .ok (.dup2, 1) := by decide +kernel
theorem dX8_cook_113 : decode cX8_cook 113 = .ok (.iaload, 1) := by decide +kernel
theorem dX8_cook_114 : decode cX8_cook 114 = .ok (.iload_n 3, 1) := by decide +kernel
theorem dX8_cook_115 : decode cX8_cook 115 = .ok (.iload_n 2, 1) := by decide +kernel
theorem dX8_cook_116 : decode cX8_cook 116 = .ok (.iload 4, 2) := by decide +kernel
theorem dX8_cook_118 : decode cX8_cook 118 = .ok (.invokestatic 75, 3) := by decide +kernel
theorem dX8_cook_121 : decode cX8_cook 121 = .ok (.imul, 1) := by decide +kernel
theorem dX8_cook_122 : decode cX8_cook 122 = .ok (.isub, 1) := by decide +kernel
theorem dX8_cook_123 : decode cX8_cook 123 = .ok (.iastore, 1) := by decide +kernel
theorem dX8_cook_124 : decode cX8_cook 124 = .ok (.iinc 4 1, 3) := by decide +kernel
theorem dX8_cook_127 : decode cX8_cook 127 = .ok (.goto (-34), 3) := by decide +kernel
theorem dX8_cook_130 : decode cX8_cook 130 = .ok (.aload_n 0, 1) := by decide +kernel
theorem dX8_cook_131 : decode cX8_cook 131 = .ok (.getfield 7, 3) := by decide +kernel
theorem dX8_cook_134 : decode cX8_cook 134 = .ok (.bipush 45, 2) := by decide +kernel
theorem dX8_cook_136 : decode cX8_cook 136 = .ok (.iload_n 1, 1) := by decide +kernel
theorem dX8_cook_137 : decode cX8_cook 137 = .ok (.iadd, 1) := by decide +kernel
theorem dX8_cook_138 : decode cX8_cook 138 = .ok (.iload_n 2, 1) := by decide +kernel
theorem dX8_cook_139 : decode cX8_cook 139 = .ok (.iastore, 1) := by decide +kernel
theorem dX8_cook_140 : decode cX8_cook 140 = .ok (.aload_n 0, 1) := by decide +kernel
theorem dX8_cook_141 : decode cX8_cook 141 = .ok (.getfield 7, 3) := by decide +kernel
theorem dX8_cook_144 : decode cX8_cook 144 = .ok (.bipush 48, 2) := by decide +kernel
theorem dX8_cook_146 : decode cX8_cook 146 = .ok (.iload_n 1, 1) := by decide +kernel
theorem dX8_cook_147 : decode cX8_cook 147 = .ok (.iadd, 1) := by decide +kernel
theorem dX8_cook_148 : decode cX8_cook 148 = .ok (.iload_n 3, 1) := by decide +kernel
theorem dX8_cook_149 : decode cX8_cook 149 = .ok (.iastore, 1) := by decide +kernel
theorem dX8_cook_150 : decode cX8_cook 150 = .ok (.iload_n 3, 1) := by decide +kernel
theorem dX8_cook_151 : decode cX8_cook 151 = .ok (.aload_n 0, 1) := by decide +kernel
theorem dX8_cook_152 : decode cX8_cook 152 = .ok (.getfield 7, 3) := by decide +kernel
theorem dX8_cook_155 : decode cX8_cook 155 = .ok (.iconst 4, 1) := by decide +kernel
theorem dX8_cook_156 : decode cX8_cook 156 = .ok (.iaload, 1) := by decide +kernel
theorem dX8_cook_157 : decode cX8_cook 157 = .ok (.iadd, 1) := by decide +kernel
theorem dX8_cook_158 : decode cX8_cook 158 = .ok (.iconst 1, 1) := by decide +kernel
theorem dX8_cook_159 : decode cX8_cook 159 = .ok (.isub, 1) := by decide +kernel
theorem dX8_cook_160 : decode cX8_cook 160 = .ok (.aload_n 0, 1) := by decide +kernel
theorem dX8_cook_161 : decode cX8_cook 161 = .ok (.getfield 7, 3) := by decide +kernel
theorem dX8_cook_164 : decode cX8_cook 164 = .ok (.iconst 4, 1) := by decide +kernel
theorem dX8_cook_165 : decode cX8_cook 165 = .ok (.iaload, 1) := by decide +kernel
theorem dX8_cook_166 : decode cX8_cook 166 = .ok (.idiv, 1) := by decide +kernel

theorem dX0_init_0 : decode cX0_init 0 = .ok (.aload_n 0, 1) := by decide +kernel
theorem dX0_init_1 : decode cX0_init 1 = .ok (.invokespecial 3, 3) := by decide +kernel
theorem dX0_init_4 : decode cX0_init 4 = .ok (.aload_n 0, 1) := by decide +kernel
theorem dX0_init_5 : decode cX0_init 5 = .ok (.getstatic 9, 3) := by decide +kernel
theorem dX0_init_8 : decode cX0_init 8 = .ok (.invokevirtual 13, 3) := by decide +kernel
theorem dX0_init_11 : decode cX0_init 11 = .ok (.checkcast 14, 3) := by decide +kernel
theorem dX0_init_14 : decode cX0_init 14 = .ok (.putfield 18, 3) := by decide +kernel
theorem dX0_init_17 : decode cX0_init 17 = .ok (.aload_n 0, 1) := by decide +kernel
theorem dX0_init_18 : decode cX0_init 18 = .ok (.bipush 8, 2) := by decide +kernel
theorem dX0_init_20 : decode cX0_init 20 = .ok (.newarray .int, 2) := by decide +kernel
theorem dX0_init_22 : decode cX0_init 22 = .ok (.putfield 23, 3) := by decide +kernel
theorem dX0_init_25 : decode cX0_init 25 = .ok (.aload_n 0, 1) := by decide +kernel
theorem dX0_init_26 : decode cX0_init 26 = .ok (.bipush 8, 2) := by decide +kernel
theorem dX0_init_28 : decode cX0_init 28 = .ok (.newarray .int, 2) := by decide +kernel
theorem dX0_init_30 : decode cX0_init 30 = .ok (.putfield 26, 3) := by decide +kernel
theorem dX0_init_33 : decode cX0_init 33 = .ok (.aload_n 0, 1) := by decide +kernel
theorem dX0_init_34 : decode cX0_init 34 = .ok (.iconst 3, 1) := by decide +kernel
theorem dX0_init_35 : decode cX0_init 35 = .ok (.anewarray 29, 3) := by decide +kernel
theorem dX0_init_38 : decode cX0_init 38 = .ok (.putfield 31, 3) := by decide +kernel
theorem dX0_init_41 : decode cX0_init 41 = .ok (.aload_n 0, 1) := by decide +kernel
theorem dX0_init_42 : decode cX0_init 42 = .ok (.iconst 4, 1) := by decide +kernel
theorem dX0_init_43 : decode cX0_init 43 = .ok (.anewarray 35, 3) := by decide +kernel
theorem dX0_init_46 : decode cX0_init 46 = .ok (.putfield 37, 3) := by decide +kernel
theorem dX0_init_49 : decode cX0_init 49 = .ok (.aload_n 0, 1) := by decide +kernel
theorem dX0_init_50 : decode cX0_init 50 = .ok (.bipush 12, 2) := by decide +kernel
theorem dX0_init_52 : decode cX0_init 52 = .ok (.anewarray 41, 3) := by decide +kernel
theorem dX0_init_55 : decode cX0_init 55 = .ok (.putfield 43, 3) := by decide +kernel
theorem dX0_init_58 : decode cX0_init 58 = .ok (.iconst 0, 1) := by decide +kernel
theorem dX0_init_59 : decode cX0_init 59 = .ok (.istore_n 1, 1) := by decide +kernel
theorem dX0_init_60 : decode cX0_init 60 = .ok (.iload_n 1, 1) := by decide +kernel
theorem dX0_init_61 : decode cX0_init 61 = .ok (.iconst 3, 1) := by decide +kernel
theorem dX0_init_62 : decode cX0_init 62 = .ok (.if_icmp .ge 22, 3) := by decide +kernel
theorem dX0_init_65 : decode cX0_init 65 = .ok (.aload_n 0, 1) := by decide +kernel
theorem dX0_init_66 : decode cX0_init 66 = .ok (.getfield 31, 3) := by decide +kernel
theorem dX0_init_69 : decode cX0_init 69 = .ok (.iload_n 1, 1) := by decide +kernel
theorem dX0_init_70 : decode cX0_init 70 = .ok (.new 29, 3) := by decide +kernel
theorem dX0_init_73 : decode cX0_init 73 = .ok (.dup, 1) := by decide +kernel
theorem dX0_init_74 : decode cX0_init 74 = .ok (.invokespecial 47, 3) := by decide +kernel
theorem dX0_init_77 : decode cX0_init 77 = .ok (.aastore, 1) := by decide +kernel
theorem dX0_init_78 : decode cX0_init 78 = .ok (.iinc 1 1, 3) := by decide +kernel
theorem dX0_init_81 : decode cX0_init 81 = .ok (.goto (-21), 3) := by decide +kernel
theorem dX0_init_84 : decode cX0_init 84 = .ok (.iconst 0, 1) := by decide +kernel
theorem dX0_init_85 : decode cX0_init 85 = .ok (.istore_n 1, 1) := by decide +kernel
theorem dX0_init_86 : decode cX0_init 86 = .ok (.iload_n 1, 1) := by decide +kernel
theorem dX0_init_87 : decode cX0_init 87 = .ok (.iconst 4, 1) := by decide +kernel
theorem dX0_init_88 : decode cX0_init 88 = .ok (.if_icmp .ge 22, 3) := by decide +kernel
theorem dX0_init_91 : decode cX0_init 91 = .ok (.aload_n 0, 1) := by decide +kernel
theorem dX0_init_92 : decode cX0_init 92 = .ok (.getfield 37, 3) := by decide +kernel
theorem dX0_init_95 : decode cX0_init 95 = .ok (.iload_n 1, 1) := by decide +kernel
theorem dX0_init_96 : decode cX0_init 96 = .ok (.new 35, 3) := by decide +kernel
theorem dX0_init_99 : decode cX0_init 99 = .ok (.dup, 1) := by decide +kernel
theorem dX0_init_100 : decode cX0_init 100 = .ok (.invokespecial 48, 3) := by decide +kernel
theorem dX0_init_103 : decode cX0_init 103 = .ok (.aastore, 1) := by decide +kernel
theorem dX0_init_104 : decode cX0_init 104 = .ok (.iinc 1 1, 3) := by decide +kernel
theorem dX0_init_107 : decode cX0_init 107 = .ok (.goto (-21), 3) := by decide +kernel
theorem dX0_init_110 : decode cX0_init 110 = .ok (.iconst 0, 1) := by decide +kernel
theorem dX0_init_111 : decode cX0_init 111 = .ok (.istore_n 1, 1) := by decide +kernel
theorem dX0_init_112 : decode cX0_init 112 = .ok (.iload_n 1, 1) := by decide +kernel
theorem dX0_init_113 : decode cX0_init 113 = .ok (.bipush 12, 2) := by decide +kernel
theorem dX0_init_115 : decode cX0_init 115 = .ok (.if_icmp .ge 22, 3) := by decide +kernel
theorem dX0_init_118 : decode cX0_init 118 = .ok (.aload_n 0, 1) := by decide +kernel
theorem dX0_init_119 : decode cX0_init 119 = .ok (.getfield 43, 3) := by decide +kernel
theorem dX0_init_122 : decode cX0_init 122 = .ok (.iload_n 1, 1) := by decide +kernel
theorem dX0_init_123 : decode cX0_init 123 = .ok (.new 41, 3) := by decide +kernel
theorem dX0_init_126 : decode cX0_init 126 = .ok (.dup, 1) := by decide +kernel
theorem dX0_init_127 : decode cX0_init 127 = .ok (.invokespecial 49, 3) := by decide +kernel
theorem dX0_init_130 : decode cX0_init 130 = .ok (.aastore, 1) := by decide +kernel
theorem dX0_init_131 : decode cX0_init 131 = .ok (.iinc 1 1, 3) := by decide +kernel
theorem dX0_init_134 : decode cX0_init 134 = .ok (.goto (-22), 3) := by decide +kernel
theorem dX0_init_137 : decode cX0_init 137 = .ok (.return_, 1) := by decide +kernel
theorem dX0_copyFrom_0 : decode cX0_copyFrom 0 = .ok (.aload_n 0, 1) := by decide +kernel
theorem dX0_copyFrom_1 : decode cX0_copyFrom 1 = .ok (.aload_n 1, 1) := by decide +kernel
theorem dX0_copyFrom_2 : decode cX0_copyFrom 2 = .ok (.getfield 50, 3) := by decide +kernel
theorem dX0_copyFrom_5 : decode cX0_copyFrom 5 = .ok (.putfield 50, 3) := by decide +kernel
theorem dX0_copyFrom_8 : decode cX0_copyFrom 8 = .ok (.aload_n 0, 1) := by decide +kernel
theorem dX0_copyFrom_9 : decode cX0_copyFrom 9 = .ok (.aload_n 1, 1) := by decide +kernel
theorem dX0_copyFrom_10 : decode cX0_copyFrom 10 = .ok (.getfield 54, 3) := by decide +kernel
theorem dX0_copyFrom_13 : decode cX0_copyFrom 13 = .ok (.putfield 54, 3) := by decide +kernel
theorem dX0_copyFrom_16 : decode cX0_copyFrom 16 = .ok (.aload_n 0, 1) := by decide +kernel
theorem dX0_copyFrom_17 : decode cX0_copyFrom 17 = .ok (.aload_n 1, 1) := by decide +kernel
theorem dX0_copyFrom_18 : decode cX0_copyFrom 18 = .ok (.getfield 57, 3) := by decide +kernel
theorem dX0_copyFrom_21 : decode cX0_copyFrom 21 = .ok (.putfield 57, 3) := by decide +kernel
theorem dX0_copyFrom_24 : decode cX0_copyFrom 24 = .ok (.aload_n 0, 1) := by decide +kernel
theorem dX0_copyFrom_25 : decode cX0_copyFrom 25 = .ok (.aload_n 1, 1) := by decide +kernel
theorem dX0_copyFrom_26 : decode cX0_copyFrom 26 = .ok (.getfield 60, 3) := by decide +kernel
theorem dX0_copyFrom_29 : decode cX0_copyFrom 29 = .ok (.putfield 60, 3) := by decide +kernel
theorem dX0_copyFrom_32 : decode cX0_copyFrom 32 = .ok (.aload_n 0, 1) := by decide +kernel
theorem dX0_copyFrom_33 : decode cX0_copyFrom 33 = .ok (.aload_n 1, 1) := by decide +kernel
theorem dX0_copyFrom_34 : decode cX0_copyFrom 34 = .ok (.getfield 63, 3) := by decide +kernel
theorem dX0_copyFrom_37 : decode cX0_copyFrom 37 = .ok (.putfield 63, 3) := by decide +kernel
theorem dX0_copyFrom_40 : decode cX0_copyFrom 40 = .ok (.aload_n 0, 1) := by decide +kernel
theorem dX0_copyFrom_41 : decode cX0_copyFrom 41 = .ok (.aload_n 1, 1) := by decide +kernel
theorem dX0_copyFrom_42 : decode cX0_copyFrom 42 = .ok (.getfield 66, 3) := by decide +kernel
theorem dX0_copyFrom_45 : decode cX0_copyFrom 45 = .ok (.putfield 66, 3) := by decide +kernel
theorem dX0_copyFrom_48 : decode cX0_copyFrom 48 = .ok (.aload_n 1, 1) := by decide +kernel
theorem dX0_copyFrom_49 : decode cX0_copyFrom 49 = .ok (.getfield 18, 3) := by decide +kernel
theorem dX0_copyFrom_52 : decode cX0_copyFrom 52 = .ok (.iconst 0, 1) := by decide +kernel
theorem dX0_copyFrom_53 : decode cX0_copyFrom 53 = .ok (.aload_n 0, 1) := by decide +kernel
theorem dX0_copyFrom_54 : decode cX0_copyFrom 54 = .ok (.getfield 18, 3) := by decide +kernel
theorem dX0_copyFrom_57 : decode cX0_copyFrom 57 = .ok (.iconst 0, 1) := by decide +kernel
theorem dX0_copyFrom_58 : decode cX0_copyFrom 58 = .ok (.bipush 6, 2) := by decide +kernel
theorem dX0_copyFrom_60 : decode cX0_copyFrom 60 = .ok (.invokestatic 69, 3) := by decide +kernel
theorem dX0_copyFrom_63 : decode cX0_copyFrom 63 = .ok (.aload_n 1, 1) := by decide +kernel
theorem dX0_copyFrom_64 : decode cX0_copyFrom 64 = .ok (.getfield 23, 3) := by decide +kernel
theorem dX0_copyFrom_67 : decode cX0_copyFrom 67 = .ok (.iconst 0, 1) := by decide +kernel
theorem dX0_copyFrom_68 : decode cX0_copyFrom 68 = .ok (.aload_n 0, 1) := by decide +kernel
theorem dX0_copyFrom_69 : decode cX0_copyFrom 69 = .ok (.getfield 23, 3) := by decide +kernel
theorem dX0_copyFrom_72 : decode cX0_copyFrom 72 = .ok (.iconst 0, 1) := by decide +kernel
theorem dX0_copyFrom_73 : decode cX0_copyFrom 73 = .ok (.bipush 8, 2) := by decide +kernel
theorem dX0_copyFrom_75 : decode cX0_copyFrom 75 = .ok (.invokestatic 69, 3) := by decide +kernel
theorem dX0_copyFrom_78 : decode cX0_copyFrom 78 = .ok (.aload_n 1, 1) := by decide +kernel
theorem dX0_copyFrom_79 : decode cX0_copyFrom 79 = .ok (.getfield 26, 3) := by decide +kernel
theorem dX0_copyFrom_82 : decode cX0_copyFrom 82 = .ok (.iconst 0, 1) := by decide +kernel
theorem dX0_copyFrom_83 : decode cX0_copyFrom 83 = .ok (.aload_n 0, 1) := by decide +kernel
theorem dX0_copyFrom_84 : decode cX0_copyFrom 84 = .ok (.getfield 26, 3) := by decide +kernel
theorem dX0_copyFrom_87 : decode cX0_copyFrom 87 = .ok (.iconst 0, 1) := by decide +kernel
theorem dX0_copyFrom_88 : decode cX0_copyFrom 88 = .ok (.bipush 8, 2) := by decide +kernel
theorem dX0_copyFrom_90 : decode cX0_copyFrom 90 = .ok (.invokestatic 69, 3) := by decide +kernel
theorem dX0_copyFrom_93 : decode cX0_copyFrom 93 = .ok (.iconst 0, 1) := by decide +kernel
theorem dX0_copyFrom_94 : decode cX0_copyFrom 94 = .ok (.istore_n 2, 1) := by decide +kernel
theorem dX0_copyFrom_95 : decode cX0_copyFrom 95 = .ok (.iload_n 2, 1) := by decide +kernel
theorem dX0_copyFrom_96 : decode cX0_copyFrom 96 = .ok (.iconst 3, 1) := by decide +kernel
theorem dX0_copyFrom_97 : decode cX0_copyFrom 97 = .ok (.if_icmp .ge 24, 3) := by decide +kernel
theorem dX0_copyFrom_100 : decode cX0_copyFrom 100 = .ok (.aload_n 0, 1) := by decide +kernel
theorem dX0_copyFrom_101 : decode cX0_copyFrom 101 = .ok (.getfield 31, 3) := by decide +kernel
theorem dX0_copyFrom_104 : decode cX0_copyFrom 104 = .ok (.iload_n 2, 1) := by decide +kernel
theorem dX0_copyFrom_105 : decode cX0_copyFrom 105 = .ok (.aaload, 1) := by decide +kernel
theorem dX0_copyFrom_106 : decode cX0_copyFrom 106 = .ok (.aload_n 1, 1) := by decide +kernel
theorem dX0_copyFrom_107 : decode cX0_copyFrom 107 = .ok (.getfield 31, 3) := by decide +kernel
theorem dX0_copyFrom_110 : decode cX0_copyFrom 110 = .ok (.iload_n 2, 1) := by decide +kernel
theorem dX0_copyFrom_111 : decode cX0_copyFrom 111 = .ok (.aaload, 1) := by decide +kernel
theorem dX0_copyFrom_112 : decode cX0_copyFrom 112 = .ok (.invokevirtual 75, 3) := by decide +kernel
theorem dX0_copyFrom_115 : decode cX0_copyFrom 115 = .ok (.iinc 2 1, 3) := by decide +kernel
theorem dX0_copyFrom_118 : decode cX0_copyFrom 118 = .ok (.goto (-23), 3) := by decide +kernel
theorem dX0_copyFrom_121 : decode cX0_copyFrom 121 = .ok (.iconst 0, 1) := by decide +kernel
theorem dX0_copyFrom_122 : decode cX0_copyFrom 122 = .ok (.istore_n 2, 1) := by decide +kernel
theorem dX0_copyFrom_123 : decode cX0_copyFrom 123 = .ok (.iload_n 2, 1) := by decide +kernel
theorem dX0_copyFrom_124 : decode cX0_copyFrom 124 = .ok (.iconst 4, 1) := by decide +kernel
theorem dX0_copyFrom_125 : decode cX0_copyFrom 125 = .ok (.if_icmp .ge 24, 3) := by decide +kernel
theorem dX0_copyFrom_128 : decode cX0_copyFrom 128 = .ok (.aload_n 0, 1) := by decide +kernel
theorem dX0_copyFrom_129 : decode cX0_copyFrom 129 = .ok (.getfield 37, 3) := by decide +kernel
theorem dX0_copyFrom_132 : decode cX0_copyFrom 132 = .ok (.iload_n 2, 1) := by decide +kernel
theorem dX0_copyFrom_133 : decode cX0_copyFrom 133 = .ok (.aaload, 1) := by decide +kernel
theorem dX0_copyFrom_134 : decode cX0_copyFrom 134 = .ok (.aload_n 1, 1) := by decide +kernel
theorem dX0_copyFrom_135 : decode cX0_copyFrom 135 = .ok (.getfield 37, 3) := by decide +kernel
theorem dX0_copyFrom_138 : decode cX0_copyFrom 138 = .ok (.iload_n 2, 1) := by decide +kernel
theorem dX0_copyFrom_139 : decode cX0_copyFrom 139 = .ok (.aaload, 1) := by decide +kernel
theorem dX0_copyFrom_140 : decode cX0_copyFrom 140 = .ok (.invokevirtual 79, 3) := by decide +kernel
theorem dX0_copyFrom_143 : decode cX0_copyFrom 143 = .ok (.iinc 2 1, 3) := by decide +kernel
theorem dX0_copyFrom_146 : decode cX0_copyFrom 146 = .ok (.goto (-23), 3) := by decide +kernel
theorem dX0_copyFrom_149 : decode cX0_copyFrom 149 = .ok (.iconst 0, 1) := by decide +kernel
theorem dX0_copyFrom_150 : decode cX0_copyFrom 150 = .ok (.istore_n 2, 1) := by decide +kernel
theorem dX0_copyFrom_151 : decode cX0_copyFrom 151 = .ok (.iload_n 2, 1) := by decide +kernel
theorem dX0_copyFrom_152 : decode cX0_copyFrom 152 = .ok (.bipush 12, 2) := by decide +kernel
theorem dX0_copyFrom_154 : decode cX0_copyFrom 154 = .ok (.if_icmp .ge 24, 3) := by decide +kernel
theorem dX0_copyFrom_157 : decode cX0_copyFrom 157 = .ok (.aload_n 0, 1) := by decide +kernel
theorem dX0_copyFrom_158 : decode cX0_copyFrom 158 = .ok (.getfield 43, 3) := by decide +kernel
theorem dX0_copyFrom_161 : decode cX0_copyFrom 161 = .ok (.iload_n 2, 1) := by decide +kernel
theorem dX0_copyFrom_162 : decode cX0_copyFrom 162 = .ok (.aaload, 1) := by decide +kernel
theorem dX0_copyFrom_163 : decode cX0_copyFrom 163 = .ok (.aload_n 1, 1) := by decide +kernel
theorem dX0_copyFrom_164 : decode cX0_copyFrom 164 = .ok (.getfield 43, 3) := by decide +kernel
theorem dX0_copyFrom_167 : decode cX0_copyFrom 167 = .ok (.iload_n 2, 1) := by decide +kernel
theorem dX0_copyFrom_168 : decode cX0_copyFrom 168 = .ok (.aaload, 1) := by decide +kernel
theorem dX0_copyFrom_169 : decode cX0_copyFrom 169 = .ok (.invokevirtual 82, 3) := by decide +kernel
theorem dX0_copyFrom_172 : decode cX0_copyFrom 172 = .ok (.iinc 2 1, 3) := by decide +kernel
theorem dX0_copyFrom_175 : decode cX0_copyFrom 175 = .ok (.goto (-24), 3) := by decide +kernel
theorem dX0_copyFrom_178 : decode cX0_copyFrom 178 = .ok (.return_, 1) := by decide +kernel
theorem dX0_newPlace_0 : decode cX0_newPlace 0 = .ok (.aload_n 0, 1) := by decide +kernel
theorem dX0_newPlace_1 : decode cX0_newPlace 1 = .ok (.getfield 57, 3) := by decide +kernel
theorem dX0_newPlace_4 : decode cX0_newPlace 4 = .ok (.bipush 8, 2) := by decide +kernel
theorem dX0_newPlace_6 : decode cX0_newPlace 6 = .ok (.if_icmp .lt 5, 3) := by decide +kernel
theorem dX0_newPlace_9 : decode cX0_newPlace 9 = .ok (.iconst (-1), 1) := by decide +kernel
theorem dX0_newPlace_10 : decode cX0_newPlace 10 = .ok (.ireturn, 1) := by decide +kernel
theorem dX0_newPlace_11 : decode cX0_newPlace 11 = .ok (.aload_n 0, 1) := by decide +kernel
theorem dX0_newPlace_12 : decode cX0_newPlace 12 = .ok (.getfield 23, 3) := by decide +kernel
theorem dX0_newPlace_15 : decode cX0_newPlace 15 = .ok (.aload_n 0, 1) := by decide +kernel
theorem dX0_newPlace_16 : decode cX0_newPlace 16 = .ok (.getfield 57, 3) := by decide +kernel
theorem dX0_newPlace_19 : decode cX0_newPlace 19 = .ok (.iload_n 1, 1) := by decide +kernel
theorem dX0_newPlace_20 : decode cX0_newPlace 20 = .ok (.iastore, 1) := by decide +kernel
theorem dX0_newPlace_21 : decode cX0_newPlace 21 = .ok (.aload_n 0, 1) := by decide +kernel
theorem dX0_newPlace_22 : decode cX0_newPlace 22 = .ok (.getfield 26, 3) := by decide +kernel
theorem dX0_newPlace_25 : decode cX0_newPlace 25 = .ok (.aload_n 0, 1) := by decide +kernel
theorem dX0_newPlace_26 : decode cX0_newPlace 26 = .ok (.getfield 57, 3) := by decide +kernel
theorem dX0_newPlace_29 : decode cX0_newPlace 29 = .ok (.iload_n 2, 1) := by decide +kernel
theorem dX0_newPlace_30 : decode cX0_newPlace 30 = .ok (.iastore, 1) := by decide +kernel
theorem dX0_newPlace_31 : decode cX0_newPlace 31 = .ok (.aload_n 0, 1) := by decide +kernel
theorem dX0_newPlace_32 : decode cX0_newPlace 32 = .ok (.dup, 1) := by decide +kernel
theorem dX0_newPlace_33 : decode cX0_newPlace 33 = .ok (.getfield 57, 3) := by decide +kernel
theorem dX0_newPlace_36 : decode cX0_newPlace 36 = .ok (.iconst 1, 1) := by decide +kernel
theorem dX0_newPlace_37 : decode cX0_newPlace 37 = .ok (.iadd, 1) := by decide +kernel
theorem dX0_newPlace_38 : decode cX0_newPlace 38 = .ok (.putfield 57, 3) := by decide +kernel
theorem dX0_newPlace_41 : decode cX0_newPlace 41 = .ok (.aload_n 0, 1) := by decide +kernel
theorem dX0_newPlace_42 : decode cX0_newPlace 42 = .ok (.getfield 57, 3) := by decide +kernel
theorem dX0_newPlace_45 : decode cX0_newPlace 45 = .ok (.iconst 1, 1) := by decide +kernel
theorem dX0_newPlace_46 : decode cX0_newPlace 46 = .ok (.isub, 1) := by decide +kernel
theorem dX0_newPlace_47 : decode cX0_newPlace 47 = .ok (.ireturn, 1) := by decide +kernel
theorem dX0_newKitchen_0 : decode cX0_newKitchen 0 = .ok (.aload_n 0, 1) := by decide +kernel
theorem dX0_newKitchen_1 : decode cX0_newKitchen 1 = .ok (.getfield 60, 3) := by decide +kernel
theorem dX0_newKitchen_4 : decode cX0_newKitchen 4 = .ok (.iconst 3, 1) := by decide +kernel
theorem dX0_newKitchen_5 : decode cX0_newKitchen 5 = .ok (.if_icmp .lt 5, 3) := by decide +kernel
theorem dX0_newKitchen_8 : decode cX0_newKitchen 8 = .ok (.iconst (-1), 1) := by decide +kernel
theorem dX0_newKitchen_9 : decode cX0_newKitchen 9 = .ok (.ireturn, 1) := by decide +kernel
theorem dX0_newKitchen_10 : decode cX0_newKitchen 10 = .ok (.aload_n 0, 1) := by decide +kernel
theorem dX0_newKitchen_11 : decode cX0_newKitchen 11 = .ok (.getfield 31, 3) := by decide +kernel
theorem dX0_newKitchen_14 : decode cX0_newKitchen 14 = .ok (.aload_n 0, 1) := by decide +kernel
theorem dX0_newKitchen_15 : decode cX0_newKitchen 15 = .ok (.getfield 60, 3) := by decide +kernel
theorem dX0_newKitchen_18 : decode cX0_newKitchen 18 = .ok (.aaload, 1) := by decide +kernel
theorem dX0_newKitchen_19 : decode cX0_newKitchen 19 = .ok (.iload_n 1, 1) := by decide +kernel
theorem dX0_newKitchen_20 : decode cX0_newKitchen 20 = .ok (.putfield 85, 3) := by decide +kernel
theorem dX0_newKitchen_23 : decode cX0_newKitchen 23 = .ok (.aload_n 0, 1) := by decide +kernel
theorem dX0_newKitchen_24 : decode cX0_newKitchen 24 = .ok (.dup, 1) := by decide +kernel
theorem dX0_newKitchen_25 : decode cX0_newKitchen 25 = .ok (.getfield 60, 3) := by decide +kernel
theorem dX0_newKitchen_28 : decode cX0_newKitchen 28 = .ok (.iconst 1, 1) := by decide +kernel
theorem dX0_newKitchen_29 : decode cX0_newKitchen 29 = .ok (.iadd, 1) := by decide +kernel
theorem dX0_newKitchen_30 : decode cX0_newKitchen 30 = .ok (.putfield 60, 3) := by decide +kernel
theorem dX0_newKitchen_33 : decode cX0_newKitchen 33 = .ok (.aload_n 0, 1) := by decide +kernel
theorem dX0_newKitchen_34 : decode cX0_newKitchen 34 = .ok (.getfield 60, 3) := by decide +kernel
theorem dX0_newKitchen_37 : decode cX0_newKitchen 37 = .ok (.iconst 1, 1) := by decide +kernel
theorem dX0_newKitchen_38 : decode cX0_newKitchen 38 = .ok (.isub, 1) := by decide +kernel
theorem dX0_newKitchen_39 : decode cX0_newKitchen 39 = .ok (.ireturn, 1) := by decide +kernel
theorem dX0_newLorry_0 : decode cX0_newLorry 0 = .ok (.aload_n 0, 1) := by decide +kernel
theorem dX0_newLorry_1 : decode cX0_newLorry 1 = .ok (.getfield 63, 3) := by decide +kernel
theorem dX0_newLorry_4 : decode cX0_newLorry 4 = .ok (.iconst 4, 1) := by decide +kernel
theorem dX0_newLorry_5 : decode cX0_newLorry 5 = .ok (.if_icmp .lt 5, 3) := by decide +kernel
theorem dX0_newLorry_8 : decode cX0_newLorry 8 = .ok (.iconst (-1), 1) := by decide +kernel
theorem dX0_newLorry_9 : decode cX0_newLorry 9 = .ok (.ireturn, 1) := by decide +kernel
theorem dX0_newLorry_10 : decode cX0_newLorry 10 = .ok (.aload_n 0, 1) := by decide +kernel
theorem dX0_newLorry_11 : decode cX0_newLorry 11 = .ok (.getfield 37, 3) := by decide +kernel
theorem dX0_newLorry_14 : decode cX0_newLorry 14 = .ok (.aload_n 0, 1) := by decide +kernel
theorem dX0_newLorry_15 : decode cX0_newLorry 15 = .ok (.getfield 63, 3) := by decide +kernel
theorem dX0_newLorry_18 : decode cX0_newLorry 18 = .ok (.aaload, 1) := by decide +kernel
theorem dX0_newLorry_19 : decode cX0_newLorry 19 = .ok (.iload_n 1, 1) := by decide +kernel
theorem dX0_newLorry_20 : decode cX0_newLorry 20 = .ok (.putfield 88, 3) := by decide +kernel
theorem dX0_newLorry_23 : decode cX0_newLorry 23 = .ok (.aload_n 0, 1) := by decide +kernel
theorem dX0_newLorry_24 : decode cX0_newLorry 24 = .ok (.dup, 1) := by decide +kernel
theorem dX0_newLorry_25 : decode cX0_newLorry 25 = .ok (.getfield 63, 3) := by decide +kernel
theorem dX0_newLorry_28 : decode cX0_newLorry 28 = .ok (.iconst 1, 1) := by decide +kernel
theorem dX0_newLorry_29 : decode cX0_newLorry 29 = .ok (.iadd, 1) := by decide +kernel
theorem dX0_newLorry_30 : decode cX0_newLorry 30 = .ok (.putfield 63, 3) := by decide +kernel
theorem dX0_newLorry_33 : decode cX0_newLorry 33 = .ok (.aload_n 0, 1) := by decide +kernel
theorem dX0_newLorry_34 : decode cX0_newLorry 34 = .ok (.getfield 63, 3) := by decide +kernel
theorem dX0_newLorry_37 : decode cX0_newLorry 37 = .ok (.iconst 1, 1) := by decide +kernel
theorem dX0_newLorry_38 : decode cX0_newLorry 38 = .ok (.isub, 1) := by decide +kernel
theorem dX0_newLorry_39 : decode cX0_newLorry 39 = .ok (.ireturn, 1) := by decide +kernel
theorem dX0_newUnit_0 : decode cX0_newUnit 0 = .ok (.aload_n 0, 1) := by decide +kernel
theorem dX0_newUnit_1 : decode cX0_newUnit 1 = .ok (.getfield 66, 3) := by decide +kernel
theorem dX0_newUnit_4 : decode cX0_newUnit 4 = .ok (.bipush 12, 2) := by decide +kernel
theorem dX0_newUnit_6 : decode cX0_newUnit 6 = .ok (.if_icmp .lt 5, 3) := by decide +kernel
theorem dX0_newUnit_9 : decode cX0_newUnit 9 = .ok (.iconst (-1), 1) := by decide +kernel
theorem dX0_newUnit_10 : decode cX0_newUnit 10 = .ok (.ireturn, 1) := by decide +kernel
theorem dX0_newUnit_11 : decode cX0_newUnit 11 = .ok (.aload_n 0, 1) := by decide +kernel
theorem dX0_newUnit_12 : decode cX0_newUnit 12 = .ok (.getfield 43, 3) := by decide +kernel
theorem dX0_newUnit_15 : decode cX0_newUnit 15 = .ok (.aload_n 0, 1) := by decide +kernel
theorem dX0_newUnit_16 : decode cX0_newUnit 16 = .ok (.getfield 66, 3) := by decide +kernel
theorem dX0_newUnit_19 : decode cX0_newUnit 19 = .ok (.aaload, 1) := by decide +kernel
theorem dX0_newUnit_20 : decode cX0_newUnit 20 = .ok (.astore 6, 2) := by decide +kernel
theorem dX0_newUnit_22 : decode cX0_newUnit 22 = .ok (.aload 6, 2) := by decide +kernel
theorem dX0_newUnit_24 : decode cX0_newUnit 24 = .ok (.iload_n 1, 1) := by decide +kernel
theorem dX0_newUnit_25 : decode cX0_newUnit 25 = .ok (.putfield 89, 3) := by decide +kernel
theorem dX0_newUnit_28 : decode cX0_newUnit 28 = .ok (.aload 6, 2) := by decide +kernel
theorem dX0_newUnit_30 : decode cX0_newUnit 30 = .ok (.iload_n 2, 1) := by decide +kernel
theorem dX0_newUnit_31 : decode cX0_newUnit 31 = .ok (.putfield 90, 3) := by decide +kernel
theorem dX0_newUnit_34 : decode cX0_newUnit 34 = .ok (.aload 6, 2) := by decide +kernel
theorem dX0_newUnit_36 : decode cX0_newUnit 36 = .ok (.iload_n 3, 1) := by decide +kernel
theorem dX0_newUnit_37 : decode cX0_newUnit 37 = .ok (.putfield 93, 3) := by decide +kernel
theorem dX0_newUnit_40 : decode cX0_newUnit 40 = .ok (.aload 6, 2) := by decide +kernel
theorem dX0_newUnit_42 : decode cX0_newUnit 42 = .ok (.iload 4, 2) := by decide +kernel
theorem dX0_newUnit_44 : decode cX0_newUnit 44 = .ok (.putfield 96, 3) := by decide +kernel
theorem dX0_newUnit_47 : decode cX0_newUnit 47 = .ok (.aload 6, 2) := by decide +kernel
theorem dX0_newUnit_49 : decode cX0_newUnit 49 = .ok (.iload 5, 2) := by decide +kernel
theorem dX0_newUnit_51 : decode cX0_newUnit 51 = .ok (.putfield 99, 3) := by decide +kernel
theorem dX0_newUnit_54 : decode cX0_newUnit 54 = .ok (.aload_n 0, 1) := by decide +kernel
theorem dX0_newUnit_55 : decode cX0_newUnit 55 = .ok (.dup, 1) := by decide +kernel
theorem dX0_newUnit_56 : decode cX0_newUnit 56 = .ok (.getfield 66, 3) := by decide +kernel
theorem dX0_newUnit_59 : decode cX0_newUnit 59 = .ok (.iconst 1, 1) := by decide +kernel
theorem dX0_newUnit_60 : decode cX0_newUnit 60 = .ok (.iadd, 1) := by decide +kernel
theorem dX0_newUnit_61 : decode cX0_newUnit 61 = .ok (.putfield 66, 3) := by decide +kernel
theorem dX0_newUnit_64 : decode cX0_newUnit 64 = .ok (.aload_n 0, 1) := by decide +kernel
theorem dX0_newUnit_65 : decode cX0_newUnit 65 = .ok (.getfield 66, 3) := by decide +kernel
theorem dX0_newUnit_68 : decode cX0_newUnit 68 = .ok (.iconst 1, 1) := by decide +kernel
theorem dX0_newUnit_69 : decode cX0_newUnit 69 = .ok (.isub, 1) := by decide +kernel
theorem dX0_newUnit_70 : decode cX0_newUnit 70 = .ok (.ireturn, 1) := by decide +kernel
theorem dX0_passMinute_0 : decode cX0_passMinute 0 = .ok (.aload_n 0, 1) := by decide +kernel
theorem dX0_passMinute_1 : decode cX0_passMinute 1 = .ok (.dup, 1) := by decide +kernel
theorem dX0_passMinute_2 : decode cX0_passMinute 2 = .ok (.getfield 50, 3) := by decide +kernel
theorem dX0_passMinute_5 : decode cX0_passMinute 5 = .ok (.iconst 1, 1) := by decide +kernel
theorem dX0_passMinute_6 : decode cX0_passMinute 6 = .ok (.iadd, 1) := by decide +kernel
theorem dX0_passMinute_7 : decode cX0_passMinute 7 = .ok (.putfield 50, 3) := by decide +kernel
theorem dX0_passMinute_10 : decode cX0_passMinute 10 = .ok (.aload_n 0, 1) := by decide +kernel
theorem dX0_passMinute_11 : decode cX0_passMinute 11 = .ok (.invokevirtual 102, 3) := by decide +kernel
theorem dX0_passMinute_14 : decode cX0_passMinute 14 = .ok (.aload_n 0, 1) := by decide +kernel
theorem dX0_passMinute_15 : decode cX0_passMinute 15 = .ok (.invokevirtual 105, 3) := by decide +kernel
theorem dX0_passMinute_18 : decode cX0_passMinute 18 = .ok (.aload_n 0, 1) := by decide +kernel
theorem dX0_passMinute_19 : decode cX0_passMinute 19 = .ok (.invokevirtual 108, 3) := by decide +kernel
theorem dX0_passMinute_22 : decode cX0_passMinute 22 = .ok (.aload_n 0, 1) := by decide +kernel
theorem dX0_passMinute_23 : decode cX0_passMinute 23 = .ok (.invokevirtual 111, 3) := by decide +kernel
theorem dX0_passMinute_26 : decode cX0_passMinute 26 = .ok (.aload_n 0, 1) := by decide +kernel
theorem dX0_passMinute_27 : decode cX0_passMinute 27 = .ok (.invokevirtual 114, 3) := by decide +kernel
theorem dX0_passMinute_30 : decode cX0_passMinute 30 = .ok (.aload_n 0, 1) := by decide +kernel
theorem dX0_passMinute_31 : decode cX0_passMinute 31 = .ok (.invokevirtual 117, 3) := by decide +kernel
theorem dX0_passMinute_34 : decode cX0_passMinute 34 = .ok (.return_, 1) := by decide +kernel
theorem dX0_driveLorries_0 : decode cX0_driveLorries 0 = .ok (.iconst 0, 1) := by decide +kernel
theorem dX0_driveLorries_1 : decode cX0_driveLorries 1 = .ok (.istore_n 1, 1) := by decide +kernel
theorem dX0_driveLorries_2 : decode cX0_driveLorries 2 = .ok (.iload_n 1, 1) := by decide +kernel
theorem dX0_driveLorries_3 : decode cX0_driveLorries 3 = .ok (.aload_n 0, 1) := by decide +kernel
theorem dX0_driveLorries_4 : decode cX0_driveLorries 4 = .ok (.getfield 63, 3) := by decide +kernel
theorem dX0_driveLorries_7 : decode cX0_driveLorries 7 = .ok (.if_icmp .ge 18, 3) := by decide +kernel
theorem dX0_driveLorries_10 : decode cX0_driveLorries 10 = .ok (.aload_n 0, 1) := by decide +kernel
theorem dX0_driveLorries_11 : decode cX0_driveLorries 11 = .ok (.getfield 37, 3) := by decide +kernel
theorem dX0_driveLorries_14 : decode cX0_driveLorries 14 = .ok (.iload_n 1, 1) := by decide +kernel
theorem dX0_driveLorries_15 : decode cX0_driveLorries 15 = .ok (.aaload, 1) := by decide +kernel
theorem dX0_driveLorries_16 : decode cX0_driveLorries 16 = .ok (.invokevirtual 120, 3) := by decide +kernel
theorem dX0_driveLorries_19 : decode cX0_driveLorries 19 = .ok (.iinc 1 1, 3) := by decide +kernel
theorem dX0_driveLorries_22 : decode cX0_driveLorries 22 = .ok (.goto (-20), 3) := by decide +kernel
theorem dX0_driveLorries_25 : decode cX0_driveLorries 25 = .ok (.return_, 1) := by decide +kernel
theorem dX0_cookPots_0 : decode cX0_cookPots 0 = .ok (.iconst 0, 1) := by decide +kernel
theorem dX0_cookPots_1 : decode cX0_cookPots 1 = .ok (.istore_n 1, 1) := by decide +kernel
theorem dX0_cookPots_2 : decode cX0_cookPots 2 = .ok (.iload_n 1, 1) := by decide +kernel
theorem dX0_cookPots_3 : decode cX0_cookPots 3 = .ok (.aload_n 0, 1) := by decide +kernel
theorem dX0_cookPots_4 : decode cX0_cookPots 4 = .ok (.getfield 60, 3) := by decide +kernel
theorem dX0_cookPots_7 : decode cX0_cookPots 7 = .ok (.if_icmp .ge 28, 3) := by decide +kernel
theorem dX0_cookPots_10 : decode cX0_cookPots 10 = .ok (.aload_n 0, 1) := by decide +kernel
theorem dX0_cookPots_11 : decode cX0_cookPots 11 = .ok (.getfield 31, 3) := by decide +kernel
theorem dX0_cookPots_14 : decode cX0_cookPots 14 = .ok (.iload_n 1, 1) := by decide +kernel
theorem dX0_cookPots_15 : decode cX0_cookPots 15 = .ok (.aaload, 1) := by decide +kernel
theorem dX0_cookPots_16 : decode cX0_cookPots 16 = .ok (.aload_n 0, 1) := by decide +kernel
theorem dX0_cookPots_17 : decode cX0_cookPots 17 = .ok (.getfield 50, 3) := by decide +kernel
theorem dX0_cookPots_20 : decode cX0_cookPots 20 = .ok (.aload_n 0, 1) := by decide +kernel
theorem dX0_cookPots_21 : decode cX0_cookPots 21 = .ok (.getfield 18, 3) := by decide +kernel
theorem dX0_cookPots_24 : decode cX0_cookPots 24 = .ok (.iconst 4, 1) := by decide +kernel
theorem dX0_cookPots_25 : decode cX0_cookPots 25 = .ok (.iaload, 1) := by decide +kernel
theorem dX0_cookPots_26 : decode cX0_cookPots 26 = .ok (.invokevirtual 123, 3) := by decide +kernel
theorem dX0_cookPots_29 : decode cX0_cookPots 29 = .ok (.iinc 1 1, 3) := by decide +kernel
theorem dX0_cookPots_32 : decode cX0_cookPots 32 = .ok (.goto (-30), 3) := by decide +kernel
theorem dX0_cookPots_35 : decode cX0_cookPots 35 = .ok (.return_, 1) := by decide +kernel
theorem dX0_throwOldMeals_0 : decode cX0_throwOldMeals 0 = .ok (.iconst 0, 1) := by decide +kernel
theorem dX0_throwOldMeals_1 : decode cX0_throwOldMeals 1 = .ok (.istore_n 1, 1) := by decide +kernel
theorem dX0_throwOldMeals_2 : decode cX0_throwOldMeals 2 = .ok (.iload_n 1, 1) := by decide +kernel
theorem dX0_throwOldMeals_3 : decode cX0_throwOldMeals 3 = .ok (.aload_n 0, 1) := by decide +kernel
theorem dX0_throwOldMeals_4 : decode cX0_throwOldMeals 4 = .ok (.getfield 60, 3) := by decide +kernel
theorem dX0_throwOldMeals_7 : decode cX0_throwOldMeals 7 = .ok (.if_icmp .ge 45, 3) := by decide +kernel
theorem dX0_throwOldMeals_10 : decode cX0_throwOldMeals 10 = .ok (.aload_n 0, 1) := by decide +kernel
theorem dX0_throwOldMeals_11 : decode cX0_throwOldMeals 11 = .ok (.getfield 31, 3) := by decide +kernel
theorem dX0_throwOldMeals_14 : decode cX0_throwOldMeals 14 = .ok (.iload_n 1, 1) := by decide +kernel
theorem dX0_throwOldMeals_15 : decode cX0_throwOldMeals 15 = .ok (.aaload, 1) := by decide +kernel
theorem dX0_throwOldMeals_16 : decode cX0_throwOldMeals 16 = .ok (.dup, 1) := by decide +kernel
theorem dX0_throwOldMeals_17 : decode cX0_throwOldMeals 17 = .ok (.getfield 127, 3) := by decide +kernel
theorem dX0_throwOldMeals_20 : decode cX0_throwOldMeals 20 = .ok (.aload_n 0, 1) := by decide +kernel
theorem dX0_throwOldMeals_21 : decode cX0_throwOldMeals 21 = .ok (.getfield 31, 3) := by decide +kernel
theorem dX0_throwOldMeals_24 : decode cX0_throwOldMeals 24 = .ok (.iload_n 1, 1) := by decide +kernel
theorem dX0_throwOldMeals_25 : decode cX0_throwOldMeals 25 = .ok (.aaload, 1) := by decide +kernel
theorem dX0_throwOldMeals_26 : decode cX0_throwOldMeals 26 = .ok (.getfield 130, 3) := by decide +kernel
theorem dX0_throwOldMeals_29 : decode cX0_throwOldMeals 29 = .ok (.aload_n 0, 1) := by decide +kernel
theorem dX0_throwOldMeals_30 : decode cX0_throwOldMeals 30 = .ok (.getfield 18, 3) := by decide +kernel
theorem dX0_throwOldMeals_33 : decode cX0_throwOldMeals 33 = .ok (.iconst 3, 1) := by decide +kernel
theorem dX0_throwOldMeals_34 : decode cX0_throwOldMeals 34 = .ok (.iaload, 1) := by decide +kernel
theorem dX0_throwOldMeals_35 : decode cX0_throwOldMeals 35 = .ok (.aload_n 0, 1) := by decide +kernel
theorem dX0_throwOldMeals_36 : decode cX0_throwOldMeals 36 = .ok (.getfield 50, 3) := by decide +kernel
theorem dX0_throwOldMeals_39 : decode cX0_throwOldMeals 39 = .ok (.invokevirtual 134, 3) := by decide +kernel
theorem dX0_throwOldMeals_42 : decode cX0_throwOldMeals 42 = .ok (.iadd, 1) := by decide +kernel
theorem dX0_throwOldMeals_43 : decode cX0_throwOldMeals 43 = .ok (.putfield 127, 3) := by decide +kernel
theorem dX0_throwOldMeals_46 : decode cX0_throwOldMeals 46 = .ok (.iinc 1 1, 3) := by decide +kernel
theorem dX0_throwOldMeals_49 : decode cX0_throwOldMeals 49 = .ok (.goto (-47), 3) := by decide +kernel
theorem dX0_throwOldMeals_52 : decode cX0_throwOldMeals 52 = .ok (.iconst 0, 1) := by decide +kernel
theorem dX0_throwOldMeals_53 : decode cX0_throwOldMeals 53 = .ok (.istore_n 1, 1) := by decide +kernel
theorem dX0_throwOldMeals_54 : decode cX0_throwOldMeals 54 = .ok (.iload_n 1, 1) := by decide +kernel
theorem dX0_throwOldMeals_55 : decode cX0_throwOldMeals 55 = .ok (.aload_n 0, 1) := by decide +kernel
theorem dX0_throwOldMeals_56 : decode cX0_throwOldMeals 56 = .ok (.getfield 63, 3) := by decide +kernel
theorem dX0_throwOldMeals_59 : decode cX0_throwOldMeals 59 = .ok (.if_icmp .ge 45, 3) := by decide +kernel
theorem dX0_throwOldMeals_62 : decode cX0_throwOldMeals 62 = .ok (.aload_n 0, 1) := by decide +kernel
theorem dX0_throwOldMeals_63 : decode cX0_throwOldMeals 63 = .ok (.getfield 37, 3) := by decide +kernel
theorem dX0_throwOldMeals_66 : decode cX0_throwOldMeals 66 = .ok (.iload_n 1, 1) := by decide +kernel
theorem dX0_throwOldMeals_67 : decode cX0_throwOldMeals 67 = .ok (.aaload, 1) := by decide +kernel
theorem dX0_throwOldMeals_68 : decode cX0_throwOldMeals 68 = .ok (.dup, 1) := by decide +kernel
theorem dX0_throwOldMeals_69 : decode cX0_throwOldMeals 69 = .ok (.getfield 140, 3) := by decide +kernel
theorem dX0_throwOldMeals_72 : decode cX0_throwOldMeals 72 = .ok (.aload_n 0, 1) := by decide +kernel
theorem dX0_throwOldMeals_73 : decode cX0_throwOldMeals 73 = .ok (.getfield 37, 3) := by decide +kernel
theorem dX0_throwOldMeals_76 : decode cX0_throwOldMeals 76 = .ok (.iload_n 1, 1) := by decide +kernel
theorem dX0_throwOldMeals_77 : decode cX0_throwOldMeals 77 = .ok (.aaload, 1) := by decide +kernel
theorem dX0_throwOldMeals_78 : decode cX0_throwOldMeals 78 = .ok (.getfield 141, 3) := by decide +kernel
theorem dX0_throwOldMeals_81 : decode cX0_throwOldMeals 81 = .ok (.aload_n 0, 1) := by decide +kernel
theorem dX0_throwOldMeals_82 : decode cX0_throwOldMeals 82 = .ok (.getfield 18, 3) := by decide +kernel
theorem dX0_throwOldMeals_85 : decode cX0_throwOldMeals 85 = .ok (.iconst 3, 1) := by decide +kernel
theorem dX0_throwOldMeals_86 : decode cX0_throwOldMeals 86 = .ok (.iaload, 1) := by decide +kernel
theorem dX0_throwOldMeals_87 : decode cX0_throwOldMeals 87 = .ok (.aload_n 0, 1) := by decide +kernel
theorem dX0_throwOldMeals_88 : decode cX0_throwOldMeals 88 = .ok (.getfield 50, 3) := by decide +kernel
theorem dX0_throwOldMeals_91 : decode cX0_throwOldMeals 91 = .ok (.invokevirtual 134, 3) := by decide +kernel
theorem dX0_throwOldMeals_94 : decode cX0_throwOldMeals 94 = .ok (.iadd, 1) := by decide +kernel
theorem dX0_throwOldMeals_95 : decode cX0_throwOldMeals 95 = .ok (.putfield 140, 3) := by decide +kernel
theorem dX0_throwOldMeals_98 : decode cX0_throwOldMeals 98 = .ok (.iinc 1 1, 3) := by decide +kernel
theorem dX0_throwOldMeals_101 : decode cX0_throwOldMeals 101 = .ok (.goto (-47), 3) := by decide +kernel
theorem dX0_throwOldMeals_104 : decode cX0_throwOldMeals 104 = .ok (.return_, 1) := by decide +kernel
theorem dX0_callUnits_0 : decode cX0_callUnits 0 = .ok (.iconst 0, 1) := by decide +kernel
theorem dX0_callUnits_1 : decode cX0_callUnits 1 = .ok (.istore_n 1, 1) := by decide +kernel
theorem dX0_callUnits_2 : decode cX0_callUnits 2 = .ok (.iload_n 1, 1) := by decide +kernel
theorem dX0_callUnits_3 : decode cX0_callUnits 3 = .ok (.aload_n 0, 1) := by decide +kernel
theorem dX0_callUnits_4 : decode cX0_callUnits 4 = .ok (.getfield 66, 3) := by decide +kernel
theorem dX0_callUnits_7 : decode cX0_callUnits 7 = .ok (.if_icmp .ge 55, 3) := by decide +kernel
theorem dX0_callUnits_10 : decode cX0_callUnits 10 = .ok (.aload_n 0, 1) := by decide +kernel
theorem dX0_callUnits_11 : decode cX0_callUnits 11 = .ok (.getfield 43, 3) := by decide +kernel
theorem dX0_callUnits_14 : decode cX0_callUnits 14 = .ok (.iload_n 1, 1) := by decide +kernel
theorem dX0_callUnits_15 : decode cX0_callUnits 15 = .ok (.aaload, 1) := by decide +kernel
theorem dX0_callUnits_16 : decode cX0_callUnits 16 = .ok (.astore_n 2, 1) := by decide +kernel
theorem dX0_callUnits_17 : decode cX0_callUnits 17 = .ok (.aload_n 2, 1) := by decide +kernel
theorem dX0_callUnits_18 : decode cX0_callUnits 18 = .ok (.getfield 142, 3) := by decide +kernel
theorem dX0_callUnits_21 : decode cX0_callUnits 21 = .ok (.ifCond .ne 35, 3) := by decide +kernel
theorem dX0_callUnits_24 : decode cX0_callUnits 24 = .ok (.aload_n 2, 1) := by decide +kernel
theorem dX0_callUnits_25 : decode cX0_callUnits 25 = .ok (.getfield 96, 3) := by decide +kernel
theorem dX0_callUnits_28 : decode cX0_callUnits 28 = .ok (.aload_n 0, 1) := by decide +kernel
theorem dX0_callUnits_29 : decode cX0_callUnits 29 = .ok (.getfield 50, 3) := by decide +kernel
theorem dX0_callUnits_32 : decode cX0_callUnits 32 = .ok (.if_icmp .ne 24, 3) := by decide +kernel
theorem dX0_callUnits_35 : decode cX0_callUnits 35 = .ok (.aload_n 0, 1) := by decide +kernel
theorem dX0_callUnits_36 : decode cX0_callUnits 36 = .ok (.dup, 1) := by decide +kernel
theorem dX0_callUnits_37 : decode cX0_callUnits 37 = .ok (.getfield 54, 3) := by decide +kernel
theorem dX0_callUnits_40 : decode cX0_callUnits 40 = .ok (.aload_n 2, 1) := by decide +kernel
theorem dX0_callUnits_41 : decode cX0_callUnits 41 = .ok (.getfield 90, 3) := by decide +kernel
theorem dX0_callUnits_44 : decode cX0_callUnits 44 = .ok (.iadd, 1) := by decide +kernel
theorem dX0_callUnits_45 : decode cX0_callUnits 45 = .ok (.putfield 54, 3) := by decide +kernel
theorem dX0_callUnits_48 : decode cX0_callUnits 48 = .ok (.aload_n 2, 1) := by decide +kernel
theorem dX0_callUnits_49 : decode cX0_callUnits 49 = .ok (.aload_n 0, 1) := by decide +kernel
theorem dX0_callUnits_50 : decode cX0_callUnits 50 = .ok (.getfield 50, 3) := by decide +kernel
theorem dX0_callUnits_53 : decode cX0_callUnits 53 = .ok (.invokevirtual 145, 3) := by decide +kernel
theorem dX0_callUnits_56 : decode cX0_callUnits 56 = .ok (.iinc 1 1, 3) := by decide +kernel
theorem dX0_callUnits_59 : decode cX0_callUnits 59 = .ok (.goto (-57), 3) := by decide +kernel
theorem dX0_callUnits_62 : decode cX0_callUnits 62 = .ok (.return_, 1) := by decide +kernel
theorem dX0_serveUnits_0 : decode cX0_serveUnits 0 = .ok (.iconst 0, 1) := by decide +kernel
theorem dX0_serveUnits_1 : decode cX0_serveUnits 1 = .ok (.istore_n 1, 1) := by decide +kernel
theorem dX0_serveUnits_2 : decode cX0_serveUnits 2 = .ok (.iload_n 1, 1) := by decide +kernel
theorem dX0_serveUnits_3 : decode cX0_serveUnits 3 = .ok (.aload_n 0, 1) := by decide +kernel
theorem dX0_serveUnits_4 : decode cX0_serveUnits 4 = .ok (.getfield 66, 3) := by decide +kernel
theorem dX0_serveUnits_7 : decode cX0_serveUnits 7 = .ok (.if_icmp .ge 74, 3) := by decide +kernel
theorem dX0_serveUnits_10 : decode cX0_serveUnits 10 = .ok (.aload_n 0, 1) := by decide +kernel
theorem dX0_serveUnits_11 : decode cX0_serveUnits 11 = .ok (.getfield 43, 3) := by decide +kernel
theorem dX0_serveUnits_14 : decode cX0_serveUnits 14 = .ok (.iload_n 1, 1) := by decide +kernel
theorem dX0_serveUnits_15 : decode cX0_serveUnits 15 = .ok (.aaload, 1) := by decide +kernel
theorem dX0_serveUnits_16 : decode cX0_serveUnits 16 = .ok (.astore_n 2, 1) := by decide +kernel
theorem dX0_serveUnits_17 : decode cX0_serveUnits 17 = .ok (.aload_n 2, 1) := by decide +kernel
theorem dX0_serveUnits_18 : decode cX0_serveUnits 18 = .ok (.invokevirtual 149, 3) := by decide +kernel
theorem dX0_serveUnits_21 : decode cX0_serveUnits 21 = .ok (.ifCond .le 54, 3) := by decide +kernel
theorem dX0_serveUnits_24 : decode cX0_serveUnits 24 = .ok (.aload_n 2, 1) := by decide +kernel
theorem dX0_serveUnits_25 : decode cX0_serveUnits 25 = .ok (.aload_n 0, 1) := by decide +kernel
theorem dX0_serveUnits_26 : decode cX0_serveUnits 26 = .ok (.aload_n 2, 1) := by decide +kernel
theorem dX0_serveUnits_27 : decode cX0_serveUnits 27 = .ok (.getfield 89, 3) := by decide +kernel
theorem dX0_serveUnits_30 : decode cX0_serveUnits 30 = .ok (.iconst 0, 1) := by decide +kernel
theorem dX0_serveUnits_31 : decode cX0_serveUnits 31 = .ok (.aload_n 2, 1) := by decide +kernel
theorem dX0_serveUnits_32 : decode cX0_serveUnits 32 = .ok (.getfield 153, 3) := by decide +kernel
theorem dX0_serveUnits_35 : decode cX0_serveUnits 35 = .ok (.invokevirtual 156, 3) := by decide +kernel
theorem dX0_serveUnits_38 : decode cX0_serveUnits 38 = .ok (.invokevirtual 160, 3) := by decide +kernel
theorem dX0_serveUnits_41 : decode cX0_serveUnits 41 = .ok (.aload_n 2, 1) := by decide +kernel
theorem dX0_serveUnits_42 : decode cX0_serveUnits 42 = .ok (.aload_n 0, 1) := by decide +kernel
theorem dX0_serveUnits_43 : decode cX0_serveUnits 43 = .ok (.aload_n 2, 1) := by decide +kernel
theorem dX0_serveUnits_44 : decode cX0_serveUnits 44 = .ok (.getfield 89, 3) := by decide +kernel
theorem dX0_serveUnits_47 : decode cX0_serveUnits 47 = .ok (.iconst 1, 1) := by decide +kernel
theorem dX0_serveUnits_48 : decode cX0_serveUnits 48 = .ok (.aload_n 2, 1) := by decide +kernel
theorem dX0_serveUnits_49 : decode cX0_serveUnits 49 = .ok (.getfield 163, 3) := by decide +kernel
theorem dX0_serveUnits_52 : decode cX0_serveUnits 52 = .ok (.invokevirtual 156, 3) := by decide +kernel
theorem dX0_serveUnits_55 : decode cX0_serveUnits 55 = .ok (.invokevirtual 166, 3) := by decide +kernel
theorem dX0_serveUnits_58 : decode cX0_serveUnits 58 = .ok (.aload_n 2, 1) := by decide +kernel
theorem dX0_serveUnits_59 : decode cX0_serveUnits 59 = .ok (.aload_n 0, 1) := by decide +kernel
theorem dX0_serveUnits_60 : decode cX0_serveUnits 60 = .ok (.aload_n 2, 1) := by decide +kernel
theorem dX0_serveUnits_61 : decode cX0_serveUnits 61 = .ok (.getfield 89, 3) := by decide +kernel
theorem dX0_serveUnits_64 : decode cX0_serveUnits 64 = .ok (.iconst 0, 1) := by decide +kernel
theorem dX0_serveUnits_65 : decode cX0_serveUnits 65 = .ok (.aload_n 2, 1) := by decide +kernel
theorem dX0_serveUnits_66 : decode cX0_serveUnits 66 = .ok (.getfield 163, 3) := by decide +kernel
theorem dX0_serveUnits_69 : decode cX0_serveUnits 69 = .ok (.invokevirtual 156, 3) := by decide +kernel
theorem dX0_serveUnits_72 : decode cX0_serveUnits 72 = .ok (.invokevirtual 166, 3) := by decide +kernel
theorem dX0_serveUnits_75 : decode cX0_serveUnits 75 = .ok (.iinc 1 1, 3) := by decide +kernel
theorem dX0_serveUnits_78 : decode cX0_serveUnits 78 = .ok (.goto (-76), 3) := by decide +kernel
theorem dX0_serveUnits_81 : decode cX0_serveUnits 81 = .ok (.return_, 1) := by decide +kernel
theorem dX0_takeMeals_0 : decode cX0_takeMeals 0 = .ok (.iload_n 3, 1) := by decide +kernel
theorem dX0_takeMeals_1 : decode cX0_takeMeals 1 = .ok (.istore 4, 2) := by decide +kernel
theorem dX0_takeMeals_3 : decode cX0_takeMeals 3 = .ok (.iconst 0, 1) := by decide +kernel
theorem dX0_takeMeals_4 : decode cX0_takeMeals 4 = .ok (.istore 5, 2) := by decide +kernel
theorem dX0_takeMeals_6 : decode cX0_takeMeals 6 = .ok (.iload 5, 2) := by decide +kernel
theorem dX0_takeMeals_8 : decode cX0_takeMeals 8 = .ok (.aload_n 0, 1) := by decide +kernel
theorem dX0_takeMeals_9 : decode cX0_takeMeals 9 = .ok (.getfield 63, 3) := by decide +kernel
theorem dX0_takeMeals_12 : decode cX0_takeMeals 12 = .ok (.if_icmp .ge 69, 3) := by decide +kernel
theorem dX0_takeMeals_15 : decode cX0_takeMeals 15 = .ok (.aload_n 0, 1) := by decide +kernel
theorem dX0_takeMeals_16 : decode cX0_takeMeals 16 = .ok (.getfield 37, 3) := by decide +kernel
theorem dX0_takeMeals_19 : decode cX0_takeMeals 19 = .ok (.iload 5, 2) := by decide +kernel
theorem dX0_takeMeals_21 : decode cX0_takeMeals 21 = .ok (.aaload, 1) := by decide +kernel
theorem dX0_takeMeals_22 : decode cX0_takeMeals 22 = .ok (.getfield 88, 3) := by decide +kernel
theorem dX0_takeMeals_25 : decode cX0_takeMeals 25 = .ok (.iload_n 1, 1) := by decide +kernel
theorem dX0_takeMeals_26 : decode cX0_takeMeals 26 = .ok (.if_icmp .ne 49, 3) := by decide +kernel
theorem dX0_takeMeals_29 : decode cX0_takeMeals 29 = .ok (.aload_n 0, 1) := by decide +kernel
theorem dX0_takeMeals_30 : decode cX0_takeMeals 30 = .ok (.getfield 37, 3) := by decide +kernel
theorem dX0_takeMeals_33 : decode cX0_takeMeals 33 = .ok (.iload 5, 2) := by decide +kernel
theorem dX0_takeMeals_35 : decode cX0_takeMeals 35 = .ok (.aaload, 1) := by decide +kernel
theorem dX0_takeMeals_36 : decode cX0_takeMeals 36 = .ok (.getfield 141, 3) := by decide +kernel
theorem dX0_takeMeals_39 : decode cX0_takeMeals 39 = .ok (.iload_n 2, 1) := by decide +kernel
theorem dX0_takeMeals_40 : decode cX0_takeMeals 40 = .ok (.iload 4, 2) := by decide +kernel
theorem dX0_takeMeals_42 : decode cX0_takeMeals 42 = .ok (.aload_n 0, 1) := by decide +kernel
theorem dX0_takeMeals_43 : decode cX0_takeMeals 43 = .ok (.getfield 50, 3) := by decide +kernel
theorem dX0_takeMeals_46 : decode cX0_takeMeals 46 = .ok (.invokevirtual 169, 3) := by decide +kernel
theorem dX0_takeMeals_49 : decode cX0_takeMeals 49 = .ok (.istore 6, 2) := by decide +kernel
theorem dX0_takeMeals_51 : decode cX0_takeMeals 51 = .ok (.aload_n 0, 1) := by decide +kernel
theorem dX0_takeMeals_52 : decode cX0_takeMeals 52 = .ok (.getfield 37, 3) := by decide +kernel
theorem dX0_takeMeals_55 : decode cX0_takeMeals 55 = .ok (.iload 5, 2) := by decide +kernel
theorem dX0_takeMeals_57 : decode cX0_takeMeals 57 = .ok (.aaload, 1) := by decide +kernel
theorem dX0_takeMeals_58 : decode cX0_takeMeals 58 = .ok (.dup, 1) := by decide +kernel
theorem dX0_takeMeals_59 : decode cX0_takeMeals 59 = .ok (.getfield 173, 3) := by decide +kernel
theorem dX0_takeMeals_62 : decode cX0_takeMeals 62 = .ok (.iload 6, 2) := by decide +kernel
theorem dX0_takeMeals_64 : decode cX0_takeMeals 64 = .ok (.iadd, 1) := by decide +kernel
theorem dX0_takeMeals_65 : decode cX0_takeMeals 65 = .ok (.putfield 173, 3) := by decide +kernel
theorem dX0_takeMeals_68 : decode cX0_takeMeals 68 = .ok (.iload 4, 2) := by decide +kernel
theorem dX0_takeMeals_70 : decode cX0_takeMeals 70 = .ok (.iload 6, 2) := by decide +kernel
theorem dX0_takeMeals_72 : decode cX0_takeMeals 72 = .ok (.isub, 1) := by decide +kernel
theorem dX0_takeMeals_73 : decode cX0_takeMeals 73 = .ok (.istore 4, 2) := by decide +kernel
theorem dX0_takeMeals_75 : decode cX0_takeMeals 75 = .ok (.iinc 5 1, 3) := by decide +kernel
theorem dX0_takeMeals_78 : decode cX0_takeMeals 78 = .ok (.goto (-72), 3) := by decide +kernel
theorem dX0_takeMeals_81 : decode cX0_takeMeals 81 = .ok (.iconst 0, 1) := by decide +kernel
theorem dX0_takeMeals_82 : decode cX0_takeMeals 82 = .ok (.istore 5, 2) := by decide +kernel
theorem dX0_takeMeals_84 : decode cX0_takeMeals 84 = .ok (.iload 5, 2) := by decide +kernel
theorem dX0_takeMeals_86 : decode cX0_takeMeals 86 = .ok (.aload_n 0, 1) := by decide +kernel
theorem dX0_takeMeals_87 : decode cX0_takeMeals 87 = .ok (.getfield 60, 3) := by decide +kernel
theorem dX0_takeMeals_90 : decode cX0_takeMeals 90 = .ok (.if_icmp .ge 48, 3) := by decide +kernel
theorem dX0_takeMeals_93 : decode cX0_takeMeals 93 = .ok (.aload_n 0, 1) := by decide +kernel
theorem dX0_takeMeals_94 : decode cX0_takeMeals 94 = .ok (.getfield 31, 3) := by decide +kernel
theorem dX0_takeMeals_97 : decode cX0_takeMeals 97 = .ok (.iload 5, 2) := by decide +kernel
theorem dX0_takeMeals_99 : decode cX0_takeMeals 99 = .ok (.aaload, 1) := by decide +kernel
theorem dX0_takeMeals_100 : decode cX0_takeMeals 100 = .ok (.getfield 85, 3) := by decide +kernel
theorem dX0_takeMeals_103 : decode cX0_takeMeals 103 = .ok (.iload_n 1, 1) := by decide +kernel
theorem dX0_takeMeals_104 : decode cX0_takeMeals 104 = .ok (.if_icmp .ne 28, 3) := by decide +kernel
theorem dX0_takeMeals_107 : decode cX0_takeMeals 107 = .ok (.iload 4, 2) := by decide +kernel
theorem dX0_takeMeals_109 : decode cX0_takeMeals 109 = .ok (.aload_n 0, 1) := by decide +kernel
theorem dX0_takeMeals_110 : decode cX0_takeMeals 110 = .ok (.getfield 31, 3) := by decide +kernel
theorem dX0_takeMeals_113 : decode cX0_takeMeals 113 = .ok (.iload 5, 2) := by decide +kernel
theorem dX0_takeMeals_115 : decode cX0_takeMeals 115 = .ok (.aaload, 1) := by decide +kernel
theorem dX0_takeMeals_116 : decode cX0_takeMeals 116 = .ok (.getfield 130, 3) := by decide +kernel
theorem dX0_takeMeals_119 : decode cX0_takeMeals 119 = .ok (.iload_n 2, 1) := by decide +kernel
theorem dX0_takeMeals_120 : decode cX0_takeMeals 120 = .ok (.iload 4, 2) := by decide +kernel
theorem dX0_takeMeals_122 : decode cX0_takeMeals 122 = .ok (.aload_n 0, 1) := by decide +kernel
theorem dX0_takeMeals_123 : decode cX0_takeMeals 123 = .ok (.getfield 50, 3) := by decide +kernel
theorem dX0_takeMeals_126 : decode cX0_takeMeals 126 = .ok (.invokevirtual 169, 3) := by decide +kernel
theorem dX0_takeMeals_129 : decode cX0_takeMeals 129 = .ok (.isub, 1) := by decide +kernel
theorem dX0_takeMeals_130 : decode cX0_takeMeals 130 = .ok (.istore 4, 2) := by decide +kernel
theorem dX0_takeMeals_132 : decode cX0_takeMeals 132 = .ok (.iinc 5 1, 3) := by decide +kernel
theorem dX0_takeMeals_135 : decode cX0_takeMeals 135 = .ok (.goto (-51), 3) := by decide +kernel
theorem dX0_takeMeals_138 : decode cX0_takeMeals 138 = .ok (.iload_n 3, 1) := by decide +kernel
theorem dX0_takeMeals_139 : decode cX0_takeMeals 139 = .ok (.iload 4, 2) := by decide +kernel
theorem dX0_takeMeals_141 : decode cX0_takeMeals 141 = .ok (.isub, 1) := by decide +kernel
theorem dX0_takeMeals_142 : decode cX0_takeMeals 142 = .ok (.ireturn, 1) := by decide +kernel
theorem dX0_punish_0 : decode cX0_punish 0 = .ok (.iconst 0, 1) := by decide +kernel
theorem dX0_punish_1 : decode cX0_punish 1 = .ok (.istore_n 1, 1) := by decide +kernel
theorem dX0_punish_2 : decode cX0_punish 2 = .ok (.iload_n 1, 1) := by decide +kernel
theorem dX0_punish_3 : decode cX0_punish 3 = .ok (.aload_n 0, 1) := by decide +kernel
theorem dX0_punish_4 : decode cX0_punish 4 = .ok (.getfield 66, 3) := by decide +kernel
theorem dX0_punish_7 : decode cX0_punish 7 = .ok (.if_icmp .ge 58, 3) := by decide +kernel
theorem dX0_punish_10 : decode cX0_punish 10 = .ok (.aload_n 0, 1) := by decide +kernel
theorem dX0_punish_11 : decode cX0_punish 11 = .ok (.getfield 43, 3) := by decide +kernel
theorem dX0_punish_14 : decode cX0_punish 14 = .ok (.iload_n 1, 1) := by decide +kernel
theorem dX0_punish_15 : decode cX0_punish 15 = .ok (.aaload, 1) := by decide +kernel
theorem dX0_punish_16 : decode cX0_punish 16 = .ok (.astore_n 2, 1) := by decide +kernel
theorem dX0_punish_17 : decode cX0_punish 17 = .ok (.aload_n 2, 1) := by decide +kernel
theorem dX0_punish_18 : decode cX0_punish 18 = .ok (.aload_n 0, 1) := by decide +kernel
theorem dX0_punish_19 : decode cX0_punish 19 = .ok (.getfield 50, 3) := by decide +kernel
theorem dX0_punish_22 : decode cX0_punish 22 = .ok (.invokevirtual 176, 3) := by decide +kernel
theorem dX0_punish_25 : decode cX0_punish 25 = .ok (.aload_n 0, 1) := by decide +kernel
theorem dX0_punish_26 : decode cX0_punish 26 = .ok (.getfield 18, 3) := by decide +kernel
theorem dX0_punish_29 : decode cX0_punish 29 = .ok (.iconst 1, 1) := by decide +kernel
theorem dX0_punish_30 : decode cX0_punish 30 = .ok (.iaload, 1) := by decide +kernel
theorem dX0_punish_31 : decode cX0_punish 31 = .ok (.if_icmp .le 28, 3) := by decide +kernel
theorem dX0_punish_34 : decode cX0_punish 34 = .ok (.aload_n 2, 1) := by decide +kernel
theorem dX0_punish_35 : decode cX0_punish 35 = .ok (.ldc 180, 2) := by decide +kernel
theorem dX0_punish_37 : decode cX0_punish 37 = .ok (.aload_n 2, 1) := by decide +kernel
theorem dX0_punish_38 : decode cX0_punish 38 = .ok (.getfield 181, 3) := by decide +kernel
theorem dX0_punish_41 : decode cX0_punish 41 = .ok (.aload_n 2, 1) := by decide +kernel
theorem dX0_punish_42 : decode cX0_punish 42 = .ok (.invokevirtual 149, 3) := by decide +kernel
theorem dX0_punish_45 : decode cX0_punish 45 = .ok (.aload_n 0, 1) := by decide +kernel
theorem dX0_punish_46 : decode cX0_punish 46 = .ok (.getfield 18, 3) := by decide +kernel
theorem dX0_punish_49 : decode cX0_punish 49 = .ok (.iconst 2, 1) := by decide +kernel
theorem dX0_punish_50 : decode cX0_punish 50 = .ok (.iaload, 1) := by decide +kernel
theorem dX0_punish_51 : decode cX0_punish 51 = .ok (.imul, 1) := by decide +kernel
theorem dX0_punish_52 : decode cX0_punish 52 = .ok (.iadd, 1) := by decide +kernel
theorem dX0_punish_53 : decode cX0_punish 53 = .ok (.invokestatic 184, 3) := by decide +kernel
theorem dX0_punish_56 : decode cX0_punish 56 = .ok (.putfield 181, 3) := by decide +kernel
theorem dX0_punish_59 : decode cX0_punish 59 = .ok (.iinc 1 1, 3) := by decide +kernel
theorem dX0_punish_62 : decode cX0_punish 62 = .ok (.goto (-60), 3) := by decide +kernel
theorem dX0_punish_65 : decode cX0_punish 65 = .ok (.return_, 1) := by decide +kernel
theorem dX0_isPlace_0 : decode cX0_isPlace 0 = .ok (.iload_n 1, 1) := by decide +kernel
theorem dX0_isPlace_1 : decode cX0_isPlace 1 = .ok (.ifCond .lt 21, 3) := by decide +kernel
theorem dX0_isPlace_4 : decode cX0_isPlace 4 = .ok (.iload_n 1, 1) := by decide +kernel
theorem dX0_isPlace_5 : decode cX0_isPlace 5 = .ok (.aload_n 0, 1) := by decide +kernel
theorem dX0_isPlace_6 : decode cX0_isPlace 6 = .ok (.getfield 57, 3) := by decide +kernel
theorem dX0_isPlace_9 : decode cX0_isPlace 9 = .ok (.if_icmp .ge 13, 3) := by decide +kernel
theorem dX0_isPlace_12 : decode cX0_isPlace 12 = .ok (.iload_n 1, 1) := by decide +kernel
theorem dX0_isPlace_13 : decode cX0_isPlace 13 = .ok (.bipush 8, 2) := by decide +kernel
theorem dX0_isPlace_15 : decode cX0_isPlace 15 = .ok (.if_icmp .ge 7, 3) := by decide +kernel
theorem dX0_isPlace_18 : decode cX0_isPlace 18 = .ok (.iconst 1, 1) := by decide +kernel
theorem dX0_isPlace_19 : decode cX0_isPlace 19 = .ok (.goto 4, 3) := by decide +kernel
theorem dX0_isPlace_22 : decode cX0_isPlace 22 = .ok (.iconst 0, 1) := by decide +kernel
theorem dX0_isPlace_23 : decode cX0_isPlace 23 = .ok (.ireturn, 1) := by decide +kernel
theorem dX0_driveMinutes_0 : decode cX0_driveMinutes 0 = .ok (.iload_n 1, 1) := by decide +kernel
theorem dX0_driveMinutes_1 : decode cX0_driveMinutes 1 = .ok (.iload_n 2, 1) := by decide +kernel
theorem dX0_driveMinutes_2 : decode cX0_driveMinutes 2 = .ok (.if_icmp .eq 19, 3) := by decide +kernel
theorem dX0_driveMinutes_5 : decode cX0_driveMinutes 5 = .ok (.aload_n 0, 1) := by decide +kernel
theorem dX0_driveMinutes_6 : decode cX0_driveMinutes 6 = .ok (.iload_n 1, 1) := by decide +kernel
theorem dX0_driveMinutes_7 : decode cX0_driveMinutes 7 = .ok (.invokevirtual 189, 3) := by decide +kernel
theorem dX0_driveMinutes_10 : decode cX0_driveMinutes 10 = .ok (.ifCond .eq 11, 3) := by decide +kernel
theorem dX0_driveMinutes_13 : decode cX0_driveMinutes 13 = .ok (.aload_n 0, 1) := by decide +kernel
theorem dX0_driveMinutes_14 : decode cX0_driveMinutes 14 = .ok (.iload_n 2, 1) := by decide +kernel
theorem dX0_driveMinutes_15 : decode cX0_driveMinutes 15 = .ok (.invokevirtual 189, 3) := by decide +kernel
theorem dX0_driveMinutes_18 : decode cX0_driveMinutes 18 = .ok (.ifCond .ne 5, 3) := by decide +kernel
theorem dX0_driveMinutes_21 : decode cX0_driveMinutes 21 = .ok (.iconst 0, 1) := by decide +kernel
theorem dX0_driveMinutes_22 : decode cX0_driveMinutes 22 = .ok (.ireturn, 1) := by decide +kernel
theorem dX0_driveMinutes_23 : decode cX0_driveMinutes 23 = .ok (.aload_n 0, 1) := by decide +kernel
theorem dX0_driveMinutes_24 : decode cX0_driveMinutes 24 = .ok (.getfield 23, 3) := by decide +kernel
theorem dX0_driveMinutes_27 : decode cX0_driveMinutes 27 = .ok (.iload_n 1, 1) := by decide +kernel
theorem dX0_driveMinutes_28 : decode cX0_driveMinutes 28 = .ok (.iaload, 1) := by decide +kernel
theorem dX0_driveMinutes_29 : decode cX0_driveMinutes 29 = .ok (.aload_n 0, 1) := by decide +kernel
theorem dX0_driveMinutes_30 : decode cX0_driveMinutes 30 = .ok (.getfield 23, 3) := by decide +kernel
theorem dX0_driveMinutes_33 : decode cX0_driveMinutes 33 = .ok (.iload_n 2, 1) := by decide +kernel
theorem dX0_driveMinutes_34 : decode cX0_driveMinutes 34 = .ok (.iaload, 1) := by decide +kernel
theorem dX0_driveMinutes_35 : decode cX0_driveMinutes 35 = .ok (.isub, 1) := by decide +kernel
theorem dX0_driveMinutes_36 : decode cX0_driveMinutes 36 = .ok (.invokestatic 193, 3) := by decide +kernel
theorem dX0_driveMinutes_39 : decode cX0_driveMinutes 39 = .ok (.aload_n 0, 1) := by decide +kernel
theorem dX0_driveMinutes_40 : decode cX0_driveMinutes 40 = .ok (.getfield 26, 3) := by decide +kernel
theorem dX0_driveMinutes_43 : decode cX0_driveMinutes 43 = .ok (.iload_n 1, 1) := by decide +kernel
theorem dX0_driveMinutes_44 : decode cX0_driveMinutes 44 = .ok (.iaload, 1) := by decide +kernel
theorem dX0_driveMinutes_45 : decode cX0_driveMinutes 45 = .ok (.aload_n 0, 1) := by decide +kernel
theorem dX0_driveMinutes_46 : decode cX0_driveMinutes 46 = .ok (.getfield 26, 3) := by decide +kernel
theorem dX0_driveMinutes_49 : decode cX0_driveMinutes 49 = .ok (.iload_n 2, 1) := by decide +kernel
theorem dX0_driveMinutes_50 : decode cX0_driveMinutes 50 = .ok (.iaload, 1) := by decide +kernel
theorem dX0_driveMinutes_51 : decode cX0_driveMinutes 51 = .ok (.isub, 1) := by decide +kernel
theorem dX0_driveMinutes_52 : decode cX0_driveMinutes 52 = .ok (.invokestatic 193, 3) := by decide +kernel
theorem dX0_driveMinutes_55 : decode cX0_driveMinutes 55 = .ok (.iadd, 1) := by decide +kernel
theorem dX0_driveMinutes_56 : decode cX0_driveMinutes 56 = .ok (.istore_n 3, 1) := by decide +kernel
theorem dX0_driveMinutes_57 : decode cX0_driveMinutes 57 = .ok (.iconst 1, 1) := by decide +kernel
theorem dX0_driveMinutes_58 : decode cX0_driveMinutes 58 = .ok (.iload_n 3, 1) := by decide +kernel
theorem dX0_driveMinutes_59 : decode cX0_driveMinutes 59 = .ok (.aload_n 0, 1) := by decide +kernel
theorem dX0_driveMinutes_60 : decode cX0_driveMinutes 60 = .ok (.getfield 18, 3) := by decide +kernel
theorem dX0_driveMinutes_63 : decode cX0_driveMinutes 63 = .ok (.iconst 0, 1) := by decide +kernel
theorem dX0_driveMinutes_64 : decode cX0_driveMinutes 64 = .ok (.iaload, 1) := by decide +kernel
theorem dX0_driveMinutes_65 : decode cX0_driveMinutes 65 = .ok (.imul, 1) := by decide +kernel
theorem dX0_driveMinutes_66 : decode cX0_driveMinutes 66 = .ok (.bipush 10, 2) := by decide +kernel
theorem dX0_driveMinutes_68 : decode cX0_driveMinutes 68 = .ok (.invokestatic 196, 3) := by decide +kernel
theorem dX0_driveMinutes_71 : decode cX0_driveMinutes 71 = .ok (.invokestatic 199, 3) := by decide +kernel
theorem dX0_driveMinutes_74 : decode cX0_driveMinutes 74 = .ok (.ireturn, 1) := by decide +kernel
theorem dX0_workingUnits_0 : decode cX0_workingUnits 0 = .ok (.iconst 0, 1) := by decide +kernel
theorem dX0_workingUnits_1 : decode cX0_workingUnits 1 = .ok (.istore_n 1, 1) := by decide +kernel
theorem dX0_workingUnits_2 : decode cX0_workingUnits 2 = .ok (.iconst 0, 1) := by decide +kernel
theorem dX0_workingUnits_3 : decode cX0_workingUnits 3 = .ok (.istore_n 2, 1) := by decide +kernel
theorem dX0_workingUnits_4 : decode cX0_workingUnits 4 = .ok (.iload_n 2, 1) := by decide +kernel
theorem dX0_workingUnits_5 : decode cX0_workingUnits 5 = .ok (.aload_n 0, 1) := by decide +kernel
theorem dX0_workingUnits_6 : decode cX0_workingUnits 6 = .ok (.getfield 66, 3) := by decide +kernel
theorem dX0_workingUnits_9 : decode cX0_workingUnits 9 = .ok (.if_icmp .ge 24, 3) := by decide +kernel
theorem dX0_workingUnits_12 : decode cX0_workingUnits 12 = .ok (.aload_n 0, 1) := by decide +kernel
theorem dX0_workingUnits_13 : decode cX0_workingUnits 13 = .ok (.getfield 43, 3) := by decide +kernel
theorem dX0_workingUnits_16 : decode cX0_workingUnits 16 = .ok (.iload_n 2, 1) := by decide +kernel
theorem dX0_workingUnits_17 : decode cX0_workingUnits 17 = .ok (.aaload, 1) := by decide +kernel
theorem dX0_workingUnits_18 : decode cX0_workingUnits 18 = .ok (.getfield 142, 3) := by decide +kernel
theorem dX0_workingUnits_21 : decode cX0_workingUnits 21 = .ok (.ifCond .ne 6, 3) := by decide +kernel
theorem dX0_workingUnits_24 : decode cX0_workingUnits 24 = .ok (.iinc 1 1, 3) := by decide +kernel
theorem dX0_workingUnits_27 : decode cX0_workingUnits 27 = .ok (.iinc 2 1, 3) := by decide +kernel
theorem dX0_workingUnits_30 : decode cX0_workingUnits 30 = .ok (.goto (-26), 3) := by decide +kernel
theorem dX0_workingUnits_33 : decode cX0_workingUnits 33 = .ok (.iload_n 1, 1) := by decide +kernel
theorem dX0_workingUnits_34 : decode cX0_workingUnits 34 = .ok (.ireturn, 1) := by decide +kernel
theorem dX0_people_0 : decode cX0_people 0 = .ok (.iconst 0, 1) := by decide +kernel
theorem dX0_people_1 : decode cX0_people 1 = .ok (.istore_n 1, 1) := by decide +kernel
theorem dX0_people_2 : decode cX0_people 2 = .ok (.iconst 0, 1) := by decide +kernel
theorem dX0_people_3 : decode cX0_people 3 = .ok (.istore_n 2, 1) := by decide +kernel
theorem dX0_people_4 : decode cX0_people 4 = .ok (.iload_n 2, 1) := by decide +kernel
theorem dX0_people_5 : decode cX0_people 5 = .ok (.aload_n 0, 1) := by decide +kernel
theorem dX0_people_6 : decode cX0_people 6 = .ok (.getfield 66, 3) := by decide +kernel
theorem dX0_people_9 : decode cX0_people 9 = .ok (.if_icmp .ge 21, 3) := by decide +kernel
theorem dX0_people_12 : decode cX0_people 12 = .ok (.iload_n 1, 1) := by decide +kernel
theorem dX0_people_13 : decode cX0_people 13 = .ok (.aload_n 0, 1) := by decide +kernel
theorem dX0_people_14 : decode cX0_people 14 = .ok (.getfield 43, 3) := by decide +kernel
theorem dX0_people_17 : decode cX0_people 17 = .ok (.iload_n 2, 1) := by decide +kernel
theorem dX0_people_18 : decode cX0_people 18 = .ok (.aaload, 1) := by decide +kernel
theorem dX0_people_19 : decode cX0_people 19 = .ok (.getfield 90, 3) := by decide +kernel
theorem dX0_people_22 : decode cX0_people 22 = .ok (.iadd, 1) := by decide +kernel
theorem dX0_people_23 : decode cX0_people 23 = .ok (.istore_n 1, 1) := by decide +kernel
theorem dX0_people_24 : decode cX0_people 24 = .ok (.iinc 2 1, 3) := by decide +kernel
theorem dX0_people_27 : decode cX0_people 27 = .ok (.goto (-23), 3) := by decide +kernel
theorem dX0_people_30 : decode cX0_people 30 = .ok (.iload_n 1, 1) := by decide +kernel
theorem dX0_people_31 : decode cX0_people 31 = .ok (.ireturn, 1) := by decide +kernel
theorem dX0_cooked_0 : decode cX0_cooked 0 = .ok (.iconst 0, 1) := by decide +kernel
theorem dX0_cooked_1 : decode cX0_cooked 1 = .ok (.istore_n 1, 1) := by decide +kernel
theorem dX0_cooked_2 : decode cX0_cooked 2 = .ok (.iconst 0, 1) := by decide +kernel
theorem dX0_cooked_3 : decode cX0_cooked 3 = .ok (.istore_n 2, 1) := by decide +kernel
theorem dX0_cooked_4 : decode cX0_cooked 4 = .ok (.iload_n 2, 1) := by decide +kernel
theorem dX0_cooked_5 : decode cX0_cooked 5 = .ok (.aload_n 0, 1) := by decide +kernel
theorem dX0_cooked_6 : decode cX0_cooked 6 = .ok (.getfield 60, 3) := by decide +kernel
theorem dX0_cooked_9 : decode cX0_cooked 9 = .ok (.if_icmp .ge 21, 3) := by decide +kernel
theorem dX0_cooked_12 : decode cX0_cooked 12 = .ok (.iload_n 1, 1) := by decide +kernel
theorem dX0_cooked_13 : decode cX0_cooked 13 = .ok (.aload_n 0, 1) := by decide +kernel
theorem dX0_cooked_14 : decode cX0_cooked 14 = .ok (.getfield 31, 3) := by decide +kernel
theorem dX0_cooked_17 : decode cX0_cooked 17 = .ok (.iload_n 2, 1) := by decide +kernel
theorem dX0_cooked_18 : decode cX0_cooked 18 = .ok (.aaload, 1) := by decide +kernel
theorem dX0_cooked_19 : decode cX0_cooked 19 = .ok (.getfield 222, 3) := by decide +kernel
theorem dX0_cooked_22 : decode cX0_cooked 22 = .ok (.iadd, 1) := by decide +kernel
theorem dX0_cooked_23 : decode cX0_cooked 23 = .ok (.istore_n 1, 1) := by decide +kernel
theorem dX0_cooked_24 : decode cX0_cooked 24 = .ok (.iinc 2 1, 3) := by decide +kernel
theorem dX0_cooked_27 : decode cX0_cooked 27 = .ok (.goto (-23), 3) := by decide +kernel
theorem dX0_cooked_30 : decode cX0_cooked 30 = .ok (.iload_n 1, 1) := by decide +kernel
theorem dX0_cooked_31 : decode cX0_cooked 31 = .ok (.ireturn, 1) := by decide +kernel
theorem dX0_served_0 : decode cX0_served 0 = .ok (.iconst 0, 1) := by decide +kernel
theorem dX0_served_1 : decode cX0_served 1 = .ok (.istore_n 1, 1) := by decide +kernel
theorem dX0_served_2 : decode cX0_served 2 = .ok (.iconst 0, 1) := by decide +kernel
theorem dX0_served_3 : decode cX0_served 3 = .ok (.istore_n 2, 1) := by decide +kernel
theorem dX0_served_4 : decode cX0_served 4 = .ok (.iload_n 2, 1) := by decide +kernel
theorem dX0_served_5 : decode cX0_served 5 = .ok (.aload_n 0, 1) := by decide +kernel
theorem dX0_served_6 : decode cX0_served 6 = .ok (.getfield 66, 3) := by decide +kernel
theorem dX0_served_9 : decode cX0_served 9 = .ok (.if_icmp .ge 21, 3) := by decide +kernel
theorem dX0_served_12 : decode cX0_served 12 = .ok (.iload_n 1, 1) := by decide +kernel
theorem dX0_served_13 : decode cX0_served 13 = .ok (.aload_n 0, 1) := by decide +kernel
theorem dX0_served_14 : decode cX0_served 14 = .ok (.getfield 43, 3) := by decide +kernel
theorem dX0_served_17 : decode cX0_served 17 = .ok (.iload_n 2, 1) := by decide +kernel
theorem dX0_served_18 : decode cX0_served 18 = .ok (.aaload, 1) := by decide +kernel
theorem dX0_served_19 : decode cX0_served 19 = .ok (.getfield 225, 3) := by decide +kernel
theorem dX0_served_22 : decode cX0_served 22 = .ok (.iadd, 1) := by decide +kernel
theorem dX0_served_23 : decode cX0_served 23 = .ok (.istore_n 1, 1) := by decide +kernel
theorem dX0_served_24 : decode cX0_served 24 = .ok (.iinc 2 1, 3) := by decide +kernel
theorem dX0_served_27 : decode cX0_served 27 = .ok (.goto (-23), 3) := by decide +kernel
theorem dX0_served_30 : decode cX0_served 30 = .ok (.iload_n 1, 1) := by decide +kernel
theorem dX0_served_31 : decode cX0_served 31 = .ok (.ireturn, 1) := by decide +kernel
theorem dX0_thrown_0 : decode cX0_thrown 0 = .ok (.iconst 0, 1) := by decide +kernel
theorem dX0_thrown_1 : decode cX0_thrown 1 = .ok (.istore_n 1, 1) := by decide +kernel
theorem dX0_thrown_2 : decode cX0_thrown 2 = .ok (.iconst 0, 1) := by decide +kernel
theorem dX0_thrown_3 : decode cX0_thrown 3 = .ok (.istore_n 2, 1) := by decide +kernel
theorem dX0_thrown_4 : decode cX0_thrown 4 = .ok (.iload_n 2, 1) := by decide +kernel
theorem dX0_thrown_5 : decode cX0_thrown 5 = .ok (.aload_n 0, 1) := by decide +kernel
theorem dX0_thrown_6 : decode cX0_thrown 6 = .ok (.getfield 60, 3) := by decide +kernel
theorem dX0_thrown_9 : decode cX0_thrown 9 = .ok (.if_icmp .ge 21, 3) := by decide +kernel
theorem dX0_thrown_12 : decode cX0_thrown 12 = .ok (.iload_n 1, 1) := by decide +kernel
theorem dX0_thrown_13 : decode cX0_thrown 13 = .ok (.aload_n 0, 1) := by decide +kernel
theorem dX0_thrown_14 : decode cX0_thrown 14 = .ok (.getfield 31, 3) := by decide +kernel
theorem dX0_thrown_17 : decode cX0_thrown 17 = .ok (.iload_n 2, 1) := by decide +kernel
theorem dX0_thrown_18 : decode cX0_thrown 18 = .ok (.aaload, 1) := by decide +kernel
theorem dX0_thrown_19 : decode cX0_thrown 19 = .ok (.getfield 127, 3) := by decide +kernel
theorem dX0_thrown_22 : decode cX0_thrown 22 = .ok (.iadd, 1) := by decide +kernel
theorem dX0_thrown_23 : decode cX0_thrown 23 = .ok (.istore_n 1, 1) := by decide +kernel
theorem dX0_thrown_24 : decode cX0_thrown 24 = .ok (.iinc 2 1, 3) := by decide +kernel
theorem dX0_thrown_27 : decode cX0_thrown 27 = .ok (.goto (-23), 3) := by decide +kernel
theorem dX0_thrown_30 : decode cX0_thrown 30 = .ok (.iconst 0, 1) := by decide +kernel
theorem dX0_thrown_31 : decode cX0_thrown 31 = .ok (.istore_n 2, 1) := by decide +kernel
theorem dX0_thrown_32 : decode cX0_thrown 32 = .ok (.iload_n 2, 1) := by decide +kernel
theorem dX0_thrown_33 : decode cX0_thrown 33 = .ok (.aload_n 0, 1) := by decide +kernel
theorem dX0_thrown_34 : decode cX0_thrown 34 = .ok (.getfield 63, 3) := by decide +kernel
theorem dX0_thrown_37 : decode cX0_thrown 37 = .ok (.if_icmp .ge 21, 3) := by decide +kernel
theorem dX0_thrown_40 : decode cX0_thrown 40 = .ok (.iload_n 1, 1) := by decide +kernel
theorem dX0_thrown_41 : decode cX0_thrown 41 = .ok (.aload_n 0, 1) := by decide +kernel
theorem dX0_thrown_42 : decode cX0_thrown 42 = .ok (.getfield 37, 3) := by decide +kernel
theorem dX0_thrown_45 : decode cX0_thrown 45 = .ok (.iload_n 2, 1) := by decide +kernel
theorem dX0_thrown_46 : decode cX0_thrown 46 = .ok (.aaload, 1) := by decide +kernel
theorem dX0_thrown_47 : decode cX0_thrown 47 = .ok (.getfield 140, 3) := by decide +kernel
theorem dX0_thrown_50 : decode cX0_thrown 50 = .ok (.iadd, 1) := by decide +kernel
theorem dX0_thrown_51 : decode cX0_thrown 51 = .ok (.istore_n 1, 1) := by decide +kernel
theorem dX0_thrown_52 : decode cX0_thrown 52 = .ok (.iinc 2 1, 3) := by decide +kernel
theorem dX0_thrown_55 : decode cX0_thrown 55 = .ok (.goto (-23), 3) := by decide +kernel
theorem dX0_thrown_58 : decode cX0_thrown 58 = .ok (.iload_n 1, 1) := by decide +kernel
theorem dX0_thrown_59 : decode cX0_thrown 59 = .ok (.ireturn, 1) := by decide +kernel
theorem dX0_mealsInKitchens_0 : decode cX0_mealsInKitchens 0 = .ok (.iconst 0, 1) := by decide +kernel
theorem dX0_mealsInKitchens_1 : decode cX0_mealsInKitchens 1 = .ok (.istore_n 1, 1) := by decide +kernel
theorem dX0_mealsInKitchens_2 : decode cX0_mealsInKitchens 2 = .ok (.iconst 0, 1) := by decide +kernel
theorem dX0_mealsInKitchens_3 : decode cX0_mealsInKitchens 3 = .ok (.istore_n 2, 1) := by decide +kernel
theorem dX0_mealsInKitchens_4 : decode cX0_mealsInKitchens 4 = .ok (.iload_n 2, 1) := by decide +kernel
theorem dX0_mealsInKitchens_5 : decode cX0_mealsInKitchens 5 = .ok (.aload_n 0, 1) := by decide +kernel
theorem dX0_mealsInKitchens_6 : decode cX0_mealsInKitchens 6 = .ok (.getfield 60, 3) := by decide +kernel
theorem dX0_mealsInKitchens_9 : decode cX0_mealsInKitchens 9 = .ok (.if_icmp .ge 24, 3) := by decide +kernel
theorem dX0_mealsInKitchens_12 : decode cX0_mealsInKitchens 12 = .ok (.iload_n 1, 1) := by decide +kernel
theorem dX0_mealsInKitchens_13 : decode cX0_mealsInKitchens 13 = .ok (.aload_n 0, 1) := by decide +kernel
theorem dX0_mealsInKitchens_14 : decode cX0_mealsInKitchens 14 = .ok (.getfield 31, 3) := by decide +kernel
theorem dX0_mealsInKitchens_17 : decode cX0_mealsInKitchens 17 = .ok (.iload_n 2, 1) := by decide +kernel
theorem dX0_mealsInKitchens_18 : decode cX0_mealsInKitchens 18 = .ok (.aaload, 1) := by decide +kernel
theorem dX0_mealsInKitchens_19 : decode cX0_mealsInKitchens 19 = .ok (.getfield 130, 3) := by decide +kernel
theorem dX0_mealsInKitchens_22 : decode cX0_mealsInKitchens 22 = .ok (.invokevirtual 219, 3) := by decide +kernel
theorem dX0_mealsInKitchens_25 : decode cX0_mealsInKitchens 25 = .ok (.iadd, 1) := by decide +kernel
theorem dX0_mealsInKitchens_26 : decode cX0_mealsInKitchens 26 = .ok (.istore_n 1, 1) := by decide +kernel
theorem dX0_mealsInKitchens_27 : decode cX0_mealsInKitchens 27 = .ok (.iinc 2 1, 3) := by decide +kernel
theorem dX0_mealsInKitchens_30 : decode cX0_mealsInKitchens 30 = .ok (.goto (-26), 3) := by decide +kernel
theorem dX0_mealsInKitchens_33 : decode cX0_mealsInKitchens 33 = .ok (.iload_n 1, 1) := by decide +kernel
theorem dX0_mealsInKitchens_34 : decode cX0_mealsInKitchens 34 = .ok (.ireturn, 1) := by decide +kernel
theorem dX0_mealsInLorries_0 : decode cX0_mealsInLorries 0 = .ok (.iconst 0, 1) := by decide +kernel
theorem dX0_mealsInLorries_1 : decode cX0_mealsInLorries 1 = .ok (.istore_n 1, 1) := by decide +kernel
theorem dX0_mealsInLorries_2 : decode cX0_mealsInLorries 2 = .ok (.iconst 0, 1) := by decide +kernel
theorem dX0_mealsInLorries_3 : decode cX0_mealsInLorries 3 = .ok (.istore_n 2, 1) := by decide +kernel
theorem dX0_mealsInLorries_4 : decode cX0_mealsInLorries 4 = .ok (.iload_n 2, 1) := by decide +kernel
theorem dX0_mealsInLorries_5 : decode cX0_mealsInLorries 5 = .ok (.aload_n 0, 1) := by decide +kernel
theorem dX0_mealsInLorries_6 : decode cX0_mealsInLorries 6 = .ok (.getfield 63, 3) := by decide +kernel
theorem dX0_mealsInLorries_9 : decode cX0_mealsInLorries 9 = .ok (.if_icmp .ge 24, 3) := by decide +kernel
theorem dX0_mealsInLorries_12 : decode cX0_mealsInLorries 12 = .ok (.iload_n 1, 1) := by decide +kernel
theorem dX0_mealsInLorries_13 : decode cX0_mealsInLorries 13 = .ok (.aload_n 0, 1) := by decide +kernel
theorem dX0_mealsInLorries_14 : decode cX0_mealsInLorries 14 = .ok (.getfield 37, 3) := by decide +kernel
theorem dX0_mealsInLorries_17 : decode cX0_mealsInLorries 17 = .ok (.iload_n 2, 1) := by decide +kernel
theorem dX0_mealsInLorries_18 : decode cX0_mealsInLorries 18 = .ok (.aaload, 1) := by decide +kernel
theorem dX0_mealsInLorries_19 : decode cX0_mealsInLorries 19 = .ok (.getfield 141, 3) := by decide +kernel
theorem dX0_mealsInLorries_22 : decode cX0_mealsInLorries 22 = .ok (.invokevirtual 219, 3) := by decide +kernel
theorem dX0_mealsInLorries_25 : decode cX0_mealsInLorries 25 = .ok (.iadd, 1) := by decide +kernel
theorem dX0_mealsInLorries_26 : decode cX0_mealsInLorries 26 = .ok (.istore_n 1, 1) := by decide +kernel
theorem dX0_mealsInLorries_27 : decode cX0_mealsInLorries 27 = .ok (.iinc 2 1, 3) := by decide +kernel
theorem dX0_mealsInLorries_30 : decode cX0_mealsInLorries 30 = .ok (.goto (-26), 3) := by decide +kernel
theorem dX0_mealsInLorries_33 : decode cX0_mealsInLorries 33 = .ok (.iload_n 1, 1) := by decide +kernel
theorem dX0_mealsInLorries_34 : decode cX0_mealsInLorries 34 = .ok (.ireturn, 1) := by decide +kernel
theorem dX0_owed_0 : decode cX0_owed 0 = .ok (.iconst 0, 1) := by decide +kernel
theorem dX0_owed_1 : decode cX0_owed 1 = .ok (.istore_n 1, 1) := by decide +kernel
theorem dX0_owed_2 : decode cX0_owed 2 = .ok (.iconst 0, 1) := by decide +kernel
theorem dX0_owed_3 : decode cX0_owed 3 = .ok (.istore_n 2, 1) := by decide +kernel
theorem dX0_owed_4 : decode cX0_owed 4 = .ok (.iload_n 2, 1) := by decide +kernel
theorem dX0_owed_5 : decode cX0_owed 5 = .ok (.aload_n 0, 1) := by decide +kernel
theorem dX0_owed_6 : decode cX0_owed 6 = .ok (.getfield 66, 3) := by decide +kernel
theorem dX0_owed_9 : decode cX0_owed 9 = .ok (.if_icmp .ge 21, 3) := by decide +kernel
theorem dX0_owed_12 : decode cX0_owed 12 = .ok (.iload_n 1, 1) := by decide +kernel
theorem dX0_owed_13 : decode cX0_owed 13 = .ok (.aload_n 0, 1) := by decide +kernel
theorem dX0_owed_14 : decode cX0_owed 14 = .ok (.getfield 43, 3) := by decide +kernel
theorem dX0_owed_17 : decode cX0_owed 17 = .ok (.iload_n 2, 1) := by decide +kernel
theorem dX0_owed_18 : decode cX0_owed 18 = .ok (.aaload, 1) := by decide +kernel
theorem dX0_owed_19 : decode cX0_owed 19 = .ok (.invokevirtual 149, 3) := by decide +kernel
theorem dX0_owed_22 : decode cX0_owed 22 = .ok (.iadd, 1) := by decide +kernel
theorem dX0_owed_23 : decode cX0_owed 23 = .ok (.istore_n 1, 1) := by decide +kernel
theorem dX0_owed_24 : decode cX0_owed 24 = .ok (.iinc 2 1, 3) := by decide +kernel
theorem dX0_owed_27 : decode cX0_owed 27 = .ok (.goto (-23), 3) := by decide +kernel
theorem dX0_owed_30 : decode cX0_owed 30 = .ok (.iload_n 1, 1) := by decide +kernel
theorem dX0_owed_31 : decode cX0_owed 31 = .ok (.ireturn, 1) := by decide +kernel
theorem dX0_cancelled_0 : decode cX0_cancelled 0 = .ok (.iconst 0, 1) := by decide +kernel
theorem dX0_cancelled_1 : decode cX0_cancelled 1 = .ok (.istore_n 1, 1) := by decide +kernel
theorem dX0_cancelled_2 : decode cX0_cancelled 2 = .ok (.iconst 0, 1) := by decide +kernel
theorem dX0_cancelled_3 : decode cX0_cancelled 3 = .ok (.istore_n 2, 1) := by decide +kernel
theorem dX0_cancelled_4 : decode cX0_cancelled 4 = .ok (.iload_n 2, 1) := by decide +kernel
theorem dX0_cancelled_5 : decode cX0_cancelled 5 = .ok (.aload_n 0, 1) := by decide +kernel
theorem dX0_cancelled_6 : decode cX0_cancelled 6 = .ok (.getfield 66, 3) := by decide +kernel
theorem dX0_cancelled_9 : decode cX0_cancelled 9 = .ok (.if_icmp .ge 21, 3) := by decide +kernel
theorem dX0_cancelled_12 : decode cX0_cancelled 12 = .ok (.iload_n 1, 1) := by decide +kernel
theorem dX0_cancelled_13 : decode cX0_cancelled 13 = .ok (.aload_n 0, 1) := by decide +kernel
theorem dX0_cancelled_14 : decode cX0_cancelled 14 = .ok (.getfield 43, 3) := by decide +kernel
theorem dX0_cancelled_17 : decode cX0_cancelled 17 = .ok (.iload_n 2, 1) := by decide +kernel
theorem dX0_cancelled_18 : decode cX0_cancelled 18 = .ok (.aaload, 1) := by decide +kernel
theorem dX0_cancelled_19 : decode cX0_cancelled 19 = .ok (.getfield 226, 3) := by decide +kernel
theorem dX0_cancelled_22 : decode cX0_cancelled 22 = .ok (.iadd, 1) := by decide +kernel
theorem dX0_cancelled_23 : decode cX0_cancelled 23 = .ok (.istore_n 1, 1) := by decide +kernel
theorem dX0_cancelled_24 : decode cX0_cancelled 24 = .ok (.iinc 2 1, 3) := by decide +kernel
theorem dX0_cancelled_27 : decode cX0_cancelled 27 = .ok (.goto (-23), 3) := by decide +kernel
theorem dX0_cancelled_30 : decode cX0_cancelled 30 = .ok (.iload_n 1, 1) := by decide +kernel
theorem dX0_cancelled_31 : decode cX0_cancelled 31 = .ok (.ireturn, 1) := by decide +kernel
theorem dX0_penalties_0 : decode cX0_penalties 0 = .ok (.iconst 0, 1) := by decide +kernel
theorem dX0_penalties_1 : decode cX0_penalties 1 = .ok (.istore_n 1, 1) := by decide +kernel
theorem dX0_penalties_2 : decode cX0_penalties 2 = .ok (.iconst 0, 1) := by decide +kernel
theorem dX0_penalties_3 : decode cX0_penalties 3 = .ok (.istore_n 2, 1) := by decide +kernel
theorem dX0_penalties_4 : decode cX0_penalties 4 = .ok (.iload_n 2, 1) := by decide +kernel
theorem dX0_penalties_5 : decode cX0_penalties 5 = .ok (.aload_n 0, 1) := by decide +kernel
theorem dX0_penalties_6 : decode cX0_penalties 6 = .ok (.getfield 66, 3) := by decide +kernel
theorem dX0_penalties_9 : decode cX0_penalties 9 = .ok (.if_icmp .ge 21, 3) := by decide +kernel
theorem dX0_penalties_12 : decode cX0_penalties 12 = .ok (.iload_n 1, 1) := by decide +kernel
theorem dX0_penalties_13 : decode cX0_penalties 13 = .ok (.aload_n 0, 1) := by decide +kernel
theorem dX0_penalties_14 : decode cX0_penalties 14 = .ok (.getfield 43, 3) := by decide +kernel
theorem dX0_penalties_17 : decode cX0_penalties 17 = .ok (.iload_n 2, 1) := by decide +kernel
theorem dX0_penalties_18 : decode cX0_penalties 18 = .ok (.aaload, 1) := by decide +kernel
theorem dX0_penalties_19 : decode cX0_penalties 19 = .ok (.getfield 181, 3) := by decide +kernel
theorem dX0_penalties_22 : decode cX0_penalties 22 = .ok (.iadd, 1) := by decide +kernel
theorem dX0_penalties_23 : decode cX0_penalties 23 = .ok (.istore_n 1, 1) := by decide +kernel
theorem dX0_penalties_24 : decode cX0_penalties 24 = .ok (.iinc 2 1, 3) := by decide +kernel
theorem dX0_penalties_27 : decode cX0_penalties 27 = .ok (.goto (-23), 3) := by decide +kernel
theorem dX0_penalties_30 : decode cX0_penalties 30 = .ok (.iload_n 1, 1) := by decide +kernel
theorem dX0_penalties_31 : decode cX0_penalties 31 = .ok (.ireturn, 1) := by decide +kernel
theorem dX1_init_0 : decode cX1_init 0 = .ok (.aload_n 0, 1) := by decide +kernel
theorem dX1_init_1 : decode cX1_init 1 = .ok (.invokespecial 3, 3) := by decide +kernel
theorem dX1_init_4 : decode cX1_init 4 = .ok (.aload_n 0, 1) := by decide +kernel
theorem dX1_init_5 : decode cX1_init 5 = .ok (.iconst 3, 1) := by decide +kernel
theorem dX1_init_6 : decode cX1_init 6 = .ok (.newarray .int, 2) := by decide +kernel
theorem dX1_init_8 : decode cX1_init 8 = .ok (.putfield 9, 3) := by decide +kernel
theorem dX1_init_11 : decode cX1_init 11 = .ok (.aload_n 0, 1) := by decide +kernel
theorem dX1_init_12 : decode cX1_init 12 = .ok (.iconst (-1), 1) := by decide +kernel
theorem dX1_init_13 : decode cX1_init 13 = .ok (.putfield 15, 3) := by decide +kernel
theorem dX1_init_16 : decode cX1_init 16 = .ok (.aload_n 0, 1) := by decide +kernel
theorem dX1_init_17 : decode cX1_init 17 = .ok (.new 19, 3) := by decide +kernel
theorem dX1_init_20 : decode cX1_init 20 = .ok (.dup, 1) := by decide +kernel
theorem dX1_init_21 : decode cX1_init 21 = .ok (.invokespecial 21, 3) := by decide +kernel
theorem dX1_init_24 : decode cX1_init 24 = .ok (.putfield 22, 3) := by decide +kernel
theorem dX1_init_27 : decode cX1_init 27 = .ok (.return_, 1) := by decide +kernel
theorem dX1_copyFrom_0 : decode cX1_copyFrom 0 = .ok (.aload_n 0, 1) := by decide +kernel
theorem dX1_copyFrom_1 : decode cX1_copyFrom 1 = .ok (.aload_n 1, 1) := by decide +kernel
theorem dX1_copyFrom_2 : decode cX1_copyFrom 2 = .ok (.getfield 26, 3) := by decide +kernel
theorem dX1_copyFrom_5 : decode cX1_copyFrom 5 = .ok (.putfield 26, 3) := by decide +kernel
theorem dX1_copyFrom_8 : decode cX1_copyFrom 8 = .ok (.aload_n 1, 1) := by decide +kernel
theorem dX1_copyFrom_9 : decode cX1_copyFrom 9 = .ok (.getfield 9, 3) := by decide +kernel
theorem dX1_copyFrom_12 : decode cX1_copyFrom 12 = .ok (.iconst 0, 1) := by decide +kernel
theorem dX1_copyFrom_13 : decode cX1_copyFrom 13 = .ok (.aload_n 0, 1) := by decide +kernel
theorem dX1_copyFrom_14 : decode cX1_copyFrom 14 = .ok (.getfield 9, 3) := by decide +kernel
theorem dX1_copyFrom_17 : decode cX1_copyFrom 17 = .ok (.iconst 0, 1) := by decide +kernel
theorem dX1_copyFrom_18 : decode cX1_copyFrom 18 = .ok (.iconst 3, 1) := by decide +kernel
theorem dX1_copyFrom_19 : decode cX1_copyFrom 19 = .ok (.invokestatic 29, 3) := by decide +kernel
theorem dX1_copyFrom_22 : decode cX1_copyFrom 22 = .ok (.aload_n 0, 1) := by decide +kernel
theorem dX1_copyFrom_23 : decode cX1_copyFrom 23 = .ok (.aload_n 1, 1) := by decide +kernel
theorem dX1_copyFrom_24 : decode cX1_copyFrom 24 = .ok (.getfield 15, 3) := by decide +kernel
theorem dX1_copyFrom_27 : decode cX1_copyFrom 27 = .ok (.putfield 15, 3) := by decide +kernel
theorem dX1_copyFrom_30 : decode cX1_copyFrom 30 = .ok (.aload_n 0, 1) := by decide +kernel
theorem dX1_copyFrom_31 : decode cX1_copyFrom 31 = .ok (.aload_n 1, 1) := by decide +kernel
theorem dX1_copyFrom_32 : decode cX1_copyFrom 32 = .ok (.getfield 35, 3) := by decide +kernel
theorem dX1_copyFrom_35 : decode cX1_copyFrom 35 = .ok (.putfield 35, 3) := by decide +kernel
theorem dX1_copyFrom_38 : decode cX1_copyFrom 38 = .ok (.aload_n 0, 1) := by decide +kernel
theorem dX1_copyFrom_39 : decode cX1_copyFrom 39 = .ok (.getfield 22, 3) := by decide +kernel
theorem dX1_copyFrom_42 : decode cX1_copyFrom 42 = .ok (.aload_n 1, 1) := by decide +kernel
theorem dX1_copyFrom_43 : decode cX1_copyFrom 43 = .ok (.getfield 22, 3) := by decide +kernel
theorem dX1_copyFrom_46 : decode cX1_copyFrom 46 = .ok (.invokevirtual 38, 3) := by decide +kernel
theorem dX1_copyFrom_49 : decode cX1_copyFrom 49 = .ok (.aload_n 0, 1) := by decide +kernel
theorem dX1_copyFrom_50 : decode cX1_copyFrom 50 = .ok (.aload_n 1, 1) := by decide +kernel
theorem dX1_copyFrom_51 : decode cX1_copyFrom 51 = .ok (.getfield 42, 3) := by decide +kernel
theorem dX1_copyFrom_54 : decode cX1_copyFrom 54 = .ok (.putfield 42, 3) := by decide +kernel
theorem dX1_copyFrom_57 : decode cX1_copyFrom 57 = .ok (.aload_n 0, 1) := by decide +kernel
theorem dX1_copyFrom_58 : decode cX1_copyFrom 58 = .ok (.aload_n 1, 1) := by decide +kernel
theorem dX1_copyFrom_59 : decode cX1_copyFrom 59 = .ok (.getfield 45, 3) := by decide +kernel
theorem dX1_copyFrom_62 : decode cX1_copyFrom 62 = .ok (.putfield 45, 3) := by decide +kernel
theorem dX1_copyFrom_65 : decode cX1_copyFrom 65 = .ok (.return_, 1) := by decide +kernel
theorem dX1_enoughFor_0 : decode cX1_enoughFor 0 = .ok (.sipush 300, 3) := by decide +kernel
theorem dX1_enoughFor_3 : decode cX1_enoughFor 3 = .ok (.istore_n 2, 1) := by decide +kernel
theorem dX1_enoughFor_4 : decode cX1_enoughFor 4 = .ok (.iconst 0, 1) := by decide +kernel
theorem dX1_enoughFor_5 : decode cX1_enoughFor 5 = .ok (.istore_n 3, 1) := by decide +kernel
theorem dX1_enoughFor_6 : decode cX1_enoughFor 6 = .ok (.iload_n 3, 1) := by decide +kernel
theorem dX1_enoughFor_7 : decode cX1_enoughFor 7 = .ok (.iconst 3, 1) := by decide +kernel
theorem dX1_enoughFor_8 : decode cX1_enoughFor 8 = .ok (.if_icmp .ge 39, 3) := by decide +kernel
theorem dX1_enoughFor_11 : decode cX1_enoughFor 11 = .ok (.getstatic 48, 3) := by decide +kernel
theorem dX1_enoughFor_14 : decode cX1_enoughFor 14 = .ok (.iload_n 1, 1) := by decide +kernel
theorem dX1_enoughFor_15 : decode cX1_enoughFor 15 = .ok (.iconst 3, 1) := by decide +kernel
theorem dX1_enoughFor_16 : decode cX1_enoughFor 16 = .ok (.imul, 1) := by decide +kernel
theorem dX1_enoughFor_17 : decode cX1_enoughFor 17 = .ok (.iload_n 3, 1) := by decide +kernel
theorem dX1_enoughFor_18 : decode cX1_enoughFor 18 = .ok (.iadd, 1) := by decide +kernel
theorem dX1_enoughFor_19 : decode cX1_enoughFor 19 = .ok (.iaload, 1) := by decide +kernel
theorem dX1_enoughFor_20 : decode cX1_enoughFor 20 = .ok (.istore 4, 2) := by decide +kernel
theorem dX1_enoughFor_22 : decode cX1_enoughFor 22 = .ok (.iload 4, 2) := by decide +kernel
theorem dX1_enoughFor_24 : decode cX1_enoughFor 24 = .ok (.ifCond .le 17, 3) := by decide +kernel
theorem dX1_enoughFor_27 : decode cX1_enoughFor 27 = .ok (.iload_n 2, 1) := by decide +kernel
theorem dX1_enoughFor_28 : decode cX1_enoughFor 28 = .ok (.aload_n 0, 1) := by decide +kernel
theorem dX1_enoughFor_29 : decode cX1_enoughFor 29 = .ok (.getfield 9, 3) := by decide +kernel
theorem dX1_enoughFor_32 : decode cX1_enoughFor 32 = .ok (.iload_n 3, 1) := by decide +kernel
theorem dX1_enoughFor_33 : decode cX1_enoughFor 33 = .ok (.iaload, 1) := by decide +kernel
theorem dX1_enoughFor_34 : decode cX1_enoughFor 34 = .ok (.iload 4, 2) := by decide +kernel
theorem dX1_enoughFor_36 : decode cX1_enoughFor 36 = .ok (.idiv, 1) := by decide +kernel
theorem dX1_enoughFor_37 : decode cX1_enoughFor 37 = .ok (.invokestatic 51, 3) := by decide +kernel
theorem dX1_enoughFor_40 : decode cX1_enoughFor 40 = .ok (.istore_n 2, 1) := by decide +kernel
theorem dX1_enoughFor_41 : decode cX1_enoughFor 41 = .ok (.iinc 3 1, 3) := by decide +kernel
theorem dX1_enoughFor_44 : decode cX1_enoughFor 44 = .ok (.goto (-38), 3) := by decide +kernel
theorem dX1_enoughFor_47 : decode cX1_enoughFor 47 = .ok (.iload_n 2, 1) := by decide +kernel
theorem dX1_enoughFor_48 : decode cX1_enoughFor 48 = .ok (.ireturn, 1) := by decide +kernel
theorem dX1_fillPot_0 : decode cX1_fillPot 0 = .ok (.iconst 0, 1) := by decide +kernel
theorem dX1_fillPot_1 : decode cX1_fillPot 1 = .ok (.istore_n 3, 1) := by decide +kernel
theorem dX1_fillPot_2 : decode cX1_fillPot 2 = .ok (.iload_n 3, 1) := by decide +kernel
theorem dX1_fillPot_3 : decode cX1_fillPot 3 = .ok (.iconst 3, 1) := by decide +kernel
theorem dX1_fillPot_4 : decode cX1_fillPot 4 = .ok (.if_icmp .ge 29, 3) := by decide +kernel
theorem dX1_fillPot_7 : decode cX1_fillPot 7 = .ok (.aload_n 0, 1) := by decide +kernel
theorem dX1_fillPot_8 : decode cX1_fillPot 8 = .ok (.getfield 9, 3) := by decide +kernel
theorem dX1_fillPot_11 : decode cX1_fillPot 11 = .ok (.iload_n 3, 1) := by decide +kernel
theorem dX1_fillPot_12 : decode cX1_fillPot 12 = .ok (.dup2, 1) := by decide +kernel
theorem dX1_fillPot_13 : decode cX1_fillPot 13 = .ok (.iaload, 1) := by decide +kernel
theorem dX1_fillPot_14 : decode cX1_fillPot 14 = .ok (.iload_n 2, 1) := by decide +kernel
theorem dX1_fillPot_15 : decode cX1_fillPot 15 = .ok (.getstatic 48, 3) := by decide +kernel
theorem dX1_fillPot_18 : decode cX1_fillPot 18 = .ok (.iload_n 1, 1) := by decide +kernel
theorem dX1_fillPot_19 : decode cX1_fillPot 19 = .ok (.iconst 3, 1) := by decide +kernel
theorem dX1_fillPot_20 : decode cX1_fillPot 20 = .ok (.imul, 1) := by decide +kernel
theorem dX1_fillPot_21 : decode cX1_fillPot 21 = .ok (.iload_n 3, 1) := by decide +kernel
theorem dX1_fillPot_22 : decode cX1_fillPot 22 = .ok (.iadd, 1) := by decide +kernel
theorem dX1_fillPot_23 : decode cX1_fillPot 23 = .ok (.iaload, 1) := by decide +kernel
theorem dX1_fillPot_24 : decode cX1_fillPot 24 = .ok (.imul, 1) := by decide +kernel
theorem dX1_fillPot_25 : decode cX1_fillPot 25 = .ok (.isub, 1) := by decide +kernel
theorem dX1_fillPot_26 : decode cX1_fillPot 26 = .ok (.iastore, 1) := by decide +kernel
theorem dX1_fillPot_27 : decode cX1_fillPot 27 = .ok (.iinc 3 1, 3) := by decide +kernel
theorem dX1_fillPot_30 : decode cX1_fillPot 30 = .ok (.goto (-28), 3) := by decide +kernel
theorem dX1_fillPot_33 : decode cX1_fillPot 33 = .ok (.aload_n 0, 1) := by decide +kernel
theorem dX1_fillPot_34 : decode cX1_fillPot 34 = .ok (.iload_n 1, 1) := by decide +kernel
theorem dX1_fillPot_35 : decode cX1_fillPot 35 = .ok (.putfield 15, 3) := by decide +kernel
theorem dX1_fillPot_38 : decode cX1_fillPot 38 = .ok (.aload_n 0, 1) := by decide +kernel
theorem dX1_fillPot_39 : decode cX1_fillPot 39 = .ok (.iload_n 2, 1) := by decide +kernel
theorem dX1_fillPot_40 : decode cX1_fillPot 40 = .ok (.putfield 35, 3) := by decide +kernel
theorem dX1_fillPot_43 : decode cX1_fillPot 43 = .ok (.return_, 1) := by decide +kernel
theorem dX1_cookMinute_0 : decode cX1_cookMinute 0 = .ok (.aload_n 0, 1) := by decide +kernel
theorem dX1_cookMinute_1 : decode cX1_cookMinute 1 = .ok (.getfield 35, 3) := by decide +kernel
theorem dX1_cookMinute_4 : decode cX1_cookMinute 4 = .ok (.ifCond .le 57, 3) := by decide +kernel
theorem dX1_cookMinute_7 : decode cX1_cookMinute 7 = .ok (.iload_n 2, 1) := by decide +kernel
theorem dX1_cookMinute_8 : decode cX1_cookMinute 8 = .ok (.aload_n 0, 1) := by decide +kernel
theorem dX1_cookMinute_9 : decode cX1_cookMinute 9 = .ok (.getfield 35, 3) := by decide +kernel
theorem dX1_cookMinute_12 : decode cX1_cookMinute 12 = .ok (.invokestatic 51, 3) := by decide +kernel
theorem dX1_cookMinute_15 : decode cX1_cookMinute 15 = .ok (.istore_n 3, 1) := by decide +kernel
theorem dX1_cookMinute_16 : decode cX1_cookMinute 16 = .ok (.aload_n 0, 1) := by decide +kernel
theorem dX1_cookMinute_17 : decode cX1_cookMinute 17 = .ok (.getfield 22, 3) := by decide +kernel
theorem dX1_cookMinute_20 : decode cX1_cookMinute 20 = .ok (.aload_n 0, 1) := by decide +kernel
theorem dX1_cookMinute_21 : decode cX1_cookMinute 21 = .ok (.getfield 15, 3) := by decide +kernel
theorem dX1_cookMinute_24 : decode cX1_cookMinute 24 = .ok (.iload_n 1, 1) := by decide +kernel
theorem dX1_cookMinute_25 : decode cX1_cookMinute 25 = .ok (.iload_n 3, 1) := by decide +kernel
theorem dX1_cookMinute_26 : decode cX1_cookMinute 26 = .ok (.invokevirtual 57, 3) := by decide +kernel
theorem dX1_cookMinute_29 : decode cX1_cookMinute 29 = .ok (.aload_n 0, 1) := by decide +kernel
theorem dX1_cookMinute_30 : decode cX1_cookMinute 30 = .ok (.dup, 1) := by decide +kernel
theorem dX1_cookMinute_31 : decode cX1_cookMinute 31 = .ok (.getfield 42, 3) := by decide +kernel
theorem dX1_cookMinute_34 : decode cX1_cookMinute 34 = .ok (.iload_n 3, 1) := by decide +kernel
theorem dX1_cookMinute_35 : decode cX1_cookMinute 35 = .ok (.iadd, 1) := by decide +kernel
theorem dX1_cookMinute_36 : decode cX1_cookMinute 36 = .ok (.putfield 42, 3) := by decide +kernel
theorem dX1_cookMinute_39 : decode cX1_cookMinute 39 = .ok (.aload_n 0, 1) := by decide +kernel
theorem dX1_cookMinute_40 : decode cX1_cookMinute 40 = .ok (.dup, 1) := by decide +kernel
theorem dX1_cookMinute_41 : decode cX1_cookMinute 41 = .ok (.getfield 35, 3) := by decide +kernel
theorem dX1_cookMinute_44 : decode cX1_cookMinute 44 = .ok (.iload_n 3, 1) := by decide +kernel
theorem dX1_cookMinute_45 : decode cX1_cookMinute 45 = .ok (.isub, 1) := by decide +kernel
theorem dX1_cookMinute_46 : decode cX1_cookMinute 46 = .ok (.putfield 35, 3) := by decide +kernel
theorem dX1_cookMinute_49 : decode cX1_cookMinute 49 = .ok (.aload_n 0, 1) := by decide +kernel
theorem dX1_cookMinute_50 : decode cX1_cookMinute 50 = .ok (.getfield 35, 3) := by decide +kernel
theorem dX1_cookMinute_53 : decode cX1_cookMinute 53 = .ok (.ifCond .ne 8, 3) := by decide +kernel
theorem dX1_cookMinute_56 : decode cX1_cookMinute 56 = .ok (.aload_n 0, 1) := by decide +kernel
theorem dX1_cookMinute_57 : decode cX1_cookMinute 57 = .ok (.iconst (-1), 1) := by decide +kernel
theorem dX1_cookMinute_58 : decode cX1_cookMinute 58 = .ok (.putfield 15, 3) := by decide +kernel
theorem dX1_cookMinute_61 : decode cX1_cookMinute 61 = .ok (.return_, 1) := by decide +kernel
theorem dX1_property_0 : decode cX1_property 0 = .ok (.iload_n 1, 1) := by decide +kernel
theorem dX1_property_1 : decode cX1_property 1 = .ok (.tableswitch 122 0 10 #[59, 64, 71, 78, 85, 90, 95, 95, 95, 108, 117], 59) := by decide +kernel
theorem dX1_property_60 : decode cX1_property 60 = .ok (.aload_n 0, 1) := by decide +kernel
theorem dX1_property_61 : decode cX1_property 61 = .ok (.getfield 26, 3) := by decide +kernel
theorem dX1_property_64 : decode cX1_property 64 = .ok (.ireturn, 1) := by decide +kernel
theorem dX1_property_65 : decode cX1_property 65 = .ok (.aload_n 0, 1) := by decide +kernel
theorem dX1_property_66 : decode cX1_property 66 = .ok (.getfield 9, 3) := by decide +kernel
theorem dX1_property_69 : decode cX1_property 69 = .ok (.iconst 0, 1) := by decide +kernel
theorem dX1_property_70 : decode cX1_property 70 = .ok (.iaload, 1) := by decide +kernel
theorem dX1_property_71 : decode cX1_property 71 = .ok (.ireturn, 1) := by decide +kernel
theorem dX1_property_72 : decode cX1_property 72 = .ok (.aload_n 0, 1) := by decide +kernel
theorem dX1_property_73 : decode cX1_property 73 = .ok (.getfield 9, 3) := by decide +kernel
theorem dX1_property_76 : decode cX1_property 76 = .ok (.iconst 1, 1) := by decide +kernel
theorem dX1_property_77 : decode cX1_property 77 = .ok (.iaload, 1) := by decide +kernel
theorem dX1_property_78 : decode cX1_property 78 = .ok (.ireturn, 1) := by decide +kernel
theorem dX1_property_79 : decode cX1_property 79 = .ok (.aload_n 0, 1) := by decide +kernel
theorem dX1_property_80 : decode cX1_property 80 = .ok (.getfield 9, 3) := by decide +kernel
theorem dX1_property_83 : decode cX1_property 83 = .ok (.iconst 2, 1) := by decide +kernel
theorem dX1_property_84 : decode cX1_property 84 = .ok (.iaload, 1) := by decide +kernel
theorem dX1_property_85 : decode cX1_property 85 = .ok (.ireturn, 1) := by decide +kernel
theorem dX1_property_86 : decode cX1_property 86 = .ok (.aload_n 0, 1) := by decide +kernel
theorem dX1_property_87 : decode cX1_property 87 = .ok (.getfield 15, 3) := by decide +kernel
theorem dX1_property_90 : decode cX1_property 90 = .ok (.ireturn, 1) := by decide +kernel
theorem dX1_property_91 : decode cX1_property 91 = .ok (.aload_n 0, 1) := by decide +kernel
theorem dX1_property_92 : decode cX1_property 92 = .ok (.getfield 35, 3) := by decide +kernel
theorem dX1_property_95 : decode cX1_property 95 = .ok (.ireturn, 1) := by decide +kernel
theorem dX1_property_96 : decode cX1_property 96 = .ok (.aload_n 0, 1) := by decide +kernel
theorem dX1_property_97 : decode cX1_property 97 = .ok (.getfield 22, 3) := by decide +kernel
theorem dX1_property_100 : decode cX1_property 100 = .ok (.getfield 61, 3) := by decide +kernel
theorem dX1_property_103 : decode cX1_property 103 = .ok (.iload_n 1, 1) := by decide +kernel
theorem dX1_property_104 : decode cX1_property 104 = .ok (.bipush 6, 2) := by decide +kernel
theorem dX1_property_106 : decode cX1_property 106 = .ok (.isub, 1) := by decide +kernel
theorem dX1_property_107 : decode cX1_property 107 = .ok (.iaload, 1) := by decide +kernel
theorem dX1_property_108 : decode cX1_property 108 = .ok (.ireturn, 1) := by decide +kernel
theorem dX1_property_109 : decode cX1_property 109 = .ok (.aload_n 0, 1) := by decide +kernel
theorem dX1_property_110 : decode cX1_property 110 = .ok (.getfield 22, 3) := by decide +kernel
theorem dX1_property_113 : decode cX1_property 113 = .ok (.iload_n 2, 1) := by decide +kernel
theorem dX1_property_114 : decode cX1_property 114 = .ok (.invokevirtual 64, 3) := by decide +kernel
theorem dX1_property_117 : decode cX1_property 117 = .ok (.ireturn, 1) := by decide +kernel
theorem dX1_property_118 : decode cX1_property 118 = .ok (.aload_n 0, 1) := by decide +kernel
theorem dX1_property_119 : decode cX1_property 119 = .ok (.getfield 42, 3) := by decide +kernel
theorem dX1_property_122 : decode cX1_property 122 = .ok (.ireturn, 1) := by decide +kernel
theorem dX1_property_123 : decode cX1_property 123 = .ok (.aload_n 0, 1) := by decide +kernel
theorem dX1_property_124 : decode cX1_property 124 = .ok (.getfield 45, 3) := by decide +kernel
theorem dX1_property_127 : decode cX1_property 127 = .ok (.ireturn, 1) := by decide +kernel
theorem dX2_init_0 : decode cX2_init 0 = .ok (.aload_n 0, 1) := by decide +kernel
theorem dX2_init_1 : decode cX2_init 1 = .ok (.invokespecial 3, 3) := by decide +kernel
theorem dX2_init_4 : decode cX2_init 4 = .ok (.aload_n 0, 1) := by decide +kernel
theorem dX2_init_5 : decode cX2_init 5 = .ok (.iconst (-1), 1) := by decide +kernel
theorem dX2_init_6 : decode cX2_init 6 = .ok (.putfield 9, 3) := by decide +kernel
theorem dX2_init_9 : decode cX2_init 9 = .ok (.aload_n 0, 1) := by decide +kernel
theorem dX2_init_10 : decode cX2_init 10 = .ok (.iconst (-1), 1) := by decide +kernel
theorem dX2_init_11 : decode cX2_init 11 = .ok (.putfield 15, 3) := by decide +kernel
theorem dX2_init_14 : decode cX2_init 14 = .ok (.aload_n 0, 1) := by decide +kernel
theorem dX2_init_15 : decode cX2_init 15 = .ok (.new 18, 3) := by decide +kernel
theorem dX2_init_18 : decode cX2_init 18 = .ok (.dup, 1) := by decide +kernel
theorem dX2_init_19 : decode cX2_init 19 = .ok (.invokespecial 20, 3) := by decide +kernel
theorem dX2_init_22 : decode cX2_init 22 = .ok (.putfield 21, 3) := by decide +kernel
theorem dX2_init_25 : decode cX2_init 25 = .ok (.return_, 1) := by decide +kernel
theorem dX2_copyFrom_0 : decode cX2_copyFrom 0 = .ok (.aload_n 0, 1) := by decide +kernel
theorem dX2_copyFrom_1 : decode cX2_copyFrom 1 = .ok (.aload_n 1, 1) := by decide +kernel
theorem dX2_copyFrom_2 : decode cX2_copyFrom 2 = .ok (.getfield 9, 3) := by decide +kernel
theorem dX2_copyFrom_5 : decode cX2_copyFrom 5 = .ok (.putfield 9, 3) := by decide +kernel
theorem dX2_copyFrom_8 : decode cX2_copyFrom 8 = .ok (.aload_n 0, 1) := by decide +kernel
theorem dX2_copyFrom_9 : decode cX2_copyFrom 9 = .ok (.aload_n 1, 1) := by decide +kernel
theorem dX2_copyFrom_10 : decode cX2_copyFrom 10 = .ok (.getfield 15, 3) := by decide +kernel
theorem dX2_copyFrom_13 : decode cX2_copyFrom 13 = .ok (.putfield 15, 3) := by decide +kernel
theorem dX2_copyFrom_16 : decode cX2_copyFrom 16 = .ok (.aload_n 0, 1) := by decide +kernel
theorem dX2_copyFrom_17 : decode cX2_copyFrom 17 = .ok (.aload_n 1, 1) := by decide +kernel
theorem dX2_copyFrom_18 : decode cX2_copyFrom 18 = .ok (.getfield 25, 3) := by decide +kernel
theorem dX2_copyFrom_21 : decode cX2_copyFrom 21 = .ok (.putfield 25, 3) := by decide +kernel
theorem dX2_copyFrom_24 : decode cX2_copyFrom 24 = .ok (.aload_n 0, 1) := by decide +kernel
theorem dX2_copyFrom_25 : decode cX2_copyFrom 25 = .ok (.getfield 21, 3) := by decide +kernel
theorem dX2_copyFrom_28 : decode cX2_copyFrom 28 = .ok (.aload_n 1, 1) := by decide +kernel
theorem dX2_copyFrom_29 : decode cX2_copyFrom 29 = .ok (.getfield 21, 3) := by decide +kernel
theorem dX2_copyFrom_32 : decode cX2_copyFrom 32 = .ok (.invokevirtual 28, 3) := by decide +kernel
theorem dX2_copyFrom_35 : decode cX2_copyFrom 35 = .ok (.aload_n 0, 1) := by decide +kernel
theorem dX2_copyFrom_36 : decode cX2_copyFrom 36 = .ok (.aload_n 1, 1) := by decide +kernel
theorem dX2_copyFrom_37 : decode cX2_copyFrom 37 = .ok (.getfield 32, 3) := by decide +kernel
theorem dX2_copyFrom_40 : decode cX2_copyFrom 40 = .ok (.putfield 32, 3) := by decide +kernel
theorem dX2_copyFrom_43 : decode cX2_copyFrom 43 = .ok (.aload_n 0, 1) := by decide +kernel
theorem dX2_copyFrom_44 : decode cX2_copyFrom 44 = .ok (.aload_n 1, 1) := by decide +kernel
theorem dX2_copyFrom_45 : decode cX2_copyFrom 45 = .ok (.getfield 35, 3) := by decide +kernel
theorem dX2_copyFrom_48 : decode cX2_copyFrom 48 = .ok (.putfield 35, 3) := by decide +kernel
theorem dX2_copyFrom_51 : decode cX2_copyFrom 51 = .ok (.return_, 1) := by decide +kernel
theorem dX2_driveMinute_0 : decode cX2_driveMinute 0 = .ok (.aload_n 0, 1) := by decide +kernel
theorem dX2_driveMinute_1 : decode cX2_driveMinute 1 = .ok (.getfield 15, 3) := by decide +kernel
theorem dX2_driveMinute_4 : decode cX2_driveMinute 4 = .ok (.iconst (-1), 1) := by decide +kernel
theorem dX2_driveMinute_5 : decode cX2_driveMinute 5 = .ok (.if_icmp .eq 39, 3) := by decide +kernel
theorem dX2_driveMinute_8 : decode cX2_driveMinute 8 = .ok (.aload_n 0, 1) := by decide +kernel
theorem dX2_driveMinute_9 : decode cX2_driveMinute 9 = .ok (.dup, 1) := by decide +kernel
theorem dX2_driveMinute_10 : decode cX2_driveMinute 10 = .ok (.getfield 25, 3) := by decide +kernel
theorem dX2_driveMinute_13 : decode cX2_driveMinute 13 = .ok (.iconst 1, 1) := by decide +kernel
theorem dX2_driveMinute_14 : decode cX2_driveMinute 14 = .ok (.isub, 1) := by decide +kernel
theorem dX2_driveMinute_15 : decode cX2_driveMinute 15 = .ok (.putfield 25, 3) := by decide +kernel
theorem dX2_driveMinute_18 : decode cX2_driveMinute 18 = .ok (.aload_n 0, 1) := by decide +kernel
theorem dX2_driveMinute_19 : decode cX2_driveMinute 19 = .ok (.getfield 25, 3) := by decide +kernel
theorem dX2_driveMinute_22 : decode cX2_driveMinute 22 = .ok (.iconst 1, 1) := by decide +kernel
theorem dX2_driveMinute_23 : decode cX2_driveMinute 23 = .ok (.if_icmp .ge 21, 3) := by decide +kernel
theorem dX2_driveMinute_26 : decode cX2_driveMinute 26 = .ok (.aload_n 0, 1) := by decide +kernel
theorem dX2_driveMinute_27 : decode cX2_driveMinute 27 = .ok (.aload_n 0, 1) := by decide +kernel
theorem dX2_driveMinute_28 : decode cX2_driveMinute 28 = .ok (.getfield 15, 3) := by decide +kernel
theorem dX2_driveMinute_31 : decode cX2_driveMinute 31 = .ok (.putfield 9, 3) := by decide +kernel
theorem dX2_driveMinute_34 : decode cX2_driveMinute 34 = .ok (.aload_n 0, 1) := by decide +kernel
theorem dX2_driveMinute_35 : decode cX2_driveMinute 35 = .ok (.iconst (-1), 1) := by decide +kernel
theorem dX2_driveMinute_36 : decode cX2_driveMinute 36 = .ok (.putfield 15, 3) := by decide +kernel
theorem dX2_driveMinute_39 : decode cX2_driveMinute 39 = .ok (.aload_n 0, 1) := by decide +kernel
theorem dX2_driveMinute_40 : decode cX2_driveMinute 40 = .ok (.iconst 0, 1) := by decide +kernel
theorem dX2_driveMinute_41 : decode cX2_driveMinute 41 = .ok (.putfield 25, 3) := by decide +kernel
theorem dX2_driveMinute_44 : decode cX2_driveMinute 44 = .ok (.return_, 1) := by decide +kernel
theorem dX2_property_0 : decode cX2_property 0 = .ok (.iload_n 1, 1) := by decide +kernel
theorem dX2_property_1 : decode cX2_property 1 = .ok (.tableswitch 88 0 7 #[47, 52, 57, 62, 62, 62, 74, 83], 47) := by decide +kernel
theorem dX2_property_48 : decode cX2_property 48 = .ok (.aload_n 0, 1) := by decide +kernel
theorem dX2_property_49 : decode cX2_property 49 = .ok (.getfield 9, 3) := by decide +kernel
theorem dX2_property_52 : decode cX2_property 52 = .ok (.ireturn, 1) := by decide +kernel
theorem dX2_property_53 : decode cX2_property 53 = .ok (.aload_n 0, 1) := by decide +kernel
theorem dX2_property_54 : decode cX2_property 54 = .ok (.getfield 15, 3) := by decide +kernel
theorem dX2_property_57 : decode cX2_property 57 = .ok (.ireturn, 1) := by decide +kernel
theorem dX2_property_58 : decode cX2_property 58 = .ok (.aload_n 0, 1) := by decide +kernel
theorem dX2_property_59 : decode cX2_property 59 = .ok (.getfield 25, 3) := by decide +kernel
theorem dX2_property_62 : decode cX2_property 62 = .ok (.ireturn, 1) := by decide +kernel
theorem dX2_property_63 : decode cX2_property 63 = .ok (.aload_n 0, 1) := by decide +kernel
theorem dX2_property_64 : decode cX2_property 64 = .ok (.getfield 21, 3) := by decide +kernel
theorem dX2_property_67 : decode cX2_property 67 = .ok (.getfield 38, 3) := by decide +kernel
theorem dX2_property_70 : decode cX2_property 70 = .ok (.iload_n 1, 1) := by decide +kernel
theorem dX2_property_71 : decode cX2_property 71 = .ok (.iconst 3, 1) := by decide +kernel
theorem dX2_property_72 : decode cX2_property 72 = .ok (.isub, 1) := by decide +kernel
theorem dX2_property_73 : decode cX2_property 73 = .ok (.iaload, 1) := by decide +kernel
theorem dX2_property_74 : decode cX2_property 74 = .ok (.ireturn, 1) := by decide +kernel
theorem dX2_property_75 : decode cX2_property 75 = .ok (.aload_n 0, 1) := by decide +kernel
theorem dX2_property_76 : decode cX2_property 76 = .ok (.getfield 21, 3) := by decide +kernel
theorem dX2_property_79 : decode cX2_property 79 = .ok (.iload_n 2, 1) := by decide +kernel
theorem dX2_property_80 : decode cX2_property 80 = .ok (.invokevirtual 42, 3) := by decide +kernel
theorem dX2_property_83 : decode cX2_property 83 = .ok (.ireturn, 1) := by decide +kernel
theorem dX2_property_84 : decode cX2_property 84 = .ok (.aload_n 0, 1) := by decide +kernel
theorem dX2_property_85 : decode cX2_property 85 = .ok (.getfield 32, 3) := by decide +kernel
theorem dX2_property_88 : decode cX2_property 88 = .ok (.ireturn, 1) := by decide +kernel
theorem dX2_property_89 : decode cX2_property 89 = .ok (.aload_n 0, 1) := by decide +kernel
theorem dX2_property_90 : decode cX2_property 90 = .ok (.getfield 35, 3) := by decide +kernel
theorem dX2_property_93 : decode cX2_property 93 = .ok (.ireturn, 1) := by decide +kernel
theorem dX3_init_0 : decode cX3_init 0 = .ok (.aload_n 0, 1) := by decide +kernel
theorem dX3_init_1 : decode cX3_init 1 = .ok (.invokespecial 3, 3) := by decide +kernel
theorem dX3_init_4 : decode cX3_init 4 = .ok (.aload_n 0, 1) := by decide +kernel
theorem dX3_init_5 : decode cX3_init 5 = .ok (.sipush 192, 3) := by decide +kernel
theorem dX3_init_8 : decode cX3_init 8 = .ok (.newarray .int, 2) := by decide +kernel
theorem dX3_init_10 : decode cX3_init 10 = .ok (.putfield 11, 3) := by decide +kernel
theorem dX3_init_13 : decode cX3_init 13 = .ok (.aload_n 0, 1) := by decide +kernel
theorem dX3_init_14 : decode cX3_init 14 = .ok (.iconst 3, 1) := by decide +kernel
theorem dX3_init_15 : decode cX3_init 15 = .ok (.newarray .int, 2) := by decide +kernel
theorem dX3_init_17 : decode cX3_init 17 = .ok (.putfield 15, 3) := by decide +kernel
theorem dX3_init_20 : decode cX3_init 20 = .ok (.return_, 1) := by decide +kernel
theorem dX3_copyFrom_0 : decode cX3_copyFrom 0 = .ok (.aload_n 1, 1) := by decide +kernel
theorem dX3_copyFrom_1 : decode cX3_copyFrom 1 = .ok (.getfield 11, 3) := by decide +kernel
theorem dX3_copyFrom_4 : decode cX3_copyFrom 4 = .ok (.iconst 0, 1) := by decide +kernel
theorem dX3_copyFrom_5 : decode cX3_copyFrom 5 = .ok (.aload_n 0, 1) := by decide +kernel
theorem dX3_copyFrom_6 : decode cX3_copyFrom 6 = .ok (.getfield 11, 3) := by decide +kernel
theorem dX3_copyFrom_9 : decode cX3_copyFrom 9 = .ok (.iconst 0, 1) := by decide +kernel
theorem dX3_copyFrom_10 : decode cX3_copyFrom 10 = .ok (.sipush 192, 3) := by decide +kernel
theorem dX3_copyFrom_13 : decode cX3_copyFrom 13 = .ok (.invokestatic 18, 3) := by decide +kernel
theorem dX3_copyFrom_16 : decode cX3_copyFrom 16 = .ok (.aload_n 1, 1) := by decide +kernel
theorem dX3_copyFrom_17 : decode cX3_copyFrom 17 = .ok (.getfield 15, 3) := by decide +kernel
theorem dX3_copyFrom_20 : decode cX3_copyFrom 20 = .ok (.iconst 0, 1) := by decide +kernel
theorem dX3_copyFrom_21 : decode cX3_copyFrom 21 = .ok (.aload_n 0, 1) := by decide +kernel
theorem dX3_copyFrom_22 : decode cX3_copyFrom 22 = .ok (.getfield 15, 3) := by decide +kernel
theorem dX3_copyFrom_25 : decode cX3_copyFrom 25 = .ok (.iconst 0, 1) := by decide +kernel
theorem dX3_copyFrom_26 : decode cX3_copyFrom 26 = .ok (.iconst 3, 1) := by decide +kernel
theorem dX3_copyFrom_27 : decode cX3_copyFrom 27 = .ok (.invokestatic 18, 3) := by decide +kernel
theorem dX3_copyFrom_30 : decode cX3_copyFrom 30 = .ok (.return_, 1) := by decide +kernel
theorem dX3_slot_0 : decode cX3_slot 0 = .ok (.iload_n 0, 1) := by decide +kernel
theorem dX3_slot_1 : decode cX3_slot 1 = .ok (.bipush 64, 2) := by decide +kernel
theorem dX3_slot_3 : decode cX3_slot 3 = .ok (.imul, 1) := by decide +kernel
theorem dX3_slot_4 : decode cX3_slot 4 = .ok (.iload_n 1, 1) := by decide +kernel
theorem dX3_slot_5 : decode cX3_slot 5 = .ok (.bipush 63, 2) := by decide +kernel
theorem dX3_slot_7 : decode cX3_slot 7 = .ok (.iand, 1) := by decide +kernel
theorem dX3_slot_8 : decode cX3_slot 8 = .ok (.iadd, 1) := by decide +kernel
theorem dX3_slot_9 : decode cX3_slot 9 = .ok (.ireturn, 1) := by decide +kernel
theorem dX3_inAll_0 : decode cX3_inAll 0 = .ok (.aload_n 0, 1) := by decide +kernel
theorem dX3_inAll_1 : decode cX3_inAll 1 = .ok (.getfield 15, 3) := by decide +kernel
theorem dX3_inAll_4 : decode cX3_inAll 4 = .ok (.iconst 0, 1) := by decide +kernel
theorem dX3_inAll_5 : decode cX3_inAll 5 = .ok (.iaload, 1) := by decide +kernel
theorem dX3_inAll_6 : decode cX3_inAll 6 = .ok (.aload_n 0, 1) := by decide +kernel
theorem dX3_inAll_7 : decode cX3_inAll 7 = .ok (.getfield 15, 3) := by decide +kernel
theorem dX3_inAll_10 : decode cX3_inAll 10 = .ok (.iconst 1, 1) := by decide +kernel
theorem dX3_inAll_11 : decode cX3_inAll 11 = .ok (.iaload, 1) := by decide +kernel
theorem dX3_inAll_12 : decode cX3_inAll 12 = .ok (.iadd, 1) := by decide +kernel
theorem dX3_inAll_13 : decode cX3_inAll 13 = .ok (.aload_n 0, 1) := by decide +kernel
theorem dX3_inAll_14 : decode cX3_inAll 14 = .ok (.getfield 15, 3) := by decide +kernel
theorem dX3_inAll_17 : decode cX3_inAll 17 = .ok (.iconst 2, 1) := by decide +kernel
theorem dX3_inAll_18 : decode cX3_inAll 18 = .ok (.iaload, 1) := by decide +kernel
theorem dX3_inAll_19 : decode cX3_inAll 19 = .ok (.iadd, 1) := by decide +kernel
theorem dX3_inAll_20 : decode cX3_inAll 20 = .ok (.ireturn, 1) := by decide +kernel
theorem dX3_ofKind_0 : decode cX3_ofKind 0 = .ok (.iload_n 1, 1) := by decide +kernel
theorem dX3_ofKind_1 : decode cX3_ofKind 1 = .ok (.ifCond .eq 12, 3) := by decide +kernel
theorem dX3_ofKind_4 : decode cX3_ofKind 4 = .ok (.aload_n 0, 1) := by decide +kernel
theorem dX3_ofKind_5 : decode cX3_ofKind 5 = .ok (.getfield 15, 3) := by decide +kernel
theorem dX3_ofKind_8 : decode cX3_ofKind 8 = .ok (.iconst 1, 1) := by decide +kernel
theorem dX3_ofKind_9 : decode cX3_ofKind 9 = .ok (.iaload, 1) := by decide +kernel
theorem dX3_ofKind_10 : decode cX3_ofKind 10 = .ok (.goto 14, 3) := by decide +kernel
theorem dX3_ofKind_13 : decode cX3_ofKind 13 = .ok (.aload_n 0, 1) := by decide +kernel
theorem dX3_ofKind_14 : decode cX3_ofKind 14 = .ok (.invokevirtual 24, 3) := by decide +kernel
theorem dX3_ofKind_17 : decode cX3_ofKind 17 = .ok (.aload_n 0, 1) := by decide +kernel
theorem dX3_ofKind_18 : decode cX3_ofKind 18 = .ok (.getfield 15, 3) := by decide +kernel
theorem dX3_ofKind_21 : decode cX3_ofKind 21 = .ok (.iconst 1, 1) := by decide +kernel
theorem dX3_ofKind_22 : decode cX3_ofKind 22 = .ok (.iaload, 1) := by decide +kernel
theorem dX3_ofKind_23 : decode cX3_ofKind 23 = .ok (.isub, 1) := by decide +kernel
theorem dX3_ofKind_24 : decode cX3_ofKind 24 = .ok (.ireturn, 1) := by decide +kernel
theorem dX3_put_0 : decode cX3_put 0 = .ok (.iload_n 1, 1) := by decide +kernel
theorem dX3_put_1 : decode cX3_put 1 = .ok (.ifCond .lt 32, 3) := by decide +kernel
theorem dX3_put_4 : decode cX3_put 4 = .ok (.iload_n 1, 1) := by decide +kernel
theorem dX3_put_5 : decode cX3_put 5 = .ok (.iconst 3, 1) := by decide +kernel
theorem dX3_put_6 : decode cX3_put 6 = .ok (.if_icmp .ge 27, 3) := by decide +kernel
theorem dX3_put_9 : decode cX3_put 9 = .ok (.aload_n 0, 1) := by decide +kernel
theorem dX3_put_10 : decode cX3_put 10 = .ok (.getfield 11, 3) := by decide +kernel
theorem dX3_put_13 : decode cX3_put 13 = .ok (.iload_n 1, 1) := by decide +kernel
theorem dX3_put_14 : decode cX3_put 14 = .ok (.iload_n 2, 1) := by decide +kernel
theorem dX3_put_15 : decode cX3_put 15 = .ok (.invokestatic 41, 3) := by decide +kernel
theorem dX3_put_18 : decode cX3_put 18 = .ok (.dup2, 1) := by decide +kernel
theorem dX3_put_19 : decode cX3_put 19 = .ok (.iaload, 1) := by decide +kernel
theorem dX3_put_20 : decode cX3_put 20 = .ok (.iload_n 3, 1) := by decide +kernel
theorem dX3_put_21 : decode cX3_put 21 = .ok (.iadd, 1) := by decide +kernel
theorem dX3_put_22 : decode cX3_put 22 = .ok (.iastore, 1) := by decide +kernel
theorem dX3_put_23 : decode cX3_put 23 = .ok (.aload_n 0, 1) := by decide +kernel
theorem dX3_put_24 : decode cX3_put 24 = .ok (.getfield 15, 3) := by decide +kernel
theorem dX3_put_27 : decode cX3_put 27 = .ok (.iload_n 1, 1) := by decide +kernel
theorem dX3_put_28 : decode cX3_put 28 = .ok (.dup2, 1) := by decide +kernel
theorem dX3_put_29 : decode cX3_put 29 = .ok (.iaload, 1) := by decide +kernel
theorem dX3_put_30 : decode cX3_put 30 = .ok (.iload_n 3, 1) := by decide +kernel
theorem dX3_put_31 : decode cX3_put 31 = .ok (.iadd, 1) := by decide +kernel
theorem dX3_put_32 : decode cX3_put 32 = .ok (.iastore, 1) := by decide +kernel
theorem dX3_put_33 : decode cX3_put 33 = .ok (.return_, 1) := by decide +kernel
theorem dX3_take_0 : decode cX3_take 0 = .ok (.iload_n 1, 1) := by decide +kernel
theorem dX3_take_1 : decode cX3_take 1 = .ok (.ifCond .lt 8, 3) := by decide +kernel
theorem dX3_take_4 : decode cX3_take 4 = .ok (.iload_n 1, 1) := by decide +kernel
theorem dX3_take_5 : decode cX3_take 5 = .ok (.iconst 3, 1) := by decide +kernel
theorem dX3_take_6 : decode cX3_take 6 = .ok (.if_icmp .lt 5, 3) := by decide +kernel
theorem dX3_take_9 : decode cX3_take 9 = .ok (.iconst 0, 1) := by decide +kernel
theorem dX3_take_10 : decode cX3_take 10 = .ok (.ireturn, 1) := by decide +kernel
theorem dX3_take_11 : decode cX3_take 11 = .ok (.iload_n 1, 1) := by decide +kernel
theorem dX3_take_12 : decode cX3_take 12 = .ok (.iload_n 2, 1) := by decide +kernel
theorem dX3_take_13 : decode cX3_take 13 = .ok (.invokestatic 41, 3) := by decide +kernel
theorem dX3_take_16 : decode cX3_take 16 = .ok (.istore 4, 2) := by decide +kernel
theorem dX3_take_18 : decode cX3_take 18 = .ok (.iload_n 3, 1) := by decide +kernel
theorem dX3_take_19 : decode cX3_take 19 = .ok (.aload_n 0, 1) := by decide +kernel
theorem dX3_take_20 : decode cX3_take 20 = .ok (.getfield 11, 3) := by decide +kernel
theorem dX3_take_23 : decode cX3_take 23 = .ok (.iload 4, 2) := by decide +kernel
theorem dX3_take_25 : decode cX3_take 25 = .ok (.iaload, 1) := by decide +kernel
theorem dX3_take_26 : decode cX3_take 26 = .ok (.invokestatic 45, 3) := by decide +kernel
theorem dX3_take_29 : decode cX3_take 29 = .ok (.istore 5, 2) := by decide +kernel
theorem dX3_take_31 : decode cX3_take 31 = .ok (.aload_n 0, 1) := by decide +kernel
theorem dX3_take_32 : decode cX3_take 32 = .ok (.getfield 11, 3) := by decide +kernel
theorem dX3_take_35 : decode cX3_take 35 = .ok (.iload 4, 2) := by decide +kernel
theorem dX3_take_37 : decode cX3_take 37 = .ok (.dup2, 1) := by decide +kernel
theorem dX3_take_38 : decode cX3_take 38 = .ok (.iaload, 1) := by decide +kernel
theorem dX3_take_39 : decode cX3_take 39 = .ok (.iload 5, 2) := by decide +kernel
theorem dX3_take_41 : decode cX3_take 41 = .ok (.isub, 1) := by decide +kernel
theorem dX3_take_42 : decode cX3_take 42 = .ok (.iastore, 1) := by decide +kernel
theorem dX3_take_43 : decode cX3_take 43 = .ok (.aload_n 0, 1) := by decide +kernel
theorem dX3_take_44 : decode cX3_take 44 = .ok (.getfield 15, 3) := by decide +kernel

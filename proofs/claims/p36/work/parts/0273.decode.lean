theorem dX7_count_127 : decode cX7_count 127 = .ok (.ireturn, 1) := by decide +kernel
theorem dX7_count_128 : decode cX7_count 128 = .ok (.aload_n 0, 1) := by decide +kernel
theorem dX7_count_129 : decode cX7_count 129 = .ok (.getfield 10, 3) := by decide +kernel
theorem dX7_count_132 : decode cX7_count 132 = .ok (.invokevirtual 259, 3) := by decide +kernel
theorem dX7_count_135 : decode cX7_count 135 = .ok (.ireturn, 1) := by decide +kernel
theorem dX7_count_136 : decode cX7_count 136 = .ok (.aload_n 0, 1) := by decide +kernel
theorem dX7_count_137 : decode cX7_count 137 = .ok (.getfield 10, 3) := by decide +kernel
theorem dX7_count_140 : decode cX7_count 140 = .ok (.getfield 132, 3) := by decide +kernel
theorem dX7_count_143 : decode cX7_count 143 = .ok (.ireturn, 1) := by decide +kernel
theorem dX7_count_144 : decode cX7_count 144 = .ok (.aload_n 0, 1) := by decide +kernel
theorem dX7_count_145 : decode cX7_count 145 = .ok (.getfield 10, 3) := by decide +kernel
theorem dX7_count_148 : decode cX7_count 148 = .ok (.invokevirtual 261, 3) := by decide +kernel
theorem dX7_count_151 : decode cX7_count 151 = .ok (.ireturn, 1) := by decide +kernel
theorem dX7_count_152 : decode cX7_count 152 = .ok (.aload_n 0, 1) := by decide +kernel
theorem dX7_count_153 : decode cX7_count 153 = .ok (.getfield 10, 3) := by decide +kernel
theorem dX7_count_156 : decode cX7_count 156 = .ok (.invokevirtual 198, 3) := by decide +kernel
theorem dX7_count_159 : decode cX7_count 159 = .ok (.ireturn, 1) := by decide +kernel
theorem dX7_count_160 : decode cX7_count 160 = .ok (.aload_n 0, 1) := by decide +kernel
theorem dX7_count_161 : decode cX7_count 161 = .ok (.getfield 10, 3) := by decide +kernel
theorem dX7_count_164 : decode cX7_count 164 = .ok (.invokevirtual 264, 3) := by decide +kernel
theorem dX7_count_167 : decode cX7_count 167 = .ok (.ireturn, 1) := by decide +kernel
theorem dX7_count_168 : decode cX7_count 168 = .ok (.aload_n 0, 1) := by decide +kernel
theorem dX7_count_169 : decode cX7_count 169 = .ok (.getfield 10, 3) := by decide +kernel
theorem dX7_count_172 : decode cX7_count 172 = .ok (.invokevirtual 267, 3) := by decide +kernel
theorem dX7_count_175 : decode cX7_count 175 = .ok (.ireturn, 1) := by decide +kernel
theorem dX7_count_176 : decode cX7_count 176 = .ok (.aload_n 0, 1) := by decide +kernel
theorem dX7_count_177 : decode cX7_count 177 = .ok (.getfield 10, 3) := by decide +kernel
theorem dX7_count_180 : decode cX7_count 180 = .ok (.invokevirtual 270, 3) := by decide +kernel
theorem dX7_count_183 : decode cX7_count 183 = .ok (.ireturn, 1) := by decide +kernel
theorem dX7_count_184 : decode cX7_count 184 = .ok (.aload_n 0, 1) := by decide +kernel
theorem dX7_count_185 : decode cX7_count 185 = .ok (.getfield 10, 3) := by decide +kernel
theorem dX7_count_188 : decode cX7_count 188 = .ok (.getfield 273, 3) := by decide +kernel
theorem dX7_count_191 : decode cX7_count 191 = .ok (.ireturn, 1) := by decide +kernel
theorem dX7_count_192 : decode cX7_count 192 = .ok (.aload_n 0, 1) := by decide +kernel
theorem dX7_count_193 : decode cX7_count 193 = .ok (.getfield 10, 3) := by decide +kernel
theorem dX7_count_196 : decode cX7_count 196 = .ok (.invokevirtual 276, 3) := by decide +kernel
theorem dX7_count_199 : decode cX7_count 199 = .ok (.ireturn, 1) := by decide +kernel
theorem dX7_count_200 : decode cX7_count 200 = .ok (.aload_n 0, 1) := by decide +kernel
theorem dX7_count_201 : decode cX7_count 201 = .ok (.getfield 10, 3) := by decide +kernel
theorem dX7_count_204 : decode cX7_count 204 = .ok (.invokevirtual 277, 3) := by decide +kernel
theorem dX7_count_207 : decode cX7_count 207 = .ok (.ireturn, 1) := by decide +kernel
theorem dX7_count_208 : decode cX7_count 208 = .ok (.aload_n 0, 1) := by decide +kernel
theorem dX7_count_209 : decode cX7_count 209 = .ok (.getfield 10, 3) := by decide +kernel
theorem dX7_count_212 : decode cX7_count 212 = .ok (.invokevirtual 279, 3) := by decide +kernel
theorem dX7_count_215 : decode cX7_count 215 = .ok (.ireturn, 1) := by decide +kernel
theorem dX7_count_216 : decode cX7_count 216 = .ok (.aload_n 0, 1) := by decide +kernel
theorem dX7_count_217 : decode cX7_count 217 = .ok (.getfield 22, 3) := by decide +kernel
theorem dX7_count_220 : decode cX7_count 220 = .ok (.getfield 223, 3) := by decide +kernel
theorem dX7_count_223 : decode cX7_count 223 = .ok (.ireturn, 1) := by decide +kernel
theorem dX7_canCook_0 : decode cX7_canCook 0 = .ok (.iload_n 1, 1) := by decide +kernel
theorem dX7_canCook_1 : decode cX7_canCook 1 = .ok (.aload_n 0, 1) := by decide +kernel
theorem dX7_canCook_2 : decode cX7_canCook 2 = .ok (.getfield 10, 3) := by decide +kernel
theorem dX7_canCook_5 : decode cX7_canCook 5 = .ok (.getfield 64, 3) := by decide +kernel
theorem dX7_canCook_8 : decode cX7_canCook 8 = .ok (.invokestatic 60, 3) := by decide +kernel
theorem dX7_canCook_11 : decode cX7_canCook 11 = .ok (.iload_n 2, 1) := by decide +kernel
theorem dX7_canCook_12 : decode cX7_canCook 12 = .ok (.iconst 0, 1) := by decide +kernel
theorem dX7_canCook_13 : decode cX7_canCook 13 = .ok (.iconst 2, 1) := by decide +kernel
theorem dX7_canCook_14 : decode cX7_canCook 14 = .ok (.invokestatic 41, 3) := by decide +kernel
theorem dX7_canCook_17 : decode cX7_canCook 17 = .ok (.aload_n 0, 1) := by decide +kernel
theorem dX7_canCook_18 : decode cX7_canCook 18 = .ok (.getfield 10, 3) := by decide +kernel
theorem dX7_canCook_21 : decode cX7_canCook 21 = .ok (.getfield 87, 3) := by decide +kernel
theorem dX7_canCook_24 : decode cX7_canCook 24 = .ok (.iload_n 1, 1) := by decide +kernel
theorem dX7_canCook_25 : decode cX7_canCook 25 = .ok (.aaload, 1) := by decide +kernel
theorem dX7_canCook_26 : decode cX7_canCook 26 = .ok (.iload_n 2, 1) := by decide +kernel
theorem dX7_canCook_27 : decode cX7_canCook 27 = .ok (.invokevirtual 99, 3) := by decide +kernel
theorem dX7_canCook_30 : decode cX7_canCook 30 = .ok (.ireturn, 1) := by decide +kernel
theorem dX7_requireIndex_0 : decode cX7_requireIndex 0 = .ok (.iload_n 0, 1) := by decide +kernel
theorem dX7_requireIndex_1 : decode cX7_requireIndex 1 = .ok (.ifCond .lt 8, 3) := by decide +kernel
theorem dX7_requireIndex_4 : decode cX7_requireIndex 4 = .ok (.iload_n 0, 1) := by decide +kernel
theorem dX7_requireIndex_5 : decode cX7_requireIndex 5 = .ok (.iload_n 1, 1) := by decide +kernel
theorem dX7_requireIndex_6 : decode cX7_requireIndex 6 = .ok (.if_icmp .lt 14, 3) := by decide +kernel
theorem dX7_requireIndex_9 : decode cX7_requireIndex 9 = .ok (.new 329, 3) := by decide +kernel
theorem dX7_requireIndex_12 : decode cX7_requireIndex 12 = .ok (.dup, 1) := by decide +kernel
theorem dX7_requireIndex_13 : decode cX7_requireIndex 13 = .ok (.ldc_w 331, 3) := by decide +kernel
theorem dX7_requireIndex_16 : decode cX7_requireIndex 16 = .ok (.invokespecial 333, 3) := by decide +kernel
theorem dX7_requireIndex_19 : decode cX7_requireIndex 19 = .ok (.athrow, 1) := by decide +kernel
theorem dX7_requireIndex_20 : decode cX7_requireIndex 20 = .ok (.return_, 1) := by decide +kernel
theorem dX7_requireRange_0 : decode cX7_requireRange 0 = .ok (.iload_n 0, 1) := by decide +kernel
theorem dX7_requireRange_1 : decode cX7_requireRange 1 = .ok (.iload_n 1, 1) := by decide +kernel
theorem dX7_requireRange_2 : decode cX7_requireRange 2 = .ok (.if_icmp .lt 8, 3) := by decide +kernel
theorem dX7_requireRange_5 : decode cX7_requireRange 5 = .ok (.iload_n 0, 1) := by decide +kernel
theorem dX7_requireRange_6 : decode cX7_requireRange 6 = .ok (.iload_n 2, 1) := by decide +kernel
theorem dX7_requireRange_7 : decode cX7_requireRange 7 = .ok (.if_icmp .le 14, 3) := by decide +kernel
theorem dX7_requireRange_10 : decode cX7_requireRange 10 = .ok (.new 177, 3) := by decide +kernel
theorem dX7_requireRange_13 : decode cX7_requireRange 13 = .ok (.dup, 1) := by decide +kernel
theorem dX7_requireRange_14 : decode cX7_requireRange 14 = .ok (.ldc_w 334, 3) := by decide +kernel
theorem dX7_requireRange_17 : decode cX7_requireRange 17 = .ok (.invokespecial 181, 3) := by decide +kernel
theorem dX7_requireRange_20 : decode cX7_requireRange 20 = .ok (.athrow, 1) := by decide +kernel
theorem dX7_requireRange_21 : decode cX7_requireRange 21 = .ok (.return_, 1) := by decide +kernel
theorem dX7_requireState_0 : decode cX7_requireState 0 = .ok (.iload_n 0, 1) := by decide +kernel
theorem dX7_requireState_1 : decode cX7_requireState 1 = .ok (.ifCond .ne 14, 3) := by decide +kernel
theorem dX7_requireState_4 : decode cX7_requireState 4 = .ok (.new 336, 3) := by decide +kernel
theorem dX7_requireState_7 : decode cX7_requireState 7 = .ok (.dup, 1) := by decide +kernel
theorem dX7_requireState_8 : decode cX7_requireState 8 = .ok (.ldc_w 338, 3) := by decide +kernel
theorem dX7_requireState_11 : decode cX7_requireState 11 = .ok (.invokespecial 340, 3) := by decide +kernel
theorem dX7_requireState_14 : decode cX7_requireState 14 = .ok (.athrow, 1) := by decide +kernel
theorem dX7_requireState_15 : decode cX7_requireState 15 = .ok (.return_, 1) := by decide +kernel
theorem dX7_dividedUp_0 : decode cX7_dividedUp 0 = .ok (.iload_n 1, 1) := by decide +kernel
theorem dX7_dividedUp_1 : decode cX7_dividedUp 1 = .ok (.iconst 1, 1) := by decide +kernel
theorem dX7_dividedUp_2 : decode cX7_dividedUp 2 = .ok (.if_icmp .ge 7, 3) := by decide +kernel
theorem dX7_dividedUp_5 : decode cX7_dividedUp 5 = .ok (.iconst 0, 1) := by decide +kernel
theorem dX7_dividedUp_6 : decode cX7_dividedUp 6 = .ok (.goto 10, 3) := by decide +kernel
theorem dX7_dividedUp_9 : decode cX7_dividedUp 9 = .ok (.iload_n 0, 1) := by decide +kernel
theorem dX7_dividedUp_10 : decode cX7_dividedUp 10 = .ok (.iload_n 1, 1) := by decide +kernel
theorem dX7_dividedUp_11 : decode cX7_dividedUp 11 = .ok (.iadd, 1) := by decide +kernel
theorem dX7_dividedUp_12 : decode cX7_dividedUp 12 = .ok (.iconst 1, 1) := by decide +kernel
theorem dX7_dividedUp_13 : decode cX7_dividedUp 13 = .ok (.isub, 1) := by decide +kernel
theorem dX7_dividedUp_14 : decode cX7_dividedUp 14 = .ok (.iload_n 1, 1) := by decide +kernel
theorem dX7_dividedUp_15 : decode cX7_dividedUp 15 = .ok (.idiv, 1) := by decide +kernel
theorem dX7_dividedUp_16 : decode cX7_dividedUp 16 = .ok (.ireturn, 1) := by decide +kernel
theorem dL_cell_0 : decode cL_cell 0 = .ok (.iload_n 1, 1) := by decide +kernel
theorem dL_cell_1 : decode cL_cell 1 = .ok (.aload_n 0, 1) := by decide +kernel
theorem dL_cell_2 : decode cL_cell 2 = .ok (.arraylength, 1) := by decide +kernel
theorem dL_cell_3 : decode cL_cell 3 = .ok (.if_icmp .ge 9, 3) := by decide +kernel
theorem dL_cell_6 : decode cL_cell 6 = .ok (.aload_n 0, 1) := by decide +kernel
theorem dL_cell_7 : decode cL_cell 7 = .ok (.iload_n 1, 1) := by decide +kernel
theorem dL_cell_8 : decode cL_cell 8 = .ok (.iaload, 1) := by decide +kernel
theorem dL_cell_9 : decode cL_cell 9 = .ok (.goto 10, 3) := by decide +kernel
theorem dL_cell_12 : decode cL_cell 12 = .ok (.ldc 7, 2) := by decide +kernel
theorem dL_cell_14 : decode cL_cell 14 = .ok (.iload_n 1, 1) := by decide +kernel
theorem dL_cell_15 : decode cL_cell 15 = .ok (.bipush 101, 2) := by decide +kernel
theorem dL_cell_17 : decode cL_cell 17 = .ok (.iadd, 1) := by decide +kernel
theorem dL_cell_18 : decode cL_cell 18 = .ok (.imul, 1) := by decide +kernel
theorem dL_cell_19 : decode cL_cell 19 = .ok (.ireturn, 1) := by decide +kernel
theorem dL_at_0 : decode cL_at 0 = .ok (.iload_n 0, 1) := by decide +kernel
theorem dL_at_1 : decode cL_at 1 = .ok (.iconst 1, 1) := by decide +kernel
theorem dL_at_2 : decode cL_at 2 = .ok (.iushr, 1) := by decide +kernel
theorem dL_at_3 : decode cL_at 3 = .ok (.iload_n 1, 1) := by decide +kernel
theorem dL_at_4 : decode cL_at 4 = .ok (.irem, 1) := by decide +kernel
theorem dL_at_5 : decode cL_at 5 = .ok (.ireturn, 1) := by decide +kernel
theorem dL_drive_0 : decode cL_drive 0 = .ok (.aload_n 1, 1) := by decide +kernel
theorem dL_drive_1 : decode cL_drive 1 = .ok (.iload_n 2, 1) := by decide +kernel
theorem dL_drive_2 : decode cL_drive 2 = .ok (.iaload, 1) := by decide +kernel
theorem dL_drive_3 : decode cL_drive 3 = .ok (.bipush 100, 2) := by decide +kernel
theorem dL_drive_5 : decode cL_drive 5 = .ok (.idiv, 1) := by decide +kernel
theorem dL_drive_6 : decode cL_drive 6 = .ok (.aload_n 1, 1) := by decide +kernel
theorem dL_drive_7 : decode cL_drive 7 = .ok (.iload_n 3, 1) := by decide +kernel
theorem dL_drive_8 : decode cL_drive 8 = .ok (.iaload, 1) := by decide +kernel
theorem dL_drive_9 : decode cL_drive 9 = .ok (.bipush 100, 2) := by decide +kernel
theorem dL_drive_11 : decode cL_drive 11 = .ok (.idiv, 1) := by decide +kernel
theorem dL_drive_12 : decode cL_drive 12 = .ok (.isub, 1) := by decide +kernel
theorem dL_drive_13 : decode cL_drive 13 = .ok (.istore 4, 2) := by decide +kernel
theorem dL_drive_15 : decode cL_drive 15 = .ok (.aload_n 1, 1) := by decide +kernel
theorem dL_drive_16 : decode cL_drive 16 = .ok (.iload_n 2, 1) := by decide +kernel
theorem dL_drive_17 : decode cL_drive 17 = .ok (.iaload, 1) := by decide +kernel
theorem dL_drive_18 : decode cL_drive 18 = .ok (.bipush 100, 2) := by decide +kernel
theorem dL_drive_20 : decode cL_drive 20 = .ok (.irem, 1) := by decide +kernel
theorem dL_drive_21 : decode cL_drive 21 = .ok (.aload_n 1, 1) := by decide +kernel
theorem dL_drive_22 : decode cL_drive 22 = .ok (.iload_n 3, 1) := by decide +kernel
theorem dL_drive_23 : decode cL_drive 23 = .ok (.iaload, 1) := by decide +kernel
theorem dL_drive_24 : decode cL_drive 24 = .ok (.bipush 100, 2) := by decide +kernel
theorem dL_drive_26 : decode cL_drive 26 = .ok (.irem, 1) := by decide +kernel
theorem dL_drive_27 : decode cL_drive 27 = .ok (.isub, 1) := by decide +kernel
theorem dL_drive_28 : decode cL_drive 28 = .ok (.istore 5, 2) := by decide +kernel
theorem dL_drive_30 : decode cL_drive 30 = .ok (.iload 4, 2) := by decide +kernel
theorem dL_drive_32 : decode cL_drive 32 = .ok (.ifCond .ge 9, 3) := by decide +kernel
theorem dL_drive_35 : decode cL_drive 35 = .ok (.iload 4, 2) := by decide +kernel
theorem dL_drive_37 : decode cL_drive 37 = .ok (.ineg, 1) := by decide +kernel
theorem dL_drive_38 : decode cL_drive 38 = .ok (.goto 5, 3) := by decide +kernel
theorem dL_drive_41 : decode cL_drive 41 = .ok (.iload 4, 2) := by decide +kernel
theorem dL_drive_43 : decode cL_drive 43 = .ok (.iload 5, 2) := by decide +kernel
theorem dL_drive_45 : decode cL_drive 45 = .ok (.ifCond .ge 9, 3) := by decide +kernel
theorem dL_drive_48 : decode cL_drive 48 = .ok (.iload 5, 2) := by decide +kernel
theorem dL_drive_50 : decode cL_drive 50 = .ok (.ineg, 1) := by decide +kernel
theorem dL_drive_51 : decode cL_drive 51 = .ok (.goto 5, 3) := by decide +kernel
theorem dL_drive_54 : decode cL_drive 54 = .ok (.iload 5, 2) := by decide +kernel
theorem dL_drive_56 : decode cL_drive 56 = .ok (.iadd, 1) := by decide +kernel
theorem dL_drive_57 : decode cL_drive 57 = .ok (.aload_n 0, 1) := by decide +kernel
theorem dL_drive_58 : decode cL_drive 58 = .ok (.bipush 6, 2) := by decide +kernel
theorem dL_drive_60 : decode cL_drive 60 = .ok (.iaload, 1) := by decide +kernel
theorem dL_drive_61 : decode cL_drive 61 = .ok (.imul, 1) := by decide +kernel
theorem dL_drive_62 : decode cL_drive 62 = .ok (.istore 6, 2) := by decide +kernel
theorem dL_drive_64 : decode cL_drive 64 = .ok (.iload_n 2, 1) := by decide +kernel
theorem dL_drive_65 : decode cL_drive 65 = .ok (.iload_n 3, 1) := by decide +kernel
theorem dL_drive_66 : decode cL_drive 66 = .ok (.if_icmp .ne 7, 3) := by decide +kernel
theorem dL_drive_69 : decode cL_drive 69 = .ok (.iconst 0, 1) := by decide +kernel
theorem dL_drive_70 : decode cL_drive 70 = .ok (.goto 32, 3) := by decide +kernel
theorem dL_drive_73 : decode cL_drive 73 = .ok (.iload 6, 2) := by decide +kernel
theorem dL_drive_75 : decode cL_drive 75 = .ok (.iconst 1, 1) := by decide +kernel
theorem dL_drive_76 : decode cL_drive 76 = .ok (.if_icmp .ge 7, 3) := by decide +kernel
theorem dL_drive_79 : decode cL_drive 79 = .ok (.iconst 1, 1) := by decide +kernel
theorem dL_drive_80 : decode cL_drive 80 = .ok (.goto 22, 3) := by decide +kernel
theorem dL_drive_83 : decode cL_drive 83 = .ok (.iload 6, 2) := by decide +kernel
theorem dL_drive_85 : decode cL_drive 85 = .ok (.bipush 10, 2) := by decide +kernel
theorem dL_drive_87 : decode cL_drive 87 = .ok (.idiv, 1) := by decide +kernel
theorem dL_drive_88 : decode cL_drive 88 = .ok (.iload 6, 2) := by decide +kernel
theorem dL_drive_90 : decode cL_drive 90 = .ok (.bipush 10, 2) := by decide +kernel
theorem dL_drive_92 : decode cL_drive 92 = .ok (.irem, 1) := by decide +kernel
theorem dL_drive_93 : decode cL_drive 93 = .ok (.ifCond .ne 7, 3) := by decide +kernel
theorem dL_drive_96 : decode cL_drive 96 = .ok (.iconst 0, 1) := by decide +kernel
theorem dL_drive_97 : decode cL_drive 97 = .ok (.goto 4, 3) := by decide +kernel
theorem dL_drive_100 : decode cL_drive 100 = .ok (.iconst 1, 1) := by decide +kernel
theorem dL_drive_101 : decode cL_drive 101 = .ok (.iadd, 1) := by decide +kernel
theorem dL_drive_102 : decode cL_drive 102 = .ok (.ireturn, 1) := by decide +kernel
theorem dL_key_0 : decode cL_key 0 = .ok (.iload_n 0, 1) := by decide +kernel
theorem dL_key_1 : decode cL_key 1 = .ok (.bipush 8, 2) := by decide +kernel
theorem dL_key_3 : decode cL_key 3 = .ok (.iload_n 1, 1) := by decide +kernel
theorem dL_key_4 : decode cL_key 4 = .ok (.imul, 1) := by decide +kernel
theorem dL_key_5 : decode cL_key 5 = .ok (.iadd, 1) := by decide +kernel
theorem dL_key_6 : decode cL_key 6 = .ok (.bipush 32, 2) := by decide +kernel
theorem dL_key_8 : decode cL_key 8 = .ok (.iload_n 2, 1) := by decide +kernel
theorem dL_key_9 : decode cL_key 9 = .ok (.imul, 1) := by decide +kernel
theorem dL_key_10 : decode cL_key 10 = .ok (.iadd, 1) := by decide +kernel
theorem dL_key_11 : decode cL_key 11 = .ok (.ireturn, 1) := by decide +kernel
theorem dL_put_0 : decode cL_put 0 = .ok (.iconst 0, 1) := by decide +kernel
theorem dL_put_1 : decode cL_put 1 = .ok (.istore 4, 2) := by decide +kernel
theorem dL_put_3 : decode cL_put 3 = .ok (.iload 4, 2) := by decide +kernel
theorem dL_put_5 : decode cL_put 5 = .ok (.aload_n 0, 1) := by decide +kernel
theorem dL_put_6 : decode cL_put 6 = .ok (.bipush 12, 2) := by decide +kernel
theorem dL_put_8 : decode cL_put 8 = .ok (.iaload, 1) := by decide +kernel
theorem dL_put_9 : decode cL_put 9 = .ok (.if_icmp .ge 32, 3) := by decide +kernel
theorem dL_put_12 : decode cL_put 12 = .ok (.aload_n 1, 1) := by decide +kernel
theorem dL_put_13 : decode cL_put 13 = .ok (.iload 4, 2) := by decide +kernel
theorem dL_put_15 : decode cL_put 15 = .ok (.iaload, 1) := by decide +kernel
theorem dL_put_16 : decode cL_put 16 = .ok (.ldc 8, 2) := by decide +kernel
theorem dL_put_18 : decode cL_put 18 = .ok (.iand, 1) := by decide +kernel
theorem dL_put_19 : decode cL_put 19 = .ok (.iload_n 2, 1) := by decide +kernel
theorem dL_put_20 : decode cL_put 20 = .ok (.if_icmp .ne 15, 3) := by decide +kernel
theorem dL_put_23 : decode cL_put 23 = .ok (.aload_n 1, 1) := by decide +kernel
theorem dL_put_24 : decode cL_put 24 = .ok (.iload 4, 2) := by decide +kernel
theorem dL_put_26 : decode cL_put 26 = .ok (.dup2, 1) := by decide +kernel
theorem dL_put_27 : decode cL_put 27 = .ok (.iaload, 1) := by decide +kernel
theorem dL_put_28 : decode cL_put 28 = .ok (.ldc 9, 2) := by decide +kernel
theorem dL_put_30 : decode cL_put 30 = .ok (.iload_n 3, 1) := by decide +kernel
theorem dL_put_31 : decode cL_put 31 = .ok (.imul, 1) := by decide +kernel
theorem dL_put_32 : decode cL_put 32 = .ok (.iadd, 1) := by decide +kernel
theorem dL_put_33 : decode cL_put 33 = .ok (.iastore, 1) := by decide +kernel
theorem dL_put_34 : decode cL_put 34 = .ok (.return_, 1) := by decide +kernel
theorem dL_put_35 : decode cL_put 35 = .ok (.iinc 4 1, 3) := by decide +kernel
theorem dL_put_38 : decode cL_put 38 = .ok (.goto (-35), 3) := by decide +kernel
theorem dL_put_41 : decode cL_put 41 = .ok (.aload_n 1, 1) := by decide +kernel
theorem dL_put_42 : decode cL_put 42 = .ok (.aload_n 0, 1) := by decide +kernel
theorem dL_put_43 : decode cL_put 43 = .ok (.bipush 12, 2) := by decide +kernel
theorem dL_put_45 : decode cL_put 45 = .ok (.iaload, 1) := by decide +kernel
theorem dL_put_46 : decode cL_put 46 = .ok (.iload_n 2, 1) := by decide +kernel
theorem dL_put_47 : decode cL_put 47 = .ok (.ldc 9, 2) := by decide +kernel
theorem dL_put_49 : decode cL_put 49 = .ok (.iload_n 3, 1) := by decide +kernel
theorem dL_put_50 : decode cL_put 50 = .ok (.imul, 1) := by decide +kernel
theorem dL_put_51 : decode cL_put 51 = .ok (.iadd, 1) := by decide +kernel
theorem dL_put_52 : decode cL_put 52 = .ok (.iastore, 1) := by decide +kernel
theorem dL_put_53 : decode cL_put 53 = .ok (.aload_n 0, 1) := by decide +kernel
theorem dL_put_54 : decode cL_put 54 = .ok (.bipush 12, 2) := by decide +kernel
theorem dL_put_56 : decode cL_put 56 = .ok (.dup2, 1) := by decide +kernel
theorem dL_put_57 : decode cL_put 57 = .ok (.iaload, 1) := by decide +kernel
theorem dL_put_58 : decode cL_put 58 = .ok (.iconst 1, 1) := by decide +kernel
theorem dL_put_59 : decode cL_put 59 = .ok (.iadd, 1) := by decide +kernel
theorem dL_put_60 : decode cL_put 60 = .ok (.iastore, 1) := by decide +kernel
theorem dL_put_61 : decode cL_put 61 = .ok (.return_, 1) := by decide +kernel
theorem dL_first_0 : decode cL_first 0 = .ok (.iconst (-1), 1) := by decide +kernel
theorem dL_first_1 : decode cL_first 1 = .ok (.istore 4, 2) := by decide +kernel
theorem dL_first_3 : decode cL_first 3 = .ok (.iconst 0, 1) := by decide +kernel
theorem dL_first_4 : decode cL_first 4 = .ok (.istore 5, 2) := by decide +kernel
theorem dL_first_6 : decode cL_first 6 = .ok (.iload 5, 2) := by decide +kernel
theorem dL_first_8 : decode cL_first 8 = .ok (.aload_n 0, 1) := by decide +kernel
theorem dL_first_9 : decode cL_first 9 = .ok (.bipush 12, 2) := by decide +kernel
theorem dL_first_11 : decode cL_first 11 = .ok (.iaload, 1) := by decide +kernel
theorem dL_first_12 : decode cL_first 12 = .ok (.if_icmp .ge 101, 3) := by decide +kernel
theorem dL_first_15 : decode cL_first 15 = .ok (.aload_n 1, 1) := by decide +kernel
theorem dL_first_16 : decode cL_first 16 = .ok (.iload 5, 2) := by decide +kernel
theorem dL_first_18 : decode cL_first 18 = .ok (.iaload, 1) := by decide +kernel
theorem dL_first_19 : decode cL_first 19 = .ok (.ldc 8, 2) := by decide +kernel
theorem dL_first_21 : decode cL_first 21 = .ok (.iand, 1) := by decide +kernel
theorem dL_first_22 : decode cL_first 22 = .ok (.istore 6, 2) := by decide +kernel
theorem dL_first_24 : decode cL_first 24 = .ok (.iload 6, 2) := by decide +kernel
theorem dL_first_26 : decode cL_first 26 = .ok (.bipush 7, 2) := by decide +kernel
theorem dL_first_28 : decode cL_first 28 = .ok (.iand, 1) := by decide +kernel
theorem dL_first_29 : decode cL_first 29 = .ok (.iload_n 2, 1) := by decide +kernel
theorem dL_first_30 : decode cL_first 30 = .ok (.if_icmp .ne 77, 3) := by decide +kernel
theorem dL_first_33 : decode cL_first 33 = .ok (.iload_n 3, 1) := by decide +kernel
theorem dL_first_34 : decode cL_first 34 = .ok (.iload 6, 2) := by decide +kernel
theorem dL_first_36 : decode cL_first 36 = .ok (.iconst 3, 1) := by decide +kernel
theorem dL_first_37 : decode cL_first 37 = .ok (.ishr, 1) := by decide +kernel
theorem dL_first_38 : decode cL_first 38 = .ok (.iconst 3, 1) := by decide +kernel
theorem dL_first_39 : decode cL_first 39 = .ok (.iand, 1) := by decide +kernel
theorem dL_first_40 : decode cL_first 40 = .ok (.ishr, 1) := by decide +kernel
theorem dL_first_41 : decode cL_first 41 = .ok (.iconst 1, 1) := by decide +kernel
theorem dL_first_42 : decode cL_first 42 = .ok (.iand, 1) := by decide +kernel
theorem dL_first_43 : decode cL_first 43 = .ok (.ifCond .ne 6, 3) := by decide +kernel
theorem dL_first_46 : decode cL_first 46 = .ok (.goto 61, 3) := by decide +kernel
theorem dL_first_49 : decode cL_first 49 = .ok (.iload 4, 2) := by decide +kernel
theorem dL_first_51 : decode cL_first 51 = .ok (.ifCond .lt 52, 3) := by decide +kernel
theorem dL_first_54 : decode cL_first 54 = .ok (.iload 6, 2) := by decide +kernel
theorem dL_first_56 : decode cL_first 56 = .ok (.iconst 5, 1) := by decide +kernel
theorem dL_first_57 : decode cL_first 57 = .ok (.ishr, 1) := by decide +kernel
theorem dL_first_58 : decode cL_first 58 = .ok (.aload_n 1, 1) := by decide +kernel
theorem dL_first_59 : decode cL_first 59 = .ok (.iload 4, 2) := by decide +kernel
theorem dL_first_61 : decode cL_first 61 = .ok (.iaload, 1) := by decide +kernel
theorem dL_first_62 : decode cL_first 62 = .ok (.ldc 8, 2) := by decide +kernel
theorem dL_first_64 : decode cL_first 64 = .ok (.iand, 1) := by decide +kernel
theorem dL_first_65 : decode cL_first 65 = .ok (.iconst 5, 1) := by decide +kernel
theorem dL_first_66 : decode cL_first 66 = .ok (.ishr, 1) := by decide +kernel
theorem dL_first_67 : decode cL_first 67 = .ok (.if_icmp .lt 36, 3) := by decide +kernel
theorem dL_first_70 : decode cL_first 70 = .ok (.iload 6, 2) := by decide +kernel
theorem dL_first_72 : decode cL_first 72 = .ok (.iconst 5, 1) := by decide +kernel
theorem dL_first_73 : decode cL_first 73 = .ok (.ishr, 1) := by decide +kernel
theorem dL_first_74 : decode cL_first 74 = .ok (.aload_n 1, 1) := by decide +kernel
theorem dL_first_75 : decode cL_first 75 = .ok (.iload 4, 2) := by decide +kernel
theorem dL_first_77 : decode cL_first 77 = .ok (.iaload, 1) := by decide +kernel
theorem dL_first_78 : decode cL_first 78 = .ok (.ldc 8, 2) := by decide +kernel
theorem dL_first_80 : decode cL_first 80 = .ok (.iand, 1) := by decide +kernel
theorem dL_first_81 : decode cL_first 81 = .ok (.iconst 5, 1) := by decide +kernel
theorem dL_first_82 : decode cL_first 82 = .ok (.ishr, 1) := by decide +kernel
theorem dL_first_83 : decode cL_first 83 = .ok (.if_icmp .ne 24, 3) := by decide +kernel
theorem dL_first_86 : decode cL_first 86 = .ok (.iload 6, 2) := by decide +kernel
theorem dL_first_88 : decode cL_first 88 = .ok (.iconst 3, 1) := by decide +kernel
theorem dL_first_89 : decode cL_first 89 = .ok (.ishr, 1) := by decide +kernel
theorem dL_first_90 : decode cL_first 90 = .ok (.iconst 3, 1) := by decide +kernel
theorem dL_first_91 : decode cL_first 91 = .ok (.iand, 1) := by decide +kernel
theorem dL_first_92 : decode cL_first 92 = .ok (.aload_n 1, 1) := by decide +kernel
theorem dL_first_93 : decode cL_first 93 = .ok (.iload 4, 2) := by decide +kernel
theorem dL_first_95 : decode cL_first 95 = .ok (.iaload, 1) := by decide +kernel
theorem dL_first_96 : decode cL_first 96 = .ok (.iconst 3, 1) := by decide +kernel
theorem dL_first_97 : decode cL_first 97 = .ok (.ishr, 1) := by decide +kernel
theorem dL_first_98 : decode cL_first 98 = .ok (.iconst 3, 1) := by decide +kernel
theorem dL_first_99 : decode cL_first 99 = .ok (.iand, 1) := by decide +kernel
theorem dL_first_100 : decode cL_first 100 = .ok (.if_icmp .ge 7, 3) := by decide +kernel
theorem dL_first_103 : decode cL_first 103 = .ok (.iload 5, 2) := by decide +kernel
theorem dL_first_105 : decode cL_first 105 = .ok (.istore 4, 2) := by decide +kernel
theorem dL_first_107 : decode cL_first 107 = .ok (.iinc 5 1, 3) := by decide +kernel
theorem dL_first_110 : decode cL_first 110 = .ok (.goto (-104), 3) := by decide +kernel
theorem dL_first_113 : decode cL_first 113 = .ok (.iload 4, 2) := by decide +kernel
theorem dL_first_115 : decode cL_first 115 = .ok (.ireturn, 1) := by decide +kernel
theorem dL_less_0 : decode cL_less 0 = .ok (.aload_n 1, 1) := by decide +kernel
theorem dL_less_1 : decode cL_less 1 = .ok (.iload_n 2, 1) := by decide +kernel
theorem dL_less_2 : decode cL_less 2 = .ok (.dup2, 1) := by decide +kernel
theorem dL_less_3 : decode cL_less 3 = .ok (.iaload, 1) := by decide +kernel
theorem dL_less_4 : decode cL_less 4 = .ok (.ldc 9, 2) := by decide +kernel
theorem dL_less_6 : decode cL_less 6 = .ok (.iload_n 3, 1) := by decide +kernel
theorem dL_less_7 : decode cL_less 7 = .ok (.imul, 1) := by decide +kernel
theorem dL_less_8 : decode cL_less 8 = .ok (.isub, 1) := by decide +kernel
theorem dL_less_9 : decode cL_less 9 = .ok (.iastore, 1) := by decide +kernel
theorem dL_less_10 : decode cL_less 10 = .ok (.aload_n 1, 1) := by decide +kernel
theorem dL_less_11 : decode cL_less 11 = .ok (.iload_n 2, 1) := by decide +kernel
theorem dL_less_12 : decode cL_less 12 = .ok (.iaload, 1) := by decide +kernel
theorem dL_less_13 : decode cL_less 13 = .ok (.ldc 9, 2) := by decide +kernel
theorem dL_less_15 : decode cL_less 15 = .ok (.if_icmp .lt 4, 3) := by decide +kernel
theorem dL_less_18 : decode cL_less 18 = .ok (.return_, 1) := by decide +kernel
theorem dL_less_19 : decode cL_less 19 = .ok (.aload_n 0, 1) := by decide +kernel
theorem dL_less_20 : decode cL_less 20 = .ok (.bipush 12, 2) := by decide +kernel
theorem dL_less_22 : decode cL_less 22 = .ok (.dup2, 1) := by decide +kernel
theorem dL_less_23 : decode cL_less 23 = .ok (.iaload, 1) := by decide +kernel
theorem dL_less_24 : decode cL_less 24 = .ok (.iconst 1, 1) := by decide +kernel
theorem dL_less_25 : decode cL_less 25 = .ok (.isub, 1) := by decide +kernel
theorem dL_less_26 : decode cL_less 26 = .ok (.iastore, 1) := by decide +kernel
theorem dL_less_27 : decode cL_less 27 = .ok (.aload_n 1, 1) := by decide +kernel
theorem dL_less_28 : decode cL_less 28 = .ok (.iload_n 2, 1) := by decide +kernel
theorem dL_less_29 : decode cL_less 29 = .ok (.aload_n 1, 1) := by decide +kernel
theorem dL_less_30 : decode cL_less 30 = .ok (.aload_n 0, 1) := by decide +kernel
theorem dL_less_31 : decode cL_less 31 = .ok (.bipush 12, 2) := by decide +kernel
theorem dL_less_33 : decode cL_less 33 = .ok (.iaload, 1) := by decide +kernel
theorem dL_less_34 : decode cL_less 34 = .ok (.iaload, 1) := by decide +kernel
theorem dL_less_35 : decode cL_less 35 = .ok (.iastore, 1) := by decide +kernel
theorem dL_less_36 : decode cL_less 36 = .ok (.return_, 1) := by decide +kernel
theorem dL_meals_0 : decode cL_meals 0 = .ok (.iconst 0, 1) := by decide +kernel
theorem dL_meals_1 : decode cL_meals 1 = .ok (.istore 4, 2) := by decide +kernel
theorem dL_meals_3 : decode cL_meals 3 = .ok (.iconst 0, 1) := by decide +kernel
theorem dL_meals_4 : decode cL_meals 4 = .ok (.istore 5, 2) := by decide +kernel
theorem dL_meals_6 : decode cL_meals 6 = .ok (.iload 5, 2) := by decide +kernel
theorem dL_meals_8 : decode cL_meals 8 = .ok (.aload_n 0, 1) := by decide +kernel
theorem dL_meals_9 : decode cL_meals 9 = .ok (.bipush 12, 2) := by decide +kernel
theorem dL_meals_11 : decode cL_meals 11 = .ok (.iaload, 1) := by decide +kernel
theorem dL_meals_12 : decode cL_meals 12 = .ok (.if_icmp .ge 44, 3) := by decide +kernel
theorem dL_meals_15 : decode cL_meals 15 = .ok (.aload_n 1, 1) := by decide +kernel
theorem dL_meals_16 : decode cL_meals 16 = .ok (.iload 5, 2) := by decide +kernel
theorem dL_meals_18 : decode cL_meals 18 = .ok (.iaload, 1) := by decide +kernel
theorem dL_meals_19 : decode cL_meals 19 = .ok (.bipush 7, 2) := by decide +kernel
theorem dL_meals_21 : decode cL_meals 21 = .ok (.iand, 1) := by decide +kernel
theorem dL_meals_22 : decode cL_meals 22 = .ok (.iload_n 2, 1) := by decide +kernel
theorem dL_meals_23 : decode cL_meals 23 = .ok (.if_icmp .ne 27, 3) := by decide +kernel
theorem dL_meals_26 : decode cL_meals 26 = .ok (.aload_n 1, 1) := by decide +kernel
theorem dL_meals_27 : decode cL_meals 27 = .ok (.iload 5, 2) := by decide +kernel
theorem dL_meals_29 : decode cL_meals 29 = .ok (.iaload, 1) := by decide +kernel
theorem dL_meals_30 : decode cL_meals 30 = .ok (.iconst 3, 1) := by decide +kernel
theorem dL_meals_31 : decode cL_meals 31 = .ok (.ishr, 1) := by decide +kernel
theorem dL_meals_32 : decode cL_meals 32 = .ok (.iconst 3, 1) := by decide +kernel
theorem dL_meals_33 : decode cL_meals 33 = .ok (.iand, 1) := by decide +kernel
theorem dL_meals_34 : decode cL_meals 34 = .ok (.iload_n 3, 1) := by decide +kernel
theorem dL_meals_35 : decode cL_meals 35 = .ok (.if_icmp .ne 15, 3) := by decide +kernel
theorem dL_meals_38 : decode cL_meals 38 = .ok (.iload 4, 2) := by decide +kernel
theorem dL_meals_40 : decode cL_meals 40 = .ok (.aload_n 1, 1) := by decide +kernel
theorem dL_meals_41 : decode cL_meals 41 = .ok (.iload 5, 2) := by decide +kernel
theorem dL_meals_43 : decode cL_meals 43 = .ok (.iaload, 1) := by decide +kernel
theorem dL_meals_44 : decode cL_meals 44 = .ok (.bipush 17, 2) := by decide +kernel
theorem dL_meals_46 : decode cL_meals 46 = .ok (.ishr, 1) := by decide +kernel
theorem dL_meals_47 : decode cL_meals 47 = .ok (.iadd, 1) := by decide +kernel
theorem dL_meals_48 : decode cL_meals 48 = .ok (.istore 4, 2) := by decide +kernel
theorem dL_meals_50 : decode cL_meals 50 = .ok (.iinc 5 1, 3) := by decide +kernel
theorem dL_meals_53 : decode cL_meals 53 = .ok (.goto (-47), 3) := by decide +kernel
theorem dL_meals_56 : decode cL_meals 56 = .ok (.iload 4, 2) := by decide +kernel
theorem dL_meals_58 : decode cL_meals 58 = .ok (.ireturn, 1) := by decide +kernel
theorem dL_all_0 : decode cL_all 0 = .ok (.aload_n 0, 1) := by decide +kernel
theorem dL_all_1 : decode cL_all 1 = .ok (.aload_n 1, 1) := by decide +kernel
theorem dL_all_2 : decode cL_all 2 = .ok (.iload_n 2, 1) := by decide +kernel
theorem dL_all_3 : decode cL_all 3 = .ok (.iconst 0, 1) := by decide +kernel
theorem dL_all_4 : decode cL_all 4 = .ok (.invokestatic 10, 3) := by decide +kernel
theorem dL_all_7 : decode cL_all 7 = .ok (.aload_n 0, 1) := by decide +kernel
theorem dL_all_8 : decode cL_all 8 = .ok (.aload_n 1, 1) := by decide +kernel
theorem dL_all_9 : decode cL_all 9 = .ok (.iload_n 2, 1) := by decide +kernel
theorem dL_all_10 : decode cL_all 10 = .ok (.iconst 1, 1) := by decide +kernel
theorem dL_all_11 : decode cL_all 11 = .ok (.invokestatic 10, 3) := by decide +kernel
theorem dL_all_14 : decode cL_all 14 = .ok (.iadd, 1) := by decide +kernel
theorem dL_all_15 : decode cL_all 15 = .ok (.aload_n 0, 1) := by decide +kernel
theorem dL_all_16 : decode cL_all 16 = .ok (.aload_n 1, 1) := by decide +kernel
theorem dL_all_17 : decode cL_all 17 = .ok (.iload_n 2, 1) := by decide +kernel
theorem dL_all_18 : decode cL_all 18 = .ok (.iconst 2, 1) := by decide +kernel
theorem dL_all_19 : decode cL_all 19 = .ok (.invokestatic 10, 3) := by decide +kernel
theorem dL_all_22 : decode cL_all 22 = .ok (.iadd, 1) := by decide +kernel
theorem dL_all_23 : decode cL_all 23 = .ok (.ireturn, 1) := by decide +kernel
theorem dL_serve_0 : decode cL_serve 0 = .ok (.iconst 0, 1) := by decide +kernel
theorem dL_serve_1 : decode cL_serve 1 = .ok (.istore 9, 2) := by decide +kernel
theorem dL_serve_3 : decode cL_serve 3 = .ok (.iload 9, 2) := by decide +kernel
theorem dL_serve_5 : decode cL_serve 5 = .ok (.bipush 7, 2) := by decide +kernel
theorem dL_serve_7 : decode cL_serve 7 = .ok (.if_icmp .ge 222, 3) := by decide +kernel
theorem dL_serve_10 : decode cL_serve 10 = .ok (.iload 9, 2) := by decide +kernel
theorem dL_serve_12 : decode cL_serve 12 = .ok (.iconst 4, 1) := by decide +kernel
theorem dL_serve_13 : decode cL_serve 13 = .ok (.if_icmp .ge 10, 3) := by decide +kernel
theorem dL_serve_16 : decode cL_serve 16 = .ok (.iconst 4, 1) := by decide +kernel
theorem dL_serve_17 : decode cL_serve 17 = .ok (.iload 9, 2) := by decide +kernel
theorem dL_serve_19 : decode cL_serve 19 = .ok (.iadd, 1) := by decide +kernel
theorem dL_serve_20 : decode cL_serve 20 = .ok (.goto 7, 3) := by decide +kernel
theorem dL_serve_23 : decode cL_serve 23 = .ok (.iload 9, 2) := by decide +kernel
theorem dL_serve_25 : decode cL_serve 25 = .ok (.iconst 4, 1) := by decide +kernel
theorem dL_serve_26 : decode cL_serve 26 = .ok (.isub, 1) := by decide +kernel
theorem dL_serve_27 : decode cL_serve 27 = .ok (.istore 10, 2) := by decide +kernel
theorem dL_serve_29 : decode cL_serve 29 = .ok (.iload 9, 2) := by decide +kernel
theorem dL_serve_31 : decode cL_serve 31 = .ok (.iconst 4, 1) := by decide +kernel
theorem dL_serve_32 : decode cL_serve 32 = .ok (.if_icmp .ge 32, 3) := by decide +kernel
theorem dL_serve_35 : decode cL_serve 35 = .ok (.iload 9, 2) := by decide +kernel
theorem dL_serve_37 : decode cL_serve 37 = .ok (.aload_n 0, 1) := by decide +kernel
theorem dL_serve_38 : decode cL_serve 38 = .ok (.iconst 2, 1) := by decide +kernel
theorem dL_serve_39 : decode cL_serve 39 = .ok (.iaload, 1) := by decide +kernel
theorem dL_serve_40 : decode cL_serve 40 = .ok (.if_icmp .ge 183, 3) := by decide +kernel
theorem dL_serve_43 : decode cL_serve 43 = .ok (.aload_n 3, 1) := by decide +kernel
theorem dL_serve_44 : decode cL_serve 44 = .ok (.iload 9, 2) := by decide +kernel
theorem dL_serve_46 : decode cL_serve 46 = .ok (.iaload, 1) := by decide +kernel
theorem dL_serve_47 : decode cL_serve 47 = .ok (.ifCond .gt 176, 3) := by decide +kernel
theorem dL_serve_50 : decode cL_serve 50 = .ok (.aload_n 2, 1) := by decide +kernel
theorem dL_serve_51 : decode cL_serve 51 = .ok (.iload 9, 2) := by decide +kernel
theorem dL_serve_53 : decode cL_serve 53 = .ok (.iaload, 1) := by decide +kernel
theorem dL_serve_54 : decode cL_serve 54 = .ok (.aload 4, 2) := by decide +kernel
theorem dL_serve_56 : decode cL_serve 56 = .ok (.iload 6, 2) := by decide +kernel
theorem dL_serve_58 : decode cL_serve 58 = .ok (.iconst 1, 1) := by decide +kernel
theorem dL_serve_59 : decode cL_serve 59 = .ok (.iadd, 1) := by decide +kernel
theorem dL_serve_60 : decode cL_serve 60 = .ok (.iaload, 1) := by decide +kernel
theorem dL_serve_61 : decode cL_serve 61 = .ok (.if_icmp .ne 162, 3) := by decide +kernel
theorem dL_serve_64 : decode cL_serve 64 = .ok (.iload 9, 2) := by decide +kernel
theorem dL_serve_66 : decode cL_serve 66 = .ok (.iconst 3, 1) := by decide +kernel
theorem dL_serve_67 : decode cL_serve 67 = .ok (.if_icmp .le 28, 3) := by decide +kernel
theorem dL_serve_70 : decode cL_serve 70 = .ok (.iload 10, 2) := by decide +kernel
theorem dL_serve_72 : decode cL_serve 72 = .ok (.aload_n 0, 1) := by decide +kernel
theorem dL_serve_73 : decode cL_serve 73 = .ok (.iconst 1, 1) := by decide +kernel
theorem dL_serve_74 : decode cL_serve 74 = .ok (.iaload, 1) := by decide +kernel
theorem dL_serve_75 : decode cL_serve 75 = .ok (.if_icmp .ge 148, 3) := by decide +kernel
theorem dL_serve_78 : decode cL_serve 78 = .ok (.aload_n 1, 1) := by decide +kernel
theorem dL_serve_79 : decode cL_serve 79 = .ok (.iload 10, 2) := by decide +kernel
theorem dL_serve_81 : decode cL_serve 81 = .ok (.iaload, 1) := by decide +kernel
theorem dL_serve_82 : decode cL_serve 82 = .ok (.aload 4, 2) := by decide +kernel
theorem dL_serve_84 : decode cL_serve 84 = .ok (.iload 6, 2) := by decide +kernel
theorem dL_serve_86 : decode cL_serve 86 = .ok (.iconst 1, 1) := by decide +kernel
theorem dL_serve_87 : decode cL_serve 87 = .ok (.iadd, 1) := by decide +kernel
theorem dL_serve_88 : decode cL_serve 88 = .ok (.iaload, 1) := by decide +kernel
theorem dL_serve_89 : decode cL_serve 89 = .ok (.if_icmp .eq 6, 3) := by decide +kernel
theorem dL_serve_92 : decode cL_serve 92 = .ok (.goto 131, 3) := by decide +kernel
theorem dL_serve_95 : decode cL_serve 95 = .ok (.aload_n 0, 1) := by decide +kernel
theorem dL_serve_96 : decode cL_serve 96 = .ok (.aload 5, 2) := by decide +kernel
theorem dL_serve_98 : decode cL_serve 98 = .ok (.iload 10, 2) := by decide +kernel
theorem dL_serve_100 : decode cL_serve 100 = .ok (.iload 8, 2) := by decide +kernel
theorem dL_serve_102 : decode cL_serve 102 = .ok (.invokestatic 16, 3) := by decide +kernel
theorem dL_serve_105 : decode cL_serve 105 = .ok (.istore 11, 2) := by decide +kernel
theorem dL_serve_107 : decode cL_serve 107 = .ok (.iload 11, 2) := by decide +kernel
theorem dL_serve_109 : decode cL_serve 109 = .ok (.ifCond .lt 114, 3) := by decide +kernel
theorem dL_serve_112 : decode cL_serve 112 = .ok (.aload 4, 2) := by decide +kernel
theorem dL_serve_114 : decode cL_serve 114 = .ok (.iload 6, 2) := by decide +kernel
theorem dL_serve_116 : decode cL_serve 116 = .ok (.iload 7, 2) := by decide +kernel
theorem dL_serve_118 : decode cL_serve 118 = .ok (.iadd, 1) := by decide +kernel
theorem dL_serve_119 : decode cL_serve 119 = .ok (.iaload, 1) := by decide +kernel
theorem dL_serve_120 : decode cL_serve 120 = .ok (.ifCond .le 103, 3) := by decide +kernel
theorem dL_serve_123 : decode cL_serve 123 = .ok (.aload 5, 2) := by decide +kernel
theorem dL_serve_125 : decode cL_serve 125 = .ok (.iload 11, 2) := by decide +kernel
theorem dL_serve_127 : decode cL_serve 127 = .ok (.iaload, 1) := by decide +kernel
theorem dL_serve_128 : decode cL_serve 128 = .ok (.bipush 17, 2) := by decide +kernel
theorem dL_serve_130 : decode cL_serve 130 = .ok (.ishr, 1) := by decide +kernel
theorem dL_serve_131 : decode cL_serve 131 = .ok (.aload 4, 2) := by decide +kernel
theorem dL_serve_133 : decode cL_serve 133 = .ok (.iload 6, 2) := by decide +kernel
theorem dL_serve_135 : decode cL_serve 135 = .ok (.iload 7, 2) := by decide +kernel
theorem dL_serve_137 : decode cL_serve 137 = .ok (.iadd, 1) := by decide +kernel
theorem dL_serve_138 : decode cL_serve 138 = .ok (.iaload, 1) := by decide +kernel
theorem dL_serve_139 : decode cL_serve 139 = .ok (.if_icmp .ge 14, 3) := by decide +kernel
theorem dL_serve_142 : decode cL_serve 142 = .ok (.aload 5, 2) := by decide +kernel
theorem dL_serve_144 : decode cL_serve 144 = .ok (.iload 11, 2) := by decide +kernel
theorem dL_serve_146 : decode cL_serve 146 = .ok (.iaload, 1) := by decide +kernel
theorem dL_serve_147 : decode cL_serve 147 = .ok (.bipush 17, 2) := by decide +kernel
theorem dL_serve_149 : decode cL_serve 149 = .ok (.ishr, 1) := by decide +kernel
theorem dL_serve_150 : decode cL_serve 150 = .ok (.goto 11, 3) := by decide +kernel
theorem dL_serve_153 : decode cL_serve 153 = .ok (.aload 4, 2) := by decide +kernel
theorem dL_serve_155 : decode cL_serve 155 = .ok (.iload 6, 2) := by decide +kernel
theorem dL_serve_157 : decode cL_serve 157 = .ok (.iload 7, 2) := by decide +kernel
theorem dL_serve_159 : decode cL_serve 159 = .ok (.iadd, 1) := by decide +kernel
theorem dL_serve_160 : decode cL_serve 160 = .ok (.iaload, 1) := by decide +kernel
theorem dL_serve_161 : decode cL_serve 161 = .ok (.istore 12, 2) := by decide +kernel
theorem dL_serve_163 : decode cL_serve 163 = .ok (.aload_n 0, 1) := by decide +kernel
theorem dL_serve_164 : decode cL_serve 164 = .ok (.aload 5, 2) := by decide +kernel
theorem dL_serve_166 : decode cL_serve 166 = .ok (.iload 11, 2) := by decide +kernel
theorem dL_serve_168 : decode cL_serve 168 = .ok (.iload 12, 2) := by decide +kernel
theorem dL_serve_170 : decode cL_serve 170 = .ok (.invokestatic 19, 3) := by decide +kernel
theorem dL_serve_173 : decode cL_serve 173 = .ok (.aload 4, 2) := by decide +kernel
theorem dL_serve_175 : decode cL_serve 175 = .ok (.iload 6, 2) := by decide +kernel
theorem dL_serve_177 : decode cL_serve 177 = .ok (.iload 7, 2) := by decide +kernel
theorem dL_serve_179 : decode cL_serve 179 = .ok (.iadd, 1) := by decide +kernel
theorem dL_serve_180 : decode cL_serve 180 = .ok (.dup2, 1) := by decide +kernel
theorem dL_serve_181 : decode cL_serve 181 = .ok (.iaload, 1) := by decide +kernel
theorem dL_serve_182 : decode cL_serve 182 = .ok (.iload 12, 2) := by decide +kernel
theorem dL_serve_184 : decode cL_serve 184 = .ok (.isub, 1) := by decide +kernel
theorem dL_serve_185 : decode cL_serve 185 = .ok (.iastore, 1) := by decide +kernel
theorem dL_serve_186 : decode cL_serve 186 = .ok (.aload 4, 2) := by decide +kernel
theorem dL_serve_188 : decode cL_serve 188 = .ok (.iload 6, 2) := by decide +kernel
theorem dL_serve_190 : decode cL_serve 190 = .ok (.bipush 9, 2) := by decide +kernel
theorem dL_serve_192 : decode cL_serve 192 = .ok (.iadd, 1) := by decide +kernel
theorem dL_serve_193 : decode cL_serve 193 = .ok (.dup2, 1) := by decide +kernel
theorem dL_serve_194 : decode cL_serve 194 = .ok (.iaload, 1) := by decide +kernel
theorem dL_serve_195 : decode cL_serve 195 = .ok (.iload 12, 2) := by decide +kernel
theorem dL_serve_197 : decode cL_serve 197 = .ok (.iadd, 1) := by decide +kernel
theorem dL_serve_198 : decode cL_serve 198 = .ok (.iastore, 1) := by decide +kernel
theorem dL_serve_199 : decode cL_serve 199 = .ok (.aload_n 0, 1) := by decide +kernel
theorem dL_serve_200 : decode cL_serve 200 = .ok (.bipush 14, 2) := by decide +kernel
theorem dL_serve_202 : decode cL_serve 202 = .ok (.dup2, 1) := by decide +kernel
theorem dL_serve_203 : decode cL_serve 203 = .ok (.iaload, 1) := by decide +kernel
theorem dL_serve_204 : decode cL_serve 204 = .ok (.iload 12, 2) := by decide +kernel
theorem dL_serve_206 : decode cL_serve 206 = .ok (.iadd, 1) := by decide +kernel
theorem dL_serve_207 : decode cL_serve 207 = .ok (.iastore, 1) := by decide +kernel
theorem dL_serve_208 : decode cL_serve 208 = .ok (.aload_n 0, 1) := by decide +kernel
theorem dL_serve_209 : decode cL_serve 209 = .ok (.aload 5, 2) := by decide +kernel
theorem dL_serve_211 : decode cL_serve 211 = .ok (.iload 10, 2) := by decide +kernel
theorem dL_serve_213 : decode cL_serve 213 = .ok (.iload 8, 2) := by decide +kernel
theorem dL_serve_215 : decode cL_serve 215 = .ok (.invokestatic 16, 3) := by decide +kernel
theorem dL_serve_218 : decode cL_serve 218 = .ok (.istore 11, 2) := by decide +kernel
theorem dL_serve_220 : decode cL_serve 220 = .ok (.goto (-113), 3) := by decide +kernel
theorem dL_serve_223 : decode cL_serve 223 = .ok (.iinc 9 1, 3) := by decide +kernel
theorem dL_serve_226 : decode cL_serve 226 = .ok (.goto (-223), 3) := by decide +kernel
theorem dL_serve_229 : decode cL_serve 229 = .ok (.return_, 1) := by decide +kernel
theorem dL_minute_0 : decode cL_minute 0 = .ok (.aload_n 0, 1) := by decide +kernel
theorem dL_minute_1 : decode cL_minute 1 = .ok (.iconst 4, 1) := by decide +kernel
theorem dL_minute_2 : decode cL_minute 2 = .ok (.dup2, 1) := by decide +kernel
theorem dL_minute_3 : decode cL_minute 3 = .ok (.iaload, 1) := by decide +kernel
theorem dL_minute_4 : decode cL_minute 4 = .ok (.iconst 1, 1) := by decide +kernel
theorem dL_minute_5 : decode cL_minute 5 = .ok (.iadd, 1) := by decide +kernel
theorem dL_minute_6 : decode cL_minute 6 = .ok (.iastore, 1) := by decide +kernel
theorem dL_minute_7 : decode cL_minute 7 = .ok (.iconst 0, 1) := by decide +kernel
theorem dL_minute_8 : decode cL_minute 8 = .ok (.istore 8, 2) := by decide +kernel
theorem dL_minute_10 : decode cL_minute 10 = .ok (.iload 8, 2) := by decide +kernel
theorem dL_minute_12 : decode cL_minute 12 = .ok (.aload_n 0, 1) := by decide +kernel
theorem dL_minute_13 : decode cL_minute 13 = .ok (.iconst 2, 1) := by decide +kernel
theorem dL_minute_14 : decode cL_minute 14 = .ok (.iaload, 1) := by decide +kernel
theorem dL_minute_15 : decode cL_minute 15 = .ok (.if_icmp .ge 26, 3) := by decide +kernel
theorem dL_minute_18 : decode cL_minute 18 = .ok (.aload 5, 2) := by decide +kernel
theorem dL_minute_20 : decode cL_minute 20 = .ok (.iload 8, 2) := by decide +kernel
theorem dL_minute_22 : decode cL_minute 22 = .ok (.iaload, 1) := by decide +kernel
theorem dL_minute_23 : decode cL_minute 23 = .ok (.ifCond .le 12, 3) := by decide +kernel
theorem dL_minute_26 : decode cL_minute 26 = .ok (.aload 5, 2) := by decide +kernel
theorem dL_minute_28 : decode cL_minute 28 = .ok (.iload 8, 2) := by decide +kernel
theorem dL_minute_30 : decode cL_minute 30 = .ok (.dup2, 1) := by decide +kernel
theorem dL_minute_31 : decode cL_minute 31 = .ok (.iaload, 1) := by decide +kernel
theorem dL_minute_32 : decode cL_minute 32 = .ok (.iconst 1, 1) := by decide +kernel
theorem dL_minute_33 : decode cL_minute 33 = .ok (.isub, 1) := by decide +kernel
theorem dL_minute_34 : decode cL_minute 34 = .ok (.iastore, 1) := by decide +kernel
theorem dL_minute_35 : decode cL_minute 35 = .ok (.iinc 8 1, 3) := by decide +kernel
theorem dL_minute_38 : decode cL_minute 38 = .ok (.goto (-28), 3) := by decide +kernel
theorem dL_minute_41 : decode cL_minute 41 = .ok (.iconst 0, 1) := by decide +kernel
theorem dL_minute_42 : decode cL_minute 42 = .ok (.istore 8, 2) := by decide +kernel
theorem dL_minute_44 : decode cL_minute 44 = .ok (.iload 8, 2) := by decide +kernel
theorem dL_minute_46 : decode cL_minute 46 = .ok (.aload_n 0, 1) := by decide +kernel
theorem dL_minute_47 : decode cL_minute 47 = .ok (.iconst 1, 1) := by decide +kernel
theorem dL_minute_48 : decode cL_minute 48 = .ok (.iaload, 1) := by decide +kernel
theorem dL_minute_49 : decode cL_minute 49 = .ok (.if_icmp .ge 78, 3) := by decide +kernel
theorem dL_minute_52 : decode cL_minute 52 = .ok (.aload_n 3, 1) := by decide +kernel
theorem dL_minute_53 : decode cL_minute 53 = .ok (.iload 8, 2) := by decide +kernel
theorem dL_minute_55 : decode cL_minute 55 = .ok (.iaload, 1) := by decide +kernel
theorem dL_minute_56 : decode cL_minute 56 = .ok (.ifCond .le 65, 3) := by decide +kernel
theorem dL_minute_59 : decode cL_minute 59 = .ok (.aload_n 3, 1) := by decide +kernel
theorem dL_minute_60 : decode cL_minute 60 = .ok (.iload 8, 2) := by decide +kernel
theorem dL_minute_62 : decode cL_minute 62 = .ok (.iaload, 1) := by decide +kernel
theorem dL_minute_63 : decode cL_minute 63 = .ok (.aload_n 0, 1) := by decide +kernel
theorem dL_minute_64 : decode cL_minute 64 = .ok (.bipush 10, 2) := by decide +kernel
theorem dL_minute_66 : decode cL_minute 66 = .ok (.iaload, 1) := by decide +kernel
theorem dL_minute_67 : decode cL_minute 67 = .ok (.if_icmp .ge 10, 3) := by decide +kernel
theorem dL_minute_70 : decode cL_minute 70 = .ok (.aload_n 3, 1) := by decide +kernel
theorem dL_minute_71 : decode cL_minute 71 = .ok (.iload 8, 2) := by decide +kernel
theorem dL_minute_73 : decode cL_minute 73 = .ok (.iaload, 1) := by decide +kernel
theorem dL_minute_74 : decode cL_minute 74 = .ok (.goto 7, 3) := by decide +kernel
theorem dL_minute_77 : decode cL_minute 77 = .ok (.aload_n 0, 1) := by decide +kernel
theorem dL_minute_78 : decode cL_minute 78 = .ok (.bipush 10, 2) := by decide +kernel
theorem dL_minute_80 : decode cL_minute 80 = .ok (.iaload, 1) := by decide +kernel
theorem dL_minute_81 : decode cL_minute 81 = .ok (.istore 9, 2) := by decide +kernel
theorem dL_minute_83 : decode cL_minute 83 = .ok (.aload_n 3, 1) := by decide +kernel
theorem dL_minute_84 : decode cL_minute 84 = .ok (.iload 8, 2) := by decide +kernel
theorem dL_minute_86 : decode cL_minute 86 = .ok (.dup2, 1) := by decide +kernel
theorem dL_minute_87 : decode cL_minute 87 = .ok (.iaload, 1) := by decide +kernel
theorem dL_minute_88 : decode cL_minute 88 = .ok (.iload 9, 2) := by decide +kernel
theorem dL_minute_90 : decode cL_minute 90 = .ok (.isub, 1) := by decide +kernel
theorem dL_minute_91 : decode cL_minute 91 = .ok (.iastore, 1) := by decide +kernel
theorem dL_minute_92 : decode cL_minute 92 = .ok (.aload_n 0, 1) := by decide +kernel
theorem dL_minute_93 : decode cL_minute 93 = .ok (.bipush 13, 2) := by decide +kernel
theorem dL_minute_95 : decode cL_minute 95 = .ok (.dup2, 1) := by decide +kernel
theorem dL_minute_96 : decode cL_minute 96 = .ok (.iaload, 1) := by decide +kernel
theorem dL_minute_97 : decode cL_minute 97 = .ok (.iload 9, 2) := by decide +kernel
theorem dL_minute_99 : decode cL_minute 99 = .ok (.iadd, 1) := by decide +kernel
theorem dL_minute_100 : decode cL_minute 100 = .ok (.iastore, 1) := by decide +kernel
theorem dL_minute_101 : decode cL_minute 101 = .ok (.aload_n 0, 1) := by decide +kernel
theorem dL_minute_102 : decode cL_minute 102 = .ok (.aload 7, 2) := by decide +kernel
theorem dL_minute_104 : decode cL_minute 104 = .ok (.iload 8, 2) := by decide +kernel
theorem dL_minute_106 : decode cL_minute 106 = .ok (.aload_n 2, 1) := by decide +kernel
theorem dL_minute_107 : decode cL_minute 107 = .ok (.iload 8, 2) := by decide +kernel
theorem dL_minute_109 : decode cL_minute 109 = .ok (.iaload, 1) := by decide +kernel
theorem dL_minute_110 : decode cL_minute 110 = .ok (.aload_n 0, 1) := by decide +kernel
theorem dL_minute_111 : decode cL_minute 111 = .ok (.iconst 4, 1) := by decide +kernel
theorem dL_minute_112 : decode cL_minute 112 = .ok (.iaload, 1) := by decide +kernel
theorem dL_minute_113 : decode cL_minute 113 = .ok (.invokestatic 23, 3) := by decide +kernel
theorem dL_minute_116 : decode cL_minute 116 = .ok (.iload 9, 2) := by decide +kernel
theorem dL_minute_118 : decode cL_minute 118 = .ok (.invokestatic 27, 3) := by decide +kernel
theorem dL_minute_121 : decode cL_minute 121 = .ok (.iinc 8 1, 3) := by decide +kernel
theorem dL_minute_124 : decode cL_minute 124 = .ok (.goto (-80), 3) := by decide +kernel
theorem dL_minute_127 : decode cL_minute 127 = .ok (.aload_n 0, 1) := by decide +kernel
theorem dL_minute_128 : decode cL_minute 128 = .ok (.bipush 12, 2) := by decide +kernel
theorem dL_minute_130 : decode cL_minute 130 = .ok (.iaload, 1) := by decide +kernel
theorem dL_minute_131 : decode cL_minute 131 = .ok (.iconst 1, 1) := by decide +kernel
theorem dL_minute_132 : decode cL_minute 132 = .ok (.isub, 1) := by decide +kernel
theorem dL_minute_133 : decode cL_minute 133 = .ok (.istore 8, 2) := by decide +kernel
theorem dL_minute_135 : decode cL_minute 135 = .ok (.iload 8, 2) := by decide +kernel
theorem dL_minute_137 : decode cL_minute 137 = .ok (.ifCond .lt 62, 3) := by decide +kernel
theorem dL_minute_140 : decode cL_minute 140 = .ok (.aload 7, 2) := by decide +kernel
theorem dL_minute_142 : decode cL_minute 142 = .ok (.iload 8, 2) := by decide +kernel
theorem dL_minute_144 : decode cL_minute 144 = .ok (.iaload, 1) := by decide +kernel
theorem dL_minute_145 : decode cL_minute 145 = .ok (.iconst 5, 1) := by decide +kernel
theorem dL_minute_146 : decode cL_minute 146 = .ok (.ishr, 1) := by decide +kernel
theorem dL_minute_147 : decode cL_minute 147 = .ok (.sipush 4095, 3) := by decide +kernel
theorem dL_minute_150 : decode cL_minute 150 = .ok (.iand, 1) := by decide +kernel
theorem dL_minute_151 : decode cL_minute 151 = .ok (.aload_n 0, 1) := by decide +kernel
theorem dL_minute_152 : decode cL_minute 152 = .ok (.bipush 9, 2) := by decide +kernel
theorem dL_minute_154 : decode cL_minute 154 = .ok (.iaload, 1) := by decide +kernel
theorem dL_minute_155 : decode cL_minute 155 = .ok (.iadd, 1) := by decide +kernel
theorem dL_minute_156 : decode cL_minute 156 = .ok (.aload_n 0, 1) := by decide +kernel
theorem dL_minute_157 : decode cL_minute 157 = .ok (.iconst 4, 1) := by decide +kernel
theorem dL_minute_158 : decode cL_minute 158 = .ok (.iaload, 1) := by decide +kernel
theorem dL_minute_159 : decode cL_minute 159 = .ok (.if_icmp .ge 34, 3) := by decide +kernel
theorem dL_minute_162 : decode cL_minute 162 = .ok (.aload_n 0, 1) := by decide +kernel
theorem dL_minute_163 : decode cL_minute 163 = .ok (.bipush 15, 2) := by decide +kernel
theorem dL_minute_165 : decode cL_minute 165 = .ok (.dup2, 1) := by decide +kernel
theorem dL_minute_166 : decode cL_minute 166 = .ok (.iaload, 1) := by decide +kernel
theorem dL_minute_167 : decode cL_minute 167 = .ok (.aload 7, 2) := by decide +kernel
theorem dL_minute_169 : decode cL_minute 169 = .ok (.iload 8, 2) := by decide +kernel
theorem dL_minute_171 : decode cL_minute 171 = .ok (.iaload, 1) := by decide +kernel
theorem dL_minute_172 : decode cL_minute 172 = .ok (.bipush 17, 2) := by decide +kernel
theorem dL_minute_174 : decode cL_minute 174 = .ok (.ishr, 1) := by decide +kernel
theorem dL_minute_175 : decode cL_minute 175 = .ok (.iadd, 1) := by decide +kernel
theorem dL_minute_176 : decode cL_minute 176 = .ok (.iastore, 1) := by decide +kernel
theorem dL_minute_177 : decode cL_minute 177 = .ok (.aload_n 0, 1) := by decide +kernel
theorem dL_minute_178 : decode cL_minute 178 = .ok (.aload 7, 2) := by decide +kernel
theorem dL_minute_180 : decode cL_minute 180 = .ok (.iload 8, 2) := by decide +kernel
theorem dL_minute_182 : decode cL_minute 182 = .ok (.aload 7, 2) := by decide +kernel
theorem dL_minute_184 : decode cL_minute 184 = .ok (.iload 8, 2) := by decide +kernel
theorem dL_minute_186 : decode cL_minute 186 = .ok (.iaload, 1) := by decide +kernel
theorem dL_minute_187 : decode cL_minute 187 = .ok (.bipush 17, 2) := by decide +kernel
theorem dL_minute_189 : decode cL_minute 189 = .ok (.ishr, 1) := by decide +kernel
theorem dL_minute_190 : decode cL_minute 190 = .ok (.invokestatic 19, 3) := by decide +kernel
theorem dL_minute_193 : decode cL_minute 193 = .ok (.iinc 8 (-1), 3) := by decide +kernel
theorem dL_minute_196 : decode cL_minute 196 = .ok (.goto (-61), 3) := by decide +kernel
theorem dL_minute_199 : decode cL_minute 199 = .ok (.iconst 0, 1) := by decide +kernel
theorem dL_minute_200 : decode cL_minute 200 = .ok (.istore 8, 2) := by decide +kernel
theorem dL_minute_202 : decode cL_minute 202 = .ok (.iload 8, 2) := by decide +kernel
theorem dL_minute_204 : decode cL_minute 204 = .ok (.bipush 12, 2) := by decide +kernel
theorem dL_minute_206 : decode cL_minute 206 = .ok (.aload_n 0, 1) := by decide +kernel
theorem dL_minute_207 : decode cL_minute 207 = .ok (.iconst 3, 1) := by decide +kernel
theorem dL_minute_208 : decode cL_minute 208 = .ok (.iaload, 1) := by decide +kernel
theorem dL_minute_209 : decode cL_minute 209 = .ok (.imul, 1) := by decide +kernel
theorem dL_minute_210 : decode cL_minute 210 = .ok (.if_icmp .ge 136, 3) := by decide +kernel
theorem dL_minute_213 : decode cL_minute 213 = .ok (.aload 6, 2) := by decide +kernel
theorem dL_minute_215 : decode cL_minute 215 = .ok (.iload 8, 2) := by decide +kernel
theorem dL_minute_217 : decode cL_minute 217 = .ok (.iaload, 1) := by decide +kernel
theorem dL_minute_218 : decode cL_minute 218 = .ok (.ifCond .ne 122, 3) := by decide +kernel
theorem dL_minute_221 : decode cL_minute 221 = .ok (.aload 6, 2) := by decide +kernel
theorem dL_minute_223 : decode cL_minute 223 = .ok (.iload 8, 2) := by decide +kernel
theorem dL_minute_225 : decode cL_minute 225 = .ok (.iconst 4, 1) := by decide +kernel
theorem dL_minute_226 : decode cL_minute 226 = .ok (.iadd, 1) := by decide +kernel
theorem dL_minute_227 : decode cL_minute 227 = .ok (.iaload, 1) := by decide +kernel
theorem dL_minute_228 : decode cL_minute 228 = .ok (.aload_n 0, 1) := by decide +kernel
theorem dL_minute_229 : decode cL_minute 229 = .ok (.iconst 4, 1) := by decide +kernel
theorem dL_minute_230 : decode cL_minute 230 = .ok (.iaload, 1) := by decide +kernel
theorem dL_minute_231 : decode cL_minute 231 = .ok (.if_icmp .ne 109, 3) := by decide +kernel
theorem dL_minute_234 : decode cL_minute 234 = .ok (.aload 6, 2) := by decide +kernel
theorem dL_minute_236 : decode cL_minute 236 = .ok (.iload 8, 2) := by decide +kernel
theorem dL_minute_238 : decode cL_minute 238 = .ok (.bipush 6, 2) := by decide +kernel
theorem dL_minute_240 : decode cL_minute 240 = .ok (.iadd, 1) := by decide +kernel
theorem dL_minute_241 : decode cL_minute 241 = .ok (.iaload, 1) := by decide +kernel
theorem dL_minute_242 : decode cL_minute 242 = .ok (.aload 6, 2) := by decide +kernel
theorem dL_minute_244 : decode cL_minute 244 = .ok (.iload 8, 2) := by decide +kernel
theorem dL_minute_246 : decode cL_minute 246 = .ok (.bipush 7, 2) := by decide +kernel
theorem dL_minute_248 : decode cL_minute 248 = .ok (.iadd, 1) := by decide +kernel
theorem dL_minute_249 : decode cL_minute 249 = .ok (.iaload, 1) := by decide +kernel
theorem dL_minute_250 : decode cL_minute 250 = .ok (.iadd, 1) := by decide +kernel
theorem dL_minute_251 : decode cL_minute 251 = .ok (.ifCond .ne 14, 3) := by decide +kernel
theorem dL_minute_254 : decode cL_minute 254 = .ok (.aload 6, 2) := by decide +kernel
theorem dL_minute_256 : decode cL_minute 256 = .ok (.iload 8, 2) := by decide +kernel
theorem dL_minute_258 : decode cL_minute 258 = .ok (.bipush 8, 2) := by decide +kernel
theorem dL_minute_260 : decode cL_minute 260 = .ok (.iadd, 1) := by decide +kernel
theorem dL_minute_261 : decode cL_minute 261 = .ok (.aload_n 0, 1) := by decide +kernel
theorem dL_minute_262 : decode cL_minute 262 = .ok (.iconst 4, 1) := by decide +kernel
theorem dL_minute_263 : decode cL_minute 263 = .ok (.iaload, 1) := by decide +kernel
theorem dL_minute_264 : decode cL_minute 264 = .ok (.iastore, 1) := by decide +kernel
theorem dL_minute_265 : decode cL_minute 265 = .ok (.aload 6, 2) := by decide +kernel
theorem dL_minute_267 : decode cL_minute 267 = .ok (.iload 8, 2) := by decide +kernel
theorem dL_minute_269 : decode cL_minute 269 = .ok (.bipush 6, 2) := by decide +kernel
theorem dL_minute_271 : decode cL_minute 271 = .ok (.iadd, 1) := by decide +kernel
theorem dL_minute_272 : decode cL_minute 272 = .ok (.dup2, 1) := by decide +kernel
theorem dL_minute_273 : decode cL_minute 273 = .ok (.iaload, 1) := by decide +kernel
theorem dL_minute_274 : decode cL_minute 274 = .ok (.aload 6, 2) := by decide +kernel
theorem dL_minute_276 : decode cL_minute 276 = .ok (.iload 8, 2) := by decide +kernel
theorem dL_minute_278 : decode cL_minute 278 = .ok (.iconst 3, 1) := by decide +kernel
theorem dL_minute_279 : decode cL_minute 279 = .ok (.iadd, 1) := by decide +kernel
theorem dL_minute_280 : decode cL_minute 280 = .ok (.iaload, 1) := by decide +kernel
theorem dL_minute_281 : decode cL_minute 281 = .ok (.iadd, 1) := by decide +kernel
theorem dL_minute_282 : decode cL_minute 282 = .ok (.iastore, 1) := by decide +kernel
theorem dL_minute_283 : decode cL_minute 283 = .ok (.aload 6, 2) := by decide +kernel
theorem dL_minute_285 : decode cL_minute 285 = .ok (.iload 8, 2) := by decide +kernel
theorem dL_minute_287 : decode cL_minute 287 = .ok (.bipush 7, 2) := by decide +kernel
theorem dL_minute_289 : decode cL_minute 289 = .ok (.iadd, 1) := by decide +kernel
theorem dL_minute_290 : decode cL_minute 290 = .ok (.dup2, 1) := by decide +kernel
theorem dL_minute_291 : decode cL_minute 291 = .ok (.iaload, 1) := by decide +kernel
theorem dL_minute_292 : decode cL_minute 292 = .ok (.aload 6, 2) := by decide +kernel
theorem dL_minute_294 : decode cL_minute 294 = .ok (.iload 8, 2) := by decide +kernel
theorem dL_minute_296 : decode cL_minute 296 = .ok (.iconst 2, 1) := by decide +kernel
theorem dL_minute_297 : decode cL_minute 297 = .ok (.iadd, 1) := by decide +kernel
theorem dL_minute_298 : decode cL_minute 298 = .ok (.iaload, 1) := by decide +kernel
theorem dL_minute_299 : decode cL_minute 299 = .ok (.aload 6, 2) := by decide +kernel
theorem dL_minute_301 : decode cL_minute 301 = .ok (.iload 8, 2) := by decide +kernel
theorem dL_minute_303 : decode cL_minute 303 = .ok (.iconst 3, 1) := by decide +kernel
theorem dL_minute_304 : decode cL_minute 304 = .ok (.iadd, 1) := by decide +kernel
theorem dL_minute_305 : decode cL_minute 305 = .ok (.iaload, 1) := by decide +kernel
theorem dL_minute_306 : decode cL_minute 306 = .ok (.isub, 1) := by decide +kernel
theorem dL_minute_307 : decode cL_minute 307 = .ok (.iadd, 1) := by decide +kernel
theorem dL_minute_308 : decode cL_minute 308 = .ok (.iastore, 1) := by decide +kernel
theorem dL_minute_309 : decode cL_minute 309 = .ok (.aload 6, 2) := by decide +kernel
theorem dL_minute_311 : decode cL_minute 311 = .ok (.iload 8, 2) := by decide +kernel
theorem dL_minute_313 : decode cL_minute 313 = .ok (.iconst 4, 1) := by decide +kernel
theorem dL_minute_314 : decode cL_minute 314 = .ok (.iadd, 1) := by decide +kernel
theorem dL_minute_315 : decode cL_minute 315 = .ok (.dup2, 1) := by decide +kernel
theorem dL_minute_316 : decode cL_minute 316 = .ok (.iaload, 1) := by decide +kernel
theorem dL_minute_317 : decode cL_minute 317 = .ok (.aload 6, 2) := by decide +kernel
theorem dL_minute_319 : decode cL_minute 319 = .ok (.iload 8, 2) := by decide +kernel
theorem dL_minute_321 : decode cL_minute 321 = .ok (.iconst 5, 1) := by decide +kernel
theorem dL_minute_322 : decode cL_minute 322 = .ok (.iadd, 1) := by decide +kernel
theorem dL_minute_323 : decode cL_minute 323 = .ok (.iaload, 1) := by decide +kernel
theorem dL_minute_324 : decode cL_minute 324 = .ok (.iadd, 1) := by decide +kernel
theorem dL_minute_325 : decode cL_minute 325 = .ok (.iastore, 1) := by decide +kernel
theorem dL_minute_326 : decode cL_minute 326 = .ok (.aload_n 0, 1) := by decide +kernel
theorem dL_minute_327 : decode cL_minute 327 = .ok (.bipush 16, 2) := by decide +kernel
theorem dL_minute_329 : decode cL_minute 329 = .ok (.dup2, 1) := by decide +kernel
theorem dL_minute_330 : decode cL_minute 330 = .ok (.iaload, 1) := by decide +kernel
theorem dL_minute_331 : decode cL_minute 331 = .ok (.aload 6, 2) := by decide +kernel
theorem dL_minute_333 : decode cL_minute 333 = .ok (.iload 8, 2) := by decide +kernel
theorem dL_minute_335 : decode cL_minute 335 = .ok (.iconst 2, 1) := by decide +kernel
theorem dL_minute_336 : decode cL_minute 336 = .ok (.iadd, 1) := by decide +kernel
theorem dL_minute_337 : decode cL_minute 337 = .ok (.iaload, 1) := by decide +kernel
theorem dL_minute_338 : decode cL_minute 338 = .ok (.iadd, 1) := by decide +kernel
theorem dL_minute_339 : decode cL_minute 339 = .ok (.iastore, 1) := by decide +kernel
theorem dL_minute_340 : decode cL_minute 340 = .ok (.iinc 8 12, 3) := by decide +kernel
theorem dL_minute_343 : decode cL_minute 343 = .ok (.goto (-141), 3) := by decide +kernel
theorem dL_minute_346 : decode cL_minute 346 = .ok (.iconst 0, 1) := by decide +kernel
theorem dL_minute_347 : decode cL_minute 347 = .ok (.istore 8, 2) := by decide +kernel
theorem dL_minute_349 : decode cL_minute 349 = .ok (.iload 8, 2) := by decide +kernel
theorem dL_minute_351 : decode cL_minute 351 = .ok (.bipush 12, 2) := by decide +kernel
theorem dL_minute_353 : decode cL_minute 353 = .ok (.aload_n 0, 1) := by decide +kernel
theorem dL_minute_354 : decode cL_minute 354 = .ok (.iconst 3, 1) := by decide +kernel
theorem dL_minute_355 : decode cL_minute 355 = .ok (.iaload, 1) := by decide +kernel
theorem dL_minute_356 : decode cL_minute 356 = .ok (.imul, 1) := by decide +kernel
theorem dL_minute_357 : decode cL_minute 357 = .ok (.if_icmp .ge 160, 3) := by decide +kernel
theorem dL_minute_360 : decode cL_minute 360 = .ok (.aload 6, 2) := by decide +kernel
theorem dL_minute_362 : decode cL_minute 362 = .ok (.iload 8, 2) := by decide +kernel
theorem dL_minute_364 : decode cL_minute 364 = .ok (.iaload, 1) := by decide +kernel
theorem dL_minute_365 : decode cL_minute 365 = .ok (.ifCond .ne 146, 3) := by decide +kernel
theorem dL_minute_368 : decode cL_minute 368 = .ok (.aload_n 0, 1) := by decide +kernel
theorem dL_minute_369 : decode cL_minute 369 = .ok (.aload_n 1, 1) := by decide +kernel
theorem dL_minute_370 : decode cL_minute 370 = .ok (.aload 4, 2) := by decide +kernel
theorem dL_minute_372 : decode cL_minute 372 = .ok (.aload 5, 2) := by decide +kernel
theorem dL_minute_374 : decode cL_minute 374 = .ok (.aload 6, 2) := by decide +kernel
theorem dL_minute_376 : decode cL_minute 376 = .ok (.aload 7, 2) := by decide +kernel
theorem dL_minute_378 : decode cL_minute 378 = .ok (.iload 8, 2) := by decide +kernel
theorem dL_minute_380 : decode cL_minute 380 = .ok (.bipush 6, 2) := by decide +kernel
theorem dL_minute_382 : decode cL_minute 382 = .ok (.iconst 5, 1) := by decide +kernel
theorem dL_minute_383 : decode cL_minute 383 = .ok (.invokestatic 30, 3) := by decide +kernel
theorem dL_minute_386 : decode cL_minute 386 = .ok (.aload_n 0, 1) := by decide +kernel
theorem dL_minute_387 : decode cL_minute 387 = .ok (.aload_n 1, 1) := by decide +kernel
theorem dL_minute_388 : decode cL_minute 388 = .ok (.aload 4, 2) := by decide +kernel
theorem dL_minute_390 : decode cL_minute 390 = .ok (.aload 5, 2) := by decide +kernel
theorem dL_minute_392 : decode cL_minute 392 = .ok (.aload 6, 2) := by decide +kernel
theorem dL_minute_394 : decode cL_minute 394 = .ok (.aload 7, 2) := by decide +kernel
theorem dL_minute_396 : decode cL_minute 396 = .ok (.iload 8, 2) := by decide +kernel
theorem dL_minute_398 : decode cL_minute 398 = .ok (.bipush 7, 2) := by decide +kernel
theorem dL_minute_400 : decode cL_minute 400 = .ok (.iconst 2, 1) := by decide +kernel
theorem dL_minute_401 : decode cL_minute 401 = .ok (.invokestatic 30, 3) := by decide +kernel
theorem dL_minute_404 : decode cL_minute 404 = .ok (.aload_n 0, 1) := by decide +kernel
theorem dL_minute_405 : decode cL_minute 405 = .ok (.aload_n 1, 1) := by decide +kernel
theorem dL_minute_406 : decode cL_minute 406 = .ok (.aload 4, 2) := by decide +kernel
theorem dL_minute_408 : decode cL_minute 408 = .ok (.aload 5, 2) := by decide +kernel
theorem dL_minute_410 : decode cL_minute 410 = .ok (.aload 6, 2) := by decide +kernel
theorem dL_minute_412 : decode cL_minute 412 = .ok (.aload 7, 2) := by decide +kernel
theorem dL_minute_414 : decode cL_minute 414 = .ok (.iload 8, 2) := by decide +kernel
theorem dL_minute_416 : decode cL_minute 416 = .ok (.bipush 7, 2) := by decide +kernel
theorem dL_minute_418 : decode cL_minute 418 = .ok (.iconst 5, 1) := by decide +kernel
theorem dL_minute_419 : decode cL_minute 419 = .ok (.invokestatic 30, 3) := by decide +kernel
theorem dL_minute_422 : decode cL_minute 422 = .ok (.aload 6, 2) := by decide +kernel
theorem dL_minute_424 : decode cL_minute 424 = .ok (.iload 8, 2) := by decide +kernel
theorem dL_minute_426 : decode cL_minute 426 = .ok (.bipush 6, 2) := by decide +kernel
theorem dL_minute_428 : decode cL_minute 428 = .ok (.iadd, 1) := by decide +kernel
theorem dL_minute_429 : decode cL_minute 429 = .ok (.iaload, 1) := by decide +kernel
theorem dL_minute_430 : decode cL_minute 430 = .ok (.aload 6, 2) := by decide +kernel
theorem dL_minute_432 : decode cL_minute 432 = .ok (.iload 8, 2) := by decide +kernel
theorem dL_minute_434 : decode cL_minute 434 = .ok (.bipush 7, 2) := by decide +kernel
theorem dL_minute_436 : decode cL_minute 436 = .ok (.iadd, 1) := by decide +kernel
theorem dL_minute_437 : decode cL_minute 437 = .ok (.iaload, 1) := by decide +kernel
theorem dL_minute_438 : decode cL_minute 438 = .ok (.iadd, 1) := by decide +kernel
theorem dL_minute_439 : decode cL_minute 439 = .ok (.istore 9, 2) := by decide +kernel
theorem dL_minute_441 : decode cL_minute 441 = .ok (.iload 9, 2) := by decide +kernel
theorem dL_minute_443 : decode cL_minute 443 = .ok (.ifCond .ne 12, 3) := by decide +kernel
theorem dL_minute_446 : decode cL_minute 446 = .ok (.aload 6, 2) := by decide +kernel
theorem dL_minute_448 : decode cL_minute 448 = .ok (.iload 8, 2) := by decide +kernel
theorem dL_minute_450 : decode cL_minute 450 = .ok (.bipush 8, 2) := by decide +kernel
theorem dL_minute_452 : decode cL_minute 452 = .ok (.iadd, 1) := by decide +kernel
theorem dL_minute_453 : decode cL_minute 453 = .ok (.iconst (-1), 1) := by decide +kernel
theorem dL_minute_454 : decode cL_minute 454 = .ok (.iastore, 1) := by decide +kernel
theorem dL_minute_455 : decode cL_minute 455 = .ok (.iload 9, 2) := by decide +kernel
theorem dL_minute_457 : decode cL_minute 457 = .ok (.ifCond .le 54, 3) := by decide +kernel
theorem dL_minute_460 : decode cL_minute 460 = .ok (.aload_n 0, 1) := by decide +kernel
theorem dL_minute_461 : decode cL_minute 461 = .ok (.iconst 4, 1) := by decide +kernel
theorem dL_minute_462 : decode cL_minute 462 = .ok (.iaload, 1) := by decide +kernel
theorem dL_minute_463 : decode cL_minute 463 = .ok (.aload 6, 2) := by decide +kernel
theorem dL_minute_465 : decode cL_minute 465 = .ok (.iload 8, 2) := by decide +kernel
theorem dL_minute_467 : decode cL_minute 467 = .ok (.bipush 8, 2) := by decide +kernel
theorem dL_minute_469 : decode cL_minute 469 = .ok (.iadd, 1) := by decide +kernel
theorem dL_minute_470 : decode cL_minute 470 = .ok (.iaload, 1) := by decide +kernel
theorem dL_minute_471 : decode cL_minute 471 = .ok (.isub, 1) := by decide +kernel
theorem dL_minute_472 : decode cL_minute 472 = .ok (.aload_n 0, 1) := by decide +kernel
theorem dL_minute_473 : decode cL_minute 473 = .ok (.bipush 7, 2) := by decide +kernel
theorem dL_minute_475 : decode cL_minute 475 = .ok (.iaload, 1) := by decide +kernel
theorem dL_minute_476 : decode cL_minute 476 = .ok (.if_icmp .le 35, 3) := by decide +kernel
theorem dL_minute_479 : decode cL_minute 479 = .ok (.aload 6, 2) := by decide +kernel
theorem dL_minute_481 : decode cL_minute 481 = .ok (.iload 8, 2) := by decide +kernel
theorem dL_minute_483 : decode cL_minute 483 = .ok (.bipush 10, 2) := by decide +kernel
theorem dL_minute_485 : decode cL_minute 485 = .ok (.iadd, 1) := by decide +kernel
theorem dL_minute_486 : decode cL_minute 486 = .ok (.dup2, 1) := by decide +kernel
theorem dL_minute_487 : decode cL_minute 487 = .ok (.iaload, 1) := by decide +kernel
theorem dL_minute_488 : decode cL_minute 488 = .ok (.iload 9, 2) := by decide +kernel
theorem dL_minute_490 : decode cL_minute 490 = .ok (.aload_n 0, 1) := by decide +kernel
theorem dL_minute_491 : decode cL_minute 491 = .ok (.bipush 8, 2) := by decide +kernel
theorem dL_minute_493 : decode cL_minute 493 = .ok (.iaload, 1) := by decide +kernel
theorem dL_minute_494 : decode cL_minute 494 = .ok (.imul, 1) := by decide +kernel
theorem dL_minute_495 : decode cL_minute 495 = .ok (.iadd, 1) := by decide +kernel
theorem dL_minute_496 : decode cL_minute 496 = .ok (.iastore, 1) := by decide +kernel
theorem dL_minute_497 : decode cL_minute 497 = .ok (.aload_n 0, 1) := by decide +kernel
theorem dL_minute_498 : decode cL_minute 498 = .ok (.bipush 18, 2) := by decide +kernel
theorem dL_minute_500 : decode cL_minute 500 = .ok (.dup2, 1) := by decide +kernel
theorem dL_minute_501 : decode cL_minute 501 = .ok (.iaload, 1) := by decide +kernel
theorem dL_minute_502 : decode cL_minute 502 = .ok (.iload 9, 2) := by decide +kernel
theorem dL_minute_504 : decode cL_minute 504 = .ok (.aload_n 0, 1) := by decide +kernel
theorem dL_minute_505 : decode cL_minute 505 = .ok (.bipush 8, 2) := by decide +kernel
theorem dL_minute_507 : decode cL_minute 507 = .ok (.iaload, 1) := by decide +kernel
theorem dL_minute_508 : decode cL_minute 508 = .ok (.imul, 1) := by decide +kernel
theorem dL_minute_509 : decode cL_minute 509 = .ok (.iadd, 1) := by decide +kernel
theorem dL_minute_510 : decode cL_minute 510 = .ok (.iastore, 1) := by decide +kernel
theorem dL_minute_511 : decode cL_minute 511 = .ok (.iinc 8 12, 3) := by decide +kernel
theorem dL_minute_514 : decode cL_minute 514 = .ok (.goto (-165), 3) := by decide +kernel
theorem dL_minute_517 : decode cL_minute 517 = .ok (.return_, 1) := by decide +kernel
theorem dL_kitchens_0 : decode cL_kitchens 0 = .ok (.iload_n 2, 1) := by decide +kernel
theorem dL_kitchens_1 : decode cL_kitchens 1 = .ok (.aload_n 3, 1) := by decide +kernel
theorem dL_kitchens_2 : decode cL_kitchens 2 = .ok (.iconst 1, 1) := by decide +kernel
theorem dL_kitchens_3 : decode cL_kitchens 3 = .ok (.iaload, 1) := by decide +kernel
theorem dL_kitchens_4 : decode cL_kitchens 4 = .ok (.invokestatic 34, 3) := by decide +kernel
theorem dL_kitchens_7 : decode cL_kitchens 7 = .ok (.istore 8, 2) := by decide +kernel
theorem dL_kitchens_9 : decode cL_kitchens 9 = .ok (.iload_n 2, 1) := by decide +kernel
theorem dL_kitchens_10 : decode cL_kitchens 10 = .ok (.iconst 2, 1) := by decide +kernel
theorem dL_kitchens_11 : decode cL_kitchens 11 = .ok (.ishr, 1) := by decide +kernel
theorem dL_kitchens_12 : decode cL_kitchens 12 = .ok (.iconst 3, 1) := by decide +kernel
theorem dL_kitchens_13 : decode cL_kitchens 13 = .ok (.invokestatic 34, 3) := by decide +kernel
theorem dL_kitchens_16 : decode cL_kitchens 16 = .ok (.istore 9, 2) := by decide +kernel
theorem dL_kitchens_18 : decode cL_kitchens 18 = .ok (.iconst 1, 1) := by decide +kernel
theorem dL_kitchens_19 : decode cL_kitchens 19 = .ok (.iload_n 2, 1) := by decide +kernel
theorem dL_kitchens_20 : decode cL_kitchens 20 = .ok (.iconst 4, 1) := by decide +kernel
theorem dL_kitchens_21 : decode cL_kitchens 21 = .ok (.ishr, 1) := by decide +kernel
theorem dL_kitchens_22 : decode cL_kitchens 22 = .ok (.bipush 40, 2) := by decide +kernel
theorem dL_kitchens_24 : decode cL_kitchens 24 = .ok (.invokestatic 34, 3) := by decide +kernel
theorem dL_kitchens_27 : decode cL_kitchens 27 = .ok (.iadd, 1) := by decide +kernel
theorem dL_kitchens_28 : decode cL_kitchens 28 = .ok (.istore 10, 2) := by decide +kernel
theorem dL_kitchens_30 : decode cL_kitchens 30 = .ok (.iload_n 1, 1) := by decide +kernel
theorem dL_kitchens_31 : decode cL_kitchens 31 = .ok (.iconst 2, 1) := by decide +kernel
theorem dL_kitchens_32 : decode cL_kitchens 32 = .ok (.invokestatic 34, 3) := by decide +kernel
theorem dL_kitchens_35 : decode cL_kitchens 35 = .ok (.ifCond .ne 74, 3) := by decide +kernel
theorem dL_kitchens_38 : decode cL_kitchens 38 = .ok (.aload 5, 2) := by decide +kernel
theorem dL_kitchens_40 : decode cL_kitchens 40 = .ok (.iconst 3, 1) := by decide +kernel
theorem dL_kitchens_41 : decode cL_kitchens 41 = .ok (.iload 8, 2) := by decide +kernel
theorem dL_kitchens_43 : decode cL_kitchens 43 = .ok (.imul, 1) := by decide +kernel
theorem dL_kitchens_44 : decode cL_kitchens 44 = .ok (.iload 9, 2) := by decide +kernel
theorem dL_kitchens_46 : decode cL_kitchens 46 = .ok (.iadd, 1) := by decide +kernel
theorem dL_kitchens_47 : decode cL_kitchens 47 = .ok (.iaload, 1) := by decide +kernel
theorem dL_kitchens_48 : decode cL_kitchens 48 = .ok (.iconst 5, 1) := by decide +kernel
theorem dL_kitchens_49 : decode cL_kitchens 49 = .ok (.iload 10, 2) := by decide +kernel
theorem dL_kitchens_51 : decode cL_kitchens 51 = .ok (.imul, 1) := by decide +kernel
theorem dL_kitchens_52 : decode cL_kitchens 52 = .ok (.iadd, 1) := by decide +kernel
theorem dL_kitchens_53 : decode cL_kitchens 53 = .ok (.sipush 999, 3) := by decide +kernel
theorem dL_kitchens_56 : decode cL_kitchens 56 = .ok (.if_icmp .le 5, 3) := by decide +kernel
theorem dL_kitchens_59 : decode cL_kitchens 59 = .ok (.iconst 1, 1) := by decide +kernel
theorem dL_kitchens_60 : decode cL_kitchens 60 = .ok (.ireturn, 1) := by decide +kernel
theorem dL_kitchens_61 : decode cL_kitchens 61 = .ok (.aload 5, 2) := by decide +kernel
theorem dL_kitchens_63 : decode cL_kitchens 63 = .ok (.iconst 3, 1) := by decide +kernel
theorem dL_kitchens_64 : decode cL_kitchens 64 = .ok (.iload 8, 2) := by decide +kernel
theorem dL_kitchens_66 : decode cL_kitchens 66 = .ok (.imul, 1) := by decide +kernel
theorem dL_kitchens_67 : decode cL_kitchens 67 = .ok (.iload 9, 2) := by decide +kernel
theorem dL_kitchens_69 : decode cL_kitchens 69 = .ok (.iadd, 1) := by decide +kernel
theorem dL_kitchens_70 : decode cL_kitchens 70 = .ok (.dup2, 1) := by decide +kernel
theorem dL_kitchens_71 : decode cL_kitchens 71 = .ok (.iaload, 1) := by decide +kernel
theorem dL_kitchens_72 : decode cL_kitchens 72 = .ok (.iconst 5, 1) := by decide +kernel
theorem dL_kitchens_73 : decode cL_kitchens 73 = .ok (.iload 10, 2) := by decide +kernel
theorem dL_kitchens_75 : decode cL_kitchens 75 = .ok (.imul, 1) := by decide +kernel
theorem dL_kitchens_76 : decode cL_kitchens 76 = .ok (.iadd, 1) := by decide +kernel
theorem dL_kitchens_77 : decode cL_kitchens 77 = .ok (.iastore, 1) := by decide +kernel
theorem dL_kitchens_78 : decode cL_kitchens 78 = .ok (.aload_n 0, 1) := by decide +kernel
theorem dL_kitchens_79 : decode cL_kitchens 79 = .ok (.iload 8, 2) := by decide +kernel
theorem dL_kitchens_81 : decode cL_kitchens 81 = .ok (.iload 9, 2) := by decide +kernel
theorem dL_kitchens_83 : decode cL_kitchens 83 = .ok (.iconst 5, 1) := by decide +kernel
theorem dL_kitchens_84 : decode cL_kitchens 84 = .ok (.iload 10, 2) := by decide +kernel
theorem dL_kitchens_86 : decode cL_kitchens 86 = .ok (.imul, 1) := by decide +kernel
theorem dL_kitchens_87 : decode cL_kitchens 87 = .ok (.invokevirtual 38, 3) := by decide +kernel
theorem dL_kitchens_90 : decode cL_kitchens 90 = .ok (.aload 5, 2) := by decide +kernel
theorem dL_kitchens_92 : decode cL_kitchens 92 = .ok (.iconst 3, 1) := by decide +kernel
theorem dL_kitchens_93 : decode cL_kitchens 93 = .ok (.iload 8, 2) := by decide +kernel
theorem dL_kitchens_95 : decode cL_kitchens 95 = .ok (.imul, 1) := by decide +kernel
theorem dL_kitchens_96 : decode cL_kitchens 96 = .ok (.iload 9, 2) := by decide +kernel
theorem dL_kitchens_98 : decode cL_kitchens 98 = .ok (.iadd, 1) := by decide +kernel
theorem dL_kitchens_99 : decode cL_kitchens 99 = .ok (.iaload, 1) := by decide +kernel
theorem dL_kitchens_100 : decode cL_kitchens 100 = .ok (.if_icmp .ne 7, 3) := by decide +kernel
theorem dL_kitchens_103 : decode cL_kitchens 103 = .ok (.iconst 1, 1) := by decide +kernel
theorem dL_kitchens_104 : decode cL_kitchens 104 = .ok (.goto 4, 3) := by decide +kernel
theorem dL_kitchens_107 : decode cL_kitchens 107 = .ok (.iconst 0, 1) := by decide +kernel
theorem dL_kitchens_108 : decode cL_kitchens 108 = .ok (.ireturn, 1) := by decide +kernel
theorem dL_kitchens_109 : decode cL_kitchens 109 = .ok (.iconst 3, 1) := by decide +kernel
theorem dL_kitchens_110 : decode cL_kitchens 110 = .ok (.iload 8, 2) := by decide +kernel
theorem dL_kitchens_112 : decode cL_kitchens 112 = .ok (.imul, 1) := by decide +kernel
theorem dL_kitchens_113 : decode cL_kitchens 113 = .ok (.iload 9, 2) := by decide +kernel
theorem dL_kitchens_115 : decode cL_kitchens 115 = .ok (.ifCond .ne 7, 3) := by decide +kernel
theorem dL_kitchens_118 : decode cL_kitchens 118 = .ok (.iconst 0, 1) := by decide +kernel
theorem dL_kitchens_119 : decode cL_kitchens 119 = .ok (.goto 14, 3) := by decide +kernel
theorem dL_kitchens_122 : decode cL_kitchens 122 = .ok (.iload 9, 2) := by decide +kernel
theorem dL_kitchens_124 : decode cL_kitchens 124 = .ok (.iconst 1, 1) := by decide +kernel
theorem dL_kitchens_125 : decode cL_kitchens 125 = .ok (.if_icmp .ne 7, 3) := by decide +kernel
theorem dL_kitchens_128 : decode cL_kitchens 128 = .ok (.iconst 0, 1) := by decide +kernel
theorem dL_kitchens_129 : decode cL_kitchens 129 = .ok (.goto 4, 3) := by decide +kernel
theorem dL_kitchens_132 : decode cL_kitchens 132 = .ok (.iconst 1, 1) := by decide +kernel
theorem dL_kitchens_133 : decode cL_kitchens 133 = .ok (.iadd, 1) := by decide +kernel
theorem dL_kitchens_134 : decode cL_kitchens 134 = .ok (.istore 11, 2) := by decide +kernel
theorem dL_kitchens_136 : decode cL_kitchens 136 = .ok (.iconst 3, 1) := by decide +kernel
theorem dL_kitchens_137 : decode cL_kitchens 137 = .ok (.iload 8, 2) := by decide +kernel
theorem dL_kitchens_139 : decode cL_kitchens 139 = .ok (.imul, 1) := by decide +kernel
theorem dL_kitchens_140 : decode cL_kitchens 140 = .ok (.iload 9, 2) := by decide +kernel
theorem dL_kitchens_142 : decode cL_kitchens 142 = .ok (.ifCond .ne 7, 3) := by decide +kernel
theorem dL_kitchens_145 : decode cL_kitchens 145 = .ok (.iconst 1, 1) := by decide +kernel
theorem dL_kitchens_146 : decode cL_kitchens 146 = .ok (.goto 14, 3) := by decide +kernel
theorem dL_kitchens_149 : decode cL_kitchens 149 = .ok (.iload 9, 2) := by decide +kernel
theorem dL_kitchens_151 : decode cL_kitchens 151 = .ok (.iconst 1, 1) := by decide +kernel
theorem dL_kitchens_152 : decode cL_kitchens 152 = .ok (.if_icmp .ne 7, 3) := by decide +kernel
theorem dL_kitchens_155 : decode cL_kitchens 155 = .ok (.iconst 2, 1) := by decide +kernel
theorem dL_kitchens_156 : decode cL_kitchens 156 = .ok (.goto 4, 3) := by decide +kernel
theorem dL_kitchens_159 : decode cL_kitchens 159 = .ok (.iconst 1, 1) := by decide +kernel
theorem dL_kitchens_160 : decode cL_kitchens 160 = .ok (.iadd, 1) := by decide +kernel
theorem dL_kitchens_161 : decode cL_kitchens 161 = .ok (.istore 12, 2) := by decide +kernel
theorem dL_kitchens_163 : decode cL_kitchens 163 = .ok (.iload 11, 2) := by decide +kernel
theorem dL_kitchens_165 : decode cL_kitchens 165 = .ok (.iload 12, 2) := by decide +kernel
theorem dL_kitchens_167 : decode cL_kitchens 167 = .ok (.if_icmp .ne 13, 3) := by decide +kernel
theorem dL_kitchens_170 : decode cL_kitchens 170 = .ok (.aload 5, 2) := by decide +kernel
theorem dL_kitchens_172 : decode cL_kitchens 172 = .ok (.iload 11, 2) := by decide +kernel
theorem dL_kitchens_174 : decode cL_kitchens 174 = .ok (.iaload, 1) := by decide +kernel
theorem dL_kitchens_175 : decode cL_kitchens 175 = .ok (.iconst 2, 1) := by decide +kernel
theorem dL_kitchens_176 : decode cL_kitchens 176 = .ok (.idiv, 1) := by decide +kernel
theorem dL_kitchens_177 : decode cL_kitchens 177 = .ok (.goto 29, 3) := by decide +kernel
theorem dL_kitchens_180 : decode cL_kitchens 180 = .ok (.aload 5, 2) := by decide +kernel
theorem dL_kitchens_182 : decode cL_kitchens 182 = .ok (.iload 11, 2) := by decide +kernel
theorem dL_kitchens_184 : decode cL_kitchens 184 = .ok (.iaload, 1) := by decide +kernel
theorem dL_kitchens_185 : decode cL_kitchens 185 = .ok (.aload 5, 2) := by decide +kernel
theorem dL_kitchens_187 : decode cL_kitchens 187 = .ok (.iload 12, 2) := by decide +kernel
theorem dL_kitchens_189 : decode cL_kitchens 189 = .ok (.iaload, 1) := by decide +kernel
theorem dL_kitchens_190 : decode cL_kitchens 190 = .ok (.if_icmp .ge 11, 3) := by decide +kernel
theorem dL_kitchens_193 : decode cL_kitchens 193 = .ok (.aload 5, 2) := by decide +kernel
theorem dL_kitchens_195 : decode cL_kitchens 195 = .ok (.iload 11, 2) := by decide +kernel
theorem dL_kitchens_197 : decode cL_kitchens 197 = .ok (.iaload, 1) := by decide +kernel
theorem dL_kitchens_198 : decode cL_kitchens 198 = .ok (.goto 8, 3) := by decide +kernel
theorem dL_kitchens_201 : decode cL_kitchens 201 = .ok (.aload 5, 2) := by decide +kernel
theorem dL_kitchens_203 : decode cL_kitchens 203 = .ok (.iload 12, 2) := by decide +kernel
theorem dL_kitchens_205 : decode cL_kitchens 205 = .ok (.iaload, 1) := by decide +kernel
theorem dL_kitchens_206 : decode cL_kitchens 206 = .ok (.istore 13, 2) := by decide +kernel
theorem dL_kitchens_208 : decode cL_kitchens 208 = .ok (.aload_n 0, 1) := by decide +kernel
theorem dL_kitchens_209 : decode cL_kitchens 209 = .ok (.iload 8, 2) := by decide +kernel
theorem dL_kitchens_211 : decode cL_kitchens 211 = .ok (.iload 9, 2) := by decide +kernel
theorem dL_kitchens_213 : decode cL_kitchens 213 = .ok (.invokevirtual 43, 3) := by decide +kernel
theorem dL_kitchens_216 : decode cL_kitchens 216 = .ok (.iload 13, 2) := by decide +kernel
theorem dL_kitchens_218 : decode cL_kitchens 218 = .ok (.sipush 300, 3) := by decide +kernel
theorem dL_kitchens_221 : decode cL_kitchens 221 = .ok (.if_icmp .le 9, 3) := by decide +kernel
theorem dL_kitchens_224 : decode cL_kitchens 224 = .ok (.sipush 300, 3) := by decide +kernel
theorem dL_kitchens_227 : decode cL_kitchens 227 = .ok (.goto 5, 3) := by decide +kernel
theorem dL_kitchens_230 : decode cL_kitchens 230 = .ok (.iload 13, 2) := by decide +kernel
theorem dL_kitchens_232 : decode cL_kitchens 232 = .ok (.if_icmp .eq 5, 3) := by decide +kernel
theorem dL_kitchens_235 : decode cL_kitchens 235 = .ok (.iconst 0, 1) := by decide +kernel
theorem dL_kitchens_236 : decode cL_kitchens 236 = .ok (.ireturn, 1) := by decide +kernel
theorem dL_kitchens_237 : decode cL_kitchens 237 = .ok (.aload 7, 2) := by decide +kernel
theorem dL_kitchens_239 : decode cL_kitchens 239 = .ok (.iload 8, 2) := by decide +kernel
theorem dL_kitchens_241 : decode cL_kitchens 241 = .ok (.iaload, 1) := by decide +kernel
theorem dL_kitchens_242 : decode cL_kitchens 242 = .ok (.ifCond .gt 19, 3) := by decide +kernel
theorem dL_kitchens_245 : decode cL_kitchens 245 = .ok (.iload 13, 2) := by decide +kernel
theorem dL_kitchens_247 : decode cL_kitchens 247 = .ok (.iload 10, 2) := by decide +kernel
theorem dL_kitchens_249 : decode cL_kitchens 249 = .ok (.if_icmp .lt 12, 3) := by decide +kernel
theorem dL_kitchens_252 : decode cL_kitchens 252 = .ok (.aload_n 3, 1) := by decide +kernel
theorem dL_kitchens_253 : decode cL_kitchens 253 = .ok (.bipush 12, 2) := by decide +kernel
theorem dL_kitchens_255 : decode cL_kitchens 255 = .ok (.iaload, 1) := by decide +kernel
theorem dL_kitchens_256 : decode cL_kitchens 256 = .ok (.bipush 30, 2) := by decide +kernel
theorem dL_kitchens_258 : decode cL_kitchens 258 = .ok (.if_icmp .le 5, 3) := by decide +kernel
theorem dL_kitchens_261 : decode cL_kitchens 261 = .ok (.iconst 1, 1) := by decide +kernel
theorem dL_kitchens_262 : decode cL_kitchens 262 = .ok (.ireturn, 1) := by decide +kernel
theorem dL_kitchens_263 : decode cL_kitchens 263 = .ok (.aload 5, 2) := by decide +kernel
theorem dL_kitchens_265 : decode cL_kitchens 265 = .ok (.iload 11, 2) := by decide +kernel
theorem dL_kitchens_267 : decode cL_kitchens 267 = .ok (.dup2, 1) := by decide +kernel
theorem dL_kitchens_268 : decode cL_kitchens 268 = .ok (.iaload, 1) := by decide +kernel
theorem dL_kitchens_269 : decode cL_kitchens 269 = .ok (.iload 10, 2) := by decide +kernel
theorem dL_kitchens_271 : decode cL_kitchens 271 = .ok (.isub, 1) := by decide +kernel
theorem dL_kitchens_272 : decode cL_kitchens 272 = .ok (.iastore, 1) := by decide +kernel
theorem dL_kitchens_273 : decode cL_kitchens 273 = .ok (.aload 5, 2) := by decide +kernel
theorem dL_kitchens_275 : decode cL_kitchens 275 = .ok (.iload 12, 2) := by decide +kernel
theorem dL_kitchens_277 : decode cL_kitchens 277 = .ok (.dup2, 1) := by decide +kernel
theorem dL_kitchens_278 : decode cL_kitchens 278 = .ok (.iaload, 1) := by decide +kernel
theorem dL_kitchens_279 : decode cL_kitchens 279 = .ok (.iload 10, 2) := by decide +kernel
theorem dL_kitchens_281 : decode cL_kitchens 281 = .ok (.isub, 1) := by decide +kernel
theorem dL_kitchens_282 : decode cL_kitchens 282 = .ok (.iastore, 1) := by decide +kernel
theorem dL_kitchens_283 : decode cL_kitchens 283 = .ok (.aload 6, 2) := by decide +kernel
theorem dL_kitchens_285 : decode cL_kitchens 285 = .ok (.iload 8, 2) := by decide +kernel
theorem dL_kitchens_287 : decode cL_kitchens 287 = .ok (.iload 9, 2) := by decide +kernel
theorem dL_kitchens_289 : decode cL_kitchens 289 = .ok (.iastore, 1) := by decide +kernel
theorem dL_kitchens_290 : decode cL_kitchens 290 = .ok (.aload 7, 2) := by decide +kernel
theorem dL_kitchens_292 : decode cL_kitchens 292 = .ok (.iload 8, 2) := by decide +kernel
theorem dL_kitchens_294 : decode cL_kitchens 294 = .ok (.iload 10, 2) := by decide +kernel
theorem dL_kitchens_296 : decode cL_kitchens 296 = .ok (.iastore, 1) := by decide +kernel
theorem dL_kitchens_297 : decode cL_kitchens 297 = .ok (.aload_n 0, 1) := by decide +kernel
theorem dL_kitchens_298 : decode cL_kitchens 298 = .ok (.iload 8, 2) := by decide +kernel
theorem dL_kitchens_300 : decode cL_kitchens 300 = .ok (.iload 9, 2) := by decide +kernel
theorem dL_kitchens_302 : decode cL_kitchens 302 = .ok (.iload 10, 2) := by decide +kernel
theorem dL_kitchens_304 : decode cL_kitchens 304 = .ok (.invokevirtual 46, 3) := by decide +kernel
theorem dL_kitchens_307 : decode cL_kitchens 307 = .ok (.iload 10, 2) := by decide +kernel
theorem dL_kitchens_309 : decode cL_kitchens 309 = .ok (.aload_n 3, 1) := by decide +kernel
theorem dL_kitchens_310 : decode cL_kitchens 310 = .ok (.bipush 10, 2) := by decide +kernel
theorem dL_kitchens_312 : decode cL_kitchens 312 = .ok (.iaload, 1) := by decide +kernel
theorem dL_kitchens_313 : decode cL_kitchens 313 = .ok (.idiv, 1) := by decide +kernel
theorem dL_kitchens_314 : decode cL_kitchens 314 = .ok (.iload 10, 2) := by decide +kernel
theorem dL_kitchens_316 : decode cL_kitchens 316 = .ok (.aload_n 3, 1) := by decide +kernel
theorem dL_kitchens_317 : decode cL_kitchens 317 = .ok (.bipush 10, 2) := by decide +kernel
theorem dL_kitchens_319 : decode cL_kitchens 319 = .ok (.iaload, 1) := by decide +kernel
theorem dL_kitchens_320 : decode cL_kitchens 320 = .ok (.irem, 1) := by decide +kernel
theorem dL_kitchens_321 : decode cL_kitchens 321 = .ok (.ifCond .ne 7, 3) := by decide +kernel
theorem dL_kitchens_324 : decode cL_kitchens 324 = .ok (.iconst 0, 1) := by decide +kernel
theorem dL_kitchens_325 : decode cL_kitchens 325 = .ok (.goto 4, 3) := by decide +kernel
theorem dL_kitchens_328 : decode cL_kitchens 328 = .ok (.iconst 1, 1) := by decide +kernel
theorem dL_kitchens_329 : decode cL_kitchens 329 = .ok (.iadd, 1) := by decide +kernel
theorem dL_kitchens_330 : decode cL_kitchens 330 = .ok (.if_icmp .ne 7, 3) := by decide +kernel
theorem dL_kitchens_333 : decode cL_kitchens 333 = .ok (.iconst 1, 1) := by decide +kernel
theorem dL_kitchens_334 : decode cL_kitchens 334 = .ok (.goto 4, 3) := by decide +kernel
theorem dL_kitchens_337 : decode cL_kitchens 337 = .ok (.iconst 0, 1) := by decide +kernel
theorem dL_kitchens_338 : decode cL_kitchens 338 = .ok (.ireturn, 1) := by decide +kernel
theorem dL_lorries_0 : decode cL_lorries 0 = .ok (.iload_n 2, 1) := by decide +kernel
theorem dL_lorries_1 : decode cL_lorries 1 = .ok (.aload_n 3, 1) := by decide +kernel
theorem dL_lorries_2 : decode cL_lorries 2 = .ok (.iconst 2, 1) := by decide +kernel
theorem dL_lorries_3 : decode cL_lorries 3 = .ok (.iaload, 1) := by decide +kernel
theorem dL_lorries_4 : decode cL_lorries 4 = .ok (.invokestatic 34, 3) := by decide +kernel
theorem dL_lorries_7 : decode cL_lorries 7 = .ok (.istore 9, 2) := by decide +kernel
theorem dL_lorries_9 : decode cL_lorries 9 = .ok (.iload_n 2, 1) := by decide +kernel
theorem dL_lorries_10 : decode cL_lorries 10 = .ok (.iconst 3, 1) := by decide +kernel
theorem dL_lorries_11 : decode cL_lorries 11 = .ok (.ishr, 1) := by decide +kernel
theorem dL_lorries_12 : decode cL_lorries 12 = .ok (.aload_n 3, 1) := by decide +kernel
theorem dL_lorries_13 : decode cL_lorries 13 = .ok (.iconst 1, 1) := by decide +kernel
theorem dL_lorries_14 : decode cL_lorries 14 = .ok (.iaload, 1) := by decide +kernel
theorem dL_lorries_15 : decode cL_lorries 15 = .ok (.invokestatic 34, 3) := by decide +kernel
theorem dL_lorries_18 : decode cL_lorries 18 = .ok (.istore 10, 2) := by decide +kernel
theorem dL_lorries_20 : decode cL_lorries 20 = .ok (.iload_n 1, 1) := by decide +kernel
theorem dL_lorries_21 : decode cL_lorries 21 = .ok (.iconst 4, 1) := by decide +kernel
theorem dL_lorries_22 : decode cL_lorries 22 = .ok (.invokestatic 34, 3) := by decide +kernel
theorem dL_lorries_25 : decode cL_lorries 25 = .ok (.istore 11, 2) := by decide +kernel
theorem dL_lorries_27 : decode cL_lorries 27 = .ok (.iload 11, 2) := by decide +kernel
theorem dL_lorries_29 : decode cL_lorries 29 = .ok (.iconst 2, 1) := by decide +kernel
theorem dL_lorries_30 : decode cL_lorries 30 = .ok (.if_icmp .ge 95, 3) := by decide +kernel
theorem dL_lorries_33 : decode cL_lorries 33 = .ok (.iload 11, 2) := by decide +kernel
theorem dL_lorries_35 : decode cL_lorries 35 = .ok (.ifCond .ne 11, 3) := by decide +kernel
theorem dL_lorries_38 : decode cL_lorries 38 = .ok (.aload 5, 2) := by decide +kernel
theorem dL_lorries_40 : decode cL_lorries 40 = .ok (.iload 10, 2) := by decide +kernel
theorem dL_lorries_42 : decode cL_lorries 42 = .ok (.iaload, 1) := by decide +kernel
theorem dL_lorries_43 : decode cL_lorries 43 = .ok (.goto 12, 3) := by decide +kernel
theorem dL_lorries_46 : decode cL_lorries 46 = .ok (.iload_n 2, 1) := by decide +kernel
theorem dL_lorries_47 : decode cL_lorries 47 = .ok (.iconst 5, 1) := by decide +kernel
theorem dL_lorries_48 : decode cL_lorries 48 = .ok (.ishr, 1) := by decide +kernel
theorem dL_lorries_49 : decode cL_lorries 49 = .ok (.aload_n 3, 1) := by decide +kernel
theorem dL_lorries_50 : decode cL_lorries 50 = .ok (.iconst 0, 1) := by decide +kernel
theorem dL_lorries_51 : decode cL_lorries 51 = .ok (.iaload, 1) := by decide +kernel
theorem dL_lorries_52 : decode cL_lorries 52 = .ok (.invokestatic 34, 3) := by decide +kernel
theorem dL_lorries_55 : decode cL_lorries 55 = .ok (.istore 12, 2) := by decide +kernel
theorem dL_lorries_57 : decode cL_lorries 57 = .ok (.aload 7, 2) := by decide +kernel
theorem dL_lorries_59 : decode cL_lorries 59 = .ok (.iload 9, 2) := by decide +kernel
theorem dL_lorries_61 : decode cL_lorries 61 = .ok (.iaload, 1) := by decide +kernel
theorem dL_lorries_62 : decode cL_lorries 62 = .ok (.ifCond .gt 13, 3) := by decide +kernel
theorem dL_lorries_65 : decode cL_lorries 65 = .ok (.aload 6, 2) := by decide +kernel
theorem dL_lorries_67 : decode cL_lorries 67 = .ok (.iload 9, 2) := by decide +kernel
theorem dL_lorries_69 : decode cL_lorries 69 = .ok (.iaload, 1) := by decide +kernel
theorem dL_lorries_70 : decode cL_lorries 70 = .ok (.iload 12, 2) := by decide +kernel
theorem dL_lorries_72 : decode cL_lorries 72 = .ok (.if_icmp .ne 5, 3) := by decide +kernel
theorem dL_lorries_75 : decode cL_lorries 75 = .ok (.iconst 1, 1) := by decide +kernel
theorem dL_lorries_76 : decode cL_lorries 76 = .ok (.ireturn, 1) := by decide +kernel
theorem dL_lorries_77 : decode cL_lorries 77 = .ok (.aload_n 3, 1) := by decide +kernel
theorem dL_lorries_78 : decode cL_lorries 78 = .ok (.aload 4, 2) := by decide +kernel
theorem dL_lorries_80 : decode cL_lorries 80 = .ok (.aload 6, 2) := by decide +kernel
theorem dL_lorries_82 : decode cL_lorries 82 = .ok (.iload 9, 2) := by decide +kernel
theorem dL_lorries_84 : decode cL_lorries 84 = .ok (.iaload, 1) := by decide +kernel
theorem dL_lorries_85 : decode cL_lorries 85 = .ok (.iload 12, 2) := by decide +kernel
theorem dL_lorries_87 : decode cL_lorries 87 = .ok (.invokestatic 49, 3) := by decide +kernel
theorem dL_lorries_90 : decode cL_lorries 90 = .ok (.istore 13, 2) := by decide +kernel
theorem dL_lorries_92 : decode cL_lorries 92 = .ok (.aload 6, 2) := by decide +kernel
theorem dL_lorries_94 : decode cL_lorries 94 = .ok (.iload 9, 2) := by decide +kernel
theorem dL_lorries_96 : decode cL_lorries 96 = .ok (.iload 12, 2) := by decide +kernel
theorem dL_lorries_98 : decode cL_lorries 98 = .ok (.iastore, 1) := by decide +kernel
theorem dL_lorries_99 : decode cL_lorries 99 = .ok (.aload 7, 2) := by decide +kernel
theorem dL_lorries_101 : decode cL_lorries 101 = .ok (.iload 9, 2) := by decide +kernel
theorem dL_lorries_103 : decode cL_lorries 103 = .ok (.iload 13, 2) := by decide +kernel
theorem dL_lorries_105 : decode cL_lorries 105 = .ok (.iastore, 1) := by decide +kernel
theorem dL_lorries_106 : decode cL_lorries 106 = .ok (.aload_n 0, 1) := by decide +kernel
theorem dL_lorries_107 : decode cL_lorries 107 = .ok (.iload 9, 2) := by decide +kernel
theorem dL_lorries_109 : decode cL_lorries 109 = .ok (.iload 12, 2) := by decide +kernel
theorem dL_lorries_111 : decode cL_lorries 111 = .ok (.invokevirtual 52, 3) := by decide +kernel
theorem dL_lorries_114 : decode cL_lorries 114 = .ok (.iload 13, 2) := by decide +kernel
theorem dL_lorries_116 : decode cL_lorries 116 = .ok (.if_icmp .ne 7, 3) := by decide +kernel
theorem dL_lorries_119 : decode cL_lorries 119 = .ok (.iconst 1, 1) := by decide +kernel
theorem dL_lorries_120 : decode cL_lorries 120 = .ok (.goto 4, 3) := by decide +kernel
theorem dL_lorries_123 : decode cL_lorries 123 = .ok (.iconst 0, 1) := by decide +kernel
theorem dL_lorries_124 : decode cL_lorries 124 = .ok (.ireturn, 1) := by decide +kernel
theorem dL_lorries_125 : decode cL_lorries 125 = .ok (.aload 7, 2) := by decide +kernel
theorem dL_lorries_127 : decode cL_lorries 127 = .ok (.iload 9, 2) := by decide +kernel
theorem dL_lorries_129 : decode cL_lorries 129 = .ok (.iaload, 1) := by decide +kernel
theorem dL_lorries_130 : decode cL_lorries 130 = .ok (.ifCond .gt 16, 3) := by decide +kernel
theorem dL_lorries_133 : decode cL_lorries 133 = .ok (.aload 6, 2) := by decide +kernel
theorem dL_lorries_135 : decode cL_lorries 135 = .ok (.iload 9, 2) := by decide +kernel
theorem dL_lorries_137 : decode cL_lorries 137 = .ok (.iaload, 1) := by decide +kernel
theorem dL_lorries_138 : decode cL_lorries 138 = .ok (.aload 5, 2) := by decide +kernel
theorem dL_lorries_140 : decode cL_lorries 140 = .ok (.iload 10, 2) := by decide +kernel
theorem dL_lorries_142 : decode cL_lorries 142 = .ok (.iaload, 1) := by decide +kernel
theorem dL_lorries_143 : decode cL_lorries 143 = .ok (.if_icmp .eq 5, 3) := by decide +kernel
theorem dL_lorries_146 : decode cL_lorries 146 = .ok (.iconst 1, 1) := by decide +kernel
theorem dL_lorries_147 : decode cL_lorries 147 = .ok (.ireturn, 1) := by decide +kernel
theorem dL_lorries_148 : decode cL_lorries 148 = .ok (.iload 11, 2) := by decide +kernel
theorem dL_lorries_150 : decode cL_lorries 150 = .ok (.iconst 2, 1) := by decide +kernel
theorem dL_lorries_151 : decode cL_lorries 151 = .ok (.if_icmp .ne 201, 3) := by decide +kernel
theorem dL_lorries_154 : decode cL_lorries 154 = .ok (.iload_n 2, 1) := by decide +kernel
theorem dL_lorries_155 : decode cL_lorries 155 = .ok (.iconst 5, 1) := by decide +kernel
theorem dL_lorries_156 : decode cL_lorries 156 = .ok (.ishr, 1) := by decide +kernel
theorem dL_lorries_157 : decode cL_lorries 157 = .ok (.iconst 3, 1) := by decide +kernel
theorem dL_lorries_158 : decode cL_lorries 158 = .ok (.invokestatic 34, 3) := by decide +kernel
theorem dL_lorries_161 : decode cL_lorries 161 = .ok (.istore 12, 2) := by decide +kernel
theorem dL_lorries_163 : decode cL_lorries 163 = .ok (.iconst 1, 1) := by decide +kernel
theorem dL_lorries_164 : decode cL_lorries 164 = .ok (.iload_n 2, 1) := by decide +kernel
theorem dL_lorries_165 : decode cL_lorries 165 = .ok (.bipush 7, 2) := by decide +kernel
theorem dL_lorries_167 : decode cL_lorries 167 = .ok (.ishr, 1) := by decide +kernel
theorem dL_lorries_168 : decode cL_lorries 168 = .ok (.bipush 30, 2) := by decide +kernel
theorem dL_lorries_170 : decode cL_lorries 170 = .ok (.invokestatic 34, 3) := by decide +kernel
theorem dL_lorries_173 : decode cL_lorries 173 = .ok (.iadd, 1) := by decide +kernel
theorem dL_lorries_174 : decode cL_lorries 174 = .ok (.istore 13, 2) := by decide +kernel
theorem dL_lorries_176 : decode cL_lorries 176 = .ok (.aload_n 3, 1) := by decide +kernel
theorem dL_lorries_177 : decode cL_lorries 177 = .ok (.aload 8, 2) := by decide +kernel
theorem dL_lorries_179 : decode cL_lorries 179 = .ok (.iload 10, 2) := by decide +kernel
theorem dL_lorries_181 : decode cL_lorries 181 = .ok (.iload 12, 2) := by decide +kernel
theorem dL_lorries_183 : decode cL_lorries 183 = .ok (.invokestatic 10, 3) := by decide +kernel
theorem dL_lorries_186 : decode cL_lorries 186 = .ok (.iload 13, 2) := by decide +kernel
theorem dL_lorries_188 : decode cL_lorries 188 = .ok (.if_icmp .lt 32, 3) := by decide +kernel
theorem dL_lorries_191 : decode cL_lorries 191 = .ok (.aload_n 3, 1) := by decide +kernel
theorem dL_lorries_192 : decode cL_lorries 192 = .ok (.aload 8, 2) := by decide +kernel
theorem dL_lorries_194 : decode cL_lorries 194 = .ok (.iconst 4, 1) := by decide +kernel
theorem dL_lorries_195 : decode cL_lorries 195 = .ok (.iload 9, 2) := by decide +kernel
theorem dL_lorries_197 : decode cL_lorries 197 = .ok (.iadd, 1) := by decide +kernel
theorem dL_lorries_198 : decode cL_lorries 198 = .ok (.invokestatic 54, 3) := by decide +kernel
theorem dL_lorries_201 : decode cL_lorries 201 = .ok (.iload 13, 2) := by decide +kernel
theorem dL_lorries_203 : decode cL_lorries 203 = .ok (.iadd, 1) := by decide +kernel
theorem dL_lorries_204 : decode cL_lorries 204 = .ok (.aload_n 3, 1) := by decide +kernel
theorem dL_lorries_205 : decode cL_lorries 205 = .ok (.bipush 11, 2) := by decide +kernel
theorem dL_lorries_207 : decode cL_lorries 207 = .ok (.iaload, 1) := by decide +kernel
theorem dL_lorries_208 : decode cL_lorries 208 = .ok (.if_icmp .gt 12, 3) := by decide +kernel
theorem dL_lorries_211 : decode cL_lorries 211 = .ok (.aload_n 3, 1) := by decide +kernel
theorem dL_lorries_212 : decode cL_lorries 212 = .ok (.bipush 12, 2) := by decide +kernel
theorem dL_lorries_214 : decode cL_lorries 214 = .ok (.iaload, 1) := by decide +kernel
theorem dL_lorries_215 : decode cL_lorries 215 = .ok (.bipush 38, 2) := by decide +kernel
theorem dL_lorries_217 : decode cL_lorries 217 = .ok (.if_icmp .le 5, 3) := by decide +kernel
theorem dL_lorries_220 : decode cL_lorries 220 = .ok (.iconst 1, 1) := by decide +kernel
theorem dL_lorries_221 : decode cL_lorries 221 = .ok (.ireturn, 1) := by decide +kernel
theorem dL_lorries_222 : decode cL_lorries 222 = .ok (.iload 13, 2) := by decide +kernel
theorem dL_lorries_224 : decode cL_lorries 224 = .ok (.istore 14, 2) := by decide +kernel
theorem dL_lorries_226 : decode cL_lorries 226 = .ok (.iload 14, 2) := by decide +kernel
theorem dL_lorries_228 : decode cL_lorries 228 = .ok (.ifCond .le 93, 3) := by decide +kernel
theorem dL_lorries_231 : decode cL_lorries 231 = .ok (.aload_n 3, 1) := by decide +kernel
theorem dL_lorries_232 : decode cL_lorries 232 = .ok (.aload 8, 2) := by decide +kernel
theorem dL_lorries_234 : decode cL_lorries 234 = .ok (.iload 10, 2) := by decide +kernel
theorem dL_lorries_236 : decode cL_lorries 236 = .ok (.iconst 1, 1) := by decide +kernel
theorem dL_lorries_237 : decode cL_lorries 237 = .ok (.iload 12, 2) := by decide +kernel
theorem dL_lorries_239 : decode cL_lorries 239 = .ok (.ishl, 1) := by decide +kernel
theorem dL_lorries_240 : decode cL_lorries 240 = .ok (.invokestatic 16, 3) := by decide +kernel
theorem dL_lorries_243 : decode cL_lorries 243 = .ok (.istore 15, 2) := by decide +kernel
theorem dL_lorries_245 : decode cL_lorries 245 = .ok (.aload 8, 2) := by decide +kernel
theorem dL_lorries_247 : decode cL_lorries 247 = .ok (.iload 15, 2) := by decide +kernel
theorem dL_lorries_249 : decode cL_lorries 249 = .ok (.iaload, 1) := by decide +kernel
theorem dL_lorries_250 : decode cL_lorries 250 = .ok (.bipush 17, 2) := by decide +kernel
theorem dL_lorries_252 : decode cL_lorries 252 = .ok (.ishr, 1) := by decide +kernel
theorem dL_lorries_253 : decode cL_lorries 253 = .ok (.iload 14, 2) := by decide +kernel
theorem dL_lorries_255 : decode cL_lorries 255 = .ok (.if_icmp .ge 14, 3) := by decide +kernel
theorem dL_lorries_258 : decode cL_lorries 258 = .ok (.aload 8, 2) := by decide +kernel
theorem dL_lorries_260 : decode cL_lorries 260 = .ok (.iload 15, 2) := by decide +kernel
theorem dL_lorries_262 : decode cL_lorries 262 = .ok (.iaload, 1) := by decide +kernel
theorem dL_lorries_263 : decode cL_lorries 263 = .ok (.bipush 17, 2) := by decide +kernel
theorem dL_lorries_265 : decode cL_lorries 265 = .ok (.ishr, 1) := by decide +kernel
theorem dL_lorries_266 : decode cL_lorries 266 = .ok (.goto 5, 3) := by decide +kernel
theorem dL_lorries_269 : decode cL_lorries 269 = .ok (.iload 14, 2) := by decide +kernel
theorem dL_lorries_271 : decode cL_lorries 271 = .ok (.istore 16, 2) := by decide +kernel
theorem dL_lorries_273 : decode cL_lorries 273 = .ok (.aload 8, 2) := by decide +kernel
theorem dL_lorries_275 : decode cL_lorries 275 = .ok (.iload 15, 2) := by decide +kernel
theorem dL_lorries_277 : decode cL_lorries 277 = .ok (.iaload, 1) := by decide +kernel
theorem dL_lorries_278 : decode cL_lorries 278 = .ok (.ldc 8, 2) := by decide +kernel
theorem dL_lorries_280 : decode cL_lorries 280 = .ok (.iand, 1) := by decide +kernel
theorem dL_lorries_281 : decode cL_lorries 281 = .ok (.iload 10, 2) := by decide +kernel
theorem dL_lorries_283 : decode cL_lorries 283 = .ok (.isub, 1) := by decide +kernel
theorem dL_lorries_284 : decode cL_lorries 284 = .ok (.iconst 4, 1) := by decide +kernel
theorem dL_lorries_285 : decode cL_lorries 285 = .ok (.iadd, 1) := by decide +kernel
theorem dL_lorries_286 : decode cL_lorries 286 = .ok (.iload 9, 2) := by decide +kernel
theorem dL_lorries_288 : decode cL_lorries 288 = .ok (.iadd, 1) := by decide +kernel
theorem dL_lorries_289 : decode cL_lorries 289 = .ok (.istore 17, 2) := by decide +kernel
theorem dL_lorries_291 : decode cL_lorries 291 = .ok (.aload_n 3, 1) := by decide +kernel
theorem dL_lorries_292 : decode cL_lorries 292 = .ok (.aload 8, 2) := by decide +kernel
theorem dL_lorries_294 : decode cL_lorries 294 = .ok (.iload 15, 2) := by decide +kernel
theorem dL_lorries_296 : decode cL_lorries 296 = .ok (.iload 16, 2) := by decide +kernel
theorem dL_lorries_298 : decode cL_lorries 298 = .ok (.invokestatic 19, 3) := by decide +kernel
theorem dL_lorries_301 : decode cL_lorries 301 = .ok (.aload_n 3, 1) := by decide +kernel
theorem dL_lorries_302 : decode cL_lorries 302 = .ok (.aload 8, 2) := by decide +kernel
theorem dL_lorries_304 : decode cL_lorries 304 = .ok (.iload 17, 2) := by decide +kernel
theorem dL_lorries_306 : decode cL_lorries 306 = .ok (.iload 16, 2) := by decide +kernel
theorem dL_lorries_308 : decode cL_lorries 308 = .ok (.invokestatic 27, 3) := by decide +kernel
theorem dL_lorries_311 : decode cL_lorries 311 = .ok (.iload 14, 2) := by decide +kernel
theorem dL_lorries_313 : decode cL_lorries 313 = .ok (.iload 16, 2) := by decide +kernel
theorem dL_lorries_315 : decode cL_lorries 315 = .ok (.isub, 1) := by decide +kernel
theorem dL_lorries_316 : decode cL_lorries 316 = .ok (.istore 14, 2) := by decide +kernel
theorem dL_lorries_318 : decode cL_lorries 318 = .ok (.goto (-92), 3) := by decide +kernel
theorem dL_lorries_321 : decode cL_lorries 321 = .ok (.aload_n 0, 1) := by decide +kernel
theorem dL_lorries_322 : decode cL_lorries 322 = .ok (.iload 9, 2) := by decide +kernel
theorem dL_lorries_324 : decode cL_lorries 324 = .ok (.iload 10, 2) := by decide +kernel
theorem dL_lorries_326 : decode cL_lorries 326 = .ok (.iload 12, 2) := by decide +kernel

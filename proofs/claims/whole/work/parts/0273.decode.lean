theorem dX8_cook_167 : decode cX8_cook 167 = .ok (.ireturn, 1) := by decide +kernel
theorem dX8_load_0 : decode cX8_load 0 = .ok (.aload_n 0, 1) := by decide +kernel
theorem dX8_load_1 : decode cX8_load 1 = .ok (.aload_n 0, 1) := by decide +kernel
theorem dX8_load_2 : decode cX8_load 2 = .ok (.iload_n 1, 1) := by decide +kernel
theorem dX8_load_3 : decode cX8_load 3 = .ok (.invokevirtual 81, 3) := by decide +kernel
theorem dX8_load_6 : decode cX8_load 6 = .ok (.ifCond .eq 11, 3) := by decide +kernel
theorem dX8_load_9 : decode cX8_load 9 = .ok (.aload_n 0, 1) := by decide +kernel
theorem dX8_load_10 : decode cX8_load 10 = .ok (.iload_n 2, 1) := by decide +kernel
theorem dX8_load_11 : decode cX8_load 11 = .ok (.invokevirtual 69, 3) := by decide +kernel
theorem dX8_load_14 : decode cX8_load 14 = .ok (.ifCond .ne 7, 3) := by decide +kernel
theorem dX8_load_17 : decode cX8_load 17 = .ok (.iconst 1, 1) := by decide +kernel
theorem dX8_load_18 : decode cX8_load 18 = .ok (.goto 27, 3) := by decide +kernel
theorem dX8_load_21 : decode cX8_load 21 = .ok (.iload_n 3, 1) := by decide +kernel
theorem dX8_load_22 : decode cX8_load 22 = .ok (.invokestatic 72, 3) := by decide +kernel
theorem dX8_load_25 : decode cX8_load 25 = .ok (.ifCond .eq 15, 3) := by decide +kernel
theorem dX8_load_28 : decode cX8_load 28 = .ok (.iload 4, 2) := by decide +kernel
theorem dX8_load_30 : decode cX8_load 30 = .ok (.iconst 1, 1) := by decide +kernel
theorem dX8_load_31 : decode cX8_load 31 = .ok (.sipush 500, 3) := by decide +kernel
theorem dX8_load_34 : decode cX8_load 34 = .ok (.invokestatic 32, 3) := by decide +kernel
theorem dX8_load_37 : decode cX8_load 37 = .ok (.ifCond .ne 7, 3) := by decide +kernel
theorem dX8_load_40 : decode cX8_load 40 = .ok (.iconst 2, 1) := by decide +kernel
theorem dX8_load_41 : decode cX8_load 41 = .ok (.goto 4, 3) := by decide +kernel
theorem dX8_load_44 : decode cX8_load 44 = .ok (.iconst 0, 1) := by decide +kernel
theorem dX8_load_45 : decode cX8_load 45 = .ok (.putfield 25, 3) := by decide +kernel
theorem dX8_load_48 : decode cX8_load 48 = .ok (.aload_n 0, 1) := by decide +kernel
theorem dX8_load_49 : decode cX8_load 49 = .ok (.getfield 25, 3) := by decide +kernel
theorem dX8_load_52 : decode cX8_load 52 = .ok (.ifCond .ne 71, 3) := by decide +kernel
theorem dX8_load_55 : decode cX8_load 55 = .ok (.aload_n 0, 1) := by decide +kernel
theorem dX8_load_56 : decode cX8_load 56 = .ok (.iload_n 1, 1) := by decide +kernel
theorem dX8_load_57 : decode cX8_load 57 = .ok (.aload_n 0, 1) := by decide +kernel
theorem dX8_load_58 : decode cX8_load 58 = .ok (.getfield 7, 3) := by decide +kernel
theorem dX8_load_61 : decode cX8_load 61 = .ok (.bipush 33, 2) := by decide +kernel
theorem dX8_load_63 : decode cX8_load 63 = .ok (.iload_n 2, 1) := by decide +kernel
theorem dX8_load_64 : decode cX8_load 64 = .ok (.iadd, 1) := by decide +kernel
theorem dX8_load_65 : decode cX8_load 65 = .ok (.iaload, 1) := by decide +kernel
theorem dX8_load_66 : decode cX8_load 66 = .ok (.invokevirtual 84, 3) := by decide +kernel
theorem dX8_load_69 : decode cX8_load 69 = .ok (.ifCond .eq 37, 3) := by decide +kernel
theorem dX8_load_72 : decode cX8_load 72 = .ok (.aload_n 0, 1) := by decide +kernel
theorem dX8_load_73 : decode cX8_load 73 = .ok (.iload_n 2, 1) := by decide +kernel
theorem dX8_load_74 : decode cX8_load 74 = .ok (.iload_n 3, 1) := by decide +kernel
theorem dX8_load_75 : decode cX8_load 75 = .ok (.invokevirtual 36, 3) := by decide +kernel
theorem dX8_load_78 : decode cX8_load 78 = .ok (.iload 4, 2) := by decide +kernel
theorem dX8_load_80 : decode cX8_load 80 = .ok (.if_icmp .lt 26, 3) := by decide +kernel
theorem dX8_load_83 : decode cX8_load 83 = .ok (.aload_n 0, 1) := by decide +kernel
theorem dX8_load_84 : decode cX8_load 84 = .ok (.iconst 3, 1) := by decide +kernel
theorem dX8_load_85 : decode cX8_load 85 = .ok (.iload_n 1, 1) := by decide +kernel
theorem dX8_load_86 : decode cX8_load 86 = .ok (.iadd, 1) := by decide +kernel
theorem dX8_load_87 : decode cX8_load 87 = .ok (.invokevirtual 87, 3) := by decide +kernel
theorem dX8_load_90 : decode cX8_load 90 = .ok (.iload 4, 2) := by decide +kernel
theorem dX8_load_92 : decode cX8_load 92 = .ok (.iadd, 1) := by decide +kernel
theorem dX8_load_93 : decode cX8_load 93 = .ok (.aload_n 0, 1) := by decide +kernel
theorem dX8_load_94 : decode cX8_load 94 = .ok (.getfield 7, 3) := by decide +kernel
theorem dX8_load_97 : decode cX8_load 97 = .ok (.iconst 5, 1) := by decide +kernel
theorem dX8_load_98 : decode cX8_load 98 = .ok (.iaload, 1) := by decide +kernel
theorem dX8_load_99 : decode cX8_load 99 = .ok (.if_icmp .gt 7, 3) := by decide +kernel
theorem dX8_load_102 : decode cX8_load 102 = .ok (.iconst 1, 1) := by decide +kernel
theorem dX8_load_103 : decode cX8_load 103 = .ok (.goto 4, 3) := by decide +kernel
theorem dX8_load_106 : decode cX8_load 106 = .ok (.iconst 0, 1) := by decide +kernel
theorem dX8_load_107 : decode cX8_load 107 = .ok (.istore 5, 2) := by decide +kernel
theorem dX8_load_109 : decode cX8_load 109 = .ok (.aload_n 0, 1) := by decide +kernel
theorem dX8_load_110 : decode cX8_load 110 = .ok (.iload 5, 2) := by decide +kernel
theorem dX8_load_112 : decode cX8_load 112 = .ok (.ifCond .eq 7, 3) := by decide +kernel
theorem dX8_load_115 : decode cX8_load 115 = .ok (.iconst 0, 1) := by decide +kernel
theorem dX8_load_116 : decode cX8_load 116 = .ok (.goto 4, 3) := by decide +kernel
theorem dX8_load_119 : decode cX8_load 119 = .ok (.iconst 3, 1) := by decide +kernel
theorem dX8_load_120 : decode cX8_load 120 = .ok (.putfield 25, 3) := by decide +kernel
theorem dX8_load_123 : decode cX8_load 123 = .ok (.aload_n 0, 1) := by decide +kernel
theorem dX8_load_124 : decode cX8_load 124 = .ok (.getfield 25, 3) := by decide +kernel
theorem dX8_load_127 : decode cX8_load 127 = .ok (.ifCond .le 5, 3) := by decide +kernel
theorem dX8_load_130 : decode cX8_load 130 = .ok (.iconst 0, 1) := by decide +kernel
theorem dX8_load_131 : decode cX8_load 131 = .ok (.ireturn, 1) := by decide +kernel
theorem dX8_load_132 : decode cX8_load 132 = .ok (.aload_n 0, 1) := by decide +kernel
theorem dX8_load_133 : decode cX8_load 133 = .ok (.invokevirtual 56, 3) := by decide +kernel
theorem dX8_load_136 : decode cX8_load 136 = .ok (.iload 4, 2) := by decide +kernel
theorem dX8_load_138 : decode cX8_load 138 = .ok (.istore 5, 2) := by decide +kernel
theorem dX8_load_140 : decode cX8_load 140 = .ok (.aload_n 0, 1) := by decide +kernel
theorem dX8_load_141 : decode cX8_load 141 = .ok (.invokevirtual 40, 3) := by decide +kernel
theorem dX8_load_144 : decode cX8_load 144 = .ok (.istore 6, 2) := by decide +kernel
theorem dX8_load_146 : decode cX8_load 146 = .ok (.iload 6, 2) := by decide +kernel
theorem dX8_load_148 : decode cX8_load 148 = .ok (.aload_n 0, 1) := by decide +kernel
theorem dX8_load_149 : decode cX8_load 149 = .ok (.getfield 7, 3) := by decide +kernel
theorem dX8_load_152 : decode cX8_load 152 = .ok (.bipush 10, 2) := by decide +kernel
theorem dX8_load_154 : decode cX8_load 154 = .ok (.iaload, 1) := by decide +kernel
theorem dX8_load_155 : decode cX8_load 155 = .ok (.if_icmp .gt 82, 3) := by decide +kernel
theorem dX8_load_158 : decode cX8_load 158 = .ok (.iload_n 2, 1) := by decide +kernel
theorem dX8_load_159 : decode cX8_load 159 = .ok (.iload_n 3, 1) := by decide +kernel
theorem dX8_load_160 : decode cX8_load 160 = .ok (.iload 6, 2) := by decide +kernel
theorem dX8_load_162 : decode cX8_load 162 = .ok (.invokestatic 44, 3) := by decide +kernel
theorem dX8_load_165 : decode cX8_load 165 = .ok (.istore 7, 2) := by decide +kernel
theorem dX8_load_167 : decode cX8_load 167 = .ok (.aload_n 0, 1) := by decide +kernel
theorem dX8_load_168 : decode cX8_load 168 = .ok (.getfield 7, 3) := by decide +kernel
theorem dX8_load_171 : decode cX8_load 171 = .ok (.iload 7, 2) := by decide +kernel
theorem dX8_load_173 : decode cX8_load 173 = .ok (.iaload, 1) := by decide +kernel
theorem dX8_load_174 : decode cX8_load 174 = .ok (.iload 5, 2) := by decide +kernel
theorem dX8_load_176 : decode cX8_load 176 = .ok (.if_icmp .ge 13, 3) := by decide +kernel
theorem dX8_load_179 : decode cX8_load 179 = .ok (.aload_n 0, 1) := by decide +kernel
theorem dX8_load_180 : decode cX8_load 180 = .ok (.getfield 7, 3) := by decide +kernel
theorem dX8_load_183 : decode cX8_load 183 = .ok (.iload 7, 2) := by decide +kernel
theorem dX8_load_185 : decode cX8_load 185 = .ok (.iaload, 1) := by decide +kernel
theorem dX8_load_186 : decode cX8_load 186 = .ok (.goto 5, 3) := by decide +kernel
theorem dX8_load_189 : decode cX8_load 189 = .ok (.iload 5, 2) := by decide +kernel
theorem dX8_load_191 : decode cX8_load 191 = .ok (.istore 8, 2) := by decide +kernel
theorem dX8_load_193 : decode cX8_load 193 = .ok (.aload_n 0, 1) := by decide +kernel
theorem dX8_load_194 : decode cX8_load 194 = .ok (.getfield 7, 3) := by decide +kernel
theorem dX8_load_197 : decode cX8_load 197 = .ok (.iload 7, 2) := by decide +kernel
theorem dX8_load_199 : decode cX8_load 199 = .ok (.dup2, 1) := by decide +kernel
theorem dX8_load_200 : decode cX8_load 200 = .ok (.iaload, 1) := by decide +kernel
theorem dX8_load_201 : decode cX8_load 201 = .ok (.iload 8, 2) := by decide +kernel
theorem dX8_load_203 : decode cX8_load 203 = .ok (.isub, 1) := by decide +kernel
theorem dX8_load_204 : decode cX8_load 204 = .ok (.iastore, 1) := by decide +kernel
theorem dX8_load_205 : decode cX8_load 205 = .ok (.aload_n 0, 1) := by decide +kernel
theorem dX8_load_206 : decode cX8_load 206 = .ok (.getfield 7, 3) := by decide +kernel
theorem dX8_load_209 : decode cX8_load 209 = .ok (.iconst 3, 1) := by decide +kernel
theorem dX8_load_210 : decode cX8_load 210 = .ok (.iload_n 1, 1) := by decide +kernel
theorem dX8_load_211 : decode cX8_load 211 = .ok (.iadd, 1) := by decide +kernel
theorem dX8_load_212 : decode cX8_load 212 = .ok (.iload_n 3, 1) := by decide +kernel
theorem dX8_load_213 : decode cX8_load 213 = .ok (.iload 6, 2) := by decide +kernel
theorem dX8_load_215 : decode cX8_load 215 = .ok (.invokestatic 44, 3) := by decide +kernel
theorem dX8_load_218 : decode cX8_load 218 = .ok (.dup2, 1) := by decide +kernel
theorem dX8_load_219 : decode cX8_load 219 = .ok (.iaload, 1) := by decide +kernel
theorem dX8_load_220 : decode cX8_load 220 = .ok (.iload 8, 2) := by decide +kernel
theorem dX8_load_222 : decode cX8_load 222 = .ok (.iadd, 1) := by decide +kernel
theorem dX8_load_223 : decode cX8_load 223 = .ok (.iastore, 1) := by decide +kernel
theorem dX8_load_224 : decode cX8_load 224 = .ok (.iload 5, 2) := by decide +kernel
theorem dX8_load_226 : decode cX8_load 226 = .ok (.iload 8, 2) := by decide +kernel
theorem dX8_load_228 : decode cX8_load 228 = .ok (.isub, 1) := by decide +kernel
theorem dX8_load_229 : decode cX8_load 229 = .ok (.istore 5, 2) := by decide +kernel
theorem dX8_load_231 : decode cX8_load 231 = .ok (.iinc 6 1, 3) := by decide +kernel
theorem dX8_load_234 : decode cX8_load 234 = .ok (.goto (-88), 3) := by decide +kernel
theorem dX8_load_237 : decode cX8_load 237 = .ok (.aload_n 0, 1) := by decide +kernel
theorem dX8_load_238 : decode cX8_load 238 = .ok (.iconst 3, 1) := by decide +kernel
theorem dX8_load_239 : decode cX8_load 239 = .ok (.iload_n 1, 1) := by decide +kernel
theorem dX8_load_240 : decode cX8_load 240 = .ok (.iadd, 1) := by decide +kernel
theorem dX8_load_241 : decode cX8_load 241 = .ok (.invokevirtual 87, 3) := by decide +kernel
theorem dX8_load_244 : decode cX8_load 244 = .ok (.ireturn, 1) := by decide +kernel
theorem dX8_unload_0 : decode cX8_unload 0 = .ok (.aload_n 0, 1) := by decide +kernel
theorem dX8_unload_1 : decode cX8_unload 1 = .ok (.aload_n 0, 1) := by decide +kernel
theorem dX8_unload_2 : decode cX8_unload 2 = .ok (.iload_n 1, 1) := by decide +kernel
theorem dX8_unload_3 : decode cX8_unload 3 = .ok (.invokevirtual 81, 3) := by decide +kernel
theorem dX8_unload_6 : decode cX8_unload 6 = .ok (.ifCond .eq 11, 3) := by decide +kernel
theorem dX8_unload_9 : decode cX8_unload 9 = .ok (.aload_n 0, 1) := by decide +kernel
theorem dX8_unload_10 : decode cX8_unload 10 = .ok (.iload_n 2, 1) := by decide +kernel
theorem dX8_unload_11 : decode cX8_unload 11 = .ok (.invokevirtual 69, 3) := by decide +kernel
theorem dX8_unload_14 : decode cX8_unload 14 = .ok (.ifCond .ne 7, 3) := by decide +kernel
theorem dX8_unload_17 : decode cX8_unload 17 = .ok (.iconst 1, 1) := by decide +kernel
theorem dX8_unload_18 : decode cX8_unload 18 = .ok (.goto 25, 3) := by decide +kernel
theorem dX8_unload_21 : decode cX8_unload 21 = .ok (.aload_n 0, 1) := by decide +kernel
theorem dX8_unload_22 : decode cX8_unload 22 = .ok (.iload_n 1, 1) := by decide +kernel
theorem dX8_unload_23 : decode cX8_unload 23 = .ok (.aload_n 0, 1) := by decide +kernel
theorem dX8_unload_24 : decode cX8_unload 24 = .ok (.getfield 7, 3) := by decide +kernel
theorem dX8_unload_27 : decode cX8_unload 27 = .ok (.bipush 33, 2) := by decide +kernel
theorem dX8_unload_29 : decode cX8_unload 29 = .ok (.iload_n 2, 1) := by decide +kernel
theorem dX8_unload_30 : decode cX8_unload 30 = .ok (.iadd, 1) := by decide +kernel
theorem dX8_unload_31 : decode cX8_unload 31 = .ok (.iaload, 1) := by decide +kernel
theorem dX8_unload_32 : decode cX8_unload 32 = .ok (.invokevirtual 84, 3) := by decide +kernel
theorem dX8_unload_35 : decode cX8_unload 35 = .ok (.ifCond .eq 7, 3) := by decide +kernel
theorem dX8_unload_38 : decode cX8_unload 38 = .ok (.iconst 0, 1) := by decide +kernel
theorem dX8_unload_39 : decode cX8_unload 39 = .ok (.goto 4, 3) := by decide +kernel
theorem dX8_unload_42 : decode cX8_unload 42 = .ok (.iconst 2, 1) := by decide +kernel
theorem dX8_unload_43 : decode cX8_unload 43 = .ok (.putfield 25, 3) := by decide +kernel
theorem dX8_unload_46 : decode cX8_unload 46 = .ok (.aload_n 0, 1) := by decide +kernel
theorem dX8_unload_47 : decode cX8_unload 47 = .ok (.getfield 25, 3) := by decide +kernel
theorem dX8_unload_50 : decode cX8_unload 50 = .ok (.ifCond .le 5, 3) := by decide +kernel
theorem dX8_unload_53 : decode cX8_unload 53 = .ok (.iconst 0, 1) := by decide +kernel
theorem dX8_unload_54 : decode cX8_unload 54 = .ok (.ireturn, 1) := by decide +kernel
theorem dX8_unload_55 : decode cX8_unload 55 = .ok (.aload_n 0, 1) := by decide +kernel
theorem dX8_unload_56 : decode cX8_unload 56 = .ok (.invokevirtual 56, 3) := by decide +kernel
theorem dX8_unload_59 : decode cX8_unload 59 = .ok (.aload_n 0, 1) := by decide +kernel
theorem dX8_unload_60 : decode cX8_unload 60 = .ok (.iconst 3, 1) := by decide +kernel
theorem dX8_unload_61 : decode cX8_unload 61 = .ok (.iload_n 1, 1) := by decide +kernel
theorem dX8_unload_62 : decode cX8_unload 62 = .ok (.iadd, 1) := by decide +kernel
theorem dX8_unload_63 : decode cX8_unload 63 = .ok (.invokevirtual 87, 3) := by decide +kernel
theorem dX8_unload_66 : decode cX8_unload 66 = .ok (.istore_n 3, 1) := by decide +kernel
theorem dX8_unload_67 : decode cX8_unload 67 = .ok (.iconst 0, 1) := by decide +kernel
theorem dX8_unload_68 : decode cX8_unload 68 = .ok (.istore 4, 2) := by decide +kernel
theorem dX8_unload_70 : decode cX8_unload 70 = .ok (.iload 4, 2) := by decide +kernel
theorem dX8_unload_72 : decode cX8_unload 72 = .ok (.sipush 192, 3) := by decide +kernel
theorem dX8_unload_75 : decode cX8_unload 75 = .ok (.if_icmp .ge 60, 3) := by decide +kernel
theorem dX8_unload_78 : decode cX8_unload 78 = .ok (.sipush 217, 3) := by decide +kernel
theorem dX8_unload_81 : decode cX8_unload 81 = .ok (.sipush 192, 3) := by decide +kernel
theorem dX8_unload_84 : decode cX8_unload 84 = .ok (.iconst 3, 1) := by decide +kernel
theorem dX8_unload_85 : decode cX8_unload 85 = .ok (.iload_n 1, 1) := by decide +kernel
theorem dX8_unload_86 : decode cX8_unload 86 = .ok (.iadd, 1) := by decide +kernel
theorem dX8_unload_87 : decode cX8_unload 87 = .ok (.imul, 1) := by decide +kernel
theorem dX8_unload_88 : decode cX8_unload 88 = .ok (.iadd, 1) := by decide +kernel
theorem dX8_unload_89 : decode cX8_unload 89 = .ok (.iload 4, 2) := by decide +kernel
theorem dX8_unload_91 : decode cX8_unload 91 = .ok (.iadd, 1) := by decide +kernel
theorem dX8_unload_92 : decode cX8_unload 92 = .ok (.istore 5, 2) := by decide +kernel
theorem dX8_unload_94 : decode cX8_unload 94 = .ok (.aload_n 0, 1) := by decide +kernel
theorem dX8_unload_95 : decode cX8_unload 95 = .ok (.getfield 7, 3) := by decide +kernel
theorem dX8_unload_98 : decode cX8_unload 98 = .ok (.sipush 217, 3) := by decide +kernel
theorem dX8_unload_101 : decode cX8_unload 101 = .ok (.sipush 192, 3) := by decide +kernel
theorem dX8_unload_104 : decode cX8_unload 104 = .ok (.iload_n 2, 1) := by decide +kernel
theorem dX8_unload_105 : decode cX8_unload 105 = .ok (.imul, 1) := by decide +kernel
theorem dX8_unload_106 : decode cX8_unload 106 = .ok (.iadd, 1) := by decide +kernel
theorem dX8_unload_107 : decode cX8_unload 107 = .ok (.iload 4, 2) := by decide +kernel
theorem dX8_unload_109 : decode cX8_unload 109 = .ok (.iadd, 1) := by decide +kernel
theorem dX8_unload_110 : decode cX8_unload 110 = .ok (.dup2, 1) := by decide +kernel
theorem dX8_unload_111 : decode cX8_unload 111 = .ok (.iaload, 1) := by decide +kernel
theorem dX8_unload_112 : decode cX8_unload 112 = .ok (.aload_n 0, 1) := by decide +kernel
theorem dX8_unload_113 : decode cX8_unload 113 = .ok (.getfield 7, 3) := by decide +kernel
theorem dX8_unload_116 : decode cX8_unload 116 = .ok (.iload 5, 2) := by decide +kernel
theorem dX8_unload_118 : decode cX8_unload 118 = .ok (.iaload, 1) := by decide +kernel
theorem dX8_unload_119 : decode cX8_unload 119 = .ok (.iadd, 1) := by decide +kernel
theorem dX8_unload_120 : decode cX8_unload 120 = .ok (.iastore, 1) := by decide +kernel
theorem dX8_unload_121 : decode cX8_unload 121 = .ok (.aload_n 0, 1) := by decide +kernel
theorem dX8_unload_122 : decode cX8_unload 122 = .ok (.getfield 7, 3) := by decide +kernel
theorem dX8_unload_125 : decode cX8_unload 125 = .ok (.iload 5, 2) := by decide +kernel
theorem dX8_unload_127 : decode cX8_unload 127 = .ok (.iconst 0, 1) := by decide +kernel
theorem dX8_unload_128 : decode cX8_unload 128 = .ok (.iastore, 1) := by decide +kernel
theorem dX8_unload_129 : decode cX8_unload 129 = .ok (.iinc 4 1, 3) := by decide +kernel
theorem dX8_unload_132 : decode cX8_unload 132 = .ok (.goto (-62), 3) := by decide +kernel
theorem dX8_unload_135 : decode cX8_unload 135 = .ok (.iload_n 3, 1) := by decide +kernel
theorem dX8_unload_136 : decode cX8_unload 136 = .ok (.ireturn, 1) := by decide +kernel
theorem dX8_drive_0 : decode cX8_drive 0 = .ok (.aload_n 0, 1) := by decide +kernel
theorem dX8_drive_1 : decode cX8_drive 1 = .ok (.aload_n 0, 1) := by decide +kernel
theorem dX8_drive_2 : decode cX8_drive 2 = .ok (.iload_n 1, 1) := by decide +kernel
theorem dX8_drive_3 : decode cX8_drive 3 = .ok (.invokevirtual 81, 3) := by decide +kernel
theorem dX8_drive_6 : decode cX8_drive 6 = .ok (.ifCond .eq 11, 3) := by decide +kernel
theorem dX8_drive_9 : decode cX8_drive 9 = .ok (.aload_n 0, 1) := by decide +kernel
theorem dX8_drive_10 : decode cX8_drive 10 = .ok (.iload_n 2, 1) := by decide +kernel
theorem dX8_drive_11 : decode cX8_drive 11 = .ok (.invokevirtual 59, 3) := by decide +kernel
theorem dX8_drive_14 : decode cX8_drive 14 = .ok (.ifCond .ne 7, 3) := by decide +kernel
theorem dX8_drive_17 : decode cX8_drive 17 = .ok (.iconst 1, 1) := by decide +kernel
theorem dX8_drive_18 : decode cX8_drive 18 = .ok (.goto 29, 3) := by decide +kernel
theorem dX8_drive_21 : decode cX8_drive 21 = .ok (.aload_n 0, 1) := by decide +kernel
theorem dX8_drive_22 : decode cX8_drive 22 = .ok (.iload_n 1, 1) := by decide +kernel
theorem dX8_drive_23 : decode cX8_drive 23 = .ok (.invokevirtual 48, 3) := by decide +kernel
theorem dX8_drive_26 : decode cX8_drive 26 = .ok (.ifCond .eq 16, 3) := by decide +kernel
theorem dX8_drive_29 : decode cX8_drive 29 = .ok (.aload_n 0, 1) := by decide +kernel
theorem dX8_drive_30 : decode cX8_drive 30 = .ok (.getfield 7, 3) := by decide +kernel
theorem dX8_drive_33 : decode cX8_drive 33 = .ok (.bipush 57, 2) := by decide +kernel
theorem dX8_drive_35 : decode cX8_drive 35 = .ok (.iload_n 1, 1) := by decide +kernel
theorem dX8_drive_36 : decode cX8_drive 36 = .ok (.iadd, 1) := by decide +kernel
theorem dX8_drive_37 : decode cX8_drive 37 = .ok (.iaload, 1) := by decide +kernel
theorem dX8_drive_38 : decode cX8_drive 38 = .ok (.iload_n 2, 1) := by decide +kernel
theorem dX8_drive_39 : decode cX8_drive 39 = .ok (.if_icmp .ne 7, 3) := by decide +kernel
theorem dX8_drive_42 : decode cX8_drive 42 = .ok (.iconst 2, 1) := by decide +kernel
theorem dX8_drive_43 : decode cX8_drive 43 = .ok (.goto 4, 3) := by decide +kernel
theorem dX8_drive_46 : decode cX8_drive 46 = .ok (.iconst 0, 1) := by decide +kernel
theorem dX8_drive_47 : decode cX8_drive 47 = .ok (.putfield 25, 3) := by decide +kernel
theorem dX8_drive_50 : decode cX8_drive 50 = .ok (.aload_n 0, 1) := by decide +kernel
theorem dX8_drive_51 : decode cX8_drive 51 = .ok (.getfield 25, 3) := by decide +kernel
theorem dX8_drive_54 : decode cX8_drive 54 = .ok (.ifCond .le 5, 3) := by decide +kernel
theorem dX8_drive_57 : decode cX8_drive 57 = .ok (.iconst 0, 1) := by decide +kernel
theorem dX8_drive_58 : decode cX8_drive 58 = .ok (.ireturn, 1) := by decide +kernel
theorem dX8_drive_59 : decode cX8_drive 59 = .ok (.aload_n 0, 1) := by decide +kernel
theorem dX8_drive_60 : decode cX8_drive 60 = .ok (.invokevirtual 56, 3) := by decide +kernel
theorem dX8_drive_63 : decode cX8_drive 63 = .ok (.aload_n 0, 1) := by decide +kernel
theorem dX8_drive_64 : decode cX8_drive 64 = .ok (.aload_n 0, 1) := by decide +kernel
theorem dX8_drive_65 : decode cX8_drive 65 = .ok (.getfield 7, 3) := by decide +kernel
theorem dX8_drive_68 : decode cX8_drive 68 = .ok (.bipush 57, 2) := by decide +kernel
theorem dX8_drive_70 : decode cX8_drive 70 = .ok (.iload_n 1, 1) := by decide +kernel
theorem dX8_drive_71 : decode cX8_drive 71 = .ok (.iadd, 1) := by decide +kernel
theorem dX8_drive_72 : decode cX8_drive 72 = .ok (.iaload, 1) := by decide +kernel
theorem dX8_drive_73 : decode cX8_drive 73 = .ok (.iload_n 2, 1) := by decide +kernel
theorem dX8_drive_74 : decode cX8_drive 74 = .ok (.invokevirtual 90, 3) := by decide +kernel
theorem dX8_drive_77 : decode cX8_drive 77 = .ok (.istore_n 3, 1) := by decide +kernel
theorem dX8_drive_78 : decode cX8_drive 78 = .ok (.aload_n 0, 1) := by decide +kernel
theorem dX8_drive_79 : decode cX8_drive 79 = .ok (.getfield 7, 3) := by decide +kernel
theorem dX8_drive_82 : decode cX8_drive 82 = .ok (.bipush 57, 2) := by decide +kernel
theorem dX8_drive_84 : decode cX8_drive 84 = .ok (.iload_n 1, 1) := by decide +kernel
theorem dX8_drive_85 : decode cX8_drive 85 = .ok (.iadd, 1) := by decide +kernel
theorem dX8_drive_86 : decode cX8_drive 86 = .ok (.iload_n 2, 1) := by decide +kernel
theorem dX8_drive_87 : decode cX8_drive 87 = .ok (.iastore, 1) := by decide +kernel
theorem dX8_drive_88 : decode cX8_drive 88 = .ok (.aload_n 0, 1) := by decide +kernel
theorem dX8_drive_89 : decode cX8_drive 89 = .ok (.getfield 7, 3) := by decide +kernel
theorem dX8_drive_92 : decode cX8_drive 92 = .ok (.bipush 61, 2) := by decide +kernel
theorem dX8_drive_94 : decode cX8_drive 94 = .ok (.iload_n 1, 1) := by decide +kernel
theorem dX8_drive_95 : decode cX8_drive 95 = .ok (.iadd, 1) := by decide +kernel
theorem dX8_drive_96 : decode cX8_drive 96 = .ok (.iload_n 3, 1) := by decide +kernel
theorem dX8_drive_97 : decode cX8_drive 97 = .ok (.iastore, 1) := by decide +kernel
theorem dX8_drive_98 : decode cX8_drive 98 = .ok (.iload_n 3, 1) := by decide +kernel
theorem dX8_drive_99 : decode cX8_drive 99 = .ok (.ireturn, 1) := by decide +kernel
theorem dX8_ofUnit_0 : decode cX8_ofUnit 0 = .ok (.aload_n 0, 1) := by decide +kernel
theorem dX8_ofUnit_1 : decode cX8_ofUnit 1 = .ok (.getfield 7, 3) := by decide +kernel
theorem dX8_ofUnit_4 : decode cX8_ofUnit 4 = .ok (.bipush 73, 2) := by decide +kernel
theorem dX8_ofUnit_6 : decode cX8_ofUnit 6 = .ok (.bipush 12, 2) := by decide +kernel
theorem dX8_ofUnit_8 : decode cX8_ofUnit 8 = .ok (.iload_n 1, 1) := by decide +kernel
theorem dX8_ofUnit_9 : decode cX8_ofUnit 9 = .ok (.imul, 1) := by decide +kernel
theorem dX8_ofUnit_10 : decode cX8_ofUnit 10 = .ok (.iadd, 1) := by decide +kernel
theorem dX8_ofUnit_11 : decode cX8_ofUnit 11 = .ok (.iload_n 2, 1) := by decide +kernel
theorem dX8_ofUnit_12 : decode cX8_ofUnit 12 = .ok (.iadd, 1) := by decide +kernel
theorem dX8_ofUnit_13 : decode cX8_ofUnit 13 = .ok (.iaload, 1) := by decide +kernel
theorem dX8_ofUnit_14 : decode cX8_ofUnit 14 = .ok (.ireturn, 1) := by decide +kernel
theorem dX8_setUnit_0 : decode cX8_setUnit 0 = .ok (.aload_n 0, 1) := by decide +kernel
theorem dX8_setUnit_1 : decode cX8_setUnit 1 = .ok (.getfield 7, 3) := by decide +kernel
theorem dX8_setUnit_4 : decode cX8_setUnit 4 = .ok (.bipush 73, 2) := by decide +kernel
theorem dX8_setUnit_6 : decode cX8_setUnit 6 = .ok (.bipush 12, 2) := by decide +kernel
theorem dX8_setUnit_8 : decode cX8_setUnit 8 = .ok (.iload_n 1, 1) := by decide +kernel
theorem dX8_setUnit_9 : decode cX8_setUnit 9 = .ok (.imul, 1) := by decide +kernel
theorem dX8_setUnit_10 : decode cX8_setUnit 10 = .ok (.iadd, 1) := by decide +kernel
theorem dX8_setUnit_11 : decode cX8_setUnit 11 = .ok (.iload_n 2, 1) := by decide +kernel
theorem dX8_setUnit_12 : decode cX8_setUnit 12 = .ok (.iadd, 1) := by decide +kernel
theorem dX8_setUnit_13 : decode cX8_setUnit 13 = .ok (.iload_n 3, 1) := by decide +kernel
theorem dX8_setUnit_14 : decode cX8_setUnit 14 = .ok (.iastore, 1) := by decide +kernel
theorem dX8_setUnit_15 : decode cX8_setUnit 15 = .ok (.return_, 1) := by decide +kernel
theorem dX8_addTo_0 : decode cX8_addTo 0 = .ok (.aload_n 0, 1) := by decide +kernel
theorem dX8_addTo_1 : decode cX8_addTo 1 = .ok (.getfield 7, 3) := by decide +kernel
theorem dX8_addTo_4 : decode cX8_addTo 4 = .ok (.bipush 73, 2) := by decide +kernel
theorem dX8_addTo_6 : decode cX8_addTo 6 = .ok (.bipush 12, 2) := by decide +kernel
theorem dX8_addTo_8 : decode cX8_addTo 8 = .ok (.iload_n 1, 1) := by decide +kernel
theorem dX8_addTo_9 : decode cX8_addTo 9 = .ok (.imul, 1) := by decide +kernel
theorem dX8_addTo_10 : decode cX8_addTo 10 = .ok (.iadd, 1) := by decide +kernel
theorem dX8_addTo_11 : decode cX8_addTo 11 = .ok (.iload_n 2, 1) := by decide +kernel
theorem dX8_addTo_12 : decode cX8_addTo 12 = .ok (.iadd, 1) := by decide +kernel
theorem dX8_addTo_13 : decode cX8_addTo 13 = .ok (.dup2, 1) := by decide +kernel
theorem dX8_addTo_14 : decode cX8_addTo 14 = .ok (.iaload, 1) := by decide +kernel
theorem dX8_addTo_15 : decode cX8_addTo 15 = .ok (.iload_n 3, 1) := by decide +kernel
theorem dX8_addTo_16 : decode cX8_addTo 16 = .ok (.iadd, 1) := by decide +kernel
theorem dX8_addTo_17 : decode cX8_addTo 17 = .ok (.iastore, 1) := by decide +kernel
theorem dX8_addTo_18 : decode cX8_addTo 18 = .ok (.return_, 1) := by decide +kernel
theorem dX8_works_0 : decode cX8_works 0 = .ok (.aload_n 0, 1) := by decide +kernel
theorem dX8_works_1 : decode cX8_works 1 = .ok (.iload_n 1, 1) := by decide +kernel
theorem dX8_works_2 : decode cX8_works 2 = .ok (.iconst 0, 1) := by decide +kernel
theorem dX8_works_3 : decode cX8_works 3 = .ok (.invokevirtual 93, 3) := by decide +kernel
theorem dX8_works_6 : decode cX8_works 6 = .ok (.ifCond .ne 7, 3) := by decide +kernel
theorem dX8_works_9 : decode cX8_works 9 = .ok (.iconst 1, 1) := by decide +kernel
theorem dX8_works_10 : decode cX8_works 10 = .ok (.goto 4, 3) := by decide +kernel
theorem dX8_works_13 : decode cX8_works 13 = .ok (.iconst 0, 1) := by decide +kernel
theorem dX8_works_14 : decode cX8_works 14 = .ok (.ireturn, 1) := by decide +kernel
theorem dX8_owedTo_0 : decode cX8_owedTo 0 = .ok (.aload_n 0, 1) := by decide +kernel
theorem dX8_owedTo_1 : decode cX8_owedTo 1 = .ok (.iload_n 1, 1) := by decide +kernel
theorem dX8_owedTo_2 : decode cX8_owedTo 2 = .ok (.bipush 6, 2) := by decide +kernel
theorem dX8_owedTo_4 : decode cX8_owedTo 4 = .ok (.invokevirtual 93, 3) := by decide +kernel
theorem dX8_owedTo_7 : decode cX8_owedTo 7 = .ok (.aload_n 0, 1) := by decide +kernel
theorem dX8_owedTo_8 : decode cX8_owedTo 8 = .ok (.iload_n 1, 1) := by decide +kernel
theorem dX8_owedTo_9 : decode cX8_owedTo 9 = .ok (.bipush 7, 2) := by decide +kernel
theorem dX8_owedTo_11 : decode cX8_owedTo 11 = .ok (.invokevirtual 93, 3) := by decide +kernel
theorem dX8_owedTo_14 : decode cX8_owedTo 14 = .ok (.iadd, 1) := by decide +kernel
theorem dX8_owedTo_15 : decode cX8_owedTo 15 = .ok (.ireturn, 1) := by decide +kernel
theorem dX8_putUnit_0 : decode cX8_putUnit 0 = .ok (.aload_n 0, 1) := by decide +kernel
theorem dX8_putUnit_1 : decode cX8_putUnit 1 = .ok (.getfield 7, 3) := by decide +kernel
theorem dX8_putUnit_4 : decode cX8_putUnit 4 = .ok (.bipush 9, 2) := by decide +kernel
theorem dX8_putUnit_6 : decode cX8_putUnit 6 = .ok (.iaload, 1) := by decide +kernel
theorem dX8_putUnit_7 : decode cX8_putUnit 7 = .ok (.istore 6, 2) := by decide +kernel
theorem dX8_putUnit_9 : decode cX8_putUnit 9 = .ok (.aload_n 0, 1) := by decide +kernel
theorem dX8_putUnit_10 : decode cX8_putUnit 10 = .ok (.getfield 7, 3) := by decide +kernel
theorem dX8_putUnit_13 : decode cX8_putUnit 13 = .ok (.bipush 9, 2) := by decide +kernel
theorem dX8_putUnit_15 : decode cX8_putUnit 15 = .ok (.dup2, 1) := by decide +kernel
theorem dX8_putUnit_16 : decode cX8_putUnit 16 = .ok (.iaload, 1) := by decide +kernel
theorem dX8_putUnit_17 : decode cX8_putUnit 17 = .ok (.iconst 1, 1) := by decide +kernel
theorem dX8_putUnit_18 : decode cX8_putUnit 18 = .ok (.iadd, 1) := by decide +kernel
theorem dX8_putUnit_19 : decode cX8_putUnit 19 = .ok (.iastore, 1) := by decide +kernel
theorem dX8_putUnit_20 : decode cX8_putUnit 20 = .ok (.iconst 0, 1) := by decide +kernel
theorem dX8_putUnit_21 : decode cX8_putUnit 21 = .ok (.istore 7, 2) := by decide +kernel
theorem dX8_putUnit_23 : decode cX8_putUnit 23 = .ok (.iload 7, 2) := by decide +kernel
theorem dX8_putUnit_25 : decode cX8_putUnit 25 = .ok (.bipush 12, 2) := by decide +kernel
theorem dX8_putUnit_27 : decode cX8_putUnit 27 = .ok (.if_icmp .ge 18, 3) := by decide +kernel
theorem dX8_putUnit_30 : decode cX8_putUnit 30 = .ok (.aload_n 0, 1) := by decide +kernel
theorem dX8_putUnit_31 : decode cX8_putUnit 31 = .ok (.iload 6, 2) := by decide +kernel
theorem dX8_putUnit_33 : decode cX8_putUnit 33 = .ok (.iload 7, 2) := by decide +kernel
theorem dX8_putUnit_35 : decode cX8_putUnit 35 = .ok (.iconst 0, 1) := by decide +kernel
theorem dX8_putUnit_36 : decode cX8_putUnit 36 = .ok (.invokevirtual 96, 3) := by decide +kernel
theorem dX8_putUnit_39 : decode cX8_putUnit 39 = .ok (.iinc 7 1, 3) := by decide +kernel
theorem dX8_putUnit_42 : decode cX8_putUnit 42 = .ok (.goto (-19), 3) := by decide +kernel
theorem dX8_putUnit_45 : decode cX8_putUnit 45 = .ok (.aload_n 0, 1) := by decide +kernel
theorem dX8_putUnit_46 : decode cX8_putUnit 46 = .ok (.iload 6, 2) := by decide +kernel
theorem dX8_putUnit_48 : decode cX8_putUnit 48 = .ok (.iconst 1, 1) := by decide +kernel
theorem dX8_putUnit_49 : decode cX8_putUnit 49 = .ok (.iload_n 1, 1) := by decide +kernel
theorem dX8_putUnit_50 : decode cX8_putUnit 50 = .ok (.invokevirtual 96, 3) := by decide +kernel
theorem dX8_putUnit_53 : decode cX8_putUnit 53 = .ok (.aload_n 0, 1) := by decide +kernel
theorem dX8_putUnit_54 : decode cX8_putUnit 54 = .ok (.iload 6, 2) := by decide +kernel
theorem dX8_putUnit_56 : decode cX8_putUnit 56 = .ok (.iconst 2, 1) := by decide +kernel
theorem dX8_putUnit_57 : decode cX8_putUnit 57 = .ok (.iload_n 2, 1) := by decide +kernel
theorem dX8_putUnit_58 : decode cX8_putUnit 58 = .ok (.invokevirtual 96, 3) := by decide +kernel
theorem dX8_putUnit_61 : decode cX8_putUnit 61 = .ok (.aload_n 0, 1) := by decide +kernel
theorem dX8_putUnit_62 : decode cX8_putUnit 62 = .ok (.iload 6, 2) := by decide +kernel
theorem dX8_putUnit_64 : decode cX8_putUnit 64 = .ok (.iconst 3, 1) := by decide +kernel
theorem dX8_putUnit_65 : decode cX8_putUnit 65 = .ok (.iload_n 3, 1) := by decide +kernel
theorem dX8_putUnit_66 : decode cX8_putUnit 66 = .ok (.invokevirtual 96, 3) := by decide +kernel
theorem dX8_putUnit_69 : decode cX8_putUnit 69 = .ok (.aload_n 0, 1) := by decide +kernel
theorem dX8_putUnit_70 : decode cX8_putUnit 70 = .ok (.iload 6, 2) := by decide +kernel
theorem dX8_putUnit_72 : decode cX8_putUnit 72 = .ok (.iconst 4, 1) := by decide +kernel
theorem dX8_putUnit_73 : decode cX8_putUnit 73 = .ok (.iload 4, 2) := by decide +kernel
theorem dX8_putUnit_75 : decode cX8_putUnit 75 = .ok (.invokevirtual 96, 3) := by decide +kernel
theorem dX8_putUnit_78 : decode cX8_putUnit 78 = .ok (.aload_n 0, 1) := by decide +kernel
theorem dX8_putUnit_79 : decode cX8_putUnit 79 = .ok (.iload 6, 2) := by decide +kernel
theorem dX8_putUnit_81 : decode cX8_putUnit 81 = .ok (.iconst 5, 1) := by decide +kernel
theorem dX8_putUnit_82 : decode cX8_putUnit 82 = .ok (.iload 5, 2) := by decide +kernel
theorem dX8_putUnit_84 : decode cX8_putUnit 84 = .ok (.invokevirtual 96, 3) := by decide +kernel
theorem dX8_putUnit_87 : decode cX8_putUnit 87 = .ok (.aload_n 0, 1) := by decide +kernel
theorem dX8_putUnit_88 : decode cX8_putUnit 88 = .ok (.iload 6, 2) := by decide +kernel
theorem dX8_putUnit_90 : decode cX8_putUnit 90 = .ok (.bipush 8, 2) := by decide +kernel
theorem dX8_putUnit_92 : decode cX8_putUnit 92 = .ok (.iconst (-1), 1) := by decide +kernel
theorem dX8_putUnit_93 : decode cX8_putUnit 93 = .ok (.invokevirtual 96, 3) := by decide +kernel
theorem dX8_putUnit_96 : decode cX8_putUnit 96 = .ok (.iload 6, 2) := by decide +kernel
theorem dX8_putUnit_98 : decode cX8_putUnit 98 = .ok (.ireturn, 1) := by decide +kernel
theorem dX8_refusedUnit_0 : decode cX8_refusedUnit 0 = .ok (.iload_n 2, 1) := by decide +kernel
theorem dX8_refusedUnit_1 : decode cX8_refusedUnit 1 = .ok (.iconst 1, 1) := by decide +kernel
theorem dX8_refusedUnit_2 : decode cX8_refusedUnit 2 = .ok (.sipush 300, 3) := by decide +kernel
theorem dX8_refusedUnit_5 : decode cX8_refusedUnit 5 = .ok (.invokestatic 32, 3) := by decide +kernel
theorem dX8_refusedUnit_8 : decode cX8_refusedUnit 8 = .ok (.ifCond .eq 41, 3) := by decide +kernel
theorem dX8_refusedUnit_11 : decode cX8_refusedUnit 11 = .ok (.iload_n 3, 1) := by decide +kernel
theorem dX8_refusedUnit_12 : decode cX8_refusedUnit 12 = .ok (.iconst 0, 1) := by decide +kernel
theorem dX8_refusedUnit_13 : decode cX8_refusedUnit 13 = .ok (.iload_n 2, 1) := by decide +kernel
theorem dX8_refusedUnit_14 : decode cX8_refusedUnit 14 = .ok (.invokestatic 32, 3) := by decide +kernel
theorem dX8_refusedUnit_17 : decode cX8_refusedUnit 17 = .ok (.ifCond .eq 32, 3) := by decide +kernel
theorem dX8_refusedUnit_20 : decode cX8_refusedUnit 20 = .ok (.iload 4, 2) := by decide +kernel
theorem dX8_refusedUnit_22 : decode cX8_refusedUnit 22 = .ok (.iconst 1, 1) := by decide +kernel
theorem dX8_refusedUnit_23 : decode cX8_refusedUnit 23 = .ok (.sipush 600, 3) := by decide +kernel
theorem dX8_refusedUnit_26 : decode cX8_refusedUnit 26 = .ok (.invokestatic 32, 3) := by decide +kernel
theorem dX8_refusedUnit_29 : decode cX8_refusedUnit 29 = .ok (.ifCond .eq 20, 3) := by decide +kernel
theorem dX8_refusedUnit_32 : decode cX8_refusedUnit 32 = .ok (.iload 5, 2) := by decide +kernel
theorem dX8_refusedUnit_34 : decode cX8_refusedUnit 34 = .ok (.bipush 30, 2) := by decide +kernel
theorem dX8_refusedUnit_36 : decode cX8_refusedUnit 36 = .ok (.sipush 600, 3) := by decide +kernel
theorem dX8_refusedUnit_39 : decode cX8_refusedUnit 39 = .ok (.invokestatic 32, 3) := by decide +kernel
theorem dX8_refusedUnit_42 : decode cX8_refusedUnit 42 = .ok (.ifCond .eq 7, 3) := by decide +kernel
theorem dX8_refusedUnit_45 : decode cX8_refusedUnit 45 = .ok (.iconst 1, 1) := by decide +kernel
theorem dX8_refusedUnit_46 : decode cX8_refusedUnit 46 = .ok (.goto 4, 3) := by decide +kernel
theorem dX8_refusedUnit_49 : decode cX8_refusedUnit 49 = .ok (.iconst 0, 1) := by decide +kernel
theorem dX8_refusedUnit_50 : decode cX8_refusedUnit 50 = .ok (.istore 6, 2) := by decide +kernel
theorem dX8_refusedUnit_52 : decode cX8_refusedUnit 52 = .ok (.aload_n 0, 1) := by decide +kernel
theorem dX8_refusedUnit_53 : decode cX8_refusedUnit 53 = .ok (.iload_n 1, 1) := by decide +kernel
theorem dX8_refusedUnit_54 : decode cX8_refusedUnit 54 = .ok (.invokevirtual 59, 3) := by decide +kernel
theorem dX8_refusedUnit_57 : decode cX8_refusedUnit 57 = .ok (.ifCond .ne 7, 3) := by decide +kernel
theorem dX8_refusedUnit_60 : decode cX8_refusedUnit 60 = .ok (.iconst 1, 1) := by decide +kernel
theorem dX8_refusedUnit_61 : decode cX8_refusedUnit 61 = .ok (.goto 29, 3) := by decide +kernel
theorem dX8_refusedUnit_64 : decode cX8_refusedUnit 64 = .ok (.iload 6, 2) := by decide +kernel
theorem dX8_refusedUnit_66 : decode cX8_refusedUnit 66 = .ok (.ifCond .ne 7, 3) := by decide +kernel
theorem dX8_refusedUnit_69 : decode cX8_refusedUnit 69 = .ok (.iconst 2, 1) := by decide +kernel
theorem dX8_refusedUnit_70 : decode cX8_refusedUnit 70 = .ok (.goto 20, 3) := by decide +kernel
theorem dX8_refusedUnit_73 : decode cX8_refusedUnit 73 = .ok (.aload_n 0, 1) := by decide +kernel
theorem dX8_refusedUnit_74 : decode cX8_refusedUnit 74 = .ok (.getfield 7, 3) := by decide +kernel
theorem dX8_refusedUnit_77 : decode cX8_refusedUnit 77 = .ok (.bipush 9, 2) := by decide +kernel
theorem dX8_refusedUnit_79 : decode cX8_refusedUnit 79 = .ok (.iaload, 1) := by decide +kernel
theorem dX8_refusedUnit_80 : decode cX8_refusedUnit 80 = .ok (.bipush 12, 2) := by decide +kernel
theorem dX8_refusedUnit_82 : decode cX8_refusedUnit 82 = .ok (.if_icmp .ne 7, 3) := by decide +kernel
theorem dX8_refusedUnit_85 : decode cX8_refusedUnit 85 = .ok (.iconst 3, 1) := by decide +kernel
theorem dX8_refusedUnit_86 : decode cX8_refusedUnit 86 = .ok (.goto 4, 3) := by decide +kernel
theorem dX8_refusedUnit_89 : decode cX8_refusedUnit 89 = .ok (.iconst 0, 1) := by decide +kernel
theorem dX8_refusedUnit_90 : decode cX8_refusedUnit 90 = .ok (.ireturn, 1) := by decide +kernel
theorem dX8_addUnit_0 : decode cX8_addUnit 0 = .ok (.aload_n 0, 1) := by decide +kernel
theorem dX8_addUnit_1 : decode cX8_addUnit 1 = .ok (.aload_n 0, 1) := by decide +kernel
theorem dX8_addUnit_2 : decode cX8_addUnit 2 = .ok (.iload_n 1, 1) := by decide +kernel
theorem dX8_addUnit_3 : decode cX8_addUnit 3 = .ok (.iload_n 2, 1) := by decide +kernel
theorem dX8_addUnit_4 : decode cX8_addUnit 4 = .ok (.iload_n 3, 1) := by decide +kernel
theorem dX8_addUnit_5 : decode cX8_addUnit 5 = .ok (.iload 4, 2) := by decide +kernel
theorem dX8_addUnit_7 : decode cX8_addUnit 7 = .ok (.iload 5, 2) := by decide +kernel
theorem dX8_addUnit_9 : decode cX8_addUnit 9 = .ok (.invokevirtual 100, 3) := by decide +kernel
theorem dX8_addUnit_12 : decode cX8_addUnit 12 = .ok (.putfield 25, 3) := by decide +kernel
theorem dX8_addUnit_15 : decode cX8_addUnit 15 = .ok (.aload_n 0, 1) := by decide +kernel
theorem dX8_addUnit_16 : decode cX8_addUnit 16 = .ok (.getfield 25, 3) := by decide +kernel
theorem dX8_addUnit_19 : decode cX8_addUnit 19 = .ok (.ifCond .le 5, 3) := by decide +kernel
theorem dX8_addUnit_22 : decode cX8_addUnit 22 = .ok (.iconst 0, 1) := by decide +kernel
theorem dX8_addUnit_23 : decode cX8_addUnit 23 = .ok (.ireturn, 1) := by decide +kernel
theorem dX8_addUnit_24 : decode cX8_addUnit 24 = .ok (.aload_n 0, 1) := by decide +kernel
theorem dX8_addUnit_25 : decode cX8_addUnit 25 = .ok (.invokevirtual 56, 3) := by decide +kernel
theorem dX8_addUnit_28 : decode cX8_addUnit 28 = .ok (.aload_n 0, 1) := by decide +kernel
theorem dX8_addUnit_29 : decode cX8_addUnit 29 = .ok (.iload_n 1, 1) := by decide +kernel
theorem dX8_addUnit_30 : decode cX8_addUnit 30 = .ok (.iload_n 2, 1) := by decide +kernel
theorem dX8_addUnit_31 : decode cX8_addUnit 31 = .ok (.iload_n 3, 1) := by decide +kernel
theorem dX8_addUnit_32 : decode cX8_addUnit 32 = .ok (.aload_n 0, 1) := by decide +kernel
theorem dX8_addUnit_33 : decode cX8_addUnit 33 = .ok (.getfield 7, 3) := by decide +kernel
theorem dX8_addUnit_36 : decode cX8_addUnit 36 = .ok (.bipush 10, 2) := by decide +kernel
theorem dX8_addUnit_38 : decode cX8_addUnit 38 = .ok (.iaload, 1) := by decide +kernel
theorem dX8_addUnit_39 : decode cX8_addUnit 39 = .ok (.iload 4, 2) := by decide +kernel
theorem dX8_addUnit_41 : decode cX8_addUnit 41 = .ok (.iadd, 1) := by decide +kernel
theorem dX8_addUnit_42 : decode cX8_addUnit 42 = .ok (.iload 5, 2) := by decide +kernel
theorem dX8_addUnit_44 : decode cX8_addUnit 44 = .ok (.invokevirtual 104, 3) := by decide +kernel
theorem dX8_addUnit_47 : decode cX8_addUnit 47 = .ok (.ireturn, 1) := by decide +kernel
theorem dX8_canSplit_0 : decode cX8_canSplit 0 = .ok (.aload_n 0, 1) := by decide +kernel
theorem dX8_canSplit_1 : decode cX8_canSplit 1 = .ok (.iload_n 1, 1) := by decide +kernel
theorem dX8_canSplit_2 : decode cX8_canSplit 2 = .ok (.iconst 2, 1) := by decide +kernel
theorem dX8_canSplit_3 : decode cX8_canSplit 3 = .ok (.invokevirtual 93, 3) := by decide +kernel
theorem dX8_canSplit_6 : decode cX8_canSplit 6 = .ok (.istore 4, 2) := by decide +kernel
theorem dX8_canSplit_8 : decode cX8_canSplit 8 = .ok (.aload_n 0, 1) := by decide +kernel
theorem dX8_canSplit_9 : decode cX8_canSplit 9 = .ok (.iload_n 1, 1) := by decide +kernel
theorem dX8_canSplit_10 : decode cX8_canSplit 10 = .ok (.iconst 3, 1) := by decide +kernel
theorem dX8_canSplit_11 : decode cX8_canSplit 11 = .ok (.invokevirtual 93, 3) := by decide +kernel
theorem dX8_canSplit_14 : decode cX8_canSplit 14 = .ok (.istore 5, 2) := by decide +kernel
theorem dX8_canSplit_16 : decode cX8_canSplit 16 = .ok (.aload_n 0, 1) := by decide +kernel
theorem dX8_canSplit_17 : decode cX8_canSplit 17 = .ok (.iload_n 1, 1) := by decide +kernel
theorem dX8_canSplit_18 : decode cX8_canSplit 18 = .ok (.invokevirtual 107, 3) := by decide +kernel
theorem dX8_canSplit_21 : decode cX8_canSplit 21 = .ok (.ifCond .eq 42, 3) := by decide +kernel
theorem dX8_canSplit_24 : decode cX8_canSplit 24 = .ok (.aload_n 0, 1) := by decide +kernel
theorem dX8_canSplit_25 : decode cX8_canSplit 25 = .ok (.getfield 7, 3) := by decide +kernel
theorem dX8_canSplit_28 : decode cX8_canSplit 28 = .ok (.bipush 9, 2) := by decide +kernel
theorem dX8_canSplit_30 : decode cX8_canSplit 30 = .ok (.iaload, 1) := by decide +kernel
theorem dX8_canSplit_31 : decode cX8_canSplit 31 = .ok (.bipush 12, 2) := by decide +kernel
theorem dX8_canSplit_33 : decode cX8_canSplit 33 = .ok (.if_icmp .ge 30, 3) := by decide +kernel
theorem dX8_canSplit_36 : decode cX8_canSplit 36 = .ok (.iload 4, 2) := by decide +kernel
theorem dX8_canSplit_38 : decode cX8_canSplit 38 = .ok (.iload_n 2, 1) := by decide +kernel
theorem dX8_canSplit_39 : decode cX8_canSplit 39 = .ok (.if_icmp .le 24, 3) := by decide +kernel
theorem dX8_canSplit_42 : decode cX8_canSplit 42 = .ok (.iload 5, 2) := by decide +kernel
theorem dX8_canSplit_44 : decode cX8_canSplit 44 = .ok (.iload_n 3, 1) := by decide +kernel
theorem dX8_canSplit_45 : decode cX8_canSplit 45 = .ok (.if_icmp .lt 18, 3) := by decide +kernel
theorem dX8_canSplit_48 : decode cX8_canSplit 48 = .ok (.iload 4, 2) := by decide +kernel
theorem dX8_canSplit_50 : decode cX8_canSplit 50 = .ok (.iload 5, 2) := by decide +kernel
theorem dX8_canSplit_52 : decode cX8_canSplit 52 = .ok (.isub, 1) := by decide +kernel
theorem dX8_canSplit_53 : decode cX8_canSplit 53 = .ok (.iload_n 2, 1) := by decide +kernel
theorem dX8_canSplit_54 : decode cX8_canSplit 54 = .ok (.iload_n 3, 1) := by decide +kernel
theorem dX8_canSplit_55 : decode cX8_canSplit 55 = .ok (.isub, 1) := by decide +kernel
theorem dX8_canSplit_56 : decode cX8_canSplit 56 = .ok (.if_icmp .lt 7, 3) := by decide +kernel
theorem dX8_canSplit_59 : decode cX8_canSplit 59 = .ok (.iconst 1, 1) := by decide +kernel
theorem dX8_canSplit_60 : decode cX8_canSplit 60 = .ok (.goto 4, 3) := by decide +kernel
theorem dX8_canSplit_63 : decode cX8_canSplit 63 = .ok (.iconst 0, 1) := by decide +kernel
theorem dX8_canSplit_64 : decode cX8_canSplit 64 = .ok (.ireturn, 1) := by decide +kernel
theorem dX8_split_0 : decode cX8_split 0 = .ok (.aload_n 0, 1) := by decide +kernel
theorem dX8_split_1 : decode cX8_split 1 = .ok (.aload_n 0, 1) := by decide +kernel
theorem dX8_split_2 : decode cX8_split 2 = .ok (.iload_n 1, 1) := by decide +kernel
theorem dX8_split_3 : decode cX8_split 3 = .ok (.invokevirtual 110, 3) := by decide +kernel
theorem dX8_split_6 : decode cX8_split 6 = .ok (.ifCond .ne 7, 3) := by decide +kernel
theorem dX8_split_9 : decode cX8_split 9 = .ok (.iconst 1, 1) := by decide +kernel
theorem dX8_split_10 : decode cX8_split 10 = .ok (.goto 42, 3) := by decide +kernel
theorem dX8_split_13 : decode cX8_split 13 = .ok (.iload_n 2, 1) := by decide +kernel
theorem dX8_split_14 : decode cX8_split 14 = .ok (.iconst 1, 1) := by decide +kernel
theorem dX8_split_15 : decode cX8_split 15 = .ok (.sipush 299, 3) := by decide +kernel
theorem dX8_split_18 : decode cX8_split 18 = .ok (.invokestatic 32, 3) := by decide +kernel
theorem dX8_split_21 : decode cX8_split 21 = .ok (.ifCond .eq 12, 3) := by decide +kernel
theorem dX8_split_24 : decode cX8_split 24 = .ok (.iload_n 3, 1) := by decide +kernel
theorem dX8_split_25 : decode cX8_split 25 = .ok (.iconst 0, 1) := by decide +kernel
theorem dX8_split_26 : decode cX8_split 26 = .ok (.iload_n 2, 1) := by decide +kernel
theorem dX8_split_27 : decode cX8_split 27 = .ok (.invokestatic 32, 3) := by decide +kernel
theorem dX8_split_30 : decode cX8_split 30 = .ok (.ifCond .ne 7, 3) := by decide +kernel
theorem dX8_split_33 : decode cX8_split 33 = .ok (.iconst 2, 1) := by decide +kernel
theorem dX8_split_34 : decode cX8_split 34 = .ok (.goto 18, 3) := by decide +kernel
theorem dX8_split_37 : decode cX8_split 37 = .ok (.aload_n 0, 1) := by decide +kernel
theorem dX8_split_38 : decode cX8_split 38 = .ok (.iload_n 1, 1) := by decide +kernel
theorem dX8_split_39 : decode cX8_split 39 = .ok (.iload_n 2, 1) := by decide +kernel
theorem dX8_split_40 : decode cX8_split 40 = .ok (.iload_n 3, 1) := by decide +kernel
theorem dX8_split_41 : decode cX8_split 41 = .ok (.invokevirtual 113, 3) := by decide +kernel
theorem dX8_split_44 : decode cX8_split 44 = .ok (.ifCond .eq 7, 3) := by decide +kernel
theorem dX8_split_47 : decode cX8_split 47 = .ok (.iconst 0, 1) := by decide +kernel
theorem dX8_split_48 : decode cX8_split 48 = .ok (.goto 4, 3) := by decide +kernel
theorem dX8_split_51 : decode cX8_split 51 = .ok (.iconst 3, 1) := by decide +kernel
theorem dX8_split_52 : decode cX8_split 52 = .ok (.putfield 25, 3) := by decide +kernel
theorem dX8_split_55 : decode cX8_split 55 = .ok (.aload_n 0, 1) := by decide +kernel
theorem dX8_split_56 : decode cX8_split 56 = .ok (.getfield 25, 3) := by decide +kernel
theorem dX8_split_59 : decode cX8_split 59 = .ok (.ifCond .le 5, 3) := by decide +kernel
theorem dX8_split_62 : decode cX8_split 62 = .ok (.iconst 0, 1) := by decide +kernel
theorem dX8_split_63 : decode cX8_split 63 = .ok (.ireturn, 1) := by decide +kernel
theorem dX8_split_64 : decode cX8_split 64 = .ok (.aload_n 0, 1) := by decide +kernel
theorem dX8_split_65 : decode cX8_split 65 = .ok (.invokevirtual 56, 3) := by decide +kernel
theorem dX8_split_68 : decode cX8_split 68 = .ok (.aload_n 0, 1) := by decide +kernel
theorem dX8_split_69 : decode cX8_split 69 = .ok (.iload_n 1, 1) := by decide +kernel
theorem dX8_split_70 : decode cX8_split 70 = .ok (.iconst 2, 1) := by decide +kernel
theorem dX8_split_71 : decode cX8_split 71 = .ok (.iload_n 2, 1) := by decide +kernel
theorem dX8_split_72 : decode cX8_split 72 = .ok (.ineg, 1) := by decide +kernel
theorem dX8_split_73 : decode cX8_split 73 = .ok (.invokevirtual 116, 3) := by decide +kernel
theorem dX8_split_76 : decode cX8_split 76 = .ok (.aload_n 0, 1) := by decide +kernel
theorem dX8_split_77 : decode cX8_split 77 = .ok (.iload_n 1, 1) := by decide +kernel
theorem dX8_split_78 : decode cX8_split 78 = .ok (.iconst 3, 1) := by decide +kernel
theorem dX8_split_79 : decode cX8_split 79 = .ok (.iload_n 3, 1) := by decide +kernel
theorem dX8_split_80 : decode cX8_split 80 = .ok (.ineg, 1) := by decide +kernel
theorem dX8_split_81 : decode cX8_split 81 = .ok (.invokevirtual 116, 3) := by decide +kernel
theorem dX8_split_84 : decode cX8_split 84 = .ok (.aload_n 0, 1) := by decide +kernel
theorem dX8_split_85 : decode cX8_split 85 = .ok (.aload_n 0, 1) := by decide +kernel
theorem dX8_split_86 : decode cX8_split 86 = .ok (.iload_n 1, 1) := by decide +kernel
theorem dX8_split_87 : decode cX8_split 87 = .ok (.iconst 1, 1) := by decide +kernel
theorem dX8_split_88 : decode cX8_split 88 = .ok (.invokevirtual 93, 3) := by decide +kernel
theorem dX8_split_91 : decode cX8_split 91 = .ok (.iload_n 2, 1) := by decide +kernel
theorem dX8_split_92 : decode cX8_split 92 = .ok (.iload_n 3, 1) := by decide +kernel
theorem dX8_split_93 : decode cX8_split 93 = .ok (.aload_n 0, 1) := by decide +kernel
theorem dX8_split_94 : decode cX8_split 94 = .ok (.iload_n 1, 1) := by decide +kernel
theorem dX8_split_95 : decode cX8_split 95 = .ok (.iconst 4, 1) := by decide +kernel
theorem dX8_split_96 : decode cX8_split 96 = .ok (.invokevirtual 93, 3) := by decide +kernel
theorem dX8_split_99 : decode cX8_split 99 = .ok (.aload_n 0, 1) := by decide +kernel
theorem dX8_split_100 : decode cX8_split 100 = .ok (.iload_n 1, 1) := by decide +kernel
theorem dX8_split_101 : decode cX8_split 101 = .ok (.iconst 5, 1) := by decide +kernel
theorem dX8_split_102 : decode cX8_split 102 = .ok (.invokevirtual 93, 3) := by decide +kernel
theorem dX8_split_105 : decode cX8_split 105 = .ok (.invokevirtual 104, 3) := by decide +kernel
theorem dX8_split_108 : decode cX8_split 108 = .ok (.ireturn, 1) := by decide +kernel
theorem dX8_canJoin_0 : decode cX8_canJoin 0 = .ok (.aload_n 0, 1) := by decide +kernel
theorem dX8_canJoin_1 : decode cX8_canJoin 1 = .ok (.iload_n 1, 1) := by decide +kernel
theorem dX8_canJoin_2 : decode cX8_canJoin 2 = .ok (.invokevirtual 107, 3) := by decide +kernel
theorem dX8_canJoin_5 : decode cX8_canJoin 5 = .ok (.ifCond .eq 49, 3) := by decide +kernel
theorem dX8_canJoin_8 : decode cX8_canJoin 8 = .ok (.aload_n 0, 1) := by decide +kernel
theorem dX8_canJoin_9 : decode cX8_canJoin 9 = .ok (.iload_n 2, 1) := by decide +kernel
theorem dX8_canJoin_10 : decode cX8_canJoin 10 = .ok (.invokevirtual 107, 3) := by decide +kernel
theorem dX8_canJoin_13 : decode cX8_canJoin 13 = .ok (.ifCond .eq 41, 3) := by decide +kernel
theorem dX8_canJoin_16 : decode cX8_canJoin 16 = .ok (.aload_n 0, 1) := by decide +kernel
theorem dX8_canJoin_17 : decode cX8_canJoin 17 = .ok (.iload_n 1, 1) := by decide +kernel
theorem dX8_canJoin_18 : decode cX8_canJoin 18 = .ok (.iconst 1, 1) := by decide +kernel
theorem dX8_canJoin_19 : decode cX8_canJoin 19 = .ok (.invokevirtual 93, 3) := by decide +kernel
theorem dX8_canJoin_22 : decode cX8_canJoin 22 = .ok (.aload_n 0, 1) := by decide +kernel
theorem dX8_canJoin_23 : decode cX8_canJoin 23 = .ok (.iload_n 2, 1) := by decide +kernel
theorem dX8_canJoin_24 : decode cX8_canJoin 24 = .ok (.iconst 1, 1) := by decide +kernel
theorem dX8_canJoin_25 : decode cX8_canJoin 25 = .ok (.invokevirtual 93, 3) := by decide +kernel
theorem dX8_canJoin_28 : decode cX8_canJoin 28 = .ok (.if_icmp .ne 26, 3) := by decide +kernel
theorem dX8_canJoin_31 : decode cX8_canJoin 31 = .ok (.aload_n 0, 1) := by decide +kernel
theorem dX8_canJoin_32 : decode cX8_canJoin 32 = .ok (.iload_n 1, 1) := by decide +kernel
theorem dX8_canJoin_33 : decode cX8_canJoin 33 = .ok (.iconst 2, 1) := by decide +kernel
theorem dX8_canJoin_34 : decode cX8_canJoin 34 = .ok (.invokevirtual 93, 3) := by decide +kernel
theorem dX8_canJoin_37 : decode cX8_canJoin 37 = .ok (.aload_n 0, 1) := by decide +kernel
theorem dX8_canJoin_38 : decode cX8_canJoin 38 = .ok (.iload_n 2, 1) := by decide +kernel
theorem dX8_canJoin_39 : decode cX8_canJoin 39 = .ok (.iconst 2, 1) := by decide +kernel
theorem dX8_canJoin_40 : decode cX8_canJoin 40 = .ok (.invokevirtual 93, 3) := by decide +kernel
theorem dX8_canJoin_43 : decode cX8_canJoin 43 = .ok (.iadd, 1) := by decide +kernel
theorem dX8_canJoin_44 : decode cX8_canJoin 44 = .ok (.sipush 300, 3) := by decide +kernel
theorem dX8_canJoin_47 : decode cX8_canJoin 47 = .ok (.if_icmp .gt 7, 3) := by decide +kernel
theorem dX8_canJoin_50 : decode cX8_canJoin 50 = .ok (.iconst 1, 1) := by decide +kernel
theorem dX8_canJoin_51 : decode cX8_canJoin 51 = .ok (.goto 4, 3) := by decide +kernel
theorem dX8_canJoin_54 : decode cX8_canJoin 54 = .ok (.iconst 0, 1) := by decide +kernel
theorem dX8_canJoin_55 : decode cX8_canJoin 55 = .ok (.ireturn, 1) := by decide +kernel
theorem dX8_join_0 : decode cX8_join 0 = .ok (.aload_n 0, 1) := by decide +kernel
theorem dX8_join_1 : decode cX8_join 1 = .ok (.aload_n 0, 1) := by decide +kernel
theorem dX8_join_2 : decode cX8_join 2 = .ok (.iload_n 1, 1) := by decide +kernel
theorem dX8_join_3 : decode cX8_join 3 = .ok (.invokevirtual 110, 3) := by decide +kernel
theorem dX8_join_6 : decode cX8_join 6 = .ok (.ifCond .eq 11, 3) := by decide +kernel
theorem dX8_join_9 : decode cX8_join 9 = .ok (.aload_n 0, 1) := by decide +kernel
theorem dX8_join_10 : decode cX8_join 10 = .ok (.iload_n 2, 1) := by decide +kernel
theorem dX8_join_11 : decode cX8_join 11 = .ok (.invokevirtual 110, 3) := by decide +kernel
theorem dX8_join_14 : decode cX8_join 14 = .ok (.ifCond .ne 7, 3) := by decide +kernel
theorem dX8_join_17 : decode cX8_join 17 = .ok (.iconst 1, 1) := by decide +kernel
theorem dX8_join_18 : decode cX8_join 18 = .ok (.goto 26, 3) := by decide +kernel
theorem dX8_join_21 : decode cX8_join 21 = .ok (.iload_n 1, 1) := by decide +kernel
theorem dX8_join_22 : decode cX8_join 22 = .ok (.iload_n 2, 1) := by decide +kernel
theorem dX8_join_23 : decode cX8_join 23 = .ok (.if_icmp .ne 7, 3) := by decide +kernel
theorem dX8_join_26 : decode cX8_join 26 = .ok (.iconst 2, 1) := by decide +kernel
theorem dX8_join_27 : decode cX8_join 27 = .ok (.goto 17, 3) := by decide +kernel
theorem dX8_join_30 : decode cX8_join 30 = .ok (.aload_n 0, 1) := by decide +kernel
theorem dX8_join_31 : decode cX8_join 31 = .ok (.iload_n 1, 1) := by decide +kernel
theorem dX8_join_32 : decode cX8_join 32 = .ok (.iload_n 2, 1) := by decide +kernel
theorem dX8_join_33 : decode cX8_join 33 = .ok (.invokevirtual 119, 3) := by decide +kernel
theorem dX8_join_36 : decode cX8_join 36 = .ok (.ifCond .eq 7, 3) := by decide +kernel
theorem dX8_join_39 : decode cX8_join 39 = .ok (.iconst 0, 1) := by decide +kernel
theorem dX8_join_40 : decode cX8_join 40 = .ok (.goto 4, 3) := by decide +kernel
theorem dX8_join_43 : decode cX8_join 43 = .ok (.iconst 3, 1) := by decide +kernel
theorem dX8_join_44 : decode cX8_join 44 = .ok (.putfield 25, 3) := by decide +kernel
theorem dX8_join_47 : decode cX8_join 47 = .ok (.aload_n 0, 1) := by decide +kernel
theorem dX8_join_48 : decode cX8_join 48 = .ok (.getfield 25, 3) := by decide +kernel
theorem dX8_join_51 : decode cX8_join 51 = .ok (.ifCond .le 5, 3) := by decide +kernel
theorem dX8_join_54 : decode cX8_join 54 = .ok (.iconst 0, 1) := by decide +kernel
theorem dX8_join_55 : decode cX8_join 55 = .ok (.ireturn, 1) := by decide +kernel
theorem dX8_join_56 : decode cX8_join 56 = .ok (.aload_n 0, 1) := by decide +kernel
theorem dX8_join_57 : decode cX8_join 57 = .ok (.invokevirtual 56, 3) := by decide +kernel
theorem dX8_join_60 : decode cX8_join 60 = .ok (.aload_n 0, 1) := by decide +kernel
theorem dX8_join_61 : decode cX8_join 61 = .ok (.iload_n 1, 1) := by decide +kernel
theorem dX8_join_62 : decode cX8_join 62 = .ok (.bipush 8, 2) := by decide +kernel
theorem dX8_join_64 : decode cX8_join 64 = .ok (.invokevirtual 93, 3) := by decide +kernel
theorem dX8_join_67 : decode cX8_join 67 = .ok (.istore_n 3, 1) := by decide +kernel
theorem dX8_join_68 : decode cX8_join 68 = .ok (.aload_n 0, 1) := by decide +kernel
theorem dX8_join_69 : decode cX8_join 69 = .ok (.iload_n 2, 1) := by decide +kernel
theorem dX8_join_70 : decode cX8_join 70 = .ok (.bipush 8, 2) := by decide +kernel
theorem dX8_join_72 : decode cX8_join 72 = .ok (.invokevirtual 93, 3) := by decide +kernel
theorem dX8_join_75 : decode cX8_join 75 = .ok (.istore 4, 2) := by decide +kernel
theorem dX8_join_77 : decode cX8_join 77 = .ok (.aload_n 0, 1) := by decide +kernel
theorem dX8_join_78 : decode cX8_join 78 = .ok (.iload_n 2, 1) := by decide +kernel
theorem dX8_join_79 : decode cX8_join 79 = .ok (.bipush 8, 2) := by decide +kernel
theorem dX8_join_81 : decode cX8_join 81 = .ok (.iload 4, 2) := by decide +kernel
theorem dX8_join_83 : decode cX8_join 83 = .ok (.iconst (-1), 1) := by decide +kernel
theorem dX8_join_84 : decode cX8_join 84 = .ok (.if_icmp .eq 14, 3) := by decide +kernel
theorem dX8_join_87 : decode cX8_join 87 = .ok (.iload_n 3, 1) := by decide +kernel
theorem dX8_join_88 : decode cX8_join 88 = .ok (.iconst (-1), 1) := by decide +kernel
theorem dX8_join_89 : decode cX8_join 89 = .ok (.if_icmp .eq 13, 3) := by decide +kernel
theorem dX8_join_92 : decode cX8_join 92 = .ok (.iload_n 3, 1) := by decide +kernel
theorem dX8_join_93 : decode cX8_join 93 = .ok (.iload 4, 2) := by decide +kernel
theorem dX8_join_95 : decode cX8_join 95 = .ok (.if_icmp .ge 7, 3) := by decide +kernel
theorem dX8_join_98 : decode cX8_join 98 = .ok (.iload_n 3, 1) := by decide +kernel
theorem dX8_join_99 : decode cX8_join 99 = .ok (.goto 5, 3) := by decide +kernel
theorem dX8_join_102 : decode cX8_join 102 = .ok (.iload 4, 2) := by decide +kernel
theorem dX8_join_104 : decode cX8_join 104 = .ok (.invokevirtual 96, 3) := by decide +kernel
theorem dX8_join_107 : decode cX8_join 107 = .ok (.aload_n 0, 1) := by decide +kernel
theorem dX8_join_108 : decode cX8_join 108 = .ok (.iload_n 2, 1) := by decide +kernel
theorem dX8_join_109 : decode cX8_join 109 = .ok (.iconst 2, 1) := by decide +kernel
theorem dX8_join_110 : decode cX8_join 110 = .ok (.aload_n 0, 1) := by decide +kernel
theorem dX8_join_111 : decode cX8_join 111 = .ok (.iload_n 1, 1) := by decide +kernel
theorem dX8_join_112 : decode cX8_join 112 = .ok (.iconst 2, 1) := by decide +kernel
theorem dX8_join_113 : decode cX8_join 113 = .ok (.invokevirtual 93, 3) := by decide +kernel
theorem dX8_join_116 : decode cX8_join 116 = .ok (.invokevirtual 116, 3) := by decide +kernel
theorem dX8_join_119 : decode cX8_join 119 = .ok (.aload_n 0, 1) := by decide +kernel
theorem dX8_join_120 : decode cX8_join 120 = .ok (.iload_n 2, 1) := by decide +kernel
theorem dX8_join_121 : decode cX8_join 121 = .ok (.iconst 3, 1) := by decide +kernel
theorem dX8_join_122 : decode cX8_join 122 = .ok (.aload_n 0, 1) := by decide +kernel
theorem dX8_join_123 : decode cX8_join 123 = .ok (.iload_n 1, 1) := by decide +kernel
theorem dX8_join_124 : decode cX8_join 124 = .ok (.iconst 3, 1) := by decide +kernel
theorem dX8_join_125 : decode cX8_join 125 = .ok (.invokevirtual 93, 3) := by decide +kernel
theorem dX8_join_128 : decode cX8_join 128 = .ok (.invokevirtual 116, 3) := by decide +kernel
theorem dX8_join_131 : decode cX8_join 131 = .ok (.aload_n 0, 1) := by decide +kernel
theorem dX8_join_132 : decode cX8_join 132 = .ok (.iload_n 2, 1) := by decide +kernel
theorem dX8_join_133 : decode cX8_join 133 = .ok (.bipush 6, 2) := by decide +kernel
theorem dX8_join_135 : decode cX8_join 135 = .ok (.aload_n 0, 1) := by decide +kernel
theorem dX8_join_136 : decode cX8_join 136 = .ok (.iload_n 1, 1) := by decide +kernel
theorem dX8_join_137 : decode cX8_join 137 = .ok (.bipush 6, 2) := by decide +kernel
theorem dX8_join_139 : decode cX8_join 139 = .ok (.invokevirtual 93, 3) := by decide +kernel
theorem dX8_join_142 : decode cX8_join 142 = .ok (.invokevirtual 116, 3) := by decide +kernel
theorem dX8_join_145 : decode cX8_join 145 = .ok (.aload_n 0, 1) := by decide +kernel
theorem dX8_join_146 : decode cX8_join 146 = .ok (.iload_n 2, 1) := by decide +kernel
theorem dX8_join_147 : decode cX8_join 147 = .ok (.bipush 7, 2) := by decide +kernel
theorem dX8_join_149 : decode cX8_join 149 = .ok (.aload_n 0, 1) := by decide +kernel
theorem dX8_join_150 : decode cX8_join 150 = .ok (.iload_n 1, 1) := by decide +kernel
theorem dX8_join_151 : decode cX8_join 151 = .ok (.bipush 7, 2) := by decide +kernel
theorem dX8_join_153 : decode cX8_join 153 = .ok (.invokevirtual 93, 3) := by decide +kernel
theorem dX8_join_156 : decode cX8_join 156 = .ok (.invokevirtual 116, 3) := by decide +kernel
theorem dX8_join_159 : decode cX8_join 159 = .ok (.aload_n 0, 1) := by decide +kernel
theorem dX8_join_160 : decode cX8_join 160 = .ok (.iload_n 1, 1) := by decide +kernel
theorem dX8_join_161 : decode cX8_join 161 = .ok (.iconst 0, 1) := by decide +kernel
theorem dX8_join_162 : decode cX8_join 162 = .ok (.iconst 2, 1) := by decide +kernel
theorem dX8_join_163 : decode cX8_join 163 = .ok (.invokevirtual 96, 3) := by decide +kernel
theorem dX8_join_166 : decode cX8_join 166 = .ok (.aload_n 0, 1) := by decide +kernel
theorem dX8_join_167 : decode cX8_join 167 = .ok (.iload_n 2, 1) := by decide +kernel
theorem dX8_join_168 : decode cX8_join 168 = .ok (.iconst 2, 1) := by decide +kernel
theorem dX8_join_169 : decode cX8_join 169 = .ok (.invokevirtual 93, 3) := by decide +kernel
theorem dX8_join_172 : decode cX8_join 172 = .ok (.ireturn, 1) := by decide +kernel
theorem dX8_move_0 : decode cX8_move 0 = .ok (.aload_n 0, 1) := by decide +kernel
theorem dX8_move_1 : decode cX8_move 1 = .ok (.aload_n 0, 1) := by decide +kernel
theorem dX8_move_2 : decode cX8_move 2 = .ok (.iload_n 1, 1) := by decide +kernel
theorem dX8_move_3 : decode cX8_move 3 = .ok (.invokevirtual 110, 3) := by decide +kernel
theorem dX8_move_6 : decode cX8_move 6 = .ok (.ifCond .eq 11, 3) := by decide +kernel
theorem dX8_move_9 : decode cX8_move 9 = .ok (.aload_n 0, 1) := by decide +kernel
theorem dX8_move_10 : decode cX8_move 10 = .ok (.iload_n 2, 1) := by decide +kernel
theorem dX8_move_11 : decode cX8_move 11 = .ok (.invokevirtual 59, 3) := by decide +kernel
theorem dX8_move_14 : decode cX8_move 14 = .ok (.ifCond .ne 7, 3) := by decide +kernel
theorem dX8_move_17 : decode cX8_move 17 = .ok (.iconst 1, 1) := by decide +kernel
theorem dX8_move_18 : decode cX8_move 18 = .ok (.goto 16, 3) := by decide +kernel
theorem dX8_move_21 : decode cX8_move 21 = .ok (.aload_n 0, 1) := by decide +kernel
theorem dX8_move_22 : decode cX8_move 22 = .ok (.iload_n 1, 1) := by decide +kernel
theorem dX8_move_23 : decode cX8_move 23 = .ok (.invokevirtual 107, 3) := by decide +kernel
theorem dX8_move_26 : decode cX8_move 26 = .ok (.ifCond .eq 7, 3) := by decide +kernel
theorem dX8_move_29 : decode cX8_move 29 = .ok (.iconst 0, 1) := by decide +kernel
theorem dX8_move_30 : decode cX8_move 30 = .ok (.goto 4, 3) := by decide +kernel
theorem dX8_move_33 : decode cX8_move 33 = .ok (.iconst 2, 1) := by decide +kernel
theorem dX8_move_34 : decode cX8_move 34 = .ok (.putfield 25, 3) := by decide +kernel
theorem dX8_move_37 : decode cX8_move 37 = .ok (.aload_n 0, 1) := by decide +kernel
theorem dX8_move_38 : decode cX8_move 38 = .ok (.getfield 25, 3) := by decide +kernel
theorem dX8_move_41 : decode cX8_move 41 = .ok (.ifCond .le 5, 3) := by decide +kernel
theorem dX8_move_44 : decode cX8_move 44 = .ok (.iconst 0, 1) := by decide +kernel
theorem dX8_move_45 : decode cX8_move 45 = .ok (.ireturn, 1) := by decide +kernel
theorem dX8_move_46 : decode cX8_move 46 = .ok (.aload_n 0, 1) := by decide +kernel
theorem dX8_move_47 : decode cX8_move 47 = .ok (.invokevirtual 56, 3) := by decide +kernel
theorem dX8_move_50 : decode cX8_move 50 = .ok (.aload_n 0, 1) := by decide +kernel
theorem dX8_move_51 : decode cX8_move 51 = .ok (.iload_n 1, 1) := by decide +kernel
theorem dX8_move_52 : decode cX8_move 52 = .ok (.iconst 1, 1) := by decide +kernel
theorem dX8_move_53 : decode cX8_move 53 = .ok (.invokevirtual 93, 3) := by decide +kernel
theorem dX8_move_56 : decode cX8_move 56 = .ok (.istore_n 3, 1) := by decide +kernel
theorem dX8_move_57 : decode cX8_move 57 = .ok (.aload_n 0, 1) := by decide +kernel
theorem dX8_move_58 : decode cX8_move 58 = .ok (.iload_n 1, 1) := by decide +kernel
theorem dX8_move_59 : decode cX8_move 59 = .ok (.iconst 1, 1) := by decide +kernel
theorem dX8_move_60 : decode cX8_move 60 = .ok (.iload_n 2, 1) := by decide +kernel
theorem dX8_move_61 : decode cX8_move 61 = .ok (.invokevirtual 96, 3) := by decide +kernel
theorem dX8_move_64 : decode cX8_move 64 = .ok (.iload_n 3, 1) := by decide +kernel
theorem dX8_move_65 : decode cX8_move 65 = .ok (.ireturn, 1) := by decide +kernel
theorem dX8_wrap_0 : decode cX8_wrap 0 = .ok (.aload_n 0, 1) := by decide +kernel
theorem dX8_wrap_1 : decode cX8_wrap 1 = .ok (.aload_n 0, 1) := by decide +kernel
theorem dX8_wrap_2 : decode cX8_wrap 2 = .ok (.iload_n 1, 1) := by decide +kernel
theorem dX8_wrap_3 : decode cX8_wrap 3 = .ok (.invokevirtual 110, 3) := by decide +kernel
theorem dX8_wrap_6 : decode cX8_wrap 6 = .ok (.ifCond .ne 7, 3) := by decide +kernel
theorem dX8_wrap_9 : decode cX8_wrap 9 = .ok (.iconst 1, 1) := by decide +kernel
theorem dX8_wrap_10 : decode cX8_wrap 10 = .ok (.goto 16, 3) := by decide +kernel
theorem dX8_wrap_13 : decode cX8_wrap 13 = .ok (.aload_n 0, 1) := by decide +kernel
theorem dX8_wrap_14 : decode cX8_wrap 14 = .ok (.iload_n 1, 1) := by decide +kernel
theorem dX8_wrap_15 : decode cX8_wrap 15 = .ok (.invokevirtual 107, 3) := by decide +kernel
theorem dX8_wrap_18 : decode cX8_wrap 18 = .ok (.ifCond .eq 7, 3) := by decide +kernel
theorem dX8_wrap_21 : decode cX8_wrap 21 = .ok (.iconst 0, 1) := by decide +kernel
theorem dX8_wrap_22 : decode cX8_wrap 22 = .ok (.goto 4, 3) := by decide +kernel
theorem dX8_wrap_25 : decode cX8_wrap 25 = .ok (.iconst 2, 1) := by decide +kernel
theorem dX8_wrap_26 : decode cX8_wrap 26 = .ok (.putfield 25, 3) := by decide +kernel
theorem dX8_wrap_29 : decode cX8_wrap 29 = .ok (.aload_n 0, 1) := by decide +kernel
theorem dX8_wrap_30 : decode cX8_wrap 30 = .ok (.getfield 25, 3) := by decide +kernel
theorem dX8_wrap_33 : decode cX8_wrap 33 = .ok (.ifCond .le 5, 3) := by decide +kernel
theorem dX8_wrap_36 : decode cX8_wrap 36 = .ok (.iconst 0, 1) := by decide +kernel
theorem dX8_wrap_37 : decode cX8_wrap 37 = .ok (.ireturn, 1) := by decide +kernel
theorem dX8_wrap_38 : decode cX8_wrap 38 = .ok (.aload_n 0, 1) := by decide +kernel
theorem dX8_wrap_39 : decode cX8_wrap 39 = .ok (.invokevirtual 56, 3) := by decide +kernel
theorem dX8_wrap_42 : decode cX8_wrap 42 = .ok (.aload_n 0, 1) := by decide +kernel
theorem dX8_wrap_43 : decode cX8_wrap 43 = .ok (.iload_n 1, 1) := by decide +kernel
theorem dX8_wrap_44 : decode cX8_wrap 44 = .ok (.invokevirtual 122, 3) := by decide +kernel
theorem dX8_wrap_47 : decode cX8_wrap 47 = .ok (.istore_n 2, 1) := by decide +kernel
theorem dX8_wrap_48 : decode cX8_wrap 48 = .ok (.aload_n 0, 1) := by decide +kernel
theorem dX8_wrap_49 : decode cX8_wrap 49 = .ok (.iload_n 1, 1) := by decide +kernel
theorem dX8_wrap_50 : decode cX8_wrap 50 = .ok (.iconst 0, 1) := by decide +kernel
theorem dX8_wrap_51 : decode cX8_wrap 51 = .ok (.iconst 1, 1) := by decide +kernel
theorem dX8_wrap_52 : decode cX8_wrap 52 = .ok (.invokevirtual 96, 3) := by decide +kernel
theorem dX8_wrap_55 : decode cX8_wrap 55 = .ok (.aload_n 0, 1) := by decide +kernel
theorem dX8_wrap_56 : decode cX8_wrap 56 = .ok (.iload_n 1, 1) := by decide +kernel
theorem dX8_wrap_57 : decode cX8_wrap 57 = .ok (.bipush 11, 2) := by decide +kernel
theorem dX8_wrap_59 : decode cX8_wrap 59 = .ok (.iload_n 2, 1) := by decide +kernel
theorem dX8_wrap_60 : decode cX8_wrap 60 = .ok (.invokevirtual 116, 3) := by decide +kernel
theorem dX8_wrap_63 : decode cX8_wrap 63 = .ok (.aload_n 0, 1) := by decide +kernel
theorem dX8_wrap_64 : decode cX8_wrap 64 = .ok (.getfield 7, 3) := by decide +kernel
theorem dX8_wrap_67 : decode cX8_wrap 67 = .ok (.bipush 15, 2) := by decide +kernel
theorem dX8_wrap_69 : decode cX8_wrap 69 = .ok (.dup2, 1) := by decide +kernel
theorem dX8_wrap_70 : decode cX8_wrap 70 = .ok (.iaload, 1) := by decide +kernel
theorem dX8_wrap_71 : decode cX8_wrap 71 = .ok (.iload_n 2, 1) := by decide +kernel
theorem dX8_wrap_72 : decode cX8_wrap 72 = .ok (.iadd, 1) := by decide +kernel
theorem dX8_wrap_73 : decode cX8_wrap 73 = .ok (.iastore, 1) := by decide +kernel
theorem dX8_wrap_74 : decode cX8_wrap 74 = .ok (.iload_n 2, 1) := by decide +kernel
theorem dX8_wrap_75 : decode cX8_wrap 75 = .ok (.ireturn, 1) := by decide +kernel
theorem dX8_moveLorries_0 : decode cX8_moveLorries 0 = .ok (.iconst 0, 1) := by decide +kernel
theorem dX8_moveLorries_1 : decode cX8_moveLorries 1 = .ok (.istore_n 1, 1) := by decide +kernel
theorem dX8_moveLorries_2 : decode cX8_moveLorries 2 = .ok (.iload_n 1, 1) := by decide +kernel
theorem dX8_moveLorries_3 : decode cX8_moveLorries 3 = .ok (.aload_n 0, 1) := by decide +kernel
theorem dX8_moveLorries_4 : decode cX8_moveLorries 4 = .ok (.getfield 7, 3) := by decide +kernel
theorem dX8_moveLorries_7 : decode cX8_moveLorries 7 = .ok (.bipush 8, 2) := by decide +kernel
theorem dX8_moveLorries_9 : decode cX8_moveLorries 9 = .ok (.iaload, 1) := by decide +kernel
theorem dX8_moveLorries_10 : decode cX8_moveLorries 10 = .ok (.if_icmp .ge 34, 3) := by decide +kernel
theorem dX8_moveLorries_13 : decode cX8_moveLorries 13 = .ok (.aload_n 0, 1) := by decide +kernel
theorem dX8_moveLorries_14 : decode cX8_moveLorries 14 = .ok (.getfield 7, 3) := by decide +kernel
theorem dX8_moveLorries_17 : decode cX8_moveLorries 17 = .ok (.bipush 61, 2) := by decide +kernel
theorem dX8_moveLorries_19 : decode cX8_moveLorries 19 = .ok (.iload_n 1, 1) := by decide +kernel
theorem dX8_moveLorries_20 : decode cX8_moveLorries 20 = .ok (.iadd, 1) := by decide +kernel
theorem dX8_moveLorries_21 : decode cX8_moveLorries 21 = .ok (.dup2, 1) := by decide +kernel
theorem dX8_moveLorries_22 : decode cX8_moveLorries 22 = .ok (.iaload, 1) := by decide +kernel
theorem dX8_moveLorries_23 : decode cX8_moveLorries 23 = .ok (.aload_n 0, 1) := by decide +kernel
theorem dX8_moveLorries_24 : decode cX8_moveLorries 24 = .ok (.iload_n 1, 1) := by decide +kernel
theorem dX8_moveLorries_25 : decode cX8_moveLorries 25 = .ok (.invokevirtual 48, 3) := by decide +kernel
theorem dX8_moveLorries_28 : decode cX8_moveLorries 28 = .ok (.ifCond .eq 7, 3) := by decide +kernel
theorem dX8_moveLorries_31 : decode cX8_moveLorries 31 = .ok (.iconst 0, 1) := by decide +kernel
theorem dX8_moveLorries_32 : decode cX8_moveLorries 32 = .ok (.goto 4, 3) := by decide +kernel
theorem dX8_moveLorries_35 : decode cX8_moveLorries 35 = .ok (.iconst 1, 1) := by decide +kernel
theorem dX8_moveLorries_36 : decode cX8_moveLorries 36 = .ok (.isub, 1) := by decide +kernel
theorem dX8_moveLorries_37 : decode cX8_moveLorries 37 = .ok (.iastore, 1) := by decide +kernel
theorem dX8_moveLorries_38 : decode cX8_moveLorries 38 = .ok (.iinc 1 1, 3) := by decide +kernel
theorem dX8_moveLorries_41 : decode cX8_moveLorries 41 = .ok (.goto (-39), 3) := by decide +kernel
theorem dX8_moveLorries_44 : decode cX8_moveLorries 44 = .ok (.return_, 1) := by decide +kernel
theorem dX8_clearMinute_0 : decode cX8_clearMinute 0 = .ok (.iconst 0, 1) := by decide +kernel
theorem dX8_clearMinute_1 : decode cX8_clearMinute 1 = .ok (.istore_n 1, 1) := by decide +kernel
theorem dX8_clearMinute_2 : decode cX8_clearMinute 2 = .ok (.iload_n 1, 1) := by decide +kernel
theorem dX8_clearMinute_3 : decode cX8_clearMinute 3 = .ok (.bipush 7, 2) := by decide +kernel
theorem dX8_clearMinute_5 : decode cX8_clearMinute 5 = .ok (.if_icmp .ge 40, 3) := by decide +kernel
theorem dX8_clearMinute_8 : decode cX8_clearMinute 8 = .ok (.iconst 0, 1) := by decide +kernel
theorem dX8_clearMinute_9 : decode cX8_clearMinute 9 = .ok (.istore_n 2, 1) := by decide +kernel
theorem dX8_clearMinute_10 : decode cX8_clearMinute 10 = .ok (.iload_n 2, 1) := by decide +kernel
theorem dX8_clearMinute_11 : decode cX8_clearMinute 11 = .ok (.iconst 3, 1) := by decide +kernel
theorem dX8_clearMinute_12 : decode cX8_clearMinute 12 = .ok (.if_icmp .ge 27, 3) := by decide +kernel
theorem dX8_clearMinute_15 : decode cX8_clearMinute 15 = .ok (.aload_n 0, 1) := by decide +kernel
theorem dX8_clearMinute_16 : decode cX8_clearMinute 16 = .ok (.getfield 7, 3) := by decide +kernel
theorem dX8_clearMinute_19 : decode cX8_clearMinute 19 = .ok (.iload_n 1, 1) := by decide +kernel
theorem dX8_clearMinute_20 : decode cX8_clearMinute 20 = .ok (.iload_n 2, 1) := by decide +kernel
theorem dX8_clearMinute_21 : decode cX8_clearMinute 21 = .ok (.aload_n 0, 1) := by decide +kernel
theorem dX8_clearMinute_22 : decode cX8_clearMinute 22 = .ok (.getfield 7, 3) := by decide +kernel
theorem dX8_clearMinute_25 : decode cX8_clearMinute 25 = .ok (.bipush 10, 2) := by decide +kernel
theorem dX8_clearMinute_27 : decode cX8_clearMinute 27 = .ok (.iaload, 1) := by decide +kernel
theorem dX8_clearMinute_28 : decode cX8_clearMinute 28 = .ok (.invokestatic 44, 3) := by decide +kernel
theorem dX8_clearMinute_31 : decode cX8_clearMinute 31 = .ok (.iconst 0, 1) := by decide +kernel
theorem dX8_clearMinute_32 : decode cX8_clearMinute 32 = .ok (.iastore, 1) := by decide +kernel
theorem dX8_clearMinute_33 : decode cX8_clearMinute 33 = .ok (.iinc 2 1, 3) := by decide +kernel
theorem dX8_clearMinute_36 : decode cX8_clearMinute 36 = .ok (.goto (-26), 3) := by decide +kernel
theorem dX8_clearMinute_39 : decode cX8_clearMinute 39 = .ok (.iinc 1 1, 3) := by decide +kernel
theorem dX8_clearMinute_42 : decode cX8_clearMinute 42 = .ok (.goto (-40), 3) := by decide +kernel
theorem dX8_clearMinute_45 : decode cX8_clearMinute 45 = .ok (.return_, 1) := by decide +kernel
theorem dX8_cookAll_0 : decode cX8_cookAll 0 = .ok (.iconst 0, 1) := by decide +kernel
theorem dX8_cookAll_1 : decode cX8_cookAll 1 = .ok (.istore_n 1, 1) := by decide +kernel
theorem dX8_cookAll_2 : decode cX8_cookAll 2 = .ok (.iload_n 1, 1) := by decide +kernel
theorem dX8_cookAll_3 : decode cX8_cookAll 3 = .ok (.aload_n 0, 1) := by decide +kernel
theorem dX8_cookAll_4 : decode cX8_cookAll 4 = .ok (.getfield 7, 3) := by decide +kernel
theorem dX8_cookAll_7 : decode cX8_cookAll 7 = .ok (.bipush 7, 2) := by decide +kernel
theorem dX8_cookAll_9 : decode cX8_cookAll 9 = .ok (.iaload, 1) := by decide +kernel
theorem dX8_cookAll_10 : decode cX8_cookAll 10 = .ok (.if_icmp .ge 112, 3) := by decide +kernel
theorem dX8_cookAll_13 : decode cX8_cookAll 13 = .ok (.aload_n 0, 1) := by decide +kernel
theorem dX8_cookAll_14 : decode cX8_cookAll 14 = .ok (.getfield 7, 3) := by decide +kernel
theorem dX8_cookAll_17 : decode cX8_cookAll 17 = .ok (.bipush 48, 2) := by decide +kernel
theorem dX8_cookAll_19 : decode cX8_cookAll 19 = .ok (.iload_n 1, 1) := by decide +kernel
theorem dX8_cookAll_20 : decode cX8_cookAll 20 = .ok (.iadd, 1) := by decide +kernel
theorem dX8_cookAll_21 : decode cX8_cookAll 21 = .ok (.iaload, 1) := by decide +kernel
theorem dX8_cookAll_22 : decode cX8_cookAll 22 = .ok (.aload_n 0, 1) := by decide +kernel
theorem dX8_cookAll_23 : decode cX8_cookAll 23 = .ok (.getfield 7, 3) := by decide +kernel
theorem dX8_cookAll_26 : decode cX8_cookAll 26 = .ok (.iconst 4, 1) := by decide +kernel
theorem dX8_cookAll_27 : decode cX8_cookAll 27 = .ok (.iaload, 1) := by decide +kernel
theorem dX8_cookAll_28 : decode cX8_cookAll 28 = .ok (.if_icmp .ge 15, 3) := by decide +kernel
theorem dX8_cookAll_31 : decode cX8_cookAll 31 = .ok (.aload_n 0, 1) := by decide +kernel
theorem dX8_cookAll_32 : decode cX8_cookAll 32 = .ok (.getfield 7, 3) := by decide +kernel
theorem dX8_cookAll_35 : decode cX8_cookAll 35 = .ok (.bipush 48, 2) := by decide +kernel
theorem dX8_cookAll_37 : decode cX8_cookAll 37 = .ok (.iload_n 1, 1) := by decide +kernel
theorem dX8_cookAll_38 : decode cX8_cookAll 38 = .ok (.iadd, 1) := by decide +kernel
theorem dX8_cookAll_39 : decode cX8_cookAll 39 = .ok (.iaload, 1) := by decide +kernel
theorem dX8_cookAll_40 : decode cX8_cookAll 40 = .ok (.goto 9, 3) := by decide +kernel
theorem dX8_cookAll_43 : decode cX8_cookAll 43 = .ok (.aload_n 0, 1) := by decide +kernel
theorem dX8_cookAll_44 : decode cX8_cookAll 44 = .ok (.getfield 7, 3) := by decide +kernel
theorem dX8_cookAll_47 : decode cX8_cookAll 47 = .ok (.iconst 4, 1) := by decide +kernel
theorem dX8_cookAll_48 : decode cX8_cookAll 48 = .ok (.iaload, 1) := by decide +kernel
theorem dX8_cookAll_49 : decode cX8_cookAll 49 = .ok (.istore_n 2, 1) := by decide +kernel
theorem dX8_cookAll_50 : decode cX8_cookAll 50 = .ok (.aload_n 0, 1) := by decide +kernel
theorem dX8_cookAll_51 : decode cX8_cookAll 51 = .ok (.getfield 7, 3) := by decide +kernel
theorem dX8_cookAll_54 : decode cX8_cookAll 54 = .ok (.iload_n 1, 1) := by decide +kernel
theorem dX8_cookAll_55 : decode cX8_cookAll 55 = .ok (.aload_n 0, 1) := by decide +kernel
theorem dX8_cookAll_56 : decode cX8_cookAll 56 = .ok (.getfield 7, 3) := by decide +kernel
theorem dX8_cookAll_59 : decode cX8_cookAll 59 = .ok (.bipush 45, 2) := by decide +kernel
theorem dX8_cookAll_61 : decode cX8_cookAll 61 = .ok (.iload_n 1, 1) := by decide +kernel
theorem dX8_cookAll_62 : decode cX8_cookAll 62 = .ok (.iadd, 1) := by decide +kernel
theorem dX8_cookAll_63 : decode cX8_cookAll 63 = .ok (.iaload, 1) := by decide +kernel
theorem dX8_cookAll_64 : decode cX8_cookAll 64 = .ok (.aload_n 0, 1) := by decide +kernel
theorem dX8_cookAll_65 : decode cX8_cookAll 65 = .ok (.getfield 7, 3) := by decide +kernel
theorem dX8_cookAll_68 : decode cX8_cookAll 68 = .ok (.bipush 10, 2) := by decide +kernel
theorem dX8_cookAll_70 : decode cX8_cookAll 70 = .ok (.iaload, 1) := by decide +kernel
theorem dX8_cookAll_71 : decode cX8_cookAll 71 = .ok (.invokestatic 44, 3) := by decide +kernel
theorem dX8_cookAll_74 : decode cX8_cookAll 74 = .ok (.dup2, 1) := by decide +kernel
theorem dX8_cookAll_75 : decode cX8_cookAll 75 = .ok (.iaload, 1) := by decide +kernel
theorem dX8_cookAll_76 : decode cX8_cookAll 76 = .ok (.iload_n 2, 1) := by decide +kernel
theorem dX8_cookAll_77 : decode cX8_cookAll 77 = .ok (.iadd, 1) := by decide +kernel
theorem dX8_cookAll_78 : decode cX8_cookAll 78 = .ok (.iastore, 1) := by decide +kernel
theorem dX8_cookAll_79 : decode cX8_cookAll 79 = .ok (.aload_n 0, 1) := by decide +kernel
theorem dX8_cookAll_80 : decode cX8_cookAll 80 = .ok (.getfield 7, 3) := by decide +kernel
theorem dX8_cookAll_83 : decode cX8_cookAll 83 = .ok (.bipush 48, 2) := by decide +kernel
theorem dX8_cookAll_85 : decode cX8_cookAll 85 = .ok (.iload_n 1, 1) := by decide +kernel
theorem dX8_cookAll_86 : decode cX8_cookAll 86 = .ok (.iadd, 1) := by decide +kernel
theorem dX8_cookAll_87 : decode cX8_cookAll 87 = .ok (.dup2, 1) := by decide +kernel
theorem dX8_cookAll_88 : decode cX8_cookAll 88 = .ok (.iaload, 1) := by decide +kernel
theorem dX8_cookAll_89 : decode cX8_cookAll 89 = .ok (.iload_n 2, 1) := by decide +kernel
theorem dX8_cookAll_90 : decode cX8_cookAll 90 = .ok (.isub, 1) := by decide +kernel
theorem dX8_cookAll_91 : decode cX8_cookAll 91 = .ok (.iastore, 1) := by decide +kernel
theorem dX8_cookAll_92 : decode cX8_cookAll 92 = .ok (.aload_n 0, 1) := by decide +kernel
theorem dX8_cookAll_93 : decode cX8_cookAll 93 = .ok (.getfield 7, 3) := by decide +kernel
theorem dX8_cookAll_96 : decode cX8_cookAll 96 = .ok (.bipush 51, 2) := by decide +kernel
theorem dX8_cookAll_98 : decode cX8_cookAll 98 = .ok (.iload_n 1, 1) := by decide +kernel
theorem dX8_cookAll_99 : decode cX8_cookAll 99 = .ok (.iadd, 1) := by decide +kernel
theorem dX8_cookAll_100 : decode cX8_cookAll 100 = .ok (.dup2, 1) := by decide +kernel
theorem dX8_cookAll_101 : decode cX8_cookAll 101 = .ok (.iaload, 1) := by decide +kernel
theorem dX8_cookAll_102 : decode cX8_cookAll 102 = .ok (.iload_n 2, 1) := by decide +kernel
theorem dX8_cookAll_103 : decode cX8_cookAll 103 = .ok (.iadd, 1) := by decide +kernel
theorem dX8_cookAll_104 : decode cX8_cookAll 104 = .ok (.iastore, 1) := by decide +kernel
theorem dX8_cookAll_105 : decode cX8_cookAll 105 = .ok (.aload_n 0, 1) := by decide +kernel
theorem dX8_cookAll_106 : decode cX8_cookAll 106 = .ok (.getfield 7, 3) := by decide +kernel
theorem dX8_cookAll_109 : decode cX8_cookAll 109 = .ok (.bipush 11, 2) := by decide +kernel
theorem dX8_cookAll_111 : decode cX8_cookAll 111 = .ok (.dup2, 1) := by decide +kernel
theorem dX8_cookAll_112 : decode cX8_cookAll 112 = .ok (.iaload, 1) := by decide +kernel
theorem dX8_cookAll_113 : decode cX8_cookAll 113 = .ok (.iload_n 2, 1) := by decide +kernel
theorem dX8_cookAll_114 : decode cX8_cookAll 114 = .ok (.iadd, 1) := by decide +kernel
theorem dX8_cookAll_115 : decode cX8_cookAll 115 = .ok (.iastore, 1) := by decide +kernel
theorem dX8_cookAll_116 : decode cX8_cookAll 116 = .ok (.iinc 1 1, 3) := by decide +kernel
theorem dX8_cookAll_119 : decode cX8_cookAll 119 = .ok (.goto (-117), 3) := by decide +kernel
theorem dX8_cookAll_122 : decode cX8_cookAll 122 = .ok (.return_, 1) := by decide +kernel
theorem dX8_throwAway_0 : decode cX8_throwAway 0 = .ok (.iconst 0, 1) := by decide +kernel
theorem dX8_throwAway_1 : decode cX8_throwAway 1 = .ok (.istore_n 1, 1) := by decide +kernel
theorem dX8_throwAway_2 : decode cX8_throwAway 2 = .ok (.iload_n 1, 1) := by decide +kernel
theorem dX8_throwAway_3 : decode cX8_throwAway 3 = .ok (.bipush 7, 2) := by decide +kernel
theorem dX8_throwAway_5 : decode cX8_throwAway 5 = .ok (.if_icmp .ge 121, 3) := by decide +kernel
theorem dX8_throwAway_8 : decode cX8_throwAway 8 = .ok (.iconst 0, 1) := by decide +kernel
theorem dX8_throwAway_9 : decode cX8_throwAway 9 = .ok (.istore_n 2, 1) := by decide +kernel
theorem dX8_throwAway_10 : decode cX8_throwAway 10 = .ok (.aload_n 0, 1) := by decide +kernel
theorem dX8_throwAway_11 : decode cX8_throwAway 11 = .ok (.invokevirtual 40, 3) := by decide +kernel
theorem dX8_throwAway_14 : decode cX8_throwAway 14 = .ok (.istore_n 3, 1) := by decide +kernel
theorem dX8_throwAway_15 : decode cX8_throwAway 15 = .ok (.iload_n 3, 1) := by decide +kernel
theorem dX8_throwAway_16 : decode cX8_throwAway 16 = .ok (.aload_n 0, 1) := by decide +kernel
theorem dX8_throwAway_17 : decode cX8_throwAway 17 = .ok (.getfield 7, 3) := by decide +kernel
theorem dX8_throwAway_20 : decode cX8_throwAway 20 = .ok (.bipush 10, 2) := by decide +kernel
theorem dX8_throwAway_22 : decode cX8_throwAway 22 = .ok (.iaload, 1) := by decide +kernel
theorem dX8_throwAway_23 : decode cX8_throwAway 23 = .ok (.aload_n 0, 1) := by decide +kernel
theorem dX8_throwAway_24 : decode cX8_throwAway 24 = .ok (.getfield 7, 3) := by decide +kernel
theorem dX8_throwAway_27 : decode cX8_throwAway 27 = .ok (.iconst 3, 1) := by decide +kernel
theorem dX8_throwAway_28 : decode cX8_throwAway 28 = .ok (.iaload, 1) := by decide +kernel
theorem dX8_throwAway_29 : decode cX8_throwAway 29 = .ok (.isub, 1) := by decide +kernel
theorem dX8_throwAway_30 : decode cX8_throwAway 30 = .ok (.if_icmp .ge 52, 3) := by decide +kernel
theorem dX8_throwAway_33 : decode cX8_throwAway 33 = .ok (.iconst 0, 1) := by decide +kernel
theorem dX8_throwAway_34 : decode cX8_throwAway 34 = .ok (.istore 4, 2) := by decide +kernel
theorem dX8_throwAway_36 : decode cX8_throwAway 36 = .ok (.iload 4, 2) := by decide +kernel
theorem dX8_throwAway_38 : decode cX8_throwAway 38 = .ok (.iconst 3, 1) := by decide +kernel
theorem dX8_throwAway_39 : decode cX8_throwAway 39 = .ok (.if_icmp .ge 37, 3) := by decide +kernel
theorem dX8_throwAway_42 : decode cX8_throwAway 42 = .ok (.iload_n 2, 1) := by decide +kernel
theorem dX8_throwAway_43 : decode cX8_throwAway 43 = .ok (.aload_n 0, 1) := by decide +kernel
theorem dX8_throwAway_44 : decode cX8_throwAway 44 = .ok (.getfield 7, 3) := by decide +kernel
theorem dX8_throwAway_47 : decode cX8_throwAway 47 = .ok (.iload_n 1, 1) := by decide +kernel
theorem dX8_throwAway_48 : decode cX8_throwAway 48 = .ok (.iload 4, 2) := by decide +kernel
theorem dX8_throwAway_50 : decode cX8_throwAway 50 = .ok (.iload_n 3, 1) := by decide +kernel
theorem dX8_throwAway_51 : decode cX8_throwAway 51 = .ok (.invokestatic 44, 3) := by decide +kernel
theorem dX8_throwAway_54 : decode cX8_throwAway 54 = .ok (.iaload, 1) := by decide +kernel
theorem dX8_throwAway_55 : decode cX8_throwAway 55 = .ok (.iadd, 1) := by decide +kernel
theorem dX8_throwAway_56 : decode cX8_throwAway 56 = .ok (.istore_n 2, 1) := by decide +kernel
theorem dX8_throwAway_57 : decode cX8_throwAway 57 = .ok (.aload_n 0, 1) := by decide +kernel
theorem dX8_throwAway_58 : decode cX8_throwAway 58 = .ok (.getfield 7, 3) := by decide +kernel
theorem dX8_throwAway_61 : decode cX8_throwAway 61 = .ok (.iload_n 1, 1) := by decide +kernel
theorem dX8_throwAway_62 : decode cX8_throwAway 62 = .ok (.iload 4, 2) := by decide +kernel
theorem dX8_throwAway_64 : decode cX8_throwAway 64 = .ok (.iload_n 3, 1) := by decide +kernel
theorem dX8_throwAway_65 : decode cX8_throwAway 65 = .ok (.invokestatic 44, 3) := by decide +kernel
theorem dX8_throwAway_68 : decode cX8_throwAway 68 = .ok (.iconst 0, 1) := by decide +kernel
theorem dX8_throwAway_69 : decode cX8_throwAway 69 = .ok (.iastore, 1) := by decide +kernel
theorem dX8_throwAway_70 : decode cX8_throwAway 70 = .ok (.iinc 4 1, 3) := by decide +kernel
theorem dX8_throwAway_73 : decode cX8_throwAway 73 = .ok (.goto (-37), 3) := by decide +kernel
theorem dX8_throwAway_76 : decode cX8_throwAway 76 = .ok (.iinc 3 1, 3) := by decide +kernel
theorem dX8_throwAway_79 : decode cX8_throwAway 79 = .ok (.goto (-64), 3) := by decide +kernel
theorem dX8_throwAway_82 : decode cX8_throwAway 82 = .ok (.aload_n 0, 1) := by decide +kernel
theorem dX8_throwAway_83 : decode cX8_throwAway 83 = .ok (.getfield 7, 3) := by decide +kernel
theorem dX8_throwAway_86 : decode cX8_throwAway 86 = .ok (.iload_n 1, 1) := by decide +kernel
theorem dX8_throwAway_87 : decode cX8_throwAway 87 = .ok (.iconst 3, 1) := by decide +kernel
theorem dX8_throwAway_88 : decode cX8_throwAway 88 = .ok (.if_icmp .ge 10, 3) := by decide +kernel
theorem dX8_throwAway_91 : decode cX8_throwAway 91 = .ok (.bipush 54, 2) := by decide +kernel
theorem dX8_throwAway_93 : decode cX8_throwAway 93 = .ok (.iload_n 1, 1) := by decide +kernel
theorem dX8_throwAway_94 : decode cX8_throwAway 94 = .ok (.iadd, 1) := by decide +kernel
theorem dX8_throwAway_95 : decode cX8_throwAway 95 = .ok (.goto 9, 3) := by decide +kernel
theorem dX8_throwAway_98 : decode cX8_throwAway 98 = .ok (.bipush 69, 2) := by decide +kernel
theorem dX8_throwAway_100 : decode cX8_throwAway 100 = .ok (.iload_n 1, 1) := by decide +kernel
theorem dX8_throwAway_101 : decode cX8_throwAway 101 = .ok (.iadd, 1) := by decide +kernel
theorem dX8_throwAway_102 : decode cX8_throwAway 102 = .ok (.iconst 3, 1) := by decide +kernel
theorem dX8_throwAway_103 : decode cX8_throwAway 103 = .ok (.isub, 1) := by decide +kernel
theorem dX8_throwAway_104 : decode cX8_throwAway 104 = .ok (.dup2, 1) := by decide +kernel
theorem dX8_throwAway_105 : decode cX8_throwAway 105 = .ok (.iaload, 1) := by decide +kernel
theorem dX8_throwAway_106 : decode cX8_throwAway 106 = .ok (.iload_n 2, 1) := by decide +kernel
theorem dX8_throwAway_107 : decode cX8_throwAway 107 = .ok (.iadd, 1) := by decide +kernel
theorem dX8_throwAway_108 : decode cX8_throwAway 108 = .ok (.iastore, 1) := by decide +kernel
theorem dX8_throwAway_109 : decode cX8_throwAway 109 = .ok (.aload_n 0, 1) := by decide +kernel
theorem dX8_throwAway_110 : decode cX8_throwAway 110 = .ok (.getfield 7, 3) := by decide +kernel
theorem dX8_throwAway_113 : decode cX8_throwAway 113 = .ok (.bipush 13, 2) := by decide +kernel
theorem dX8_throwAway_115 : decode cX8_throwAway 115 = .ok (.dup2, 1) := by decide +kernel
theorem dX8_throwAway_116 : decode cX8_throwAway 116 = .ok (.iaload, 1) := by decide +kernel
theorem dX8_throwAway_117 : decode cX8_throwAway 117 = .ok (.iload_n 2, 1) := by decide +kernel
theorem dX8_throwAway_118 : decode cX8_throwAway 118 = .ok (.iadd, 1) := by decide +kernel
theorem dX8_throwAway_119 : decode cX8_throwAway 119 = .ok (.iastore, 1) := by decide +kernel
theorem dX8_throwAway_120 : decode cX8_throwAway 120 = .ok (.iinc 1 1, 3) := by decide +kernel
theorem dX8_throwAway_123 : decode cX8_throwAway 123 = .ok (.goto (-121), 3) := by decide +kernel
theorem dX8_throwAway_126 : decode cX8_throwAway 126 = .ok (.return_, 1) := by decide +kernel
theorem dX8_callAll_0 : decode cX8_callAll 0 = .ok (.iconst 0, 1) := by decide +kernel
theorem dX8_callAll_1 : decode cX8_callAll 1 = .ok (.istore_n 1, 1) := by decide +kernel
theorem dX8_callAll_2 : decode cX8_callAll 2 = .ok (.iload_n 1, 1) := by decide +kernel
theorem dX8_callAll_3 : decode cX8_callAll 3 = .ok (.aload_n 0, 1) := by decide +kernel
theorem dX8_callAll_4 : decode cX8_callAll 4 = .ok (.getfield 7, 3) := by decide +kernel
theorem dX8_callAll_7 : decode cX8_callAll 7 = .ok (.bipush 9, 2) := by decide +kernel
theorem dX8_callAll_9 : decode cX8_callAll 9 = .ok (.iaload, 1) := by decide +kernel
theorem dX8_callAll_10 : decode cX8_callAll 10 = .ok (.if_icmp .ge 126, 3) := by decide +kernel
theorem dX8_callAll_13 : decode cX8_callAll 13 = .ok (.aload_n 0, 1) := by decide +kernel
theorem dX8_callAll_14 : decode cX8_callAll 14 = .ok (.iload_n 1, 1) := by decide +kernel
theorem dX8_callAll_15 : decode cX8_callAll 15 = .ok (.invokevirtual 107, 3) := by decide +kernel
theorem dX8_callAll_18 : decode cX8_callAll 18 = .ok (.ifCond .eq 112, 3) := by decide +kernel
theorem dX8_callAll_21 : decode cX8_callAll 21 = .ok (.aload_n 0, 1) := by decide +kernel
theorem dX8_callAll_22 : decode cX8_callAll 22 = .ok (.iload_n 1, 1) := by decide +kernel
theorem dX8_callAll_23 : decode cX8_callAll 23 = .ok (.iconst 4, 1) := by decide +kernel
theorem dX8_callAll_24 : decode cX8_callAll 24 = .ok (.invokevirtual 93, 3) := by decide +kernel
theorem dX8_callAll_27 : decode cX8_callAll 27 = .ok (.aload_n 0, 1) := by decide +kernel
theorem dX8_callAll_28 : decode cX8_callAll 28 = .ok (.getfield 7, 3) := by decide +kernel
theorem dX8_callAll_31 : decode cX8_callAll 31 = .ok (.bipush 10, 2) := by decide +kernel
theorem dX8_callAll_33 : decode cX8_callAll 33 = .ok (.iaload, 1) := by decide +kernel
theorem dX8_callAll_34 : decode cX8_callAll 34 = .ok (.if_icmp .ne 96, 3) := by decide +kernel
theorem dX8_callAll_37 : decode cX8_callAll 37 = .ok (.aload_n 0, 1) := by decide +kernel
theorem dX8_callAll_38 : decode cX8_callAll 38 = .ok (.iload_n 1, 1) := by decide +kernel
theorem dX8_callAll_39 : decode cX8_callAll 39 = .ok (.bipush 8, 2) := by decide +kernel
theorem dX8_callAll_41 : decode cX8_callAll 41 = .ok (.aload_n 0, 1) := by decide +kernel
theorem dX8_callAll_42 : decode cX8_callAll 42 = .ok (.iload_n 1, 1) := by decide +kernel
theorem dX8_callAll_43 : decode cX8_callAll 43 = .ok (.invokevirtual 122, 3) := by decide +kernel
theorem dX8_callAll_46 : decode cX8_callAll 46 = .ok (.ifCond .ne 13, 3) := by decide +kernel
theorem dX8_callAll_49 : decode cX8_callAll 49 = .ok (.aload_n 0, 1) := by decide +kernel
theorem dX8_callAll_50 : decode cX8_callAll 50 = .ok (.getfield 7, 3) := by decide +kernel
theorem dX8_callAll_53 : decode cX8_callAll 53 = .ok (.bipush 10, 2) := by decide +kernel
theorem dX8_callAll_55 : decode cX8_callAll 55 = .ok (.iaload, 1) := by decide +kernel
theorem dX8_callAll_56 : decode cX8_callAll 56 = .ok (.goto 10, 3) := by decide +kernel
theorem dX8_callAll_59 : decode cX8_callAll 59 = .ok (.aload_n 0, 1) := by decide +kernel
theorem dX8_callAll_60 : decode cX8_callAll 60 = .ok (.iload_n 1, 1) := by decide +kernel
theorem dX8_callAll_61 : decode cX8_callAll 61 = .ok (.bipush 8, 2) := by decide +kernel
theorem dX8_callAll_63 : decode cX8_callAll 63 = .ok (.invokevirtual 93, 3) := by decide +kernel
theorem dX8_callAll_66 : decode cX8_callAll 66 = .ok (.invokevirtual 96, 3) := by decide +kernel
theorem dX8_callAll_69 : decode cX8_callAll 69 = .ok (.aload_n 0, 1) := by decide +kernel
theorem dX8_callAll_70 : decode cX8_callAll 70 = .ok (.iload_n 1, 1) := by decide +kernel
theorem dX8_callAll_71 : decode cX8_callAll 71 = .ok (.bipush 6, 2) := by decide +kernel
theorem dX8_callAll_73 : decode cX8_callAll 73 = .ok (.aload_n 0, 1) := by decide +kernel
theorem dX8_callAll_74 : decode cX8_callAll 74 = .ok (.iload_n 1, 1) := by decide +kernel
theorem dX8_callAll_75 : decode cX8_callAll 75 = .ok (.iconst 3, 1) := by decide +kernel
theorem dX8_callAll_76 : decode cX8_callAll 76 = .ok (.invokevirtual 93, 3) := by decide +kernel
theorem dX8_callAll_79 : decode cX8_callAll 79 = .ok (.invokevirtual 116, 3) := by decide +kernel
theorem dX8_callAll_82 : decode cX8_callAll 82 = .ok (.aload_n 0, 1) := by decide +kernel
theorem dX8_callAll_83 : decode cX8_callAll 83 = .ok (.iload_n 1, 1) := by decide +kernel
theorem dX8_callAll_84 : decode cX8_callAll 84 = .ok (.bipush 7, 2) := by decide +kernel
theorem dX8_callAll_86 : decode cX8_callAll 86 = .ok (.aload_n 0, 1) := by decide +kernel
theorem dX8_callAll_87 : decode cX8_callAll 87 = .ok (.iload_n 1, 1) := by decide +kernel
theorem dX8_callAll_88 : decode cX8_callAll 88 = .ok (.iconst 2, 1) := by decide +kernel
theorem dX8_callAll_89 : decode cX8_callAll 89 = .ok (.invokevirtual 93, 3) := by decide +kernel
theorem dX8_callAll_92 : decode cX8_callAll 92 = .ok (.aload_n 0, 1) := by decide +kernel
theorem dX8_callAll_93 : decode cX8_callAll 93 = .ok (.iload_n 1, 1) := by decide +kernel
theorem dX8_callAll_94 : decode cX8_callAll 94 = .ok (.iconst 3, 1) := by decide +kernel
theorem dX8_callAll_95 : decode cX8_callAll 95 = .ok (.invokevirtual 93, 3) := by decide +kernel
theorem dX8_callAll_98 : decode cX8_callAll 98 = .ok (.isub, 1) := by decide +kernel
theorem dX8_callAll_99 : decode cX8_callAll 99 = .ok (.invokevirtual 116, 3) := by decide +kernel
theorem dX8_callAll_102 : decode cX8_callAll 102 = .ok (.aload_n 0, 1) := by decide +kernel
theorem dX8_callAll_103 : decode cX8_callAll 103 = .ok (.iload_n 1, 1) := by decide +kernel
theorem dX8_callAll_104 : decode cX8_callAll 104 = .ok (.iconst 4, 1) := by decide +kernel
theorem dX8_callAll_105 : decode cX8_callAll 105 = .ok (.aload_n 0, 1) := by decide +kernel
theorem dX8_callAll_106 : decode cX8_callAll 106 = .ok (.iload_n 1, 1) := by decide +kernel
theorem dX8_callAll_107 : decode cX8_callAll 107 = .ok (.iconst 5, 1) := by decide +kernel
theorem dX8_callAll_108 : decode cX8_callAll 108 = .ok (.invokevirtual 93, 3) := by decide +kernel
theorem dX8_callAll_111 : decode cX8_callAll 111 = .ok (.invokevirtual 116, 3) := by decide +kernel
theorem dX8_callAll_114 : decode cX8_callAll 114 = .ok (.aload_n 0, 1) := by decide +kernel
theorem dX8_callAll_115 : decode cX8_callAll 115 = .ok (.getfield 7, 3) := by decide +kernel
theorem dX8_callAll_118 : decode cX8_callAll 118 = .ok (.bipush 14, 2) := by decide +kernel
theorem dX8_callAll_120 : decode cX8_callAll 120 = .ok (.dup2, 1) := by decide +kernel
theorem dX8_callAll_121 : decode cX8_callAll 121 = .ok (.iaload, 1) := by decide +kernel
theorem dX8_callAll_122 : decode cX8_callAll 122 = .ok (.aload_n 0, 1) := by decide +kernel
theorem dX8_callAll_123 : decode cX8_callAll 123 = .ok (.iload_n 1, 1) := by decide +kernel
theorem dX8_callAll_124 : decode cX8_callAll 124 = .ok (.iconst 2, 1) := by decide +kernel
theorem dX8_callAll_125 : decode cX8_callAll 125 = .ok (.invokevirtual 93, 3) := by decide +kernel
theorem dX8_callAll_128 : decode cX8_callAll 128 = .ok (.iadd, 1) := by decide +kernel
theorem dX8_callAll_129 : decode cX8_callAll 129 = .ok (.iastore, 1) := by decide +kernel
theorem dX8_callAll_130 : decode cX8_callAll 130 = .ok (.iinc 1 1, 3) := by decide +kernel
theorem dX8_callAll_133 : decode cX8_callAll 133 = .ok (.goto (-131), 3) := by decide +kernel
theorem dX8_callAll_136 : decode cX8_callAll 136 = .ok (.return_, 1) := by decide +kernel
theorem dX8_serve_0 : decode cX8_serve 0 = .ok (.aload_n 0, 1) := by decide +kernel
theorem dX8_serve_1 : decode cX8_serve 1 = .ok (.iload_n 1, 1) := by decide +kernel
theorem dX8_serve_2 : decode cX8_serve 2 = .ok (.iconst 1, 1) := by decide +kernel
theorem dX8_serve_3 : decode cX8_serve 3 = .ok (.invokevirtual 93, 3) := by decide +kernel
theorem dX8_serve_6 : decode cX8_serve 6 = .ok (.istore 4, 2) := by decide +kernel
theorem dX8_serve_8 : decode cX8_serve 8 = .ok (.iconst 0, 1) := by decide +kernel
theorem dX8_serve_9 : decode cX8_serve 9 = .ok (.istore 5, 2) := by decide +kernel
theorem dX8_serve_11 : decode cX8_serve 11 = .ok (.iload 5, 2) := by decide +kernel
theorem dX8_serve_13 : decode cX8_serve 13 = .ok (.bipush 7, 2) := by decide +kernel
theorem dX8_serve_15 : decode cX8_serve 15 = .ok (.if_icmp .ge 178, 3) := by decide +kernel
theorem dX8_serve_18 : decode cX8_serve 18 = .ok (.iload 5, 2) := by decide +kernel
theorem dX8_serve_20 : decode cX8_serve 20 = .ok (.iconst 4, 1) := by decide +kernel
theorem dX8_serve_21 : decode cX8_serve 21 = .ok (.if_icmp .ge 7, 3) := by decide +kernel
theorem dX8_serve_24 : decode cX8_serve 24 = .ok (.iconst 1, 1) := by decide +kernel
theorem dX8_serve_25 : decode cX8_serve 25 = .ok (.goto 4, 3) := by decide +kernel
theorem dX8_serve_28 : decode cX8_serve 28 = .ok (.iconst 0, 1) := by decide +kernel
theorem dX8_serve_29 : decode cX8_serve 29 = .ok (.istore 6, 2) := by decide +kernel
theorem dX8_serve_31 : decode cX8_serve 31 = .ok (.iload 6, 2) := by decide +kernel
theorem dX8_serve_33 : decode cX8_serve 33 = .ok (.ifCond .eq 10, 3) := by decide +kernel
theorem dX8_serve_36 : decode cX8_serve 36 = .ok (.iconst 3, 1) := by decide +kernel
theorem dX8_serve_37 : decode cX8_serve 37 = .ok (.iload 5, 2) := by decide +kernel
theorem dX8_serve_39 : decode cX8_serve 39 = .ok (.iadd, 1) := by decide +kernel
theorem dX8_serve_40 : decode cX8_serve 40 = .ok (.goto 7, 3) := by decide +kernel
theorem dX8_serve_43 : decode cX8_serve 43 = .ok (.iload 5, 2) := by decide +kernel
theorem dX8_serve_45 : decode cX8_serve 45 = .ok (.iconst 4, 1) := by decide +kernel
theorem dX8_serve_46 : decode cX8_serve 46 = .ok (.isub, 1) := by decide +kernel
theorem dX8_serve_47 : decode cX8_serve 47 = .ok (.istore 7, 2) := by decide +kernel
theorem dX8_serve_49 : decode cX8_serve 49 = .ok (.iload 6, 2) := by decide +kernel
theorem dX8_serve_51 : decode cX8_serve 51 = .ok (.ifCond .eq 31, 3) := by decide +kernel
theorem dX8_serve_54 : decode cX8_serve 54 = .ok (.aload_n 0, 1) := by decide +kernel
theorem dX8_serve_55 : decode cX8_serve 55 = .ok (.iload 5, 2) := by decide +kernel
theorem dX8_serve_57 : decode cX8_serve 57 = .ok (.invokevirtual 81, 3) := by decide +kernel
theorem dX8_serve_60 : decode cX8_serve 60 = .ok (.ifCond .eq 18, 3) := by decide +kernel
theorem dX8_serve_63 : decode cX8_serve 63 = .ok (.aload_n 0, 1) := by decide +kernel
theorem dX8_serve_64 : decode cX8_serve 64 = .ok (.iload 5, 2) := by decide +kernel
theorem dX8_serve_66 : decode cX8_serve 66 = .ok (.iload 4, 2) := by decide +kernel
theorem dX8_serve_68 : decode cX8_serve 68 = .ok (.invokevirtual 84, 3) := by decide +kernel
theorem dX8_serve_71 : decode cX8_serve 71 = .ok (.ifCond .eq 7, 3) := by decide +kernel
theorem dX8_serve_74 : decode cX8_serve 74 = .ok (.iconst 1, 1) := by decide +kernel
theorem dX8_serve_75 : decode cX8_serve 75 = .ok (.goto 36, 3) := by decide +kernel
theorem dX8_serve_78 : decode cX8_serve 78 = .ok (.iconst 0, 1) := by decide +kernel
theorem dX8_serve_79 : decode cX8_serve 79 = .ok (.goto 32, 3) := by decide +kernel
theorem dX8_serve_82 : decode cX8_serve 82 = .ok (.aload_n 0, 1) := by decide +kernel
theorem dX8_serve_83 : decode cX8_serve 83 = .ok (.iload 7, 2) := by decide +kernel
theorem dX8_serve_85 : decode cX8_serve 85 = .ok (.invokevirtual 69, 3) := by decide +kernel
theorem dX8_serve_88 : decode cX8_serve 88 = .ok (.ifCond .eq 22, 3) := by decide +kernel
theorem dX8_serve_91 : decode cX8_serve 91 = .ok (.aload_n 0, 1) := by decide +kernel
theorem dX8_serve_92 : decode cX8_serve 92 = .ok (.getfield 7, 3) := by decide +kernel
theorem dX8_serve_95 : decode cX8_serve 95 = .ok (.bipush 33, 2) := by decide +kernel
theorem dX8_serve_97 : decode cX8_serve 97 = .ok (.iload 7, 2) := by decide +kernel
theorem dX8_serve_99 : decode cX8_serve 99 = .ok (.iadd, 1) := by decide +kernel
theorem dX8_serve_100 : decode cX8_serve 100 = .ok (.iaload, 1) := by decide +kernel
theorem dX8_serve_101 : decode cX8_serve 101 = .ok (.iload 4, 2) := by decide +kernel
theorem dX8_serve_103 : decode cX8_serve 103 = .ok (.if_icmp .ne 7, 3) := by decide +kernel
theorem dX8_serve_106 : decode cX8_serve 106 = .ok (.iconst 1, 1) := by decide +kernel
theorem dX8_serve_107 : decode cX8_serve 107 = .ok (.goto 4, 3) := by decide +kernel
theorem dX8_serve_110 : decode cX8_serve 110 = .ok (.iconst 0, 1) := by decide +kernel
theorem dX8_serve_111 : decode cX8_serve 111 = .ok (.istore 8, 2) := by decide +kernel
theorem dX8_serve_113 : decode cX8_serve 113 = .ok (.iload 8, 2) := by decide +kernel
theorem dX8_serve_115 : decode cX8_serve 115 = .ok (.ifCond .eq 19, 3) := by decide +kernel
theorem dX8_serve_118 : decode cX8_serve 118 = .ok (.aload_n 0, 1) := by decide +kernel
theorem dX8_serve_119 : decode cX8_serve 119 = .ok (.iload 7, 2) := by decide +kernel
theorem dX8_serve_121 : decode cX8_serve 121 = .ok (.iload_n 3, 1) := by decide +kernel
theorem dX8_serve_122 : decode cX8_serve 122 = .ok (.aload_n 0, 1) := by decide +kernel
theorem dX8_serve_123 : decode cX8_serve 123 = .ok (.iload_n 1, 1) := by decide +kernel
theorem dX8_serve_124 : decode cX8_serve 124 = .ok (.iload_n 2, 1) := by decide +kernel
theorem dX8_serve_125 : decode cX8_serve 125 = .ok (.invokevirtual 93, 3) := by decide +kernel
theorem dX8_serve_128 : decode cX8_serve 128 = .ok (.invokevirtual 125, 3) := by decide +kernel
theorem dX8_serve_131 : decode cX8_serve 131 = .ok (.goto 4, 3) := by decide +kernel
theorem dX8_serve_134 : decode cX8_serve 134 = .ok (.iconst 0, 1) := by decide +kernel
theorem dX8_serve_135 : decode cX8_serve 135 = .ok (.istore 9, 2) := by decide +kernel
theorem dX8_serve_137 : decode cX8_serve 137 = .ok (.aload_n 0, 1) := by decide +kernel
theorem dX8_serve_138 : decode cX8_serve 138 = .ok (.iload_n 1, 1) := by decide +kernel
theorem dX8_serve_139 : decode cX8_serve 139 = .ok (.iload_n 2, 1) := by decide +kernel
theorem dX8_serve_140 : decode cX8_serve 140 = .ok (.iload 9, 2) := by decide +kernel
theorem dX8_serve_142 : decode cX8_serve 142 = .ok (.ineg, 1) := by decide +kernel
theorem dX8_serve_143 : decode cX8_serve 143 = .ok (.invokevirtual 116, 3) := by decide +kernel
theorem dX8_serve_146 : decode cX8_serve 146 = .ok (.aload_n 0, 1) := by decide +kernel
theorem dX8_serve_147 : decode cX8_serve 147 = .ok (.iload_n 1, 1) := by decide +kernel
theorem dX8_serve_148 : decode cX8_serve 148 = .ok (.bipush 9, 2) := by decide +kernel
theorem dX8_serve_150 : decode cX8_serve 150 = .ok (.iload 9, 2) := by decide +kernel
theorem dX8_serve_152 : decode cX8_serve 152 = .ok (.invokevirtual 116, 3) := by decide +kernel
theorem dX8_serve_155 : decode cX8_serve 155 = .ok (.aload_n 0, 1) := by decide +kernel
theorem dX8_serve_156 : decode cX8_serve 156 = .ok (.getfield 7, 3) := by decide +kernel
theorem dX8_serve_159 : decode cX8_serve 159 = .ok (.bipush 12, 2) := by decide +kernel
theorem dX8_serve_161 : decode cX8_serve 161 = .ok (.dup2, 1) := by decide +kernel
theorem dX8_serve_162 : decode cX8_serve 162 = .ok (.iaload, 1) := by decide +kernel
theorem dX8_serve_163 : decode cX8_serve 163 = .ok (.iload 9, 2) := by decide +kernel
theorem dX8_serve_165 : decode cX8_serve 165 = .ok (.iadd, 1) := by decide +kernel
theorem dX8_serve_166 : decode cX8_serve 166 = .ok (.iastore, 1) := by decide +kernel
theorem dX8_serve_167 : decode cX8_serve 167 = .ok (.iload 6, 2) := by decide +kernel
theorem dX8_serve_169 : decode cX8_serve 169 = .ok (.ifCond .eq 18, 3) := by decide +kernel
theorem dX8_serve_172 : decode cX8_serve 172 = .ok (.aload_n 0, 1) := by decide +kernel
theorem dX8_serve_173 : decode cX8_serve 173 = .ok (.getfield 7, 3) := by decide +kernel
theorem dX8_serve_176 : decode cX8_serve 176 = .ok (.bipush 65, 2) := by decide +kernel
theorem dX8_serve_178 : decode cX8_serve 178 = .ok (.iload 5, 2) := by decide +kernel
theorem dX8_serve_180 : decode cX8_serve 180 = .ok (.iadd, 1) := by decide +kernel
theorem dX8_serve_181 : decode cX8_serve 181 = .ok (.dup2, 1) := by decide +kernel
theorem dX8_serve_182 : decode cX8_serve 182 = .ok (.iaload, 1) := by decide +kernel
theorem dX8_serve_183 : decode cX8_serve 183 = .ok (.iload 9, 2) := by decide +kernel
theorem dX8_serve_185 : decode cX8_serve 185 = .ok (.iadd, 1) := by decide +kernel
theorem dX8_serve_186 : decode cX8_serve 186 = .ok (.iastore, 1) := by decide +kernel
theorem dX8_serve_187 : decode cX8_serve 187 = .ok (.iinc 5 1, 3) := by decide +kernel
theorem dX8_serve_190 : decode cX8_serve 190 = .ok (.goto (-179), 3) := by decide +kernel
theorem dX8_serve_193 : decode cX8_serve 193 = .ok (.return_, 1) := by decide +kernel
theorem dX8_serveAll_0 : decode cX8_serveAll 0 = .ok (.iconst 0, 1) := by decide +kernel
theorem dX8_serveAll_1 : decode cX8_serveAll 1 = .ok (.istore_n 1, 1) := by decide +kernel
theorem dX8_serveAll_2 : decode cX8_serveAll 2 = .ok (.iload_n 1, 1) := by decide +kernel
theorem dX8_serveAll_3 : decode cX8_serveAll 3 = .ok (.aload_n 0, 1) := by decide +kernel
theorem dX8_serveAll_4 : decode cX8_serveAll 4 = .ok (.getfield 7, 3) := by decide +kernel
theorem dX8_serveAll_7 : decode cX8_serveAll 7 = .ok (.bipush 9, 2) := by decide +kernel
theorem dX8_serveAll_9 : decode cX8_serveAll 9 = .ok (.iaload, 1) := by decide +kernel
theorem dX8_serveAll_10 : decode cX8_serveAll 10 = .ok (.if_icmp .ge 75, 3) := by decide +kernel
theorem dX8_serveAll_13 : decode cX8_serveAll 13 = .ok (.aload_n 0, 1) := by decide +kernel
theorem dX8_serveAll_14 : decode cX8_serveAll 14 = .ok (.iload_n 1, 1) := by decide +kernel
theorem dX8_serveAll_15 : decode cX8_serveAll 15 = .ok (.invokevirtual 107, 3) := by decide +kernel
theorem dX8_serveAll_18 : decode cX8_serveAll 18 = .ok (.ifCond .eq 61, 3) := by decide +kernel
theorem dX8_serveAll_21 : decode cX8_serveAll 21 = .ok (.aload_n 0, 1) := by decide +kernel
theorem dX8_serveAll_22 : decode cX8_serveAll 22 = .ok (.iload_n 1, 1) := by decide +kernel
theorem dX8_serveAll_23 : decode cX8_serveAll 23 = .ok (.invokevirtual 122, 3) := by decide +kernel
theorem dX8_serveAll_26 : decode cX8_serveAll 26 = .ok (.ifCond .le 53, 3) := by decide +kernel
theorem dX8_serveAll_29 : decode cX8_serveAll 29 = .ok (.aload_n 0, 1) := by decide +kernel
theorem dX8_serveAll_30 : decode cX8_serveAll 30 = .ok (.iload_n 1, 1) := by decide +kernel
theorem dX8_serveAll_31 : decode cX8_serveAll 31 = .ok (.bipush 6, 2) := by decide +kernel
theorem dX8_serveAll_33 : decode cX8_serveAll 33 = .ok (.iconst 5, 1) := by decide +kernel
theorem dX8_serveAll_34 : decode cX8_serveAll 34 = .ok (.invokevirtual 128, 3) := by decide +kernel
theorem dX8_serveAll_37 : decode cX8_serveAll 37 = .ok (.aload_n 0, 1) := by decide +kernel
theorem dX8_serveAll_38 : decode cX8_serveAll 38 = .ok (.iload_n 1, 1) := by decide +kernel
theorem dX8_serveAll_39 : decode cX8_serveAll 39 = .ok (.bipush 7, 2) := by decide +kernel
theorem dX8_serveAll_41 : decode cX8_serveAll 41 = .ok (.iconst 2, 1) := by decide +kernel
theorem dX8_serveAll_42 : decode cX8_serveAll 42 = .ok (.invokevirtual 128, 3) := by decide +kernel
theorem dX8_serveAll_45 : decode cX8_serveAll 45 = .ok (.aload_n 0, 1) := by decide +kernel
theorem dX8_serveAll_46 : decode cX8_serveAll 46 = .ok (.iload_n 1, 1) := by decide +kernel
theorem dX8_serveAll_47 : decode cX8_serveAll 47 = .ok (.bipush 7, 2) := by decide +kernel
theorem dX8_serveAll_49 : decode cX8_serveAll 49 = .ok (.iconst 5, 1) := by decide +kernel
theorem dX8_serveAll_50 : decode cX8_serveAll 50 = .ok (.invokevirtual 128, 3) := by decide +kernel
theorem dX8_serveAll_53 : decode cX8_serveAll 53 = .ok (.aload_n 0, 1) := by decide +kernel
theorem dX8_serveAll_54 : decode cX8_serveAll 54 = .ok (.iload_n 1, 1) := by decide +kernel
theorem dX8_serveAll_55 : decode cX8_serveAll 55 = .ok (.bipush 8, 2) := by decide +kernel
theorem dX8_serveAll_57 : decode cX8_serveAll 57 = .ok (.aload_n 0, 1) := by decide +kernel
theorem dX8_serveAll_58 : decode cX8_serveAll 58 = .ok (.iload_n 1, 1) := by decide +kernel
theorem dX8_serveAll_59 : decode cX8_serveAll 59 = .ok (.invokevirtual 122, 3) := by decide +kernel
theorem dX8_serveAll_62 : decode cX8_serveAll 62 = .ok (.ifCond .ne 7, 3) := by decide +kernel
theorem dX8_serveAll_65 : decode cX8_serveAll 65 = .ok (.iconst (-1), 1) := by decide +kernel
theorem dX8_serveAll_66 : decode cX8_serveAll 66 = .ok (.goto 10, 3) := by decide +kernel
theorem dX8_serveAll_69 : decode cX8_serveAll 69 = .ok (.aload_n 0, 1) := by decide +kernel
theorem dX8_serveAll_70 : decode cX8_serveAll 70 = .ok (.iload_n 1, 1) := by decide +kernel
theorem dX8_serveAll_71 : decode cX8_serveAll 71 = .ok (.bipush 8, 2) := by decide +kernel
theorem dX8_serveAll_73 : decode cX8_serveAll 73 = .ok (.invokevirtual 93, 3) := by decide +kernel
theorem dX8_serveAll_76 : decode cX8_serveAll 76 = .ok (.invokevirtual 96, 3) := by decide +kernel
theorem dX8_serveAll_79 : decode cX8_serveAll 79 = .ok (.iinc 1 1, 3) := by decide +kernel
theorem dX8_serveAll_82 : decode cX8_serveAll 82 = .ok (.goto (-80), 3) := by decide +kernel
theorem dX8_serveAll_85 : decode cX8_serveAll 85 = .ok (.return_, 1) := by decide +kernel
theorem dX8_fine_0 : decode cX8_fine 0 = .ok (.iconst 0, 1) := by decide +kernel
theorem dX8_fine_1 : decode cX8_fine 1 = .ok (.istore_n 1, 1) := by decide +kernel
theorem dX8_fine_2 : decode cX8_fine 2 = .ok (.iload_n 1, 1) := by decide +kernel
theorem dX8_fine_3 : decode cX8_fine 3 = .ok (.aload_n 0, 1) := by decide +kernel
theorem dX8_fine_4 : decode cX8_fine 4 = .ok (.getfield 7, 3) := by decide +kernel
theorem dX8_fine_7 : decode cX8_fine 7 = .ok (.bipush 9, 2) := by decide +kernel
theorem dX8_fine_9 : decode cX8_fine 9 = .ok (.iaload, 1) := by decide +kernel
theorem dX8_fine_10 : decode cX8_fine 10 = .ok (.if_icmp .ge 147, 3) := by decide +kernel
theorem dX8_fine_13 : decode cX8_fine 13 = .ok (.aload_n 0, 1) := by decide +kernel
theorem dX8_fine_14 : decode cX8_fine 14 = .ok (.iload_n 1, 1) := by decide +kernel
theorem dX8_fine_15 : decode cX8_fine 15 = .ok (.invokevirtual 107, 3) := by decide +kernel
theorem dX8_fine_18 : decode cX8_fine 18 = .ok (.ifCond .eq 133, 3) := by decide +kernel
theorem dX8_fine_21 : decode cX8_fine 21 = .ok (.aload_n 0, 1) := by decide +kernel
theorem dX8_fine_22 : decode cX8_fine 22 = .ok (.iload_n 1, 1) := by decide +kernel
theorem dX8_fine_23 : decode cX8_fine 23 = .ok (.invokevirtual 122, 3) := by decide +kernel
theorem dX8_fine_26 : decode cX8_fine 26 = .ok (.ifCond .le 125, 3) := by decide +kernel
theorem dX8_fine_29 : decode cX8_fine 29 = .ok (.aload_n 0, 1) := by decide +kernel
theorem dX8_fine_30 : decode cX8_fine 30 = .ok (.getfield 7, 3) := by decide +kernel
theorem dX8_fine_33 : decode cX8_fine 33 = .ok (.bipush 10, 2) := by decide +kernel
theorem dX8_fine_35 : decode cX8_fine 35 = .ok (.iaload, 1) := by decide +kernel
theorem dX8_fine_36 : decode cX8_fine 36 = .ok (.aload_n 0, 1) := by decide +kernel
theorem dX8_fine_37 : decode cX8_fine 37 = .ok (.iload_n 1, 1) := by decide +kernel
theorem dX8_fine_38 : decode cX8_fine 38 = .ok (.bipush 8, 2) := by decide +kernel
theorem dX8_fine_40 : decode cX8_fine 40 = .ok (.invokevirtual 93, 3) := by decide +kernel
theorem dX8_fine_43 : decode cX8_fine 43 = .ok (.isub, 1) := by decide +kernel
theorem dX8_fine_44 : decode cX8_fine 44 = .ok (.istore_n 2, 1) := by decide +kernel
theorem dX8_fine_45 : decode cX8_fine 45 = .ok (.aload_n 0, 1) := by decide +kernel
theorem dX8_fine_46 : decode cX8_fine 46 = .ok (.iload_n 2, 1) := by decide +kernel
theorem dX8_fine_47 : decode cX8_fine 47 = .ok (.aload_n 0, 1) := by decide +kernel
theorem dX8_fine_48 : decode cX8_fine 48 = .ok (.getfield 131, 3) := by decide +kernel
theorem dX8_fine_51 : decode cX8_fine 51 = .ok (.if_icmp .le 19, 3) := by decide +kernel
theorem dX8_fine_54 : decode cX8_fine 54 = .ok (.aload_n 0, 1) := by decide +kernel
theorem dX8_fine_55 : decode cX8_fine 55 = .ok (.getfield 134, 3) := by decide +kernel
theorem dX8_fine_58 : decode cX8_fine 58 = .ok (.iload_n 1, 1) := by decide +kernel
theorem dX8_fine_59 : decode cX8_fine 59 = .ok (.ishr, 1) := by decide +kernel
theorem dX8_fine_60 : decode cX8_fine 60 = .ok (.iconst 1, 1) := by decide +kernel
theorem dX8_fine_61 : decode cX8_fine 61 = .ok (.iand, 1) := by decide +kernel
theorem dX8_fine_62 : decode cX8_fine 62 = .ok (.iconst 1, 1) := by decide +kernel
theorem dX8_fine_63 : decode cX8_fine 63 = .ok (.if_icmp .ne 7, 3) := by decide +kernel
theorem dX8_fine_66 : decode cX8_fine 66 = .ok (.iload_n 2, 1) := by decide +kernel
theorem dX8_fine_67 : decode cX8_fine 67 = .ok (.goto 7, 3) := by decide +kernel
theorem dX8_fine_70 : decode cX8_fine 70 = .ok (.aload_n 0, 1) := by decide +kernel
theorem dX8_fine_71 : decode cX8_fine 71 = .ok (.getfield 131, 3) := by decide +kernel
theorem dX8_fine_74 : decode cX8_fine 74 = .ok (.putfield 131, 3) := by decide +kernel
theorem dX8_fine_77 : decode cX8_fine 77 = .ok (.ldc 137, 2) := by decide +kernel
theorem dX8_fine_79 : decode cX8_fine 79 = .ok (.aload_n 0, 1) := by decide +kernel
theorem dX8_fine_80 : decode cX8_fine 80 = .ok (.iload_n 1, 1) := by decide +kernel
theorem dX8_fine_81 : decode cX8_fine 81 = .ok (.bipush 10, 2) := by decide +kernel
theorem dX8_fine_83 : decode cX8_fine 83 = .ok (.invokevirtual 93, 3) := by decide +kernel
theorem dX8_fine_86 : decode cX8_fine 86 = .ok (.isub, 1) := by decide +kernel
theorem dX8_fine_87 : decode cX8_fine 87 = .ok (.istore_n 3, 1) := by decide +kernel
theorem dX8_fine_88 : decode cX8_fine 88 = .ok (.iload_n 2, 1) := by decide +kernel
theorem dX8_fine_89 : decode cX8_fine 89 = .ok (.aload_n 0, 1) := by decide +kernel
theorem dX8_fine_90 : decode cX8_fine 90 = .ok (.getfield 7, 3) := by decide +kernel
theorem dX8_fine_93 : decode cX8_fine 93 = .ok (.iconst 1, 1) := by decide +kernel
theorem dX8_fine_94 : decode cX8_fine 94 = .ok (.iaload, 1) := by decide +kernel
theorem dX8_fine_95 : decode cX8_fine 95 = .ok (.if_icmp .le 18, 3) := by decide +kernel
theorem dX8_fine_98 : decode cX8_fine 98 = .ok (.aload_n 0, 1) := by decide +kernel
theorem dX8_fine_99 : decode cX8_fine 99 = .ok (.iload_n 1, 1) := by decide +kernel
theorem dX8_fine_100 : decode cX8_fine 100 = .ok (.invokevirtual 122, 3) := by decide +kernel
theorem dX8_fine_103 : decode cX8_fine 103 = .ok (.aload_n 0, 1) := by decide +kernel
theorem dX8_fine_104 : decode cX8_fine 104 = .ok (.getfield 7, 3) := by decide +kernel
theorem dX8_fine_107 : decode cX8_fine 107 = .ok (.iconst 2, 1) := by decide +kernel
theorem dX8_fine_108 : decode cX8_fine 108 = .ok (.iaload, 1) := by decide +kernel
theorem dX8_fine_109 : decode cX8_fine 109 = .ok (.imul, 1) := by decide +kernel
theorem dX8_fine_110 : decode cX8_fine 110 = .ok (.goto 4, 3) := by decide +kernel
theorem dX8_fine_113 : decode cX8_fine 113 = .ok (.iconst 0, 1) := by decide +kernel
theorem dX8_fine_114 : decode cX8_fine 114 = .ok (.istore 4, 2) := by decide +kernel
theorem dX8_fine_116 : decode cX8_fine 116 = .ok (.iload 4, 2) := by decide +kernel
theorem dX8_fine_118 : decode cX8_fine 118 = .ok (.iload_n 3, 1) := by decide +kernel
theorem dX8_fine_119 : decode cX8_fine 119 = .ok (.if_icmp .le 7, 3) := by decide +kernel
theorem dX8_fine_122 : decode cX8_fine 122 = .ok (.iload_n 3, 1) := by decide +kernel
theorem dX8_fine_123 : decode cX8_fine 123 = .ok (.goto 5, 3) := by decide +kernel
theorem dX8_fine_126 : decode cX8_fine 126 = .ok (.iload 4, 2) := by decide +kernel
theorem dX8_fine_128 : decode cX8_fine 128 = .ok (.istore 4, 2) := by decide +kernel
theorem dX8_fine_130 : decode cX8_fine 130 = .ok (.aload_n 0, 1) := by decide +kernel
theorem dX8_fine_131 : decode cX8_fine 131 = .ok (.iload_n 1, 1) := by decide +kernel
theorem dX8_fine_132 : decode cX8_fine 132 = .ok (.bipush 10, 2) := by decide +kernel
theorem dX8_fine_134 : decode cX8_fine 134 = .ok (.iload 4, 2) := by decide +kernel
theorem dX8_fine_136 : decode cX8_fine 136 = .ok (.invokevirtual 116, 3) := by decide +kernel
theorem dX8_fine_139 : decode cX8_fine 139 = .ok (.aload_n 0, 1) := by decide +kernel
theorem dX8_fine_140 : decode cX8_fine 140 = .ok (.getfield 7, 3) := by decide +kernel
theorem dX8_fine_143 : decode cX8_fine 143 = .ok (.bipush 16, 2) := by decide +kernel
theorem dX8_fine_145 : decode cX8_fine 145 = .ok (.dup2, 1) := by decide +kernel
theorem dX8_fine_146 : decode cX8_fine 146 = .ok (.iaload, 1) := by decide +kernel
theorem dX8_fine_147 : decode cX8_fine 147 = .ok (.iload 4, 2) := by decide +kernel
theorem dX8_fine_149 : decode cX8_fine 149 = .ok (.iadd, 1) := by decide +kernel
theorem dX8_fine_150 : decode cX8_fine 150 = .ok (.iastore, 1) := by decide +kernel
theorem dX8_fine_151 : decode cX8_fine 151 = .ok (.iinc 1 1, 3) := by decide +kernel
theorem dX8_fine_154 : decode cX8_fine 154 = .ok (.goto (-152), 3) := by decide +kernel
theorem dX8_fine_157 : decode cX8_fine 157 = .ok (.return_, 1) := by decide +kernel
theorem dX8_minute_0 : decode cX8_minute 0 = .ok (.aload_n 0, 1) := by decide +kernel
theorem dX8_minute_1 : decode cX8_minute 1 = .ok (.getfield 7, 3) := by decide +kernel
theorem dX8_minute_4 : decode cX8_minute 4 = .ok (.bipush 10, 2) := by decide +kernel
theorem dX8_minute_6 : decode cX8_minute 6 = .ok (.dup2, 1) := by decide +kernel
theorem dX8_minute_7 : decode cX8_minute 7 = .ok (.iaload, 1) := by decide +kernel
theorem dX8_minute_8 : decode cX8_minute 8 = .ok (.iconst 1, 1) := by decide +kernel
theorem dX8_minute_9 : decode cX8_minute 9 = .ok (.iadd, 1) := by decide +kernel
theorem dX8_minute_10 : decode cX8_minute 10 = .ok (.iastore, 1) := by decide +kernel
theorem dX8_minute_11 : decode cX8_minute 11 = .ok (.aload_n 0, 1) := by decide +kernel
theorem dX8_minute_12 : decode cX8_minute 12 = .ok (.invokevirtual 138, 3) := by decide +kernel
theorem dX8_minute_15 : decode cX8_minute 15 = .ok (.aload_n 0, 1) := by decide +kernel
theorem dX8_minute_16 : decode cX8_minute 16 = .ok (.invokevirtual 141, 3) := by decide +kernel
theorem dX8_minute_19 : decode cX8_minute 19 = .ok (.aload_n 0, 1) := by decide +kernel
theorem dX8_minute_20 : decode cX8_minute 20 = .ok (.invokevirtual 144, 3) := by decide +kernel
theorem dX8_minute_23 : decode cX8_minute 23 = .ok (.aload_n 0, 1) := by decide +kernel
theorem dX8_minute_24 : decode cX8_minute 24 = .ok (.invokevirtual 147, 3) := by decide +kernel
theorem dX8_minute_27 : decode cX8_minute 27 = .ok (.aload_n 0, 1) := by decide +kernel
theorem dX8_minute_28 : decode cX8_minute 28 = .ok (.invokevirtual 150, 3) := by decide +kernel
theorem dX8_minute_31 : decode cX8_minute 31 = .ok (.aload_n 0, 1) := by decide +kernel
theorem dX8_minute_32 : decode cX8_minute 32 = .ok (.invokevirtual 153, 3) := by decide +kernel
theorem dX8_minute_35 : decode cX8_minute 35 = .ok (.aload_n 0, 1) := by decide +kernel
theorem dX8_minute_36 : decode cX8_minute 36 = .ok (.invokevirtual 156, 3) := by decide +kernel
theorem dX8_minute_39 : decode cX8_minute 39 = .ok (.return_, 1) := by decide +kernel
theorem dX8_go_0 : decode cX8_go 0 = .ok (.aload_n 0, 1) := by decide +kernel
theorem dX8_go_1 : decode cX8_go 1 = .ok (.getfield 7, 3) := by decide +kernel
theorem dX8_go_4 : decode cX8_go 4 = .ok (.bipush 12, 2) := by decide +kernel
theorem dX8_go_6 : decode cX8_go 6 = .ok (.iaload, 1) := by decide +kernel
theorem dX8_go_7 : decode cX8_go 7 = .ok (.istore_n 2, 1) := by decide +kernel
theorem dX8_go_8 : decode cX8_go 8 = .ok (.aload_n 0, 1) := by decide +kernel
theorem dX8_go_9 : decode cX8_go 9 = .ok (.iconst 0, 1) := by decide +kernel
theorem dX8_go_10 : decode cX8_go 10 = .ok (.putfield 131, 3) := by decide +kernel
theorem dX8_go_13 : decode cX8_go 13 = .ok (.aload_n 0, 1) := by decide +kernel
theorem dX8_go_14 : decode cX8_go 14 = .ok (.iconst 0, 1) := by decide +kernel
theorem dX8_go_15 : decode cX8_go 15 = .ok (.putfield 134, 3) := by decide +kernel
theorem dX8_go_18 : decode cX8_go 18 = .ok (.iconst 0, 1) := by decide +kernel
theorem dX8_go_19 : decode cX8_go 19 = .ok (.istore_n 3, 1) := by decide +kernel
theorem dX8_go_20 : decode cX8_go 20 = .ok (.iload_n 3, 1) := by decide +kernel
theorem dX8_go_21 : decode cX8_go 21 = .ok (.aload_n 0, 1) := by decide +kernel
theorem dX8_go_22 : decode cX8_go 22 = .ok (.getfield 7, 3) := by decide +kernel
theorem dX8_go_25 : decode cX8_go 25 = .ok (.bipush 9, 2) := by decide +kernel
theorem dX8_go_27 : decode cX8_go 27 = .ok (.iaload, 1) := by decide +kernel
theorem dX8_go_28 : decode cX8_go 28 = .ok (.if_icmp .ge 37, 3) := by decide +kernel
theorem dX8_go_31 : decode cX8_go 31 = .ok (.aload_n 0, 1) := by decide +kernel
theorem dX8_go_32 : decode cX8_go 32 = .ok (.dup, 1) := by decide +kernel
theorem dX8_go_33 : decode cX8_go 33 = .ok (.getfield 134, 3) := by decide +kernel
theorem dX8_go_36 : decode cX8_go 36 = .ok (.aload_n 0, 1) := by decide +kernel
theorem dX8_go_37 : decode cX8_go 37 = .ok (.iload_n 3, 1) := by decide +kernel
theorem dX8_go_38 : decode cX8_go 38 = .ok (.bipush 10, 2) := by decide +kernel
theorem dX8_go_40 : decode cX8_go 40 = .ok (.invokevirtual 93, 3) := by decide +kernel
theorem dX8_go_43 : decode cX8_go 43 = .ok (.ldc 137, 2) := by decide +kernel
theorem dX8_go_45 : decode cX8_go 45 = .ok (.if_icmp .ge 9, 3) := by decide +kernel
theorem dX8_go_48 : decode cX8_go 48 = .ok (.iconst 1, 1) := by decide +kernel
theorem dX8_go_49 : decode cX8_go 49 = .ok (.iload_n 3, 1) := by decide +kernel
theorem dX8_go_50 : decode cX8_go 50 = .ok (.ishl, 1) := by decide +kernel
theorem dX8_go_51 : decode cX8_go 51 = .ok (.goto 4, 3) := by decide +kernel
theorem dX8_go_54 : decode cX8_go 54 = .ok (.iconst 0, 1) := by decide +kernel
theorem dX8_go_55 : decode cX8_go 55 = .ok (.ior, 1) := by decide +kernel
theorem dX8_go_56 : decode cX8_go 56 = .ok (.putfield 134, 3) := by decide +kernel
theorem dX8_go_59 : decode cX8_go 59 = .ok (.iinc 3 1, 3) := by decide +kernel
theorem dX8_go_62 : decode cX8_go 62 = .ok (.goto (-42), 3) := by decide +kernel
theorem dX8_go_65 : decode cX8_go 65 = .ok (.iconst 0, 1) := by decide +kernel
theorem dX8_go_66 : decode cX8_go 66 = .ok (.istore_n 3, 1) := by decide +kernel
theorem dX8_go_67 : decode cX8_go 67 = .ok (.iload_n 3, 1) := by decide +kernel
theorem dX8_go_68 : decode cX8_go 68 = .ok (.iload_n 1, 1) := by decide +kernel
theorem dX8_go_69 : decode cX8_go 69 = .ok (.if_icmp .ge 13, 3) := by decide +kernel
theorem dX8_go_72 : decode cX8_go 72 = .ok (.aload_n 0, 1) := by decide +kernel
theorem dX8_go_73 : decode cX8_go 73 = .ok (.invokevirtual 159, 3) := by decide +kernel
theorem dX8_go_76 : decode cX8_go 76 = .ok (.iinc 3 1, 3) := by decide +kernel
theorem dX8_go_79 : decode cX8_go 79 = .ok (.goto (-12), 3) := by decide +kernel
theorem dX8_go_82 : decode cX8_go 82 = .ok (.aload_n 0, 1) := by decide +kernel
theorem dX8_go_83 : decode cX8_go 83 = .ok (.getfield 7, 3) := by decide +kernel
theorem dX8_go_86 : decode cX8_go 86 = .ok (.bipush 12, 2) := by decide +kernel
theorem dX8_go_88 : decode cX8_go 88 = .ok (.iaload, 1) := by decide +kernel
theorem dX8_go_89 : decode cX8_go 89 = .ok (.iload_n 2, 1) := by decide +kernel
theorem dX8_go_90 : decode cX8_go 90 = .ok (.isub, 1) := by decide +kernel
theorem dX8_go_91 : decode cX8_go 91 = .ok (.ireturn, 1) := by decide +kernel
theorem dX8_pass_0 : decode cX8_pass 0 = .ok (.aload_n 0, 1) := by decide +kernel
theorem dX8_pass_1 : decode cX8_pass 1 = .ok (.iload_n 1, 1) := by decide +kernel
theorem dX8_pass_2 : decode cX8_pass 2 = .ok (.iconst 1, 1) := by decide +kernel
theorem dX8_pass_3 : decode cX8_pass 3 = .ok (.sipush 200, 3) := by decide +kernel
theorem dX8_pass_6 : decode cX8_pass 6 = .ok (.invokestatic 32, 3) := by decide +kernel
theorem dX8_pass_9 : decode cX8_pass 9 = .ok (.ifCond .ne 7, 3) := by decide +kernel
theorem dX8_pass_12 : decode cX8_pass 12 = .ok (.iconst 1, 1) := by decide +kernel
theorem dX8_pass_13 : decode cX8_pass 13 = .ok (.goto 23, 3) := by decide +kernel
theorem dX8_pass_16 : decode cX8_pass 16 = .ok (.aload_n 0, 1) := by decide +kernel
theorem dX8_pass_17 : decode cX8_pass 17 = .ok (.getfield 7, 3) := by decide +kernel
theorem dX8_pass_20 : decode cX8_pass 20 = .ok (.bipush 10, 2) := by decide +kernel
theorem dX8_pass_22 : decode cX8_pass 22 = .ok (.iaload, 1) := by decide +kernel
theorem dX8_pass_23 : decode cX8_pass 23 = .ok (.iload_n 1, 1) := by decide +kernel
theorem dX8_pass_24 : decode cX8_pass 24 = .ok (.iadd, 1) := by decide +kernel
theorem dX8_pass_25 : decode cX8_pass 25 = .ok (.sipush 20000, 3) := by decide +kernel
theorem dX8_pass_28 : decode cX8_pass 28 = .ok (.if_icmp .le 7, 3) := by decide +kernel
theorem dX8_pass_31 : decode cX8_pass 31 = .ok (.iconst 2, 1) := by decide +kernel
theorem dX8_pass_32 : decode cX8_pass 32 = .ok (.goto 4, 3) := by decide +kernel
theorem dX8_pass_35 : decode cX8_pass 35 = .ok (.iconst 0, 1) := by decide +kernel
theorem dX8_pass_36 : decode cX8_pass 36 = .ok (.putfield 25, 3) := by decide +kernel
theorem dX8_pass_39 : decode cX8_pass 39 = .ok (.aload_n 0, 1) := by decide +kernel
theorem dX8_pass_40 : decode cX8_pass 40 = .ok (.getfield 25, 3) := by decide +kernel
theorem dX8_pass_43 : decode cX8_pass 43 = .ok (.ifCond .le 5, 3) := by decide +kernel
theorem dX8_pass_46 : decode cX8_pass 46 = .ok (.iconst 0, 1) := by decide +kernel
theorem dX8_pass_47 : decode cX8_pass 47 = .ok (.ireturn, 1) := by decide +kernel
theorem dX8_pass_48 : decode cX8_pass 48 = .ok (.aload_n 0, 1) := by decide +kernel
theorem dX8_pass_49 : decode cX8_pass 49 = .ok (.invokevirtual 56, 3) := by decide +kernel
theorem dX8_pass_52 : decode cX8_pass 52 = .ok (.aload_n 0, 1) := by decide +kernel
theorem dX8_pass_53 : decode cX8_pass 53 = .ok (.iload_n 1, 1) := by decide +kernel
theorem dX8_pass_54 : decode cX8_pass 54 = .ok (.invokevirtual 162, 3) := by decide +kernel
theorem dX8_pass_57 : decode cX8_pass 57 = .ok (.ireturn, 1) := by decide +kernel
theorem dX8_append_0 : decode cX8_append 0 = .ok (.aload_n 0, 1) := by decide +kernel
theorem dX8_append_1 : decode cX8_append 1 = .ok (.iload_n 1, 1) := by decide +kernel
theorem dX8_append_2 : decode cX8_append 2 = .ok (.bipush 33, 2) := by decide +kernel
theorem dX8_append_4 : decode cX8_append 4 = .ok (.bipush 126, 2) := by decide +kernel
theorem dX8_append_6 : decode cX8_append 6 = .ok (.invokestatic 32, 3) := by decide +kernel
theorem dX8_append_9 : decode cX8_append 9 = .ok (.ifCond .ne 7, 3) := by decide +kernel
theorem dX8_append_12 : decode cX8_append 12 = .ok (.iconst 1, 1) := by decide +kernel
theorem dX8_append_13 : decode cX8_append 13 = .ok (.goto 17, 3) := by decide +kernel
theorem dX8_append_16 : decode cX8_append 16 = .ok (.aload_n 0, 1) := by decide +kernel
theorem dX8_append_17 : decode cX8_append 17 = .ok (.getfield 165, 3) := by decide +kernel
theorem dX8_append_20 : decode cX8_append 20 = .ok (.bipush 60, 2) := by decide +kernel
theorem dX8_append_22 : decode cX8_append 22 = .ok (.if_icmp .ne 7, 3) := by decide +kernel
theorem dX8_append_25 : decode cX8_append 25 = .ok (.iconst 2, 1) := by decide +kernel
theorem dX8_append_26 : decode cX8_append 26 = .ok (.goto 4, 3) := by decide +kernel
theorem dX8_append_29 : decode cX8_append 29 = .ok (.iconst 0, 1) := by decide +kernel
theorem dX8_append_30 : decode cX8_append 30 = .ok (.putfield 25, 3) := by decide +kernel
theorem dX8_append_33 : decode cX8_append 33 = .ok (.aload_n 0, 1) := by decide +kernel
theorem dX8_append_34 : decode cX8_append 34 = .ok (.getfield 25, 3) := by decide +kernel
theorem dX8_append_37 : decode cX8_append 37 = .ok (.ifCond .le 5, 3) := by decide +kernel
theorem dX8_append_40 : decode cX8_append 40 = .ok (.iconst 0, 1) := by decide +kernel
theorem dX8_append_41 : decode cX8_append 41 = .ok (.ireturn, 1) := by decide +kernel
theorem dX8_append_42 : decode cX8_append 42 = .ok (.aload_n 0, 1) := by decide +kernel
theorem dX8_append_43 : decode cX8_append 43 = .ok (.getfield 16, 3) := by decide +kernel
theorem dX8_append_46 : decode cX8_append 46 = .ok (.aload_n 0, 1) := by decide +kernel
theorem dX8_append_47 : decode cX8_append 47 = .ok (.getfield 165, 3) := by decide +kernel
theorem dX8_append_50 : decode cX8_append 50 = .ok (.iload_n 1, 1) := by decide +kernel
theorem dX8_append_51 : decode cX8_append 51 = .ok (.iastore, 1) := by decide +kernel
theorem dX8_append_52 : decode cX8_append 52 = .ok (.aload_n 0, 1) := by decide +kernel
theorem dX8_append_53 : decode cX8_append 53 = .ok (.dup, 1) := by decide +kernel
theorem dX8_append_54 : decode cX8_append 54 = .ok (.getfield 165, 3) := by decide +kernel
theorem dX8_append_57 : decode cX8_append 57 = .ok (.iconst 1, 1) := by decide +kernel
theorem dX8_append_58 : decode cX8_append 58 = .ok (.iadd, 1) := by decide +kernel
theorem dX8_append_59 : decode cX8_append 59 = .ok (.putfield 165, 3) := by decide +kernel
theorem dX8_append_62 : decode cX8_append 62 = .ok (.aload_n 0, 1) := by decide +kernel
theorem dX8_append_63 : decode cX8_append 63 = .ok (.getfield 165, 3) := by decide +kernel
theorem dX8_append_66 : decode cX8_append 66 = .ok (.ireturn, 1) := by decide +kernel
theorem dX8_clearBuffer_0 : decode cX8_clearBuffer 0 = .ok (.aload_n 0, 1) := by decide +kernel
theorem dX8_clearBuffer_1 : decode cX8_clearBuffer 1 = .ok (.iconst 0, 1) := by decide +kernel
theorem dX8_clearBuffer_2 : decode cX8_clearBuffer 2 = .ok (.putfield 25, 3) := by decide +kernel
theorem dX8_clearBuffer_5 : decode cX8_clearBuffer 5 = .ok (.aload_n 0, 1) := by decide +kernel
theorem dX8_clearBuffer_6 : decode cX8_clearBuffer 6 = .ok (.getfield 165, 3) := by decide +kernel
theorem dX8_clearBuffer_9 : decode cX8_clearBuffer 9 = .ok (.istore_n 1, 1) := by decide +kernel
theorem dX8_clearBuffer_10 : decode cX8_clearBuffer 10 = .ok (.aload_n 0, 1) := by decide +kernel
theorem dX8_clearBuffer_11 : decode cX8_clearBuffer 11 = .ok (.iconst 0, 1) := by decide +kernel
theorem dX8_clearBuffer_12 : decode cX8_clearBuffer 12 = .ok (.putfield 165, 3) := by decide +kernel
theorem dX8_clearBuffer_15 : decode cX8_clearBuffer 15 = .ok (.iload_n 1, 1) := by decide +kernel
theorem dX8_clearBuffer_16 : decode cX8_clearBuffer 16 = .ok (.ireturn, 1) := by decide +kernel
theorem dX8_most_0 : decode cX8_most 0 = .ok (.iload_n 0, 1) := by decide +kernel
theorem dX8_most_1 : decode cX8_most 1 = .ok (.iconst 4, 1) := by decide +kernel
theorem dX8_most_2 : decode cX8_most 2 = .ok (.if_icmp .ge 9, 3) := by decide +kernel
theorem dX8_most_5 : decode cX8_most 5 = .ok (.sipush 300, 3) := by decide +kernel
theorem dX8_most_8 : decode cX8_most 8 = .ok (.goto 6, 3) := by decide +kernel
theorem dX8_most_11 : decode cX8_most 11 = .ok (.sipush 600, 3) := by decide +kernel
theorem dX8_most_14 : decode cX8_most 14 = .ok (.ireturn, 1) := by decide +kernel
theorem dX8_takesDigit_0 : decode cX8_takesDigit 0 = .ok (.aload_n 0, 1) := by decide +kernel
theorem dX8_takesDigit_1 : decode cX8_takesDigit 1 = .ok (.getfield 168, 3) := by decide +kernel
theorem dX8_takesDigit_4 : decode cX8_takesDigit 4 = .ok (.iconst (-1), 1) := by decide +kernel
theorem dX8_takesDigit_5 : decode cX8_takesDigit 5 = .ok (.if_icmp .ne 7, 3) := by decide +kernel
theorem dX8_takesDigit_8 : decode cX8_takesDigit 8 = .ok (.iload_n 1, 1) := by decide +kernel
theorem dX8_takesDigit_9 : decode cX8_takesDigit 9 = .ok (.goto 12, 3) := by decide +kernel
theorem dX8_takesDigit_12 : decode cX8_takesDigit 12 = .ok (.bipush 10, 2) := by decide +kernel
theorem dX8_takesDigit_14 : decode cX8_takesDigit 14 = .ok (.aload_n 0, 1) := by decide +kernel
theorem dX8_takesDigit_15 : decode cX8_takesDigit 15 = .ok (.getfield 168, 3) := by decide +kernel
theorem dX8_takesDigit_18 : decode cX8_takesDigit 18 = .ok (.imul, 1) := by decide +kernel
theorem dX8_takesDigit_19 : decode cX8_takesDigit 19 = .ok (.iload_n 1, 1) := by decide +kernel
theorem dX8_takesDigit_20 : decode cX8_takesDigit 20 = .ok (.iadd, 1) := by decide +kernel
theorem dX8_takesDigit_21 : decode cX8_takesDigit 21 = .ok (.istore_n 2, 1) := by decide +kernel
theorem dX8_takesDigit_22 : decode cX8_takesDigit 22 = .ok (.iload_n 1, 1) := by decide +kernel
theorem dX8_takesDigit_23 : decode cX8_takesDigit 23 = .ok (.iconst 0, 1) := by decide +kernel
theorem dX8_takesDigit_24 : decode cX8_takesDigit 24 = .ok (.bipush 9, 2) := by decide +kernel
theorem dX8_takesDigit_26 : decode cX8_takesDigit 26 = .ok (.invokestatic 32, 3) := by decide +kernel
theorem dX8_takesDigit_29 : decode cX8_takesDigit 29 = .ok (.ifCond .eq 37, 3) := by decide +kernel
theorem dX8_takesDigit_32 : decode cX8_takesDigit 32 = .ok (.aload_n 0, 1) := by decide +kernel
theorem dX8_takesDigit_33 : decode cX8_takesDigit 33 = .ok (.getfield 168, 3) := by decide +kernel
theorem dX8_takesDigit_36 : decode cX8_takesDigit 36 = .ok (.ifCond .eq 30, 3) := by decide +kernel
theorem dX8_takesDigit_39 : decode cX8_takesDigit 39 = .ok (.iload_n 2, 1) := by decide +kernel
theorem dX8_takesDigit_40 : decode cX8_takesDigit 40 = .ok (.aload_n 0, 1) := by decide +kernel
theorem dX8_takesDigit_41 : decode cX8_takesDigit 41 = .ok (.getfield 171, 3) := by decide +kernel
theorem dX8_takesDigit_44 : decode cX8_takesDigit 44 = .ok (.invokestatic 174, 3) := by decide +kernel
theorem dX8_takesDigit_47 : decode cX8_takesDigit 47 = .ok (.if_icmp .gt 19, 3) := by decide +kernel
theorem dX8_takesDigit_50 : decode cX8_takesDigit 50 = .ok (.iload_n 2, 1) := by decide +kernel
theorem dX8_takesDigit_51 : decode cX8_takesDigit 51 = .ok (.ifCond .gt 11, 3) := by decide +kernel
theorem dX8_takesDigit_54 : decode cX8_takesDigit 54 = .ok (.aload_n 0, 1) := by decide +kernel
theorem dX8_takesDigit_55 : decode cX8_takesDigit 55 = .ok (.getfield 171, 3) := by decide +kernel
theorem dX8_takesDigit_58 : decode cX8_takesDigit 58 = .ok (.iconst 3, 1) := by decide +kernel
theorem dX8_takesDigit_59 : decode cX8_takesDigit 59 = .ok (.if_icmp .ne 7, 3) := by decide +kernel
theorem dX8_takesDigit_62 : decode cX8_takesDigit 62 = .ok (.iconst 1, 1) := by decide +kernel
theorem dX8_takesDigit_63 : decode cX8_takesDigit 63 = .ok (.goto 4, 3) := by decide +kernel
theorem dX8_takesDigit_66 : decode cX8_takesDigit 66 = .ok (.iconst 0, 1) := by decide +kernel
theorem dX8_takesDigit_67 : decode cX8_takesDigit 67 = .ok (.istore_n 3, 1) := by decide +kernel
theorem dX8_takesDigit_68 : decode cX8_takesDigit 68 = .ok (.aload_n 0, 1) := by decide +kernel
theorem dX8_takesDigit_69 : decode cX8_takesDigit 69 = .ok (.iload_n 3, 1) := by decide +kernel
theorem dX8_takesDigit_70 : decode cX8_takesDigit 70 = .ok (.ifCond .eq 7, 3) := by decide +kernel
theorem dX8_takesDigit_73 : decode cX8_takesDigit 73 = .ok (.iload_n 2, 1) := by decide +kernel
theorem dX8_takesDigit_74 : decode cX8_takesDigit 74 = .ok (.goto 7, 3) := by decide +kernel
theorem dX8_takesDigit_77 : decode cX8_takesDigit 77 = .ok (.aload_n 0, 1) := by decide +kernel
theorem dX8_takesDigit_78 : decode cX8_takesDigit 78 = .ok (.getfield 168, 3) := by decide +kernel
theorem dX8_takesDigit_81 : decode cX8_takesDigit 81 = .ok (.putfield 168, 3) := by decide +kernel
theorem dX8_takesDigit_84 : decode cX8_takesDigit 84 = .ok (.iload_n 3, 1) := by decide +kernel
theorem dX8_takesDigit_85 : decode cX8_takesDigit 85 = .ok (.ireturn, 1) := by decide +kernel
theorem dX8_ends_0 : decode cX8_ends 0 = .ok (.aload_n 0, 1) := by decide +kernel
theorem dX8_ends_1 : decode cX8_ends 1 = .ok (.getfield 19, 3) := by decide +kernel
theorem dX8_ends_4 : decode cX8_ends 4 = .ok (.iconst 5, 1) := by decide +kernel
theorem dX8_ends_5 : decode cX8_ends 5 = .ok (.aload_n 0, 1) := by decide +kernel
theorem dX8_ends_6 : decode cX8_ends 6 = .ok (.getfield 177, 3) := by decide +kernel
theorem dX8_ends_9 : decode cX8_ends 9 = .ok (.imul, 1) := by decide +kernel
theorem dX8_ends_10 : decode cX8_ends 10 = .ok (.aload_n 0, 1) := by decide +kernel
theorem dX8_ends_11 : decode cX8_ends 11 = .ok (.getfield 171, 3) := by decide +kernel
theorem dX8_ends_14 : decode cX8_ends 14 = .ok (.iadd, 1) := by decide +kernel
theorem dX8_ends_15 : decode cX8_ends 15 = .ok (.iconst 1, 1) := by decide +kernel
theorem dX8_ends_16 : decode cX8_ends 16 = .ok (.isub, 1) := by decide +kernel
theorem dX8_ends_17 : decode cX8_ends 17 = .ok (.aload_n 0, 1) := by decide +kernel
theorem dX8_ends_18 : decode cX8_ends 18 = .ok (.getfield 168, 3) := by decide +kernel
theorem dX8_ends_21 : decode cX8_ends 21 = .ok (.iastore, 1) := by decide +kernel
theorem dX8_ends_22 : decode cX8_ends 22 = .ok (.aload_n 0, 1) := by decide +kernel
theorem dX8_ends_23 : decode cX8_ends 23 = .ok (.iconst (-1), 1) := by decide +kernel
theorem dX8_ends_24 : decode cX8_ends 24 = .ok (.putfield 168, 3) := by decide +kernel
theorem dX8_ends_27 : decode cX8_ends 27 = .ok (.aload_n 0, 1) := by decide +kernel
theorem dX8_ends_28 : decode cX8_ends 28 = .ok (.iload_n 1, 1) := by decide +kernel
theorem dX8_ends_29 : decode cX8_ends 29 = .ok (.putfield 171, 3) := by decide +kernel
theorem dX8_ends_32 : decode cX8_ends 32 = .ok (.iconst 1, 1) := by decide +kernel
theorem dX8_ends_33 : decode cX8_ends 33 = .ok (.ireturn, 1) := by decide +kernel
theorem dX8_takesPlace_0 : decode cX8_takesPlace 0 = .ok (.aload_n 0, 1) := by decide +kernel
theorem dX8_takesPlace_1 : decode cX8_takesPlace 1 = .ok (.getfield 19, 3) := by decide +kernel
theorem dX8_takesPlace_4 : decode cX8_takesPlace 4 = .ok (.iconst 5, 1) := by decide +kernel
theorem dX8_takesPlace_5 : decode cX8_takesPlace 5 = .ok (.aload_n 0, 1) := by decide +kernel
theorem dX8_takesPlace_6 : decode cX8_takesPlace 6 = .ok (.getfield 177, 3) := by decide +kernel
theorem dX8_takesPlace_9 : decode cX8_takesPlace 9 = .ok (.imul, 1) := by decide +kernel
theorem dX8_takesPlace_10 : decode cX8_takesPlace 10 = .ok (.iload_n 1, 1) := by decide +kernel
theorem dX8_takesPlace_11 : decode cX8_takesPlace 11 = .ok (.iastore, 1) := by decide +kernel
theorem dX8_takesPlace_12 : decode cX8_takesPlace 12 = .ok (.aload_n 0, 1) := by decide +kernel
theorem dX8_takesPlace_13 : decode cX8_takesPlace 13 = .ok (.getfield 19, 3) := by decide +kernel
theorem dX8_takesPlace_16 : decode cX8_takesPlace 16 = .ok (.iconst 5, 1) := by decide +kernel
theorem dX8_takesPlace_17 : decode cX8_takesPlace 17 = .ok (.aload_n 0, 1) := by decide +kernel
theorem dX8_takesPlace_18 : decode cX8_takesPlace 18 = .ok (.getfield 177, 3) := by decide +kernel
theorem dX8_takesPlace_21 : decode cX8_takesPlace 21 = .ok (.imul, 1) := by decide +kernel
theorem dX8_takesPlace_22 : decode cX8_takesPlace 22 = .ok (.iconst 2, 1) := by decide +kernel
theorem dX8_takesPlace_23 : decode cX8_takesPlace 23 = .ok (.iadd, 1) := by decide +kernel
theorem dX8_takesPlace_24 : decode cX8_takesPlace 24 = .ok (.iconst 0, 1) := by decide +kernel
theorem dX8_takesPlace_25 : decode cX8_takesPlace 25 = .ok (.iastore, 1) := by decide +kernel
theorem dX8_takesPlace_26 : decode cX8_takesPlace 26 = .ok (.aload_n 0, 1) := by decide +kernel
theorem dX8_takesPlace_27 : decode cX8_takesPlace 27 = .ok (.iconst 1, 1) := by decide +kernel
theorem dX8_takesPlace_28 : decode cX8_takesPlace 28 = .ok (.putfield 171, 3) := by decide +kernel
theorem dX8_takesPlace_31 : decode cX8_takesPlace 31 = .ok (.iload_n 1, 1) := by decide +kernel
theorem dX8_takesPlace_32 : decode cX8_takesPlace 32 = .ok (.iconst 0, 1) := by decide +kernel
theorem dX8_takesPlace_33 : decode cX8_takesPlace 33 = .ok (.bipush 7, 2) := by decide +kernel
theorem dX8_takesPlace_35 : decode cX8_takesPlace 35 = .ok (.invokestatic 32, 3) := by decide +kernel
theorem dX8_takesPlace_38 : decode cX8_takesPlace 38 = .ok (.ireturn, 1) := by decide +kernel
theorem dX8_takes__0 : decode cX8_takes_ 0 = .ok (.aload_n 0, 1) := by decide +kernel
theorem dX8_takes__1 : decode cX8_takes_ 1 = .ok (.getfield 171, 3) := by decide +kernel
theorem dX8_takes__4 : decode cX8_takes_ 4 = .ok (.tableswitch 177 0 4 #[36, 45, 62, 115, 146], 36) := by decide +kernel
theorem dX8_takes__40 : decode cX8_takes_ 40 = .ok (.aload_n 0, 1) := by decide +kernel
theorem dX8_takes__41 : decode cX8_takes_ 41 = .ok (.iload_n 1, 1) := by decide +kernel
theorem dX8_takes__42 : decode cX8_takes_ 42 = .ok (.bipush 48, 2) := by decide +kernel
theorem dX8_takes__44 : decode cX8_takes_ 44 = .ok (.isub, 1) := by decide +kernel
theorem dX8_takes__45 : decode cX8_takes_ 45 = .ok (.invokevirtual 180, 3) := by decide +kernel
theorem dX8_takes__48 : decode cX8_takes_ 48 = .ok (.ireturn, 1) := by decide +kernel
theorem dX8_takes__49 : decode cX8_takes_ 49 = .ok (.aload_n 0, 1) := by decide +kernel
theorem dX8_takes__50 : decode cX8_takes_ 50 = .ok (.iconst 2, 1) := by decide +kernel
theorem dX8_takes__51 : decode cX8_takes_ 51 = .ok (.putfield 171, 3) := by decide +kernel
theorem dX8_takes__54 : decode cX8_takes_ 54 = .ok (.iload_n 1, 1) := by decide +kernel
theorem dX8_takes__55 : decode cX8_takes_ 55 = .ok (.bipush 58, 2) := by decide +kernel
theorem dX8_takes__57 : decode cX8_takes_ 57 = .ok (.if_icmp .ne 7, 3) := by decide +kernel
theorem dX8_takes__60 : decode cX8_takes_ 60 = .ok (.iconst 1, 1) := by decide +kernel
theorem dX8_takes__61 : decode cX8_takes_ 61 = .ok (.goto 4, 3) := by decide +kernel
theorem dX8_takes__64 : decode cX8_takes_ 64 = .ok (.iconst 0, 1) := by decide +kernel
theorem dX8_takes__65 : decode cX8_takes_ 65 = .ok (.ireturn, 1) := by decide +kernel
theorem dX8_takes__66 : decode cX8_takes_ 66 = .ok (.aload_n 0, 1) := by decide +kernel
theorem dX8_takes__67 : decode cX8_takes_ 67 = .ok (.getfield 168, 3) := by decide +kernel
theorem dX8_takes__70 : decode cX8_takes_ 70 = .ok (.iconst (-1), 1) := by decide +kernel
theorem dX8_takes__71 : decode cX8_takes_ 71 = .ok (.if_icmp .eq 17, 3) := by decide +kernel
theorem dX8_takes__74 : decode cX8_takes_ 74 = .ok (.iload_n 1, 1) := by decide +kernel
theorem dX8_takes__75 : decode cX8_takes_ 75 = .ok (.bipush 103, 2) := by decide +kernel
theorem dX8_takes__77 : decode cX8_takes_ 77 = .ok (.if_icmp .ne 11, 3) := by decide +kernel
theorem dX8_takes__80 : decode cX8_takes_ 80 = .ok (.aload_n 0, 1) := by decide +kernel
theorem dX8_takes__81 : decode cX8_takes_ 81 = .ok (.iconst 3, 1) := by decide +kernel
theorem dX8_takes__82 : decode cX8_takes_ 82 = .ok (.invokevirtual 183, 3) := by decide +kernel
theorem dX8_takes__85 : decode cX8_takes_ 85 = .ok (.goto 33, 3) := by decide +kernel
theorem dX8_takes__88 : decode cX8_takes_ 88 = .ok (.aload_n 0, 1) := by decide +kernel
theorem dX8_takes__89 : decode cX8_takes_ 89 = .ok (.getfield 168, 3) := by decide +kernel
theorem dX8_takes__92 : decode cX8_takes_ 92 = .ok (.iconst (-1), 1) := by decide +kernel
theorem dX8_takes__93 : decode cX8_takes_ 93 = .ok (.if_icmp .eq 17, 3) := by decide +kernel
theorem dX8_takes__96 : decode cX8_takes_ 96 = .ok (.iload_n 1, 1) := by decide +kernel
theorem dX8_takes__97 : decode cX8_takes_ 97 = .ok (.bipush 64, 2) := by decide +kernel
theorem dX8_takes__99 : decode cX8_takes_ 99 = .ok (.if_icmp .ne 11, 3) := by decide +kernel
theorem dX8_takes__102 : decode cX8_takes_ 102 = .ok (.aload_n 0, 1) := by decide +kernel
theorem dX8_takes__103 : decode cX8_takes_ 103 = .ok (.iconst 4, 1) := by decide +kernel
theorem dX8_takes__104 : decode cX8_takes_ 104 = .ok (.invokevirtual 183, 3) := by decide +kernel
theorem dX8_takes__107 : decode cX8_takes_ 107 = .ok (.goto 11, 3) := by decide +kernel
theorem dX8_takes__110 : decode cX8_takes_ 110 = .ok (.aload_n 0, 1) := by decide +kernel
theorem dX8_takes__111 : decode cX8_takes_ 111 = .ok (.iload_n 1, 1) := by decide +kernel
theorem dX8_takes__112 : decode cX8_takes_ 112 = .ok (.bipush 48, 2) := by decide +kernel
theorem dX8_takes__114 : decode cX8_takes_ 114 = .ok (.isub, 1) := by decide +kernel
theorem dX8_takes__115 : decode cX8_takes_ 115 = .ok (.invokevirtual 186, 3) := by decide +kernel
theorem dX8_takes__118 : decode cX8_takes_ 118 = .ok (.ireturn, 1) := by decide +kernel
theorem dX8_takes__119 : decode cX8_takes_ 119 = .ok (.aload_n 0, 1) := by decide +kernel
theorem dX8_takes__120 : decode cX8_takes_ 120 = .ok (.getfield 168, 3) := by decide +kernel
theorem dX8_takes__123 : decode cX8_takes_ 123 = .ok (.iconst (-1), 1) := by decide +kernel
theorem dX8_takes__124 : decode cX8_takes_ 124 = .ok (.if_icmp .eq 17, 3) := by decide +kernel
theorem dX8_takes__127 : decode cX8_takes_ 127 = .ok (.iload_n 1, 1) := by decide +kernel
theorem dX8_takes__128 : decode cX8_takes_ 128 = .ok (.bipush 64, 2) := by decide +kernel
theorem dX8_takes__130 : decode cX8_takes_ 130 = .ok (.if_icmp .ne 11, 3) := by decide +kernel
theorem dX8_takes__133 : decode cX8_takes_ 133 = .ok (.aload_n 0, 1) := by decide +kernel
theorem dX8_takes__134 : decode cX8_takes_ 134 = .ok (.iconst 4, 1) := by decide +kernel
theorem dX8_takes__135 : decode cX8_takes_ 135 = .ok (.invokevirtual 183, 3) := by decide +kernel
theorem dX8_takes__138 : decode cX8_takes_ 138 = .ok (.goto 11, 3) := by decide +kernel
theorem dX8_takes__141 : decode cX8_takes_ 141 = .ok (.aload_n 0, 1) := by decide +kernel
theorem dX8_takes__142 : decode cX8_takes_ 142 = .ok (.iload_n 1, 1) := by decide +kernel
theorem dX8_takes__143 : decode cX8_takes_ 143 = .ok (.bipush 48, 2) := by decide +kernel
theorem dX8_takes__145 : decode cX8_takes_ 145 = .ok (.isub, 1) := by decide +kernel
theorem dX8_takes__146 : decode cX8_takes_ 146 = .ok (.invokevirtual 186, 3) := by decide +kernel
theorem dX8_takes__149 : decode cX8_takes_ 149 = .ok (.ireturn, 1) := by decide +kernel
theorem dX8_takes__150 : decode cX8_takes_ 150 = .ok (.aload_n 0, 1) := by decide +kernel
theorem dX8_takes__151 : decode cX8_takes_ 151 = .ok (.getfield 168, 3) := by decide +kernel
theorem dX8_takes__154 : decode cX8_takes_ 154 = .ok (.iconst (-1), 1) := by decide +kernel
theorem dX8_takes__155 : decode cX8_takes_ 155 = .ok (.if_icmp .eq 17, 3) := by decide +kernel
theorem dX8_takes__158 : decode cX8_takes_ 158 = .ok (.iload_n 1, 1) := by decide +kernel
theorem dX8_takes__159 : decode cX8_takes_ 159 = .ok (.bipush 43, 2) := by decide +kernel
theorem dX8_takes__161 : decode cX8_takes_ 161 = .ok (.if_icmp .ne 11, 3) := by decide +kernel
theorem dX8_takes__164 : decode cX8_takes_ 164 = .ok (.aload_n 0, 1) := by decide +kernel
theorem dX8_takes__165 : decode cX8_takes_ 165 = .ok (.iconst 5, 1) := by decide +kernel
theorem dX8_takes__166 : decode cX8_takes_ 166 = .ok (.invokevirtual 183, 3) := by decide +kernel
theorem dX8_takes__169 : decode cX8_takes_ 169 = .ok (.goto 11, 3) := by decide +kernel
theorem dX8_takes__172 : decode cX8_takes_ 172 = .ok (.aload_n 0, 1) := by decide +kernel
theorem dX8_takes__173 : decode cX8_takes_ 173 = .ok (.iload_n 1, 1) := by decide +kernel
theorem dX8_takes__174 : decode cX8_takes_ 174 = .ok (.bipush 48, 2) := by decide +kernel
theorem dX8_takes__176 : decode cX8_takes_ 176 = .ok (.isub, 1) := by decide +kernel
theorem dX8_takes__177 : decode cX8_takes_ 177 = .ok (.invokevirtual 186, 3) := by decide +kernel
theorem dX8_takes__180 : decode cX8_takes_ 180 = .ok (.ireturn, 1) := by decide +kernel
theorem dX8_takes__181 : decode cX8_takes_ 181 = .ok (.iload_n 1, 1) := by decide +kernel
theorem dX8_takes__182 : decode cX8_takes_ 182 = .ok (.bipush 44, 2) := by decide +kernel
theorem dX8_takes__184 : decode cX8_takes_ 184 = .ok (.if_icmp .ne 30, 3) := by decide +kernel
theorem dX8_takes__187 : decode cX8_takes_ 187 = .ok (.aload_n 0, 1) := by decide +kernel
theorem dX8_takes__188 : decode cX8_takes_ 188 = .ok (.getfield 168, 3) := by decide +kernel
theorem dX8_takes__191 : decode cX8_takes_ 191 = .ok (.bipush 30, 2) := by decide +kernel
theorem dX8_takes__193 : decode cX8_takes_ 193 = .ok (.if_icmp .lt 21, 3) := by decide +kernel
theorem dX8_takes__196 : decode cX8_takes_ 196 = .ok (.aload_n 0, 1) := by decide +kernel
theorem dX8_takes__197 : decode cX8_takes_ 197 = .ok (.iconst 0, 1) := by decide +kernel
theorem dX8_takes__198 : decode cX8_takes_ 198 = .ok (.invokevirtual 183, 3) := by decide +kernel
theorem dX8_takes__201 : decode cX8_takes_ 201 = .ok (.pop, 1) := by decide +kernel
theorem dX8_takes__202 : decode cX8_takes_ 202 = .ok (.aload_n 0, 1) := by decide +kernel
theorem dX8_takes__203 : decode cX8_takes_ 203 = .ok (.dup, 1) := by decide +kernel
theorem dX8_takes__204 : decode cX8_takes_ 204 = .ok (.getfield 177, 3) := by decide +kernel
theorem dX8_takes__207 : decode cX8_takes_ 207 = .ok (.iconst 1, 1) := by decide +kernel
theorem dX8_takes__208 : decode cX8_takes_ 208 = .ok (.iadd, 1) := by decide +kernel
theorem dX8_takes__209 : decode cX8_takes_ 209 = .ok (.putfield 177, 3) := by decide +kernel
theorem dX8_takes__212 : decode cX8_takes_ 212 = .ok (.iconst 1, 1) := by decide +kernel
theorem dX8_takes__213 : decode cX8_takes_ 213 = .ok (.ireturn, 1) := by decide +kernel
theorem dX8_takes__214 : decode cX8_takes_ 214 = .ok (.aload_n 0, 1) := by decide +kernel
theorem dX8_takes__215 : decode cX8_takes_ 215 = .ok (.iload_n 1, 1) := by decide +kernel
theorem dX8_takes__216 : decode cX8_takes_ 216 = .ok (.bipush 48, 2) := by decide +kernel
theorem dX8_takes__218 : decode cX8_takes_ 218 = .ok (.isub, 1) := by decide +kernel
theorem dX8_takes__219 : decode cX8_takes_ 219 = .ok (.invokevirtual 186, 3) := by decide +kernel
theorem dX8_takes__222 : decode cX8_takes_ 222 = .ok (.ireturn, 1) := by decide +kernel
theorem dX8_rightUpTo_0 : decode cX8_rightUpTo 0 = .ok (.aload_n 0, 1) := by decide +kernel
theorem dX8_rightUpTo_1 : decode cX8_rightUpTo 1 = .ok (.iconst 0, 1) := by decide +kernel
theorem dX8_rightUpTo_2 : decode cX8_rightUpTo 2 = .ok (.putfield 177, 3) := by decide +kernel
theorem dX8_rightUpTo_5 : decode cX8_rightUpTo 5 = .ok (.aload_n 0, 1) := by decide +kernel
theorem dX8_rightUpTo_6 : decode cX8_rightUpTo 6 = .ok (.iconst (-1), 1) := by decide +kernel
theorem dX8_rightUpTo_7 : decode cX8_rightUpTo 7 = .ok (.putfield 168, 3) := by decide +kernel
theorem dX8_rightUpTo_10 : decode cX8_rightUpTo 10 = .ok (.aload_n 0, 1) := by decide +kernel
theorem dX8_rightUpTo_11 : decode cX8_rightUpTo 11 = .ok (.iconst 0, 1) := by decide +kernel
theorem dX8_rightUpTo_12 : decode cX8_rightUpTo 12 = .ok (.putfield 171, 3) := by decide +kernel
theorem dX8_rightUpTo_15 : decode cX8_rightUpTo 15 = .ok (.iconst 0, 1) := by decide +kernel
theorem dX8_rightUpTo_16 : decode cX8_rightUpTo 16 = .ok (.istore_n 1, 1) := by decide +kernel
theorem dX8_rightUpTo_17 : decode cX8_rightUpTo 17 = .ok (.iload_n 1, 1) := by decide +kernel
theorem dX8_rightUpTo_18 : decode cX8_rightUpTo 18 = .ok (.aload_n 0, 1) := by decide +kernel
theorem dX8_rightUpTo_19 : decode cX8_rightUpTo 19 = .ok (.getfield 165, 3) := by decide +kernel
theorem dX8_rightUpTo_22 : decode cX8_rightUpTo 22 = .ok (.if_icmp .ge 22, 3) := by decide +kernel
theorem dX8_rightUpTo_25 : decode cX8_rightUpTo 25 = .ok (.aload_n 0, 1) := by decide +kernel
theorem dX8_rightUpTo_26 : decode cX8_rightUpTo 26 = .ok (.aload_n 0, 1) := by decide +kernel
theorem dX8_rightUpTo_27 : decode cX8_rightUpTo 27 = .ok (.getfield 16, 3) := by decide +kernel
theorem dX8_rightUpTo_30 : decode cX8_rightUpTo 30 = .ok (.iload_n 1, 1) := by decide +kernel
theorem dX8_rightUpTo_31 : decode cX8_rightUpTo 31 = .ok (.iaload, 1) := by decide +kernel
theorem dX8_rightUpTo_32 : decode cX8_rightUpTo 32 = .ok (.invokevirtual 189, 3) := by decide +kernel
theorem dX8_rightUpTo_35 : decode cX8_rightUpTo 35 = .ok (.ifCond .eq 9, 3) := by decide +kernel
theorem dX8_rightUpTo_38 : decode cX8_rightUpTo 38 = .ok (.iinc 1 1, 3) := by decide +kernel
theorem dX8_rightUpTo_41 : decode cX8_rightUpTo 41 = .ok (.goto (-24), 3) := by decide +kernel
theorem dX8_rightUpTo_44 : decode cX8_rightUpTo 44 = .ok (.iload_n 1, 1) := by decide +kernel
theorem dX8_rightUpTo_45 : decode cX8_rightUpTo 45 = .ok (.ireturn, 1) := by decide +kernel
theorem dX8_firstError_0 : decode cX8_firstError 0 = .ok (.aload_n 0, 1) := by decide +kernel
theorem dX8_firstError_1 : decode cX8_firstError 1 = .ok (.iconst 0, 1) := by decide +kernel
theorem dX8_firstError_2 : decode cX8_firstError 2 = .ok (.putfield 25, 3) := by decide +kernel
theorem dX8_firstError_5 : decode cX8_firstError 5 = .ok (.aload_n 0, 1) := by decide +kernel
theorem dX8_firstError_6 : decode cX8_firstError 6 = .ok (.invokevirtual 191, 3) := by decide +kernel
theorem dX8_firstError_9 : decode cX8_firstError 9 = .ok (.ireturn, 1) := by decide +kernel
theorem dX8_adds_0 : decode cX8_adds 0 = .ok (.iconst 5, 1) := by decide +kernel
theorem dX8_adds_1 : decode cX8_adds 1 = .ok (.iload_n 1, 1) := by decide +kernel
theorem dX8_adds_2 : decode cX8_adds 2 = .ok (.imul, 1) := by decide +kernel
theorem dX8_adds_3 : decode cX8_adds 3 = .ok (.istore_n 2, 1) := by decide +kernel
theorem dX8_adds_4 : decode cX8_adds 4 = .ok (.aload_n 0, 1) := by decide +kernel
theorem dX8_adds_5 : decode cX8_adds 5 = .ok (.aload_n 0, 1) := by decide +kernel
theorem dX8_adds_6 : decode cX8_adds 6 = .ok (.getfield 19, 3) := by decide +kernel
theorem dX8_adds_9 : decode cX8_adds 9 = .ok (.iload_n 2, 1) := by decide +kernel
theorem dX8_adds_10 : decode cX8_adds 10 = .ok (.iaload, 1) := by decide +kernel
theorem dX8_adds_11 : decode cX8_adds 11 = .ok (.aload_n 0, 1) := by decide +kernel
theorem dX8_adds_12 : decode cX8_adds 12 = .ok (.getfield 19, 3) := by decide +kernel
theorem dX8_adds_15 : decode cX8_adds 15 = .ok (.iload_n 2, 1) := by decide +kernel
theorem dX8_adds_16 : decode cX8_adds 16 = .ok (.iconst 1, 1) := by decide +kernel
theorem dX8_adds_17 : decode cX8_adds 17 = .ok (.iadd, 1) := by decide +kernel
theorem dX8_adds_18 : decode cX8_adds 18 = .ok (.iaload, 1) := by decide +kernel
theorem dX8_adds_19 : decode cX8_adds 19 = .ok (.aload_n 0, 1) := by decide +kernel
theorem dX8_adds_20 : decode cX8_adds 20 = .ok (.getfield 19, 3) := by decide +kernel
theorem dX8_adds_23 : decode cX8_adds 23 = .ok (.iload_n 2, 1) := by decide +kernel
theorem dX8_adds_24 : decode cX8_adds 24 = .ok (.iconst 2, 1) := by decide +kernel
theorem dX8_adds_25 : decode cX8_adds 25 = .ok (.iadd, 1) := by decide +kernel
theorem dX8_adds_26 : decode cX8_adds 26 = .ok (.iaload, 1) := by decide +kernel
theorem dX8_adds_27 : decode cX8_adds 27 = .ok (.aload_n 0, 1) := by decide +kernel
theorem dX8_adds_28 : decode cX8_adds 28 = .ok (.getfield 19, 3) := by decide +kernel
theorem dX8_adds_31 : decode cX8_adds 31 = .ok (.iload_n 2, 1) := by decide +kernel
theorem dX8_adds_32 : decode cX8_adds 32 = .ok (.iconst 3, 1) := by decide +kernel
theorem dX8_adds_33 : decode cX8_adds 33 = .ok (.iadd, 1) := by decide +kernel
theorem dX8_adds_34 : decode cX8_adds 34 = .ok (.iaload, 1) := by decide +kernel
theorem dX8_adds_35 : decode cX8_adds 35 = .ok (.aload_n 0, 1) := by decide +kernel
theorem dX8_adds_36 : decode cX8_adds 36 = .ok (.getfield 19, 3) := by decide +kernel
theorem dX8_adds_39 : decode cX8_adds 39 = .ok (.iload_n 2, 1) := by decide +kernel
theorem dX8_adds_40 : decode cX8_adds 40 = .ok (.iconst 4, 1) := by decide +kernel
theorem dX8_adds_41 : decode cX8_adds 41 = .ok (.iadd, 1) := by decide +kernel
theorem dX8_adds_42 : decode cX8_adds 42 = .ok (.iaload, 1) := by decide +kernel
theorem dX8_adds_43 : decode cX8_adds 43 = .ok (.invokevirtual 100, 3) := by decide +kernel
theorem dX8_adds_46 : decode cX8_adds 46 = .ok (.istore_n 3, 1) := by decide +kernel
theorem dX8_adds_47 : decode cX8_adds 47 = .ok (.iload_n 3, 1) := by decide +kernel
theorem dX8_adds_48 : decode cX8_adds 48 = .ok (.ifCond .ne 54, 3) := by decide +kernel
theorem dX8_adds_51 : decode cX8_adds 51 = .ok (.aload_n 0, 1) := by decide +kernel
theorem dX8_adds_52 : decode cX8_adds 52 = .ok (.aload_n 0, 1) := by decide +kernel
theorem dX8_adds_53 : decode cX8_adds 53 = .ok (.getfield 19, 3) := by decide +kernel
theorem dX8_adds_56 : decode cX8_adds 56 = .ok (.iload_n 2, 1) := by decide +kernel
theorem dX8_adds_57 : decode cX8_adds 57 = .ok (.iaload, 1) := by decide +kernel
theorem dX8_adds_58 : decode cX8_adds 58 = .ok (.aload_n 0, 1) := by decide +kernel
theorem dX8_adds_59 : decode cX8_adds 59 = .ok (.getfield 19, 3) := by decide +kernel
theorem dX8_adds_62 : decode cX8_adds 62 = .ok (.iload_n 2, 1) := by decide +kernel
theorem dX8_adds_63 : decode cX8_adds 63 = .ok (.iconst 1, 1) := by decide +kernel
theorem dX8_adds_64 : decode cX8_adds 64 = .ok (.iadd, 1) := by decide +kernel
theorem dX8_adds_65 : decode cX8_adds 65 = .ok (.iaload, 1) := by decide +kernel
theorem dX8_adds_66 : decode cX8_adds 66 = .ok (.aload_n 0, 1) := by decide +kernel
theorem dX8_adds_67 : decode cX8_adds 67 = .ok (.getfield 19, 3) := by decide +kernel
theorem dX8_adds_70 : decode cX8_adds 70 = .ok (.iload_n 2, 1) := by decide +kernel
theorem dX8_adds_71 : decode cX8_adds 71 = .ok (.iconst 2, 1) := by decide +kernel
theorem dX8_adds_72 : decode cX8_adds 72 = .ok (.iadd, 1) := by decide +kernel
theorem dX8_adds_73 : decode cX8_adds 73 = .ok (.iaload, 1) := by decide +kernel
theorem dX8_adds_74 : decode cX8_adds 74 = .ok (.aload_n 0, 1) := by decide +kernel
theorem dX8_adds_75 : decode cX8_adds 75 = .ok (.getfield 7, 3) := by decide +kernel
theorem dX8_adds_78 : decode cX8_adds 78 = .ok (.bipush 10, 2) := by decide +kernel
theorem dX8_adds_80 : decode cX8_adds 80 = .ok (.iaload, 1) := by decide +kernel
theorem dX8_adds_81 : decode cX8_adds 81 = .ok (.aload_n 0, 1) := by decide +kernel
theorem dX8_adds_82 : decode cX8_adds 82 = .ok (.getfield 19, 3) := by decide +kernel
theorem dX8_adds_85 : decode cX8_adds 85 = .ok (.iload_n 2, 1) := by decide +kernel
theorem dX8_adds_86 : decode cX8_adds 86 = .ok (.iconst 3, 1) := by decide +kernel
theorem dX8_adds_87 : decode cX8_adds 87 = .ok (.iadd, 1) := by decide +kernel
theorem dX8_adds_88 : decode cX8_adds 88 = .ok (.iaload, 1) := by decide +kernel
theorem dX8_adds_89 : decode cX8_adds 89 = .ok (.iadd, 1) := by decide +kernel
theorem dX8_adds_90 : decode cX8_adds 90 = .ok (.aload_n 0, 1) := by decide +kernel
theorem dX8_adds_91 : decode cX8_adds 91 = .ok (.getfield 19, 3) := by decide +kernel
theorem dX8_adds_94 : decode cX8_adds 94 = .ok (.iload_n 2, 1) := by decide +kernel
theorem dX8_adds_95 : decode cX8_adds 95 = .ok (.iconst 4, 1) := by decide +kernel
theorem dX8_adds_96 : decode cX8_adds 96 = .ok (.iadd, 1) := by decide +kernel
theorem dX8_adds_97 : decode cX8_adds 97 = .ok (.iaload, 1) := by decide +kernel
theorem dX8_adds_98 : decode cX8_adds 98 = .ok (.invokevirtual 104, 3) := by decide +kernel
theorem dX8_adds_101 : decode cX8_adds 101 = .ok (.pop, 1) := by decide +kernel
theorem dX8_adds_102 : decode cX8_adds 102 = .ok (.iload_n 3, 1) := by decide +kernel
theorem dX8_adds_103 : decode cX8_adds 103 = .ok (.ifCond .ne 7, 3) := by decide +kernel
theorem dX8_adds_106 : decode cX8_adds 106 = .ok (.iconst 1, 1) := by decide +kernel
theorem dX8_adds_107 : decode cX8_adds 107 = .ok (.goto 4, 3) := by decide +kernel
theorem dX8_adds_110 : decode cX8_adds 110 = .ok (.iconst 0, 1) := by decide +kernel
theorem dX8_adds_111 : decode cX8_adds 111 = .ok (.ireturn, 1) := by decide +kernel
theorem dX8_addSheet_0 : decode cX8_addSheet 0 = .ok (.aload_n 0, 1) := by decide +kernel
theorem dX8_addSheet_1 : decode cX8_addSheet 1 = .ok (.invokevirtual 191, 3) := by decide +kernel
theorem dX8_addSheet_4 : decode cX8_addSheet 4 = .ok (.aload_n 0, 1) := by decide +kernel
theorem dX8_addSheet_5 : decode cX8_addSheet 5 = .ok (.getfield 165, 3) := by decide +kernel
theorem dX8_addSheet_8 : decode cX8_addSheet 8 = .ok (.if_icmp .ne 24, 3) := by decide +kernel
theorem dX8_addSheet_11 : decode cX8_addSheet 11 = .ok (.aload_n 0, 1) := by decide +kernel
theorem dX8_addSheet_12 : decode cX8_addSheet 12 = .ok (.getfield 171, 3) := by decide +kernel
theorem dX8_addSheet_15 : decode cX8_addSheet 15 = .ok (.iconst 5, 1) := by decide +kernel
theorem dX8_addSheet_16 : decode cX8_addSheet 16 = .ok (.if_icmp .ne 16, 3) := by decide +kernel
theorem dX8_addSheet_19 : decode cX8_addSheet 19 = .ok (.aload_n 0, 1) := by decide +kernel
theorem dX8_addSheet_20 : decode cX8_addSheet 20 = .ok (.getfield 168, 3) := by decide +kernel
theorem dX8_addSheet_23 : decode cX8_addSheet 23 = .ok (.bipush 30, 2) := by decide +kernel
theorem dX8_addSheet_25 : decode cX8_addSheet 25 = .ok (.if_icmp .lt 7, 3) := by decide +kernel
theorem dX8_addSheet_28 : decode cX8_addSheet 28 = .ok (.iconst 1, 1) := by decide +kernel
theorem dX8_addSheet_29 : decode cX8_addSheet 29 = .ok (.goto 4, 3) := by decide +kernel
theorem dX8_addSheet_32 : decode cX8_addSheet 32 = .ok (.iconst 0, 1) := by decide +kernel
theorem dX8_addSheet_33 : decode cX8_addSheet 33 = .ok (.istore_n 1, 1) := by decide +kernel
theorem dX8_addSheet_34 : decode cX8_addSheet 34 = .ok (.aload_n 0, 1) := by decide +kernel
theorem dX8_addSheet_35 : decode cX8_addSheet 35 = .ok (.iload_n 1, 1) := by decide +kernel
theorem dX8_addSheet_36 : decode cX8_addSheet 36 = .ok (.ifCond .eq 7, 3) := by decide +kernel
theorem dX8_addSheet_39 : decode cX8_addSheet 39 = .ok (.iconst 0, 1) := by decide +kernel
theorem dX8_addSheet_40 : decode cX8_addSheet 40 = .ok (.goto 4, 3) := by decide +kernel
theorem dX8_addSheet_43 : decode cX8_addSheet 43 = .ok (.iconst 1, 1) := by decide +kernel
theorem dX8_addSheet_44 : decode cX8_addSheet 44 = .ok (.putfield 25, 3) := by decide +kernel
theorem dX8_addSheet_47 : decode cX8_addSheet 47 = .ok (.aload_n 0, 1) := by decide +kernel
theorem dX8_addSheet_48 : decode cX8_addSheet 48 = .ok (.getfield 25, 3) := by decide +kernel
theorem dX8_addSheet_51 : decode cX8_addSheet 51 = .ok (.ifCond .le 5, 3) := by decide +kernel
theorem dX8_addSheet_54 : decode cX8_addSheet 54 = .ok (.iconst 0, 1) := by decide +kernel
theorem dX8_addSheet_55 : decode cX8_addSheet 55 = .ok (.ireturn, 1) := by decide +kernel
theorem dX8_addSheet_56 : decode cX8_addSheet 56 = .ok (.aload_n 0, 1) := by decide +kernel
theorem dX8_addSheet_57 : decode cX8_addSheet 57 = .ok (.invokevirtual 56, 3) := by decide +kernel
theorem dX8_addSheet_60 : decode cX8_addSheet 60 = .ok (.aload_n 0, 1) := by decide +kernel
theorem dX8_addSheet_61 : decode cX8_addSheet 61 = .ok (.iconst 0, 1) := by decide +kernel
theorem dX8_addSheet_62 : decode cX8_addSheet 62 = .ok (.invokevirtual 183, 3) := by decide +kernel
theorem dX8_addSheet_65 : decode cX8_addSheet 65 = .ok (.pop, 1) := by decide +kernel
theorem dX8_addSheet_66 : decode cX8_addSheet 66 = .ok (.aload_n 0, 1) := by decide +kernel
theorem dX8_addSheet_67 : decode cX8_addSheet 67 = .ok (.iconst 0, 1) := by decide +kernel
theorem dX8_addSheet_68 : decode cX8_addSheet 68 = .ok (.putfield 165, 3) := by decide +kernel
theorem dX8_addSheet_71 : decode cX8_addSheet 71 = .ok (.iconst 0, 1) := by decide +kernel
theorem dX8_addSheet_72 : decode cX8_addSheet 72 = .ok (.istore_n 2, 1) := by decide +kernel
theorem dX8_addSheet_73 : decode cX8_addSheet 73 = .ok (.iload_n 2, 1) := by decide +kernel
theorem dX8_addSheet_74 : decode cX8_addSheet 74 = .ok (.aload_n 0, 1) := by decide +kernel
theorem dX8_addSheet_75 : decode cX8_addSheet 75 = .ok (.getfield 177, 3) := by decide +kernel
theorem dX8_addSheet_78 : decode cX8_addSheet 78 = .ok (.if_icmp .gt 17, 3) := by decide +kernel
theorem dX8_addSheet_81 : decode cX8_addSheet 81 = .ok (.aload_n 0, 1) := by decide +kernel
theorem dX8_addSheet_82 : decode cX8_addSheet 82 = .ok (.iload_n 2, 1) := by decide +kernel
theorem dX8_addSheet_83 : decode cX8_addSheet 83 = .ok (.invokevirtual 194, 3) := by decide +kernel
theorem dX8_addSheet_86 : decode cX8_addSheet 86 = .ok (.ifCond .eq 9, 3) := by decide +kernel
theorem dX8_addSheet_89 : decode cX8_addSheet 89 = .ok (.iinc 2 1, 3) := by decide +kernel
theorem dX8_addSheet_92 : decode cX8_addSheet 92 = .ok (.goto (-19), 3) := by decide +kernel
theorem dX8_addSheet_95 : decode cX8_addSheet 95 = .ok (.iload_n 2, 1) := by decide +kernel
theorem dX8_addSheet_96 : decode cX8_addSheet 96 = .ok (.ireturn, 1) := by decide +kernel
theorem dX8_undo_0 : decode cX8_undo 0 = .ok (.aload_n 0, 1) := by decide +kernel
theorem dX8_undo_1 : decode cX8_undo 1 = .ok (.aload_n 0, 1) := by decide +kernel
theorem dX8_undo_2 : decode cX8_undo 2 = .ok (.getfield 29, 3) := by decide +kernel
theorem dX8_undo_5 : decode cX8_undo 5 = .ok (.ifCond .le 7, 3) := by decide +kernel
theorem dX8_undo_8 : decode cX8_undo 8 = .ok (.iconst 0, 1) := by decide +kernel
theorem dX8_undo_9 : decode cX8_undo 9 = .ok (.goto 4, 3) := by decide +kernel
theorem dX8_undo_12 : decode cX8_undo 12 = .ok (.iconst 1, 1) := by decide +kernel
theorem dX8_undo_13 : decode cX8_undo 13 = .ok (.putfield 25, 3) := by decide +kernel
theorem dX8_undo_16 : decode cX8_undo 16 = .ok (.aload_n 0, 1) := by decide +kernel
theorem dX8_undo_17 : decode cX8_undo 17 = .ok (.getfield 25, 3) := by decide +kernel
theorem dX8_undo_20 : decode cX8_undo 20 = .ok (.ifCond .le 5, 3) := by decide +kernel
theorem dX8_undo_23 : decode cX8_undo 23 = .ok (.iconst 0, 1) := by decide +kernel
theorem dX8_undo_24 : decode cX8_undo 24 = .ok (.ireturn, 1) := by decide +kernel
theorem dX8_undo_25 : decode cX8_undo 25 = .ok (.aload_n 0, 1) := by decide +kernel
theorem dX8_undo_26 : decode cX8_undo 26 = .ok (.dup, 1) := by decide +kernel
theorem dX8_undo_27 : decode cX8_undo 27 = .ok (.getfield 29, 3) := by decide +kernel
theorem dX8_undo_30 : decode cX8_undo 30 = .ok (.iconst 1, 1) := by decide +kernel
theorem dX8_undo_31 : decode cX8_undo 31 = .ok (.isub, 1) := by decide +kernel
theorem dX8_undo_32 : decode cX8_undo 32 = .ok (.putfield 29, 3) := by decide +kernel
theorem dX8_undo_35 : decode cX8_undo 35 = .ok (.iconst 0, 1) := by decide +kernel
theorem dX8_undo_36 : decode cX8_undo 36 = .ok (.istore_n 1, 1) := by decide +kernel
theorem dX8_undo_37 : decode cX8_undo 37 = .ok (.iload_n 1, 1) := by decide +kernel
theorem dX8_undo_38 : decode cX8_undo 38 = .ok (.sipush 1561, 3) := by decide +kernel
theorem dX8_undo_41 : decode cX8_undo 41 = .ok (.if_icmp .ge 30, 3) := by decide +kernel
theorem dX8_undo_44 : decode cX8_undo 44 = .ok (.aload_n 0, 1) := by decide +kernel
theorem dX8_undo_45 : decode cX8_undo 45 = .ok (.getfield 7, 3) := by decide +kernel
theorem dX8_undo_48 : decode cX8_undo 48 = .ok (.iload_n 1, 1) := by decide +kernel
theorem dX8_undo_49 : decode cX8_undo 49 = .ok (.aload_n 0, 1) := by decide +kernel
theorem dX8_undo_50 : decode cX8_undo 50 = .ok (.getfield 13, 3) := by decide +kernel
theorem dX8_undo_53 : decode cX8_undo 53 = .ok (.sipush 1561, 3) := by decide +kernel
theorem dX8_undo_56 : decode cX8_undo 56 = .ok (.aload_n 0, 1) := by decide +kernel
theorem dX8_undo_57 : decode cX8_undo 57 = .ok (.getfield 29, 3) := by decide +kernel
theorem dX8_undo_60 : decode cX8_undo 60 = .ok (.imul, 1) := by decide +kernel
theorem dX8_undo_61 : decode cX8_undo 61 = .ok (.iload_n 1, 1) := by decide +kernel
theorem dX8_undo_62 : decode cX8_undo 62 = .ok (.iadd, 1) := by decide +kernel
theorem dX8_undo_63 : decode cX8_undo 63 = .ok (.iaload, 1) := by decide +kernel
theorem dX8_undo_64 : decode cX8_undo 64 = .ok (.iastore, 1) := by decide +kernel
theorem dX8_undo_65 : decode cX8_undo 65 = .ok (.iinc 1 1, 3) := by decide +kernel
theorem dX8_undo_68 : decode cX8_undo 68 = .ok (.goto (-31), 3) := by decide +kernel
theorem dX8_undo_71 : decode cX8_undo 71 = .ok (.aload_n 0, 1) := by decide +kernel
theorem dX8_undo_72 : decode cX8_undo 72 = .ok (.getfield 29, 3) := by decide +kernel
theorem dX8_undo_75 : decode cX8_undo 75 = .ok (.ireturn, 1) := by decide +kernel
theorem dX8_unitsAt_0 : decode cX8_unitsAt 0 = .ok (.iconst 0, 1) := by decide +kernel
theorem dX8_unitsAt_1 : decode cX8_unitsAt 1 = .ok (.istore_n 3, 1) := by decide +kernel
theorem dX8_unitsAt_2 : decode cX8_unitsAt 2 = .ok (.iconst 0, 1) := by decide +kernel
theorem dX8_unitsAt_3 : decode cX8_unitsAt 3 = .ok (.istore 4, 2) := by decide +kernel
theorem dX8_unitsAt_5 : decode cX8_unitsAt 5 = .ok (.iload 4, 2) := by decide +kernel
theorem dX8_unitsAt_7 : decode cX8_unitsAt 7 = .ok (.aload_n 0, 1) := by decide +kernel
theorem dX8_unitsAt_8 : decode cX8_unitsAt 8 = .ok (.getfield 7, 3) := by decide +kernel
theorem dX8_unitsAt_11 : decode cX8_unitsAt 11 = .ok (.bipush 9, 2) := by decide +kernel
theorem dX8_unitsAt_13 : decode cX8_unitsAt 13 = .ok (.iaload, 1) := by decide +kernel
theorem dX8_unitsAt_14 : decode cX8_unitsAt 14 = .ok (.if_icmp .ge 63, 3) := by decide +kernel
theorem dX8_unitsAt_17 : decode cX8_unitsAt 17 = .ok (.aload_n 0, 1) := by decide +kernel
theorem dX8_unitsAt_18 : decode cX8_unitsAt 18 = .ok (.iload 4, 2) := by decide +kernel
theorem dX8_unitsAt_20 : decode cX8_unitsAt 20 = .ok (.invokevirtual 107, 3) := by decide +kernel
theorem dX8_unitsAt_23 : decode cX8_unitsAt 23 = .ok (.ifCond .eq 18, 3) := by decide +kernel
theorem dX8_unitsAt_26 : decode cX8_unitsAt 26 = .ok (.aload_n 0, 1) := by decide +kernel
theorem dX8_unitsAt_27 : decode cX8_unitsAt 27 = .ok (.iload 4, 2) := by decide +kernel
theorem dX8_unitsAt_29 : decode cX8_unitsAt 29 = .ok (.iconst 1, 1) := by decide +kernel
theorem dX8_unitsAt_30 : decode cX8_unitsAt 30 = .ok (.invokevirtual 93, 3) := by decide +kernel
theorem dX8_unitsAt_33 : decode cX8_unitsAt 33 = .ok (.iload_n 1, 1) := by decide +kernel
theorem dX8_unitsAt_34 : decode cX8_unitsAt 34 = .ok (.if_icmp .ne 7, 3) := by decide +kernel
theorem dX8_unitsAt_37 : decode cX8_unitsAt 37 = .ok (.iconst 1, 1) := by decide +kernel
theorem dX8_unitsAt_38 : decode cX8_unitsAt 38 = .ok (.goto 4, 3) := by decide +kernel
theorem dX8_unitsAt_41 : decode cX8_unitsAt 41 = .ok (.iconst 0, 1) := by decide +kernel
theorem dX8_unitsAt_42 : decode cX8_unitsAt 42 = .ok (.istore 5, 2) := by decide +kernel
theorem dX8_unitsAt_44 : decode cX8_unitsAt 44 = .ok (.iload_n 3, 1) := by decide +kernel
theorem dX8_unitsAt_45 : decode cX8_unitsAt 45 = .ok (.iload 5, 2) := by decide +kernel
theorem dX8_unitsAt_47 : decode cX8_unitsAt 47 = .ok (.ifCond .ne 7, 3) := by decide +kernel
theorem dX8_unitsAt_50 : decode cX8_unitsAt 50 = .ok (.iconst 0, 1) := by decide +kernel
theorem dX8_unitsAt_51 : decode cX8_unitsAt 51 = .ok (.goto 18, 3) := by decide +kernel
theorem dX8_unitsAt_54 : decode cX8_unitsAt 54 = .ok (.iload_n 2, 1) := by decide +kernel
theorem dX8_unitsAt_55 : decode cX8_unitsAt 55 = .ok (.iconst 2, 1) := by decide +kernel
theorem dX8_unitsAt_56 : decode cX8_unitsAt 56 = .ok (.if_icmp .ne 7, 3) := by decide +kernel
theorem dX8_unitsAt_59 : decode cX8_unitsAt 59 = .ok (.iconst 1, 1) := by decide +kernel
theorem dX8_unitsAt_60 : decode cX8_unitsAt 60 = .ok (.goto 9, 3) := by decide +kernel
theorem dX8_unitsAt_63 : decode cX8_unitsAt 63 = .ok (.aload_n 0, 1) := by decide +kernel
theorem dX8_unitsAt_64 : decode cX8_unitsAt 64 = .ok (.iload 4, 2) := by decide +kernel
theorem dX8_unitsAt_66 : decode cX8_unitsAt 66 = .ok (.invokevirtual 122, 3) := by decide +kernel
theorem dX8_unitsAt_69 : decode cX8_unitsAt 69 = .ok (.iadd, 1) := by decide +kernel
theorem dX8_unitsAt_70 : decode cX8_unitsAt 70 = .ok (.istore_n 3, 1) := by decide +kernel
theorem dX8_unitsAt_71 : decode cX8_unitsAt 71 = .ok (.iinc 4 1, 3) := by decide +kernel
theorem dX8_unitsAt_74 : decode cX8_unitsAt 74 = .ok (.goto (-69), 3) := by decide +kernel
theorem dX8_unitsAt_77 : decode cX8_unitsAt 77 = .ok (.iload_n 3, 1) := by decide +kernel
theorem dX8_unitsAt_78 : decode cX8_unitsAt 78 = .ok (.ireturn, 1) := by decide +kernel
theorem dX8_storesAt_0 : decode cX8_storesAt 0 = .ok (.iconst 0, 1) := by decide +kernel
theorem dX8_storesAt_1 : decode cX8_storesAt 1 = .ok (.istore_n 3, 1) := by decide +kernel
theorem dX8_storesAt_2 : decode cX8_storesAt 2 = .ok (.iconst 0, 1) := by decide +kernel
theorem dX8_storesAt_3 : decode cX8_storesAt 3 = .ok (.istore 4, 2) := by decide +kernel
theorem dX8_storesAt_5 : decode cX8_storesAt 5 = .ok (.iload 4, 2) := by decide +kernel
theorem dX8_storesAt_7 : decode cX8_storesAt 7 = .ok (.aload_n 0, 1) := by decide +kernel
theorem dX8_storesAt_8 : decode cX8_storesAt 8 = .ok (.getfield 7, 3) := by decide +kernel
theorem dX8_storesAt_11 : decode cX8_storesAt 11 = .ok (.bipush 7, 2) := by decide +kernel
theorem dX8_storesAt_13 : decode cX8_storesAt 13 = .ok (.iaload, 1) := by decide +kernel
theorem dX8_storesAt_14 : decode cX8_storesAt 14 = .ok (.if_icmp .ge 50, 3) := by decide +kernel
theorem dX8_storesAt_17 : decode cX8_storesAt 17 = .ok (.aload_n 0, 1) := by decide +kernel
theorem dX8_storesAt_18 : decode cX8_storesAt 18 = .ok (.getfield 7, 3) := by decide +kernel
theorem dX8_storesAt_21 : decode cX8_storesAt 21 = .ok (.bipush 33, 2) := by decide +kernel
theorem dX8_storesAt_23 : decode cX8_storesAt 23 = .ok (.iload 4, 2) := by decide +kernel
theorem dX8_storesAt_25 : decode cX8_storesAt 25 = .ok (.iadd, 1) := by decide +kernel
theorem dX8_storesAt_26 : decode cX8_storesAt 26 = .ok (.iaload, 1) := by decide +kernel
theorem dX8_storesAt_27 : decode cX8_storesAt 27 = .ok (.iload_n 1, 1) := by decide +kernel
theorem dX8_storesAt_28 : decode cX8_storesAt 28 = .ok (.if_icmp .ne 30, 3) := by decide +kernel
theorem dX8_storesAt_31 : decode cX8_storesAt 31 = .ok (.iload_n 3, 1) := by decide +kernel
theorem dX8_storesAt_32 : decode cX8_storesAt 32 = .ok (.iload_n 2, 1) := by decide +kernel
theorem dX8_storesAt_33 : decode cX8_storesAt 33 = .ok (.iconst 3, 1) := by decide +kernel
theorem dX8_storesAt_34 : decode cX8_storesAt 34 = .ok (.if_icmp .ne 7, 3) := by decide +kernel
theorem dX8_storesAt_37 : decode cX8_storesAt 37 = .ok (.iconst 1, 1) := by decide +kernel
theorem dX8_storesAt_38 : decode cX8_storesAt 38 = .ok (.goto 18, 3) := by decide +kernel
theorem dX8_storesAt_41 : decode cX8_storesAt 41 = .ok (.iload_n 2, 1) := by decide +kernel
theorem dX8_storesAt_42 : decode cX8_storesAt 42 = .ok (.iconst 5, 1) := by decide +kernel
theorem dX8_storesAt_43 : decode cX8_storesAt 43 = .ok (.if_icmp .ne 12, 3) := by decide +kernel
theorem dX8_storesAt_46 : decode cX8_storesAt 46 = .ok (.aload_n 0, 1) := by decide +kernel
theorem dX8_storesAt_47 : decode cX8_storesAt 47 = .ok (.iload 4, 2) := by decide +kernel
theorem dX8_storesAt_49 : decode cX8_storesAt 49 = .ok (.invokevirtual 87, 3) := by decide +kernel
theorem dX8_storesAt_52 : decode cX8_storesAt 52 = .ok (.goto 4, 3) := by decide +kernel
theorem dX8_storesAt_55 : decode cX8_storesAt 55 = .ok (.iconst 0, 1) := by decide +kernel
theorem dX8_storesAt_56 : decode cX8_storesAt 56 = .ok (.iadd, 1) := by decide +kernel
theorem dX8_storesAt_57 : decode cX8_storesAt 57 = .ok (.istore_n 3, 1) := by decide +kernel
theorem dX8_storesAt_58 : decode cX8_storesAt 58 = .ok (.iinc 4 1, 3) := by decide +kernel
theorem dX8_storesAt_61 : decode cX8_storesAt 61 = .ok (.goto (-56), 3) := by decide +kernel
theorem dX8_storesAt_64 : decode cX8_storesAt 64 = .ok (.iconst 0, 1) := by decide +kernel
theorem dX8_storesAt_65 : decode cX8_storesAt 65 = .ok (.istore 4, 2) := by decide +kernel
theorem dX8_storesAt_67 : decode cX8_storesAt 67 = .ok (.iload 4, 2) := by decide +kernel
theorem dX8_storesAt_69 : decode cX8_storesAt 69 = .ok (.aload_n 0, 1) := by decide +kernel
theorem dX8_storesAt_70 : decode cX8_storesAt 70 = .ok (.getfield 7, 3) := by decide +kernel
theorem dX8_storesAt_73 : decode cX8_storesAt 73 = .ok (.bipush 8, 2) := by decide +kernel
theorem dX8_storesAt_75 : decode cX8_storesAt 75 = .ok (.iaload, 1) := by decide +kernel
theorem dX8_storesAt_76 : decode cX8_storesAt 76 = .ok (.if_icmp .ge 48, 3) := by decide +kernel
theorem dX8_storesAt_79 : decode cX8_storesAt 79 = .ok (.aload_n 0, 1) := by decide +kernel
theorem dX8_storesAt_80 : decode cX8_storesAt 80 = .ok (.iload 4, 2) := by decide +kernel
theorem dX8_storesAt_82 : decode cX8_storesAt 82 = .ok (.iload_n 1, 1) := by decide +kernel
theorem dX8_storesAt_83 : decode cX8_storesAt 83 = .ok (.invokevirtual 84, 3) := by decide +kernel
theorem dX8_storesAt_86 : decode cX8_storesAt 86 = .ok (.ifCond .eq 32, 3) := by decide +kernel
theorem dX8_storesAt_89 : decode cX8_storesAt 89 = .ok (.iload_n 3, 1) := by decide +kernel
theorem dX8_storesAt_90 : decode cX8_storesAt 90 = .ok (.iload_n 2, 1) := by decide +kernel
theorem dX8_storesAt_91 : decode cX8_storesAt 91 = .ok (.iconst 4, 1) := by decide +kernel
theorem dX8_storesAt_92 : decode cX8_storesAt 92 = .ok (.if_icmp .ne 7, 3) := by decide +kernel
theorem dX8_storesAt_95 : decode cX8_storesAt 95 = .ok (.iconst 1, 1) := by decide +kernel
theorem dX8_storesAt_96 : decode cX8_storesAt 96 = .ok (.goto 20, 3) := by decide +kernel
theorem dX8_storesAt_99 : decode cX8_storesAt 99 = .ok (.iload_n 2, 1) := by decide +kernel
theorem dX8_storesAt_100 : decode cX8_storesAt 100 = .ok (.iconst 5, 1) := by decide +kernel
theorem dX8_storesAt_101 : decode cX8_storesAt 101 = .ok (.if_icmp .ne 14, 3) := by decide +kernel
theorem dX8_storesAt_104 : decode cX8_storesAt 104 = .ok (.aload_n 0, 1) := by decide +kernel
theorem dX8_storesAt_105 : decode cX8_storesAt 105 = .ok (.iconst 3, 1) := by decide +kernel
theorem dX8_storesAt_106 : decode cX8_storesAt 106 = .ok (.iload 4, 2) := by decide +kernel
theorem dX8_storesAt_108 : decode cX8_storesAt 108 = .ok (.iadd, 1) := by decide +kernel
theorem dX8_storesAt_109 : decode cX8_storesAt 109 = .ok (.invokevirtual 87, 3) := by decide +kernel
theorem dX8_storesAt_112 : decode cX8_storesAt 112 = .ok (.goto 4, 3) := by decide +kernel
theorem dX8_storesAt_115 : decode cX8_storesAt 115 = .ok (.iconst 0, 1) := by decide +kernel
theorem dX8_storesAt_116 : decode cX8_storesAt 116 = .ok (.iadd, 1) := by decide +kernel
theorem dX8_storesAt_117 : decode cX8_storesAt 117 = .ok (.istore_n 3, 1) := by decide +kernel
theorem dX8_storesAt_118 : decode cX8_storesAt 118 = .ok (.iinc 4 1, 3) := by decide +kernel
theorem dX8_storesAt_121 : decode cX8_storesAt 121 = .ok (.goto (-54), 3) := by decide +kernel
theorem dX8_storesAt_124 : decode cX8_storesAt 124 = .ok (.iload_n 3, 1) := by decide +kernel
theorem dX8_storesAt_125 : decode cX8_storesAt 125 = .ok (.ireturn, 1) := by decide +kernel
theorem dX8_placeNow_0 : decode cX8_placeNow 0 = .ok (.iload_n 2, 1) := by decide +kernel
theorem dX8_placeNow_1 : decode cX8_placeNow 1 = .ok (.tableswitch 70 0 6 #[43, 53, 63, 70, 70, 70, 63], 43) := by decide +kernel
theorem dX8_placeNow_44 : decode cX8_placeNow 44 = .ok (.aload_n 0, 1) := by decide +kernel
theorem dX8_placeNow_45 : decode cX8_placeNow 45 = .ok (.getfield 7, 3) := by decide +kernel
theorem dX8_placeNow_48 : decode cX8_placeNow 48 = .ok (.bipush 17, 2) := by decide +kernel
theorem dX8_placeNow_50 : decode cX8_placeNow 50 = .ok (.iload_n 1, 1) := by decide +kernel
theorem dX8_placeNow_51 : decode cX8_placeNow 51 = .ok (.iadd, 1) := by decide +kernel
theorem dX8_placeNow_52 : decode cX8_placeNow 52 = .ok (.iaload, 1) := by decide +kernel
theorem dX8_placeNow_53 : decode cX8_placeNow 53 = .ok (.ireturn, 1) := by decide +kernel
theorem dX8_placeNow_54 : decode cX8_placeNow 54 = .ok (.aload_n 0, 1) := by decide +kernel
theorem dX8_placeNow_55 : decode cX8_placeNow 55 = .ok (.getfield 7, 3) := by decide +kernel
theorem dX8_placeNow_58 : decode cX8_placeNow 58 = .ok (.bipush 25, 2) := by decide +kernel
theorem dX8_placeNow_60 : decode cX8_placeNow 60 = .ok (.iload_n 1, 1) := by decide +kernel
theorem dX8_placeNow_61 : decode cX8_placeNow 61 = .ok (.iadd, 1) := by decide +kernel
theorem dX8_placeNow_62 : decode cX8_placeNow 62 = .ok (.iaload, 1) := by decide +kernel
theorem dX8_placeNow_63 : decode cX8_placeNow 63 = .ok (.ireturn, 1) := by decide +kernel
theorem dX8_placeNow_64 : decode cX8_placeNow 64 = .ok (.aload_n 0, 1) := by decide +kernel
theorem dX8_placeNow_65 : decode cX8_placeNow 65 = .ok (.iload_n 1, 1) := by decide +kernel
theorem dX8_placeNow_66 : decode cX8_placeNow 66 = .ok (.iload_n 2, 1) := by decide +kernel
theorem dX8_placeNow_67 : decode cX8_placeNow 67 = .ok (.invokevirtual 197, 3) := by decide +kernel
theorem dX8_placeNow_70 : decode cX8_placeNow 70 = .ok (.ireturn, 1) := by decide +kernel
theorem dX8_placeNow_71 : decode cX8_placeNow 71 = .ok (.aload_n 0, 1) := by decide +kernel
theorem dX8_placeNow_72 : decode cX8_placeNow 72 = .ok (.iload_n 1, 1) := by decide +kernel
theorem dX8_placeNow_73 : decode cX8_placeNow 73 = .ok (.iload_n 2, 1) := by decide +kernel
theorem dX8_placeNow_74 : decode cX8_placeNow 74 = .ok (.invokevirtual 200, 3) := by decide +kernel
theorem dX8_placeNow_77 : decode cX8_placeNow 77 = .ok (.ireturn, 1) := by decide +kernel
theorem dX8_place_0 : decode cX8_place 0 = .ok (.aload_n 0, 1) := by decide +kernel
theorem dX8_place_1 : decode cX8_place 1 = .ok (.aload_n 0, 1) := by decide +kernel
theorem dX8_place_2 : decode cX8_place 2 = .ok (.iload_n 1, 1) := by decide +kernel
theorem dX8_place_3 : decode cX8_place 3 = .ok (.invokevirtual 59, 3) := by decide +kernel
theorem dX8_place_6 : decode cX8_place 6 = .ok (.ifCond .ne 7, 3) := by decide +kernel
theorem dX8_place_9 : decode cX8_place 9 = .ok (.iconst 1, 1) := by decide +kernel
theorem dX8_place_10 : decode cX8_place 10 = .ok (.goto 18, 3) := by decide +kernel
theorem dX8_place_13 : decode cX8_place 13 = .ok (.iload_n 2, 1) := by decide +kernel
theorem dX8_place_14 : decode cX8_place 14 = .ok (.iconst 0, 1) := by decide +kernel
theorem dX8_place_15 : decode cX8_place 15 = .ok (.bipush 6, 2) := by decide +kernel
theorem dX8_place_17 : decode cX8_place 17 = .ok (.invokestatic 32, 3) := by decide +kernel
theorem dX8_place_20 : decode cX8_place 20 = .ok (.ifCond .eq 7, 3) := by decide +kernel
theorem dX8_place_23 : decode cX8_place 23 = .ok (.iconst 0, 1) := by decide +kernel
theorem dX8_place_24 : decode cX8_place 24 = .ok (.goto 4, 3) := by decide +kernel
theorem dX8_place_27 : decode cX8_place 27 = .ok (.iconst 2, 1) := by decide +kernel
theorem dX8_place_28 : decode cX8_place 28 = .ok (.putfield 25, 3) := by decide +kernel
theorem dX8_place_31 : decode cX8_place 31 = .ok (.aload_n 0, 1) := by decide +kernel
theorem dX8_place_32 : decode cX8_place 32 = .ok (.getfield 25, 3) := by decide +kernel
theorem dX8_place_35 : decode cX8_place 35 = .ok (.ifCond .le 7, 3) := by decide +kernel
theorem dX8_place_38 : decode cX8_place 38 = .ok (.iconst 0, 1) := by decide +kernel
theorem dX8_place_39 : decode cX8_place 39 = .ok (.goto 9, 3) := by decide +kernel
theorem dX8_place_42 : decode cX8_place 42 = .ok (.aload_n 0, 1) := by decide +kernel
theorem dX8_place_43 : decode cX8_place 43 = .ok (.iload_n 1, 1) := by decide +kernel
theorem dX8_place_44 : decode cX8_place 44 = .ok (.iload_n 2, 1) := by decide +kernel
theorem dX8_place_45 : decode cX8_place 45 = .ok (.invokevirtual 203, 3) := by decide +kernel
theorem dX8_place_48 : decode cX8_place 48 = .ok (.ireturn, 1) := by decide +kernel
theorem dX8_unitNow_0 : decode cX8_unitNow 0 = .ok (.aload_n 0, 1) := by decide +kernel
theorem dX8_unitNow_1 : decode cX8_unitNow 1 = .ok (.iload_n 1, 1) := by decide +kernel
theorem dX8_unitNow_2 : decode cX8_unitNow 2 = .ok (.invokevirtual 107, 3) := by decide +kernel
theorem dX8_unitNow_5 : decode cX8_unitNow 5 = .ok (.ifCond .ne 17, 3) := by decide +kernel
theorem dX8_unitNow_8 : decode cX8_unitNow 8 = .ok (.iload_n 2, 1) := by decide +kernel
theorem dX8_unitNow_9 : decode cX8_unitNow 9 = .ok (.iconst 1, 1) := by decide +kernel
theorem dX8_unitNow_10 : decode cX8_unitNow 10 = .ok (.bipush 8, 2) := by decide +kernel
theorem dX8_unitNow_12 : decode cX8_unitNow 12 = .ok (.invokestatic 32, 3) := by decide +kernel
theorem dX8_unitNow_15 : decode cX8_unitNow 15 = .ok (.ifCond .eq 7, 3) := by decide +kernel
theorem dX8_unitNow_18 : decode cX8_unitNow 18 = .ok (.iconst (-1), 1) := by decide +kernel
theorem dX8_unitNow_19 : decode cX8_unitNow 19 = .ok (.goto 9, 3) := by decide +kernel
theorem dX8_unitNow_22 : decode cX8_unitNow 22 = .ok (.aload_n 0, 1) := by decide +kernel
theorem dX8_unitNow_23 : decode cX8_unitNow 23 = .ok (.iload_n 1, 1) := by decide +kernel
theorem dX8_unitNow_24 : decode cX8_unitNow 24 = .ok (.iload_n 2, 1) := by decide +kernel
theorem dX8_unitNow_25 : decode cX8_unitNow 25 = .ok (.invokevirtual 93, 3) := by decide +kernel
theorem dX8_unitNow_28 : decode cX8_unitNow 28 = .ok (.ireturn, 1) := by decide +kernel
theorem dX8_unit_0 : decode cX8_unit 0 = .ok (.aload_n 0, 1) := by decide +kernel
theorem dX8_unit_1 : decode cX8_unit 1 = .ok (.aload_n 0, 1) := by decide +kernel
theorem dX8_unit_2 : decode cX8_unit 2 = .ok (.iload_n 1, 1) := by decide +kernel
theorem dX8_unit_3 : decode cX8_unit 3 = .ok (.invokevirtual 110, 3) := by decide +kernel
theorem dX8_unit_6 : decode cX8_unit 6 = .ok (.ifCond .ne 7, 3) := by decide +kernel
theorem dX8_unit_9 : decode cX8_unit 9 = .ok (.iconst 1, 1) := by decide +kernel
theorem dX8_unit_10 : decode cX8_unit 10 = .ok (.goto 18, 3) := by decide +kernel
theorem dX8_unit_13 : decode cX8_unit 13 = .ok (.iload_n 2, 1) := by decide +kernel
theorem dX8_unit_14 : decode cX8_unit 14 = .ok (.iconst 0, 1) := by decide +kernel
theorem dX8_unit_15 : decode cX8_unit 15 = .ok (.bipush 11, 2) := by decide +kernel
theorem dX8_unit_17 : decode cX8_unit 17 = .ok (.invokestatic 32, 3) := by decide +kernel
theorem dX8_unit_20 : decode cX8_unit 20 = .ok (.ifCond .eq 7, 3) := by decide +kernel
theorem dX8_unit_23 : decode cX8_unit 23 = .ok (.iconst 0, 1) := by decide +kernel
theorem dX8_unit_24 : decode cX8_unit 24 = .ok (.goto 4, 3) := by decide +kernel
theorem dX8_unit_27 : decode cX8_unit 27 = .ok (.iconst 2, 1) := by decide +kernel
theorem dX8_unit_28 : decode cX8_unit 28 = .ok (.putfield 25, 3) := by decide +kernel
theorem dX8_unit_31 : decode cX8_unit 31 = .ok (.aload_n 0, 1) := by decide +kernel
theorem dX8_unit_32 : decode cX8_unit 32 = .ok (.getfield 25, 3) := by decide +kernel
theorem dX8_unit_35 : decode cX8_unit 35 = .ok (.ifCond .le 7, 3) := by decide +kernel
theorem dX8_unit_38 : decode cX8_unit 38 = .ok (.iconst 0, 1) := by decide +kernel
theorem dX8_unit_39 : decode cX8_unit 39 = .ok (.goto 9, 3) := by decide +kernel
theorem dX8_unit_42 : decode cX8_unit 42 = .ok (.aload_n 0, 1) := by decide +kernel
theorem dX8_unit_43 : decode cX8_unit 43 = .ok (.iload_n 1, 1) := by decide +kernel
theorem dX8_unit_44 : decode cX8_unit 44 = .ok (.iload_n 2, 1) := by decide +kernel
theorem dX8_unit_45 : decode cX8_unit 45 = .ok (.invokevirtual 206, 3) := by decide +kernel
theorem dX8_unit_48 : decode cX8_unit 48 = .ok (.ireturn, 1) := by decide +kernel
theorem dX8_kitchenNow_0 : decode cX8_kitchenNow 0 = .ok (.iload_n 2, 1) := by decide +kernel
theorem dX8_kitchenNow_1 : decode cX8_kitchenNow 1 = .ok (.tableswitch 147 0 10 #[59, 69, 69, 69, 85, 111, 121, 121, 121, 131, 137], 59) := by decide +kernel
theorem dX8_kitchenNow_60 : decode cX8_kitchenNow 60 = .ok (.aload_n 0, 1) := by decide +kernel
theorem dX8_kitchenNow_61 : decode cX8_kitchenNow 61 = .ok (.getfield 7, 3) := by decide +kernel
theorem dX8_kitchenNow_64 : decode cX8_kitchenNow 64 = .ok (.bipush 33, 2) := by decide +kernel
theorem dX8_kitchenNow_66 : decode cX8_kitchenNow 66 = .ok (.iload_n 1, 1) := by decide +kernel
theorem dX8_kitchenNow_67 : decode cX8_kitchenNow 67 = .ok (.iadd, 1) := by decide +kernel
theorem dX8_kitchenNow_68 : decode cX8_kitchenNow 68 = .ok (.iaload, 1) := by decide +kernel
theorem dX8_kitchenNow_69 : decode cX8_kitchenNow 69 = .ok (.ireturn, 1) := by decide +kernel
theorem dX8_kitchenNow_70 : decode cX8_kitchenNow 70 = .ok (.aload_n 0, 1) := by decide +kernel
theorem dX8_kitchenNow_71 : decode cX8_kitchenNow 71 = .ok (.getfield 7, 3) := by decide +kernel
theorem dX8_kitchenNow_74 : decode cX8_kitchenNow 74 = .ok (.bipush 36, 2) := by decide +kernel
theorem dX8_kitchenNow_76 : decode cX8_kitchenNow 76 = .ok (.iconst 3, 1) := by decide +kernel
theorem dX8_kitchenNow_77 : decode cX8_kitchenNow 77 = .ok (.iload_n 1, 1) := by decide +kernel
theorem dX8_kitchenNow_78 : decode cX8_kitchenNow 78 = .ok (.imul, 1) := by decide +kernel
theorem dX8_kitchenNow_79 : decode cX8_kitchenNow 79 = .ok (.iadd, 1) := by decide +kernel
theorem dX8_kitchenNow_80 : decode cX8_kitchenNow 80 = .ok (.iload_n 2, 1) := by decide +kernel
theorem dX8_kitchenNow_81 : decode cX8_kitchenNow 81 = .ok (.iadd, 1) := by decide +kernel
theorem dX8_kitchenNow_82 : decode cX8_kitchenNow 82 = .ok (.iconst 1, 1) := by decide +kernel
theorem dX8_kitchenNow_83 : decode cX8_kitchenNow 83 = .ok (.isub, 1) := by decide +kernel
theorem dX8_kitchenNow_84 : decode cX8_kitchenNow 84 = .ok (.iaload, 1) := by decide +kernel
theorem dX8_kitchenNow_85 : decode cX8_kitchenNow 85 = .ok (.ireturn, 1) := by decide +kernel
theorem dX8_kitchenNow_86 : decode cX8_kitchenNow 86 = .ok (.aload_n 0, 1) := by decide +kernel
theorem dX8_kitchenNow_87 : decode cX8_kitchenNow 87 = .ok (.getfield 7, 3) := by decide +kernel
theorem dX8_kitchenNow_90 : decode cX8_kitchenNow 90 = .ok (.bipush 48, 2) := by decide +kernel
theorem dX8_kitchenNow_92 : decode cX8_kitchenNow 92 = .ok (.iload_n 1, 1) := by decide +kernel
theorem dX8_kitchenNow_93 : decode cX8_kitchenNow 93 = .ok (.iadd, 1) := by decide +kernel
theorem dX8_kitchenNow_94 : decode cX8_kitchenNow 94 = .ok (.iaload, 1) := by decide +kernel
theorem dX8_kitchenNow_95 : decode cX8_kitchenNow 95 = .ok (.ifCond .ne 7, 3) := by decide +kernel
theorem dX8_kitchenNow_98 : decode cX8_kitchenNow 98 = .ok (.iconst (-1), 1) := by decide +kernel
theorem dX8_kitchenNow_99 : decode cX8_kitchenNow 99 = .ok (.goto 12, 3) := by decide +kernel
theorem dX8_kitchenNow_102 : decode cX8_kitchenNow 102 = .ok (.aload_n 0, 1) := by decide +kernel
theorem dX8_kitchenNow_103 : decode cX8_kitchenNow 103 = .ok (.getfield 7, 3) := by decide +kernel
theorem dX8_kitchenNow_106 : decode cX8_kitchenNow 106 = .ok (.bipush 45, 2) := by decide +kernel
theorem dX8_kitchenNow_108 : decode cX8_kitchenNow 108 = .ok (.iload_n 1, 1) := by decide +kernel
theorem dX8_kitchenNow_109 : decode cX8_kitchenNow 109 = .ok (.iadd, 1) := by decide +kernel
theorem dX8_kitchenNow_110 : decode cX8_kitchenNow 110 = .ok (.iaload, 1) := by decide +kernel
theorem dX8_kitchenNow_111 : decode cX8_kitchenNow 111 = .ok (.ireturn, 1) := by decide +kernel
theorem dX8_kitchenNow_112 : decode cX8_kitchenNow 112 = .ok (.aload_n 0, 1) := by decide +kernel
theorem dX8_kitchenNow_113 : decode cX8_kitchenNow 113 = .ok (.getfield 7, 3) := by decide +kernel
theorem dX8_kitchenNow_116 : decode cX8_kitchenNow 116 = .ok (.bipush 48, 2) := by decide +kernel
theorem dX8_kitchenNow_118 : decode cX8_kitchenNow 118 = .ok (.iload_n 1, 1) := by decide +kernel
theorem dX8_kitchenNow_119 : decode cX8_kitchenNow 119 = .ok (.iadd, 1) := by decide +kernel
theorem dX8_kitchenNow_120 : decode cX8_kitchenNow 120 = .ok (.iaload, 1) := by decide +kernel
theorem dX8_kitchenNow_121 : decode cX8_kitchenNow 121 = .ok (.ireturn, 1) := by decide +kernel
theorem dX8_kitchenNow_122 : decode cX8_kitchenNow 122 = .ok (.aload_n 0, 1) := by decide +kernel
theorem dX8_kitchenNow_123 : decode cX8_kitchenNow 123 = .ok (.iload_n 1, 1) := by decide +kernel
theorem dX8_kitchenNow_124 : decode cX8_kitchenNow 124 = .ok (.iload_n 2, 1) := by decide +kernel
theorem dX8_kitchenNow_125 : decode cX8_kitchenNow 125 = .ok (.bipush 6, 2) := by decide +kernel
theorem dX8_kitchenNow_127 : decode cX8_kitchenNow 127 = .ok (.isub, 1) := by decide +kernel
theorem dX8_kitchenNow_128 : decode cX8_kitchenNow 128 = .ok (.invokevirtual 36, 3) := by decide +kernel
theorem dX8_kitchenNow_131 : decode cX8_kitchenNow 131 = .ok (.ireturn, 1) := by decide +kernel
theorem dX8_kitchenNow_132 : decode cX8_kitchenNow 132 = .ok (.aload_n 0, 1) := by decide +kernel
theorem dX8_kitchenNow_133 : decode cX8_kitchenNow 133 = .ok (.iload_n 1, 1) := by decide +kernel
theorem dX8_kitchenNow_134 : decode cX8_kitchenNow 134 = .ok (.invokevirtual 209, 3) := by decide +kernel
theorem dX8_kitchenNow_137 : decode cX8_kitchenNow 137 = .ok (.ireturn, 1) := by decide +kernel
theorem dX8_kitchenNow_138 : decode cX8_kitchenNow 138 = .ok (.aload_n 0, 1) := by decide +kernel
theorem dX8_kitchenNow_139 : decode cX8_kitchenNow 139 = .ok (.getfield 7, 3) := by decide +kernel
theorem dX8_kitchenNow_142 : decode cX8_kitchenNow 142 = .ok (.bipush 51, 2) := by decide +kernel
theorem dX8_kitchenNow_144 : decode cX8_kitchenNow 144 = .ok (.iload_n 1, 1) := by decide +kernel
theorem dX8_kitchenNow_145 : decode cX8_kitchenNow 145 = .ok (.iadd, 1) := by decide +kernel
theorem dX8_kitchenNow_146 : decode cX8_kitchenNow 146 = .ok (.iaload, 1) := by decide +kernel
theorem dX8_kitchenNow_147 : decode cX8_kitchenNow 147 = .ok (.ireturn, 1) := by decide +kernel
theorem dX8_kitchenNow_148 : decode cX8_kitchenNow 148 = .ok (.aload_n 0, 1) := by decide +kernel
theorem dX8_kitchenNow_149 : decode cX8_kitchenNow 149 = .ok (.getfield 7, 3) := by decide +kernel
theorem dX8_kitchenNow_152 : decode cX8_kitchenNow 152 = .ok (.bipush 54, 2) := by decide +kernel
theorem dX8_kitchenNow_154 : decode cX8_kitchenNow 154 = .ok (.iload_n 1, 1) := by decide +kernel
theorem dX8_kitchenNow_155 : decode cX8_kitchenNow 155 = .ok (.iadd, 1) := by decide +kernel
theorem dX8_kitchenNow_156 : decode cX8_kitchenNow 156 = .ok (.iaload, 1) := by decide +kernel
theorem dX8_kitchenNow_157 : decode cX8_kitchenNow 157 = .ok (.ireturn, 1) := by decide +kernel
theorem dX8_kitchen_0 : decode cX8_kitchen 0 = .ok (.aload_n 0, 1) := by decide +kernel
theorem dX8_kitchen_1 : decode cX8_kitchen 1 = .ok (.aload_n 0, 1) := by decide +kernel
theorem dX8_kitchen_2 : decode cX8_kitchen 2 = .ok (.iload_n 1, 1) := by decide +kernel
theorem dX8_kitchen_3 : decode cX8_kitchen 3 = .ok (.invokevirtual 69, 3) := by decide +kernel
theorem dX8_kitchen_6 : decode cX8_kitchen 6 = .ok (.ifCond .ne 7, 3) := by decide +kernel
theorem dX8_kitchen_9 : decode cX8_kitchen 9 = .ok (.iconst 1, 1) := by decide +kernel
theorem dX8_kitchen_10 : decode cX8_kitchen 10 = .ok (.goto 18, 3) := by decide +kernel
theorem dX8_kitchen_13 : decode cX8_kitchen 13 = .ok (.iload_n 2, 1) := by decide +kernel
theorem dX8_kitchen_14 : decode cX8_kitchen 14 = .ok (.iconst 0, 1) := by decide +kernel
theorem dX8_kitchen_15 : decode cX8_kitchen 15 = .ok (.bipush 11, 2) := by decide +kernel
theorem dX8_kitchen_17 : decode cX8_kitchen 17 = .ok (.invokestatic 32, 3) := by decide +kernel
theorem dX8_kitchen_20 : decode cX8_kitchen 20 = .ok (.ifCond .eq 7, 3) := by decide +kernel
theorem dX8_kitchen_23 : decode cX8_kitchen 23 = .ok (.iconst 0, 1) := by decide +kernel
theorem dX8_kitchen_24 : decode cX8_kitchen 24 = .ok (.goto 4, 3) := by decide +kernel
theorem dX8_kitchen_27 : decode cX8_kitchen 27 = .ok (.iconst 2, 1) := by decide +kernel
theorem dX8_kitchen_28 : decode cX8_kitchen 28 = .ok (.putfield 25, 3) := by decide +kernel
theorem dX8_kitchen_31 : decode cX8_kitchen 31 = .ok (.aload_n 0, 1) := by decide +kernel
theorem dX8_kitchen_32 : decode cX8_kitchen 32 = .ok (.getfield 25, 3) := by decide +kernel
theorem dX8_kitchen_35 : decode cX8_kitchen 35 = .ok (.ifCond .le 7, 3) := by decide +kernel
theorem dX8_kitchen_38 : decode cX8_kitchen 38 = .ok (.iconst 0, 1) := by decide +kernel
theorem dX8_kitchen_39 : decode cX8_kitchen 39 = .ok (.goto 9, 3) := by decide +kernel
theorem dX8_kitchen_42 : decode cX8_kitchen 42 = .ok (.aload_n 0, 1) := by decide +kernel
theorem dX8_kitchen_43 : decode cX8_kitchen 43 = .ok (.iload_n 1, 1) := by decide +kernel
theorem dX8_kitchen_44 : decode cX8_kitchen 44 = .ok (.iload_n 2, 1) := by decide +kernel
theorem dX8_kitchen_45 : decode cX8_kitchen 45 = .ok (.invokevirtual 212, 3) := by decide +kernel
theorem dX8_kitchen_48 : decode cX8_kitchen 48 = .ok (.ireturn, 1) := by decide +kernel
theorem dX8_lorryNow_0 : decode cX8_lorryNow 0 = .ok (.iload_n 2, 1) := by decide +kernel
theorem dX8_lorryNow_1 : decode cX8_lorryNow 1 = .ok (.tableswitch 130 0 7 #[47, 69, 91, 101, 101, 101, 112, 120], 47) := by decide +kernel
theorem dX8_lorryNow_48 : decode cX8_lorryNow 48 = .ok (.aload_n 0, 1) := by decide +kernel
theorem dX8_lorryNow_49 : decode cX8_lorryNow 49 = .ok (.iload_n 1, 1) := by decide +kernel
theorem dX8_lorryNow_50 : decode cX8_lorryNow 50 = .ok (.invokevirtual 48, 3) := by decide +kernel
theorem dX8_lorryNow_53 : decode cX8_lorryNow 53 = .ok (.ifCond .eq 15, 3) := by decide +kernel
theorem dX8_lorryNow_56 : decode cX8_lorryNow 56 = .ok (.aload_n 0, 1) := by decide +kernel
theorem dX8_lorryNow_57 : decode cX8_lorryNow 57 = .ok (.getfield 7, 3) := by decide +kernel
theorem dX8_lorryNow_60 : decode cX8_lorryNow 60 = .ok (.bipush 57, 2) := by decide +kernel
theorem dX8_lorryNow_62 : decode cX8_lorryNow 62 = .ok (.iload_n 1, 1) := by decide +kernel
theorem dX8_lorryNow_63 : decode cX8_lorryNow 63 = .ok (.iadd, 1) := by decide +kernel
theorem dX8_lorryNow_64 : decode cX8_lorryNow 64 = .ok (.iaload, 1) := by decide +kernel
theorem dX8_lorryNow_65 : decode cX8_lorryNow 65 = .ok (.goto 4, 3) := by decide +kernel
theorem dX8_lorryNow_68 : decode cX8_lorryNow 68 = .ok (.iconst (-1), 1) := by decide +kernel
theorem dX8_lorryNow_69 : decode cX8_lorryNow 69 = .ok (.ireturn, 1) := by decide +kernel
theorem dX8_lorryNow_70 : decode cX8_lorryNow 70 = .ok (.aload_n 0, 1) := by decide +kernel
theorem dX8_lorryNow_71 : decode cX8_lorryNow 71 = .ok (.iload_n 1, 1) := by decide +kernel
theorem dX8_lorryNow_72 : decode cX8_lorryNow 72 = .ok (.invokevirtual 48, 3) := by decide +kernel
theorem dX8_lorryNow_75 : decode cX8_lorryNow 75 = .ok (.ifCond .eq 7, 3) := by decide +kernel
theorem dX8_lorryNow_78 : decode cX8_lorryNow 78 = .ok (.iconst (-1), 1) := by decide +kernel
theorem dX8_lorryNow_79 : decode cX8_lorryNow 79 = .ok (.goto 12, 3) := by decide +kernel
theorem dX8_lorryNow_82 : decode cX8_lorryNow 82 = .ok (.aload_n 0, 1) := by decide +kernel
theorem dX8_lorryNow_83 : decode cX8_lorryNow 83 = .ok (.getfield 7, 3) := by decide +kernel
theorem dX8_lorryNow_86 : decode cX8_lorryNow 86 = .ok (.bipush 57, 2) := by decide +kernel
theorem dX8_lorryNow_88 : decode cX8_lorryNow 88 = .ok (.iload_n 1, 1) := by decide +kernel
theorem dX8_lorryNow_89 : decode cX8_lorryNow 89 = .ok (.iadd, 1) := by decide +kernel
theorem dX8_lorryNow_90 : decode cX8_lorryNow 90 = .ok (.iaload, 1) := by decide +kernel
theorem dX8_lorryNow_91 : decode cX8_lorryNow 91 = .ok (.ireturn, 1) := by decide +kernel
theorem dX8_lorryNow_92 : decode cX8_lorryNow 92 = .ok (.aload_n 0, 1) := by decide +kernel
theorem dX8_lorryNow_93 : decode cX8_lorryNow 93 = .ok (.getfield 7, 3) := by decide +kernel
theorem dX8_lorryNow_96 : decode cX8_lorryNow 96 = .ok (.bipush 61, 2) := by decide +kernel
theorem dX8_lorryNow_98 : decode cX8_lorryNow 98 = .ok (.iload_n 1, 1) := by decide +kernel
theorem dX8_lorryNow_99 : decode cX8_lorryNow 99 = .ok (.iadd, 1) := by decide +kernel
theorem dX8_lorryNow_100 : decode cX8_lorryNow 100 = .ok (.iaload, 1) := by decide +kernel
theorem dX8_lorryNow_101 : decode cX8_lorryNow 101 = .ok (.ireturn, 1) := by decide +kernel
theorem dX8_lorryNow_102 : decode cX8_lorryNow 102 = .ok (.aload_n 0, 1) := by decide +kernel
theorem dX8_lorryNow_103 : decode cX8_lorryNow 103 = .ok (.iconst 3, 1) := by decide +kernel
theorem dX8_lorryNow_104 : decode cX8_lorryNow 104 = .ok (.iload_n 1, 1) := by decide +kernel
theorem dX8_lorryNow_105 : decode cX8_lorryNow 105 = .ok (.iadd, 1) := by decide +kernel
theorem dX8_lorryNow_106 : decode cX8_lorryNow 106 = .ok (.iload_n 2, 1) := by decide +kernel
theorem dX8_lorryNow_107 : decode cX8_lorryNow 107 = .ok (.iconst 3, 1) := by decide +kernel
theorem dX8_lorryNow_108 : decode cX8_lorryNow 108 = .ok (.isub, 1) := by decide +kernel
theorem dX8_lorryNow_109 : decode cX8_lorryNow 109 = .ok (.invokevirtual 36, 3) := by decide +kernel
theorem dX8_lorryNow_112 : decode cX8_lorryNow 112 = .ok (.ireturn, 1) := by decide +kernel
theorem dX8_lorryNow_113 : decode cX8_lorryNow 113 = .ok (.aload_n 0, 1) := by decide +kernel
theorem dX8_lorryNow_114 : decode cX8_lorryNow 114 = .ok (.iconst 3, 1) := by decide +kernel
theorem dX8_lorryNow_115 : decode cX8_lorryNow 115 = .ok (.iload_n 1, 1) := by decide +kernel
theorem dX8_lorryNow_116 : decode cX8_lorryNow 116 = .ok (.iadd, 1) := by decide +kernel
theorem dX8_lorryNow_117 : decode cX8_lorryNow 117 = .ok (.invokevirtual 209, 3) := by decide +kernel
theorem dX8_lorryNow_120 : decode cX8_lorryNow 120 = .ok (.ireturn, 1) := by decide +kernel
theorem dX8_lorryNow_121 : decode cX8_lorryNow 121 = .ok (.aload_n 0, 1) := by decide +kernel
theorem dX8_lorryNow_122 : decode cX8_lorryNow 122 = .ok (.getfield 7, 3) := by decide +kernel
theorem dX8_lorryNow_125 : decode cX8_lorryNow 125 = .ok (.bipush 65, 2) := by decide +kernel
theorem dX8_lorryNow_127 : decode cX8_lorryNow 127 = .ok (.iload_n 1, 1) := by decide +kernel
theorem dX8_lorryNow_128 : decode cX8_lorryNow 128 = .ok (.iadd, 1) := by decide +kernel
theorem dX8_lorryNow_129 : decode cX8_lorryNow 129 = .ok (.iaload, 1) := by decide +kernel
theorem dX8_lorryNow_130 : decode cX8_lorryNow 130 = .ok (.ireturn, 1) := by decide +kernel
theorem dX8_lorryNow_131 : decode cX8_lorryNow 131 = .ok (.aload_n 0, 1) := by decide +kernel
theorem dX8_lorryNow_132 : decode cX8_lorryNow 132 = .ok (.getfield 7, 3) := by decide +kernel
theorem dX8_lorryNow_135 : decode cX8_lorryNow 135 = .ok (.bipush 69, 2) := by decide +kernel
theorem dX8_lorryNow_137 : decode cX8_lorryNow 137 = .ok (.iload_n 1, 1) := by decide +kernel
theorem dX8_lorryNow_138 : decode cX8_lorryNow 138 = .ok (.iadd, 1) := by decide +kernel
theorem dX8_lorryNow_139 : decode cX8_lorryNow 139 = .ok (.iaload, 1) := by decide +kernel
theorem dX8_lorryNow_140 : decode cX8_lorryNow 140 = .ok (.ireturn, 1) := by decide +kernel
theorem dX8_lorry_0 : decode cX8_lorry 0 = .ok (.aload_n 0, 1) := by decide +kernel
theorem dX8_lorry_1 : decode cX8_lorry 1 = .ok (.aload_n 0, 1) := by decide +kernel
theorem dX8_lorry_2 : decode cX8_lorry 2 = .ok (.iload_n 1, 1) := by decide +kernel
theorem dX8_lorry_3 : decode cX8_lorry 3 = .ok (.invokevirtual 81, 3) := by decide +kernel
theorem dX8_lorry_6 : decode cX8_lorry 6 = .ok (.ifCond .ne 7, 3) := by decide +kernel
theorem dX8_lorry_9 : decode cX8_lorry 9 = .ok (.iconst 1, 1) := by decide +kernel
theorem dX8_lorry_10 : decode cX8_lorry 10 = .ok (.goto 18, 3) := by decide +kernel
theorem dX8_lorry_13 : decode cX8_lorry 13 = .ok (.iload_n 2, 1) := by decide +kernel
theorem dX8_lorry_14 : decode cX8_lorry 14 = .ok (.iconst 0, 1) := by decide +kernel
theorem dX8_lorry_15 : decode cX8_lorry 15 = .ok (.bipush 8, 2) := by decide +kernel
theorem dX8_lorry_17 : decode cX8_lorry 17 = .ok (.invokestatic 32, 3) := by decide +kernel
theorem dX8_lorry_20 : decode cX8_lorry 20 = .ok (.ifCond .eq 7, 3) := by decide +kernel
theorem dX8_lorry_23 : decode cX8_lorry 23 = .ok (.iconst 0, 1) := by decide +kernel
theorem dX8_lorry_24 : decode cX8_lorry 24 = .ok (.goto 4, 3) := by decide +kernel
theorem dX8_lorry_27 : decode cX8_lorry 27 = .ok (.iconst 2, 1) := by decide +kernel
theorem dX8_lorry_28 : decode cX8_lorry 28 = .ok (.putfield 25, 3) := by decide +kernel
theorem dX8_lorry_31 : decode cX8_lorry 31 = .ok (.aload_n 0, 1) := by decide +kernel
theorem dX8_lorry_32 : decode cX8_lorry 32 = .ok (.getfield 25, 3) := by decide +kernel
theorem dX8_lorry_35 : decode cX8_lorry 35 = .ok (.ifCond .le 7, 3) := by decide +kernel
theorem dX8_lorry_38 : decode cX8_lorry 38 = .ok (.iconst 0, 1) := by decide +kernel
theorem dX8_lorry_39 : decode cX8_lorry 39 = .ok (.goto 9, 3) := by decide +kernel
theorem dX8_lorry_42 : decode cX8_lorry 42 = .ok (.aload_n 0, 1) := by decide +kernel
theorem dX8_lorry_43 : decode cX8_lorry 43 = .ok (.iload_n 1, 1) := by decide +kernel
theorem dX8_lorry_44 : decode cX8_lorry 44 = .ok (.iload_n 2, 1) := by decide +kernel
theorem dX8_lorry_45 : decode cX8_lorry 45 = .ok (.invokevirtual 215, 3) := by decide +kernel
theorem dX8_lorry_48 : decode cX8_lorry 48 = .ok (.ireturn, 1) := by decide +kernel
theorem dX8_sumOf_0 : decode cX8_sumOf 0 = .ok (.iconst 0, 1) := by decide +kernel
theorem dX8_sumOf_1 : decode cX8_sumOf 1 = .ok (.istore_n 2, 1) := by decide +kernel
theorem dX8_sumOf_2 : decode cX8_sumOf 2 = .ok (.iconst 0, 1) := by decide +kernel
theorem dX8_sumOf_3 : decode cX8_sumOf 3 = .ok (.istore_n 3, 1) := by decide +kernel
theorem dX8_sumOf_4 : decode cX8_sumOf 4 = .ok (.iload_n 3, 1) := by decide +kernel
theorem dX8_sumOf_5 : decode cX8_sumOf 5 = .ok (.aload_n 0, 1) := by decide +kernel
theorem dX8_sumOf_6 : decode cX8_sumOf 6 = .ok (.getfield 7, 3) := by decide +kernel
theorem dX8_sumOf_9 : decode cX8_sumOf 9 = .ok (.bipush 9, 2) := by decide +kernel
theorem dX8_sumOf_11 : decode cX8_sumOf 11 = .ok (.iaload, 1) := by decide +kernel
theorem dX8_sumOf_12 : decode cX8_sumOf 12 = .ok (.if_icmp .ge 47, 3) := by decide +kernel
theorem dX8_sumOf_15 : decode cX8_sumOf 15 = .ok (.aload_n 0, 1) := by decide +kernel
theorem dX8_sumOf_16 : decode cX8_sumOf 16 = .ok (.iload_n 3, 1) := by decide +kernel
theorem dX8_sumOf_17 : decode cX8_sumOf 17 = .ok (.invokevirtual 107, 3) := by decide +kernel
theorem dX8_sumOf_20 : decode cX8_sumOf 20 = .ok (.ifCond .eq 33, 3) := by decide +kernel
theorem dX8_sumOf_23 : decode cX8_sumOf 23 = .ok (.iload_n 2, 1) := by decide +kernel
theorem dX8_sumOf_24 : decode cX8_sumOf 24 = .ok (.iload_n 1, 1) := by decide +kernel
theorem dX8_sumOf_25 : decode cX8_sumOf 25 = .ok (.ifCond .ne 7, 3) := by decide +kernel
theorem dX8_sumOf_28 : decode cX8_sumOf 28 = .ok (.iconst 1, 1) := by decide +kernel
theorem dX8_sumOf_29 : decode cX8_sumOf 29 = .ok (.goto 22, 3) := by decide +kernel
theorem dX8_sumOf_32 : decode cX8_sumOf 32 = .ok (.iload_n 1, 1) := by decide +kernel
theorem dX8_sumOf_33 : decode cX8_sumOf 33 = .ok (.iconst 1, 1) := by decide +kernel
theorem dX8_sumOf_34 : decode cX8_sumOf 34 = .ok (.if_icmp .ne 12, 3) := by decide +kernel
theorem dX8_sumOf_37 : decode cX8_sumOf 37 = .ok (.aload_n 0, 1) := by decide +kernel
theorem dX8_sumOf_38 : decode cX8_sumOf 38 = .ok (.iload_n 3, 1) := by decide +kernel
theorem dX8_sumOf_39 : decode cX8_sumOf 39 = .ok (.iconst 2, 1) := by decide +kernel
theorem dX8_sumOf_40 : decode cX8_sumOf 40 = .ok (.invokevirtual 93, 3) := by decide +kernel
theorem dX8_sumOf_43 : decode cX8_sumOf 43 = .ok (.goto 8, 3) := by decide +kernel
theorem dX8_sumOf_46 : decode cX8_sumOf 46 = .ok (.aload_n 0, 1) := by decide +kernel
theorem dX8_sumOf_47 : decode cX8_sumOf 47 = .ok (.iload_n 3, 1) := by decide +kernel
theorem dX8_sumOf_48 : decode cX8_sumOf 48 = .ok (.invokevirtual 122, 3) := by decide +kernel
theorem dX8_sumOf_51 : decode cX8_sumOf 51 = .ok (.iadd, 1) := by decide +kernel
theorem dX8_sumOf_52 : decode cX8_sumOf 52 = .ok (.istore_n 2, 1) := by decide +kernel
theorem dX8_sumOf_53 : decode cX8_sumOf 53 = .ok (.iinc 3 1, 3) := by decide +kernel
theorem dX8_sumOf_56 : decode cX8_sumOf 56 = .ok (.goto (-52), 3) := by decide +kernel
theorem dX8_sumOf_59 : decode cX8_sumOf 59 = .ok (.iload_n 2, 1) := by decide +kernel
theorem dX8_sumOf_60 : decode cX8_sumOf 60 = .ok (.ireturn, 1) := by decide +kernel
theorem dX8_mealsFrom_0 : decode cX8_mealsFrom 0 = .ok (.iconst 0, 1) := by decide +kernel
theorem dX8_mealsFrom_1 : decode cX8_mealsFrom 1 = .ok (.istore_n 3, 1) := by decide +kernel
theorem dX8_mealsFrom_2 : decode cX8_mealsFrom 2 = .ok (.iload_n 1, 1) := by decide +kernel
theorem dX8_mealsFrom_3 : decode cX8_mealsFrom 3 = .ok (.istore 4, 2) := by decide +kernel
theorem dX8_mealsFrom_5 : decode cX8_mealsFrom 5 = .ok (.iload 4, 2) := by decide +kernel
theorem dX8_mealsFrom_7 : decode cX8_mealsFrom 7 = .ok (.iload_n 2, 1) := by decide +kernel
theorem dX8_mealsFrom_8 : decode cX8_mealsFrom 8 = .ok (.if_icmp .ge 18, 3) := by decide +kernel
theorem dX8_mealsFrom_11 : decode cX8_mealsFrom 11 = .ok (.iload_n 3, 1) := by decide +kernel
theorem dX8_mealsFrom_12 : decode cX8_mealsFrom 12 = .ok (.aload_n 0, 1) := by decide +kernel
theorem dX8_mealsFrom_13 : decode cX8_mealsFrom 13 = .ok (.iload 4, 2) := by decide +kernel
theorem dX8_mealsFrom_15 : decode cX8_mealsFrom 15 = .ok (.invokevirtual 87, 3) := by decide +kernel
theorem dX8_mealsFrom_18 : decode cX8_mealsFrom 18 = .ok (.iadd, 1) := by decide +kernel
theorem dX8_mealsFrom_19 : decode cX8_mealsFrom 19 = .ok (.istore_n 3, 1) := by decide +kernel
theorem dX8_mealsFrom_20 : decode cX8_mealsFrom 20 = .ok (.iinc 4 1, 3) := by decide +kernel
theorem dX8_mealsFrom_23 : decode cX8_mealsFrom 23 = .ok (.goto (-18), 3) := by decide +kernel
theorem dX8_mealsFrom_26 : decode cX8_mealsFrom 26 = .ok (.iload_n 3, 1) := by decide +kernel
theorem dX8_mealsFrom_27 : decode cX8_mealsFrom 27 = .ok (.ireturn, 1) := by decide +kernel
theorem dX8_counted_0 : decode cX8_counted 0 = .ok (.iload_n 1, 1) := by decide +kernel
theorem dX8_counted_1 : decode cX8_counted 1 = .ok (.tableswitch 167 0 15 #[79, 79, 79, 79, 89, 95, 101, 109, 109, 109, 122, 129, 137, 145, 151, 159], 79) := by decide +kernel
theorem dX8_counted_80 : decode cX8_counted 80 = .ok (.aload_n 0, 1) := by decide +kernel
theorem dX8_counted_81 : decode cX8_counted 81 = .ok (.getfield 7, 3) := by decide +kernel
theorem dX8_counted_84 : decode cX8_counted 84 = .ok (.bipush 6, 2) := by decide +kernel
theorem dX8_counted_86 : decode cX8_counted 86 = .ok (.iload_n 1, 1) := by decide +kernel
theorem dX8_counted_87 : decode cX8_counted 87 = .ok (.iadd, 1) := by decide +kernel
theorem dX8_counted_88 : decode cX8_counted 88 = .ok (.iaload, 1) := by decide +kernel
theorem dX8_counted_89 : decode cX8_counted 89 = .ok (.ireturn, 1) := by decide +kernel
theorem dX8_counted_90 : decode cX8_counted 90 = .ok (.aload_n 0, 1) := by decide +kernel
theorem dX8_counted_91 : decode cX8_counted 91 = .ok (.iconst 0, 1) := by decide +kernel
theorem dX8_counted_92 : decode cX8_counted 92 = .ok (.invokevirtual 218, 3) := by decide +kernel
theorem dX8_counted_95 : decode cX8_counted 95 = .ok (.ireturn, 1) := by decide +kernel
theorem dX8_counted_96 : decode cX8_counted 96 = .ok (.aload_n 0, 1) := by decide +kernel
theorem dX8_counted_97 : decode cX8_counted 97 = .ok (.iconst 1, 1) := by decide +kernel
theorem dX8_counted_98 : decode cX8_counted 98 = .ok (.invokevirtual 218, 3) := by decide +kernel
theorem dX8_counted_101 : decode cX8_counted 101 = .ok (.ireturn, 1) := by decide +kernel
theorem dX8_counted_102 : decode cX8_counted 102 = .ok (.aload_n 0, 1) := by decide +kernel
theorem dX8_counted_103 : decode cX8_counted 103 = .ok (.getfield 7, 3) := by decide +kernel
theorem dX8_counted_106 : decode cX8_counted 106 = .ok (.bipush 10, 2) := by decide +kernel
theorem dX8_counted_108 : decode cX8_counted 108 = .ok (.iaload, 1) := by decide +kernel
theorem dX8_counted_109 : decode cX8_counted 109 = .ok (.ireturn, 1) := by decide +kernel
theorem dX8_counted_110 : decode cX8_counted 110 = .ok (.aload_n 0, 1) := by decide +kernel
theorem dX8_counted_111 : decode cX8_counted 111 = .ok (.getfield 7, 3) := by decide +kernel
theorem dX8_counted_114 : decode cX8_counted 114 = .ok (.bipush 11, 2) := by decide +kernel
theorem dX8_counted_116 : decode cX8_counted 116 = .ok (.iload_n 1, 1) := by decide +kernel
theorem dX8_counted_117 : decode cX8_counted 117 = .ok (.iadd, 1) := by decide +kernel
theorem dX8_counted_118 : decode cX8_counted 118 = .ok (.bipush 7, 2) := by decide +kernel
theorem dX8_counted_120 : decode cX8_counted 120 = .ok (.isub, 1) := by decide +kernel
theorem dX8_counted_121 : decode cX8_counted 121 = .ok (.iaload, 1) := by decide +kernel
theorem dX8_counted_122 : decode cX8_counted 122 = .ok (.ireturn, 1) := by decide +kernel
theorem dX8_counted_123 : decode cX8_counted 123 = .ok (.aload_n 0, 1) := by decide +kernel
theorem dX8_counted_124 : decode cX8_counted 124 = .ok (.iconst 0, 1) := by decide +kernel
theorem dX8_counted_125 : decode cX8_counted 125 = .ok (.iconst 3, 1) := by decide +kernel
theorem dX8_counted_126 : decode cX8_counted 126 = .ok (.invokevirtual 221, 3) := by decide +kernel
theorem dX8_counted_129 : decode cX8_counted 129 = .ok (.ireturn, 1) := by decide +kernel
theorem dX8_counted_130 : decode cX8_counted 130 = .ok (.aload_n 0, 1) := by decide +kernel
theorem dX8_counted_131 : decode cX8_counted 131 = .ok (.iconst 3, 1) := by decide +kernel
theorem dX8_counted_132 : decode cX8_counted 132 = .ok (.bipush 7, 2) := by decide +kernel
theorem dX8_counted_134 : decode cX8_counted 134 = .ok (.invokevirtual 221, 3) := by decide +kernel
theorem dX8_counted_137 : decode cX8_counted 137 = .ok (.ireturn, 1) := by decide +kernel
theorem dX8_counted_138 : decode cX8_counted 138 = .ok (.aload_n 0, 1) := by decide +kernel
theorem dX8_counted_139 : decode cX8_counted 139 = .ok (.getfield 7, 3) := by decide +kernel
theorem dX8_counted_142 : decode cX8_counted 142 = .ok (.bipush 14, 2) := by decide +kernel
theorem dX8_counted_144 : decode cX8_counted 144 = .ok (.iaload, 1) := by decide +kernel
theorem dX8_counted_145 : decode cX8_counted 145 = .ok (.ireturn, 1) := by decide +kernel
theorem dX8_counted_146 : decode cX8_counted 146 = .ok (.aload_n 0, 1) := by decide +kernel
theorem dX8_counted_147 : decode cX8_counted 147 = .ok (.iconst 2, 1) := by decide +kernel
theorem dX8_counted_148 : decode cX8_counted 148 = .ok (.invokevirtual 218, 3) := by decide +kernel
theorem dX8_counted_151 : decode cX8_counted 151 = .ok (.ireturn, 1) := by decide +kernel
theorem dX8_counted_152 : decode cX8_counted 152 = .ok (.aload_n 0, 1) := by decide +kernel
theorem dX8_counted_153 : decode cX8_counted 153 = .ok (.getfield 7, 3) := by decide +kernel
theorem dX8_counted_156 : decode cX8_counted 156 = .ok (.bipush 15, 2) := by decide +kernel
theorem dX8_counted_158 : decode cX8_counted 158 = .ok (.iaload, 1) := by decide +kernel
theorem dX8_counted_159 : decode cX8_counted 159 = .ok (.ireturn, 1) := by decide +kernel
theorem dX8_counted_160 : decode cX8_counted 160 = .ok (.aload_n 0, 1) := by decide +kernel
theorem dX8_counted_161 : decode cX8_counted 161 = .ok (.getfield 7, 3) := by decide +kernel
theorem dX8_counted_164 : decode cX8_counted 164 = .ok (.bipush 16, 2) := by decide +kernel
theorem dX8_counted_166 : decode cX8_counted 166 = .ok (.iaload, 1) := by decide +kernel
theorem dX8_counted_167 : decode cX8_counted 167 = .ok (.ireturn, 1) := by decide +kernel
theorem dX8_counted_168 : decode cX8_counted 168 = .ok (.aload_n 0, 1) := by decide +kernel
theorem dX8_counted_169 : decode cX8_counted 169 = .ok (.getfield 29, 3) := by decide +kernel
theorem dX8_counted_172 : decode cX8_counted 172 = .ok (.ireturn, 1) := by decide +kernel
theorem dX8_count_0 : decode cX8_count 0 = .ok (.aload_n 0, 1) := by decide +kernel
theorem dX8_count_1 : decode cX8_count 1 = .ok (.iload_n 1, 1) := by decide +kernel
theorem dX8_count_2 : decode cX8_count 2 = .ok (.iconst 0, 1) := by decide +kernel
theorem dX8_count_3 : decode cX8_count 3 = .ok (.bipush 16, 2) := by decide +kernel
theorem dX8_count_5 : decode cX8_count 5 = .ok (.invokestatic 32, 3) := by decide +kernel
theorem dX8_count_8 : decode cX8_count 8 = .ok (.ifCond .eq 7, 3) := by decide +kernel
theorem dX8_count_11 : decode cX8_count 11 = .ok (.iconst 0, 1) := by decide +kernel
theorem dX8_count_12 : decode cX8_count 12 = .ok (.goto 4, 3) := by decide +kernel
theorem dX8_count_15 : decode cX8_count 15 = .ok (.iconst 1, 1) := by decide +kernel
theorem dX8_count_16 : decode cX8_count 16 = .ok (.putfield 25, 3) := by decide +kernel
theorem dX8_count_19 : decode cX8_count 19 = .ok (.aload_n 0, 1) := by decide +kernel
theorem dX8_count_20 : decode cX8_count 20 = .ok (.getfield 25, 3) := by decide +kernel
theorem dX8_count_23 : decode cX8_count 23 = .ok (.ifCond .le 7, 3) := by decide +kernel
theorem dX8_count_26 : decode cX8_count 26 = .ok (.iconst 0, 1) := by decide +kernel
theorem dX8_count_27 : decode cX8_count 27 = .ok (.goto 8, 3) := by decide +kernel
theorem dX8_count_30 : decode cX8_count 30 = .ok (.aload_n 0, 1) := by decide +kernel
theorem dX8_count_31 : decode cX8_count 31 = .ok (.iload_n 1, 1) := by decide +kernel
theorem dX8_count_32 : decode cX8_count 32 = .ok (.invokevirtual 224, 3) := by decide +kernel
theorem dX8_count_35 : decode cX8_count 35 = .ok (.ireturn, 1) := by decide +kernel
theorem dX8_setting_0 : decode cX8_setting 0 = .ok (.aload_n 0, 1) := by decide +kernel
theorem dX8_setting_1 : decode cX8_setting 1 = .ok (.iload_n 1, 1) := by decide +kernel
theorem dX8_setting_2 : decode cX8_setting 2 = .ok (.invokestatic 62, 3) := by decide +kernel
theorem dX8_setting_5 : decode cX8_setting 5 = .ok (.ifCond .eq 7, 3) := by decide +kernel
theorem dX8_setting_8 : decode cX8_setting 8 = .ok (.iconst 0, 1) := by decide +kernel
theorem dX8_setting_9 : decode cX8_setting 9 = .ok (.goto 4, 3) := by decide +kernel
theorem dX8_setting_12 : decode cX8_setting 12 = .ok (.iconst 1, 1) := by decide +kernel
theorem dX8_setting_13 : decode cX8_setting 13 = .ok (.putfield 25, 3) := by decide +kernel
theorem dX8_setting_16 : decode cX8_setting 16 = .ok (.aload_n 0, 1) := by decide +kernel
theorem dX8_setting_17 : decode cX8_setting 17 = .ok (.getfield 25, 3) := by decide +kernel
theorem dX8_setting_20 : decode cX8_setting 20 = .ok (.ifCond .le 7, 3) := by decide +kernel
theorem dX8_setting_23 : decode cX8_setting 23 = .ok (.iconst 0, 1) := by decide +kernel
theorem dX8_setting_24 : decode cX8_setting 24 = .ok (.goto 11, 3) := by decide +kernel
theorem dX8_setting_27 : decode cX8_setting 27 = .ok (.aload_n 0, 1) := by decide +kernel
theorem dX8_setting_28 : decode cX8_setting 28 = .ok (.getfield 7, 3) := by decide +kernel
theorem dX8_setting_31 : decode cX8_setting 31 = .ok (.iconst 0, 1) := by decide +kernel
theorem dX8_setting_32 : decode cX8_setting 32 = .ok (.iload_n 1, 1) := by decide +kernel
theorem dX8_setting_33 : decode cX8_setting 33 = .ok (.iadd, 1) := by decide +kernel
theorem dX8_setting_34 : decode cX8_setting 34 = .ok (.iaload, 1) := by decide +kernel
theorem dX8_setting_35 : decode cX8_setting 35 = .ok (.ireturn, 1) := by decide +kernel
theorem dX8_wouldDo_0 : decode cX8_wouldDo 0 = .ok (.iconst 0, 1) := by decide +kernel
theorem dX8_wouldDo_1 : decode cX8_wouldDo 1 = .ok (.istore_n 3, 1) := by decide +kernel
theorem dX8_wouldDo_2 : decode cX8_wouldDo 2 = .ok (.iload_n 3, 1) := by decide +kernel
theorem dX8_wouldDo_3 : decode cX8_wouldDo 3 = .ok (.sipush 1561, 3) := by decide +kernel
theorem dX8_wouldDo_6 : decode cX8_wouldDo 6 = .ok (.if_icmp .ge 21, 3) := by decide +kernel
theorem dX8_wouldDo_9 : decode cX8_wouldDo 9 = .ok (.aload_n 0, 1) := by decide +kernel
theorem dX8_wouldDo_10 : decode cX8_wouldDo 10 = .ok (.getfield 22, 3) := by decide +kernel
theorem dX8_wouldDo_13 : decode cX8_wouldDo 13 = .ok (.iload_n 3, 1) := by decide +kernel
theorem dX8_wouldDo_14 : decode cX8_wouldDo 14 = .ok (.aload_n 0, 1) := by decide +kernel
theorem dX8_wouldDo_15 : decode cX8_wouldDo 15 = .ok (.getfield 7, 3) := by decide +kernel

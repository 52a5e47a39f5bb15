theorem dL_lorries_328 : decode cL_lorries 328 = .ok (.iload 13, 2) := by decide +kernel
theorem dL_lorries_330 : decode cL_lorries 330 = .ok (.invokevirtual 58, 3) := by decide +kernel
theorem dL_lorries_333 : decode cL_lorries 333 = .ok (.aload_n 3, 1) := by decide +kernel
theorem dL_lorries_334 : decode cL_lorries 334 = .ok (.aload 8, 2) := by decide +kernel
theorem dL_lorries_336 : decode cL_lorries 336 = .ok (.iconst 4, 1) := by decide +kernel
theorem dL_lorries_337 : decode cL_lorries 337 = .ok (.iload 9, 2) := by decide +kernel
theorem dL_lorries_339 : decode cL_lorries 339 = .ok (.iadd, 1) := by decide +kernel
theorem dL_lorries_340 : decode cL_lorries 340 = .ok (.invokestatic 54, 3) := by decide +kernel
theorem dL_lorries_343 : decode cL_lorries 343 = .ok (.if_icmp .ne 7, 3) := by decide +kernel
theorem dL_lorries_346 : decode cL_lorries 346 = .ok (.iconst 1, 1) := by decide +kernel
theorem dL_lorries_347 : decode cL_lorries 347 = .ok (.goto 4, 3) := by decide +kernel
theorem dL_lorries_350 : decode cL_lorries 350 = .ok (.iconst 0, 1) := by decide +kernel
theorem dL_lorries_351 : decode cL_lorries 351 = .ok (.ireturn, 1) := by decide +kernel
theorem dL_lorries_352 : decode cL_lorries 352 = .ok (.aload_n 3, 1) := by decide +kernel
theorem dL_lorries_353 : decode cL_lorries 353 = .ok (.aload 8, 2) := by decide +kernel
theorem dL_lorries_355 : decode cL_lorries 355 = .ok (.iconst 4, 1) := by decide +kernel
theorem dL_lorries_356 : decode cL_lorries 356 = .ok (.iload 9, 2) := by decide +kernel
theorem dL_lorries_358 : decode cL_lorries 358 = .ok (.iadd, 1) := by decide +kernel
theorem dL_lorries_359 : decode cL_lorries 359 = .ok (.invokestatic 54, 3) := by decide +kernel
theorem dL_lorries_362 : decode cL_lorries 362 = .ok (.istore 12, 2) := by decide +kernel
theorem dL_lorries_364 : decode cL_lorries 364 = .ok (.aload_n 3, 1) := by decide +kernel
theorem dL_lorries_365 : decode cL_lorries 365 = .ok (.bipush 12, 2) := by decide +kernel
theorem dL_lorries_367 : decode cL_lorries 367 = .ok (.iaload, 1) := by decide +kernel
theorem dL_lorries_368 : decode cL_lorries 368 = .ok (.iconst 1, 1) := by decide +kernel
theorem dL_lorries_369 : decode cL_lorries 369 = .ok (.isub, 1) := by decide +kernel
theorem dL_lorries_370 : decode cL_lorries 370 = .ok (.istore 13, 2) := by decide +kernel
theorem dL_lorries_372 : decode cL_lorries 372 = .ok (.iload 13, 2) := by decide +kernel
theorem dL_lorries_374 : decode cL_lorries 374 = .ok (.ifCond .lt 78, 3) := by decide +kernel
theorem dL_lorries_377 : decode cL_lorries 377 = .ok (.aload 8, 2) := by decide +kernel
theorem dL_lorries_379 : decode cL_lorries 379 = .ok (.iload 13, 2) := by decide +kernel
theorem dL_lorries_381 : decode cL_lorries 381 = .ok (.iaload, 1) := by decide +kernel
theorem dL_lorries_382 : decode cL_lorries 382 = .ok (.bipush 7, 2) := by decide +kernel
theorem dL_lorries_384 : decode cL_lorries 384 = .ok (.iand, 1) := by decide +kernel
theorem dL_lorries_385 : decode cL_lorries 385 = .ok (.iconst 4, 1) := by decide +kernel
theorem dL_lorries_386 : decode cL_lorries 386 = .ok (.iload 9, 2) := by decide +kernel
theorem dL_lorries_388 : decode cL_lorries 388 = .ok (.iadd, 1) := by decide +kernel
theorem dL_lorries_389 : decode cL_lorries 389 = .ok (.if_icmp .ne 57, 3) := by decide +kernel
theorem dL_lorries_392 : decode cL_lorries 392 = .ok (.aload 8, 2) := by decide +kernel
theorem dL_lorries_394 : decode cL_lorries 394 = .ok (.iload 13, 2) := by decide +kernel
theorem dL_lorries_396 : decode cL_lorries 396 = .ok (.iaload, 1) := by decide +kernel
theorem dL_lorries_397 : decode cL_lorries 397 = .ok (.ldc 8, 2) := by decide +kernel
theorem dL_lorries_399 : decode cL_lorries 399 = .ok (.iand, 1) := by decide +kernel
theorem dL_lorries_400 : decode cL_lorries 400 = .ok (.iconst 4, 1) := by decide +kernel
theorem dL_lorries_401 : decode cL_lorries 401 = .ok (.isub, 1) := by decide +kernel
theorem dL_lorries_402 : decode cL_lorries 402 = .ok (.iload 9, 2) := by decide +kernel
theorem dL_lorries_404 : decode cL_lorries 404 = .ok (.isub, 1) := by decide +kernel
theorem dL_lorries_405 : decode cL_lorries 405 = .ok (.iload 10, 2) := by decide +kernel
theorem dL_lorries_407 : decode cL_lorries 407 = .ok (.iadd, 1) := by decide +kernel
theorem dL_lorries_408 : decode cL_lorries 408 = .ok (.istore 14, 2) := by decide +kernel
theorem dL_lorries_410 : decode cL_lorries 410 = .ok (.aload 8, 2) := by decide +kernel
theorem dL_lorries_412 : decode cL_lorries 412 = .ok (.iload 13, 2) := by decide +kernel
theorem dL_lorries_414 : decode cL_lorries 414 = .ok (.iaload, 1) := by decide +kernel
theorem dL_lorries_415 : decode cL_lorries 415 = .ok (.bipush 17, 2) := by decide +kernel
theorem dL_lorries_417 : decode cL_lorries 417 = .ok (.ishr, 1) := by decide +kernel
theorem dL_lorries_418 : decode cL_lorries 418 = .ok (.istore 15, 2) := by decide +kernel
theorem dL_lorries_420 : decode cL_lorries 420 = .ok (.aload_n 3, 1) := by decide +kernel
theorem dL_lorries_421 : decode cL_lorries 421 = .ok (.aload 8, 2) := by decide +kernel
theorem dL_lorries_423 : decode cL_lorries 423 = .ok (.iload 13, 2) := by decide +kernel
theorem dL_lorries_425 : decode cL_lorries 425 = .ok (.iload 15, 2) := by decide +kernel
theorem dL_lorries_427 : decode cL_lorries 427 = .ok (.invokestatic 19, 3) := by decide +kernel
theorem dL_lorries_430 : decode cL_lorries 430 = .ok (.aload_n 3, 1) := by decide +kernel
theorem dL_lorries_431 : decode cL_lorries 431 = .ok (.aload 8, 2) := by decide +kernel
theorem dL_lorries_433 : decode cL_lorries 433 = .ok (.iload 14, 2) := by decide +kernel
theorem dL_lorries_435 : decode cL_lorries 435 = .ok (.iload 15, 2) := by decide +kernel
theorem dL_lorries_437 : decode cL_lorries 437 = .ok (.invokestatic 27, 3) := by decide +kernel
theorem dL_lorries_440 : decode cL_lorries 440 = .ok (.aload_n 3, 1) := by decide +kernel
theorem dL_lorries_441 : decode cL_lorries 441 = .ok (.bipush 12, 2) := by decide +kernel
theorem dL_lorries_443 : decode cL_lorries 443 = .ok (.iaload, 1) := by decide +kernel
theorem dL_lorries_444 : decode cL_lorries 444 = .ok (.istore 13, 2) := by decide +kernel
theorem dL_lorries_446 : decode cL_lorries 446 = .ok (.iinc 13 (-1), 3) := by decide +kernel
theorem dL_lorries_449 : decode cL_lorries 449 = .ok (.goto (-77), 3) := by decide +kernel
theorem dL_lorries_452 : decode cL_lorries 452 = .ok (.aload_n 0, 1) := by decide +kernel
theorem dL_lorries_453 : decode cL_lorries 453 = .ok (.iload 9, 2) := by decide +kernel
theorem dL_lorries_455 : decode cL_lorries 455 = .ok (.iload 10, 2) := by decide +kernel
theorem dL_lorries_457 : decode cL_lorries 457 = .ok (.invokevirtual 62, 3) := by decide +kernel
theorem dL_lorries_460 : decode cL_lorries 460 = .ok (.iload 12, 2) := by decide +kernel
theorem dL_lorries_462 : decode cL_lorries 462 = .ok (.if_icmp .ne 7, 3) := by decide +kernel
theorem dL_lorries_465 : decode cL_lorries 465 = .ok (.iconst 1, 1) := by decide +kernel
theorem dL_lorries_466 : decode cL_lorries 466 = .ok (.goto 4, 3) := by decide +kernel
theorem dL_lorries_469 : decode cL_lorries 469 = .ok (.iconst 0, 1) := by decide +kernel
theorem dL_lorries_470 : decode cL_lorries 470 = .ok (.ireturn, 1) := by decide +kernel
theorem dL_units_0 : decode cL_units 0 = .ok (.iload_n 1, 1) := by decide +kernel
theorem dL_units_1 : decode cL_units 1 = .ok (.bipush 9, 2) := by decide +kernel
theorem dL_units_3 : decode cL_units 3 = .ok (.invokestatic 34, 3) := by decide +kernel
theorem dL_units_6 : decode cL_units 6 = .ok (.istore 5, 2) := by decide +kernel
theorem dL_units_8 : decode cL_units 8 = .ok (.aload_n 3, 1) := by decide +kernel
theorem dL_units_9 : decode cL_units 9 = .ok (.iconst 3, 1) := by decide +kernel
theorem dL_units_10 : decode cL_units 10 = .ok (.iaload, 1) := by decide +kernel
theorem dL_units_11 : decode cL_units 11 = .ok (.iconst 1, 1) := by decide +kernel
theorem dL_units_12 : decode cL_units 12 = .ok (.if_icmp .lt 16, 3) := by decide +kernel
theorem dL_units_15 : decode cL_units 15 = .ok (.iload 5, 2) := by decide +kernel
theorem dL_units_17 : decode cL_units 17 = .ok (.iconst 2, 1) := by decide +kernel
theorem dL_units_18 : decode cL_units 18 = .ok (.if_icmp .ge 209, 3) := by decide +kernel
theorem dL_units_21 : decode cL_units 21 = .ok (.aload_n 3, 1) := by decide +kernel
theorem dL_units_22 : decode cL_units 22 = .ok (.iconst 3, 1) := by decide +kernel
theorem dL_units_23 : decode cL_units 23 = .ok (.iaload, 1) := by decide +kernel
theorem dL_units_24 : decode cL_units 24 = .ok (.iconst 5, 1) := by decide +kernel
theorem dL_units_25 : decode cL_units 25 = .ok (.if_icmp .ge 202, 3) := by decide +kernel
theorem dL_units_28 : decode cL_units 28 = .ok (.bipush 12, 2) := by decide +kernel
theorem dL_units_30 : decode cL_units 30 = .ok (.aload_n 3, 1) := by decide +kernel
theorem dL_units_31 : decode cL_units 31 = .ok (.iconst 3, 1) := by decide +kernel
theorem dL_units_32 : decode cL_units 32 = .ok (.dup2, 1) := by decide +kernel
theorem dL_units_33 : decode cL_units 33 = .ok (.iaload, 1) := by decide +kernel
theorem dL_units_34 : decode cL_units 34 = .ok (.dup_x2, 1) := by decide +kernel
theorem dL_units_35 : decode cL_units 35 = .ok (.iconst 1, 1) := by decide +kernel
theorem dL_units_36 : decode cL_units 36 = .ok (.iadd, 1) := by decide +kernel
theorem dL_units_37 : decode cL_units 37 = .ok (.iastore, 1) := by decide +kernel
theorem dL_units_38 : decode cL_units 38 = .ok (.imul, 1) := by decide +kernel
theorem dL_units_39 : decode cL_units 39 = .ok (.istore 6, 2) := by decide +kernel
theorem dL_units_41 : decode cL_units 41 = .ok (.iconst 0, 1) := by decide +kernel
theorem dL_units_42 : decode cL_units 42 = .ok (.istore 7, 2) := by decide +kernel
theorem dL_units_44 : decode cL_units 44 = .ok (.iload 7, 2) := by decide +kernel
theorem dL_units_46 : decode cL_units 46 = .ok (.bipush 12, 2) := by decide +kernel
theorem dL_units_48 : decode cL_units 48 = .ok (.if_icmp .ge 18, 3) := by decide +kernel
theorem dL_units_51 : decode cL_units 51 = .ok (.aload 4, 2) := by decide +kernel
theorem dL_units_53 : decode cL_units 53 = .ok (.iload 6, 2) := by decide +kernel
theorem dL_units_55 : decode cL_units 55 = .ok (.iload 7, 2) := by decide +kernel
theorem dL_units_57 : decode cL_units 57 = .ok (.iadd, 1) := by decide +kernel
theorem dL_units_58 : decode cL_units 58 = .ok (.iconst 0, 1) := by decide +kernel
theorem dL_units_59 : decode cL_units 59 = .ok (.iastore, 1) := by decide +kernel
theorem dL_units_60 : decode cL_units 60 = .ok (.iinc 7 1, 3) := by decide +kernel
theorem dL_units_63 : decode cL_units 63 = .ok (.goto (-19), 3) := by decide +kernel
theorem dL_units_66 : decode cL_units 66 = .ok (.aload 4, 2) := by decide +kernel
theorem dL_units_68 : decode cL_units 68 = .ok (.iload 6, 2) := by decide +kernel
theorem dL_units_70 : decode cL_units 70 = .ok (.iconst 1, 1) := by decide +kernel
theorem dL_units_71 : decode cL_units 71 = .ok (.iadd, 1) := by decide +kernel
theorem dL_units_72 : decode cL_units 72 = .ok (.iload_n 2, 1) := by decide +kernel
theorem dL_units_73 : decode cL_units 73 = .ok (.aload_n 3, 1) := by decide +kernel
theorem dL_units_74 : decode cL_units 74 = .ok (.iconst 0, 1) := by decide +kernel
theorem dL_units_75 : decode cL_units 75 = .ok (.iaload, 1) := by decide +kernel
theorem dL_units_76 : decode cL_units 76 = .ok (.invokestatic 34, 3) := by decide +kernel
theorem dL_units_79 : decode cL_units 79 = .ok (.iastore, 1) := by decide +kernel
theorem dL_units_80 : decode cL_units 80 = .ok (.aload 4, 2) := by decide +kernel
theorem dL_units_82 : decode cL_units 82 = .ok (.iload 6, 2) := by decide +kernel
theorem dL_units_84 : decode cL_units 84 = .ok (.iconst 2, 1) := by decide +kernel
theorem dL_units_85 : decode cL_units 85 = .ok (.iadd, 1) := by decide +kernel
theorem dL_units_86 : decode cL_units 86 = .ok (.iconst 1, 1) := by decide +kernel
theorem dL_units_87 : decode cL_units 87 = .ok (.iload_n 2, 1) := by decide +kernel
theorem dL_units_88 : decode cL_units 88 = .ok (.iconst 3, 1) := by decide +kernel
theorem dL_units_89 : decode cL_units 89 = .ok (.ishr, 1) := by decide +kernel
theorem dL_units_90 : decode cL_units 90 = .ok (.bipush 30, 2) := by decide +kernel
theorem dL_units_92 : decode cL_units 92 = .ok (.invokestatic 34, 3) := by decide +kernel
theorem dL_units_95 : decode cL_units 95 = .ok (.iadd, 1) := by decide +kernel
theorem dL_units_96 : decode cL_units 96 = .ok (.iastore, 1) := by decide +kernel
theorem dL_units_97 : decode cL_units 97 = .ok (.aload 4, 2) := by decide +kernel
theorem dL_units_99 : decode cL_units 99 = .ok (.iload 6, 2) := by decide +kernel
theorem dL_units_101 : decode cL_units 101 = .ok (.iconst 3, 1) := by decide +kernel
theorem dL_units_102 : decode cL_units 102 = .ok (.iadd, 1) := by decide +kernel
theorem dL_units_103 : decode cL_units 103 = .ok (.iload_n 2, 1) := by decide +kernel
theorem dL_units_104 : decode cL_units 104 = .ok (.bipush 8, 2) := by decide +kernel
theorem dL_units_106 : decode cL_units 106 = .ok (.ishr, 1) := by decide +kernel
theorem dL_units_107 : decode cL_units 107 = .ok (.aload 4, 2) := by decide +kernel
theorem dL_units_109 : decode cL_units 109 = .ok (.iload 6, 2) := by decide +kernel
theorem dL_units_111 : decode cL_units 111 = .ok (.iconst 2, 1) := by decide +kernel
theorem dL_units_112 : decode cL_units 112 = .ok (.iadd, 1) := by decide +kernel
theorem dL_units_113 : decode cL_units 113 = .ok (.iaload, 1) := by decide +kernel
theorem dL_units_114 : decode cL_units 114 = .ok (.iconst 1, 1) := by decide +kernel
theorem dL_units_115 : decode cL_units 115 = .ok (.iadd, 1) := by decide +kernel
theorem dL_units_116 : decode cL_units 116 = .ok (.invokestatic 34, 3) := by decide +kernel
theorem dL_units_119 : decode cL_units 119 = .ok (.iastore, 1) := by decide +kernel
theorem dL_units_120 : decode cL_units 120 = .ok (.aload 4, 2) := by decide +kernel
theorem dL_units_122 : decode cL_units 122 = .ok (.iload 6, 2) := by decide +kernel
theorem dL_units_124 : decode cL_units 124 = .ok (.iconst 4, 1) := by decide +kernel
theorem dL_units_125 : decode cL_units 125 = .ok (.iadd, 1) := by decide +kernel
theorem dL_units_126 : decode cL_units 126 = .ok (.aload_n 3, 1) := by decide +kernel
theorem dL_units_127 : decode cL_units 127 = .ok (.iconst 4, 1) := by decide +kernel
theorem dL_units_128 : decode cL_units 128 = .ok (.iaload, 1) := by decide +kernel
theorem dL_units_129 : decode cL_units 129 = .ok (.iconst 1, 1) := by decide +kernel
theorem dL_units_130 : decode cL_units 130 = .ok (.iadd, 1) := by decide +kernel
theorem dL_units_131 : decode cL_units 131 = .ok (.iload_n 2, 1) := by decide +kernel
theorem dL_units_132 : decode cL_units 132 = .ok (.bipush 13, 2) := by decide +kernel
theorem dL_units_134 : decode cL_units 134 = .ok (.ishr, 1) := by decide +kernel
theorem dL_units_135 : decode cL_units 135 = .ok (.bipush 20, 2) := by decide +kernel
theorem dL_units_137 : decode cL_units 137 = .ok (.invokestatic 34, 3) := by decide +kernel
theorem dL_units_140 : decode cL_units 140 = .ok (.iadd, 1) := by decide +kernel
theorem dL_units_141 : decode cL_units 141 = .ok (.iastore, 1) := by decide +kernel
theorem dL_units_142 : decode cL_units 142 = .ok (.aload 4, 2) := by decide +kernel
theorem dL_units_144 : decode cL_units 144 = .ok (.iload 6, 2) := by decide +kernel
theorem dL_units_146 : decode cL_units 146 = .ok (.iconst 5, 1) := by decide +kernel
theorem dL_units_147 : decode cL_units 147 = .ok (.iadd, 1) := by decide +kernel
theorem dL_units_148 : decode cL_units 148 = .ok (.bipush 30, 2) := by decide +kernel
theorem dL_units_150 : decode cL_units 150 = .ok (.iload_n 2, 1) := by decide +kernel
theorem dL_units_151 : decode cL_units 151 = .ok (.bipush 17, 2) := by decide +kernel
theorem dL_units_153 : decode cL_units 153 = .ok (.ishr, 1) := by decide +kernel
theorem dL_units_154 : decode cL_units 154 = .ok (.bipush 20, 2) := by decide +kernel
theorem dL_units_156 : decode cL_units 156 = .ok (.invokestatic 34, 3) := by decide +kernel
theorem dL_units_159 : decode cL_units 159 = .ok (.iadd, 1) := by decide +kernel
theorem dL_units_160 : decode cL_units 160 = .ok (.iastore, 1) := by decide +kernel
theorem dL_units_161 : decode cL_units 161 = .ok (.aload 4, 2) := by decide +kernel
theorem dL_units_163 : decode cL_units 163 = .ok (.iload 6, 2) := by decide +kernel
theorem dL_units_165 : decode cL_units 165 = .ok (.bipush 8, 2) := by decide +kernel
theorem dL_units_167 : decode cL_units 167 = .ok (.iadd, 1) := by decide +kernel
theorem dL_units_168 : decode cL_units 168 = .ok (.iconst (-1), 1) := by decide +kernel
theorem dL_units_169 : decode cL_units 169 = .ok (.iastore, 1) := by decide +kernel
theorem dL_units_170 : decode cL_units 170 = .ok (.aload_n 0, 1) := by decide +kernel
theorem dL_units_171 : decode cL_units 171 = .ok (.aload 4, 2) := by decide +kernel
theorem dL_units_173 : decode cL_units 173 = .ok (.iload 6, 2) := by decide +kernel
theorem dL_units_175 : decode cL_units 175 = .ok (.iconst 1, 1) := by decide +kernel
theorem dL_units_176 : decode cL_units 176 = .ok (.iadd, 1) := by decide +kernel
theorem dL_units_177 : decode cL_units 177 = .ok (.iaload, 1) := by decide +kernel
theorem dL_units_178 : decode cL_units 178 = .ok (.aload 4, 2) := by decide +kernel
theorem dL_units_180 : decode cL_units 180 = .ok (.iload 6, 2) := by decide +kernel
theorem dL_units_182 : decode cL_units 182 = .ok (.iconst 2, 1) := by decide +kernel
theorem dL_units_183 : decode cL_units 183 = .ok (.iadd, 1) := by decide +kernel
theorem dL_units_184 : decode cL_units 184 = .ok (.iaload, 1) := by decide +kernel
theorem dL_units_185 : decode cL_units 185 = .ok (.aload 4, 2) := by decide +kernel
theorem dL_units_187 : decode cL_units 187 = .ok (.iload 6, 2) := by decide +kernel
theorem dL_units_189 : decode cL_units 189 = .ok (.iconst 3, 1) := by decide +kernel
theorem dL_units_190 : decode cL_units 190 = .ok (.iadd, 1) := by decide +kernel
theorem dL_units_191 : decode cL_units 191 = .ok (.iaload, 1) := by decide +kernel
theorem dL_units_192 : decode cL_units 192 = .ok (.aload 4, 2) := by decide +kernel
theorem dL_units_194 : decode cL_units 194 = .ok (.iload 6, 2) := by decide +kernel
theorem dL_units_196 : decode cL_units 196 = .ok (.iconst 4, 1) := by decide +kernel
theorem dL_units_197 : decode cL_units 197 = .ok (.iadd, 1) := by decide +kernel
theorem dL_units_198 : decode cL_units 198 = .ok (.iaload, 1) := by decide +kernel
theorem dL_units_199 : decode cL_units 199 = .ok (.aload_n 3, 1) := by decide +kernel
theorem dL_units_200 : decode cL_units 200 = .ok (.iconst 4, 1) := by decide +kernel
theorem dL_units_201 : decode cL_units 201 = .ok (.iaload, 1) := by decide +kernel
theorem dL_units_202 : decode cL_units 202 = .ok (.isub, 1) := by decide +kernel
theorem dL_units_203 : decode cL_units 203 = .ok (.aload 4, 2) := by decide +kernel
theorem dL_units_205 : decode cL_units 205 = .ok (.iload 6, 2) := by decide +kernel
theorem dL_units_207 : decode cL_units 207 = .ok (.iconst 5, 1) := by decide +kernel
theorem dL_units_208 : decode cL_units 208 = .ok (.iadd, 1) := by decide +kernel
theorem dL_units_209 : decode cL_units 209 = .ok (.iaload, 1) := by decide +kernel
theorem dL_units_210 : decode cL_units 210 = .ok (.invokevirtual 65, 3) := by decide +kernel
theorem dL_units_213 : decode cL_units 213 = .ok (.iload 6, 2) := by decide +kernel
theorem dL_units_215 : decode cL_units 215 = .ok (.bipush 12, 2) := by decide +kernel
theorem dL_units_217 : decode cL_units 217 = .ok (.idiv, 1) := by decide +kernel
theorem dL_units_218 : decode cL_units 218 = .ok (.if_icmp .ne 7, 3) := by decide +kernel
theorem dL_units_221 : decode cL_units 221 = .ok (.iconst 1, 1) := by decide +kernel
theorem dL_units_222 : decode cL_units 222 = .ok (.goto 4, 3) := by decide +kernel
theorem dL_units_225 : decode cL_units 225 = .ok (.iconst 0, 1) := by decide +kernel
theorem dL_units_226 : decode cL_units 226 = .ok (.ireturn, 1) := by decide +kernel
theorem dL_units_227 : decode cL_units 227 = .ok (.bipush 12, 2) := by decide +kernel
theorem dL_units_229 : decode cL_units 229 = .ok (.iload_n 2, 1) := by decide +kernel
theorem dL_units_230 : decode cL_units 230 = .ok (.aload_n 3, 1) := by decide +kernel
theorem dL_units_231 : decode cL_units 231 = .ok (.iconst 3, 1) := by decide +kernel
theorem dL_units_232 : decode cL_units 232 = .ok (.iaload, 1) := by decide +kernel
theorem dL_units_233 : decode cL_units 233 = .ok (.invokestatic 34, 3) := by decide +kernel
theorem dL_units_236 : decode cL_units 236 = .ok (.imul, 1) := by decide +kernel
theorem dL_units_237 : decode cL_units 237 = .ok (.istore 6, 2) := by decide +kernel
theorem dL_units_239 : decode cL_units 239 = .ok (.bipush 12, 2) := by decide +kernel
theorem dL_units_241 : decode cL_units 241 = .ok (.iload_n 2, 1) := by decide +kernel
theorem dL_units_242 : decode cL_units 242 = .ok (.iconst 3, 1) := by decide +kernel
theorem dL_units_243 : decode cL_units 243 = .ok (.ishr, 1) := by decide +kernel
theorem dL_units_244 : decode cL_units 244 = .ok (.aload_n 3, 1) := by decide +kernel
theorem dL_units_245 : decode cL_units 245 = .ok (.iconst 3, 1) := by decide +kernel
theorem dL_units_246 : decode cL_units 246 = .ok (.iaload, 1) := by decide +kernel
theorem dL_units_247 : decode cL_units 247 = .ok (.invokestatic 34, 3) := by decide +kernel
theorem dL_units_250 : decode cL_units 250 = .ok (.imul, 1) := by decide +kernel
theorem dL_units_251 : decode cL_units 251 = .ok (.istore 7, 2) := by decide +kernel
theorem dL_units_253 : decode cL_units 253 = .ok (.aload 4, 2) := by decide +kernel
theorem dL_units_255 : decode cL_units 255 = .ok (.iload 6, 2) := by decide +kernel
theorem dL_units_257 : decode cL_units 257 = .ok (.iaload, 1) := by decide +kernel
theorem dL_units_258 : decode cL_units 258 = .ok (.ifCond .eq 5, 3) := by decide +kernel
theorem dL_units_261 : decode cL_units 261 = .ok (.iconst 1, 1) := by decide +kernel
theorem dL_units_262 : decode cL_units 262 = .ok (.ireturn, 1) := by decide +kernel
theorem dL_units_263 : decode cL_units 263 = .ok (.iload 5, 2) := by decide +kernel
theorem dL_units_265 : decode cL_units 265 = .ok (.iconst 4, 1) := by decide +kernel
theorem dL_units_266 : decode cL_units 266 = .ok (.if_icmp .ge 56, 3) := by decide +kernel
theorem dL_units_269 : decode cL_units 269 = .ok (.aload 4, 2) := by decide +kernel
theorem dL_units_271 : decode cL_units 271 = .ok (.iload 6, 2) := by decide +kernel
theorem dL_units_273 : decode cL_units 273 = .ok (.iconst 1, 1) := by decide +kernel
theorem dL_units_274 : decode cL_units 274 = .ok (.iadd, 1) := by decide +kernel
theorem dL_units_275 : decode cL_units 275 = .ok (.iaload, 1) := by decide +kernel
theorem dL_units_276 : decode cL_units 276 = .ok (.istore 8, 2) := by decide +kernel
theorem dL_units_278 : decode cL_units 278 = .ok (.aload 4, 2) := by decide +kernel
theorem dL_units_280 : decode cL_units 280 = .ok (.iload 6, 2) := by decide +kernel
theorem dL_units_282 : decode cL_units 282 = .ok (.iconst 1, 1) := by decide +kernel
theorem dL_units_283 : decode cL_units 283 = .ok (.iadd, 1) := by decide +kernel
theorem dL_units_284 : decode cL_units 284 = .ok (.iload_n 2, 1) := by decide +kernel
theorem dL_units_285 : decode cL_units 285 = .ok (.bipush 6, 2) := by decide +kernel
theorem dL_units_287 : decode cL_units 287 = .ok (.ishr, 1) := by decide +kernel
theorem dL_units_288 : decode cL_units 288 = .ok (.aload_n 3, 1) := by decide +kernel
theorem dL_units_289 : decode cL_units 289 = .ok (.iconst 0, 1) := by decide +kernel
theorem dL_units_290 : decode cL_units 290 = .ok (.iaload, 1) := by decide +kernel
theorem dL_units_291 : decode cL_units 291 = .ok (.invokestatic 34, 3) := by decide +kernel
theorem dL_units_294 : decode cL_units 294 = .ok (.iastore, 1) := by decide +kernel
theorem dL_units_295 : decode cL_units 295 = .ok (.aload_n 0, 1) := by decide +kernel
theorem dL_units_296 : decode cL_units 296 = .ok (.iload 6, 2) := by decide +kernel
theorem dL_units_298 : decode cL_units 298 = .ok (.bipush 12, 2) := by decide +kernel
theorem dL_units_300 : decode cL_units 300 = .ok (.idiv, 1) := by decide +kernel
theorem dL_units_301 : decode cL_units 301 = .ok (.aload 4, 2) := by decide +kernel
theorem dL_units_303 : decode cL_units 303 = .ok (.iload 6, 2) := by decide +kernel
theorem dL_units_305 : decode cL_units 305 = .ok (.iconst 1, 1) := by decide +kernel
theorem dL_units_306 : decode cL_units 306 = .ok (.iadd, 1) := by decide +kernel
theorem dL_units_307 : decode cL_units 307 = .ok (.iaload, 1) := by decide +kernel
theorem dL_units_308 : decode cL_units 308 = .ok (.invokevirtual 69, 3) := by decide +kernel
theorem dL_units_311 : decode cL_units 311 = .ok (.iload 8, 2) := by decide +kernel
theorem dL_units_313 : decode cL_units 313 = .ok (.if_icmp .ne 7, 3) := by decide +kernel
theorem dL_units_316 : decode cL_units 316 = .ok (.iconst 1, 1) := by decide +kernel
theorem dL_units_317 : decode cL_units 317 = .ok (.goto 4, 3) := by decide +kernel
theorem dL_units_320 : decode cL_units 320 = .ok (.iconst 0, 1) := by decide +kernel
theorem dL_units_321 : decode cL_units 321 = .ok (.ireturn, 1) := by decide +kernel
theorem dL_units_322 : decode cL_units 322 = .ok (.iload 5, 2) := by decide +kernel
theorem dL_units_324 : decode cL_units 324 = .ok (.bipush 6, 2) := by decide +kernel
theorem dL_units_326 : decode cL_units 326 = .ok (.if_icmp .ge 230, 3) := by decide +kernel
theorem dL_units_329 : decode cL_units 329 = .ok (.iconst 1, 1) := by decide +kernel
theorem dL_units_330 : decode cL_units 330 = .ok (.iload_n 2, 1) := by decide +kernel
theorem dL_units_331 : decode cL_units 331 = .ok (.bipush 6, 2) := by decide +kernel
theorem dL_units_333 : decode cL_units 333 = .ok (.ishr, 1) := by decide +kernel
theorem dL_units_334 : decode cL_units 334 = .ok (.bipush 20, 2) := by decide +kernel
theorem dL_units_336 : decode cL_units 336 = .ok (.invokestatic 34, 3) := by decide +kernel
theorem dL_units_339 : decode cL_units 339 = .ok (.iadd, 1) := by decide +kernel
theorem dL_units_340 : decode cL_units 340 = .ok (.istore 8, 2) := by decide +kernel
theorem dL_units_342 : decode cL_units 342 = .ok (.iload_n 2, 1) := by decide +kernel
theorem dL_units_343 : decode cL_units 343 = .ok (.bipush 11, 2) := by decide +kernel
theorem dL_units_345 : decode cL_units 345 = .ok (.ishr, 1) := by decide +kernel
theorem dL_units_346 : decode cL_units 346 = .ok (.iload 8, 2) := by decide +kernel
theorem dL_units_348 : decode cL_units 348 = .ok (.iconst 1, 1) := by decide +kernel
theorem dL_units_349 : decode cL_units 349 = .ok (.iadd, 1) := by decide +kernel
theorem dL_units_350 : decode cL_units 350 = .ok (.invokestatic 34, 3) := by decide +kernel
theorem dL_units_353 : decode cL_units 353 = .ok (.istore 9, 2) := by decide +kernel
theorem dL_units_355 : decode cL_units 355 = .ok (.aload_n 3, 1) := by decide +kernel
theorem dL_units_356 : decode cL_units 356 = .ok (.iconst 3, 1) := by decide +kernel
theorem dL_units_357 : decode cL_units 357 = .ok (.iaload, 1) := by decide +kernel
theorem dL_units_358 : decode cL_units 358 = .ok (.iconst 5, 1) := by decide +kernel
theorem dL_units_359 : decode cL_units 359 = .ok (.if_icmp .eq 50, 3) := by decide +kernel
theorem dL_units_362 : decode cL_units 362 = .ok (.aload 4, 2) := by decide +kernel
theorem dL_units_364 : decode cL_units 364 = .ok (.iload 6, 2) := by decide +kernel
theorem dL_units_366 : decode cL_units 366 = .ok (.iconst 2, 1) := by decide +kernel
theorem dL_units_367 : decode cL_units 367 = .ok (.iadd, 1) := by decide +kernel
theorem dL_units_368 : decode cL_units 368 = .ok (.iaload, 1) := by decide +kernel
theorem dL_units_369 : decode cL_units 369 = .ok (.iload 8, 2) := by decide +kernel
theorem dL_units_371 : decode cL_units 371 = .ok (.if_icmp .le 38, 3) := by decide +kernel
theorem dL_units_374 : decode cL_units 374 = .ok (.aload 4, 2) := by decide +kernel
theorem dL_units_376 : decode cL_units 376 = .ok (.iload 6, 2) := by decide +kernel
theorem dL_units_378 : decode cL_units 378 = .ok (.iconst 3, 1) := by decide +kernel
theorem dL_units_379 : decode cL_units 379 = .ok (.iadd, 1) := by decide +kernel
theorem dL_units_380 : decode cL_units 380 = .ok (.iaload, 1) := by decide +kernel
theorem dL_units_381 : decode cL_units 381 = .ok (.iload 9, 2) := by decide +kernel
theorem dL_units_383 : decode cL_units 383 = .ok (.if_icmp .lt 26, 3) := by decide +kernel
theorem dL_units_386 : decode cL_units 386 = .ok (.aload 4, 2) := by decide +kernel
theorem dL_units_388 : decode cL_units 388 = .ok (.iload 6, 2) := by decide +kernel
theorem dL_units_390 : decode cL_units 390 = .ok (.iconst 2, 1) := by decide +kernel
theorem dL_units_391 : decode cL_units 391 = .ok (.iadd, 1) := by decide +kernel
theorem dL_units_392 : decode cL_units 392 = .ok (.iaload, 1) := by decide +kernel
theorem dL_units_393 : decode cL_units 393 = .ok (.aload 4, 2) := by decide +kernel
theorem dL_units_395 : decode cL_units 395 = .ok (.iload 6, 2) := by decide +kernel
theorem dL_units_397 : decode cL_units 397 = .ok (.iconst 3, 1) := by decide +kernel
theorem dL_units_398 : decode cL_units 398 = .ok (.iadd, 1) := by decide +kernel
theorem dL_units_399 : decode cL_units 399 = .ok (.iaload, 1) := by decide +kernel
theorem dL_units_400 : decode cL_units 400 = .ok (.isub, 1) := by decide +kernel
theorem dL_units_401 : decode cL_units 401 = .ok (.iload 8, 2) := by decide +kernel
theorem dL_units_403 : decode cL_units 403 = .ok (.iload 9, 2) := by decide +kernel
theorem dL_units_405 : decode cL_units 405 = .ok (.isub, 1) := by decide +kernel
theorem dL_units_406 : decode cL_units 406 = .ok (.if_icmp .ge 5, 3) := by decide +kernel
theorem dL_units_409 : decode cL_units 409 = .ok (.iconst 1, 1) := by decide +kernel
theorem dL_units_410 : decode cL_units 410 = .ok (.ireturn, 1) := by decide +kernel
theorem dL_units_411 : decode cL_units 411 = .ok (.bipush 12, 2) := by decide +kernel
theorem dL_units_413 : decode cL_units 413 = .ok (.aload_n 3, 1) := by decide +kernel
theorem dL_units_414 : decode cL_units 414 = .ok (.iconst 3, 1) := by decide +kernel
theorem dL_units_415 : decode cL_units 415 = .ok (.dup2, 1) := by decide +kernel
theorem dL_units_416 : decode cL_units 416 = .ok (.iaload, 1) := by decide +kernel
theorem dL_units_417 : decode cL_units 417 = .ok (.dup_x2, 1) := by decide +kernel
theorem dL_units_418 : decode cL_units 418 = .ok (.iconst 1, 1) := by decide +kernel
theorem dL_units_419 : decode cL_units 419 = .ok (.iadd, 1) := by decide +kernel
theorem dL_units_420 : decode cL_units 420 = .ok (.iastore, 1) := by decide +kernel
theorem dL_units_421 : decode cL_units 421 = .ok (.imul, 1) := by decide +kernel
theorem dL_units_422 : decode cL_units 422 = .ok (.istore 10, 2) := by decide +kernel
theorem dL_units_424 : decode cL_units 424 = .ok (.iconst 0, 1) := by decide +kernel
theorem dL_units_425 : decode cL_units 425 = .ok (.istore 11, 2) := by decide +kernel
theorem dL_units_427 : decode cL_units 427 = .ok (.iload 11, 2) := by decide +kernel
theorem dL_units_429 : decode cL_units 429 = .ok (.bipush 12, 2) := by decide +kernel
theorem dL_units_431 : decode cL_units 431 = .ok (.if_icmp .ge 47, 3) := by decide +kernel
theorem dL_units_434 : decode cL_units 434 = .ok (.aload 4, 2) := by decide +kernel
theorem dL_units_436 : decode cL_units 436 = .ok (.iload 10, 2) := by decide +kernel
theorem dL_units_438 : decode cL_units 438 = .ok (.iload 11, 2) := by decide +kernel
theorem dL_units_440 : decode cL_units 440 = .ok (.iadd, 1) := by decide +kernel
theorem dL_units_441 : decode cL_units 441 = .ok (.iload 11, 2) := by decide +kernel
theorem dL_units_443 : decode cL_units 443 = .ok (.iconst 1, 1) := by decide +kernel
theorem dL_units_444 : decode cL_units 444 = .ok (.if_icmp .eq 15, 3) := by decide +kernel
theorem dL_units_447 : decode cL_units 447 = .ok (.iload 11, 2) := by decide +kernel
theorem dL_units_449 : decode cL_units 449 = .ok (.iconst 4, 1) := by decide +kernel
theorem dL_units_450 : decode cL_units 450 = .ok (.if_icmp .eq 9, 3) := by decide +kernel
theorem dL_units_453 : decode cL_units 453 = .ok (.iload 11, 2) := by decide +kernel
theorem dL_units_455 : decode cL_units 455 = .ok (.iconst 5, 1) := by decide +kernel
theorem dL_units_456 : decode cL_units 456 = .ok (.if_icmp .ne 14, 3) := by decide +kernel
theorem dL_units_459 : decode cL_units 459 = .ok (.aload 4, 2) := by decide +kernel
theorem dL_units_461 : decode cL_units 461 = .ok (.iload 6, 2) := by decide +kernel
theorem dL_units_463 : decode cL_units 463 = .ok (.iload 11, 2) := by decide +kernel
theorem dL_units_465 : decode cL_units 465 = .ok (.iadd, 1) := by decide +kernel
theorem dL_units_466 : decode cL_units 466 = .ok (.iaload, 1) := by decide +kernel
theorem dL_units_467 : decode cL_units 467 = .ok (.goto 4, 3) := by decide +kernel
theorem dL_units_470 : decode cL_units 470 = .ok (.iconst 0, 1) := by decide +kernel
theorem dL_units_471 : decode cL_units 471 = .ok (.iastore, 1) := by decide +kernel
theorem dL_units_472 : decode cL_units 472 = .ok (.iinc 11 1, 3) := by decide +kernel
theorem dL_units_475 : decode cL_units 475 = .ok (.goto (-48), 3) := by decide +kernel
theorem dL_units_478 : decode cL_units 478 = .ok (.aload 4, 2) := by decide +kernel
theorem dL_units_480 : decode cL_units 480 = .ok (.iload 10, 2) := by decide +kernel
theorem dL_units_482 : decode cL_units 482 = .ok (.iconst 2, 1) := by decide +kernel
theorem dL_units_483 : decode cL_units 483 = .ok (.iadd, 1) := by decide +kernel
theorem dL_units_484 : decode cL_units 484 = .ok (.iload 8, 2) := by decide +kernel
theorem dL_units_486 : decode cL_units 486 = .ok (.iastore, 1) := by decide +kernel
theorem dL_units_487 : decode cL_units 487 = .ok (.aload 4, 2) := by decide +kernel
theorem dL_units_489 : decode cL_units 489 = .ok (.iload 10, 2) := by decide +kernel
theorem dL_units_491 : decode cL_units 491 = .ok (.iconst 3, 1) := by decide +kernel
theorem dL_units_492 : decode cL_units 492 = .ok (.iadd, 1) := by decide +kernel
theorem dL_units_493 : decode cL_units 493 = .ok (.iload 9, 2) := by decide +kernel
theorem dL_units_495 : decode cL_units 495 = .ok (.iastore, 1) := by decide +kernel
theorem dL_units_496 : decode cL_units 496 = .ok (.aload 4, 2) := by decide +kernel
theorem dL_units_498 : decode cL_units 498 = .ok (.iload 10, 2) := by decide +kernel
theorem dL_units_500 : decode cL_units 500 = .ok (.bipush 8, 2) := by decide +kernel
theorem dL_units_502 : decode cL_units 502 = .ok (.iadd, 1) := by decide +kernel
theorem dL_units_503 : decode cL_units 503 = .ok (.iconst (-1), 1) := by decide +kernel
theorem dL_units_504 : decode cL_units 504 = .ok (.iastore, 1) := by decide +kernel
theorem dL_units_505 : decode cL_units 505 = .ok (.aload 4, 2) := by decide +kernel
theorem dL_units_507 : decode cL_units 507 = .ok (.iload 6, 2) := by decide +kernel
theorem dL_units_509 : decode cL_units 509 = .ok (.iconst 2, 1) := by decide +kernel
theorem dL_units_510 : decode cL_units 510 = .ok (.iadd, 1) := by decide +kernel
theorem dL_units_511 : decode cL_units 511 = .ok (.dup2, 1) := by decide +kernel
theorem dL_units_512 : decode cL_units 512 = .ok (.iaload, 1) := by decide +kernel
theorem dL_units_513 : decode cL_units 513 = .ok (.iload 8, 2) := by decide +kernel
theorem dL_units_515 : decode cL_units 515 = .ok (.isub, 1) := by decide +kernel
theorem dL_units_516 : decode cL_units 516 = .ok (.iastore, 1) := by decide +kernel
theorem dL_units_517 : decode cL_units 517 = .ok (.aload 4, 2) := by decide +kernel
theorem dL_units_519 : decode cL_units 519 = .ok (.iload 6, 2) := by decide +kernel
theorem dL_units_521 : decode cL_units 521 = .ok (.iconst 3, 1) := by decide +kernel
theorem dL_units_522 : decode cL_units 522 = .ok (.iadd, 1) := by decide +kernel
theorem dL_units_523 : decode cL_units 523 = .ok (.dup2, 1) := by decide +kernel
theorem dL_units_524 : decode cL_units 524 = .ok (.iaload, 1) := by decide +kernel
theorem dL_units_525 : decode cL_units 525 = .ok (.iload 9, 2) := by decide +kernel
theorem dL_units_527 : decode cL_units 527 = .ok (.isub, 1) := by decide +kernel
theorem dL_units_528 : decode cL_units 528 = .ok (.iastore, 1) := by decide +kernel
theorem dL_units_529 : decode cL_units 529 = .ok (.aload_n 0, 1) := by decide +kernel
theorem dL_units_530 : decode cL_units 530 = .ok (.iload 6, 2) := by decide +kernel
theorem dL_units_532 : decode cL_units 532 = .ok (.bipush 12, 2) := by decide +kernel
theorem dL_units_534 : decode cL_units 534 = .ok (.idiv, 1) := by decide +kernel
theorem dL_units_535 : decode cL_units 535 = .ok (.iload 8, 2) := by decide +kernel
theorem dL_units_537 : decode cL_units 537 = .ok (.iload 9, 2) := by decide +kernel
theorem dL_units_539 : decode cL_units 539 = .ok (.invokevirtual 72, 3) := by decide +kernel
theorem dL_units_542 : decode cL_units 542 = .ok (.iload 10, 2) := by decide +kernel
theorem dL_units_544 : decode cL_units 544 = .ok (.bipush 12, 2) := by decide +kernel
theorem dL_units_546 : decode cL_units 546 = .ok (.idiv, 1) := by decide +kernel
theorem dL_units_547 : decode cL_units 547 = .ok (.if_icmp .ne 7, 3) := by decide +kernel
theorem dL_units_550 : decode cL_units 550 = .ok (.iconst 1, 1) := by decide +kernel
theorem dL_units_551 : decode cL_units 551 = .ok (.goto 4, 3) := by decide +kernel
theorem dL_units_554 : decode cL_units 554 = .ok (.iconst 0, 1) := by decide +kernel
theorem dL_units_555 : decode cL_units 555 = .ok (.ireturn, 1) := by decide +kernel
theorem dL_units_556 : decode cL_units 556 = .ok (.iload 5, 2) := by decide +kernel
theorem dL_units_558 : decode cL_units 558 = .ok (.bipush 8, 2) := by decide +kernel
theorem dL_units_560 : decode cL_units 560 = .ok (.if_icmp .ge 215, 3) := by decide +kernel
theorem dL_units_563 : decode cL_units 563 = .ok (.iload 6, 2) := by decide +kernel
theorem dL_units_565 : decode cL_units 565 = .ok (.iload 7, 2) := by decide +kernel
theorem dL_units_567 : decode cL_units 567 = .ok (.if_icmp .eq 49, 3) := by decide +kernel
theorem dL_units_570 : decode cL_units 570 = .ok (.aload 4, 2) := by decide +kernel
theorem dL_units_572 : decode cL_units 572 = .ok (.iload 7, 2) := by decide +kernel
theorem dL_units_574 : decode cL_units 574 = .ok (.iaload, 1) := by decide +kernel
theorem dL_units_575 : decode cL_units 575 = .ok (.ifCond .ne 41, 3) := by decide +kernel
theorem dL_units_578 : decode cL_units 578 = .ok (.aload 4, 2) := by decide +kernel
theorem dL_units_580 : decode cL_units 580 = .ok (.iload 6, 2) := by decide +kernel
theorem dL_units_582 : decode cL_units 582 = .ok (.iconst 1, 1) := by decide +kernel
theorem dL_units_583 : decode cL_units 583 = .ok (.iadd, 1) := by decide +kernel
theorem dL_units_584 : decode cL_units 584 = .ok (.iaload, 1) := by decide +kernel
theorem dL_units_585 : decode cL_units 585 = .ok (.aload 4, 2) := by decide +kernel
theorem dL_units_587 : decode cL_units 587 = .ok (.iload 7, 2) := by decide +kernel
theorem dL_units_589 : decode cL_units 589 = .ok (.iconst 1, 1) := by decide +kernel
theorem dL_units_590 : decode cL_units 590 = .ok (.iadd, 1) := by decide +kernel
theorem dL_units_591 : decode cL_units 591 = .ok (.iaload, 1) := by decide +kernel
theorem dL_units_592 : decode cL_units 592 = .ok (.if_icmp .ne 24, 3) := by decide +kernel
theorem dL_units_595 : decode cL_units 595 = .ok (.aload 4, 2) := by decide +kernel
theorem dL_units_597 : decode cL_units 597 = .ok (.iload 6, 2) := by decide +kernel
theorem dL_units_599 : decode cL_units 599 = .ok (.iconst 2, 1) := by decide +kernel
theorem dL_units_600 : decode cL_units 600 = .ok (.iadd, 1) := by decide +kernel
theorem dL_units_601 : decode cL_units 601 = .ok (.iaload, 1) := by decide +kernel
theorem dL_units_602 : decode cL_units 602 = .ok (.aload 4, 2) := by decide +kernel
theorem dL_units_604 : decode cL_units 604 = .ok (.iload 7, 2) := by decide +kernel
theorem dL_units_606 : decode cL_units 606 = .ok (.iconst 2, 1) := by decide +kernel
theorem dL_units_607 : decode cL_units 607 = .ok (.iadd, 1) := by decide +kernel
theorem dL_units_608 : decode cL_units 608 = .ok (.iaload, 1) := by decide +kernel
theorem dL_units_609 : decode cL_units 609 = .ok (.iadd, 1) := by decide +kernel
theorem dL_units_610 : decode cL_units 610 = .ok (.sipush 300, 3) := by decide +kernel
theorem dL_units_613 : decode cL_units 613 = .ok (.if_icmp .le 5, 3) := by decide +kernel
theorem dL_units_616 : decode cL_units 616 = .ok (.iconst 1, 1) := by decide +kernel
theorem dL_units_617 : decode cL_units 617 = .ok (.ireturn, 1) := by decide +kernel
theorem dL_units_618 : decode cL_units 618 = .ok (.aload 4, 2) := by decide +kernel
theorem dL_units_620 : decode cL_units 620 = .ok (.iload 7, 2) := by decide +kernel
theorem dL_units_622 : decode cL_units 622 = .ok (.bipush 8, 2) := by decide +kernel
theorem dL_units_624 : decode cL_units 624 = .ok (.iadd, 1) := by decide +kernel
theorem dL_units_625 : decode cL_units 625 = .ok (.iaload, 1) := by decide +kernel
theorem dL_units_626 : decode cL_units 626 = .ok (.ifCond .lt 33, 3) := by decide +kernel
theorem dL_units_629 : decode cL_units 629 = .ok (.aload 4, 2) := by decide +kernel
theorem dL_units_631 : decode cL_units 631 = .ok (.iload 6, 2) := by decide +kernel
theorem dL_units_633 : decode cL_units 633 = .ok (.bipush 8, 2) := by decide +kernel
theorem dL_units_635 : decode cL_units 635 = .ok (.iadd, 1) := by decide +kernel
theorem dL_units_636 : decode cL_units 636 = .ok (.iaload, 1) := by decide +kernel
theorem dL_units_637 : decode cL_units 637 = .ok (.ifCond .lt 38, 3) := by decide +kernel
theorem dL_units_640 : decode cL_units 640 = .ok (.aload 4, 2) := by decide +kernel
theorem dL_units_642 : decode cL_units 642 = .ok (.iload 6, 2) := by decide +kernel
theorem dL_units_644 : decode cL_units 644 = .ok (.bipush 8, 2) := by decide +kernel
theorem dL_units_646 : decode cL_units 646 = .ok (.iadd, 1) := by decide +kernel
theorem dL_units_647 : decode cL_units 647 = .ok (.iaload, 1) := by decide +kernel
theorem dL_units_648 : decode cL_units 648 = .ok (.aload 4, 2) := by decide +kernel
theorem dL_units_650 : decode cL_units 650 = .ok (.iload 7, 2) := by decide +kernel
theorem dL_units_652 : decode cL_units 652 = .ok (.bipush 8, 2) := by decide +kernel
theorem dL_units_654 : decode cL_units 654 = .ok (.iadd, 1) := by decide +kernel
theorem dL_units_655 : decode cL_units 655 = .ok (.iaload, 1) := by decide +kernel
theorem dL_units_656 : decode cL_units 656 = .ok (.if_icmp .ge 19, 3) := by decide +kernel
theorem dL_units_659 : decode cL_units 659 = .ok (.aload 4, 2) := by decide +kernel
theorem dL_units_661 : decode cL_units 661 = .ok (.iload 7, 2) := by decide +kernel
theorem dL_units_663 : decode cL_units 663 = .ok (.bipush 8, 2) := by decide +kernel
theorem dL_units_665 : decode cL_units 665 = .ok (.iadd, 1) := by decide +kernel
theorem dL_units_666 : decode cL_units 666 = .ok (.aload 4, 2) := by decide +kernel
theorem dL_units_668 : decode cL_units 668 = .ok (.iload 6, 2) := by decide +kernel
theorem dL_units_670 : decode cL_units 670 = .ok (.bipush 8, 2) := by decide +kernel
theorem dL_units_672 : decode cL_units 672 = .ok (.iadd, 1) := by decide +kernel
theorem dL_units_673 : decode cL_units 673 = .ok (.iaload, 1) := by decide +kernel
theorem dL_units_674 : decode cL_units 674 = .ok (.iastore, 1) := by decide +kernel
theorem dL_units_675 : decode cL_units 675 = .ok (.iconst 0, 1) := by decide +kernel
theorem dL_units_676 : decode cL_units 676 = .ok (.istore 8, 2) := by decide +kernel
theorem dL_units_678 : decode cL_units 678 = .ok (.iload 8, 2) := by decide +kernel
theorem dL_units_680 : decode cL_units 680 = .ok (.iconst 4, 1) := by decide +kernel
theorem dL_units_681 : decode cL_units 681 = .ok (.if_icmp .ge 58, 3) := by decide +kernel
theorem dL_units_684 : decode cL_units 684 = .ok (.aload 4, 2) := by decide +kernel
theorem dL_units_686 : decode cL_units 686 = .ok (.iload 7, 2) := by decide +kernel
theorem dL_units_688 : decode cL_units 688 = .ok (.iload 8, 2) := by decide +kernel
theorem dL_units_690 : decode cL_units 690 = .ok (.iconst 2, 1) := by decide +kernel
theorem dL_units_691 : decode cL_units 691 = .ok (.if_icmp .ge 10, 3) := by decide +kernel
theorem dL_units_694 : decode cL_units 694 = .ok (.iconst 2, 1) := by decide +kernel
theorem dL_units_695 : decode cL_units 695 = .ok (.iload 8, 2) := by decide +kernel
theorem dL_units_697 : decode cL_units 697 = .ok (.iadd, 1) := by decide +kernel
theorem dL_units_698 : decode cL_units 698 = .ok (.goto 7, 3) := by decide +kernel
theorem dL_units_701 : decode cL_units 701 = .ok (.iconst 4, 1) := by decide +kernel
theorem dL_units_702 : decode cL_units 702 = .ok (.iload 8, 2) := by decide +kernel
theorem dL_units_704 : decode cL_units 704 = .ok (.iadd, 1) := by decide +kernel
theorem dL_units_705 : decode cL_units 705 = .ok (.iadd, 1) := by decide +kernel
theorem dL_units_706 : decode cL_units 706 = .ok (.dup2, 1) := by decide +kernel
theorem dL_units_707 : decode cL_units 707 = .ok (.iaload, 1) := by decide +kernel
theorem dL_units_708 : decode cL_units 708 = .ok (.aload 4, 2) := by decide +kernel
theorem dL_units_710 : decode cL_units 710 = .ok (.iload 6, 2) := by decide +kernel
theorem dL_units_712 : decode cL_units 712 = .ok (.iload 8, 2) := by decide +kernel
theorem dL_units_714 : decode cL_units 714 = .ok (.iconst 2, 1) := by decide +kernel
theorem dL_units_715 : decode cL_units 715 = .ok (.if_icmp .ge 10, 3) := by decide +kernel
theorem dL_units_718 : decode cL_units 718 = .ok (.iconst 2, 1) := by decide +kernel
theorem dL_units_719 : decode cL_units 719 = .ok (.iload 8, 2) := by decide +kernel
theorem dL_units_721 : decode cL_units 721 = .ok (.iadd, 1) := by decide +kernel
theorem dL_units_722 : decode cL_units 722 = .ok (.goto 7, 3) := by decide +kernel
theorem dL_units_725 : decode cL_units 725 = .ok (.iconst 4, 1) := by decide +kernel
theorem dL_units_726 : decode cL_units 726 = .ok (.iload 8, 2) := by decide +kernel
theorem dL_units_728 : decode cL_units 728 = .ok (.iadd, 1) := by decide +kernel
theorem dL_units_729 : decode cL_units 729 = .ok (.iadd, 1) := by decide +kernel
theorem dL_units_730 : decode cL_units 730 = .ok (.iaload, 1) := by decide +kernel
theorem dL_units_731 : decode cL_units 731 = .ok (.iadd, 1) := by decide +kernel
theorem dL_units_732 : decode cL_units 732 = .ok (.iastore, 1) := by decide +kernel
theorem dL_units_733 : decode cL_units 733 = .ok (.iinc 8 1, 3) := by decide +kernel
theorem dL_units_736 : decode cL_units 736 = .ok (.goto (-58), 3) := by decide +kernel
theorem dL_units_739 : decode cL_units 739 = .ok (.aload 4, 2) := by decide +kernel
theorem dL_units_741 : decode cL_units 741 = .ok (.iload 6, 2) := by decide +kernel
theorem dL_units_743 : decode cL_units 743 = .ok (.iconst 2, 1) := by decide +kernel
theorem dL_units_744 : decode cL_units 744 = .ok (.iastore, 1) := by decide +kernel
theorem dL_units_745 : decode cL_units 745 = .ok (.aload_n 0, 1) := by decide +kernel
theorem dL_units_746 : decode cL_units 746 = .ok (.iload 6, 2) := by decide +kernel
theorem dL_units_748 : decode cL_units 748 = .ok (.bipush 12, 2) := by decide +kernel
theorem dL_units_750 : decode cL_units 750 = .ok (.idiv, 1) := by decide +kernel
theorem dL_units_751 : decode cL_units 751 = .ok (.iload 7, 2) := by decide +kernel
theorem dL_units_753 : decode cL_units 753 = .ok (.bipush 12, 2) := by decide +kernel
theorem dL_units_755 : decode cL_units 755 = .ok (.idiv, 1) := by decide +kernel
theorem dL_units_756 : decode cL_units 756 = .ok (.invokevirtual 75, 3) := by decide +kernel
theorem dL_units_759 : decode cL_units 759 = .ok (.aload 4, 2) := by decide +kernel
theorem dL_units_761 : decode cL_units 761 = .ok (.iload 7, 2) := by decide +kernel
theorem dL_units_763 : decode cL_units 763 = .ok (.iconst 2, 1) := by decide +kernel
theorem dL_units_764 : decode cL_units 764 = .ok (.iadd, 1) := by decide +kernel
theorem dL_units_765 : decode cL_units 765 = .ok (.iaload, 1) := by decide +kernel
theorem dL_units_766 : decode cL_units 766 = .ok (.if_icmp .ne 7, 3) := by decide +kernel
theorem dL_units_769 : decode cL_units 769 = .ok (.iconst 1, 1) := by decide +kernel
theorem dL_units_770 : decode cL_units 770 = .ok (.goto 4, 3) := by decide +kernel
theorem dL_units_773 : decode cL_units 773 = .ok (.iconst 0, 1) := by decide +kernel
theorem dL_units_774 : decode cL_units 774 = .ok (.ireturn, 1) := by decide +kernel
theorem dL_units_775 : decode cL_units 775 = .ok (.aload 4, 2) := by decide +kernel
theorem dL_units_777 : decode cL_units 777 = .ok (.iload 6, 2) := by decide +kernel
theorem dL_units_779 : decode cL_units 779 = .ok (.bipush 6, 2) := by decide +kernel
theorem dL_units_781 : decode cL_units 781 = .ok (.iadd, 1) := by decide +kernel
theorem dL_units_782 : decode cL_units 782 = .ok (.iaload, 1) := by decide +kernel
theorem dL_units_783 : decode cL_units 783 = .ok (.aload 4, 2) := by decide +kernel
theorem dL_units_785 : decode cL_units 785 = .ok (.iload 6, 2) := by decide +kernel
theorem dL_units_787 : decode cL_units 787 = .ok (.bipush 7, 2) := by decide +kernel
theorem dL_units_789 : decode cL_units 789 = .ok (.iadd, 1) := by decide +kernel
theorem dL_units_790 : decode cL_units 790 = .ok (.iaload, 1) := by decide +kernel
theorem dL_units_791 : decode cL_units 791 = .ok (.iadd, 1) := by decide +kernel
theorem dL_units_792 : decode cL_units 792 = .ok (.istore 8, 2) := by decide +kernel
theorem dL_units_794 : decode cL_units 794 = .ok (.aload 4, 2) := by decide +kernel
theorem dL_units_796 : decode cL_units 796 = .ok (.iload 6, 2) := by decide +kernel
theorem dL_units_798 : decode cL_units 798 = .ok (.iconst 1, 1) := by decide +kernel
theorem dL_units_799 : decode cL_units 799 = .ok (.iastore, 1) := by decide +kernel
theorem dL_units_800 : decode cL_units 800 = .ok (.aload 4, 2) := by decide +kernel
theorem dL_units_802 : decode cL_units 802 = .ok (.iload 6, 2) := by decide +kernel
theorem dL_units_804 : decode cL_units 804 = .ok (.bipush 11, 2) := by decide +kernel
theorem dL_units_806 : decode cL_units 806 = .ok (.iadd, 1) := by decide +kernel
theorem dL_units_807 : decode cL_units 807 = .ok (.iload 8, 2) := by decide +kernel
theorem dL_units_809 : decode cL_units 809 = .ok (.iastore, 1) := by decide +kernel
theorem dL_units_810 : decode cL_units 810 = .ok (.aload_n 3, 1) := by decide +kernel
theorem dL_units_811 : decode cL_units 811 = .ok (.bipush 17, 2) := by decide +kernel
theorem dL_units_813 : decode cL_units 813 = .ok (.dup2, 1) := by decide +kernel
theorem dL_units_814 : decode cL_units 814 = .ok (.iaload, 1) := by decide +kernel
theorem dL_units_815 : decode cL_units 815 = .ok (.iload 8, 2) := by decide +kernel
theorem dL_units_817 : decode cL_units 817 = .ok (.iadd, 1) := by decide +kernel
theorem dL_units_818 : decode cL_units 818 = .ok (.iastore, 1) := by decide +kernel
theorem dL_units_819 : decode cL_units 819 = .ok (.aload_n 0, 1) := by decide +kernel
theorem dL_units_820 : decode cL_units 820 = .ok (.iload 6, 2) := by decide +kernel
theorem dL_units_822 : decode cL_units 822 = .ok (.bipush 12, 2) := by decide +kernel
theorem dL_units_824 : decode cL_units 824 = .ok (.idiv, 1) := by decide +kernel
theorem dL_units_825 : decode cL_units 825 = .ok (.invokevirtual 78, 3) := by decide +kernel
theorem dL_units_828 : decode cL_units 828 = .ok (.iload 8, 2) := by decide +kernel
theorem dL_units_830 : decode cL_units 830 = .ok (.if_icmp .ne 7, 3) := by decide +kernel
theorem dL_units_833 : decode cL_units 833 = .ok (.iconst 1, 1) := by decide +kernel
theorem dL_units_834 : decode cL_units 834 = .ok (.goto 4, 3) := by decide +kernel
theorem dL_units_837 : decode cL_units 837 = .ok (.iconst 0, 1) := by decide +kernel
theorem dL_units_838 : decode cL_units 838 = .ok (.ireturn, 1) := by decide +kernel
theorem dL_agree_0 : decode cL_agree 0 = .ok (.iconst 0, 1) := by decide +kernel
theorem dL_agree_1 : decode cL_agree 1 = .ok (.istore 11, 2) := by decide +kernel
theorem dL_agree_3 : decode cL_agree 3 = .ok (.iconst 0, 1) := by decide +kernel
theorem dL_agree_4 : decode cL_agree 4 = .ok (.istore 12, 2) := by decide +kernel
theorem dL_agree_6 : decode cL_agree 6 = .ok (.iconst 0, 1) := by decide +kernel
theorem dL_agree_7 : decode cL_agree 7 = .ok (.istore 13, 2) := by decide +kernel
theorem dL_agree_9 : decode cL_agree 9 = .ok (.iload 13, 2) := by decide +kernel
theorem dL_agree_11 : decode cL_agree 11 = .ok (.aload_n 1, 1) := by decide +kernel
theorem dL_agree_12 : decode cL_agree 12 = .ok (.iconst 3, 1) := by decide +kernel
theorem dL_agree_13 : decode cL_agree 13 = .ok (.iaload, 1) := by decide +kernel
theorem dL_agree_14 : decode cL_agree 14 = .ok (.if_icmp .ge 130, 3) := by decide +kernel
theorem dL_agree_17 : decode cL_agree 17 = .ok (.iconst 0, 1) := by decide +kernel
theorem dL_agree_18 : decode cL_agree 18 = .ok (.istore 14, 2) := by decide +kernel
theorem dL_agree_20 : decode cL_agree 20 = .ok (.iload 14, 2) := by decide +kernel
theorem dL_agree_22 : decode cL_agree 22 = .ok (.bipush 12, 2) := by decide +kernel
theorem dL_agree_24 : decode cL_agree 24 = .ok (.if_icmp .ge 60, 3) := by decide +kernel
theorem dL_agree_27 : decode cL_agree 27 = .ok (.aload_n 0, 1) := by decide +kernel
theorem dL_agree_28 : decode cL_agree 28 = .ok (.iload 13, 2) := by decide +kernel
theorem dL_agree_30 : decode cL_agree 30 = .ok (.iload 14, 2) := by decide +kernel
theorem dL_agree_32 : decode cL_agree 32 = .ok (.invokevirtual 82, 3) := by decide +kernel
theorem dL_agree_35 : decode cL_agree 35 = .ok (.aload 9, 2) := by decide +kernel
theorem dL_agree_37 : decode cL_agree 37 = .ok (.bipush 12, 2) := by decide +kernel
theorem dL_agree_39 : decode cL_agree 39 = .ok (.iload 13, 2) := by decide +kernel
theorem dL_agree_41 : decode cL_agree 41 = .ok (.imul, 1) := by decide +kernel
theorem dL_agree_42 : decode cL_agree 42 = .ok (.iaload, 1) := by decide +kernel
theorem dL_agree_43 : decode cL_agree 43 = .ok (.ifCond .le 19, 3) := by decide +kernel
theorem dL_agree_46 : decode cL_agree 46 = .ok (.iload 14, 2) := by decide +kernel
theorem dL_agree_48 : decode cL_agree 48 = .ok (.ifCond .le 14, 3) := by decide +kernel
theorem dL_agree_51 : decode cL_agree 51 = .ok (.iload 14, 2) := by decide +kernel
theorem dL_agree_53 : decode cL_agree 53 = .ok (.bipush 9, 2) := by decide +kernel
theorem dL_agree_55 : decode cL_agree 55 = .ok (.if_icmp .ge 7, 3) := by decide +kernel
theorem dL_agree_58 : decode cL_agree 58 = .ok (.iconst (-1), 1) := by decide +kernel
theorem dL_agree_59 : decode cL_agree 59 = .ok (.goto 14, 3) := by decide +kernel
theorem dL_agree_62 : decode cL_agree 62 = .ok (.aload 9, 2) := by decide +kernel
theorem dL_agree_64 : decode cL_agree 64 = .ok (.bipush 12, 2) := by decide +kernel
theorem dL_agree_66 : decode cL_agree 66 = .ok (.iload 13, 2) := by decide +kernel
theorem dL_agree_68 : decode cL_agree 68 = .ok (.imul, 1) := by decide +kernel
theorem dL_agree_69 : decode cL_agree 69 = .ok (.iload 14, 2) := by decide +kernel
theorem dL_agree_71 : decode cL_agree 71 = .ok (.iadd, 1) := by decide +kernel
theorem dL_agree_72 : decode cL_agree 72 = .ok (.iaload, 1) := by decide +kernel
theorem dL_agree_73 : decode cL_agree 73 = .ok (.if_icmp .eq 5, 3) := by decide +kernel
theorem dL_agree_76 : decode cL_agree 76 = .ok (.iconst 0, 1) := by decide +kernel
theorem dL_agree_77 : decode cL_agree 77 = .ok (.ireturn, 1) := by decide +kernel
theorem dL_agree_78 : decode cL_agree 78 = .ok (.iinc 14 1, 3) := by decide +kernel
theorem dL_agree_81 : decode cL_agree 81 = .ok (.goto (-61), 3) := by decide +kernel
theorem dL_agree_84 : decode cL_agree 84 = .ok (.aload 9, 2) := by decide +kernel
theorem dL_agree_86 : decode cL_agree 86 = .ok (.bipush 12, 2) := by decide +kernel
theorem dL_agree_88 : decode cL_agree 88 = .ok (.iload 13, 2) := by decide +kernel
theorem dL_agree_90 : decode cL_agree 90 = .ok (.imul, 1) := by decide +kernel
theorem dL_agree_91 : decode cL_agree 91 = .ok (.iaload, 1) := by decide +kernel
theorem dL_agree_92 : decode cL_agree 92 = .ok (.ifCond .ne 46, 3) := by decide +kernel
theorem dL_agree_95 : decode cL_agree 95 = .ok (.iload 11, 2) := by decide +kernel
theorem dL_agree_97 : decode cL_agree 97 = .ok (.aload 9, 2) := by decide +kernel
theorem dL_agree_99 : decode cL_agree 99 = .ok (.bipush 12, 2) := by decide +kernel
theorem dL_agree_101 : decode cL_agree 101 = .ok (.iload 13, 2) := by decide +kernel
theorem dL_agree_103 : decode cL_agree 103 = .ok (.imul, 1) := by decide +kernel
theorem dL_agree_104 : decode cL_agree 104 = .ok (.bipush 6, 2) := by decide +kernel
theorem dL_agree_106 : decode cL_agree 106 = .ok (.iadd, 1) := by decide +kernel
theorem dL_agree_107 : decode cL_agree 107 = .ok (.iaload, 1) := by decide +kernel
theorem dL_agree_108 : decode cL_agree 108 = .ok (.aload 9, 2) := by decide +kernel
theorem dL_agree_110 : decode cL_agree 110 = .ok (.bipush 12, 2) := by decide +kernel
theorem dL_agree_112 : decode cL_agree 112 = .ok (.iload 13, 2) := by decide +kernel
theorem dL_agree_114 : decode cL_agree 114 = .ok (.imul, 1) := by decide +kernel
theorem dL_agree_115 : decode cL_agree 115 = .ok (.bipush 7, 2) := by decide +kernel
theorem dL_agree_117 : decode cL_agree 117 = .ok (.iadd, 1) := by decide +kernel
theorem dL_agree_118 : decode cL_agree 118 = .ok (.iaload, 1) := by decide +kernel
theorem dL_agree_119 : decode cL_agree 119 = .ok (.iadd, 1) := by decide +kernel
theorem dL_agree_120 : decode cL_agree 120 = .ok (.iadd, 1) := by decide +kernel
theorem dL_agree_121 : decode cL_agree 121 = .ok (.istore 11, 2) := by decide +kernel
theorem dL_agree_123 : decode cL_agree 123 = .ok (.iload 12, 2) := by decide +kernel
theorem dL_agree_125 : decode cL_agree 125 = .ok (.aload 9, 2) := by decide +kernel
theorem dL_agree_127 : decode cL_agree 127 = .ok (.bipush 12, 2) := by decide +kernel
theorem dL_agree_129 : decode cL_agree 129 = .ok (.iload 13, 2) := by decide +kernel
theorem dL_agree_131 : decode cL_agree 131 = .ok (.imul, 1) := by decide +kernel
theorem dL_agree_132 : decode cL_agree 132 = .ok (.iconst 2, 1) := by decide +kernel
theorem dL_agree_133 : decode cL_agree 133 = .ok (.iadd, 1) := by decide +kernel
theorem dL_agree_134 : decode cL_agree 134 = .ok (.iaload, 1) := by decide +kernel
theorem dL_agree_135 : decode cL_agree 135 = .ok (.iadd, 1) := by decide +kernel
theorem dL_agree_136 : decode cL_agree 136 = .ok (.istore 12, 2) := by decide +kernel
theorem dL_agree_138 : decode cL_agree 138 = .ok (.iinc 13 1, 3) := by decide +kernel
theorem dL_agree_141 : decode cL_agree 141 = .ok (.goto (-132), 3) := by decide +kernel
theorem dL_agree_144 : decode cL_agree 144 = .ok (.iconst 0, 1) := by decide +kernel
theorem dL_agree_145 : decode cL_agree 145 = .ok (.istore 13, 2) := by decide +kernel
theorem dL_agree_147 : decode cL_agree 147 = .ok (.iconst 0, 1) := by decide +kernel
theorem dL_agree_148 : decode cL_agree 148 = .ok (.istore 14, 2) := by decide +kernel
theorem dL_agree_150 : decode cL_agree 150 = .ok (.iconst 0, 1) := by decide +kernel
theorem dL_agree_151 : decode cL_agree 151 = .ok (.istore 15, 2) := by decide +kernel
theorem dL_agree_153 : decode cL_agree 153 = .ok (.iload 15, 2) := by decide +kernel
theorem dL_agree_155 : decode cL_agree 155 = .ok (.aload_n 1, 1) := by decide +kernel
theorem dL_agree_156 : decode cL_agree 156 = .ok (.iconst 1, 1) := by decide +kernel
theorem dL_agree_157 : decode cL_agree 157 = .ok (.iaload, 1) := by decide +kernel
theorem dL_agree_158 : decode cL_agree 158 = .ok (.if_icmp .ge 173, 3) := by decide +kernel
theorem dL_agree_161 : decode cL_agree 161 = .ok (.iconst 0, 1) := by decide +kernel
theorem dL_agree_162 : decode cL_agree 162 = .ok (.istore 16, 2) := by decide +kernel
theorem dL_agree_164 : decode cL_agree 164 = .ok (.iload 16, 2) := by decide +kernel
theorem dL_agree_166 : decode cL_agree 166 = .ok (.iconst 3, 1) := by decide +kernel
theorem dL_agree_167 : decode cL_agree 167 = .ok (.if_icmp .ge 58, 3) := by decide +kernel
theorem dL_agree_170 : decode cL_agree 170 = .ok (.aload_n 0, 1) := by decide +kernel
theorem dL_agree_171 : decode cL_agree 171 = .ok (.iload 15, 2) := by decide +kernel
theorem dL_agree_173 : decode cL_agree 173 = .ok (.iconst 1, 1) := by decide +kernel
theorem dL_agree_174 : decode cL_agree 174 = .ok (.iload 16, 2) := by decide +kernel
theorem dL_agree_176 : decode cL_agree 176 = .ok (.iadd, 1) := by decide +kernel
theorem dL_agree_177 : decode cL_agree 177 = .ok (.invokevirtual 85, 3) := by decide +kernel
theorem dL_agree_180 : decode cL_agree 180 = .ok (.aload 4, 2) := by decide +kernel
theorem dL_agree_182 : decode cL_agree 182 = .ok (.iconst 3, 1) := by decide +kernel
theorem dL_agree_183 : decode cL_agree 183 = .ok (.iload 15, 2) := by decide +kernel
theorem dL_agree_185 : decode cL_agree 185 = .ok (.imul, 1) := by decide +kernel
theorem dL_agree_186 : decode cL_agree 186 = .ok (.iload 16, 2) := by decide +kernel
theorem dL_agree_188 : decode cL_agree 188 = .ok (.iadd, 1) := by decide +kernel
theorem dL_agree_189 : decode cL_agree 189 = .ok (.iaload, 1) := by decide +kernel
theorem dL_agree_190 : decode cL_agree 190 = .ok (.if_icmp .ne 27, 3) := by decide +kernel
theorem dL_agree_193 : decode cL_agree 193 = .ok (.aload_n 0, 1) := by decide +kernel
theorem dL_agree_194 : decode cL_agree 194 = .ok (.iload 15, 2) := by decide +kernel
theorem dL_agree_196 : decode cL_agree 196 = .ok (.bipush 6, 2) := by decide +kernel
theorem dL_agree_198 : decode cL_agree 198 = .ok (.iload 16, 2) := by decide +kernel
theorem dL_agree_200 : decode cL_agree 200 = .ok (.iadd, 1) := by decide +kernel
theorem dL_agree_201 : decode cL_agree 201 = .ok (.invokevirtual 85, 3) := by decide +kernel
theorem dL_agree_204 : decode cL_agree 204 = .ok (.aload_n 1, 1) := by decide +kernel
theorem dL_agree_205 : decode cL_agree 205 = .ok (.aload 10, 2) := by decide +kernel
theorem dL_agree_207 : decode cL_agree 207 = .ok (.iload 15, 2) := by decide +kernel
theorem dL_agree_209 : decode cL_agree 209 = .ok (.iload 16, 2) := by decide +kernel
theorem dL_agree_211 : decode cL_agree 211 = .ok (.invokestatic 10, 3) := by decide +kernel
theorem dL_agree_214 : decode cL_agree 214 = .ok (.if_icmp .eq 5, 3) := by decide +kernel
theorem dL_agree_217 : decode cL_agree 217 = .ok (.iconst 0, 1) := by decide +kernel
theorem dL_agree_218 : decode cL_agree 218 = .ok (.ireturn, 1) := by decide +kernel
theorem dL_agree_219 : decode cL_agree 219 = .ok (.iinc 16 1, 3) := by decide +kernel
theorem dL_agree_222 : decode cL_agree 222 = .ok (.goto (-58), 3) := by decide +kernel
theorem dL_agree_225 : decode cL_agree 225 = .ok (.aload_n 1, 1) := by decide +kernel
theorem dL_agree_226 : decode cL_agree 226 = .ok (.aload 10, 2) := by decide +kernel
theorem dL_agree_228 : decode cL_agree 228 = .ok (.iload 15, 2) := by decide +kernel
theorem dL_agree_230 : decode cL_agree 230 = .ok (.bipush 7, 2) := by decide +kernel
theorem dL_agree_232 : decode cL_agree 232 = .ok (.invokestatic 16, 3) := by decide +kernel
theorem dL_agree_235 : decode cL_agree 235 = .ok (.istore 16, 2) := by decide +kernel
theorem dL_agree_237 : decode cL_agree 237 = .ok (.aload_n 0, 1) := by decide +kernel
theorem dL_agree_238 : decode cL_agree 238 = .ok (.iload 15, 2) := by decide +kernel
theorem dL_agree_240 : decode cL_agree 240 = .ok (.iconst 5, 1) := by decide +kernel
theorem dL_agree_241 : decode cL_agree 241 = .ok (.invokevirtual 85, 3) := by decide +kernel
theorem dL_agree_244 : decode cL_agree 244 = .ok (.aload 6, 2) := by decide +kernel
theorem dL_agree_246 : decode cL_agree 246 = .ok (.iload 15, 2) := by decide +kernel
theorem dL_agree_248 : decode cL_agree 248 = .ok (.iaload, 1) := by decide +kernel
theorem dL_agree_249 : decode cL_agree 249 = .ok (.if_icmp .ne 61, 3) := by decide +kernel
theorem dL_agree_252 : decode cL_agree 252 = .ok (.aload_n 0, 1) := by decide +kernel
theorem dL_agree_253 : decode cL_agree 253 = .ok (.iload 15, 2) := by decide +kernel
theorem dL_agree_255 : decode cL_agree 255 = .ok (.iconst 4, 1) := by decide +kernel
theorem dL_agree_256 : decode cL_agree 256 = .ok (.invokevirtual 85, 3) := by decide +kernel
theorem dL_agree_259 : decode cL_agree 259 = .ok (.aload 6, 2) := by decide +kernel
theorem dL_agree_261 : decode cL_agree 261 = .ok (.iload 15, 2) := by decide +kernel
theorem dL_agree_263 : decode cL_agree 263 = .ok (.iaload, 1) := by decide +kernel
theorem dL_agree_264 : decode cL_agree 264 = .ok (.ifCond .ne 7, 3) := by decide +kernel
theorem dL_agree_267 : decode cL_agree 267 = .ok (.iconst (-1), 1) := by decide +kernel
theorem dL_agree_268 : decode cL_agree 268 = .ok (.goto 8, 3) := by decide +kernel
theorem dL_agree_271 : decode cL_agree 271 = .ok (.aload 5, 2) := by decide +kernel
theorem dL_agree_273 : decode cL_agree 273 = .ok (.iload 15, 2) := by decide +kernel
theorem dL_agree_275 : decode cL_agree 275 = .ok (.iaload, 1) := by decide +kernel
theorem dL_agree_276 : decode cL_agree 276 = .ok (.if_icmp .ne 34, 3) := by decide +kernel
theorem dL_agree_279 : decode cL_agree 279 = .ok (.aload_n 0, 1) := by decide +kernel
theorem dL_agree_280 : decode cL_agree 280 = .ok (.iload 15, 2) := by decide +kernel
theorem dL_agree_282 : decode cL_agree 282 = .ok (.bipush 9, 2) := by decide +kernel
theorem dL_agree_284 : decode cL_agree 284 = .ok (.invokevirtual 85, 3) := by decide +kernel
theorem dL_agree_287 : decode cL_agree 287 = .ok (.iload 16, 2) := by decide +kernel
theorem dL_agree_289 : decode cL_agree 289 = .ok (.ifCond .ge 7, 3) := by decide +kernel
theorem dL_agree_292 : decode cL_agree 292 = .ok (.iconst (-1), 1) := by decide +kernel
theorem dL_agree_293 : decode cL_agree 293 = .ok (.goto 14, 3) := by decide +kernel
theorem dL_agree_296 : decode cL_agree 296 = .ok (.aload 10, 2) := by decide +kernel
theorem dL_agree_298 : decode cL_agree 298 = .ok (.iload 16, 2) := by decide +kernel
theorem dL_agree_300 : decode cL_agree 300 = .ok (.iaload, 1) := by decide +kernel
theorem dL_agree_301 : decode cL_agree 301 = .ok (.iconst 5, 1) := by decide +kernel
theorem dL_agree_302 : decode cL_agree 302 = .ok (.ishr, 1) := by decide +kernel
theorem dL_agree_303 : decode cL_agree 303 = .ok (.sipush 4095, 3) := by decide +kernel
theorem dL_agree_306 : decode cL_agree 306 = .ok (.iand, 1) := by decide +kernel
theorem dL_agree_307 : decode cL_agree 307 = .ok (.if_icmp .eq 5, 3) := by decide +kernel
theorem dL_agree_310 : decode cL_agree 310 = .ok (.iconst 0, 1) := by decide +kernel
theorem dL_agree_311 : decode cL_agree 311 = .ok (.ireturn, 1) := by decide +kernel
theorem dL_agree_312 : decode cL_agree 312 = .ok (.iload 13, 2) := by decide +kernel
theorem dL_agree_314 : decode cL_agree 314 = .ok (.aload_n 1, 1) := by decide +kernel
theorem dL_agree_315 : decode cL_agree 315 = .ok (.aload 10, 2) := by decide +kernel
theorem dL_agree_317 : decode cL_agree 317 = .ok (.iload 15, 2) := by decide +kernel
theorem dL_agree_319 : decode cL_agree 319 = .ok (.invokestatic 54, 3) := by decide +kernel
theorem dL_agree_322 : decode cL_agree 322 = .ok (.iadd, 1) := by decide +kernel
theorem dL_agree_323 : decode cL_agree 323 = .ok (.istore 13, 2) := by decide +kernel
theorem dL_agree_325 : decode cL_agree 325 = .ok (.iinc 15 1, 3) := by decide +kernel
theorem dL_agree_328 : decode cL_agree 328 = .ok (.goto (-175), 3) := by decide +kernel
theorem dL_agree_331 : decode cL_agree 331 = .ok (.iconst 0, 1) := by decide +kernel
theorem dL_agree_332 : decode cL_agree 332 = .ok (.istore 15, 2) := by decide +kernel
theorem dL_agree_334 : decode cL_agree 334 = .ok (.iload 15, 2) := by decide +kernel
theorem dL_agree_336 : decode cL_agree 336 = .ok (.aload_n 1, 1) := by decide +kernel
theorem dL_agree_337 : decode cL_agree 337 = .ok (.iconst 2, 1) := by decide +kernel
theorem dL_agree_338 : decode cL_agree 338 = .ok (.iaload, 1) := by decide +kernel
theorem dL_agree_339 : decode cL_agree 339 = .ok (.if_icmp .ge 137, 3) := by decide +kernel
theorem dL_agree_342 : decode cL_agree 342 = .ok (.iconst 0, 1) := by decide +kernel
theorem dL_agree_343 : decode cL_agree 343 = .ok (.istore 16, 2) := by decide +kernel
theorem dL_agree_345 : decode cL_agree 345 = .ok (.iload 16, 2) := by decide +kernel
theorem dL_agree_347 : decode cL_agree 347 = .ok (.iconst 3, 1) := by decide +kernel
theorem dL_agree_348 : decode cL_agree 348 = .ok (.if_icmp .ge 36, 3) := by decide +kernel
theorem dL_agree_351 : decode cL_agree 351 = .ok (.aload_n 0, 1) := by decide +kernel
theorem dL_agree_352 : decode cL_agree 352 = .ok (.iload 15, 2) := by decide +kernel
theorem dL_agree_354 : decode cL_agree 354 = .ok (.iconst 3, 1) := by decide +kernel
theorem dL_agree_355 : decode cL_agree 355 = .ok (.iload 16, 2) := by decide +kernel
theorem dL_agree_357 : decode cL_agree 357 = .ok (.iadd, 1) := by decide +kernel
theorem dL_agree_358 : decode cL_agree 358 = .ok (.invokevirtual 88, 3) := by decide +kernel
theorem dL_agree_361 : decode cL_agree 361 = .ok (.aload_n 1, 1) := by decide +kernel
theorem dL_agree_362 : decode cL_agree 362 = .ok (.aload 10, 2) := by decide +kernel
theorem dL_agree_364 : decode cL_agree 364 = .ok (.iconst 4, 1) := by decide +kernel
theorem dL_agree_365 : decode cL_agree 365 = .ok (.iload 15, 2) := by decide +kernel
theorem dL_agree_367 : decode cL_agree 367 = .ok (.iadd, 1) := by decide +kernel
theorem dL_agree_368 : decode cL_agree 368 = .ok (.iload 16, 2) := by decide +kernel
theorem dL_agree_370 : decode cL_agree 370 = .ok (.invokestatic 10, 3) := by decide +kernel
theorem dL_agree_373 : decode cL_agree 373 = .ok (.if_icmp .eq 5, 3) := by decide +kernel
theorem dL_agree_376 : decode cL_agree 376 = .ok (.iconst 0, 1) := by decide +kernel
theorem dL_agree_377 : decode cL_agree 377 = .ok (.ireturn, 1) := by decide +kernel
theorem dL_agree_378 : decode cL_agree 378 = .ok (.iinc 16 1, 3) := by decide +kernel
theorem dL_agree_381 : decode cL_agree 381 = .ok (.goto (-36), 3) := by decide +kernel
theorem dL_agree_384 : decode cL_agree 384 = .ok (.aload_n 0, 1) := by decide +kernel
theorem dL_agree_385 : decode cL_agree 385 = .ok (.iload 15, 2) := by decide +kernel
theorem dL_agree_387 : decode cL_agree 387 = .ok (.iconst 0, 1) := by decide +kernel
theorem dL_agree_388 : decode cL_agree 388 = .ok (.invokevirtual 88, 3) := by decide +kernel
theorem dL_agree_391 : decode cL_agree 391 = .ok (.aload 8, 2) := by decide +kernel
theorem dL_agree_393 : decode cL_agree 393 = .ok (.iload 15, 2) := by decide +kernel
theorem dL_agree_395 : decode cL_agree 395 = .ok (.iaload, 1) := by decide +kernel
theorem dL_agree_396 : decode cL_agree 396 = .ok (.ifCond .ne 11, 3) := by decide +kernel
theorem dL_agree_399 : decode cL_agree 399 = .ok (.aload 7, 2) := by decide +kernel
theorem dL_agree_401 : decode cL_agree 401 = .ok (.iload 15, 2) := by decide +kernel
theorem dL_agree_403 : decode cL_agree 403 = .ok (.iaload, 1) := by decide +kernel
theorem dL_agree_404 : decode cL_agree 404 = .ok (.goto 4, 3) := by decide +kernel
theorem dL_agree_407 : decode cL_agree 407 = .ok (.iconst (-1), 1) := by decide +kernel
theorem dL_agree_408 : decode cL_agree 408 = .ok (.if_icmp .ne 45, 3) := by decide +kernel
theorem dL_agree_411 : decode cL_agree 411 = .ok (.aload_n 0, 1) := by decide +kernel
theorem dL_agree_412 : decode cL_agree 412 = .ok (.iload 15, 2) := by decide +kernel
theorem dL_agree_414 : decode cL_agree 414 = .ok (.iconst 1, 1) := by decide +kernel
theorem dL_agree_415 : decode cL_agree 415 = .ok (.invokevirtual 88, 3) := by decide +kernel
theorem dL_agree_418 : decode cL_agree 418 = .ok (.aload 8, 2) := by decide +kernel
theorem dL_agree_420 : decode cL_agree 420 = .ok (.iload 15, 2) := by decide +kernel
theorem dL_agree_422 : decode cL_agree 422 = .ok (.iaload, 1) := by decide +kernel
theorem dL_agree_423 : decode cL_agree 423 = .ok (.ifCond .ne 7, 3) := by decide +kernel
theorem dL_agree_426 : decode cL_agree 426 = .ok (.iconst (-1), 1) := by decide +kernel
theorem dL_agree_427 : decode cL_agree 427 = .ok (.goto 8, 3) := by decide +kernel
theorem dL_agree_430 : decode cL_agree 430 = .ok (.aload 7, 2) := by decide +kernel
theorem dL_agree_432 : decode cL_agree 432 = .ok (.iload 15, 2) := by decide +kernel
theorem dL_agree_434 : decode cL_agree 434 = .ok (.iaload, 1) := by decide +kernel
theorem dL_agree_435 : decode cL_agree 435 = .ok (.if_icmp .ne 18, 3) := by decide +kernel
theorem dL_agree_438 : decode cL_agree 438 = .ok (.aload_n 0, 1) := by decide +kernel
theorem dL_agree_439 : decode cL_agree 439 = .ok (.iload 15, 2) := by decide +kernel
theorem dL_agree_441 : decode cL_agree 441 = .ok (.iconst 2, 1) := by decide +kernel
theorem dL_agree_442 : decode cL_agree 442 = .ok (.invokevirtual 88, 3) := by decide +kernel
theorem dL_agree_445 : decode cL_agree 445 = .ok (.aload 8, 2) := by decide +kernel
theorem dL_agree_447 : decode cL_agree 447 = .ok (.iload 15, 2) := by decide +kernel
theorem dL_agree_449 : decode cL_agree 449 = .ok (.iaload, 1) := by decide +kernel
theorem dL_agree_450 : decode cL_agree 450 = .ok (.if_icmp .eq 5, 3) := by decide +kernel
theorem dL_agree_453 : decode cL_agree 453 = .ok (.iconst 0, 1) := by decide +kernel
theorem dL_agree_454 : decode cL_agree 454 = .ok (.ireturn, 1) := by decide +kernel
theorem dL_agree_455 : decode cL_agree 455 = .ok (.iload 14, 2) := by decide +kernel
theorem dL_agree_457 : decode cL_agree 457 = .ok (.aload_n 1, 1) := by decide +kernel
theorem dL_agree_458 : decode cL_agree 458 = .ok (.aload 10, 2) := by decide +kernel
theorem dL_agree_460 : decode cL_agree 460 = .ok (.iconst 4, 1) := by decide +kernel
theorem dL_agree_461 : decode cL_agree 461 = .ok (.iload 15, 2) := by decide +kernel
theorem dL_agree_463 : decode cL_agree 463 = .ok (.iadd, 1) := by decide +kernel
theorem dL_agree_464 : decode cL_agree 464 = .ok (.invokestatic 54, 3) := by decide +kernel
theorem dL_agree_467 : decode cL_agree 467 = .ok (.iadd, 1) := by decide +kernel
theorem dL_agree_468 : decode cL_agree 468 = .ok (.istore 14, 2) := by decide +kernel
theorem dL_agree_470 : decode cL_agree 470 = .ok (.iinc 15 1, 3) := by decide +kernel
theorem dL_agree_473 : decode cL_agree 473 = .ok (.goto (-139), 3) := by decide +kernel
theorem dL_agree_476 : decode cL_agree 476 = .ok (.aload_n 0, 1) := by decide +kernel
theorem dL_agree_477 : decode cL_agree 477 = .ok (.iconst 5, 1) := by decide +kernel
theorem dL_agree_478 : decode cL_agree 478 = .ok (.invokevirtual 91, 3) := by decide +kernel
theorem dL_agree_481 : decode cL_agree 481 = .ok (.iload 12, 2) := by decide +kernel
theorem dL_agree_483 : decode cL_agree 483 = .ok (.if_icmp .ne 142, 3) := by decide +kernel
theorem dL_agree_486 : decode cL_agree 486 = .ok (.aload_n 0, 1) := by decide +kernel
theorem dL_agree_487 : decode cL_agree 487 = .ok (.bipush 6, 2) := by decide +kernel
theorem dL_agree_489 : decode cL_agree 489 = .ok (.invokevirtual 91, 3) := by decide +kernel
theorem dL_agree_492 : decode cL_agree 492 = .ok (.aload_n 1, 1) := by decide +kernel
theorem dL_agree_493 : decode cL_agree 493 = .ok (.iconst 4, 1) := by decide +kernel
theorem dL_agree_494 : decode cL_agree 494 = .ok (.iaload, 1) := by decide +kernel
theorem dL_agree_495 : decode cL_agree 495 = .ok (.if_icmp .ne 130, 3) := by decide +kernel
theorem dL_agree_498 : decode cL_agree 498 = .ok (.aload_n 0, 1) := by decide +kernel
theorem dL_agree_499 : decode cL_agree 499 = .ok (.bipush 7, 2) := by decide +kernel
theorem dL_agree_501 : decode cL_agree 501 = .ok (.invokevirtual 91, 3) := by decide +kernel
theorem dL_agree_504 : decode cL_agree 504 = .ok (.aload_n 1, 1) := by decide +kernel
theorem dL_agree_505 : decode cL_agree 505 = .ok (.bipush 13, 2) := by decide +kernel
theorem dL_agree_507 : decode cL_agree 507 = .ok (.iaload, 1) := by decide +kernel
theorem dL_agree_508 : decode cL_agree 508 = .ok (.if_icmp .ne 117, 3) := by decide +kernel
theorem dL_agree_511 : decode cL_agree 511 = .ok (.aload_n 0, 1) := by decide +kernel
theorem dL_agree_512 : decode cL_agree 512 = .ok (.bipush 8, 2) := by decide +kernel
theorem dL_agree_514 : decode cL_agree 514 = .ok (.invokevirtual 91, 3) := by decide +kernel
theorem dL_agree_517 : decode cL_agree 517 = .ok (.aload_n 1, 1) := by decide +kernel
theorem dL_agree_518 : decode cL_agree 518 = .ok (.bipush 14, 2) := by decide +kernel
theorem dL_agree_520 : decode cL_agree 520 = .ok (.iaload, 1) := by decide +kernel
theorem dL_agree_521 : decode cL_agree 521 = .ok (.if_icmp .ne 104, 3) := by decide +kernel
theorem dL_agree_524 : decode cL_agree 524 = .ok (.aload_n 0, 1) := by decide +kernel
theorem dL_agree_525 : decode cL_agree 525 = .ok (.bipush 9, 2) := by decide +kernel
theorem dL_agree_527 : decode cL_agree 527 = .ok (.invokevirtual 91, 3) := by decide +kernel
theorem dL_agree_530 : decode cL_agree 530 = .ok (.aload_n 1, 1) := by decide +kernel
theorem dL_agree_531 : decode cL_agree 531 = .ok (.bipush 15, 2) := by decide +kernel
theorem dL_agree_533 : decode cL_agree 533 = .ok (.iaload, 1) := by decide +kernel
theorem dL_agree_534 : decode cL_agree 534 = .ok (.if_icmp .ne 91, 3) := by decide +kernel
theorem dL_agree_537 : decode cL_agree 537 = .ok (.aload_n 0, 1) := by decide +kernel
theorem dL_agree_538 : decode cL_agree 538 = .ok (.bipush 10, 2) := by decide +kernel
theorem dL_agree_540 : decode cL_agree 540 = .ok (.invokevirtual 91, 3) := by decide +kernel
theorem dL_agree_543 : decode cL_agree 543 = .ok (.iload 13, 2) := by decide +kernel
theorem dL_agree_545 : decode cL_agree 545 = .ok (.if_icmp .ne 80, 3) := by decide +kernel
theorem dL_agree_548 : decode cL_agree 548 = .ok (.aload_n 0, 1) := by decide +kernel
theorem dL_agree_549 : decode cL_agree 549 = .ok (.bipush 11, 2) := by decide +kernel
theorem dL_agree_551 : decode cL_agree 551 = .ok (.invokevirtual 91, 3) := by decide +kernel
theorem dL_agree_554 : decode cL_agree 554 = .ok (.iload 14, 2) := by decide +kernel
theorem dL_agree_556 : decode cL_agree 556 = .ok (.if_icmp .ne 69, 3) := by decide +kernel
theorem dL_agree_559 : decode cL_agree 559 = .ok (.aload_n 0, 1) := by decide +kernel
theorem dL_agree_560 : decode cL_agree 560 = .ok (.bipush 12, 2) := by decide +kernel
theorem dL_agree_562 : decode cL_agree 562 = .ok (.invokevirtual 91, 3) := by decide +kernel
theorem dL_agree_565 : decode cL_agree 565 = .ok (.aload_n 1, 1) := by decide +kernel
theorem dL_agree_566 : decode cL_agree 566 = .ok (.bipush 16, 2) := by decide +kernel
theorem dL_agree_568 : decode cL_agree 568 = .ok (.iaload, 1) := by decide +kernel
theorem dL_agree_569 : decode cL_agree 569 = .ok (.if_icmp .ne 56, 3) := by decide +kernel
theorem dL_agree_572 : decode cL_agree 572 = .ok (.aload_n 0, 1) := by decide +kernel
theorem dL_agree_573 : decode cL_agree 573 = .ok (.bipush 13, 2) := by decide +kernel
theorem dL_agree_575 : decode cL_agree 575 = .ok (.invokevirtual 91, 3) := by decide +kernel
theorem dL_agree_578 : decode cL_agree 578 = .ok (.iload 11, 2) := by decide +kernel
theorem dL_agree_580 : decode cL_agree 580 = .ok (.if_icmp .ne 45, 3) := by decide +kernel
theorem dL_agree_583 : decode cL_agree 583 = .ok (.aload_n 0, 1) := by decide +kernel
theorem dL_agree_584 : decode cL_agree 584 = .ok (.bipush 14, 2) := by decide +kernel
theorem dL_agree_586 : decode cL_agree 586 = .ok (.invokevirtual 91, 3) := by decide +kernel
theorem dL_agree_589 : decode cL_agree 589 = .ok (.aload_n 1, 1) := by decide +kernel
theorem dL_agree_590 : decode cL_agree 590 = .ok (.bipush 17, 2) := by decide +kernel
theorem dL_agree_592 : decode cL_agree 592 = .ok (.iaload, 1) := by decide +kernel
theorem dL_agree_593 : decode cL_agree 593 = .ok (.if_icmp .ne 32, 3) := by decide +kernel
theorem dL_agree_596 : decode cL_agree 596 = .ok (.aload_n 0, 1) := by decide +kernel
theorem dL_agree_597 : decode cL_agree 597 = .ok (.bipush 15, 2) := by decide +kernel
theorem dL_agree_599 : decode cL_agree 599 = .ok (.invokevirtual 91, 3) := by decide +kernel
theorem dL_agree_602 : decode cL_agree 602 = .ok (.aload_n 1, 1) := by decide +kernel
theorem dL_agree_603 : decode cL_agree 603 = .ok (.bipush 18, 2) := by decide +kernel
theorem dL_agree_605 : decode cL_agree 605 = .ok (.iaload, 1) := by decide +kernel
theorem dL_agree_606 : decode cL_agree 606 = .ok (.if_icmp .ne 19, 3) := by decide +kernel
theorem dL_agree_609 : decode cL_agree 609 = .ok (.aload_n 0, 1) := by decide +kernel
theorem dL_agree_610 : decode cL_agree 610 = .ok (.bipush 16, 2) := by decide +kernel
theorem dL_agree_612 : decode cL_agree 612 = .ok (.invokevirtual 91, 3) := by decide +kernel
theorem dL_agree_615 : decode cL_agree 615 = .ok (.aload_n 1, 1) := by decide +kernel
theorem dL_agree_616 : decode cL_agree 616 = .ok (.iconst 5, 1) := by decide +kernel
theorem dL_agree_617 : decode cL_agree 617 = .ok (.iaload, 1) := by decide +kernel
theorem dL_agree_618 : decode cL_agree 618 = .ok (.if_icmp .ne 7, 3) := by decide +kernel
theorem dL_agree_621 : decode cL_agree 621 = .ok (.iconst 1, 1) := by decide +kernel
theorem dL_agree_622 : decode cL_agree 622 = .ok (.goto 4, 3) := by decide +kernel
theorem dL_agree_625 : decode cL_agree 625 = .ok (.iconst 0, 1) := by decide +kernel
theorem dL_agree_626 : decode cL_agree 626 = .ok (.ireturn, 1) := by decide +kernel
theorem dL_law_0 : decode cL_law 0 = .ok (.new 39, 3) := by decide +kernel
theorem dL_law_3 : decode cL_law 3 = .ok (.dup, 1) := by decide +kernel
theorem dL_law_4 : decode cL_law 4 = .ok (.invokespecial 94, 3) := by decide +kernel
theorem dL_law_7 : decode cL_law 7 = .ok (.astore_n 1, 1) := by decide +kernel
theorem dL_law_8 : decode cL_law 8 = .ok (.bipush 19, 2) := by decide +kernel
theorem dL_law_10 : decode cL_law 10 = .ok (.newarray .int, 2) := by decide +kernel
theorem dL_law_12 : decode cL_law 12 = .ok (.astore_n 2, 1) := by decide +kernel
theorem dL_law_13 : decode cL_law 13 = .ok (.bipush 8, 2) := by decide +kernel
theorem dL_law_15 : decode cL_law 15 = .ok (.newarray .int, 2) := by decide +kernel
theorem dL_law_17 : decode cL_law 17 = .ok (.astore_n 3, 1) := by decide +kernel
theorem dL_law_18 : decode cL_law 18 = .ok (.iconst 3, 1) := by decide +kernel
theorem dL_law_19 : decode cL_law 19 = .ok (.newarray .int, 2) := by decide +kernel
theorem dL_law_21 : decode cL_law 21 = .ok (.astore 4, 2) := by decide +kernel
theorem dL_law_23 : decode cL_law 23 = .ok (.bipush 9, 2) := by decide +kernel
theorem dL_law_25 : decode cL_law 25 = .ok (.newarray .int, 2) := by decide +kernel
theorem dL_law_27 : decode cL_law 27 = .ok (.astore 5, 2) := by decide +kernel
theorem dL_law_29 : decode cL_law 29 = .ok (.iconst 3, 1) := by decide +kernel
theorem dL_law_30 : decode cL_law 30 = .ok (.newarray .int, 2) := by decide +kernel
theorem dL_law_32 : decode cL_law 32 = .ok (.astore 6, 2) := by decide +kernel
theorem dL_law_34 : decode cL_law 34 = .ok (.iconst 3, 1) := by decide +kernel
theorem dL_law_35 : decode cL_law 35 = .ok (.newarray .int, 2) := by decide +kernel
theorem dL_law_37 : decode cL_law 37 = .ok (.astore 7, 2) := by decide +kernel
theorem dL_law_39 : decode cL_law 39 = .ok (.iconst 4, 1) := by decide +kernel
theorem dL_law_40 : decode cL_law 40 = .ok (.newarray .int, 2) := by decide +kernel
theorem dL_law_42 : decode cL_law 42 = .ok (.astore 8, 2) := by decide +kernel
theorem dL_law_44 : decode cL_law 44 = .ok (.iconst 4, 1) := by decide +kernel
theorem dL_law_45 : decode cL_law 45 = .ok (.newarray .int, 2) := by decide +kernel
theorem dL_law_47 : decode cL_law 47 = .ok (.astore 9, 2) := by decide +kernel
theorem dL_law_49 : decode cL_law 49 = .ok (.bipush 60, 2) := by decide +kernel
theorem dL_law_51 : decode cL_law 51 = .ok (.newarray .int, 2) := by decide +kernel
theorem dL_law_53 : decode cL_law 53 = .ok (.astore 10, 2) := by decide +kernel
theorem dL_law_55 : decode cL_law 55 = .ok (.bipush 64, 2) := by decide +kernel
theorem dL_law_57 : decode cL_law 57 = .ok (.newarray .int, 2) := by decide +kernel
theorem dL_law_59 : decode cL_law 59 = .ok (.astore 11, 2) := by decide +kernel
theorem dL_law_61 : decode cL_law 61 = .ok (.aload_n 2, 1) := by decide +kernel
theorem dL_law_62 : decode cL_law 62 = .ok (.bipush 6, 2) := by decide +kernel
theorem dL_law_64 : decode cL_law 64 = .ok (.bipush 10, 2) := by decide +kernel
theorem dL_law_66 : decode cL_law 66 = .ok (.iastore, 1) := by decide +kernel
theorem dL_law_67 : decode cL_law 67 = .ok (.aload_n 2, 1) := by decide +kernel
theorem dL_law_68 : decode cL_law 68 = .ok (.bipush 7, 2) := by decide +kernel
theorem dL_law_70 : decode cL_law 70 = .ok (.bipush 15, 2) := by decide +kernel
theorem dL_law_72 : decode cL_law 72 = .ok (.iastore, 1) := by decide +kernel
theorem dL_law_73 : decode cL_law 73 = .ok (.aload_n 2, 1) := by decide +kernel
theorem dL_law_74 : decode cL_law 74 = .ok (.bipush 8, 2) := by decide +kernel
theorem dL_law_76 : decode cL_law 76 = .ok (.iconst 1, 1) := by decide +kernel
theorem dL_law_77 : decode cL_law 77 = .ok (.iastore, 1) := by decide +kernel
theorem dL_law_78 : decode cL_law 78 = .ok (.aload_n 2, 1) := by decide +kernel
theorem dL_law_79 : decode cL_law 79 = .ok (.bipush 9, 2) := by decide +kernel
theorem dL_law_81 : decode cL_law 81 = .ok (.bipush 40, 2) := by decide +kernel
theorem dL_law_83 : decode cL_law 83 = .ok (.iastore, 1) := by decide +kernel
theorem dL_law_84 : decode cL_law 84 = .ok (.aload_n 2, 1) := by decide +kernel
theorem dL_law_85 : decode cL_law 85 = .ok (.bipush 10, 2) := by decide +kernel
theorem dL_law_87 : decode cL_law 87 = .ok (.iconst 5, 1) := by decide +kernel
theorem dL_law_88 : decode cL_law 88 = .ok (.iastore, 1) := by decide +kernel
theorem dL_law_89 : decode cL_law 89 = .ok (.aload_n 2, 1) := by decide +kernel
theorem dL_law_90 : decode cL_law 90 = .ok (.bipush 11, 2) := by decide +kernel
theorem dL_law_92 : decode cL_law 92 = .ok (.bipush 120, 2) := by decide +kernel
theorem dL_law_94 : decode cL_law 94 = .ok (.iastore, 1) := by decide +kernel
theorem dL_law_95 : decode cL_law 95 = .ok (.aload_n 2, 1) := by decide +kernel
theorem dL_law_96 : decode cL_law 96 = .ok (.iconst 0, 1) := by decide +kernel
theorem dL_law_97 : decode cL_law 97 = .ok (.iconst 2, 1) := by decide +kernel
theorem dL_law_98 : decode cL_law 98 = .ok (.aload_n 0, 1) := by decide +kernel
theorem dL_law_99 : decode cL_law 99 = .ok (.iconst 0, 1) := by decide +kernel
theorem dL_law_100 : decode cL_law 100 = .ok (.invokestatic 95, 3) := by decide +kernel
theorem dL_law_103 : decode cL_law 103 = .ok (.iconst 2, 1) := by decide +kernel
theorem dL_law_104 : decode cL_law 104 = .ok (.invokestatic 34, 3) := by decide +kernel
theorem dL_law_107 : decode cL_law 107 = .ok (.iadd, 1) := by decide +kernel
theorem dL_law_108 : decode cL_law 108 = .ok (.iastore, 1) := by decide +kernel
theorem dL_law_109 : decode cL_law 109 = .ok (.iconst 0, 1) := by decide +kernel
theorem dL_law_110 : decode cL_law 110 = .ok (.istore 12, 2) := by decide +kernel
theorem dL_law_112 : decode cL_law 112 = .ok (.iload 12, 2) := by decide +kernel
theorem dL_law_114 : decode cL_law 114 = .ok (.aload_n 2, 1) := by decide +kernel
theorem dL_law_115 : decode cL_law 115 = .ok (.iconst 0, 1) := by decide +kernel
theorem dL_law_116 : decode cL_law 116 = .ok (.iaload, 1) := by decide +kernel
theorem dL_law_117 : decode cL_law 117 = .ok (.if_icmp .ge 70, 3) := by decide +kernel
theorem dL_law_120 : decode cL_law 120 = .ok (.aload_n 3, 1) := by decide +kernel
theorem dL_law_121 : decode cL_law 121 = .ok (.iload 12, 2) := by decide +kernel
theorem dL_law_123 : decode cL_law 123 = .ok (.bipush 100, 2) := by decide +kernel
theorem dL_law_125 : decode cL_law 125 = .ok (.aload_n 0, 1) := by decide +kernel
theorem dL_law_126 : decode cL_law 126 = .ok (.iload 12, 2) := by decide +kernel
theorem dL_law_128 : decode cL_law 128 = .ok (.iconst 1, 1) := by decide +kernel
theorem dL_law_129 : decode cL_law 129 = .ok (.iadd, 1) := by decide +kernel
theorem dL_law_130 : decode cL_law 130 = .ok (.invokestatic 95, 3) := by decide +kernel
theorem dL_law_133 : decode cL_law 133 = .ok (.bipush 8, 2) := by decide +kernel
theorem dL_law_135 : decode cL_law 135 = .ok (.invokestatic 34, 3) := by decide +kernel
theorem dL_law_138 : decode cL_law 138 = .ok (.imul, 1) := by decide +kernel
theorem dL_law_139 : decode cL_law 139 = .ok (.aload_n 0, 1) := by decide +kernel
theorem dL_law_140 : decode cL_law 140 = .ok (.iload 12, 2) := by decide +kernel
theorem dL_law_142 : decode cL_law 142 = .ok (.iconst 1, 1) := by decide +kernel
theorem dL_law_143 : decode cL_law 143 = .ok (.iadd, 1) := by decide +kernel
theorem dL_law_144 : decode cL_law 144 = .ok (.invokestatic 95, 3) := by decide +kernel
theorem dL_law_147 : decode cL_law 147 = .ok (.iconst 4, 1) := by decide +kernel
theorem dL_law_148 : decode cL_law 148 = .ok (.ishr, 1) := by decide +kernel
theorem dL_law_149 : decode cL_law 149 = .ok (.bipush 8, 2) := by decide +kernel
theorem dL_law_151 : decode cL_law 151 = .ok (.invokestatic 34, 3) := by decide +kernel
theorem dL_law_154 : decode cL_law 154 = .ok (.iadd, 1) := by decide +kernel
theorem dL_law_155 : decode cL_law 155 = .ok (.iastore, 1) := by decide +kernel
theorem dL_law_156 : decode cL_law 156 = .ok (.aload_n 1, 1) := by decide +kernel
theorem dL_law_157 : decode cL_law 157 = .ok (.aload_n 3, 1) := by decide +kernel
theorem dL_law_158 : decode cL_law 158 = .ok (.iload 12, 2) := by decide +kernel
theorem dL_law_160 : decode cL_law 160 = .ok (.iaload, 1) := by decide +kernel
theorem dL_law_161 : decode cL_law 161 = .ok (.bipush 100, 2) := by decide +kernel
theorem dL_law_163 : decode cL_law 163 = .ok (.idiv, 1) := by decide +kernel
theorem dL_law_164 : decode cL_law 164 = .ok (.aload_n 3, 1) := by decide +kernel
theorem dL_law_165 : decode cL_law 165 = .ok (.iload 12, 2) := by decide +kernel
theorem dL_law_167 : decode cL_law 167 = .ok (.iaload, 1) := by decide +kernel
theorem dL_law_168 : decode cL_law 168 = .ok (.bipush 100, 2) := by decide +kernel
theorem dL_law_170 : decode cL_law 170 = .ok (.irem, 1) := by decide +kernel
theorem dL_law_171 : decode cL_law 171 = .ok (.invokevirtual 99, 3) := by decide +kernel
theorem dL_law_174 : decode cL_law 174 = .ok (.iload 12, 2) := by decide +kernel
theorem dL_law_176 : decode cL_law 176 = .ok (.if_icmp .eq 5, 3) := by decide +kernel
theorem dL_law_179 : decode cL_law 179 = .ok (.iconst 0, 1) := by decide +kernel
theorem dL_law_180 : decode cL_law 180 = .ok (.ireturn, 1) := by decide +kernel
theorem dL_law_181 : decode cL_law 181 = .ok (.iinc 12 1, 3) := by decide +kernel
theorem dL_law_184 : decode cL_law 184 = .ok (.goto (-72), 3) := by decide +kernel
theorem dL_law_187 : decode cL_law 187 = .ok (.aload_n 2, 1) := by decide +kernel
theorem dL_law_188 : decode cL_law 188 = .ok (.iconst 1, 1) := by decide +kernel
theorem dL_law_189 : decode cL_law 189 = .ok (.iconst 2, 1) := by decide +kernel
theorem dL_law_190 : decode cL_law 190 = .ok (.iastore, 1) := by decide +kernel
theorem dL_law_191 : decode cL_law 191 = .ok (.aload_n 2, 1) := by decide +kernel
theorem dL_law_192 : decode cL_law 192 = .ok (.iconst 2, 1) := by decide +kernel
theorem dL_law_193 : decode cL_law 193 = .ok (.iconst 2, 1) := by decide +kernel
theorem dL_law_194 : decode cL_law 194 = .ok (.iastore, 1) := by decide +kernel
theorem dL_law_195 : decode cL_law 195 = .ok (.iconst 0, 1) := by decide +kernel
theorem dL_law_196 : decode cL_law 196 = .ok (.istore 12, 2) := by decide +kernel
theorem dL_law_198 : decode cL_law 198 = .ok (.iload 12, 2) := by decide +kernel
theorem dL_law_200 : decode cL_law 200 = .ok (.iconst 2, 1) := by decide +kernel
theorem dL_law_201 : decode cL_law 201 = .ok (.if_icmp .ge 69, 3) := by decide +kernel
theorem dL_law_204 : decode cL_law 204 = .ok (.aload 4, 2) := by decide +kernel
theorem dL_law_206 : decode cL_law 206 = .ok (.iload 12, 2) := by decide +kernel
theorem dL_law_208 : decode cL_law 208 = .ok (.aload_n 0, 1) := by decide +kernel
theorem dL_law_209 : decode cL_law 209 = .ok (.bipush 6, 2) := by decide +kernel
theorem dL_law_211 : decode cL_law 211 = .ok (.iload 12, 2) := by decide +kernel
theorem dL_law_213 : decode cL_law 213 = .ok (.iadd, 1) := by decide +kernel
theorem dL_law_214 : decode cL_law 214 = .ok (.invokestatic 95, 3) := by decide +kernel
theorem dL_law_217 : decode cL_law 217 = .ok (.aload_n 2, 1) := by decide +kernel
theorem dL_law_218 : decode cL_law 218 = .ok (.iconst 0, 1) := by decide +kernel
theorem dL_law_219 : decode cL_law 219 = .ok (.iaload, 1) := by decide +kernel
theorem dL_law_220 : decode cL_law 220 = .ok (.invokestatic 34, 3) := by decide +kernel
theorem dL_law_223 : decode cL_law 223 = .ok (.iastore, 1) := by decide +kernel
theorem dL_law_224 : decode cL_law 224 = .ok (.aload 8, 2) := by decide +kernel
theorem dL_law_226 : decode cL_law 226 = .ok (.iload 12, 2) := by decide +kernel
theorem dL_law_228 : decode cL_law 228 = .ok (.aload_n 0, 1) := by decide +kernel
theorem dL_law_229 : decode cL_law 229 = .ok (.bipush 8, 2) := by decide +kernel
theorem dL_law_231 : decode cL_law 231 = .ok (.iload 12, 2) := by decide +kernel
theorem dL_law_233 : decode cL_law 233 = .ok (.iadd, 1) := by decide +kernel
theorem dL_law_234 : decode cL_law 234 = .ok (.invokestatic 95, 3) := by decide +kernel
theorem dL_law_237 : decode cL_law 237 = .ok (.aload_n 2, 1) := by decide +kernel
theorem dL_law_238 : decode cL_law 238 = .ok (.iconst 0, 1) := by decide +kernel
theorem dL_law_239 : decode cL_law 239 = .ok (.iaload, 1) := by decide +kernel
theorem dL_law_240 : decode cL_law 240 = .ok (.invokestatic 34, 3) := by decide +kernel
theorem dL_law_243 : decode cL_law 243 = .ok (.iastore, 1) := by decide +kernel
theorem dL_law_244 : decode cL_law 244 = .ok (.aload_n 1, 1) := by decide +kernel
theorem dL_law_245 : decode cL_law 245 = .ok (.aload 4, 2) := by decide +kernel
theorem dL_law_247 : decode cL_law 247 = .ok (.iload 12, 2) := by decide +kernel
theorem dL_law_249 : decode cL_law 249 = .ok (.iaload, 1) := by decide +kernel
theorem dL_law_250 : decode cL_law 250 = .ok (.invokevirtual 102, 3) := by decide +kernel
theorem dL_law_253 : decode cL_law 253 = .ok (.pop, 1) := by decide +kernel
theorem dL_law_254 : decode cL_law 254 = .ok (.aload_n 1, 1) := by decide +kernel
theorem dL_law_255 : decode cL_law 255 = .ok (.aload 8, 2) := by decide +kernel
theorem dL_law_257 : decode cL_law 257 = .ok (.iload 12, 2) := by decide +kernel
theorem dL_law_259 : decode cL_law 259 = .ok (.iaload, 1) := by decide +kernel
theorem dL_law_260 : decode cL_law 260 = .ok (.invokevirtual 105, 3) := by decide +kernel
theorem dL_law_263 : decode cL_law 263 = .ok (.pop, 1) := by decide +kernel
theorem dL_law_264 : decode cL_law 264 = .ok (.iinc 12 1, 3) := by decide +kernel
theorem dL_law_267 : decode cL_law 267 = .ok (.goto (-69), 3) := by decide +kernel
theorem dL_law_270 : decode cL_law 270 = .ok (.aload_n 2, 1) := by decide +kernel
theorem dL_law_271 : decode cL_law 271 = .ok (.iconst 5, 1) := by decide +kernel
theorem dL_law_272 : decode cL_law 272 = .ok (.bipush 6, 2) := by decide +kernel
theorem dL_law_274 : decode cL_law 274 = .ok (.iastore, 1) := by decide +kernel
theorem dL_law_275 : decode cL_law 275 = .ok (.iconst 5, 1) := by decide +kernel
theorem dL_law_276 : decode cL_law 276 = .ok (.istore 12, 2) := by decide +kernel
theorem dL_law_278 : decode cL_law 278 = .ok (.iload 12, 2) := by decide +kernel
theorem dL_law_280 : decode cL_law 280 = .ok (.bipush 50, 2) := by decide +kernel
theorem dL_law_282 : decode cL_law 282 = .ok (.if_icmp .ge 247, 3) := by decide +kernel
theorem dL_law_285 : decode cL_law 285 = .ok (.aload_n 0, 1) := by decide +kernel
theorem dL_law_286 : decode cL_law 286 = .ok (.iconst 2, 1) := by decide +kernel
theorem dL_law_287 : decode cL_law 287 = .ok (.iload 12, 2) := by decide +kernel
theorem dL_law_289 : decode cL_law 289 = .ok (.imul, 1) := by decide +kernel
theorem dL_law_290 : decode cL_law 290 = .ok (.invokestatic 95, 3) := by decide +kernel
theorem dL_law_293 : decode cL_law 293 = .ok (.istore 13, 2) := by decide +kernel
theorem dL_law_295 : decode cL_law 295 = .ok (.aload_n 0, 1) := by decide +kernel
theorem dL_law_296 : decode cL_law 296 = .ok (.iconst 2, 1) := by decide +kernel
theorem dL_law_297 : decode cL_law 297 = .ok (.iload 12, 2) := by decide +kernel
theorem dL_law_299 : decode cL_law 299 = .ok (.imul, 1) := by decide +kernel
theorem dL_law_300 : decode cL_law 300 = .ok (.iconst 1, 1) := by decide +kernel
theorem dL_law_301 : decode cL_law 301 = .ok (.iadd, 1) := by decide +kernel
theorem dL_law_302 : decode cL_law 302 = .ok (.invokestatic 95, 3) := by decide +kernel
theorem dL_law_305 : decode cL_law 305 = .ok (.istore 14, 2) := by decide +kernel
theorem dL_law_307 : decode cL_law 307 = .ok (.iload 13, 2) := by decide +kernel
theorem dL_law_309 : decode cL_law 309 = .ok (.bipush 20, 2) := by decide +kernel
theorem dL_law_311 : decode cL_law 311 = .ok (.ishr, 1) := by decide +kernel
theorem dL_law_312 : decode cL_law 312 = .ok (.bipush 12, 2) := by decide +kernel
theorem dL_law_314 : decode cL_law 314 = .ok (.invokestatic 34, 3) := by decide +kernel
theorem dL_law_317 : decode cL_law 317 = .ok (.istore 15, 2) := by decide +kernel
theorem dL_law_319 : decode cL_law 319 = .ok (.iconst 1, 1) := by decide +kernel
theorem dL_law_320 : decode cL_law 320 = .ok (.istore 16, 2) := by decide +kernel
theorem dL_law_322 : decode cL_law 322 = .ok (.iload 15, 2) := by decide +kernel
theorem dL_law_324 : decode cL_law 324 = .ok (.iconst 4, 1) := by decide +kernel
theorem dL_law_325 : decode cL_law 325 = .ok (.if_icmp .ge 25, 3) := by decide +kernel
theorem dL_law_328 : decode cL_law 328 = .ok (.aload_n 1, 1) := by decide +kernel
theorem dL_law_329 : decode cL_law 329 = .ok (.iload 13, 2) := by decide +kernel
theorem dL_law_331 : decode cL_law 331 = .ok (.iload 14, 2) := by decide +kernel
theorem dL_law_333 : decode cL_law 333 = .ok (.aload_n 2, 1) := by decide +kernel
theorem dL_law_334 : decode cL_law 334 = .ok (.aload 4, 2) := by decide +kernel
theorem dL_law_336 : decode cL_law 336 = .ok (.aload 5, 2) := by decide +kernel
theorem dL_law_338 : decode cL_law 338 = .ok (.aload 6, 2) := by decide +kernel
theorem dL_law_340 : decode cL_law 340 = .ok (.aload 7, 2) := by decide +kernel
theorem dL_law_342 : decode cL_law 342 = .ok (.invokestatic 108, 3) := by decide +kernel
theorem dL_law_345 : decode cL_law 345 = .ok (.istore 16, 2) := by decide +kernel
theorem dL_law_347 : decode cL_law 347 = .ok (.goto 144, 3) := by decide +kernel
theorem dL_law_350 : decode cL_law 350 = .ok (.iload 15, 2) := by decide +kernel
theorem dL_law_352 : decode cL_law 352 = .ok (.bipush 7, 2) := by decide +kernel
theorem dL_law_354 : decode cL_law 354 = .ok (.if_icmp .ge 26, 3) := by decide +kernel
theorem dL_law_357 : decode cL_law 357 = .ok (.aload_n 1, 1) := by decide +kernel
theorem dL_law_358 : decode cL_law 358 = .ok (.iload 13, 2) := by decide +kernel
theorem dL_law_360 : decode cL_law 360 = .ok (.iload 14, 2) := by decide +kernel
theorem dL_law_362 : decode cL_law 362 = .ok (.aload_n 2, 1) := by decide +kernel
theorem dL_law_363 : decode cL_law 363 = .ok (.aload_n 3, 1) := by decide +kernel
theorem dL_law_364 : decode cL_law 364 = .ok (.aload 4, 2) := by decide +kernel
theorem dL_law_366 : decode cL_law 366 = .ok (.aload 8, 2) := by decide +kernel
theorem dL_law_368 : decode cL_law 368 = .ok (.aload 9, 2) := by decide +kernel
theorem dL_law_370 : decode cL_law 370 = .ok (.aload 11, 2) := by decide +kernel
theorem dL_law_372 : decode cL_law 372 = .ok (.invokestatic 112, 3) := by decide +kernel
theorem dL_law_375 : decode cL_law 375 = .ok (.istore 16, 2) := by decide +kernel
theorem dL_law_377 : decode cL_law 377 = .ok (.goto 114, 3) := by decide +kernel
theorem dL_law_380 : decode cL_law 380 = .ok (.iload 15, 2) := by decide +kernel
theorem dL_law_382 : decode cL_law 382 = .ok (.bipush 9, 2) := by decide +kernel
theorem dL_law_384 : decode cL_law 384 = .ok (.if_icmp .ge 19, 3) := by decide +kernel
theorem dL_law_387 : decode cL_law 387 = .ok (.aload_n 1, 1) := by decide +kernel
theorem dL_law_388 : decode cL_law 388 = .ok (.iload 13, 2) := by decide +kernel
theorem dL_law_390 : decode cL_law 390 = .ok (.iload 14, 2) := by decide +kernel
theorem dL_law_392 : decode cL_law 392 = .ok (.aload_n 2, 1) := by decide +kernel
theorem dL_law_393 : decode cL_law 393 = .ok (.aload 10, 2) := by decide +kernel
theorem dL_law_395 : decode cL_law 395 = .ok (.invokestatic 116, 3) := by decide +kernel
theorem dL_law_398 : decode cL_law 398 = .ok (.istore 16, 2) := by decide +kernel
theorem dL_law_400 : decode cL_law 400 = .ok (.goto 91, 3) := by decide +kernel
theorem dL_law_403 : decode cL_law 403 = .ok (.iconst 1, 1) := by decide +kernel
theorem dL_law_404 : decode cL_law 404 = .ok (.iload 14, 2) := by decide +kernel
theorem dL_law_406 : decode cL_law 406 = .ok (.aload_n 2, 1) := by decide +kernel
theorem dL_law_407 : decode cL_law 407 = .ok (.bipush 12, 2) := by decide +kernel
theorem dL_law_409 : decode cL_law 409 = .ok (.iaload, 1) := by decide +kernel
theorem dL_law_410 : decode cL_law 410 = .ok (.bipush 30, 2) := by decide +kernel
theorem dL_law_412 : decode cL_law 412 = .ok (.if_icmp .le 8, 3) := by decide +kernel
theorem dL_law_415 : decode cL_law 415 = .ok (.bipush 60, 2) := by decide +kernel
theorem dL_law_417 : decode cL_law 417 = .ok (.goto 5, 3) := by decide +kernel
theorem dL_law_420 : decode cL_law 420 = .ok (.bipush 8, 2) := by decide +kernel
theorem dL_law_422 : decode cL_law 422 = .ok (.invokestatic 34, 3) := by decide +kernel
theorem dL_law_425 : decode cL_law 425 = .ok (.iadd, 1) := by decide +kernel
theorem dL_law_426 : decode cL_law 426 = .ok (.istore 17, 2) := by decide +kernel
theorem dL_law_428 : decode cL_law 428 = .ok (.aload_n 2, 1) := by decide +kernel
theorem dL_law_429 : decode cL_law 429 = .ok (.bipush 14, 2) := by decide +kernel
theorem dL_law_431 : decode cL_law 431 = .ok (.iaload, 1) := by decide +kernel
theorem dL_law_432 : decode cL_law 432 = .ok (.istore 18, 2) := by decide +kernel
theorem dL_law_434 : decode cL_law 434 = .ok (.iconst 0, 1) := by decide +kernel
theorem dL_law_435 : decode cL_law 435 = .ok (.istore 19, 2) := by decide +kernel
theorem dL_law_437 : decode cL_law 437 = .ok (.iload 19, 2) := by decide +kernel
theorem dL_law_439 : decode cL_law 439 = .ok (.iload 17, 2) := by decide +kernel
theorem dL_law_441 : decode cL_law 441 = .ok (.if_icmp .ge 27, 3) := by decide +kernel
theorem dL_law_444 : decode cL_law 444 = .ok (.aload_n 2, 1) := by decide +kernel
theorem dL_law_445 : decode cL_law 445 = .ok (.aload 4, 2) := by decide +kernel
theorem dL_law_447 : decode cL_law 447 = .ok (.aload 6, 2) := by decide +kernel
theorem dL_law_449 : decode cL_law 449 = .ok (.aload 7, 2) := by decide +kernel
theorem dL_law_451 : decode cL_law 451 = .ok (.aload 8, 2) := by decide +kernel
theorem dL_law_453 : decode cL_law 453 = .ok (.aload 9, 2) := by decide +kernel
theorem dL_law_455 : decode cL_law 455 = .ok (.aload 10, 2) := by decide +kernel
theorem dL_law_457 : decode cL_law 457 = .ok (.aload 11, 2) := by decide +kernel
theorem dL_law_459 : decode cL_law 459 = .ok (.invokestatic 120, 3) := by decide +kernel
theorem dL_law_462 : decode cL_law 462 = .ok (.iinc 19 1, 3) := by decide +kernel
theorem dL_law_465 : decode cL_law 465 = .ok (.goto (-28), 3) := by decide +kernel
theorem dL_law_468 : decode cL_law 468 = .ok (.aload_n 1, 1) := by decide +kernel
theorem dL_law_469 : decode cL_law 469 = .ok (.iload 17, 2) := by decide +kernel
theorem dL_law_471 : decode cL_law 471 = .ok (.invokevirtual 124, 3) := by decide +kernel
theorem dL_law_474 : decode cL_law 474 = .ok (.aload_n 2, 1) := by decide +kernel
theorem dL_law_475 : decode cL_law 475 = .ok (.bipush 14, 2) := by decide +kernel
theorem dL_law_477 : decode cL_law 477 = .ok (.iaload, 1) := by decide +kernel
theorem dL_law_478 : decode cL_law 478 = .ok (.iload 18, 2) := by decide +kernel
theorem dL_law_480 : decode cL_law 480 = .ok (.isub, 1) := by decide +kernel
theorem dL_law_481 : decode cL_law 481 = .ok (.if_icmp .ne 7, 3) := by decide +kernel
theorem dL_law_484 : decode cL_law 484 = .ok (.iconst 1, 1) := by decide +kernel
theorem dL_law_485 : decode cL_law 485 = .ok (.goto 4, 3) := by decide +kernel
theorem dL_law_488 : decode cL_law 488 = .ok (.iconst 0, 1) := by decide +kernel
theorem dL_law_489 : decode cL_law 489 = .ok (.istore 16, 2) := by decide +kernel
theorem dL_law_491 : decode cL_law 491 = .ok (.iload 16, 2) := by decide +kernel
theorem dL_law_493 : decode cL_law 493 = .ok (.ifCond .eq 28, 3) := by decide +kernel
theorem dL_law_496 : decode cL_law 496 = .ok (.aload_n 1, 1) := by decide +kernel
theorem dL_law_497 : decode cL_law 497 = .ok (.aload_n 2, 1) := by decide +kernel
theorem dL_law_498 : decode cL_law 498 = .ok (.aload_n 3, 1) := by decide +kernel
theorem dL_law_499 : decode cL_law 499 = .ok (.aload 4, 2) := by decide +kernel
theorem dL_law_501 : decode cL_law 501 = .ok (.aload 5, 2) := by decide +kernel
theorem dL_law_503 : decode cL_law 503 = .ok (.aload 6, 2) := by decide +kernel
theorem dL_law_505 : decode cL_law 505 = .ok (.aload 7, 2) := by decide +kernel
theorem dL_law_507 : decode cL_law 507 = .ok (.aload 8, 2) := by decide +kernel
theorem dL_law_509 : decode cL_law 509 = .ok (.aload 9, 2) := by decide +kernel
theorem dL_law_511 : decode cL_law 511 = .ok (.aload 10, 2) := by decide +kernel
theorem dL_law_513 : decode cL_law 513 = .ok (.aload 11, 2) := by decide +kernel
theorem dL_law_515 : decode cL_law 515 = .ok (.invokestatic 127, 3) := by decide +kernel
theorem dL_law_518 : decode cL_law 518 = .ok (.ifCond .ne 5, 3) := by decide +kernel
theorem dL_law_521 : decode cL_law 521 = .ok (.iconst 0, 1) := by decide +kernel
theorem dL_law_522 : decode cL_law 522 = .ok (.ireturn, 1) := by decide +kernel
theorem dL_law_523 : decode cL_law 523 = .ok (.iinc 12 1, 3) := by decide +kernel
theorem dL_law_526 : decode cL_law 526 = .ok (.goto (-248), 3) := by decide +kernel
theorem dL_law_529 : decode cL_law 529 = .ok (.iconst 1, 1) := by decide +kernel
theorem dL_law_530 : decode cL_law 530 = .ok (.ireturn, 1) := by decide +kernel

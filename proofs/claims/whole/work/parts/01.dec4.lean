theorem dX10_memory_99 : decode cX10_memory 99 = .ok (.iaload, 1) := by decide +kernel
theorem dX10_memory_100 : decode cX10_memory 100 = .ok (.iload_n 3, 1) := by decide +kernel
theorem dX10_memory_101 : decode cX10_memory 101 = .ok (.if_icmp .eq 17, 3) := by decide +kernel
theorem dX10_memory_104 : decode cX10_memory 104 = .ok (.aload_n 0, 1) := by decide +kernel
theorem dX10_memory_105 : decode cX10_memory 105 = .ok (.getfield 13, 3) := by decide +kernel
theorem dX10_memory_108 : decode cX10_memory 108 = .ok (.iload 8, 2) := by decide +kernel
theorem dX10_memory_110 : decode cX10_memory 110 = .ok (.iaload, 1) := by decide +kernel
theorem dX10_memory_111 : decode cX10_memory 111 = .ok (.iload_n 3, 1) := by decide +kernel
theorem dX10_memory_112 : decode cX10_memory 112 = .ok (.invokestatic 331, 3) := by decide +kernel
theorem dX10_memory_115 : decode cX10_memory 115 = .ok (.ifCond .eq 7, 3) := by decide +kernel
theorem dX10_memory_118 : decode cX10_memory 118 = .ok (.iconst 0, 1) := by decide +kernel
theorem dX10_memory_119 : decode cX10_memory 119 = .ok (.goto 5, 3) := by decide +kernel
theorem dX10_memory_122 : decode cX10_memory 122 = .ok (.bipush 7, 2) := by decide +kernel
theorem dX10_memory_124 : decode cX10_memory 124 = .ok (.istore 9, 2) := by decide +kernel
theorem dX10_memory_126 : decode cX10_memory 126 = .ok (.iload_n 1, 1) := by decide +kernel
theorem dX10_memory_127 : decode cX10_memory 127 = .ok (.bipush 18, 2) := by decide +kernel
theorem dX10_memory_129 : decode cX10_memory 129 = .ok (.if_icmp .ne 41, 3) := by decide +kernel
theorem dX10_memory_132 : decode cX10_memory 132 = .ok (.iload 9, 2) := by decide +kernel
theorem dX10_memory_134 : decode cX10_memory 134 = .ok (.ifCond .ne 36, 3) := by decide +kernel
theorem dX10_memory_137 : decode cX10_memory 137 = .ok (.aload_n 0, 1) := by decide +kernel
theorem dX10_memory_138 : decode cX10_memory 138 = .ok (.getfield 13, 3) := by decide +kernel
theorem dX10_memory_141 : decode cX10_memory 141 = .ok (.iload 8, 2) := by decide +kernel
theorem dX10_memory_143 : decode cX10_memory 143 = .ok (.iaload, 1) := by decide +kernel
theorem dX10_memory_144 : decode cX10_memory 144 = .ok (.iload_n 3, 1) := by decide +kernel
theorem dX10_memory_145 : decode cX10_memory 145 = .ok (.if_icmp .eq 17, 3) := by decide +kernel
theorem dX10_memory_148 : decode cX10_memory 148 = .ok (.iload_n 3, 1) := by decide +kernel
theorem dX10_memory_149 : decode cX10_memory 149 = .ok (.aload_n 0, 1) := by decide +kernel
theorem dX10_memory_150 : decode cX10_memory 150 = .ok (.getfield 13, 3) := by decide +kernel
theorem dX10_memory_153 : decode cX10_memory 153 = .ok (.iload 8, 2) := by decide +kernel
theorem dX10_memory_155 : decode cX10_memory 155 = .ok (.iaload, 1) := by decide +kernel
theorem dX10_memory_156 : decode cX10_memory 156 = .ok (.invokestatic 331, 3) := by decide +kernel
theorem dX10_memory_159 : decode cX10_memory 159 = .ok (.ifCond .eq 7, 3) := by decide +kernel
theorem dX10_memory_162 : decode cX10_memory 162 = .ok (.iconst 0, 1) := by decide +kernel
theorem dX10_memory_163 : decode cX10_memory 163 = .ok (.goto 5, 3) := by decide +kernel
theorem dX10_memory_166 : decode cX10_memory 166 = .ok (.bipush 7, 2) := by decide +kernel
theorem dX10_memory_168 : decode cX10_memory 168 = .ok (.istore 9, 2) := by decide +kernel
theorem dX10_memory_170 : decode cX10_memory 170 = .ok (.iload_n 1, 1) := by decide +kernel
theorem dX10_memory_171 : decode cX10_memory 171 = .ok (.bipush 14, 2) := by decide +kernel
theorem dX10_memory_173 : decode cX10_memory 173 = .ok (.if_icmp .ne 12, 3) := by decide +kernel
theorem dX10_memory_176 : decode cX10_memory 176 = .ok (.iload 8, 2) := by decide +kernel
theorem dX10_memory_178 : decode cX10_memory 178 = .ok (.iconst (-1), 1) := by decide +kernel
theorem dX10_memory_179 : decode cX10_memory 179 = .ok (.if_icmp .ne 6, 3) := by decide +kernel
theorem dX10_memory_182 : decode cX10_memory 182 = .ok (.iconst 1, 1) := by decide +kernel
theorem dX10_memory_183 : decode cX10_memory 183 = .ok (.istore 9, 2) := by decide +kernel
theorem dX10_memory_185 : decode cX10_memory 185 = .ok (.iload_n 1, 1) := by decide +kernel
theorem dX10_memory_186 : decode cX10_memory 186 = .ok (.bipush 15, 2) := by decide +kernel
theorem dX10_memory_188 : decode cX10_memory 188 = .ok (.if_icmp .ne 31, 3) := by decide +kernel
theorem dX10_memory_191 : decode cX10_memory 191 = .ok (.lload 4, 2) := by decide +kernel
theorem dX10_memory_193 : decode cX10_memory 193 = .ok (.lconst 0, 1) := by decide +kernel
theorem dX10_memory_194 : decode cX10_memory 194 = .ok (.lcmp, 1) := by decide +kernel
theorem dX10_memory_195 : decode cX10_memory 195 = .ok (.ifCond .ge 7, 3) := by decide +kernel
theorem dX10_memory_198 : decode cX10_memory 198 = .ok (.iconst 5, 1) := by decide +kernel
theorem dX10_memory_199 : decode cX10_memory 199 = .ok (.goto 18, 3) := by decide +kernel
theorem dX10_memory_202 : decode cX10_memory 202 = .ok (.lload 4, 2) := by decide +kernel
theorem dX10_memory_204 : decode cX10_memory 204 = .ok (.ldc2_w 224, 3) := by decide +kernel
theorem dX10_memory_207 : decode cX10_memory 207 = .ok (.lcmp, 1) := by decide +kernel
theorem dX10_memory_208 : decode cX10_memory 208 = .ok (.ifCond .le 8, 3) := by decide +kernel
theorem dX10_memory_211 : decode cX10_memory 211 = .ok (.bipush 7, 2) := by decide +kernel
theorem dX10_memory_213 : decode cX10_memory 213 = .ok (.goto 4, 3) := by decide +kernel
theorem dX10_memory_216 : decode cX10_memory 216 = .ok (.iconst 0, 1) := by decide +kernel
theorem dX10_memory_217 : decode cX10_memory 217 = .ok (.istore 9, 2) := by decide +kernel
theorem dX10_memory_219 : decode cX10_memory 219 = .ok (.iload 9, 2) := by decide +kernel
theorem dX10_memory_221 : decode cX10_memory 221 = .ok (.ifCond .le 11, 3) := by decide +kernel
theorem dX10_memory_224 : decode cX10_memory 224 = .ok (.aload_n 0, 1) := by decide +kernel
theorem dX10_memory_225 : decode cX10_memory 225 = .ok (.iload 9, 2) := by decide +kernel
theorem dX10_memory_227 : decode cX10_memory 227 = .ok (.lconst 0, 1) := by decide +kernel
theorem dX10_memory_228 : decode cX10_memory 228 = .ok (.invokevirtual 293, 3) := by decide +kernel
theorem dX10_memory_231 : decode cX10_memory 231 = .ok (.return_, 1) := by decide +kernel
theorem dX10_memory_232 : decode cX10_memory 232 = .ok (.iload_n 1, 1) := by decide +kernel
theorem dX10_memory_233 : decode cX10_memory 233 = .ok (.tableswitch 158 12 18 #[43, 59, 77, 92, 108, 122, 139], 43) := by decide +kernel
theorem dX10_memory_276 : decode cX10_memory 276 = .ok (.aload_n 0, 1) := by decide +kernel
theorem dX10_memory_277 : decode cX10_memory 277 = .ok (.aload_n 0, 1) := by decide +kernel
theorem dX10_memory_278 : decode cX10_memory 278 = .ok (.iload 8, 2) := by decide +kernel
theorem dX10_memory_280 : decode cX10_memory 280 = .ok (.lload 4, 2) := by decide +kernel
theorem dX10_memory_282 : decode cX10_memory 282 = .ok (.l2i, 1) := by decide +kernel
theorem dX10_memory_283 : decode cX10_memory 283 = .ok (.invokevirtual 176, 3) := by decide +kernel
theorem dX10_memory_286 : decode cX10_memory 286 = .ok (.invokevirtual 304, 3) := by decide +kernel
theorem dX10_memory_289 : decode cX10_memory 289 = .ok (.goto 118, 3) := by decide +kernel
theorem dX10_memory_292 : decode cX10_memory 292 = .ok (.aload_n 0, 1) := by decide +kernel
theorem dX10_memory_293 : decode cX10_memory 293 = .ok (.iload 8, 2) := by decide +kernel
theorem dX10_memory_295 : decode cX10_memory 295 = .ok (.lload 4, 2) := by decide +kernel
theorem dX10_memory_297 : decode cX10_memory 297 = .ok (.l2i, 1) := by decide +kernel
theorem dX10_memory_298 : decode cX10_memory 298 = .ok (.lload 6, 2) := by decide +kernel
theorem dX10_memory_300 : decode cX10_memory 300 = .ok (.invokevirtual 172, 3) := by decide +kernel
theorem dX10_memory_303 : decode cX10_memory 303 = .ok (.aload_n 0, 1) := by decide +kernel
theorem dX10_memory_304 : decode cX10_memory 304 = .ok (.invokevirtual 328, 3) := by decide +kernel
theorem dX10_memory_307 : decode cX10_memory 307 = .ok (.goto 100, 3) := by decide +kernel
theorem dX10_memory_310 : decode cX10_memory 310 = .ok (.aload_n 0, 1) := by decide +kernel
theorem dX10_memory_311 : decode cX10_memory 311 = .ok (.aload_n 0, 1) := by decide +kernel
theorem dX10_memory_312 : decode cX10_memory 312 = .ok (.getfield 16, 3) := by decide +kernel
theorem dX10_memory_315 : decode cX10_memory 315 = .ok (.iload 8, 2) := by decide +kernel
theorem dX10_memory_317 : decode cX10_memory 317 = .ok (.iaload, 1) := by decide +kernel
theorem dX10_memory_318 : decode cX10_memory 318 = .ok (.i2l, 1) := by decide +kernel
theorem dX10_memory_319 : decode cX10_memory 319 = .ok (.invokevirtual 304, 3) := by decide +kernel
theorem dX10_memory_322 : decode cX10_memory 322 = .ok (.goto 85, 3) := by decide +kernel
theorem dX10_memory_325 : decode cX10_memory 325 = .ok (.aload_n 0, 1) := by decide +kernel
theorem dX10_memory_326 : decode cX10_memory 326 = .ok (.iload_n 2, 1) := by decide +kernel
theorem dX10_memory_327 : decode cX10_memory 327 = .ok (.iload_n 3, 1) := by decide +kernel
theorem dX10_memory_328 : decode cX10_memory 328 = .ok (.lload 4, 2) := by decide +kernel
theorem dX10_memory_330 : decode cX10_memory 330 = .ok (.l2i, 1) := by decide +kernel
theorem dX10_memory_331 : decode cX10_memory 331 = .ok (.invokevirtual 164, 3) := by decide +kernel
theorem dX10_memory_334 : decode cX10_memory 334 = .ok (.aload_n 0, 1) := by decide +kernel
theorem dX10_memory_335 : decode cX10_memory 335 = .ok (.invokevirtual 328, 3) := by decide +kernel
theorem dX10_memory_338 : decode cX10_memory 338 = .ok (.goto 69, 3) := by decide +kernel
theorem dX10_memory_341 : decode cX10_memory 341 = .ok (.aload_n 0, 1) := by decide +kernel
theorem dX10_memory_342 : decode cX10_memory 342 = .ok (.getfield 7, 3) := by decide +kernel
theorem dX10_memory_345 : decode cX10_memory 345 = .ok (.iload_n 2, 1) := by decide +kernel
theorem dX10_memory_346 : decode cX10_memory 346 = .ok (.iconst (-1), 1) := by decide +kernel
theorem dX10_memory_347 : decode cX10_memory 347 = .ok (.iastore, 1) := by decide +kernel
theorem dX10_memory_348 : decode cX10_memory 348 = .ok (.aload_n 0, 1) := by decide +kernel
theorem dX10_memory_349 : decode cX10_memory 349 = .ok (.invokevirtual 328, 3) := by decide +kernel
theorem dX10_memory_352 : decode cX10_memory 352 = .ok (.goto 55, 3) := by decide +kernel
theorem dX10_memory_355 : decode cX10_memory 355 = .ok (.aload_n 0, 1) := by decide +kernel
theorem dX10_memory_356 : decode cX10_memory 356 = .ok (.aload_n 0, 1) := by decide +kernel
theorem dX10_memory_357 : decode cX10_memory 357 = .ok (.iload 8, 2) := by decide +kernel
theorem dX10_memory_359 : decode cX10_memory 359 = .ok (.lload 4, 2) := by decide +kernel
theorem dX10_memory_361 : decode cX10_memory 361 = .ok (.l2i, 1) := by decide +kernel
theorem dX10_memory_362 : decode cX10_memory 362 = .ok (.iload_n 3, 1) := by decide +kernel
theorem dX10_memory_363 : decode cX10_memory 363 = .ok (.invokevirtual 334, 3) := by decide +kernel
theorem dX10_memory_366 : decode cX10_memory 366 = .ok (.invokevirtual 304, 3) := by decide +kernel
theorem dX10_memory_369 : decode cX10_memory 369 = .ok (.goto 38, 3) := by decide +kernel
theorem dX10_memory_372 : decode cX10_memory 372 = .ok (.aload_n 0, 1) := by decide +kernel
theorem dX10_memory_373 : decode cX10_memory 373 = .ok (.iload 8, 2) := by decide +kernel
theorem dX10_memory_375 : decode cX10_memory 375 = .ok (.lload 4, 2) := by decide +kernel
theorem dX10_memory_377 : decode cX10_memory 377 = .ok (.l2i, 1) := by decide +kernel
theorem dX10_memory_378 : decode cX10_memory 378 = .ok (.iload_n 3, 1) := by decide +kernel
theorem dX10_memory_379 : decode cX10_memory 379 = .ok (.lload 6, 2) := by decide +kernel
theorem dX10_memory_381 : decode cX10_memory 381 = .ok (.invokevirtual 338, 3) := by decide +kernel
theorem dX10_memory_384 : decode cX10_memory 384 = .ok (.aload_n 0, 1) := by decide +kernel
theorem dX10_memory_385 : decode cX10_memory 385 = .ok (.invokevirtual 328, 3) := by decide +kernel
theorem dX10_memory_388 : decode cX10_memory 388 = .ok (.goto 19, 3) := by decide +kernel
theorem dX10_memory_391 : decode cX10_memory 391 = .ok (.aload_n 0, 1) := by decide +kernel
theorem dX10_memory_392 : decode cX10_memory 392 = .ok (.getfield 7, 3) := by decide +kernel
theorem dX10_memory_395 : decode cX10_memory 395 = .ok (.iload_n 2, 1) := by decide +kernel
theorem dX10_memory_396 : decode cX10_memory 396 = .ok (.aload_n 0, 1) := by decide +kernel
theorem dX10_memory_397 : decode cX10_memory 397 = .ok (.getfield 7, 3) := by decide +kernel
theorem dX10_memory_400 : decode cX10_memory 400 = .ok (.iload_n 3, 1) := by decide +kernel
theorem dX10_memory_401 : decode cX10_memory 401 = .ok (.iaload, 1) := by decide +kernel
theorem dX10_memory_402 : decode cX10_memory 402 = .ok (.iastore, 1) := by decide +kernel
theorem dX10_memory_403 : decode cX10_memory 403 = .ok (.aload_n 0, 1) := by decide +kernel
theorem dX10_memory_404 : decode cX10_memory 404 = .ok (.invokevirtual 328, 3) := by decide +kernel
theorem dX10_memory_407 : decode cX10_memory 407 = .ok (.return_, 1) := by decide +kernel
theorem dX10_asked_0 : decode cX10_asked 0 = .ok (.aload_n 0, 1) := by decide +kernel
theorem dX10_asked_1 : decode cX10_asked 1 = .ok (.getfield 13, 3) := by decide +kernel
theorem dX10_asked_4 : decode cX10_asked 4 = .ok (.iload_n 1, 1) := by decide +kernel
theorem dX10_asked_5 : decode cX10_asked 5 = .ok (.iaload, 1) := by decide +kernel
theorem dX10_asked_6 : decode cX10_asked 6 = .ok (.bipush 6, 2) := by decide +kernel
theorem dX10_asked_8 : decode cX10_asked 8 = .ok (.if_icmp .ge 27, 3) := by decide +kernel
theorem dX10_asked_11 : decode cX10_asked 11 = .ok (.iload_n 3, 1) := by decide +kernel
theorem dX10_asked_12 : decode cX10_asked 12 = .ok (.iconst 5, 1) := by decide +kernel
theorem dX10_asked_13 : decode cX10_asked 13 = .ok (.if_icmp .le 22, 3) := by decide +kernel
theorem dX10_asked_16 : decode cX10_asked 16 = .ok (.iload_n 3, 1) := by decide +kernel
theorem dX10_asked_17 : decode cX10_asked 17 = .ok (.aload_n 0, 1) := by decide +kernel
theorem dX10_asked_18 : decode cX10_asked 18 = .ok (.getfield 19, 3) := by decide +kernel
theorem dX10_asked_21 : decode cX10_asked 21 = .ok (.bipush 12, 2) := by decide +kernel
theorem dX10_asked_23 : decode cX10_asked 23 = .ok (.iload_n 1, 1) := by decide +kernel
theorem dX10_asked_24 : decode cX10_asked 24 = .ok (.imul, 1) := by decide +kernel
theorem dX10_asked_25 : decode cX10_asked 25 = .ok (.iload_n 2, 1) := by decide +kernel
theorem dX10_asked_26 : decode cX10_asked 26 = .ok (.iadd, 1) := by decide +kernel
theorem dX10_asked_27 : decode cX10_asked 27 = .ok (.laload, 1) := by decide +kernel
theorem dX10_asked_28 : decode cX10_asked 28 = .ok (.invokestatic 152, 3) := by decide +kernel
theorem dX10_asked_31 : decode cX10_asked 31 = .ok (.d2l, 1) := by decide +kernel
theorem dX10_asked_32 : decode cX10_asked 32 = .ok (.goto 9, 3) := by decide +kernel
theorem dX10_asked_35 : decode cX10_asked 35 = .ok (.aload_n 0, 1) := by decide +kernel
theorem dX10_asked_36 : decode cX10_asked 36 = .ok (.iload_n 1, 1) := by decide +kernel
theorem dX10_asked_37 : decode cX10_asked 37 = .ok (.iload_n 2, 1) := by decide +kernel
theorem dX10_asked_38 : decode cX10_asked 38 = .ok (.invokevirtual 176, 3) := by decide +kernel
theorem dX10_asked_41 : decode cX10_asked 41 = .ok (.lreturn, 1) := by decide +kernel
theorem dX10_isPut_0 : decode cX10_isPut 0 = .ok (.iload_n 3, 1) := by decide +kernel
theorem dX10_isPut_1 : decode cX10_isPut 1 = .ok (.bipush 6, 2) := by decide +kernel
theorem dX10_isPut_3 : decode cX10_isPut 3 = .ok (.if_icmp .ge 18, 3) := by decide +kernel
theorem dX10_isPut_6 : decode cX10_isPut 6 = .ok (.aload_n 0, 1) := by decide +kernel
theorem dX10_isPut_7 : decode cX10_isPut 7 = .ok (.iload_n 1, 1) := by decide +kernel
theorem dX10_isPut_8 : decode cX10_isPut 8 = .ok (.iload_n 2, 1) := by decide +kernel
theorem dX10_isPut_9 : decode cX10_isPut 9 = .ok (.iload_n 3, 1) := by decide +kernel
theorem dX10_isPut_10 : decode cX10_isPut 10 = .ok (.lload 4, 2) := by decide +kernel
theorem dX10_isPut_12 : decode cX10_isPut 12 = .ok (.invokestatic 149, 3) := by decide +kernel
theorem dX10_isPut_15 : decode cX10_isPut 15 = .ok (.invokevirtual 172, 3) := by decide +kernel
theorem dX10_isPut_18 : decode cX10_isPut 18 = .ok (.goto 20, 3) := by decide +kernel
theorem dX10_isPut_21 : decode cX10_isPut 21 = .ok (.aload_n 0, 1) := by decide +kernel
theorem dX10_isPut_22 : decode cX10_isPut 22 = .ok (.getfield 23, 3) := by decide +kernel
theorem dX10_isPut_25 : decode cX10_isPut 25 = .ok (.bipush 12, 2) := by decide +kernel
theorem dX10_isPut_27 : decode cX10_isPut 27 = .ok (.iload_n 1, 1) := by decide +kernel
theorem dX10_isPut_28 : decode cX10_isPut 28 = .ok (.imul, 1) := by decide +kernel
theorem dX10_isPut_29 : decode cX10_isPut 29 = .ok (.iload_n 2, 1) := by decide +kernel
theorem dX10_isPut_30 : decode cX10_isPut 30 = .ok (.iadd, 1) := by decide +kernel
theorem dX10_isPut_31 : decode cX10_isPut 31 = .ok (.iload_n 3, 1) := by decide +kernel
theorem dX10_isPut_32 : decode cX10_isPut 32 = .ok (.lload 4, 2) := by decide +kernel
theorem dX10_isPut_34 : decode cX10_isPut 34 = .ok (.invokestatic 152, 3) := by decide +kernel
theorem dX10_isPut_37 : decode cX10_isPut 37 = .ok (.dastore, 1) := by decide +kernel
theorem dX10_isPut_38 : decode cX10_isPut 38 = .ok (.return_, 1) := by decide +kernel
theorem dX10_ways_0 : decode cX10_ways 0 = .ok (.aload_n 0, 1) := by decide +kernel
theorem dX10_ways_1 : decode cX10_ways 1 = .ok (.getfield 239, 3) := by decide +kernel
theorem dX10_ways_4 : decode cX10_ways 4 = .ok (.iconst 1, 1) := by decide +kernel
theorem dX10_ways_5 : decode cX10_ways 5 = .ok (.isub, 1) := by decide +kernel
theorem dX10_ways_6 : decode cX10_ways 6 = .ok (.istore 6, 2) := by decide +kernel
theorem dX10_ways_8 : decode cX10_ways 8 = .ok (.iload_n 1, 1) := by decide +kernel
theorem dX10_ways_9 : decode cX10_ways 9 = .ok (.tableswitch 215 19 21 #[27, 176, 204], 27) := by decide +kernel
theorem dX10_ways_36 : decode cX10_ways 36 = .ok (.iload_n 3, 1) := by decide +kernel
theorem dX10_ways_37 : decode cX10_ways 37 = .ok (.ifCond .ne 20, 3) := by decide +kernel
theorem dX10_ways_40 : decode cX10_ways 40 = .ok (.aload_n 0, 1) := by decide +kernel
theorem dX10_ways_41 : decode cX10_ways 41 = .ok (.getfield 78, 3) := by decide +kernel
theorem dX10_ways_44 : decode cX10_ways 44 = .ok (.iload 6, 2) := by decide +kernel
theorem dX10_ways_46 : decode cX10_ways 46 = .ok (.iaload, 1) := by decide +kernel
theorem dX10_ways_47 : decode cX10_ways 47 = .ok (.bipush 8, 2) := by decide +kernel
theorem dX10_ways_49 : decode cX10_ways 49 = .ok (.if_icmp .ne 8, 3) := by decide +kernel
theorem dX10_ways_52 : decode cX10_ways 52 = .ok (.bipush 8, 2) := by decide +kernel
theorem dX10_ways_54 : decode cX10_ways 54 = .ok (.goto 54, 3) := by decide +kernel
theorem dX10_ways_57 : decode cX10_ways 57 = .ok (.aload_n 0, 1) := by decide +kernel
theorem dX10_ways_58 : decode cX10_ways 58 = .ok (.iload_n 2, 1) := by decide +kernel
theorem dX10_ways_59 : decode cX10_ways 59 = .ok (.invokevirtual 230, 3) := by decide +kernel
theorem dX10_ways_62 : decode cX10_ways 62 = .ok (.ifCond .eq 12, 3) := by decide +kernel
theorem dX10_ways_65 : decode cX10_ways 65 = .ok (.aload_n 0, 1) := by decide +kernel
theorem dX10_ways_66 : decode cX10_ways 66 = .ok (.getfield 45, 3) := by decide +kernel
theorem dX10_ways_69 : decode cX10_ways 69 = .ok (.iload_n 2, 1) := by decide +kernel
theorem dX10_ways_70 : decode cX10_ways 70 = .ok (.iaload, 1) := by decide +kernel
theorem dX10_ways_71 : decode cX10_ways 71 = .ok (.ifCond .ne 7, 3) := by decide +kernel
theorem dX10_ways_74 : decode cX10_ways 74 = .ok (.iconst 1, 1) := by decide +kernel
theorem dX10_ways_75 : decode cX10_ways 75 = .ok (.goto 33, 3) := by decide +kernel
theorem dX10_ways_78 : decode cX10_ways 78 = .ok (.iload_n 3, 1) := by decide +kernel
theorem dX10_ways_79 : decode cX10_ways 79 = .ok (.aload_n 0, 1) := by decide +kernel
theorem dX10_ways_80 : decode cX10_ways 80 = .ok (.getfield 42, 3) := by decide +kernel
theorem dX10_ways_83 : decode cX10_ways 83 = .ok (.iload_n 2, 1) := by decide +kernel
theorem dX10_ways_84 : decode cX10_ways 84 = .ok (.iaload, 1) := by decide +kernel
theorem dX10_ways_85 : decode cX10_ways 85 = .ok (.if_icmp .le 8, 3) := by decide +kernel
theorem dX10_ways_88 : decode cX10_ways 88 = .ok (.bipush 7, 2) := by decide +kernel
theorem dX10_ways_90 : decode cX10_ways 90 = .ok (.goto 18, 3) := by decide +kernel
theorem dX10_ways_93 : decode cX10_ways 93 = .ok (.aload_n 0, 1) := by decide +kernel
theorem dX10_ways_94 : decode cX10_ways 94 = .ok (.getfield 239, 3) := by decide +kernel
theorem dX10_ways_97 : decode cX10_ways 97 = .ok (.bipush 12, 2) := by decide +kernel
theorem dX10_ways_99 : decode cX10_ways 99 = .ok (.if_icmp .ne 8, 3) := by decide +kernel
theorem dX10_ways_102 : decode cX10_ways 102 = .ok (.bipush 9, 2) := by decide +kernel
theorem dX10_ways_104 : decode cX10_ways 104 = .ok (.goto 4, 3) := by decide +kernel
theorem dX10_ways_107 : decode cX10_ways 107 = .ok (.iconst 0, 1) := by decide +kernel
theorem dX10_ways_108 : decode cX10_ways 108 = .ok (.istore 7, 2) := by decide +kernel
theorem dX10_ways_110 : decode cX10_ways 110 = .ok (.iload 7, 2) := by decide +kernel
theorem dX10_ways_112 : decode cX10_ways 112 = .ok (.ifCond .le 11, 3) := by decide +kernel
theorem dX10_ways_115 : decode cX10_ways 115 = .ok (.aload_n 0, 1) := by decide +kernel
theorem dX10_ways_116 : decode cX10_ways 116 = .ok (.iload 7, 2) := by decide +kernel
theorem dX10_ways_118 : decode cX10_ways 118 = .ok (.lconst 0, 1) := by decide +kernel
theorem dX10_ways_119 : decode cX10_ways 119 = .ok (.invokevirtual 293, 3) := by decide +kernel
theorem dX10_ways_122 : decode cX10_ways 122 = .ok (.return_, 1) := by decide +kernel
theorem dX10_ways_123 : decode cX10_ways 123 = .ok (.aload_n 0, 1) := by decide +kernel
theorem dX10_ways_124 : decode cX10_ways 124 = .ok (.iload_n 2, 1) := by decide +kernel
theorem dX10_ways_125 : decode cX10_ways 125 = .ok (.invokevirtual 341, 3) := by decide +kernel
theorem dX10_ways_128 : decode cX10_ways 128 = .ok (.iconst 0, 1) := by decide +kernel
theorem dX10_ways_129 : decode cX10_ways 129 = .ok (.istore 8, 2) := by decide +kernel
theorem dX10_ways_131 : decode cX10_ways 131 = .ok (.iload 8, 2) := by decide +kernel
theorem dX10_ways_133 : decode cX10_ways 133 = .ok (.iload_n 3, 1) := by decide +kernel
theorem dX10_ways_134 : decode cX10_ways 134 = .ok (.if_icmp .ge 48, 3) := by decide +kernel
theorem dX10_ways_137 : decode cX10_ways 137 = .ok (.aload_n 0, 1) := by decide +kernel
theorem dX10_ways_138 : decode cX10_ways 138 = .ok (.getfield 72, 3) := by decide +kernel
theorem dX10_ways_141 : decode cX10_ways 141 = .ok (.bipush 6, 2) := by decide +kernel
theorem dX10_ways_143 : decode cX10_ways 143 = .ok (.aload_n 0, 1) := by decide +kernel
theorem dX10_ways_144 : decode cX10_ways 144 = .ok (.getfield 239, 3) := by decide +kernel
theorem dX10_ways_147 : decode cX10_ways 147 = .ok (.imul, 1) := by decide +kernel
theorem dX10_ways_148 : decode cX10_ways 148 = .ok (.bipush 6, 2) := by decide +kernel
theorem dX10_ways_150 : decode cX10_ways 150 = .ok (.isub, 1) := by decide +kernel
theorem dX10_ways_151 : decode cX10_ways 151 = .ok (.iload 8, 2) := by decide +kernel
theorem dX10_ways_153 : decode cX10_ways 153 = .ok (.iadd, 1) := by decide +kernel
theorem dX10_ways_154 : decode cX10_ways 154 = .ok (.aload_n 0, 1) := by decide +kernel
theorem dX10_ways_155 : decode cX10_ways 155 = .ok (.getfield 75, 3) := by decide +kernel
theorem dX10_ways_158 : decode cX10_ways 158 = .ok (.bipush 8, 2) := by decide +kernel
theorem dX10_ways_160 : decode cX10_ways 160 = .ok (.iload 6, 2) := by decide +kernel
theorem dX10_ways_162 : decode cX10_ways 162 = .ok (.imul, 1) := by decide +kernel
theorem dX10_ways_163 : decode cX10_ways 163 = .ok (.aload_n 0, 1) := by decide +kernel
theorem dX10_ways_164 : decode cX10_ways 164 = .ok (.getfield 78, 3) := by decide +kernel
theorem dX10_ways_167 : decode cX10_ways 167 = .ok (.iload 6, 2) := by decide +kernel
theorem dX10_ways_169 : decode cX10_ways 169 = .ok (.iaload, 1) := by decide +kernel
theorem dX10_ways_170 : decode cX10_ways 170 = .ok (.iadd, 1) := by decide +kernel
theorem dX10_ways_171 : decode cX10_ways 171 = .ok (.iload 8, 2) := by decide +kernel
theorem dX10_ways_173 : decode cX10_ways 173 = .ok (.iadd, 1) := by decide +kernel
theorem dX10_ways_174 : decode cX10_ways 174 = .ok (.laload, 1) := by decide +kernel
theorem dX10_ways_175 : decode cX10_ways 175 = .ok (.lastore, 1) := by decide +kernel
theorem dX10_ways_176 : decode cX10_ways 176 = .ok (.iinc 8 1, 3) := by decide +kernel
theorem dX10_ways_179 : decode cX10_ways 179 = .ok (.goto (-48), 3) := by decide +kernel
theorem dX10_ways_182 : decode cX10_ways 182 = .ok (.goto 46, 3) := by decide +kernel
theorem dX10_ways_185 : decode cX10_ways 185 = .ok (.aload_n 0, 1) := by decide +kernel
theorem dX10_ways_186 : decode cX10_ways 186 = .ok (.invokevirtual 265, 3) := by decide +kernel
theorem dX10_ways_189 : decode cX10_ways 189 = .ok (.ifCond .eq 15, 3) := by decide +kernel
theorem dX10_ways_192 : decode cX10_ways 192 = .ok (.aload_n 0, 1) := by decide +kernel
theorem dX10_ways_193 : decode cX10_ways 193 = .ok (.iconst 0, 1) := by decide +kernel
theorem dX10_ways_194 : decode cX10_ways 194 = .ok (.lload 4, 2) := by decide +kernel
theorem dX10_ways_196 : decode cX10_ways 196 = .ok (.iconst (-1), 1) := by decide +kernel
theorem dX10_ways_197 : decode cX10_ways 197 = .ok (.iconst (-1), 1) := by decide +kernel
theorem dX10_ways_198 : decode cX10_ways 198 = .ok (.invokevirtual 274, 3) := by decide +kernel
theorem dX10_ways_201 : decode cX10_ways 201 = .ok (.goto 27, 3) := by decide +kernel
theorem dX10_ways_204 : decode cX10_ways 204 = .ok (.aload_n 0, 1) := by decide +kernel
theorem dX10_ways_205 : decode cX10_ways 205 = .ok (.lload 4, 2) := by decide +kernel
theorem dX10_ways_207 : decode cX10_ways 207 = .ok (.invokevirtual 344, 3) := by decide +kernel
theorem dX10_ways_210 : decode cX10_ways 210 = .ok (.goto 18, 3) := by decide +kernel
theorem dX10_ways_213 : decode cX10_ways 213 = .ok (.aload_n 0, 1) := by decide +kernel
theorem dX10_ways_214 : decode cX10_ways 214 = .ok (.bipush 11, 2) := by decide +kernel
theorem dX10_ways_216 : decode cX10_ways 216 = .ok (.lload 4, 2) := by decide +kernel
theorem dX10_ways_218 : decode cX10_ways 218 = .ok (.invokevirtual 293, 3) := by decide +kernel
theorem dX10_ways_221 : decode cX10_ways 221 = .ok (.goto 7, 3) := by decide +kernel
theorem dX10_ways_224 : decode cX10_ways 224 = .ok (.aload_n 0, 1) := by decide +kernel
theorem dX10_ways_225 : decode cX10_ways 225 = .ok (.invokevirtual 347, 3) := by decide +kernel
theorem dX10_ways_228 : decode cX10_ways 228 = .ok (.return_, 1) := by decide +kernel
theorem dX10_leave_0 : decode cX10_leave 0 = .ok (.aload_n 0, 1) := by decide +kernel
theorem dX10_leave_1 : decode cX10_leave 1 = .ok (.getfield 239, 3) := by decide +kernel
theorem dX10_leave_4 : decode cX10_leave 4 = .ok (.iconst 1, 1) := by decide +kernel
theorem dX10_leave_5 : decode cX10_leave 5 = .ok (.isub, 1) := by decide +kernel
theorem dX10_leave_6 : decode cX10_leave 6 = .ok (.istore_n 1, 1) := by decide +kernel
theorem dX10_leave_7 : decode cX10_leave 7 = .ok (.aload_n 0, 1) := by decide +kernel
theorem dX10_leave_8 : decode cX10_leave 8 = .ok (.getfield 81, 3) := by decide +kernel
theorem dX10_leave_11 : decode cX10_leave 11 = .ok (.iload_n 1, 1) := by decide +kernel
theorem dX10_leave_12 : decode cX10_leave 12 = .ok (.baload, 1) := by decide +kernel
theorem dX10_leave_13 : decode cX10_leave 13 = .ok (.ifCond .ne 13, 3) := by decide +kernel
theorem dX10_leave_16 : decode cX10_leave 16 = .ok (.aload_n 0, 1) := by decide +kernel
theorem dX10_leave_17 : decode cX10_leave 17 = .ok (.bipush 10, 2) := by decide +kernel
theorem dX10_leave_19 : decode cX10_leave 19 = .ok (.lconst 0, 1) := by decide +kernel
theorem dX10_leave_20 : decode cX10_leave 20 = .ok (.invokevirtual 293, 3) := by decide +kernel
theorem dX10_leave_23 : decode cX10_leave 23 = .ok (.goto 79, 3) := by decide +kernel
theorem dX10_leave_26 : decode cX10_leave 26 = .ok (.aload_n 0, 1) := by decide +kernel
theorem dX10_leave_27 : decode cX10_leave 27 = .ok (.getfield 85, 3) := by decide +kernel
theorem dX10_leave_30 : decode cX10_leave 30 = .ok (.iload_n 1, 1) := by decide +kernel
theorem dX10_leave_31 : decode cX10_leave 31 = .ok (.iaload, 1) := by decide +kernel
theorem dX10_leave_32 : decode cX10_leave 32 = .ok (.ifCond .ne 16, 3) := by decide +kernel
theorem dX10_leave_35 : decode cX10_leave 35 = .ok (.aload_n 0, 1) := by decide +kernel
theorem dX10_leave_36 : decode cX10_leave 36 = .ok (.aload_n 0, 1) := by decide +kernel
theorem dX10_leave_37 : decode cX10_leave 37 = .ok (.getfield 88, 3) := by decide +kernel
theorem dX10_leave_40 : decode cX10_leave 40 = .ok (.iload_n 1, 1) := by decide +kernel
theorem dX10_leave_41 : decode cX10_leave 41 = .ok (.laload, 1) := by decide +kernel
theorem dX10_leave_42 : decode cX10_leave 42 = .ok (.invokevirtual 344, 3) := by decide +kernel
theorem dX10_leave_45 : decode cX10_leave 45 = .ok (.goto 57, 3) := by decide +kernel
theorem dX10_leave_48 : decode cX10_leave 48 = .ok (.aload_n 0, 1) := by decide +kernel
theorem dX10_leave_49 : decode cX10_leave 49 = .ok (.aload_n 0, 1) := by decide +kernel
theorem dX10_leave_50 : decode cX10_leave 50 = .ok (.getfield 85, 3) := by decide +kernel
theorem dX10_leave_53 : decode cX10_leave 53 = .ok (.iload_n 1, 1) := by decide +kernel
theorem dX10_leave_54 : decode cX10_leave 54 = .ok (.iaload, 1) := by decide +kernel
theorem dX10_leave_55 : decode cX10_leave 55 = .ok (.putfield 252, 3) := by decide +kernel
theorem dX10_leave_58 : decode cX10_leave 58 = .ok (.aload_n 0, 1) := by decide +kernel
theorem dX10_leave_59 : decode cX10_leave 59 = .ok (.aload_n 0, 1) := by decide +kernel
theorem dX10_leave_60 : decode cX10_leave 60 = .ok (.getfield 88, 3) := by decide +kernel
theorem dX10_leave_63 : decode cX10_leave 63 = .ok (.iload_n 1, 1) := by decide +kernel
theorem dX10_leave_64 : decode cX10_leave 64 = .ok (.laload, 1) := by decide +kernel
theorem dX10_leave_65 : decode cX10_leave 65 = .ok (.putfield 258, 3) := by decide +kernel
theorem dX10_leave_68 : decode cX10_leave 68 = .ok (.aload_n 0, 1) := by decide +kernel
theorem dX10_leave_69 : decode cX10_leave 69 = .ok (.aload_n 0, 1) := by decide +kernel
theorem dX10_leave_70 : decode cX10_leave 70 = .ok (.getfield 91, 3) := by decide +kernel
theorem dX10_leave_73 : decode cX10_leave 73 = .ok (.iload_n 1, 1) := by decide +kernel
theorem dX10_leave_74 : decode cX10_leave 74 = .ok (.iaload, 1) := by decide +kernel
theorem dX10_leave_75 : decode cX10_leave 75 = .ok (.putfield 268, 3) := by decide +kernel
theorem dX10_leave_78 : decode cX10_leave 78 = .ok (.aload_n 0, 1) := by decide +kernel
theorem dX10_leave_79 : decode cX10_leave 79 = .ok (.aload_n 0, 1) := by decide +kernel
theorem dX10_leave_80 : decode cX10_leave 80 = .ok (.getfield 94, 3) := by decide +kernel
theorem dX10_leave_83 : decode cX10_leave 83 = .ok (.iload_n 1, 1) := by decide +kernel
theorem dX10_leave_84 : decode cX10_leave 84 = .ok (.iaload, 1) := by decide +kernel
theorem dX10_leave_85 : decode cX10_leave 85 = .ok (.putfield 271, 3) := by decide +kernel
theorem dX10_leave_88 : decode cX10_leave 88 = .ok (.aload_n 0, 1) := by decide +kernel
theorem dX10_leave_89 : decode cX10_leave 89 = .ok (.dup, 1) := by decide +kernel
theorem dX10_leave_90 : decode cX10_leave 90 = .ok (.getfield 239, 3) := by decide +kernel
theorem dX10_leave_93 : decode cX10_leave 93 = .ok (.iconst 1, 1) := by decide +kernel
theorem dX10_leave_94 : decode cX10_leave 94 = .ok (.isub, 1) := by decide +kernel
theorem dX10_leave_95 : decode cX10_leave 95 = .ok (.putfield 239, 3) := by decide +kernel
theorem dX10_leave_98 : decode cX10_leave 98 = .ok (.aload_n 0, 1) := by decide +kernel
theorem dX10_leave_99 : decode cX10_leave 99 = .ok (.invokevirtual 290, 3) := by decide +kernel
theorem dX10_leave_102 : decode cX10_leave 102 = .ok (.return_, 1) := by decide +kernel
theorem dX10_world_0 : decode cX10_world 0 = .ok (.iload_n 1, 1) := by decide +kernel
theorem dX10_world_1 : decode cX10_world 1 = .ok (.tableswitch 272 23 27 #[35, 94, 106, 183, 219], 35) := by decide +kernel
theorem dX10_world_36 : decode cX10_world 36 = .ok (.aload_n 0, 1) := by decide +kernel
theorem dX10_world_37 : decode cX10_world 37 = .ok (.lload_n 3, 1) := by decide +kernel
theorem dX10_world_38 : decode cX10_world 38 = .ok (.invokevirtual 188, 3) := by decide +kernel
theorem dX10_world_41 : decode cX10_world 41 = .ok (.ifCond .ne 10, 3) := by decide +kernel
theorem dX10_world_44 : decode cX10_world 44 = .ok (.aload_n 0, 1) := by decide +kernel
theorem dX10_world_45 : decode cX10_world 45 = .ok (.iconst 1, 1) := by decide +kernel
theorem dX10_world_46 : decode cX10_world 46 = .ok (.lconst 0, 1) := by decide +kernel
theorem dX10_world_47 : decode cX10_world 47 = .ok (.invokevirtual 293, 3) := by decide +kernel
theorem dX10_world_50 : decode cX10_world 50 = .ok (.return_, 1) := by decide +kernel
theorem dX10_world_51 : decode cX10_world 51 = .ok (.aload_n 0, 1) := by decide +kernel
theorem dX10_world_52 : decode cX10_world 52 = .ok (.lload_n 3, 1) := by decide +kernel
theorem dX10_world_53 : decode cX10_world 53 = .ok (.l2i, 1) := by decide +kernel
theorem dX10_world_54 : decode cX10_world 54 = .ok (.iload_n 2, 1) := by decide +kernel
theorem dX10_world_55 : decode cX10_world 55 = .ok (.lload 5, 2) := by decide +kernel
theorem dX10_world_57 : decode cX10_world 57 = .ok (.l2i, 1) := by decide +kernel
theorem dX10_world_58 : decode cX10_world 58 = .ok (.invokevirtual 350, 3) := by decide +kernel
theorem dX10_world_61 : decode cX10_world 61 = .ok (.aload_n 0, 1) := by decide +kernel
theorem dX10_world_62 : decode cX10_world 62 = .ok (.getfield 198, 3) := by decide +kernel
theorem dX10_world_65 : decode cX10_world 65 = .ok (.ifCond .le 18, 3) := by decide +kernel
theorem dX10_world_68 : decode cX10_world 68 = .ok (.aload_n 0, 1) := by decide +kernel
theorem dX10_world_69 : decode cX10_world 69 = .ok (.aload_n 0, 1) := by decide +kernel
theorem dX10_world_70 : decode cX10_world 70 = .ok (.getfield 198, 3) := by decide +kernel
theorem dX10_world_73 : decode cX10_world 73 = .ok (.aload_n 0, 1) := by decide +kernel
theorem dX10_world_74 : decode cX10_world 74 = .ok (.getfield 203, 3) := by decide +kernel
theorem dX10_world_77 : decode cX10_world 77 = .ok (.invokevirtual 293, 3) := by decide +kernel
theorem dX10_world_80 : decode cX10_world 80 = .ok (.goto 217, 3) := by decide +kernel
theorem dX10_world_83 : decode cX10_world 83 = .ok (.aload_n 0, 1) := by decide +kernel
theorem dX10_world_84 : decode cX10_world 84 = .ok (.aload_n 0, 1) := by decide +kernel
theorem dX10_world_85 : decode cX10_world 85 = .ok (.getfield 207, 3) := by decide +kernel
theorem dX10_world_88 : decode cX10_world 88 = .ok (.i2l, 1) := by decide +kernel
theorem dX10_world_89 : decode cX10_world 89 = .ok (.invokevirtual 304, 3) := by decide +kernel
theorem dX10_world_92 : decode cX10_world 92 = .ok (.goto 205, 3) := by decide +kernel
theorem dX10_world_95 : decode cX10_world 95 = .ok (.aload_n 0, 1) := by decide +kernel
theorem dX10_world_96 : decode cX10_world 96 = .ok (.lload_n 3, 1) := by decide +kernel
theorem dX10_world_97 : decode cX10_world 97 = .ok (.lload 5, 2) := by decide +kernel
theorem dX10_world_99 : decode cX10_world 99 = .ok (.lload 7, 2) := by decide +kernel
theorem dX10_world_101 : decode cX10_world 101 = .ok (.invokevirtual 353, 3) := by decide +kernel
theorem dX10_world_104 : decode cX10_world 104 = .ok (.goto 193, 3) := by decide +kernel
theorem dX10_world_107 : decode cX10_world 107 = .ok (.aload_n 0, 1) := by decide +kernel
theorem dX10_world_108 : decode cX10_world 108 = .ok (.lload_n 3, 1) := by decide +kernel
theorem dX10_world_109 : decode cX10_world 109 = .ok (.invokevirtual 188, 3) := by decide +kernel
theorem dX10_world_112 : decode cX10_world 112 = .ok (.ifCond .ne 7, 3) := by decide +kernel
theorem dX10_world_115 : decode cX10_world 115 = .ok (.iconst 1, 1) := by decide +kernel
theorem dX10_world_116 : decode cX10_world 116 = .ok (.goto 30, 3) := by decide +kernel
theorem dX10_world_119 : decode cX10_world 119 = .ok (.lload 5, 2) := by decide +kernel
theorem dX10_world_121 : decode cX10_world 121 = .ok (.lconst 0, 1) := by decide +kernel
theorem dX10_world_122 : decode cX10_world 122 = .ok (.aload_n 0, 1) := by decide +kernel
theorem dX10_world_123 : decode cX10_world 123 = .ok (.getfield 27, 3) := by decide +kernel
theorem dX10_world_126 : decode cX10_world 126 = .ok (.lload_n 3, 1) := by decide +kernel
theorem dX10_world_127 : decode cX10_world 127 = .ok (.l2i, 1) := by decide +kernel
theorem dX10_world_128 : decode cX10_world 128 = .ok (.iaload, 1) := by decide +kernel
theorem dX10_world_129 : decode cX10_world 129 = .ok (.invokestatic 192, 3) := by decide +kernel
theorem dX10_world_132 : decode cX10_world 132 = .ok (.i2l, 1) := by decide +kernel
theorem dX10_world_133 : decode cX10_world 133 = .ok (.lconst 1, 1) := by decide +kernel
theorem dX10_world_134 : decode cX10_world 134 = .ok (.lsub, 1) := by decide +kernel
theorem dX10_world_135 : decode cX10_world 135 = .ok (.invokestatic 139, 3) := by decide +kernel
theorem dX10_world_138 : decode cX10_world 138 = .ok (.ifCond .ne 7, 3) := by decide +kernel
theorem dX10_world_141 : decode cX10_world 141 = .ok (.iconst 2, 1) := by decide +kernel
theorem dX10_world_142 : decode cX10_world 142 = .ok (.goto 4, 3) := by decide +kernel
theorem dX10_world_145 : decode cX10_world 145 = .ok (.iconst 0, 1) := by decide +kernel
theorem dX10_world_146 : decode cX10_world 146 = .ok (.istore 9, 2) := by decide +kernel
theorem dX10_world_148 : decode cX10_world 148 = .ok (.iload 9, 2) := by decide +kernel
theorem dX10_world_150 : decode cX10_world 150 = .ok (.ifCond .le 13, 3) := by decide +kernel
theorem dX10_world_153 : decode cX10_world 153 = .ok (.aload_n 0, 1) := by decide +kernel
theorem dX10_world_154 : decode cX10_world 154 = .ok (.iload 9, 2) := by decide +kernel
theorem dX10_world_156 : decode cX10_world 156 = .ok (.lconst 0, 1) := by decide +kernel
theorem dX10_world_157 : decode cX10_world 157 = .ok (.invokevirtual 293, 3) := by decide +kernel
theorem dX10_world_160 : decode cX10_world 160 = .ok (.goto 137, 3) := by decide +kernel
theorem dX10_world_163 : decode cX10_world 163 = .ok (.aload_n 0, 1) := by decide +kernel
theorem dX10_world_164 : decode cX10_world 164 = .ok (.aload_n 0, 1) := by decide +kernel
theorem dX10_world_165 : decode cX10_world 165 = .ok (.getfield 39, 3) := by decide +kernel
theorem dX10_world_168 : decode cX10_world 168 = .ok (.iconst 4, 1) := by decide +kernel
theorem dX10_world_169 : decode cX10_world 169 = .ok (.lload_n 3, 1) := by decide +kernel
theorem dX10_world_170 : decode cX10_world 170 = .ok (.l2i, 1) := by decide +kernel
theorem dX10_world_171 : decode cX10_world 171 = .ok (.imul, 1) := by decide +kernel
theorem dX10_world_172 : decode cX10_world 172 = .ok (.lload 5, 2) := by decide +kernel
theorem dX10_world_174 : decode cX10_world 174 = .ok (.l2i, 1) := by decide +kernel
theorem dX10_world_175 : decode cX10_world 175 = .ok (.iadd, 1) := by decide +kernel
theorem dX10_world_176 : decode cX10_world 176 = .ok (.iaload, 1) := by decide +kernel
theorem dX10_world_177 : decode cX10_world 177 = .ok (.i2l, 1) := by decide +kernel
theorem dX10_world_178 : decode cX10_world 178 = .ok (.invokevirtual 304, 3) := by decide +kernel
theorem dX10_world_181 : decode cX10_world 181 = .ok (.goto 116, 3) := by decide +kernel
theorem dX10_world_184 : decode cX10_world 184 = .ok (.aload_n 0, 1) := by decide +kernel
theorem dX10_world_185 : decode cX10_world 185 = .ok (.getfield 357, 3) := by decide +kernel
theorem dX10_world_188 : decode cX10_world 188 = .ok (.bipush 60, 2) := by decide +kernel
theorem dX10_world_190 : decode cX10_world 190 = .ok (.if_icmp .ge 23, 3) := by decide +kernel
theorem dX10_world_193 : decode cX10_world 193 = .ok (.aload_n 0, 1) := by decide +kernel
theorem dX10_world_194 : decode cX10_world 194 = .ok (.getfield 97, 3) := by decide +kernel
theorem dX10_world_197 : decode cX10_world 197 = .ok (.aload_n 0, 1) := by decide +kernel
theorem dX10_world_198 : decode cX10_world 198 = .ok (.getfield 357, 3) := by decide +kernel
theorem dX10_world_201 : decode cX10_world 201 = .ok (.lload_n 3, 1) := by decide +kernel
theorem dX10_world_202 : decode cX10_world 202 = .ok (.lastore, 1) := by decide +kernel
theorem dX10_world_203 : decode cX10_world 203 = .ok (.aload_n 0, 1) := by decide +kernel
theorem dX10_world_204 : decode cX10_world 204 = .ok (.dup, 1) := by decide +kernel
theorem dX10_world_205 : decode cX10_world 205 = .ok (.getfield 357, 3) := by decide +kernel
theorem dX10_world_208 : decode cX10_world 208 = .ok (.iconst 1, 1) := by decide +kernel
theorem dX10_world_209 : decode cX10_world 209 = .ok (.iadd, 1) := by decide +kernel
theorem dX10_world_210 : decode cX10_world 210 = .ok (.putfield 357, 3) := by decide +kernel
theorem dX10_world_213 : decode cX10_world 213 = .ok (.aload_n 0, 1) := by decide +kernel
theorem dX10_world_214 : decode cX10_world 214 = .ok (.invokevirtual 328, 3) := by decide +kernel
theorem dX10_world_217 : decode cX10_world 217 = .ok (.goto 80, 3) := by decide +kernel
theorem dX10_world_220 : decode cX10_world 220 = .ok (.aload_n 0, 1) := by decide +kernel
theorem dX10_world_221 : decode cX10_world 221 = .ok (.getfield 360, 3) := by decide +kernel
theorem dX10_world_224 : decode cX10_world 224 = .ok (.iconst 3, 1) := by decide +kernel
theorem dX10_world_225 : decode cX10_world 225 = .ok (.if_icmp .eq 12, 3) := by decide +kernel
theorem dX10_world_228 : decode cX10_world 228 = .ok (.aload_n 0, 1) := by decide +kernel
theorem dX10_world_229 : decode cX10_world 229 = .ok (.getfield 363, 3) := by decide +kernel
theorem dX10_world_232 : decode cX10_world 232 = .ok (.bipush 6, 2) := by decide +kernel
theorem dX10_world_234 : decode cX10_world 234 = .ok (.if_icmp .ne 13, 3) := by decide +kernel
theorem dX10_world_237 : decode cX10_world 237 = .ok (.aload_n 0, 1) := by decide +kernel
theorem dX10_world_238 : decode cX10_world 238 = .ok (.bipush 7, 2) := by decide +kernel
theorem dX10_world_240 : decode cX10_world 240 = .ok (.lconst 0, 1) := by decide +kernel
theorem dX10_world_241 : decode cX10_world 241 = .ok (.invokevirtual 293, 3) := by decide +kernel
theorem dX10_world_244 : decode cX10_world 244 = .ok (.goto 53, 3) := by decide +kernel
theorem dX10_world_247 : decode cX10_world 247 = .ok (.aload_n 0, 1) := by decide +kernel
theorem dX10_world_248 : decode cX10_world 248 = .ok (.dup, 1) := by decide +kernel
theorem dX10_world_249 : decode cX10_world 249 = .ok (.getfield 363, 3) := by decide +kernel
theorem dX10_world_252 : decode cX10_world 252 = .ok (.iconst 1, 1) := by decide +kernel
theorem dX10_world_253 : decode cX10_world 253 = .ok (.iadd, 1) := by decide +kernel
theorem dX10_world_254 : decode cX10_world 254 = .ok (.putfield 363, 3) := by decide +kernel
theorem dX10_world_257 : decode cX10_world 257 = .ok (.aload_n 0, 1) := by decide +kernel
theorem dX10_world_258 : decode cX10_world 258 = .ok (.invokevirtual 366, 3) := by decide +kernel
theorem dX10_world_261 : decode cX10_world 261 = .ok (.aload_n 0, 1) := by decide +kernel
theorem dX10_world_262 : decode cX10_world 262 = .ok (.aload_n 0, 1) := by decide +kernel
theorem dX10_world_263 : decode cX10_world 263 = .ok (.getfield 360, 3) := by decide +kernel
theorem dX10_world_266 : decode cX10_world 266 = .ok (.i2l, 1) := by decide +kernel
theorem dX10_world_267 : decode cX10_world 267 = .ok (.invokevirtual 304, 3) := by decide +kernel
theorem dX10_world_270 : decode cX10_world 270 = .ok (.goto 27, 3) := by decide +kernel
theorem dX10_world_273 : decode cX10_world 273 = .ok (.aload_n 0, 1) := by decide +kernel
theorem dX10_world_274 : decode cX10_world 274 = .ok (.getfield 360, 3) := by decide +kernel
theorem dX10_world_277 : decode cX10_world 277 = .ok (.ifCond .ne 11, 3) := by decide +kernel
theorem dX10_world_280 : decode cX10_world 280 = .ok (.aload_n 0, 1) := by decide +kernel
theorem dX10_world_281 : decode cX10_world 281 = .ok (.lconst 0, 1) := by decide +kernel
theorem dX10_world_282 : decode cX10_world 282 = .ok (.invokevirtual 304, 3) := by decide +kernel
theorem dX10_world_285 : decode cX10_world 285 = .ok (.goto 12, 3) := by decide +kernel
theorem dX10_world_288 : decode cX10_world 288 = .ok (.aload_n 0, 1) := by decide +kernel
theorem dX10_world_289 : decode cX10_world 289 = .ok (.invokevirtual 369, 3) := by decide +kernel
theorem dX10_world_292 : decode cX10_world 292 = .ok (.aload_n 0, 1) := by decide +kernel
theorem dX10_world_293 : decode cX10_world 293 = .ok (.lconst 1, 1) := by decide +kernel
theorem dX10_world_294 : decode cX10_world 294 = .ok (.invokevirtual 304, 3) := by decide +kernel
theorem dX10_world_297 : decode cX10_world 297 = .ok (.return_, 1) := by decide +kernel
theorem dX10_stand_0 : decode cX10_stand 0 = .ok (.aload_n 0, 1) := by decide +kernel
theorem dX10_stand_1 : decode cX10_stand 1 = .ok (.lload_n 1, 1) := by decide +kernel
theorem dX10_stand_2 : decode cX10_stand 2 = .ok (.invokevirtual 188, 3) := by decide +kernel
theorem dX10_stand_5 : decode cX10_stand 5 = .ok (.ifCond .eq 21, 3) := by decide +kernel
theorem dX10_stand_8 : decode cX10_stand 8 = .ok (.lload 5, 2) := by decide +kernel
theorem dX10_stand_10 : decode cX10_stand 10 = .ok (.ldc2_w 237, 3) := by decide +kernel
theorem dX10_stand_13 : decode cX10_stand 13 = .ok (.lcmp, 1) := by decide +kernel
theorem dX10_stand_14 : decode cX10_stand 14 = .ok (.ifCond .eq 16, 3) := by decide +kernel
theorem dX10_stand_17 : decode cX10_stand 17 = .ok (.aload_n 0, 1) := by decide +kernel
theorem dX10_stand_18 : decode cX10_stand 18 = .ok (.lload 5, 2) := by decide +kernel
theorem dX10_stand_20 : decode cX10_stand 20 = .ok (.invokevirtual 188, 3) := by decide +kernel
theorem dX10_stand_23 : decode cX10_stand 23 = .ok (.ifCond .ne 7, 3) := by decide +kernel
theorem dX10_stand_26 : decode cX10_stand 26 = .ok (.iconst 1, 1) := by decide +kernel
theorem dX10_stand_27 : decode cX10_stand 27 = .ok (.goto 29, 3) := by decide +kernel
theorem dX10_stand_30 : decode cX10_stand 30 = .ok (.lload_n 3, 1) := by decide +kernel
theorem dX10_stand_31 : decode cX10_stand 31 = .ok (.lconst 0, 1) := by decide +kernel
theorem dX10_stand_32 : decode cX10_stand 32 = .ok (.aload_n 0, 1) := by decide +kernel
theorem dX10_stand_33 : decode cX10_stand 33 = .ok (.getfield 27, 3) := by decide +kernel
theorem dX10_stand_36 : decode cX10_stand 36 = .ok (.lload_n 1, 1) := by decide +kernel
theorem dX10_stand_37 : decode cX10_stand 37 = .ok (.l2i, 1) := by decide +kernel
theorem dX10_stand_38 : decode cX10_stand 38 = .ok (.iaload, 1) := by decide +kernel
theorem dX10_stand_39 : decode cX10_stand 39 = .ok (.invokestatic 192, 3) := by decide +kernel
theorem dX10_stand_42 : decode cX10_stand 42 = .ok (.i2l, 1) := by decide +kernel
theorem dX10_stand_43 : decode cX10_stand 43 = .ok (.lconst 1, 1) := by decide +kernel
theorem dX10_stand_44 : decode cX10_stand 44 = .ok (.lsub, 1) := by decide +kernel
theorem dX10_stand_45 : decode cX10_stand 45 = .ok (.invokestatic 139, 3) := by decide +kernel
theorem dX10_stand_48 : decode cX10_stand 48 = .ok (.ifCond .ne 7, 3) := by decide +kernel
theorem dX10_stand_51 : decode cX10_stand 51 = .ok (.iconst 2, 1) := by decide +kernel
theorem dX10_stand_52 : decode cX10_stand 52 = .ok (.goto 4, 3) := by decide +kernel
theorem dX10_stand_55 : decode cX10_stand 55 = .ok (.iconst 0, 1) := by decide +kernel
theorem dX10_stand_56 : decode cX10_stand 56 = .ok (.istore 7, 2) := by decide +kernel
theorem dX10_stand_58 : decode cX10_stand 58 = .ok (.iload 7, 2) := by decide +kernel
theorem dX10_stand_60 : decode cX10_stand 60 = .ok (.ifCond .ne 76, 3) := by decide +kernel
theorem dX10_stand_63 : decode cX10_stand 63 = .ok (.lload 5, 2) := by decide +kernel
theorem dX10_stand_65 : decode cX10_stand 65 = .ok (.lconst 0, 1) := by decide +kernel
theorem dX10_stand_66 : decode cX10_stand 66 = .ok (.lcmp, 1) := by decide +kernel
theorem dX10_stand_67 : decode cX10_stand 67 = .ok (.ifCond .lt 69, 3) := by decide +kernel
theorem dX10_stand_70 : decode cX10_stand 70 = .ok (.aload_n 0, 1) := by decide +kernel
theorem dX10_stand_71 : decode cX10_stand 71 = .ok (.getfield 27, 3) := by decide +kernel
theorem dX10_stand_74 : decode cX10_stand 74 = .ok (.lload_n 1, 1) := by decide +kernel
theorem dX10_stand_75 : decode cX10_stand 75 = .ok (.l2i, 1) := by decide +kernel
theorem dX10_stand_76 : decode cX10_stand 76 = .ok (.iaload, 1) := by decide +kernel
theorem dX10_stand_77 : decode cX10_stand 77 = .ok (.istore 8, 2) := by decide +kernel
theorem dX10_stand_79 : decode cX10_stand 79 = .ok (.aload_n 0, 1) := by decide +kernel
theorem dX10_stand_80 : decode cX10_stand 80 = .ok (.getfield 27, 3) := by decide +kernel
theorem dX10_stand_83 : decode cX10_stand 83 = .ok (.lload 5, 2) := by decide +kernel
theorem dX10_stand_85 : decode cX10_stand 85 = .ok (.l2i, 1) := by decide +kernel
theorem dX10_stand_86 : decode cX10_stand 86 = .ok (.iaload, 1) := by decide +kernel
theorem dX10_stand_87 : decode cX10_stand 87 = .ok (.istore 9, 2) := by decide +kernel
theorem dX10_stand_89 : decode cX10_stand 89 = .ok (.iload 8, 2) := by decide +kernel
theorem dX10_stand_91 : decode cX10_stand 91 = .ok (.ifCond .eq 26, 3) := by decide +kernel
theorem dX10_stand_94 : decode cX10_stand 94 = .ok (.iload 8, 2) := by decide +kernel
theorem dX10_stand_96 : decode cX10_stand 96 = .ok (.iconst 4, 1) := by decide +kernel
theorem dX10_stand_97 : decode cX10_stand 97 = .ok (.if_icmp .ge 14, 3) := by decide +kernel
theorem dX10_stand_100 : decode cX10_stand 100 = .ok (.iload 9, 2) := by decide +kernel
theorem dX10_stand_102 : decode cX10_stand 102 = .ok (.invokestatic 195, 3) := by decide +kernel
theorem dX10_stand_105 : decode cX10_stand 105 = .ok (.ifCond .eq 16, 3) := by decide +kernel
theorem dX10_stand_108 : decode cX10_stand 108 = .ok (.goto 9, 3) := by decide +kernel
theorem dX10_stand_111 : decode cX10_stand 111 = .ok (.iload 9, 2) := by decide +kernel
theorem dX10_stand_113 : decode cX10_stand 113 = .ok (.iconst 3, 1) := by decide +kernel
theorem dX10_stand_114 : decode cX10_stand 114 = .ok (.if_icmp .le 7, 3) := by decide +kernel
theorem dX10_stand_117 : decode cX10_stand 117 = .ok (.iconst 1, 1) := by decide +kernel
theorem dX10_stand_118 : decode cX10_stand 118 = .ok (.goto 4, 3) := by decide +kernel
theorem dX10_stand_121 : decode cX10_stand 121 = .ok (.iconst 0, 1) := by decide +kernel
theorem dX10_stand_122 : decode cX10_stand 122 = .ok (.istore 10, 2) := by decide +kernel
theorem dX10_stand_124 : decode cX10_stand 124 = .ok (.iload 10, 2) := by decide +kernel
theorem dX10_stand_126 : decode cX10_stand 126 = .ok (.ifCond .eq 7, 3) := by decide +kernel
theorem dX10_stand_129 : decode cX10_stand 129 = .ok (.iconst 0, 1) := by decide +kernel
theorem dX10_stand_130 : decode cX10_stand 130 = .ok (.goto 4, 3) := by decide +kernel
theorem dX10_stand_133 : decode cX10_stand 133 = .ok (.iconst 4, 1) := by decide +kernel
theorem dX10_stand_134 : decode cX10_stand 134 = .ok (.istore 7, 2) := by decide +kernel
theorem dX10_stand_136 : decode cX10_stand 136 = .ok (.iload 7, 2) := by decide +kernel
theorem dX10_stand_138 : decode cX10_stand 138 = .ok (.ifCond .le 11, 3) := by decide +kernel
theorem dX10_stand_141 : decode cX10_stand 141 = .ok (.aload_n 0, 1) := by decide +kernel
theorem dX10_stand_142 : decode cX10_stand 142 = .ok (.iload 7, 2) := by decide +kernel
theorem dX10_stand_144 : decode cX10_stand 144 = .ok (.lconst 0, 1) := by decide +kernel
theorem dX10_stand_145 : decode cX10_stand 145 = .ok (.invokevirtual 293, 3) := by decide +kernel
theorem dX10_stand_148 : decode cX10_stand 148 = .ok (.return_, 1) := by decide +kernel
theorem dX10_stand_149 : decode cX10_stand 149 = .ok (.aload_n 0, 1) := by decide +kernel
theorem dX10_stand_150 : decode cX10_stand 150 = .ok (.getfield 39, 3) := by decide +kernel
theorem dX10_stand_153 : decode cX10_stand 153 = .ok (.iconst 4, 1) := by decide +kernel
theorem dX10_stand_154 : decode cX10_stand 154 = .ok (.lload_n 1, 1) := by decide +kernel
theorem dX10_stand_155 : decode cX10_stand 155 = .ok (.l2i, 1) := by decide +kernel
theorem dX10_stand_156 : decode cX10_stand 156 = .ok (.imul, 1) := by decide +kernel
theorem dX10_stand_157 : decode cX10_stand 157 = .ok (.lload_n 3, 1) := by decide +kernel
theorem dX10_stand_158 : decode cX10_stand 158 = .ok (.l2i, 1) := by decide +kernel
theorem dX10_stand_159 : decode cX10_stand 159 = .ok (.iadd, 1) := by decide +kernel
theorem dX10_stand_160 : decode cX10_stand 160 = .ok (.lload 5, 2) := by decide +kernel
theorem dX10_stand_162 : decode cX10_stand 162 = .ok (.l2i, 1) := by decide +kernel
theorem dX10_stand_163 : decode cX10_stand 163 = .ok (.iastore, 1) := by decide +kernel
theorem dX10_stand_164 : decode cX10_stand 164 = .ok (.aload_n 0, 1) := by decide +kernel
theorem dX10_stand_165 : decode cX10_stand 165 = .ok (.invokevirtual 328, 3) := by decide +kernel
theorem dX10_stand_168 : decode cX10_stand 168 = .ok (.return_, 1) := by decide +kernel
theorem dX10_keep_0 : decode cX10_keep 0 = .ok (.iconst 0, 1) := by decide +kernel
theorem dX10_keep_1 : decode cX10_keep 1 = .ok (.istore_n 1, 1) := by decide +kernel
theorem dX10_keep_2 : decode cX10_keep 2 = .ok (.iload_n 1, 1) := by decide +kernel
theorem dX10_keep_3 : decode cX10_keep 3 = .ok (.bipush 12, 2) := by decide +kernel
theorem dX10_keep_5 : decode cX10_keep 5 = .ok (.if_icmp .ge 182, 3) := by decide +kernel
theorem dX10_keep_8 : decode cX10_keep 8 = .ok (.bipush 12, 2) := by decide +kernel
theorem dX10_keep_10 : decode cX10_keep 10 = .ok (.aload_n 0, 1) := by decide +kernel
theorem dX10_keep_11 : decode cX10_keep 11 = .ok (.getfield 360, 3) := by decide +kernel
theorem dX10_keep_14 : decode cX10_keep 14 = .ok (.imul, 1) := by decide +kernel
theorem dX10_keep_15 : decode cX10_keep 15 = .ok (.iload_n 1, 1) := by decide +kernel
theorem dX10_keep_16 : decode cX10_keep 16 = .ok (.iadd, 1) := by decide +kernel
theorem dX10_keep_17 : decode cX10_keep 17 = .ok (.istore_n 2, 1) := by decide +kernel
theorem dX10_keep_18 : decode cX10_keep 18 = .ok (.aload_n 0, 1) := by decide +kernel
theorem dX10_keep_19 : decode cX10_keep 19 = .ok (.getfield 107, 3) := by decide +kernel
theorem dX10_keep_22 : decode cX10_keep 22 = .ok (.iload_n 2, 1) := by decide +kernel
theorem dX10_keep_23 : decode cX10_keep 23 = .ok (.aload_n 0, 1) := by decide +kernel
theorem dX10_keep_24 : decode cX10_keep 24 = .ok (.getfield 7, 3) := by decide +kernel
theorem dX10_keep_27 : decode cX10_keep 27 = .ok (.iload_n 1, 1) := by decide +kernel
theorem dX10_keep_28 : decode cX10_keep 28 = .ok (.iaload, 1) := by decide +kernel
theorem dX10_keep_29 : decode cX10_keep 29 = .ok (.iastore, 1) := by decide +kernel
theorem dX10_keep_30 : decode cX10_keep 30 = .ok (.aload_n 0, 1) := by decide +kernel
theorem dX10_keep_31 : decode cX10_keep 31 = .ok (.getfield 110, 3) := by decide +kernel
theorem dX10_keep_34 : decode cX10_keep 34 = .ok (.iload_n 2, 1) := by decide +kernel
theorem dX10_keep_35 : decode cX10_keep 35 = .ok (.aload_n 0, 1) := by decide +kernel
theorem dX10_keep_36 : decode cX10_keep 36 = .ok (.getfield 13, 3) := by decide +kernel
theorem dX10_keep_39 : decode cX10_keep 39 = .ok (.iload_n 1, 1) := by decide +kernel
theorem dX10_keep_40 : decode cX10_keep 40 = .ok (.iaload, 1) := by decide +kernel
theorem dX10_keep_41 : decode cX10_keep 41 = .ok (.iastore, 1) := by decide +kernel
theorem dX10_keep_42 : decode cX10_keep 42 = .ok (.aload_n 0, 1) := by decide +kernel
theorem dX10_keep_43 : decode cX10_keep 43 = .ok (.getfield 113, 3) := by decide +kernel
theorem dX10_keep_46 : decode cX10_keep 46 = .ok (.iload_n 2, 1) := by decide +kernel
theorem dX10_keep_47 : decode cX10_keep 47 = .ok (.aload_n 0, 1) := by decide +kernel
theorem dX10_keep_48 : decode cX10_keep 48 = .ok (.getfield 16, 3) := by decide +kernel
theorem dX10_keep_51 : decode cX10_keep 51 = .ok (.iload_n 1, 1) := by decide +kernel
theorem dX10_keep_52 : decode cX10_keep 52 = .ok (.iaload, 1) := by decide +kernel
theorem dX10_keep_53 : decode cX10_keep 53 = .ok (.iastore, 1) := by decide +kernel
theorem dX10_keep_54 : decode cX10_keep 54 = .ok (.iconst 0, 1) := by decide +kernel
theorem dX10_keep_55 : decode cX10_keep 55 = .ok (.istore_n 3, 1) := by decide +kernel
theorem dX10_keep_56 : decode cX10_keep 56 = .ok (.iload_n 3, 1) := by decide +kernel
theorem dX10_keep_57 : decode cX10_keep 57 = .ok (.bipush 12, 2) := by decide +kernel
theorem dX10_keep_59 : decode cX10_keep 59 = .ok (.if_icmp .ge 53, 3) := by decide +kernel
theorem dX10_keep_62 : decode cX10_keep 62 = .ok (.aload_n 0, 1) := by decide +kernel
theorem dX10_keep_63 : decode cX10_keep 63 = .ok (.getfield 116, 3) := by decide +kernel
theorem dX10_keep_66 : decode cX10_keep 66 = .ok (.bipush 12, 2) := by decide +kernel
theorem dX10_keep_68 : decode cX10_keep 68 = .ok (.iload_n 2, 1) := by decide +kernel
theorem dX10_keep_69 : decode cX10_keep 69 = .ok (.imul, 1) := by decide +kernel
theorem dX10_keep_70 : decode cX10_keep 70 = .ok (.iload_n 3, 1) := by decide +kernel
theorem dX10_keep_71 : decode cX10_keep 71 = .ok (.iadd, 1) := by decide +kernel
theorem dX10_keep_72 : decode cX10_keep 72 = .ok (.aload_n 0, 1) := by decide +kernel
theorem dX10_keep_73 : decode cX10_keep 73 = .ok (.getfield 19, 3) := by decide +kernel
theorem dX10_keep_76 : decode cX10_keep 76 = .ok (.bipush 12, 2) := by decide +kernel
theorem dX10_keep_78 : decode cX10_keep 78 = .ok (.iload_n 1, 1) := by decide +kernel
theorem dX10_keep_79 : decode cX10_keep 79 = .ok (.imul, 1) := by decide +kernel
theorem dX10_keep_80 : decode cX10_keep 80 = .ok (.iload_n 3, 1) := by decide +kernel
theorem dX10_keep_81 : decode cX10_keep 81 = .ok (.iadd, 1) := by decide +kernel
theorem dX10_keep_82 : decode cX10_keep 82 = .ok (.laload, 1) := by decide +kernel
theorem dX10_keep_83 : decode cX10_keep 83 = .ok (.lastore, 1) := by decide +kernel
theorem dX10_keep_84 : decode cX10_keep 84 = .ok (.aload_n 0, 1) := by decide +kernel
theorem dX10_keep_85 : decode cX10_keep 85 = .ok (.getfield 119, 3) := by decide +kernel
theorem dX10_keep_88 : decode cX10_keep 88 = .ok (.bipush 12, 2) := by decide +kernel
theorem dX10_keep_90 : decode cX10_keep 90 = .ok (.iload_n 2, 1) := by decide +kernel
theorem dX10_keep_91 : decode cX10_keep 91 = .ok (.imul, 1) := by decide +kernel
theorem dX10_keep_92 : decode cX10_keep 92 = .ok (.iload_n 3, 1) := by decide +kernel
theorem dX10_keep_93 : decode cX10_keep 93 = .ok (.iadd, 1) := by decide +kernel
theorem dX10_keep_94 : decode cX10_keep 94 = .ok (.aload_n 0, 1) := by decide +kernel
theorem dX10_keep_95 : decode cX10_keep 95 = .ok (.getfield 23, 3) := by decide +kernel
theorem dX10_keep_98 : decode cX10_keep 98 = .ok (.bipush 12, 2) := by decide +kernel
theorem dX10_keep_100 : decode cX10_keep 100 = .ok (.iload_n 1, 1) := by decide +kernel
theorem dX10_keep_101 : decode cX10_keep 101 = .ok (.imul, 1) := by decide +kernel
theorem dX10_keep_102 : decode cX10_keep 102 = .ok (.iload_n 3, 1) := by decide +kernel
theorem dX10_keep_103 : decode cX10_keep 103 = .ok (.iadd, 1) := by decide +kernel
theorem dX10_keep_104 : decode cX10_keep 104 = .ok (.daload, 1) := by decide +kernel
theorem dX10_keep_105 : decode cX10_keep 105 = .ok (.dastore, 1) := by decide +kernel
theorem dX10_keep_106 : decode cX10_keep 106 = .ok (.iinc 3 1, 3) := by decide +kernel
theorem dX10_keep_109 : decode cX10_keep 109 = .ok (.goto (-53), 3) := by decide +kernel
theorem dX10_keep_112 : decode cX10_keep 112 = .ok (.aload_n 0, 1) := by decide +kernel
theorem dX10_keep_113 : decode cX10_keep 113 = .ok (.getfield 125, 3) := by decide +kernel
theorem dX10_keep_116 : decode cX10_keep 116 = .ok (.iload_n 2, 1) := by decide +kernel
theorem dX10_keep_117 : decode cX10_keep 117 = .ok (.aload_n 0, 1) := by decide +kernel
theorem dX10_keep_118 : decode cX10_keep 118 = .ok (.getfield 30, 3) := by decide +kernel
theorem dX10_keep_121 : decode cX10_keep 121 = .ok (.iload_n 1, 1) := by decide +kernel
theorem dX10_keep_122 : decode cX10_keep 122 = .ok (.iaload, 1) := by decide +kernel
theorem dX10_keep_123 : decode cX10_keep 123 = .ok (.iastore, 1) := by decide +kernel
theorem dX10_keep_124 : decode cX10_keep 124 = .ok (.aload_n 0, 1) := by decide +kernel
theorem dX10_keep_125 : decode cX10_keep 125 = .ok (.getfield 128, 3) := by decide +kernel
theorem dX10_keep_128 : decode cX10_keep 128 = .ok (.iload_n 2, 1) := by decide +kernel
theorem dX10_keep_129 : decode cX10_keep 129 = .ok (.aload_n 0, 1) := by decide +kernel
theorem dX10_keep_130 : decode cX10_keep 130 = .ok (.getfield 33, 3) := by decide +kernel
theorem dX10_keep_133 : decode cX10_keep 133 = .ok (.iload_n 1, 1) := by decide +kernel
theorem dX10_keep_134 : decode cX10_keep 134 = .ok (.iaload, 1) := by decide +kernel
theorem dX10_keep_135 : decode cX10_keep 135 = .ok (.iastore, 1) := by decide +kernel
theorem dX10_keep_136 : decode cX10_keep 136 = .ok (.aload_n 0, 1) := by decide +kernel
theorem dX10_keep_137 : decode cX10_keep 137 = .ok (.getfield 131, 3) := by decide +kernel
theorem dX10_keep_140 : decode cX10_keep 140 = .ok (.iload_n 2, 1) := by decide +kernel
theorem dX10_keep_141 : decode cX10_keep 141 = .ok (.aload_n 0, 1) := by decide +kernel
theorem dX10_keep_142 : decode cX10_keep 142 = .ok (.getfield 36, 3) := by decide +kernel
theorem dX10_keep_145 : decode cX10_keep 145 = .ok (.iload_n 1, 1) := by decide +kernel
theorem dX10_keep_146 : decode cX10_keep 146 = .ok (.iaload, 1) := by decide +kernel
theorem dX10_keep_147 : decode cX10_keep 147 = .ok (.iastore, 1) := by decide +kernel
theorem dX10_keep_148 : decode cX10_keep 148 = .ok (.iconst 0, 1) := by decide +kernel
theorem dX10_keep_149 : decode cX10_keep 149 = .ok (.istore_n 3, 1) := by decide +kernel
theorem dX10_keep_150 : decode cX10_keep 150 = .ok (.iload_n 3, 1) := by decide +kernel
theorem dX10_keep_151 : decode cX10_keep 151 = .ok (.iconst 4, 1) := by decide +kernel
theorem dX10_keep_152 : decode cX10_keep 152 = .ok (.if_icmp .ge 29, 3) := by decide +kernel
theorem dX10_keep_155 : decode cX10_keep 155 = .ok (.aload_n 0, 1) := by decide +kernel
theorem dX10_keep_156 : decode cX10_keep 156 = .ok (.getfield 134, 3) := by decide +kernel
theorem dX10_keep_159 : decode cX10_keep 159 = .ok (.iconst 4, 1) := by decide +kernel
theorem dX10_keep_160 : decode cX10_keep 160 = .ok (.iload_n 2, 1) := by decide +kernel
theorem dX10_keep_161 : decode cX10_keep 161 = .ok (.imul, 1) := by decide +kernel
theorem dX10_keep_162 : decode cX10_keep 162 = .ok (.iload_n 3, 1) := by decide +kernel
theorem dX10_keep_163 : decode cX10_keep 163 = .ok (.iadd, 1) := by decide +kernel
theorem dX10_keep_164 : decode cX10_keep 164 = .ok (.aload_n 0, 1) := by decide +kernel
theorem dX10_keep_165 : decode cX10_keep 165 = .ok (.getfield 39, 3) := by decide +kernel
theorem dX10_keep_168 : decode cX10_keep 168 = .ok (.iconst 4, 1) := by decide +kernel
theorem dX10_keep_169 : decode cX10_keep 169 = .ok (.iload_n 1, 1) := by decide +kernel
theorem dX10_keep_170 : decode cX10_keep 170 = .ok (.imul, 1) := by decide +kernel
theorem dX10_keep_171 : decode cX10_keep 171 = .ok (.iload_n 3, 1) := by decide +kernel
theorem dX10_keep_172 : decode cX10_keep 172 = .ok (.iadd, 1) := by decide +kernel
theorem dX10_keep_173 : decode cX10_keep 173 = .ok (.iaload, 1) := by decide +kernel
theorem dX10_keep_174 : decode cX10_keep 174 = .ok (.iastore, 1) := by decide +kernel
theorem dX10_keep_175 : decode cX10_keep 175 = .ok (.iinc 3 1, 3) := by decide +kernel
theorem dX10_keep_178 : decode cX10_keep 178 = .ok (.goto (-28), 3) := by decide +kernel
theorem dX10_keep_181 : decode cX10_keep 181 = .ok (.iinc 1 1, 3) := by decide +kernel
theorem dX10_keep_184 : decode cX10_keep 184 = .ok (.goto (-182), 3) := by decide +kernel
theorem dX10_keep_187 : decode cX10_keep 187 = .ok (.aload_n 0, 1) := by decide +kernel
theorem dX10_keep_188 : decode cX10_keep 188 = .ok (.getfield 122, 3) := by decide +kernel
theorem dX10_keep_191 : decode cX10_keep 191 = .ok (.aload_n 0, 1) := by decide +kernel
theorem dX10_keep_192 : decode cX10_keep 192 = .ok (.getfield 360, 3) := by decide +kernel
theorem dX10_keep_195 : decode cX10_keep 195 = .ok (.aload_n 0, 1) := by decide +kernel
theorem dX10_keep_196 : decode cX10_keep 196 = .ok (.getfield 182, 3) := by decide +kernel
theorem dX10_keep_199 : decode cX10_keep 199 = .ok (.iastore, 1) := by decide +kernel
theorem dX10_keep_200 : decode cX10_keep 200 = .ok (.aload_n 0, 1) := by decide +kernel
theorem dX10_keep_201 : decode cX10_keep 201 = .ok (.dup, 1) := by decide +kernel
theorem dX10_keep_202 : decode cX10_keep 202 = .ok (.getfield 360, 3) := by decide +kernel
theorem dX10_keep_205 : decode cX10_keep 205 = .ok (.iconst 1, 1) := by decide +kernel
theorem dX10_keep_206 : decode cX10_keep 206 = .ok (.iadd, 1) := by decide +kernel
theorem dX10_keep_207 : decode cX10_keep 207 = .ok (.putfield 360, 3) := by decide +kernel
theorem dX10_keep_210 : decode cX10_keep 210 = .ok (.return_, 1) := by decide +kernel
theorem dX10_bringBack_0 : decode cX10_bringBack 0 = .ok (.aload_n 0, 1) := by decide +kernel
theorem dX10_bringBack_1 : decode cX10_bringBack 1 = .ok (.dup, 1) := by decide +kernel
theorem dX10_bringBack_2 : decode cX10_bringBack 2 = .ok (.getfield 360, 3) := by decide +kernel
theorem dX10_bringBack_5 : decode cX10_bringBack 5 = .ok (.iconst 1, 1) := by decide +kernel
theorem dX10_bringBack_6 : decode cX10_bringBack 6 = .ok (.isub, 1) := by decide +kernel
theorem dX10_bringBack_7 : decode cX10_bringBack 7 = .ok (.putfield 360, 3) := by decide +kernel
theorem dX10_bringBack_10 : decode cX10_bringBack 10 = .ok (.iconst 0, 1) := by decide +kernel
theorem dX10_bringBack_11 : decode cX10_bringBack 11 = .ok (.istore_n 1, 1) := by decide +kernel
theorem dX10_bringBack_12 : decode cX10_bringBack 12 = .ok (.iload_n 1, 1) := by decide +kernel
theorem dX10_bringBack_13 : decode cX10_bringBack 13 = .ok (.bipush 12, 2) := by decide +kernel
theorem dX10_bringBack_15 : decode cX10_bringBack 15 = .ok (.if_icmp .ge 195, 3) := by decide +kernel
theorem dX10_bringBack_18 : decode cX10_bringBack 18 = .ok (.bipush 12, 2) := by decide +kernel
theorem dX10_bringBack_20 : decode cX10_bringBack 20 = .ok (.aload_n 0, 1) := by decide +kernel
theorem dX10_bringBack_21 : decode cX10_bringBack 21 = .ok (.getfield 360, 3) := by decide +kernel
theorem dX10_bringBack_24 : decode cX10_bringBack 24 = .ok (.imul, 1) := by decide +kernel
theorem dX10_bringBack_25 : decode cX10_bringBack 25 = .ok (.iload_n 1, 1) := by decide +kernel
theorem dX10_bringBack_26 : decode cX10_bringBack 26 = .ok (.iadd, 1) := by decide +kernel
theorem dX10_bringBack_27 : decode cX10_bringBack 27 = .ok (.istore_n 2, 1) := by decide +kernel
theorem dX10_bringBack_28 : decode cX10_bringBack 28 = .ok (.aload_n 0, 1) := by decide +kernel
theorem dX10_bringBack_29 : decode cX10_bringBack 29 = .ok (.getfield 7, 3) := by decide +kernel
theorem dX10_bringBack_32 : decode cX10_bringBack 32 = .ok (.iload_n 1, 1) := by decide +kernel
theorem dX10_bringBack_33 : decode cX10_bringBack 33 = .ok (.aload_n 0, 1) := by decide +kernel
theorem dX10_bringBack_34 : decode cX10_bringBack 34 = .ok (.getfield 107, 3) := by decide +kernel
theorem dX10_bringBack_37 : decode cX10_bringBack 37 = .ok (.iload_n 2, 1) := by decide +kernel
theorem dX10_bringBack_38 : decode cX10_bringBack 38 = .ok (.iaload, 1) := by decide +kernel
theorem dX10_bringBack_39 : decode cX10_bringBack 39 = .ok (.iastore, 1) := by decide +kernel
theorem dX10_bringBack_40 : decode cX10_bringBack 40 = .ok (.aload_n 0, 1) := by decide +kernel
theorem dX10_bringBack_41 : decode cX10_bringBack 41 = .ok (.getfield 13, 3) := by decide +kernel
theorem dX10_bringBack_44 : decode cX10_bringBack 44 = .ok (.iload_n 1, 1) := by decide +kernel
theorem dX10_bringBack_45 : decode cX10_bringBack 45 = .ok (.aload_n 0, 1) := by decide +kernel
theorem dX10_bringBack_46 : decode cX10_bringBack 46 = .ok (.getfield 110, 3) := by decide +kernel
theorem dX10_bringBack_49 : decode cX10_bringBack 49 = .ok (.iload_n 2, 1) := by decide +kernel
theorem dX10_bringBack_50 : decode cX10_bringBack 50 = .ok (.iaload, 1) := by decide +kernel
theorem dX10_bringBack_51 : decode cX10_bringBack 51 = .ok (.iastore, 1) := by decide +kernel
theorem dX10_bringBack_52 : decode cX10_bringBack 52 = .ok (.aload_n 0, 1) := by decide +kernel
theorem dX10_bringBack_53 : decode cX10_bringBack 53 = .ok (.getfield 16, 3) := by decide +kernel
theorem dX10_bringBack_56 : decode cX10_bringBack 56 = .ok (.iload_n 1, 1) := by decide +kernel
theorem dX10_bringBack_57 : decode cX10_bringBack 57 = .ok (.aload_n 0, 1) := by decide +kernel
theorem dX10_bringBack_58 : decode cX10_bringBack 58 = .ok (.getfield 113, 3) := by decide +kernel
theorem dX10_bringBack_61 : decode cX10_bringBack 61 = .ok (.iload_n 2, 1) := by decide +kernel
theorem dX10_bringBack_62 : decode cX10_bringBack 62 = .ok (.iaload, 1) := by decide +kernel
theorem dX10_bringBack_63 : decode cX10_bringBack 63 = .ok (.iastore, 1) := by decide +kernel
theorem dX10_bringBack_64 : decode cX10_bringBack 64 = .ok (.iconst 0, 1) := by decide +kernel
theorem dX10_bringBack_65 : decode cX10_bringBack 65 = .ok (.istore_n 3, 1) := by decide +kernel
theorem dX10_bringBack_66 : decode cX10_bringBack 66 = .ok (.iload_n 3, 1) := by decide +kernel
theorem dX10_bringBack_67 : decode cX10_bringBack 67 = .ok (.bipush 12, 2) := by decide +kernel
theorem dX10_bringBack_69 : decode cX10_bringBack 69 = .ok (.if_icmp .ge 53, 3) := by decide +kernel
theorem dX10_bringBack_72 : decode cX10_bringBack 72 = .ok (.aload_n 0, 1) := by decide +kernel
theorem dX10_bringBack_73 : decode cX10_bringBack 73 = .ok (.getfield 19, 3) := by decide +kernel
theorem dX10_bringBack_76 : decode cX10_bringBack 76 = .ok (.bipush 12, 2) := by decide +kernel
theorem dX10_bringBack_78 : decode cX10_bringBack 78 = .ok (.iload_n 1, 1) := by decide +kernel
theorem dX10_bringBack_79 : decode cX10_bringBack 79 = .ok (.imul, 1) := by decide +kernel
theorem dX10_bringBack_80 : decode cX10_bringBack 80 = .ok (.iload_n 3, 1) := by decide +kernel
theorem dX10_bringBack_81 : decode cX10_bringBack 81 = .ok (.iadd, 1) := by decide +kernel
theorem dX10_bringBack_82 : decode cX10_bringBack 82 = .ok (.aload_n 0, 1) := by decide +kernel
theorem dX10_bringBack_83 : decode cX10_bringBack 83 = .ok (.getfield 116, 3) := by decide +kernel
theorem dX10_bringBack_86 : decode cX10_bringBack 86 = .ok (.bipush 12, 2) := by decide +kernel
theorem dX10_bringBack_88 : decode cX10_bringBack 88 = .ok (.iload_n 2, 1) := by decide +kernel
theorem dX10_bringBack_89 : decode cX10_bringBack 89 = .ok (.imul, 1) := by decide +kernel
theorem dX10_bringBack_90 : decode cX10_bringBack 90 = .ok (.iload_n 3, 1) := by decide +kernel
theorem dX10_bringBack_91 : decode cX10_bringBack 91 = .ok (.iadd, 1) := by decide +kernel
theorem dX10_bringBack_92 : decode cX10_bringBack 92 = .ok (.laload, 1) := by decide +kernel
theorem dX10_bringBack_93 : decode cX10_bringBack 93 = .ok (.lastore, 1) := by decide +kernel
theorem dX10_bringBack_94 : decode cX10_bringBack 94 = .ok (.aload_n 0, 1) := by decide +kernel
theorem dX10_bringBack_95 : decode cX10_bringBack 95 = .ok (.getfield 23, 3) := by decide +kernel
theorem dX10_bringBack_98 : decode cX10_bringBack 98 = .ok (.bipush 12, 2) := by decide +kernel
theorem dX10_bringBack_100 : decode cX10_bringBack 100 = .ok (.iload_n 1, 1) := by decide +kernel
theorem dX10_bringBack_101 : decode cX10_bringBack 101 = .ok (.imul, 1) := by decide +kernel
theorem dX10_bringBack_102 : decode cX10_bringBack 102 = .ok (.iload_n 3, 1) := by decide +kernel
theorem dX10_bringBack_103 : decode cX10_bringBack 103 = .ok (.iadd, 1) := by decide +kernel
theorem dX10_bringBack_104 : decode cX10_bringBack 104 = .ok (.aload_n 0, 1) := by decide +kernel
theorem dX10_bringBack_105 : decode cX10_bringBack 105 = .ok (.getfield 119, 3) := by decide +kernel
theorem dX10_bringBack_108 : decode cX10_bringBack 108 = .ok (.bipush 12, 2) := by decide +kernel
theorem dX10_bringBack_110 : decode cX10_bringBack 110 = .ok (.iload_n 2, 1) := by decide +kernel
theorem dX10_bringBack_111 : decode cX10_bringBack 111 = .ok (.imul, 1) := by decide +kernel
theorem dX10_bringBack_112 : decode cX10_bringBack 112 = .ok (.iload_n 3, 1) := by decide +kernel
theorem dX10_bringBack_113 : decode cX10_bringBack 113 = .ok (.iadd, 1) := by decide +kernel
theorem dX10_bringBack_114 : decode cX10_bringBack 114 = .ok (.daload, 1) := by decide +kernel
theorem dX10_bringBack_115 : decode cX10_bringBack 115 = .ok (.dastore, 1) := by decide +kernel
theorem dX10_bringBack_116 : decode cX10_bringBack 116 = .ok (.iinc 3 1, 3) := by decide +kernel
theorem dX10_bringBack_119 : decode cX10_bringBack 119 = .ok (.goto (-53), 3) := by decide +kernel
theorem dX10_bringBack_122 : decode cX10_bringBack 122 = .ok (.iload_n 1, 1) := by decide +kernel
theorem dX10_bringBack_123 : decode cX10_bringBack 123 = .ok (.aload_n 0, 1) := by decide +kernel
theorem dX10_bringBack_124 : decode cX10_bringBack 124 = .ok (.getfield 122, 3) := by decide +kernel
theorem dX10_bringBack_127 : decode cX10_bringBack 127 = .ok (.aload_n 0, 1) := by decide +kernel
theorem dX10_bringBack_128 : decode cX10_bringBack 128 = .ok (.getfield 360, 3) := by decide +kernel
theorem dX10_bringBack_131 : decode cX10_bringBack 131 = .ok (.iaload, 1) := by decide +kernel
theorem dX10_bringBack_132 : decode cX10_bringBack 132 = .ok (.if_icmp .ge 72, 3) := by decide +kernel
theorem dX10_bringBack_135 : decode cX10_bringBack 135 = .ok (.aload_n 0, 1) := by decide +kernel
theorem dX10_bringBack_136 : decode cX10_bringBack 136 = .ok (.getfield 30, 3) := by decide +kernel
theorem dX10_bringBack_139 : decode cX10_bringBack 139 = .ok (.iload_n 1, 1) := by decide +kernel
theorem dX10_bringBack_140 : decode cX10_bringBack 140 = .ok (.aload_n 0, 1) := by decide +kernel
theorem dX10_bringBack_141 : decode cX10_bringBack 141 = .ok (.getfield 125, 3) := by decide +kernel
theorem dX10_bringBack_144 : decode cX10_bringBack 144 = .ok (.iload_n 2, 1) := by decide +kernel
theorem dX10_bringBack_145 : decode cX10_bringBack 145 = .ok (.iaload, 1) := by decide +kernel
theorem dX10_bringBack_146 : decode cX10_bringBack 146 = .ok (.iastore, 1) := by decide +kernel
theorem dX10_bringBack_147 : decode cX10_bringBack 147 = .ok (.aload_n 0, 1) := by decide +kernel
theorem dX10_bringBack_148 : decode cX10_bringBack 148 = .ok (.getfield 33, 3) := by decide +kernel
theorem dX10_bringBack_151 : decode cX10_bringBack 151 = .ok (.iload_n 1, 1) := by decide +kernel
theorem dX10_bringBack_152 : decode cX10_bringBack 152 = .ok (.aload_n 0, 1) := by decide +kernel
theorem dX10_bringBack_153 : decode cX10_bringBack 153 = .ok (.getfield 128, 3) := by decide +kernel
theorem dX10_bringBack_156 : decode cX10_bringBack 156 = .ok (.iload_n 2, 1) := by decide +kernel
theorem dX10_bringBack_157 : decode cX10_bringBack 157 = .ok (.iaload, 1) := by decide +kernel
theorem dX10_bringBack_158 : decode cX10_bringBack 158 = .ok (.iastore, 1) := by decide +kernel
theorem dX10_bringBack_159 : decode cX10_bringBack 159 = .ok (.aload_n 0, 1) := by decide +kernel
theorem dX10_bringBack_160 : decode cX10_bringBack 160 = .ok (.getfield 36, 3) := by decide +kernel
theorem dX10_bringBack_163 : decode cX10_bringBack 163 = .ok (.iload_n 1, 1) := by decide +kernel
theorem dX10_bringBack_164 : decode cX10_bringBack 164 = .ok (.aload_n 0, 1) := by decide +kernel
theorem dX10_bringBack_165 : decode cX10_bringBack 165 = .ok (.getfield 131, 3) := by decide +kernel
theorem dX10_bringBack_168 : decode cX10_bringBack 168 = .ok (.iload_n 2, 1) := by decide +kernel
theorem dX10_bringBack_169 : decode cX10_bringBack 169 = .ok (.iaload, 1) := by decide +kernel
theorem dX10_bringBack_170 : decode cX10_bringBack 170 = .ok (.iastore, 1) := by decide +kernel
theorem dX10_bringBack_171 : decode cX10_bringBack 171 = .ok (.iconst 0, 1) := by decide +kernel
theorem dX10_bringBack_172 : decode cX10_bringBack 172 = .ok (.istore_n 3, 1) := by decide +kernel
theorem dX10_bringBack_173 : decode cX10_bringBack 173 = .ok (.iload_n 3, 1) := by decide +kernel
theorem dX10_bringBack_174 : decode cX10_bringBack 174 = .ok (.iconst 4, 1) := by decide +kernel
theorem dX10_bringBack_175 : decode cX10_bringBack 175 = .ok (.if_icmp .ge 29, 3) := by decide +kernel
theorem dX10_bringBack_178 : decode cX10_bringBack 178 = .ok (.aload_n 0, 1) := by decide +kernel
theorem dX10_bringBack_179 : decode cX10_bringBack 179 = .ok (.getfield 39, 3) := by decide +kernel
theorem dX10_bringBack_182 : decode cX10_bringBack 182 = .ok (.iconst 4, 1) := by decide +kernel
theorem dX10_bringBack_183 : decode cX10_bringBack 183 = .ok (.iload_n 1, 1) := by decide +kernel
theorem dX10_bringBack_184 : decode cX10_bringBack 184 = .ok (.imul, 1) := by decide +kernel
theorem dX10_bringBack_185 : decode cX10_bringBack 185 = .ok (.iload_n 3, 1) := by decide +kernel
theorem dX10_bringBack_186 : decode cX10_bringBack 186 = .ok (.iadd, 1) := by decide +kernel
theorem dX10_bringBack_187 : decode cX10_bringBack 187 = .ok (.aload_n 0, 1) := by decide +kernel
theorem dX10_bringBack_188 : decode cX10_bringBack 188 = .ok (.getfield 134, 3) := by decide +kernel
theorem dX10_bringBack_191 : decode cX10_bringBack 191 = .ok (.iconst 4, 1) := by decide +kernel
theorem dX10_bringBack_192 : decode cX10_bringBack 192 = .ok (.iload_n 2, 1) := by decide +kernel
theorem dX10_bringBack_193 : decode cX10_bringBack 193 = .ok (.imul, 1) := by decide +kernel
theorem dX10_bringBack_194 : decode cX10_bringBack 194 = .ok (.iload_n 3, 1) := by decide +kernel
theorem dX10_bringBack_195 : decode cX10_bringBack 195 = .ok (.iadd, 1) := by decide +kernel
theorem dX10_bringBack_196 : decode cX10_bringBack 196 = .ok (.iaload, 1) := by decide +kernel
theorem dX10_bringBack_197 : decode cX10_bringBack 197 = .ok (.iastore, 1) := by decide +kernel
theorem dX10_bringBack_198 : decode cX10_bringBack 198 = .ok (.iinc 3 1, 3) := by decide +kernel
theorem dX10_bringBack_201 : decode cX10_bringBack 201 = .ok (.goto (-28), 3) := by decide +kernel
theorem dX10_bringBack_204 : decode cX10_bringBack 204 = .ok (.iinc 1 1, 3) := by decide +kernel
theorem dX10_bringBack_207 : decode cX10_bringBack 207 = .ok (.goto (-195), 3) := by decide +kernel
theorem dX10_bringBack_210 : decode cX10_bringBack 210 = .ok (.return_, 1) := by decide +kernel
theorem dX10_run_0 : decode cX10_run 0 = .ok (.aload_n 0, 1) := by decide +kernel
theorem dX10_run_1 : decode cX10_run 1 = .ok (.iload_n 1, 1) := by decide +kernel
theorem dX10_run_2 : decode cX10_run 2 = .ok (.invokevirtual 230, 3) := by decide +kernel
theorem dX10_run_5 : decode cX10_run 5 = .ok (.ifCond .eq 12, 3) := by decide +kernel
theorem dX10_run_8 : decode cX10_run 8 = .ok (.aload_n 0, 1) := by decide +kernel
theorem dX10_run_9 : decode cX10_run 9 = .ok (.getfield 45, 3) := by decide +kernel
theorem dX10_run_12 : decode cX10_run 12 = .ok (.iload_n 1, 1) := by decide +kernel
theorem dX10_run_13 : decode cX10_run 13 = .ok (.iaload, 1) := by decide +kernel
theorem dX10_run_14 : decode cX10_run 14 = .ok (.ifCond .ne 6, 3) := by decide +kernel
theorem dX10_run_17 : decode cX10_run 17 = .ok (.ldc 163, 2) := by decide +kernel
theorem dX10_run_19 : decode cX10_run 19 = .ok (.ireturn, 1) := by decide +kernel
theorem dX10_run_20 : decode cX10_run 20 = .ok (.aload_n 0, 1) := by decide +kernel
theorem dX10_run_21 : decode cX10_run 21 = .ok (.iconst 0, 1) := by decide +kernel
theorem dX10_run_22 : decode cX10_run 22 = .ok (.putfield 357, 3) := by decide +kernel
theorem dX10_run_25 : decode cX10_run 25 = .ok (.aload_n 0, 1) := by decide +kernel
theorem dX10_run_26 : decode cX10_run 26 = .ok (.lconst 0, 1) := by decide +kernel
theorem dX10_run_27 : decode cX10_run 27 = .ok (.putfield 301, 3) := by decide +kernel
theorem dX10_run_30 : decode cX10_run 30 = .ok (.aload_n 0, 1) := by decide +kernel
theorem dX10_run_31 : decode cX10_run 31 = .ok (.iconst 0, 1) := by decide +kernel
theorem dX10_run_32 : decode cX10_run 32 = .ok (.putfield 281, 3) := by decide +kernel
theorem dX10_run_35 : decode cX10_run 35 = .ok (.aload_n 0, 1) := by decide +kernel
theorem dX10_run_36 : decode cX10_run 36 = .ok (.lconst 0, 1) := by decide +kernel
theorem dX10_run_37 : decode cX10_run 37 = .ok (.putfield 284, 3) := by decide +kernel
theorem dX10_run_40 : decode cX10_run 40 = .ok (.aload_n 0, 1) := by decide +kernel
theorem dX10_run_41 : decode cX10_run 41 = .ok (.iconst (-1), 1) := by decide +kernel
theorem dX10_run_42 : decode cX10_run 42 = .ok (.putfield 100, 3) := by decide +kernel
theorem dX10_run_45 : decode cX10_run 45 = .ok (.aload_n 0, 1) := by decide +kernel
theorem dX10_run_46 : decode cX10_run 46 = .ok (.iconst (-1), 1) := by decide +kernel
theorem dX10_run_47 : decode cX10_run 47 = .ok (.putfield 104, 3) := by decide +kernel
theorem dX10_run_50 : decode cX10_run 50 = .ok (.aload_n 0, 1) := by decide +kernel
theorem dX10_run_51 : decode cX10_run 51 = .ok (.iconst 0, 1) := by decide +kernel
theorem dX10_run_52 : decode cX10_run 52 = .ok (.putfield 372, 3) := by decide +kernel
theorem dX10_run_55 : decode cX10_run 55 = .ok (.aload_n 0, 1) := by decide +kernel
theorem dX10_run_56 : decode cX10_run 56 = .ok (.iconst 0, 1) := by decide +kernel
theorem dX10_run_57 : decode cX10_run 57 = .ok (.putfield 287, 3) := by decide +kernel
theorem dX10_run_60 : decode cX10_run 60 = .ok (.aload_n 0, 1) := by decide +kernel
theorem dX10_run_61 : decode cX10_run 61 = .ok (.iconst 0, 1) := by decide +kernel
theorem dX10_run_62 : decode cX10_run 62 = .ok (.putfield 255, 3) := by decide +kernel
theorem dX10_run_65 : decode cX10_run 65 = .ok (.aload_n 0, 1) := by decide +kernel
theorem dX10_run_66 : decode cX10_run 66 = .ok (.iconst 0, 1) := by decide +kernel
theorem dX10_run_67 : decode cX10_run 67 = .ok (.putfield 249, 3) := by decide +kernel
theorem dX10_run_70 : decode cX10_run 70 = .ok (.aload_n 0, 1) := by decide +kernel
theorem dX10_run_71 : decode cX10_run 71 = .ok (.iconst 0, 1) := by decide +kernel
theorem dX10_run_72 : decode cX10_run 72 = .ok (.putfield 242, 3) := by decide +kernel
theorem dX10_run_75 : decode cX10_run 75 = .ok (.aload_n 0, 1) := by decide +kernel
theorem dX10_run_76 : decode cX10_run 76 = .ok (.iconst 0, 1) := by decide +kernel
theorem dX10_run_77 : decode cX10_run 77 = .ok (.putfield 363, 3) := by decide +kernel
theorem dX10_run_80 : decode cX10_run 80 = .ok (.aload_n 0, 1) := by decide +kernel
theorem dX10_run_81 : decode cX10_run 81 = .ok (.iconst 0, 1) := by decide +kernel
theorem dX10_run_82 : decode cX10_run 82 = .ok (.putfield 239, 3) := by decide +kernel
theorem dX10_run_85 : decode cX10_run 85 = .ok (.aload_n 0, 1) := by decide +kernel
theorem dX10_run_86 : decode cX10_run 86 = .ok (.iconst 0, 1) := by decide +kernel
theorem dX10_run_87 : decode cX10_run 87 = .ok (.putfield 278, 3) := by decide +kernel
theorem dX10_run_90 : decode cX10_run 90 = .ok (.aload_n 0, 1) := by decide +kernel
theorem dX10_run_91 : decode cX10_run 91 = .ok (.iload_n 1, 1) := by decide +kernel
theorem dX10_run_92 : decode cX10_run 92 = .ok (.invokevirtual 341, 3) := by decide +kernel
theorem dX10_run_95 : decode cX10_run 95 = .ok (.aload_n 0, 1) := by decide +kernel
theorem dX10_run_96 : decode cX10_run 96 = .ok (.getfield 72, 3) := by decide +kernel
theorem dX10_run_99 : decode cX10_run 99 = .ok (.iconst 0, 1) := by decide +kernel
theorem dX10_run_100 : decode cX10_run 100 = .ok (.lload_n 2, 1) := by decide +kernel
theorem dX10_run_101 : decode cX10_run 101 = .ok (.lastore, 1) := by decide +kernel
theorem dX10_run_102 : decode cX10_run 102 = .ok (.aload_n 0, 1) := by decide +kernel
theorem dX10_run_103 : decode cX10_run 103 = .ok (.getfield 72, 3) := by decide +kernel
theorem dX10_run_106 : decode cX10_run 106 = .ok (.iconst 1, 1) := by decide +kernel
theorem dX10_run_107 : decode cX10_run 107 = .ok (.aload_n 0, 1) := by decide +kernel
theorem dX10_run_108 : decode cX10_run 108 = .ok (.getfield 42, 3) := by decide +kernel
theorem dX10_run_111 : decode cX10_run 111 = .ok (.iload_n 1, 1) := by decide +kernel
theorem dX10_run_112 : decode cX10_run 112 = .ok (.iaload, 1) := by decide +kernel
theorem dX10_run_113 : decode cX10_run 113 = .ok (.iconst 1, 1) := by decide +kernel
theorem dX10_run_114 : decode cX10_run 114 = .ok (.if_icmp .le 8, 3) := by decide +kernel
theorem dX10_run_117 : decode cX10_run 117 = .ok (.lload 4, 2) := by decide +kernel
theorem dX10_run_119 : decode cX10_run 119 = .ok (.goto 4, 3) := by decide +kernel
theorem dX10_run_122 : decode cX10_run 122 = .ok (.lconst 0, 1) := by decide +kernel
theorem dX10_run_123 : decode cX10_run 123 = .ok (.lastore, 1) := by decide +kernel
theorem dX10_run_124 : decode cX10_run 124 = .ok (.aload_n 0, 1) := by decide +kernel
theorem dX10_run_125 : decode cX10_run 125 = .ok (.getfield 278, 3) := by decide +kernel
theorem dX10_run_128 : decode cX10_run 128 = .ok (.ifCond .ne 38, 3) := by decide +kernel
theorem dX10_run_131 : decode cX10_run 131 = .ok (.aload_n 0, 1) := by decide +kernel
theorem dX10_run_132 : decode cX10_run 132 = .ok (.getfield 372, 3) := by decide +kernel
theorem dX10_run_135 : decode cX10_run 135 = .ok (.sipush 300, 3) := by decide +kernel
theorem dX10_run_138 : decode cX10_run 138 = .ok (.if_icmp .ne 11, 3) := by decide +kernel
theorem dX10_run_141 : decode cX10_run 141 = .ok (.aload_n 0, 1) := by decide +kernel
theorem dX10_run_142 : decode cX10_run 142 = .ok (.iconst 3, 1) := by decide +kernel
theorem dX10_run_143 : decode cX10_run 143 = .ok (.putfield 278, 3) := by decide +kernel
theorem dX10_run_146 : decode cX10_run 146 = .ok (.goto (-22), 3) := by decide +kernel
theorem dX10_run_149 : decode cX10_run 149 = .ok (.aload_n 0, 1) := by decide +kernel
theorem dX10_run_150 : decode cX10_run 150 = .ok (.dup, 1) := by decide +kernel
theorem dX10_run_151 : decode cX10_run 151 = .ok (.getfield 372, 3) := by decide +kernel
theorem dX10_run_154 : decode cX10_run 154 = .ok (.iconst 1, 1) := by decide +kernel
theorem dX10_run_155 : decode cX10_run 155 = .ok (.iadd, 1) := by decide +kernel
theorem dX10_run_156 : decode cX10_run 156 = .ok (.putfield 372, 3) := by decide +kernel
theorem dX10_run_159 : decode cX10_run 159 = .ok (.aload_n 0, 1) := by decide +kernel
theorem dX10_run_160 : decode cX10_run 160 = .ok (.invokevirtual 375, 3) := by decide +kernel
theorem dX10_run_163 : decode cX10_run 163 = .ok (.goto (-39), 3) := by decide +kernel
theorem dX10_run_166 : decode cX10_run 166 = .ok (.aload_n 0, 1) := by decide +kernel
theorem dX10_run_167 : decode cX10_run 167 = .ok (.getfield 278, 3) := by decide +kernel
theorem dX10_run_170 : decode cX10_run 170 = .ok (.iconst 1, 1) := by decide +kernel
theorem dX10_run_171 : decode cX10_run 171 = .ok (.isub, 1) := by decide +kernel
theorem dX10_run_172 : decode cX10_run 172 = .ok (.ireturn, 1) := by decide +kernel
theorem dX10_result_0 : decode cX10_result 0 = .ok (.aload_n 0, 1) := by decide +kernel
theorem dX10_result_1 : decode cX10_result 1 = .ok (.getfield 301, 3) := by decide +kernel
theorem dX10_result_4 : decode cX10_result 4 = .ok (.lreturn, 1) := by decide +kernel
theorem dX10_told_0 : decode cX10_told 0 = .ok (.iload_n 1, 1) := by decide +kernel
theorem dX10_told_1 : decode cX10_told 1 = .ok (.tableswitch 87 0 7 #[47, 52, 57, 62, 67, 72, 77, 82], 47) := by decide +kernel
theorem dX10_told_48 : decode cX10_told 48 = .ok (.aload_n 0, 1) := by decide +kernel
theorem dX10_told_49 : decode cX10_told 49 = .ok (.getfield 281, 3) := by decide +kernel
theorem dX10_told_52 : decode cX10_told 52 = .ok (.ireturn, 1) := by decide +kernel
theorem dX10_told_53 : decode cX10_told 53 = .ok (.aload_n 0, 1) := by decide +kernel
theorem dX10_told_54 : decode cX10_told 54 = .ok (.getfield 100, 3) := by decide +kernel
theorem dX10_told_57 : decode cX10_told 57 = .ok (.ireturn, 1) := by decide +kernel
theorem dX10_told_58 : decode cX10_told 58 = .ok (.aload_n 0, 1) := by decide +kernel
theorem dX10_told_59 : decode cX10_told 59 = .ok (.getfield 104, 3) := by decide +kernel
theorem dX10_told_62 : decode cX10_told 62 = .ok (.ireturn, 1) := by decide +kernel
theorem dX10_told_63 : decode cX10_told 63 = .ok (.aload_n 0, 1) := by decide +kernel
theorem dX10_told_64 : decode cX10_told 64 = .ok (.getfield 372, 3) := by decide +kernel
theorem dX10_told_67 : decode cX10_told 67 = .ok (.ireturn, 1) := by decide +kernel
theorem dX10_told_68 : decode cX10_told 68 = .ok (.aload_n 0, 1) := by decide +kernel
theorem dX10_told_69 : decode cX10_told 69 = .ok (.getfield 287, 3) := by decide +kernel
theorem dX10_told_72 : decode cX10_told 72 = .ok (.ireturn, 1) := by decide +kernel
theorem dX10_told_73 : decode cX10_told 73 = .ok (.aload_n 0, 1) := by decide +kernel
theorem dX10_told_74 : decode cX10_told 74 = .ok (.getfield 255, 3) := by decide +kernel
theorem dX10_told_77 : decode cX10_told 77 = .ok (.ireturn, 1) := by decide +kernel
theorem dX10_told_78 : decode cX10_told 78 = .ok (.aload_n 0, 1) := by decide +kernel
theorem dX10_told_79 : decode cX10_told 79 = .ok (.getfield 249, 3) := by decide +kernel
theorem dX10_told_82 : decode cX10_told 82 = .ok (.ireturn, 1) := by decide +kernel
theorem dX10_told_83 : decode cX10_told 83 = .ok (.aload_n 0, 1) := by decide +kernel
theorem dX10_told_84 : decode cX10_told 84 = .ok (.getfield 242, 3) := by decide +kernel
theorem dX10_told_87 : decode cX10_told 87 = .ok (.ireturn, 1) := by decide +kernel
theorem dX10_told_88 : decode cX10_told 88 = .ok (.ldc 163, 2) := by decide +kernel
theorem dX10_told_90 : decode cX10_told 90 = .ok (.ireturn, 1) := by decide +kernel
theorem dX10_number_0 : decode cX10_number 0 = .ok (.aload_n 0, 1) := by decide +kernel
theorem dX10_number_1 : decode cX10_number 1 = .ok (.getfield 284, 3) := by decide +kernel
theorem dX10_number_4 : decode cX10_number 4 = .ok (.lreturn, 1) := by decide +kernel
theorem dX10_output_0 : decode cX10_output 0 = .ok (.iload_n 1, 1) := by decide +kernel
theorem dX10_output_1 : decode cX10_output 1 = .ok (.i2l, 1) := by decide +kernel
theorem dX10_output_2 : decode cX10_output 2 = .ok (.lconst 0, 1) := by decide +kernel
theorem dX10_output_3 : decode cX10_output 3 = .ok (.aload_n 0, 1) := by decide +kernel
theorem dX10_output_4 : decode cX10_output 4 = .ok (.getfield 357, 3) := by decide +kernel
theorem dX10_output_7 : decode cX10_output 7 = .ok (.iconst 1, 1) := by decide +kernel
theorem dX10_output_8 : decode cX10_output 8 = .ok (.isub, 1) := by decide +kernel
theorem dX10_output_9 : decode cX10_output 9 = .ok (.i2l, 1) := by decide +kernel
theorem dX10_output_10 : decode cX10_output 10 = .ok (.invokestatic 139, 3) := by decide +kernel
theorem dX10_output_13 : decode cX10_output 13 = .ok (.ifCond .eq 12, 3) := by decide +kernel
theorem dX10_output_16 : decode cX10_output 16 = .ok (.aload_n 0, 1) := by decide +kernel
theorem dX10_output_17 : decode cX10_output 17 = .ok (.getfield 97, 3) := by decide +kernel
theorem dX10_output_20 : decode cX10_output 20 = .ok (.iload_n 1, 1) := by decide +kernel
theorem dX10_output_21 : decode cX10_output 21 = .ok (.laload, 1) := by decide +kernel
theorem dX10_output_22 : decode cX10_output 22 = .ok (.goto 4, 3) := by decide +kernel
theorem dX10_output_25 : decode cX10_output 25 = .ok (.lconst 0, 1) := by decide +kernel
theorem dX10_output_26 : decode cX10_output 26 = .ok (.lreturn, 1) := by decide +kernel
theorem dX10_count_0 : decode cX10_count 0 = .ok (.iload_n 1, 1) := by decide +kernel
theorem dX10_count_1 : decode cX10_count 1 = .ok (.tableswitch 123 0 6 #[43, 48, 53, 58, 63, 83, 103], 43) := by decide +kernel
theorem dX10_count_44 : decode cX10_count 44 = .ok (.aload_n 0, 1) := by decide +kernel
theorem dX10_count_45 : decode cX10_count 45 = .ok (.getfield 182, 3) := by decide +kernel
theorem dX10_count_48 : decode cX10_count 48 = .ok (.ireturn, 1) := by decide +kernel
theorem dX10_count_49 : decode cX10_count 49 = .ok (.aload_n 0, 1) := by decide +kernel
theorem dX10_count_50 : decode cX10_count 50 = .ok (.getfield 217, 3) := by decide +kernel
theorem dX10_count_53 : decode cX10_count 53 = .ok (.ireturn, 1) := by decide +kernel
theorem dX10_count_54 : decode cX10_count 54 = .ok (.aload_n 0, 1) := by decide +kernel
theorem dX10_count_55 : decode cX10_count 55 = .ok (.getfield 360, 3) := by decide +kernel
theorem dX10_count_58 : decode cX10_count 58 = .ok (.ireturn, 1) := by decide +kernel
theorem dX10_count_59 : decode cX10_count 59 = .ok (.aload_n 0, 1) := by decide +kernel
theorem dX10_count_60 : decode cX10_count 60 = .ok (.getfield 357, 3) := by decide +kernel
theorem dX10_count_63 : decode cX10_count 63 = .ok (.ireturn, 1) := by decide +kernel
theorem dX10_count_64 : decode cX10_count 64 = .ok (.aload_n 0, 1) := by decide +kernel
theorem dX10_count_65 : decode cX10_count 65 = .ok (.iload_n 2, 1) := by decide +kernel
theorem dX10_count_66 : decode cX10_count 66 = .ok (.invokevirtual 230, 3) := by decide +kernel
theorem dX10_count_69 : decode cX10_count 69 = .ok (.ifCond .eq 12, 3) := by decide +kernel
theorem dX10_count_72 : decode cX10_count 72 = .ok (.aload_n 0, 1) := by decide +kernel
theorem dX10_count_73 : decode cX10_count 73 = .ok (.getfield 42, 3) := by decide +kernel
theorem dX10_count_76 : decode cX10_count 76 = .ok (.iload_n 2, 1) := by decide +kernel
theorem dX10_count_77 : decode cX10_count 77 = .ok (.iaload, 1) := by decide +kernel
theorem dX10_count_78 : decode cX10_count 78 = .ok (.goto 5, 3) := by decide +kernel
theorem dX10_count_81 : decode cX10_count 81 = .ok (.ldc 163, 2) := by decide +kernel
theorem dX10_count_83 : decode cX10_count 83 = .ok (.ireturn, 1) := by decide +kernel
theorem dX10_count_84 : decode cX10_count 84 = .ok (.aload_n 0, 1) := by decide +kernel
theorem dX10_count_85 : decode cX10_count 85 = .ok (.iload_n 2, 1) := by decide +kernel
theorem dX10_count_86 : decode cX10_count 86 = .ok (.invokevirtual 230, 3) := by decide +kernel
theorem dX10_count_89 : decode cX10_count 89 = .ok (.ifCond .eq 12, 3) := by decide +kernel
theorem dX10_count_92 : decode cX10_count 92 = .ok (.aload_n 0, 1) := by decide +kernel
theorem dX10_count_93 : decode cX10_count 93 = .ok (.getfield 45, 3) := by decide +kernel
theorem dX10_count_96 : decode cX10_count 96 = .ok (.iload_n 2, 1) := by decide +kernel
theorem dX10_count_97 : decode cX10_count 97 = .ok (.iaload, 1) := by decide +kernel
theorem dX10_count_98 : decode cX10_count 98 = .ok (.goto 5, 3) := by decide +kernel
theorem dX10_count_101 : decode cX10_count 101 = .ok (.ldc 163, 2) := by decide +kernel
theorem dX10_count_103 : decode cX10_count 103 = .ok (.ireturn, 1) := by decide +kernel
theorem dX10_count_104 : decode cX10_count 104 = .ok (.aload_n 0, 1) := by decide +kernel
theorem dX10_count_105 : decode cX10_count 105 = .ok (.iload_n 2, 1) := by decide +kernel
theorem dX10_count_106 : decode cX10_count 106 = .ok (.invokevirtual 230, 3) := by decide +kernel
theorem dX10_count_109 : decode cX10_count 109 = .ok (.ifCond .eq 12, 3) := by decide +kernel
theorem dX10_count_112 : decode cX10_count 112 = .ok (.aload_n 0, 1) := by decide +kernel
theorem dX10_count_113 : decode cX10_count 113 = .ok (.getfield 48, 3) := by decide +kernel
theorem dX10_count_116 : decode cX10_count 116 = .ok (.iload_n 2, 1) := by decide +kernel
theorem dX10_count_117 : decode cX10_count 117 = .ok (.iaload, 1) := by decide +kernel
theorem dX10_count_118 : decode cX10_count 118 = .ok (.goto 5, 3) := by decide +kernel
theorem dX10_count_121 : decode cX10_count 121 = .ok (.ldc 163, 2) := by decide +kernel
theorem dX10_count_123 : decode cX10_count 123 = .ok (.ireturn, 1) := by decide +kernel
theorem dX10_count_124 : decode cX10_count 124 = .ok (.ldc 163, 2) := by decide +kernel
theorem dX10_count_126 : decode cX10_count 126 = .ok (.ireturn, 1) := by decide +kernel
theorem dX10_forget_0 : decode cX10_forget 0 = .ok (.aload_n 0, 1) := by decide +kernel
theorem dX10_forget_1 : decode cX10_forget 1 = .ok (.getfield 360, 3) := by decide +kernel
theorem dX10_forget_4 : decode cX10_forget 4 = .ok (.istore_n 1, 1) := by decide +kernel
theorem dX10_forget_5 : decode cX10_forget 5 = .ok (.aload_n 0, 1) := by decide +kernel
theorem dX10_forget_6 : decode cX10_forget 6 = .ok (.iconst 0, 1) := by decide +kernel
theorem dX10_forget_7 : decode cX10_forget 7 = .ok (.putfield 360, 3) := by decide +kernel
theorem dX10_forget_10 : decode cX10_forget 10 = .ok (.iload_n 1, 1) := by decide +kernel
theorem dX10_forget_11 : decode cX10_forget 11 = .ok (.ireturn, 1) := by decide +kernel
theorem dJ9_max_7cf53_0 : decode cJ9_max_7cf53 0 = .ok (.iload_n 0, 1) := by decide +kernel
theorem dJ9_max_7cf53_1 : decode cJ9_max_7cf53 1 = .ok (.iload_n 1, 1) := by decide +kernel
theorem dJ9_max_7cf53_2 : decode cJ9_max_7cf53 2 = .ok (.if_icmp .lt 7, 3) := by decide +kernel
theorem dJ9_max_7cf53_5 : decode cJ9_max_7cf53 5 = .ok (.iload_n 0, 1) := by decide +kernel
theorem dJ9_max_7cf53_6 : decode cJ9_max_7cf53 6 = .ok (.goto 4, 3) := by decide +kernel
theorem dJ9_max_7cf53_9 : decode cJ9_max_7cf53 9 = .ok (.iload_n 1, 1) := by decide +kernel
theorem dJ9_max_7cf53_10 : decode cJ9_max_7cf53 10 = .ok (.ireturn, 1) := by decide +kernel
theorem dJ7_fill_d0a16_0 : decode cJ7_fill_d0a16 0 = .ok (.iconst 0, 1) := by decide +kernel
theorem dJ7_fill_d0a16_1 : decode cJ7_fill_d0a16 1 = .ok (.istore_n 3, 1) := by decide +kernel
theorem dJ7_fill_d0a16_2 : decode cJ7_fill_d0a16 2 = .ok (.aload_n 0, 1) := by decide +kernel
theorem dJ7_fill_d0a16_3 : decode cJ7_fill_d0a16 3 = .ok (.arraylength, 1) := by decide +kernel
theorem dJ7_fill_d0a16_4 : decode cJ7_fill_d0a16 4 = .ok (.istore 4, 2) := by decide +kernel
theorem dJ7_fill_d0a16_6 : decode cJ7_fill_d0a16 6 = .ok (.iload_n 3, 1) := by decide +kernel
theorem dJ7_fill_d0a16_7 : decode cJ7_fill_d0a16 7 = .ok (.iload 4, 2) := by decide +kernel
theorem dJ7_fill_d0a16_9 : decode cJ7_fill_d0a16 9 = .ok (.if_icmp .ge 13, 3) := by decide +kernel
theorem dJ7_fill_d0a16_12 : decode cJ7_fill_d0a16 12 = .ok (.aload_n 0, 1) := by decide +kernel
theorem dJ7_fill_d0a16_13 : decode cJ7_fill_d0a16 13 = .ok (.iload_n 3, 1) := by decide +kernel
theorem dJ7_fill_d0a16_14 : decode cJ7_fill_d0a16 14 = .ok (.lload_n 1, 1) := by decide +kernel
theorem dJ7_fill_d0a16_15 : decode cJ7_fill_d0a16 15 = .ok (.lastore, 1) := by decide +kernel
theorem dJ7_fill_d0a16_16 : decode cJ7_fill_d0a16 16 = .ok (.iinc 3 1, 3) := by decide +kernel
theorem dJ7_fill_d0a16_19 : decode cJ7_fill_d0a16 19 = .ok (.goto (-13), 3) := by decide +kernel
theorem dJ7_fill_d0a16_22 : decode cJ7_fill_d0a16 22 = .ok (.return_, 1) := by decide +kernel
theorem dJ7_fill_53178_0 : decode cJ7_fill_53178 0 = .ok (.iconst 0, 1) := by decide +kernel
theorem dJ7_fill_53178_1 : decode cJ7_fill_53178 1 = .ok (.istore_n 2, 1) := by decide +kernel
theorem dJ7_fill_53178_2 : decode cJ7_fill_53178 2 = .ok (.aload_n 0, 1) := by decide +kernel
theorem dJ7_fill_53178_3 : decode cJ7_fill_53178 3 = .ok (.arraylength, 1) := by decide +kernel
theorem dJ7_fill_53178_4 : decode cJ7_fill_53178 4 = .ok (.istore_n 3, 1) := by decide +kernel
theorem dJ7_fill_53178_5 : decode cJ7_fill_53178 5 = .ok (.iload_n 2, 1) := by decide +kernel
theorem dJ7_fill_53178_6 : decode cJ7_fill_53178 6 = .ok (.iload_n 3, 1) := by decide +kernel
theorem dJ7_fill_53178_7 : decode cJ7_fill_53178 7 = .ok (.if_icmp .ge 13, 3) := by decide +kernel
theorem dJ7_fill_53178_10 : decode cJ7_fill_53178 10 = .ok (.aload_n 0, 1) := by decide +kernel
theorem dJ7_fill_53178_11 : decode cJ7_fill_53178 11 = .ok (.iload_n 2, 1) := by decide +kernel
theorem dJ7_fill_53178_12 : decode cJ7_fill_53178 12 = .ok (.iload_n 1, 1) := by decide +kernel
theorem dJ7_fill_53178_13 : decode cJ7_fill_53178 13 = .ok (.iastore, 1) := by decide +kernel
theorem dJ7_fill_53178_14 : decode cJ7_fill_53178 14 = .ok (.iinc 2 1, 3) := by decide +kernel
theorem dJ7_fill_53178_17 : decode cJ7_fill_53178 17 = .ok (.goto (-12), 3) := by decide +kernel
theorem dJ7_fill_53178_20 : decode cJ7_fill_53178 20 = .ok (.return_, 1) := by decide +kernel
theorem dL_law_0 : decode cL_law 0 = .ok (.new 7, 3) := by decide +kernel
theorem dL_law_3 : decode cL_law 3 = .ok (.dup, 1) := by decide +kernel
theorem dL_law_4 : decode cL_law 4 = .ok (.invokespecial 9, 3) := by decide +kernel
theorem dL_law_7 : decode cL_law 7 = .ok (.astore_n 1, 1) := by decide +kernel
theorem dL_law_8 : decode cL_law 8 = .ok (.new 10, 3) := by decide +kernel
theorem dL_law_11 : decode cL_law 11 = .ok (.dup, 1) := by decide +kernel
theorem dL_law_12 : decode cL_law 12 = .ok (.invokespecial 12, 3) := by decide +kernel
theorem dL_law_15 : decode cL_law 15 = .ok (.astore_n 2, 1) := by decide +kernel
theorem dL_law_16 : decode cL_law 16 = .ok (.iconst 0, 1) := by decide +kernel
theorem dL_law_17 : decode cL_law 17 = .ok (.istore_n 3, 1) := by decide +kernel
theorem dL_law_18 : decode cL_law 18 = .ok (.iload_n 3, 1) := by decide +kernel
theorem dL_law_19 : decode cL_law 19 = .ok (.aload_n 0, 1) := by decide +kernel
theorem dL_law_20 : decode cL_law 20 = .ok (.arraylength, 1) := by decide +kernel
theorem dL_law_21 : decode cL_law 21 = .ok (.bipush 6, 2) := by decide +kernel
theorem dL_law_23 : decode cL_law 23 = .ok (.isub, 1) := by decide +kernel
theorem dL_law_24 : decode cL_law 24 = .ok (.if_icmp .gt 797, 3) := by decide +kernel
theorem dL_law_27 : decode cL_law 27 = .ok (.aload_n 0, 1) := by decide +kernel
theorem dL_law_28 : decode cL_law 28 = .ok (.iload_n 3, 1) := by decide +kernel
theorem dL_law_29 : decode cL_law 29 = .ok (.iaload, 1) := by decide +kernel
theorem dL_law_30 : decode cL_law 30 = .ok (.bipush 31, 2) := by decide +kernel
theorem dL_law_32 : decode cL_law 32 = .ok (.iand, 1) := by decide +kernel
theorem dL_law_33 : decode cL_law 33 = .ok (.tableswitch 782 0 18 #[91, 134, 157, 190, 263, 297, 330, 353, 386, 409, 462, 525, 558, 661, 675, 698, 712, 736, 769], 91) := by decide +kernel
theorem dL_law_124 : decode cL_law 124 = .ok (.aload_n 1, 1) := by decide +kernel
theorem dL_law_125 : decode cL_law 125 = .ok (.aload_n 0, 1) := by decide +kernel
theorem dL_law_126 : decode cL_law 126 = .ok (.iload_n 3, 1) := by decide +kernel
theorem dL_law_127 : decode cL_law 127 = .ok (.iconst 1, 1) := by decide +kernel
theorem dL_law_128 : decode cL_law 128 = .ok (.iadd, 1) := by decide +kernel
theorem dL_law_129 : decode cL_law 129 = .ok (.iaload, 1) := by decide +kernel
theorem dL_law_130 : decode cL_law 130 = .ok (.aload_n 0, 1) := by decide +kernel
theorem dL_law_131 : decode cL_law 131 = .ok (.iload_n 3, 1) := by decide +kernel
theorem dL_law_132 : decode cL_law 132 = .ok (.iconst 2, 1) := by decide +kernel
theorem dL_law_133 : decode cL_law 133 = .ok (.iadd, 1) := by decide +kernel
theorem dL_law_134 : decode cL_law 134 = .ok (.iaload, 1) := by decide +kernel
theorem dL_law_135 : decode cL_law 135 = .ok (.aload_n 0, 1) := by decide +kernel
theorem dL_law_136 : decode cL_law 136 = .ok (.iload_n 3, 1) := by decide +kernel
theorem dL_law_137 : decode cL_law 137 = .ok (.iconst 3, 1) := by decide +kernel
theorem dL_law_138 : decode cL_law 138 = .ok (.iadd, 1) := by decide +kernel
theorem dL_law_139 : decode cL_law 139 = .ok (.iaload, 1) := by decide +kernel
theorem dL_law_140 : decode cL_law 140 = .ok (.invokevirtual 13, 3) := by decide +kernel
theorem dL_law_143 : decode cL_law 143 = .ok (.aload_n 2, 1) := by decide +kernel
theorem dL_law_144 : decode cL_law 144 = .ok (.aload_n 0, 1) := by decide +kernel
theorem dL_law_145 : decode cL_law 145 = .ok (.iload_n 3, 1) := by decide +kernel
theorem dL_law_146 : decode cL_law 146 = .ok (.iconst 1, 1) := by decide +kernel
theorem dL_law_147 : decode cL_law 147 = .ok (.iadd, 1) := by decide +kernel
theorem dL_law_148 : decode cL_law 148 = .ok (.iaload, 1) := by decide +kernel
theorem dL_law_149 : decode cL_law 149 = .ok (.aload_n 0, 1) := by decide +kernel
theorem dL_law_150 : decode cL_law 150 = .ok (.iload_n 3, 1) := by decide +kernel
theorem dL_law_151 : decode cL_law 151 = .ok (.iconst 2, 1) := by decide +kernel
theorem dL_law_152 : decode cL_law 152 = .ok (.iadd, 1) := by decide +kernel
theorem dL_law_153 : decode cL_law 153 = .ok (.iaload, 1) := by decide +kernel
theorem dL_law_154 : decode cL_law 154 = .ok (.aload_n 0, 1) := by decide +kernel
theorem dL_law_155 : decode cL_law 155 = .ok (.iload_n 3, 1) := by decide +kernel
theorem dL_law_156 : decode cL_law 156 = .ok (.iconst 3, 1) := by decide +kernel
theorem dL_law_157 : decode cL_law 157 = .ok (.iadd, 1) := by decide +kernel
theorem dL_law_158 : decode cL_law 158 = .ok (.iaload, 1) := by decide +kernel
theorem dL_law_159 : decode cL_law 159 = .ok (.invokevirtual 17, 3) := by decide +kernel
theorem dL_law_162 : decode cL_law 162 = .ok (.if_icmp .eq 653, 3) := by decide +kernel
theorem dL_law_165 : decode cL_law 165 = .ok (.iconst 0, 1) := by decide +kernel
theorem dL_law_166 : decode cL_law 166 = .ok (.ireturn, 1) := by decide +kernel
theorem dL_law_167 : decode cL_law 167 = .ok (.aload_n 1, 1) := by decide +kernel
theorem dL_law_168 : decode cL_law 168 = .ok (.aload_n 0, 1) := by decide +kernel
theorem dL_law_169 : decode cL_law 169 = .ok (.iload_n 3, 1) := by decide +kernel
theorem dL_law_170 : decode cL_law 170 = .ok (.iconst 1, 1) := by decide +kernel
theorem dL_law_171 : decode cL_law 171 = .ok (.iadd, 1) := by decide +kernel
theorem dL_law_172 : decode cL_law 172 = .ok (.iaload, 1) := by decide +kernel
theorem dL_law_173 : decode cL_law 173 = .ok (.invokevirtual 18, 3) := by decide +kernel
theorem dL_law_176 : decode cL_law 176 = .ok (.aload_n 2, 1) := by decide +kernel
theorem dL_law_177 : decode cL_law 177 = .ok (.aload_n 0, 1) := by decide +kernel
theorem dL_law_178 : decode cL_law 178 = .ok (.iload_n 3, 1) := by decide +kernel
theorem dL_law_179 : decode cL_law 179 = .ok (.iconst 1, 1) := by decide +kernel
theorem dL_law_180 : decode cL_law 180 = .ok (.iadd, 1) := by decide +kernel
theorem dL_law_181 : decode cL_law 181 = .ok (.iaload, 1) := by decide +kernel
theorem dL_law_182 : decode cL_law 182 = .ok (.invokevirtual 22, 3) := by decide +kernel
theorem dL_law_185 : decode cL_law 185 = .ok (.if_icmp .eq 630, 3) := by decide +kernel
theorem dL_law_188 : decode cL_law 188 = .ok (.iconst 0, 1) := by decide +kernel
theorem dL_law_189 : decode cL_law 189 = .ok (.ireturn, 1) := by decide +kernel
theorem dL_law_190 : decode cL_law 190 = .ok (.aload_n 1, 1) := by decide +kernel
theorem dL_law_191 : decode cL_law 191 = .ok (.aload_n 0, 1) := by decide +kernel
theorem dL_law_192 : decode cL_law 192 = .ok (.iload_n 3, 1) := by decide +kernel
theorem dL_law_193 : decode cL_law 193 = .ok (.iconst 1, 1) := by decide +kernel
theorem dL_law_194 : decode cL_law 194 = .ok (.iadd, 1) := by decide +kernel
theorem dL_law_195 : decode cL_law 195 = .ok (.iaload, 1) := by decide +kernel
theorem dL_law_196 : decode cL_law 196 = .ok (.aload_n 0, 1) := by decide +kernel
theorem dL_law_197 : decode cL_law 197 = .ok (.iload_n 3, 1) := by decide +kernel
theorem dL_law_198 : decode cL_law 198 = .ok (.iconst 2, 1) := by decide +kernel
theorem dL_law_199 : decode cL_law 199 = .ok (.iadd, 1) := by decide +kernel
theorem dL_law_200 : decode cL_law 200 = .ok (.iaload, 1) := by decide +kernel
theorem dL_law_201 : decode cL_law 201 = .ok (.invokevirtual 23, 3) := by decide +kernel
theorem dL_law_204 : decode cL_law 204 = .ok (.aload_n 2, 1) := by decide +kernel
theorem dL_law_205 : decode cL_law 205 = .ok (.aload_n 0, 1) := by decide +kernel
theorem dL_law_206 : decode cL_law 206 = .ok (.iload_n 3, 1) := by decide +kernel
theorem dL_law_207 : decode cL_law 207 = .ok (.iconst 1, 1) := by decide +kernel
theorem dL_law_208 : decode cL_law 208 = .ok (.iadd, 1) := by decide +kernel
theorem dL_law_209 : decode cL_law 209 = .ok (.iaload, 1) := by decide +kernel
theorem dL_law_210 : decode cL_law 210 = .ok (.aload_n 0, 1) := by decide +kernel
theorem dL_law_211 : decode cL_law 211 = .ok (.iload_n 3, 1) := by decide +kernel
theorem dL_law_212 : decode cL_law 212 = .ok (.iconst 2, 1) := by decide +kernel
theorem dL_law_213 : decode cL_law 213 = .ok (.iadd, 1) := by decide +kernel
theorem dL_law_214 : decode cL_law 214 = .ok (.iaload, 1) := by decide +kernel
theorem dL_law_215 : decode cL_law 215 = .ok (.invokevirtual 27, 3) := by decide +kernel
theorem dL_law_218 : decode cL_law 218 = .ok (.if_icmp .eq 597, 3) := by decide +kernel
theorem dL_law_221 : decode cL_law 221 = .ok (.iconst 0, 1) := by decide +kernel
theorem dL_law_222 : decode cL_law 222 = .ok (.ireturn, 1) := by decide +kernel
theorem dL_law_223 : decode cL_law 223 = .ok (.aload_n 1, 1) := by decide +kernel
theorem dL_law_224 : decode cL_law 224 = .ok (.aload_n 0, 1) := by decide +kernel
theorem dL_law_225 : decode cL_law 225 = .ok (.iload_n 3, 1) := by decide +kernel
theorem dL_law_226 : decode cL_law 226 = .ok (.iconst 1, 1) := by decide +kernel
theorem dL_law_227 : decode cL_law 227 = .ok (.iadd, 1) := by decide +kernel
theorem dL_law_228 : decode cL_law 228 = .ok (.iaload, 1) := by decide +kernel
theorem dL_law_229 : decode cL_law 229 = .ok (.aload_n 0, 1) := by decide +kernel
theorem dL_law_230 : decode cL_law 230 = .ok (.iload_n 3, 1) := by decide +kernel
theorem dL_law_231 : decode cL_law 231 = .ok (.iconst 2, 1) := by decide +kernel
theorem dL_law_232 : decode cL_law 232 = .ok (.iadd, 1) := by decide +kernel
theorem dL_law_233 : decode cL_law 233 = .ok (.iaload, 1) := by decide +kernel
theorem dL_law_234 : decode cL_law 234 = .ok (.aload_n 0, 1) := by decide +kernel
theorem dL_law_235 : decode cL_law 235 = .ok (.iload_n 3, 1) := by decide +kernel
theorem dL_law_236 : decode cL_law 236 = .ok (.iconst 3, 1) := by decide +kernel
theorem dL_law_237 : decode cL_law 237 = .ok (.iadd, 1) := by decide +kernel
theorem dL_law_238 : decode cL_law 238 = .ok (.iaload, 1) := by decide +kernel
theorem dL_law_239 : decode cL_law 239 = .ok (.i2l, 1) := by decide +kernel
theorem dL_law_240 : decode cL_law 240 = .ok (.bipush 32, 2) := by decide +kernel
theorem dL_law_242 : decode cL_law 242 = .ok (.lshl, 1) := by decide +kernel
theorem dL_law_243 : decode cL_law 243 = .ok (.aload_n 0, 1) := by decide +kernel
theorem dL_law_244 : decode cL_law 244 = .ok (.iload_n 3, 1) := by decide +kernel
theorem dL_law_245 : decode cL_law 245 = .ok (.iconst 4, 1) := by decide +kernel
theorem dL_law_246 : decode cL_law 246 = .ok (.iadd, 1) := by decide +kernel
theorem dL_law_247 : decode cL_law 247 = .ok (.iaload, 1) := by decide +kernel
theorem dL_law_248 : decode cL_law 248 = .ok (.i2l, 1) := by decide +kernel
theorem dL_law_249 : decode cL_law 249 = .ok (.ldc2_w 28, 3) := by decide +kernel
theorem dL_law_252 : decode cL_law 252 = .ok (.land, 1) := by decide +kernel
theorem dL_law_253 : decode cL_law 253 = .ok (.lor, 1) := by decide +kernel
theorem dL_law_254 : decode cL_law 254 = .ok (.invokevirtual 30, 3) := by decide +kernel
theorem dL_law_257 : decode cL_law 257 = .ok (.aload_n 2, 1) := by decide +kernel
theorem dL_law_258 : decode cL_law 258 = .ok (.aload_n 0, 1) := by decide +kernel
theorem dL_law_259 : decode cL_law 259 = .ok (.iload_n 3, 1) := by decide +kernel
theorem dL_law_260 : decode cL_law 260 = .ok (.iconst 1, 1) := by decide +kernel
theorem dL_law_261 : decode cL_law 261 = .ok (.iadd, 1) := by decide +kernel
theorem dL_law_262 : decode cL_law 262 = .ok (.iaload, 1) := by decide +kernel
theorem dL_law_263 : decode cL_law 263 = .ok (.aload_n 0, 1) := by decide +kernel
theorem dL_law_264 : decode cL_law 264 = .ok (.iload_n 3, 1) := by decide +kernel
theorem dL_law_265 : decode cL_law 265 = .ok (.iconst 2, 1) := by decide +kernel
theorem dL_law_266 : decode cL_law 266 = .ok (.iadd, 1) := by decide +kernel
theorem dL_law_267 : decode cL_law 267 = .ok (.iaload, 1) := by decide +kernel
theorem dL_law_268 : decode cL_law 268 = .ok (.aload_n 0, 1) := by decide +kernel
theorem dL_law_269 : decode cL_law 269 = .ok (.iload_n 3, 1) := by decide +kernel
theorem dL_law_270 : decode cL_law 270 = .ok (.iconst 3, 1) := by decide +kernel
theorem dL_law_271 : decode cL_law 271 = .ok (.iadd, 1) := by decide +kernel
theorem dL_law_272 : decode cL_law 272 = .ok (.iaload, 1) := by decide +kernel
theorem dL_law_273 : decode cL_law 273 = .ok (.i2l, 1) := by decide +kernel
theorem dL_law_274 : decode cL_law 274 = .ok (.bipush 32, 2) := by decide +kernel
theorem dL_law_276 : decode cL_law 276 = .ok (.lshl, 1) := by decide +kernel
theorem dL_law_277 : decode cL_law 277 = .ok (.aload_n 0, 1) := by decide +kernel
theorem dL_law_278 : decode cL_law 278 = .ok (.iload_n 3, 1) := by decide +kernel
theorem dL_law_279 : decode cL_law 279 = .ok (.iconst 4, 1) := by decide +kernel
theorem dL_law_280 : decode cL_law 280 = .ok (.iadd, 1) := by decide +kernel
theorem dL_law_281 : decode cL_law 281 = .ok (.iaload, 1) := by decide +kernel
theorem dL_law_282 : decode cL_law 282 = .ok (.i2l, 1) := by decide +kernel
theorem dL_law_283 : decode cL_law 283 = .ok (.ldc2_w 28, 3) := by decide +kernel
theorem dL_law_286 : decode cL_law 286 = .ok (.land, 1) := by decide +kernel
theorem dL_law_287 : decode cL_law 287 = .ok (.lor, 1) := by decide +kernel
theorem dL_law_288 : decode cL_law 288 = .ok (.invokevirtual 34, 3) := by decide +kernel
theorem dL_law_291 : decode cL_law 291 = .ok (.if_icmp .eq 524, 3) := by decide +kernel
theorem dL_law_294 : decode cL_law 294 = .ok (.iconst 0, 1) := by decide +kernel
theorem dL_law_295 : decode cL_law 295 = .ok (.ireturn, 1) := by decide +kernel
theorem dL_law_296 : decode cL_law 296 = .ok (.aload_n 1, 1) := by decide +kernel
theorem dL_law_297 : decode cL_law 297 = .ok (.aload_n 0, 1) := by decide +kernel
theorem dL_law_298 : decode cL_law 298 = .ok (.iload_n 3, 1) := by decide +kernel
theorem dL_law_299 : decode cL_law 299 = .ok (.iconst 1, 1) := by decide +kernel
theorem dL_law_300 : decode cL_law 300 = .ok (.iadd, 1) := by decide +kernel
theorem dL_law_301 : decode cL_law 301 = .ok (.iaload, 1) := by decide +kernel
theorem dL_law_302 : decode cL_law 302 = .ok (.aload_n 0, 1) := by decide +kernel
theorem dL_law_303 : decode cL_law 303 = .ok (.iload_n 3, 1) := by decide +kernel
theorem dL_law_304 : decode cL_law 304 = .ok (.iconst 2, 1) := by decide +kernel
theorem dL_law_305 : decode cL_law 305 = .ok (.iadd, 1) := by decide +kernel
theorem dL_law_306 : decode cL_law 306 = .ok (.iaload, 1) := by decide +kernel
theorem dL_law_307 : decode cL_law 307 = .ok (.invokevirtual 35, 3) := by decide +kernel
theorem dL_law_310 : decode cL_law 310 = .ok (.aload_n 2, 1) := by decide +kernel
theorem dL_law_311 : decode cL_law 311 = .ok (.aload_n 0, 1) := by decide +kernel
theorem dL_law_312 : decode cL_law 312 = .ok (.iload_n 3, 1) := by decide +kernel
theorem dL_law_313 : decode cL_law 313 = .ok (.iconst 1, 1) := by decide +kernel
theorem dL_law_314 : decode cL_law 314 = .ok (.iadd, 1) := by decide +kernel
theorem dL_law_315 : decode cL_law 315 = .ok (.iaload, 1) := by decide +kernel
theorem dL_law_316 : decode cL_law 316 = .ok (.aload_n 0, 1) := by decide +kernel
theorem dL_law_317 : decode cL_law 317 = .ok (.iload_n 3, 1) := by decide +kernel
theorem dL_law_318 : decode cL_law 318 = .ok (.iconst 2, 1) := by decide +kernel
theorem dL_law_319 : decode cL_law 319 = .ok (.iadd, 1) := by decide +kernel
theorem dL_law_320 : decode cL_law 320 = .ok (.iaload, 1) := by decide +kernel
theorem dL_law_321 : decode cL_law 321 = .ok (.invokevirtual 39, 3) := by decide +kernel
theorem dL_law_324 : decode cL_law 324 = .ok (.lcmp, 1) := by decide +kernel
theorem dL_law_325 : decode cL_law 325 = .ok (.ifCond .eq 490, 3) := by decide +kernel
theorem dL_law_328 : decode cL_law 328 = .ok (.iconst 0, 1) := by decide +kernel
theorem dL_law_329 : decode cL_law 329 = .ok (.ireturn, 1) := by decide +kernel
theorem dL_law_330 : decode cL_law 330 = .ok (.aload_n 1, 1) := by decide +kernel
theorem dL_law_331 : decode cL_law 331 = .ok (.aload_n 0, 1) := by decide +kernel
theorem dL_law_332 : decode cL_law 332 = .ok (.iload_n 3, 1) := by decide +kernel
theorem dL_law_333 : decode cL_law 333 = .ok (.iconst 1, 1) := by decide +kernel
theorem dL_law_334 : decode cL_law 334 = .ok (.iadd, 1) := by decide +kernel
theorem dL_law_335 : decode cL_law 335 = .ok (.iaload, 1) := by decide +kernel
theorem dL_law_336 : decode cL_law 336 = .ok (.aload_n 0, 1) := by decide +kernel
theorem dL_law_337 : decode cL_law 337 = .ok (.iload_n 3, 1) := by decide +kernel
theorem dL_law_338 : decode cL_law 338 = .ok (.iconst 2, 1) := by decide +kernel
theorem dL_law_339 : decode cL_law 339 = .ok (.iadd, 1) := by decide +kernel
theorem dL_law_340 : decode cL_law 340 = .ok (.iaload, 1) := by decide +kernel
theorem dL_law_341 : decode cL_law 341 = .ok (.invokevirtual 40, 3) := by decide +kernel
theorem dL_law_344 : decode cL_law 344 = .ok (.aload_n 2, 1) := by decide +kernel
theorem dL_law_345 : decode cL_law 345 = .ok (.aload_n 0, 1) := by decide +kernel
theorem dL_law_346 : decode cL_law 346 = .ok (.iload_n 3, 1) := by decide +kernel
theorem dL_law_347 : decode cL_law 347 = .ok (.iconst 1, 1) := by decide +kernel
theorem dL_law_348 : decode cL_law 348 = .ok (.iadd, 1) := by decide +kernel
theorem dL_law_349 : decode cL_law 349 = .ok (.iaload, 1) := by decide +kernel
theorem dL_law_350 : decode cL_law 350 = .ok (.aload_n 0, 1) := by decide +kernel
theorem dL_law_351 : decode cL_law 351 = .ok (.iload_n 3, 1) := by decide +kernel
theorem dL_law_352 : decode cL_law 352 = .ok (.iconst 2, 1) := by decide +kernel
theorem dL_law_353 : decode cL_law 353 = .ok (.iadd, 1) := by decide +kernel
theorem dL_law_354 : decode cL_law 354 = .ok (.iaload, 1) := by decide +kernel
theorem dL_law_355 : decode cL_law 355 = .ok (.invokevirtual 43, 3) := by decide +kernel
theorem dL_law_358 : decode cL_law 358 = .ok (.if_icmp .eq 457, 3) := by decide +kernel
theorem dL_law_361 : decode cL_law 361 = .ok (.iconst 0, 1) := by decide +kernel
theorem dL_law_362 : decode cL_law 362 = .ok (.ireturn, 1) := by decide +kernel
theorem dL_law_363 : decode cL_law 363 = .ok (.aload_n 1, 1) := by decide +kernel
theorem dL_law_364 : decode cL_law 364 = .ok (.aload_n 0, 1) := by decide +kernel
theorem dL_law_365 : decode cL_law 365 = .ok (.iload_n 3, 1) := by decide +kernel
theorem dL_law_366 : decode cL_law 366 = .ok (.iconst 1, 1) := by decide +kernel
theorem dL_law_367 : decode cL_law 367 = .ok (.iadd, 1) := by decide +kernel
theorem dL_law_368 : decode cL_law 368 = .ok (.iaload, 1) := by decide +kernel
theorem dL_law_369 : decode cL_law 369 = .ok (.invokevirtual 44, 3) := by decide +kernel
theorem dL_law_372 : decode cL_law 372 = .ok (.aload_n 2, 1) := by decide +kernel
theorem dL_law_373 : decode cL_law 373 = .ok (.aload_n 0, 1) := by decide +kernel
theorem dL_law_374 : decode cL_law 374 = .ok (.iload_n 3, 1) := by decide +kernel
theorem dL_law_375 : decode cL_law 375 = .ok (.iconst 1, 1) := by decide +kernel
theorem dL_law_376 : decode cL_law 376 = .ok (.iadd, 1) := by decide +kernel
theorem dL_law_377 : decode cL_law 377 = .ok (.iaload, 1) := by decide +kernel
theorem dL_law_378 : decode cL_law 378 = .ok (.invokevirtual 47, 3) := by decide +kernel
theorem dL_law_381 : decode cL_law 381 = .ok (.if_icmp .eq 434, 3) := by decide +kernel
theorem dL_law_384 : decode cL_law 384 = .ok (.iconst 0, 1) := by decide +kernel
theorem dL_law_385 : decode cL_law 385 = .ok (.ireturn, 1) := by decide +kernel
theorem dL_law_386 : decode cL_law 386 = .ok (.aload_n 1, 1) := by decide +kernel
theorem dL_law_387 : decode cL_law 387 = .ok (.aload_n 0, 1) := by decide +kernel
theorem dL_law_388 : decode cL_law 388 = .ok (.iload_n 3, 1) := by decide +kernel
theorem dL_law_389 : decode cL_law 389 = .ok (.iconst 1, 1) := by decide +kernel
theorem dL_law_390 : decode cL_law 390 = .ok (.iadd, 1) := by decide +kernel
theorem dL_law_391 : decode cL_law 391 = .ok (.iaload, 1) := by decide +kernel
theorem dL_law_392 : decode cL_law 392 = .ok (.aload_n 0, 1) := by decide +kernel
theorem dL_law_393 : decode cL_law 393 = .ok (.iload_n 3, 1) := by decide +kernel
theorem dL_law_394 : decode cL_law 394 = .ok (.iconst 2, 1) := by decide +kernel
theorem dL_law_395 : decode cL_law 395 = .ok (.iadd, 1) := by decide +kernel
theorem dL_law_396 : decode cL_law 396 = .ok (.iaload, 1) := by decide +kernel
theorem dL_law_397 : decode cL_law 397 = .ok (.invokevirtual 48, 3) := by decide +kernel
theorem dL_law_400 : decode cL_law 400 = .ok (.aload_n 2, 1) := by decide +kernel
theorem dL_law_401 : decode cL_law 401 = .ok (.aload_n 0, 1) := by decide +kernel
theorem dL_law_402 : decode cL_law 402 = .ok (.iload_n 3, 1) := by decide +kernel
theorem dL_law_403 : decode cL_law 403 = .ok (.iconst 1, 1) := by decide +kernel
theorem dL_law_404 : decode cL_law 404 = .ok (.iadd, 1) := by decide +kernel
theorem dL_law_405 : decode cL_law 405 = .ok (.iaload, 1) := by decide +kernel
theorem dL_law_406 : decode cL_law 406 = .ok (.aload_n 0, 1) := by decide +kernel
theorem dL_law_407 : decode cL_law 407 = .ok (.iload_n 3, 1) := by decide +kernel
theorem dL_law_408 : decode cL_law 408 = .ok (.iconst 2, 1) := by decide +kernel
theorem dL_law_409 : decode cL_law 409 = .ok (.iadd, 1) := by decide +kernel
theorem dL_law_410 : decode cL_law 410 = .ok (.iaload, 1) := by decide +kernel
theorem dL_law_411 : decode cL_law 411 = .ok (.invokevirtual 51, 3) := by decide +kernel
theorem dL_law_414 : decode cL_law 414 = .ok (.if_icmp .eq 401, 3) := by decide +kernel
theorem dL_law_417 : decode cL_law 417 = .ok (.iconst 0, 1) := by decide +kernel
theorem dL_law_418 : decode cL_law 418 = .ok (.ireturn, 1) := by decide +kernel
theorem dL_law_419 : decode cL_law 419 = .ok (.aload_n 1, 1) := by decide +kernel
theorem dL_law_420 : decode cL_law 420 = .ok (.aload_n 0, 1) := by decide +kernel
theorem dL_law_421 : decode cL_law 421 = .ok (.iload_n 3, 1) := by decide +kernel
theorem dL_law_422 : decode cL_law 422 = .ok (.iconst 1, 1) := by decide +kernel
theorem dL_law_423 : decode cL_law 423 = .ok (.iadd, 1) := by decide +kernel
theorem dL_law_424 : decode cL_law 424 = .ok (.iaload, 1) := by decide +kernel
theorem dL_law_425 : decode cL_law 425 = .ok (.invokevirtual 52, 3) := by decide +kernel
theorem dL_law_428 : decode cL_law 428 = .ok (.aload_n 2, 1) := by decide +kernel
theorem dL_law_429 : decode cL_law 429 = .ok (.aload_n 0, 1) := by decide +kernel
theorem dL_law_430 : decode cL_law 430 = .ok (.iload_n 3, 1) := by decide +kernel
theorem dL_law_431 : decode cL_law 431 = .ok (.iconst 1, 1) := by decide +kernel
theorem dL_law_432 : decode cL_law 432 = .ok (.iadd, 1) := by decide +kernel
theorem dL_law_433 : decode cL_law 433 = .ok (.iaload, 1) := by decide +kernel
theorem dL_law_434 : decode cL_law 434 = .ok (.invokevirtual 55, 3) := by decide +kernel
theorem dL_law_437 : decode cL_law 437 = .ok (.if_icmp .eq 378, 3) := by decide +kernel
theorem dL_law_440 : decode cL_law 440 = .ok (.iconst 0, 1) := by decide +kernel
theorem dL_law_441 : decode cL_law 441 = .ok (.ireturn, 1) := by decide +kernel
theorem dL_law_442 : decode cL_law 442 = .ok (.aload_n 1, 1) := by decide +kernel
theorem dL_law_443 : decode cL_law 443 = .ok (.aload_n 0, 1) := by decide +kernel
theorem dL_law_444 : decode cL_law 444 = .ok (.iload_n 3, 1) := by decide +kernel
theorem dL_law_445 : decode cL_law 445 = .ok (.iconst 1, 1) := by decide +kernel
theorem dL_law_446 : decode cL_law 446 = .ok (.iadd, 1) := by decide +kernel
theorem dL_law_447 : decode cL_law 447 = .ok (.iaload, 1) := by decide +kernel
theorem dL_law_448 : decode cL_law 448 = .ok (.aload_n 0, 1) := by decide +kernel
theorem dL_law_449 : decode cL_law 449 = .ok (.iload_n 3, 1) := by decide +kernel
theorem dL_law_450 : decode cL_law 450 = .ok (.iconst 2, 1) := by decide +kernel
theorem dL_law_451 : decode cL_law 451 = .ok (.iadd, 1) := by decide +kernel
theorem dL_law_452 : decode cL_law 452 = .ok (.iaload, 1) := by decide +kernel
theorem dL_law_453 : decode cL_law 453 = .ok (.aload_n 0, 1) := by decide +kernel
theorem dL_law_454 : decode cL_law 454 = .ok (.iload_n 3, 1) := by decide +kernel
theorem dL_law_455 : decode cL_law 455 = .ok (.iconst 3, 1) := by decide +kernel
theorem dL_law_456 : decode cL_law 456 = .ok (.iadd, 1) := by decide +kernel
theorem dL_law_457 : decode cL_law 457 = .ok (.iaload, 1) := by decide +kernel
theorem dL_law_458 : decode cL_law 458 = .ok (.aload_n 0, 1) := by decide +kernel
theorem dL_law_459 : decode cL_law 459 = .ok (.iload_n 3, 1) := by decide +kernel
theorem dL_law_460 : decode cL_law 460 = .ok (.iconst 4, 1) := by decide +kernel
theorem dL_law_461 : decode cL_law 461 = .ok (.iadd, 1) := by decide +kernel
theorem dL_law_462 : decode cL_law 462 = .ok (.iaload, 1) := by decide +kernel
theorem dL_law_463 : decode cL_law 463 = .ok (.invokevirtual 56, 3) := by decide +kernel
theorem dL_law_466 : decode cL_law 466 = .ok (.aload_n 2, 1) := by decide +kernel
theorem dL_law_467 : decode cL_law 467 = .ok (.aload_n 0, 1) := by decide +kernel
theorem dL_law_468 : decode cL_law 468 = .ok (.iload_n 3, 1) := by decide +kernel
theorem dL_law_469 : decode cL_law 469 = .ok (.iconst 1, 1) := by decide +kernel
theorem dL_law_470 : decode cL_law 470 = .ok (.iadd, 1) := by decide +kernel
theorem dL_law_471 : decode cL_law 471 = .ok (.iaload, 1) := by decide +kernel
theorem dL_law_472 : decode cL_law 472 = .ok (.aload_n 0, 1) := by decide +kernel
theorem dL_law_473 : decode cL_law 473 = .ok (.iload_n 3, 1) := by decide +kernel
theorem dL_law_474 : decode cL_law 474 = .ok (.iconst 2, 1) := by decide +kernel
theorem dL_law_475 : decode cL_law 475 = .ok (.iadd, 1) := by decide +kernel
theorem dL_law_476 : decode cL_law 476 = .ok (.iaload, 1) := by decide +kernel
theorem dL_law_477 : decode cL_law 477 = .ok (.aload_n 0, 1) := by decide +kernel
theorem dL_law_478 : decode cL_law 478 = .ok (.iload_n 3, 1) := by decide +kernel
theorem dL_law_479 : decode cL_law 479 = .ok (.iconst 3, 1) := by decide +kernel
theorem dL_law_480 : decode cL_law 480 = .ok (.iadd, 1) := by decide +kernel
theorem dL_law_481 : decode cL_law 481 = .ok (.iaload, 1) := by decide +kernel
theorem dL_law_482 : decode cL_law 482 = .ok (.aload_n 0, 1) := by decide +kernel
theorem dL_law_483 : decode cL_law 483 = .ok (.iload_n 3, 1) := by decide +kernel
theorem dL_law_484 : decode cL_law 484 = .ok (.iconst 4, 1) := by decide +kernel
theorem dL_law_485 : decode cL_law 485 = .ok (.iadd, 1) := by decide +kernel
theorem dL_law_486 : decode cL_law 486 = .ok (.iaload, 1) := by decide +kernel
theorem dL_law_487 : decode cL_law 487 = .ok (.invokevirtual 60, 3) := by decide +kernel
theorem dL_law_490 : decode cL_law 490 = .ok (.if_icmp .eq 325, 3) := by decide +kernel
theorem dL_law_493 : decode cL_law 493 = .ok (.iconst 0, 1) := by decide +kernel
theorem dL_law_494 : decode cL_law 494 = .ok (.ireturn, 1) := by decide +kernel
theorem dL_law_495 : decode cL_law 495 = .ok (.aload_n 1, 1) := by decide +kernel
theorem dL_law_496 : decode cL_law 496 = .ok (.aload_n 0, 1) := by decide +kernel
theorem dL_law_497 : decode cL_law 497 = .ok (.iload_n 3, 1) := by decide +kernel
theorem dL_law_498 : decode cL_law 498 = .ok (.iconst 1, 1) := by decide +kernel
theorem dL_law_499 : decode cL_law 499 = .ok (.iadd, 1) := by decide +kernel
theorem dL_law_500 : decode cL_law 500 = .ok (.iaload, 1) := by decide +kernel
theorem dL_law_501 : decode cL_law 501 = .ok (.aload_n 0, 1) := by decide +kernel
theorem dL_law_502 : decode cL_law 502 = .ok (.iload_n 3, 1) := by decide +kernel
theorem dL_law_503 : decode cL_law 503 = .ok (.iconst 2, 1) := by decide +kernel
theorem dL_law_504 : decode cL_law 504 = .ok (.iadd, 1) := by decide +kernel
theorem dL_law_505 : decode cL_law 505 = .ok (.iaload, 1) := by decide +kernel
theorem dL_law_506 : decode cL_law 506 = .ok (.aload_n 0, 1) := by decide +kernel
theorem dL_law_507 : decode cL_law 507 = .ok (.iload_n 3, 1) := by decide +kernel
theorem dL_law_508 : decode cL_law 508 = .ok (.iconst 3, 1) := by decide +kernel
theorem dL_law_509 : decode cL_law 509 = .ok (.iadd, 1) := by decide +kernel
theorem dL_law_510 : decode cL_law 510 = .ok (.iaload, 1) := by decide +kernel
theorem dL_law_511 : decode cL_law 511 = .ok (.aload_n 0, 1) := by decide +kernel
theorem dL_law_512 : decode cL_law 512 = .ok (.iload_n 3, 1) := by decide +kernel
theorem dL_law_513 : decode cL_law 513 = .ok (.iconst 4, 1) := by decide +kernel
theorem dL_law_514 : decode cL_law 514 = .ok (.iadd, 1) := by decide +kernel
theorem dL_law_515 : decode cL_law 515 = .ok (.iaload, 1) := by decide +kernel
theorem dL_law_516 : decode cL_law 516 = .ok (.aload_n 0, 1) := by decide +kernel
theorem dL_law_517 : decode cL_law 517 = .ok (.iload_n 3, 1) := by decide +kernel
theorem dL_law_518 : decode cL_law 518 = .ok (.iconst 5, 1) := by decide +kernel
theorem dL_law_519 : decode cL_law 519 = .ok (.iadd, 1) := by decide +kernel
theorem dL_law_520 : decode cL_law 520 = .ok (.iaload, 1) := by decide +kernel
theorem dL_law_521 : decode cL_law 521 = .ok (.invokevirtual 61, 3) := by decide +kernel
theorem dL_law_524 : decode cL_law 524 = .ok (.aload_n 2, 1) := by decide +kernel
theorem dL_law_525 : decode cL_law 525 = .ok (.aload_n 0, 1) := by decide +kernel
theorem dL_law_526 : decode cL_law 526 = .ok (.iload_n 3, 1) := by decide +kernel
theorem dL_law_527 : decode cL_law 527 = .ok (.iconst 1, 1) := by decide +kernel
theorem dL_law_528 : decode cL_law 528 = .ok (.iadd, 1) := by decide +kernel
theorem dL_law_529 : decode cL_law 529 = .ok (.iaload, 1) := by decide +kernel
theorem dL_law_530 : decode cL_law 530 = .ok (.aload_n 0, 1) := by decide +kernel
theorem dL_law_531 : decode cL_law 531 = .ok (.iload_n 3, 1) := by decide +kernel
theorem dL_law_532 : decode cL_law 532 = .ok (.iconst 2, 1) := by decide +kernel
theorem dL_law_533 : decode cL_law 533 = .ok (.iadd, 1) := by decide +kernel
theorem dL_law_534 : decode cL_law 534 = .ok (.iaload, 1) := by decide +kernel
theorem dL_law_535 : decode cL_law 535 = .ok (.aload_n 0, 1) := by decide +kernel
theorem dL_law_536 : decode cL_law 536 = .ok (.iload_n 3, 1) := by decide +kernel
theorem dL_law_537 : decode cL_law 537 = .ok (.iconst 3, 1) := by decide +kernel
theorem dL_law_538 : decode cL_law 538 = .ok (.iadd, 1) := by decide +kernel
theorem dL_law_539 : decode cL_law 539 = .ok (.iaload, 1) := by decide +kernel
theorem dL_law_540 : decode cL_law 540 = .ok (.aload_n 0, 1) := by decide +kernel
theorem dL_law_541 : decode cL_law 541 = .ok (.iload_n 3, 1) := by decide +kernel
theorem dL_law_542 : decode cL_law 542 = .ok (.iconst 4, 1) := by decide +kernel
theorem dL_law_543 : decode cL_law 543 = .ok (.iadd, 1) := by decide +kernel
theorem dL_law_544 : decode cL_law 544 = .ok (.iaload, 1) := by decide +kernel
theorem dL_law_545 : decode cL_law 545 = .ok (.aload_n 0, 1) := by decide +kernel
theorem dL_law_546 : decode cL_law 546 = .ok (.iload_n 3, 1) := by decide +kernel
theorem dL_law_547 : decode cL_law 547 = .ok (.iconst 5, 1) := by decide +kernel
theorem dL_law_548 : decode cL_law 548 = .ok (.iadd, 1) := by decide +kernel
theorem dL_law_549 : decode cL_law 549 = .ok (.iaload, 1) := by decide +kernel
theorem dL_law_550 : decode cL_law 550 = .ok (.invokevirtual 65, 3) := by decide +kernel
theorem dL_law_553 : decode cL_law 553 = .ok (.if_icmp .eq 262, 3) := by decide +kernel
theorem dL_law_556 : decode cL_law 556 = .ok (.iconst 0, 1) := by decide +kernel
theorem dL_law_557 : decode cL_law 557 = .ok (.ireturn, 1) := by decide +kernel
theorem dL_law_558 : decode cL_law 558 = .ok (.aload_n 1, 1) := by decide +kernel
theorem dL_law_559 : decode cL_law 559 = .ok (.aload_n 0, 1) := by decide +kernel
theorem dL_law_560 : decode cL_law 560 = .ok (.iload_n 3, 1) := by decide +kernel
theorem dL_law_561 : decode cL_law 561 = .ok (.iconst 1, 1) := by decide +kernel
theorem dL_law_562 : decode cL_law 562 = .ok (.iadd, 1) := by decide +kernel
theorem dL_law_563 : decode cL_law 563 = .ok (.iaload, 1) := by decide +kernel
theorem dL_law_564 : decode cL_law 564 = .ok (.aload_n 0, 1) := by decide +kernel
theorem dL_law_565 : decode cL_law 565 = .ok (.iload_n 3, 1) := by decide +kernel
theorem dL_law_566 : decode cL_law 566 = .ok (.iconst 2, 1) := by decide +kernel
theorem dL_law_567 : decode cL_law 567 = .ok (.iadd, 1) := by decide +kernel
theorem dL_law_568 : decode cL_law 568 = .ok (.iaload, 1) := by decide +kernel
theorem dL_law_569 : decode cL_law 569 = .ok (.invokevirtual 66, 3) := by decide +kernel
theorem dL_law_572 : decode cL_law 572 = .ok (.aload_n 2, 1) := by decide +kernel
theorem dL_law_573 : decode cL_law 573 = .ok (.aload_n 0, 1) := by decide +kernel
theorem dL_law_574 : decode cL_law 574 = .ok (.iload_n 3, 1) := by decide +kernel
theorem dL_law_575 : decode cL_law 575 = .ok (.iconst 1, 1) := by decide +kernel
theorem dL_law_576 : decode cL_law 576 = .ok (.iadd, 1) := by decide +kernel
theorem dL_law_577 : decode cL_law 577 = .ok (.iaload, 1) := by decide +kernel
theorem dL_law_578 : decode cL_law 578 = .ok (.aload_n 0, 1) := by decide +kernel
theorem dL_law_579 : decode cL_law 579 = .ok (.iload_n 3, 1) := by decide +kernel
theorem dL_law_580 : decode cL_law 580 = .ok (.iconst 2, 1) := by decide +kernel
theorem dL_law_581 : decode cL_law 581 = .ok (.iadd, 1) := by decide +kernel
theorem dL_law_582 : decode cL_law 582 = .ok (.iaload, 1) := by decide +kernel
theorem dL_law_583 : decode cL_law 583 = .ok (.invokevirtual 69, 3) := by decide +kernel
theorem dL_law_586 : decode cL_law 586 = .ok (.if_icmp .eq 229, 3) := by decide +kernel
theorem dL_law_589 : decode cL_law 589 = .ok (.iconst 0, 1) := by decide +kernel
theorem dL_law_590 : decode cL_law 590 = .ok (.ireturn, 1) := by decide +kernel
theorem dL_law_591 : decode cL_law 591 = .ok (.aload_n 1, 1) := by decide +kernel
theorem dL_law_592 : decode cL_law 592 = .ok (.aload_n 0, 1) := by decide +kernel
theorem dL_law_593 : decode cL_law 593 = .ok (.iload_n 3, 1) := by decide +kernel
theorem dL_law_594 : decode cL_law 594 = .ok (.iconst 1, 1) := by decide +kernel
theorem dL_law_595 : decode cL_law 595 = .ok (.iadd, 1) := by decide +kernel
theorem dL_law_596 : decode cL_law 596 = .ok (.iaload, 1) := by decide +kernel
theorem dL_law_597 : decode cL_law 597 = .ok (.aload_n 0, 1) := by decide +kernel
theorem dL_law_598 : decode cL_law 598 = .ok (.iload_n 3, 1) := by decide +kernel
theorem dL_law_599 : decode cL_law 599 = .ok (.iconst 2, 1) := by decide +kernel
theorem dL_law_600 : decode cL_law 600 = .ok (.iadd, 1) := by decide +kernel
theorem dL_law_601 : decode cL_law 601 = .ok (.iaload, 1) := by decide +kernel
theorem dL_law_602 : decode cL_law 602 = .ok (.i2l, 1) := by decide +kernel
theorem dL_law_603 : decode cL_law 603 = .ok (.bipush 32, 2) := by decide +kernel
theorem dL_law_605 : decode cL_law 605 = .ok (.lshl, 1) := by decide +kernel
theorem dL_law_606 : decode cL_law 606 = .ok (.aload_n 0, 1) := by decide +kernel
theorem dL_law_607 : decode cL_law 607 = .ok (.iload_n 3, 1) := by decide +kernel
theorem dL_law_608 : decode cL_law 608 = .ok (.iconst 3, 1) := by decide +kernel
theorem dL_law_609 : decode cL_law 609 = .ok (.iadd, 1) := by decide +kernel
theorem dL_law_610 : decode cL_law 610 = .ok (.iaload, 1) := by decide +kernel
theorem dL_law_611 : decode cL_law 611 = .ok (.i2l, 1) := by decide +kernel
theorem dL_law_612 : decode cL_law 612 = .ok (.ldc2_w 28, 3) := by decide +kernel
theorem dL_law_615 : decode cL_law 615 = .ok (.land, 1) := by decide +kernel
theorem dL_law_616 : decode cL_law 616 = .ok (.lor, 1) := by decide +kernel
theorem dL_law_617 : decode cL_law 617 = .ok (.aload_n 0, 1) := by decide +kernel
theorem dL_law_618 : decode cL_law 618 = .ok (.iload_n 3, 1) := by decide +kernel
theorem dL_law_619 : decode cL_law 619 = .ok (.iconst 4, 1) := by decide +kernel
theorem dL_law_620 : decode cL_law 620 = .ok (.iadd, 1) := by decide +kernel
theorem dL_law_621 : decode cL_law 621 = .ok (.iaload, 1) := by decide +kernel
theorem dL_law_622 : decode cL_law 622 = .ok (.i2l, 1) := by decide +kernel
theorem dL_law_623 : decode cL_law 623 = .ok (.bipush 32, 2) := by decide +kernel
theorem dL_law_625 : decode cL_law 625 = .ok (.lshl, 1) := by decide +kernel
theorem dL_law_626 : decode cL_law 626 = .ok (.aload_n 0, 1) := by decide +kernel
theorem dL_law_627 : decode cL_law 627 = .ok (.iload_n 3, 1) := by decide +kernel
theorem dL_law_628 : decode cL_law 628 = .ok (.iconst 5, 1) := by decide +kernel
theorem dL_law_629 : decode cL_law 629 = .ok (.iadd, 1) := by decide +kernel
theorem dL_law_630 : decode cL_law 630 = .ok (.iaload, 1) := by decide +kernel
theorem dL_law_631 : decode cL_law 631 = .ok (.i2l, 1) := by decide +kernel
theorem dL_law_632 : decode cL_law 632 = .ok (.ldc2_w 28, 3) := by decide +kernel
theorem dL_law_635 : decode cL_law 635 = .ok (.land, 1) := by decide +kernel
theorem dL_law_636 : decode cL_law 636 = .ok (.lor, 1) := by decide +kernel
theorem dL_law_637 : decode cL_law 637 = .ok (.invokevirtual 70, 3) := by decide +kernel
theorem dL_law_640 : decode cL_law 640 = .ok (.aload_n 2, 1) := by decide +kernel
theorem dL_law_641 : decode cL_law 641 = .ok (.aload_n 0, 1) := by decide +kernel
theorem dL_law_642 : decode cL_law 642 = .ok (.iload_n 3, 1) := by decide +kernel
theorem dL_law_643 : decode cL_law 643 = .ok (.iconst 1, 1) := by decide +kernel
theorem dL_law_644 : decode cL_law 644 = .ok (.iadd, 1) := by decide +kernel
theorem dL_law_645 : decode cL_law 645 = .ok (.iaload, 1) := by decide +kernel
theorem dL_law_646 : decode cL_law 646 = .ok (.aload_n 0, 1) := by decide +kernel
theorem dL_law_647 : decode cL_law 647 = .ok (.iload_n 3, 1) := by decide +kernel
theorem dL_law_648 : decode cL_law 648 = .ok (.iconst 2, 1) := by decide +kernel
theorem dL_law_649 : decode cL_law 649 = .ok (.iadd, 1) := by decide +kernel
theorem dL_law_650 : decode cL_law 650 = .ok (.iaload, 1) := by decide +kernel
theorem dL_law_651 : decode cL_law 651 = .ok (.i2l, 1) := by decide +kernel
theorem dL_law_652 : decode cL_law 652 = .ok (.bipush 32, 2) := by decide +kernel
theorem dL_law_654 : decode cL_law 654 = .ok (.lshl, 1) := by decide +kernel
theorem dL_law_655 : decode cL_law 655 = .ok (.aload_n 0, 1) := by decide +kernel
theorem dL_law_656 : decode cL_law 656 = .ok (.iload_n 3, 1) := by decide +kernel
theorem dL_law_657 : decode cL_law 657 = .ok (.iconst 3, 1) := by decide +kernel
theorem dL_law_658 : decode cL_law 658 = .ok (.iadd, 1) := by decide +kernel
theorem dL_law_659 : decode cL_law 659 = .ok (.iaload, 1) := by decide +kernel
theorem dL_law_660 : decode cL_law 660 = .ok (.i2l, 1) := by decide +kernel
theorem dL_law_661 : decode cL_law 661 = .ok (.ldc2_w 28, 3) := by decide +kernel
theorem dL_law_664 : decode cL_law 664 = .ok (.land, 1) := by decide +kernel
theorem dL_law_665 : decode cL_law 665 = .ok (.lor, 1) := by decide +kernel
theorem dL_law_666 : decode cL_law 666 = .ok (.aload_n 0, 1) := by decide +kernel
theorem dL_law_667 : decode cL_law 667 = .ok (.iload_n 3, 1) := by decide +kernel
theorem dL_law_668 : decode cL_law 668 = .ok (.iconst 4, 1) := by decide +kernel
theorem dL_law_669 : decode cL_law 669 = .ok (.iadd, 1) := by decide +kernel
theorem dL_law_670 : decode cL_law 670 = .ok (.iaload, 1) := by decide +kernel
theorem dL_law_671 : decode cL_law 671 = .ok (.i2l, 1) := by decide +kernel
theorem dL_law_672 : decode cL_law 672 = .ok (.bipush 32, 2) := by decide +kernel
theorem dL_law_674 : decode cL_law 674 = .ok (.lshl, 1) := by decide +kernel
theorem dL_law_675 : decode cL_law 675 = .ok (.aload_n 0, 1) := by decide +kernel
theorem dL_law_676 : decode cL_law 676 = .ok (.iload_n 3, 1) := by decide +kernel
theorem dL_law_677 : decode cL_law 677 = .ok (.iconst 5, 1) := by decide +kernel
theorem dL_law_678 : decode cL_law 678 = .ok (.iadd, 1) := by decide +kernel
theorem dL_law_679 : decode cL_law 679 = .ok (.iaload, 1) := by decide +kernel
theorem dL_law_680 : decode cL_law 680 = .ok (.i2l, 1) := by decide +kernel
theorem dL_law_681 : decode cL_law 681 = .ok (.ldc2_w 28, 3) := by decide +kernel
theorem dL_law_684 : decode cL_law 684 = .ok (.land, 1) := by decide +kernel
theorem dL_law_685 : decode cL_law 685 = .ok (.lor, 1) := by decide +kernel
theorem dL_law_686 : decode cL_law 686 = .ok (.invokevirtual 74, 3) := by decide +kernel
theorem dL_law_689 : decode cL_law 689 = .ok (.if_icmp .eq 126, 3) := by decide +kernel
theorem dL_law_692 : decode cL_law 692 = .ok (.iconst 0, 1) := by decide +kernel
theorem dL_law_693 : decode cL_law 693 = .ok (.ireturn, 1) := by decide +kernel
theorem dL_law_694 : decode cL_law 694 = .ok (.aload_n 1, 1) := by decide +kernel
theorem dL_law_695 : decode cL_law 695 = .ok (.invokevirtual 75, 3) := by decide +kernel
theorem dL_law_698 : decode cL_law 698 = .ok (.aload_n 2, 1) := by decide +kernel
theorem dL_law_699 : decode cL_law 699 = .ok (.invokevirtual 79, 3) := by decide +kernel
theorem dL_law_702 : decode cL_law 702 = .ok (.lcmp, 1) := by decide +kernel
theorem dL_law_703 : decode cL_law 703 = .ok (.ifCond .eq 112, 3) := by decide +kernel
theorem dL_law_706 : decode cL_law 706 = .ok (.iconst 0, 1) := by decide +kernel
theorem dL_law_707 : decode cL_law 707 = .ok (.ireturn, 1) := by decide +kernel
theorem dL_law_708 : decode cL_law 708 = .ok (.aload_n 1, 1) := by decide +kernel
theorem dL_law_709 : decode cL_law 709 = .ok (.aload_n 0, 1) := by decide +kernel
theorem dL_law_710 : decode cL_law 710 = .ok (.iload_n 3, 1) := by decide +kernel
theorem dL_law_711 : decode cL_law 711 = .ok (.iconst 1, 1) := by decide +kernel
theorem dL_law_712 : decode cL_law 712 = .ok (.iadd, 1) := by decide +kernel
theorem dL_law_713 : decode cL_law 713 = .ok (.iaload, 1) := by decide +kernel
theorem dL_law_714 : decode cL_law 714 = .ok (.invokevirtual 80, 3) := by decide +kernel
theorem dL_law_717 : decode cL_law 717 = .ok (.aload_n 2, 1) := by decide +kernel
theorem dL_law_718 : decode cL_law 718 = .ok (.aload_n 0, 1) := by decide +kernel
theorem dL_law_719 : decode cL_law 719 = .ok (.iload_n 3, 1) := by decide +kernel
theorem dL_law_720 : decode cL_law 720 = .ok (.iconst 1, 1) := by decide +kernel
theorem dL_law_721 : decode cL_law 721 = .ok (.iadd, 1) := by decide +kernel
theorem dL_law_722 : decode cL_law 722 = .ok (.iaload, 1) := by decide +kernel
theorem dL_law_723 : decode cL_law 723 = .ok (.invokevirtual 83, 3) := by decide +kernel
theorem dL_law_726 : decode cL_law 726 = .ok (.if_icmp .eq 89, 3) := by decide +kernel
theorem dL_law_729 : decode cL_law 729 = .ok (.iconst 0, 1) := by decide +kernel
theorem dL_law_730 : decode cL_law 730 = .ok (.ireturn, 1) := by decide +kernel
theorem dL_law_731 : decode cL_law 731 = .ok (.aload_n 1, 1) := by decide +kernel
theorem dL_law_732 : decode cL_law 732 = .ok (.invokevirtual 84, 3) := by decide +kernel
theorem dL_law_735 : decode cL_law 735 = .ok (.aload_n 2, 1) := by decide +kernel
theorem dL_law_736 : decode cL_law 736 = .ok (.invokevirtual 87, 3) := by decide +kernel
theorem dL_law_739 : decode cL_law 739 = .ok (.lcmp, 1) := by decide +kernel
theorem dL_law_740 : decode cL_law 740 = .ok (.ifCond .eq 75, 3) := by decide +kernel
theorem dL_law_743 : decode cL_law 743 = .ok (.iconst 0, 1) := by decide +kernel
theorem dL_law_744 : decode cL_law 744 = .ok (.ireturn, 1) := by decide +kernel
theorem dL_law_745 : decode cL_law 745 = .ok (.aload_n 1, 1) := by decide +kernel
theorem dL_law_746 : decode cL_law 746 = .ok (.aload_n 0, 1) := by decide +kernel
theorem dL_law_747 : decode cL_law 747 = .ok (.iload_n 3, 1) := by decide +kernel
theorem dL_law_748 : decode cL_law 748 = .ok (.iconst 1, 1) := by decide +kernel
theorem dL_law_749 : decode cL_law 749 = .ok (.iadd, 1) := by decide +kernel
theorem dL_law_750 : decode cL_law 750 = .ok (.iaload, 1) := by decide +kernel
theorem dL_law_751 : decode cL_law 751 = .ok (.invokevirtual 88, 3) := by decide +kernel
theorem dL_law_754 : decode cL_law 754 = .ok (.aload_n 2, 1) := by decide +kernel
theorem dL_law_755 : decode cL_law 755 = .ok (.aload_n 0, 1) := by decide +kernel
theorem dL_law_756 : decode cL_law 756 = .ok (.iload_n 3, 1) := by decide +kernel
theorem dL_law_757 : decode cL_law 757 = .ok (.iconst 1, 1) := by decide +kernel
theorem dL_law_758 : decode cL_law 758 = .ok (.iadd, 1) := by decide +kernel
theorem dL_law_759 : decode cL_law 759 = .ok (.iaload, 1) := by decide +kernel
theorem dL_law_760 : decode cL_law 760 = .ok (.invokevirtual 92, 3) := by decide +kernel
theorem dL_law_763 : decode cL_law 763 = .ok (.lcmp, 1) := by decide +kernel
theorem dL_law_764 : decode cL_law 764 = .ok (.ifCond .eq 51, 3) := by decide +kernel
theorem dL_law_767 : decode cL_law 767 = .ok (.iconst 0, 1) := by decide +kernel
theorem dL_law_768 : decode cL_law 768 = .ok (.ireturn, 1) := by decide +kernel
theorem dL_law_769 : decode cL_law 769 = .ok (.aload_n 1, 1) := by decide +kernel
theorem dL_law_770 : decode cL_law 770 = .ok (.aload_n 0, 1) := by decide +kernel
theorem dL_law_771 : decode cL_law 771 = .ok (.iload_n 3, 1) := by decide +kernel
theorem dL_law_772 : decode cL_law 772 = .ok (.iconst 1, 1) := by decide +kernel
theorem dL_law_773 : decode cL_law 773 = .ok (.iadd, 1) := by decide +kernel
theorem dL_law_774 : decode cL_law 774 = .ok (.iaload, 1) := by decide +kernel
theorem dL_law_775 : decode cL_law 775 = .ok (.aload_n 0, 1) := by decide +kernel
theorem dL_law_776 : decode cL_law 776 = .ok (.iload_n 3, 1) := by decide +kernel
theorem dL_law_777 : decode cL_law 777 = .ok (.iconst 2, 1) := by decide +kernel
theorem dL_law_778 : decode cL_law 778 = .ok (.iadd, 1) := by decide +kernel
theorem dL_law_779 : decode cL_law 779 = .ok (.iaload, 1) := by decide +kernel
theorem dL_law_780 : decode cL_law 780 = .ok (.invokevirtual 93, 3) := by decide +kernel
theorem dL_law_783 : decode cL_law 783 = .ok (.aload_n 2, 1) := by decide +kernel
theorem dL_law_784 : decode cL_law 784 = .ok (.aload_n 0, 1) := by decide +kernel
theorem dL_law_785 : decode cL_law 785 = .ok (.iload_n 3, 1) := by decide +kernel
theorem dL_law_786 : decode cL_law 786 = .ok (.iconst 1, 1) := by decide +kernel
theorem dL_law_787 : decode cL_law 787 = .ok (.iadd, 1) := by decide +kernel
theorem dL_law_788 : decode cL_law 788 = .ok (.iaload, 1) := by decide +kernel
theorem dL_law_789 : decode cL_law 789 = .ok (.aload_n 0, 1) := by decide +kernel
theorem dL_law_790 : decode cL_law 790 = .ok (.iload_n 3, 1) := by decide +kernel
theorem dL_law_791 : decode cL_law 791 = .ok (.iconst 2, 1) := by decide +kernel
theorem dL_law_792 : decode cL_law 792 = .ok (.iadd, 1) := by decide +kernel
theorem dL_law_793 : decode cL_law 793 = .ok (.iaload, 1) := by decide +kernel
theorem dL_law_794 : decode cL_law 794 = .ok (.invokevirtual 96, 3) := by decide +kernel
theorem dL_law_797 : decode cL_law 797 = .ok (.if_icmp .eq 18, 3) := by decide +kernel
theorem dL_law_800 : decode cL_law 800 = .ok (.iconst 0, 1) := by decide +kernel
theorem dL_law_801 : decode cL_law 801 = .ok (.ireturn, 1) := by decide +kernel
theorem dL_law_802 : decode cL_law 802 = .ok (.aload_n 1, 1) := by decide +kernel
theorem dL_law_803 : decode cL_law 803 = .ok (.invokevirtual 97, 3) := by decide +kernel
theorem dL_law_806 : decode cL_law 806 = .ok (.aload_n 2, 1) := by decide +kernel
theorem dL_law_807 : decode cL_law 807 = .ok (.invokevirtual 101, 3) := by decide +kernel
theorem dL_law_810 : decode cL_law 810 = .ok (.if_icmp .eq 5, 3) := by decide +kernel
theorem dL_law_813 : decode cL_law 813 = .ok (.iconst 0, 1) := by decide +kernel
theorem dL_law_814 : decode cL_law 814 = .ok (.ireturn, 1) := by decide +kernel
theorem dL_law_815 : decode cL_law 815 = .ok (.iinc 3 6, 3) := by decide +kernel
theorem dL_law_818 : decode cL_law 818 = .ok (.goto (-800), 3) := by decide +kernel
theorem dL_law_821 : decode cL_law 821 = .ok (.iconst 1, 1) := by decide +kernel
theorem dL_law_822 : decode cL_law 822 = .ok (.ireturn, 1) := by decide +kernel

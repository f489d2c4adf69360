/-! the law's instructions -/
theorem dL_law_0 : decode cL_law 0 = .ok (.aload_n 0, 1) := by decide +kernel
theorem dL_law_1 : decode cL_law 1 = .ok (.invokestatic 105, 3) := by decide +kernel
theorem dL_law_4 : decode cL_law 4 = .ok (.astore_n 1, 1) := by decide +kernel
theorem dL_law_5 : decode cL_law 5 = .ok (.aload_n 1, 1) := by decide +kernel
theorem dL_law_6 : decode cL_law 6 = .ok (.ifnonnull 5, 3) := by decide +kernel
theorem dL_law_9 : decode cL_law 9 = .ok (.iconst 0, 1) := by decide +kernel
theorem dL_law_10 : decode cL_law 10 = .ok (.ireturn, 1) := by decide +kernel
theorem dL_law_11 : decode cL_law 11 = .ok (.iconst 0, 1) := by decide +kernel
theorem dL_law_12 : decode cL_law 12 = .ok (.istore_n 2, 1) := by decide +kernel
theorem dL_law_13 : decode cL_law 13 = .ok (.iload_n 2, 1) := by decide +kernel
theorem dL_law_14 : decode cL_law 14 = .ok (.bipush 80, 2) := by decide +kernel
theorem dL_law_16 : decode cL_law 16 = .ok (.if_icmp .ge 1080, 3) := by decide +kernel
theorem dL_law_19 : decode cL_law 19 = .ok (.aload_n 1, 1) := by decide +kernel
theorem dL_law_20 : decode cL_law 20 = .ok (.invokevirtual 71, 3) := by decide +kernel
theorem dL_law_23 : decode cL_law 23 = .ok (.istore_n 3, 1) := by decide +kernel
theorem dL_law_24 : decode cL_law 24 = .ok (.aload_n 1, 1) := by decide +kernel
theorem dL_law_25 : decode cL_law 25 = .ok (.invokevirtual 74, 3) := by decide +kernel
theorem dL_law_28 : decode cL_law 28 = .ok (.istore 4, 2) := by decide +kernel
theorem dL_law_30 : decode cL_law 30 = .ok (.aload_n 1, 1) := by decide +kernel
theorem dL_law_31 : decode cL_law 31 = .ok (.aload_n 1, 1) := by decide +kernel
theorem dL_law_32 : decode cL_law 32 = .ok (.invokevirtual 109, 3) := by decide +kernel
theorem dL_law_35 : decode cL_law 35 = .ok (.invokevirtual 112, 3) := by decide +kernel
theorem dL_law_38 : decode cL_law 38 = .ok (.istore 5, 2) := by decide +kernel
theorem dL_law_40 : decode cL_law 40 = .ok (.aload_n 1, 1) := by decide +kernel
theorem dL_law_41 : decode cL_law 41 = .ok (.invokevirtual 115, 3) := by decide +kernel
theorem dL_law_44 : decode cL_law 44 = .ok (.istore 6, 2) := by decide +kernel
theorem dL_law_46 : decode cL_law 46 = .ok (.aload_n 1, 1) := by decide +kernel
theorem dL_law_47 : decode cL_law 47 = .ok (.invokevirtual 119, 3) := by decide +kernel
theorem dL_law_50 : decode cL_law 50 = .ok (.ifCond .ne 12, 3) := by decide +kernel
theorem dL_law_53 : decode cL_law 53 = .ok (.iload 5, 2) := by decide +kernel
theorem dL_law_55 : decode cL_law 55 = .ok (.aload_n 1, 1) := by decide +kernel
theorem dL_law_56 : decode cL_law 56 = .ok (.invokevirtual 122, 3) := by decide +kernel
theorem dL_law_59 : decode cL_law 59 = .ok (.if_icmp .ge 7, 3) := by decide +kernel
theorem dL_law_62 : decode cL_law 62 = .ok (.iconst 1, 1) := by decide +kernel
theorem dL_law_63 : decode cL_law 63 = .ok (.goto 4, 3) := by decide +kernel
theorem dL_law_66 : decode cL_law 66 = .ok (.iconst 0, 1) := by decide +kernel
theorem dL_law_67 : decode cL_law 67 = .ok (.istore 7, 2) := by decide +kernel
theorem dL_law_69 : decode cL_law 69 = .ok (.aload_n 1, 1) := by decide +kernel
theorem dL_law_70 : decode cL_law 70 = .ok (.invokevirtual 125, 3) := by decide +kernel
theorem dL_law_73 : decode cL_law 73 = .ok (.istore 8, 2) := by decide +kernel
theorem dL_law_75 : decode cL_law 75 = .ok (.aload_n 1, 1) := by decide +kernel
theorem dL_law_76 : decode cL_law 76 = .ok (.invokevirtual 128, 3) := by decide +kernel
theorem dL_law_79 : decode cL_law 79 = .ok (.istore 9, 2) := by decide +kernel
theorem dL_law_81 : decode cL_law 81 = .ok (.iload_n 3, 1) := by decide +kernel
theorem dL_law_82 : decode cL_law 82 = .ok (.newarray .int, 2) := by decide +kernel
theorem dL_law_84 : decode cL_law 84 = .ok (.astore 10, 2) := by decide +kernel
theorem dL_law_86 : decode cL_law 86 = .ok (.iload_n 3, 1) := by decide +kernel
theorem dL_law_87 : decode cL_law 87 = .ok (.newarray .int, 2) := by decide +kernel
theorem dL_law_89 : decode cL_law 89 = .ok (.astore 11, 2) := by decide +kernel
theorem dL_law_91 : decode cL_law 91 = .ok (.iload_n 3, 1) := by decide +kernel
theorem dL_law_92 : decode cL_law 92 = .ok (.newarray .int, 2) := by decide +kernel
theorem dL_law_94 : decode cL_law 94 = .ok (.astore 12, 2) := by decide +kernel
theorem dL_law_96 : decode cL_law 96 = .ok (.iload_n 3, 1) := by decide +kernel
theorem dL_law_97 : decode cL_law 97 = .ok (.newarray .int, 2) := by decide +kernel
theorem dL_law_99 : decode cL_law 99 = .ok (.astore 13, 2) := by decide +kernel
theorem dL_law_101 : decode cL_law 101 = .ok (.iload 4, 2) := by decide +kernel
theorem dL_law_103 : decode cL_law 103 = .ok (.newarray .int, 2) := by decide +kernel
theorem dL_law_105 : decode cL_law 105 = .ok (.astore 14, 2) := by decide +kernel
theorem dL_law_107 : decode cL_law 107 = .ok (.iload 4, 2) := by decide +kernel
theorem dL_law_109 : decode cL_law 109 = .ok (.newarray .int, 2) := by decide +kernel
theorem dL_law_111 : decode cL_law 111 = .ok (.astore 15, 2) := by decide +kernel
theorem dL_law_113 : decode cL_law 113 = .ok (.iload 4, 2) := by decide +kernel
theorem dL_law_115 : decode cL_law 115 = .ok (.newarray .int, 2) := by decide +kernel
theorem dL_law_117 : decode cL_law 117 = .ok (.astore 16, 2) := by decide +kernel
theorem dL_law_119 : decode cL_law 119 = .ok (.iload 4, 2) := by decide +kernel
theorem dL_law_121 : decode cL_law 121 = .ok (.newarray .int, 2) := by decide +kernel
theorem dL_law_123 : decode cL_law 123 = .ok (.astore 17, 2) := by decide +kernel
theorem dL_law_125 : decode cL_law 125 = .ok (.iload 4, 2) := by decide +kernel
theorem dL_law_127 : decode cL_law 127 = .ok (.newarray .int, 2) := by decide +kernel
theorem dL_law_129 : decode cL_law 129 = .ok (.astore 18, 2) := by decide +kernel
theorem dL_law_131 : decode cL_law 131 = .ok (.iload 4, 2) := by decide +kernel
theorem dL_law_133 : decode cL_law 133 = .ok (.newarray .int, 2) := by decide +kernel
theorem dL_law_135 : decode cL_law 135 = .ok (.astore 19, 2) := by decide +kernel
theorem dL_law_137 : decode cL_law 137 = .ok (.iconst 0, 1) := by decide +kernel
theorem dL_law_138 : decode cL_law 138 = .ok (.istore 20, 2) := by decide +kernel
theorem dL_law_140 : decode cL_law 140 = .ok (.iload 20, 2) := by decide +kernel
theorem dL_law_142 : decode cL_law 142 = .ok (.iload_n 3, 1) := by decide +kernel
theorem dL_law_143 : decode cL_law 143 = .ok (.if_icmp .ge 53, 3) := by decide +kernel
theorem dL_law_146 : decode cL_law 146 = .ok (.aload 10, 2) := by decide +kernel
theorem dL_law_148 : decode cL_law 148 = .ok (.iload 20, 2) := by decide +kernel
theorem dL_law_150 : decode cL_law 150 = .ok (.aload_n 1, 1) := by decide +kernel
theorem dL_law_151 : decode cL_law 151 = .ok (.iload 20, 2) := by decide +kernel
theorem dL_law_153 : decode cL_law 153 = .ok (.invokevirtual 83, 3) := by decide +kernel
theorem dL_law_156 : decode cL_law 156 = .ok (.iastore, 1) := by decide +kernel
theorem dL_law_157 : decode cL_law 157 = .ok (.aload 11, 2) := by decide +kernel
theorem dL_law_159 : decode cL_law 159 = .ok (.iload 20, 2) := by decide +kernel
theorem dL_law_161 : decode cL_law 161 = .ok (.aload_n 1, 1) := by decide +kernel
theorem dL_law_162 : decode cL_law 162 = .ok (.iload 20, 2) := by decide +kernel
theorem dL_law_164 : decode cL_law 164 = .ok (.invokevirtual 131, 3) := by decide +kernel
theorem dL_law_167 : decode cL_law 167 = .ok (.iastore, 1) := by decide +kernel
theorem dL_law_168 : decode cL_law 168 = .ok (.aload 12, 2) := by decide +kernel
theorem dL_law_170 : decode cL_law 170 = .ok (.iload 20, 2) := by decide +kernel
theorem dL_law_172 : decode cL_law 172 = .ok (.aload_n 1, 1) := by decide +kernel
theorem dL_law_173 : decode cL_law 173 = .ok (.iload 20, 2) := by decide +kernel
theorem dL_law_175 : decode cL_law 175 = .ok (.invokevirtual 134, 3) := by decide +kernel
theorem dL_law_178 : decode cL_law 178 = .ok (.iastore, 1) := by decide +kernel
theorem dL_law_179 : decode cL_law 179 = .ok (.aload 13, 2) := by decide +kernel
theorem dL_law_181 : decode cL_law 181 = .ok (.iload 20, 2) := by decide +kernel
theorem dL_law_183 : decode cL_law 183 = .ok (.aload_n 1, 1) := by decide +kernel
theorem dL_law_184 : decode cL_law 184 = .ok (.iload 20, 2) := by decide +kernel
theorem dL_law_186 : decode cL_law 186 = .ok (.invokevirtual 137, 3) := by decide +kernel
theorem dL_law_189 : decode cL_law 189 = .ok (.iastore, 1) := by decide +kernel
theorem dL_law_190 : decode cL_law 190 = .ok (.iinc 20 1, 3) := by decide +kernel
theorem dL_law_193 : decode cL_law 193 = .ok (.goto (-53), 3) := by decide +kernel
theorem dL_law_196 : decode cL_law 196 = .ok (.iconst 0, 1) := by decide +kernel
theorem dL_law_197 : decode cL_law 197 = .ok (.istore 20, 2) := by decide +kernel
theorem dL_law_199 : decode cL_law 199 = .ok (.iload 20, 2) := by decide +kernel
theorem dL_law_201 : decode cL_law 201 = .ok (.iload 4, 2) := by decide +kernel
theorem dL_law_203 : decode cL_law 203 = .ok (.if_icmp .ge 75, 3) := by decide +kernel
theorem dL_law_206 : decode cL_law 206 = .ok (.aload 14, 2) := by decide +kernel
theorem dL_law_208 : decode cL_law 208 = .ok (.iload 20, 2) := by decide +kernel
theorem dL_law_210 : decode cL_law 210 = .ok (.aload_n 1, 1) := by decide +kernel
theorem dL_law_211 : decode cL_law 211 = .ok (.iload 20, 2) := by decide +kernel
theorem dL_law_213 : decode cL_law 213 = .ok (.invokevirtual 140, 3) := by decide +kernel
theorem dL_law_216 : decode cL_law 216 = .ok (.iastore, 1) := by decide +kernel
theorem dL_law_217 : decode cL_law 217 = .ok (.aload 15, 2) := by decide +kernel
theorem dL_law_219 : decode cL_law 219 = .ok (.iload 20, 2) := by decide +kernel
theorem dL_law_221 : decode cL_law 221 = .ok (.aload_n 1, 1) := by decide +kernel
theorem dL_law_222 : decode cL_law 222 = .ok (.iload 20, 2) := by decide +kernel
theorem dL_law_224 : decode cL_law 224 = .ok (.invokevirtual 143, 3) := by decide +kernel
theorem dL_law_227 : decode cL_law 227 = .ok (.iastore, 1) := by decide +kernel
theorem dL_law_228 : decode cL_law 228 = .ok (.aload 16, 2) := by decide +kernel
theorem dL_law_230 : decode cL_law 230 = .ok (.iload 20, 2) := by decide +kernel
theorem dL_law_232 : decode cL_law 232 = .ok (.aload_n 1, 1) := by decide +kernel
theorem dL_law_233 : decode cL_law 233 = .ok (.iload 20, 2) := by decide +kernel
theorem dL_law_235 : decode cL_law 235 = .ok (.invokevirtual 96, 3) := by decide +kernel
theorem dL_law_238 : decode cL_law 238 = .ok (.iastore, 1) := by decide +kernel
theorem dL_law_239 : decode cL_law 239 = .ok (.aload 17, 2) := by decide +kernel
theorem dL_law_241 : decode cL_law 241 = .ok (.iload 20, 2) := by decide +kernel
theorem dL_law_243 : decode cL_law 243 = .ok (.aload_n 1, 1) := by decide +kernel
theorem dL_law_244 : decode cL_law 244 = .ok (.iload 20, 2) := by decide +kernel
theorem dL_law_246 : decode cL_law 246 = .ok (.invokevirtual 146, 3) := by decide +kernel
theorem dL_law_249 : decode cL_law 249 = .ok (.iastore, 1) := by decide +kernel
theorem dL_law_250 : decode cL_law 250 = .ok (.aload 18, 2) := by decide +kernel
theorem dL_law_252 : decode cL_law 252 = .ok (.iload 20, 2) := by decide +kernel
theorem dL_law_254 : decode cL_law 254 = .ok (.aload_n 1, 1) := by decide +kernel
theorem dL_law_255 : decode cL_law 255 = .ok (.iload 20, 2) := by decide +kernel
theorem dL_law_257 : decode cL_law 257 = .ok (.invokevirtual 149, 3) := by decide +kernel
theorem dL_law_260 : decode cL_law 260 = .ok (.iastore, 1) := by decide +kernel
theorem dL_law_261 : decode cL_law 261 = .ok (.aload 19, 2) := by decide +kernel
theorem dL_law_263 : decode cL_law 263 = .ok (.iload 20, 2) := by decide +kernel
theorem dL_law_265 : decode cL_law 265 = .ok (.aload_n 1, 1) := by decide +kernel
theorem dL_law_266 : decode cL_law 266 = .ok (.iload 20, 2) := by decide +kernel
theorem dL_law_268 : decode cL_law 268 = .ok (.invokevirtual 152, 3) := by decide +kernel
theorem dL_law_271 : decode cL_law 271 = .ok (.iastore, 1) := by decide +kernel
theorem dL_law_272 : decode cL_law 272 = .ok (.iinc 20 1, 3) := by decide +kernel
theorem dL_law_275 : decode cL_law 275 = .ok (.goto (-76), 3) := by decide +kernel
theorem dL_law_278 : decode cL_law 278 = .ok (.iload 6, 2) := by decide +kernel
theorem dL_law_280 : decode cL_law 280 = .ok (.ifCond .eq 84, 3) := by decide +kernel
theorem dL_law_283 : decode cL_law 283 = .ok (.iload 5, 2) := by decide +kernel
theorem dL_law_285 : decode cL_law 285 = .ok (.aload_n 1, 1) := by decide +kernel
theorem dL_law_286 : decode cL_law 286 = .ok (.invokevirtual 122, 3) := by decide +kernel
theorem dL_law_289 : decode cL_law 289 = .ok (.if_icmp .lt 12, 3) := by decide +kernel
theorem dL_law_292 : decode cL_law 292 = .ok (.iload 8, 2) := by decide +kernel
theorem dL_law_294 : decode cL_law 294 = .ok (.aload_n 1, 1) := by decide +kernel
theorem dL_law_295 : decode cL_law 295 = .ok (.invokevirtual 155, 3) := by decide +kernel
theorem dL_law_298 : decode cL_law 298 = .ok (.if_icmp .ne 66, 3) := by decide +kernel
theorem dL_law_301 : decode cL_law 301 = .ok (.iconst 0, 1) := by decide +kernel
theorem dL_law_302 : decode cL_law 302 = .ok (.istore 6, 2) := by decide +kernel
theorem dL_law_304 : decode cL_law 304 = .ok (.iconst 0, 1) := by decide +kernel
theorem dL_law_305 : decode cL_law 305 = .ok (.istore 8, 2) := by decide +kernel
theorem dL_law_307 : decode cL_law 307 = .ok (.iconst 0, 1) := by decide +kernel
theorem dL_law_308 : decode cL_law 308 = .ok (.istore 20, 2) := by decide +kernel
theorem dL_law_310 : decode cL_law 310 = .ok (.iload 20, 2) := by decide +kernel
theorem dL_law_312 : decode cL_law 312 = .ok (.iload 4, 2) := by decide +kernel
theorem dL_law_314 : decode cL_law 314 = .ok (.if_icmp .ge 47, 3) := by decide +kernel
theorem dL_law_317 : decode cL_law 317 = .ok (.aload 16, 2) := by decide +kernel
theorem dL_law_319 : decode cL_law 319 = .ok (.iload 20, 2) := by decide +kernel
theorem dL_law_321 : decode cL_law 321 = .ok (.iaload, 1) := by decide +kernel
theorem dL_law_322 : decode cL_law 322 = .ok (.ifCond .lt 15, 3) := by decide +kernel
theorem dL_law_325 : decode cL_law 325 = .ok (.aload 10, 2) := by decide +kernel
theorem dL_law_327 : decode cL_law 327 = .ok (.aload 16, 2) := by decide +kernel
theorem dL_law_329 : decode cL_law 329 = .ok (.iload 20, 2) := by decide +kernel
theorem dL_law_331 : decode cL_law 331 = .ok (.iaload, 1) := by decide +kernel
theorem dL_law_332 : decode cL_law 332 = .ok (.dup2, 1) := by decide +kernel
theorem dL_law_333 : decode cL_law 333 = .ok (.iaload, 1) := by decide +kernel
theorem dL_law_334 : decode cL_law 334 = .ok (.iconst 1, 1) := by decide +kernel
theorem dL_law_335 : decode cL_law 335 = .ok (.iadd, 1) := by decide +kernel
theorem dL_law_336 : decode cL_law 336 = .ok (.iastore, 1) := by decide +kernel
theorem dL_law_337 : decode cL_law 337 = .ok (.aload 16, 2) := by decide +kernel
theorem dL_law_339 : decode cL_law 339 = .ok (.iload 20, 2) := by decide +kernel
theorem dL_law_341 : decode cL_law 341 = .ok (.iconst (-1), 1) := by decide +kernel
theorem dL_law_342 : decode cL_law 342 = .ok (.iastore, 1) := by decide +kernel
theorem dL_law_343 : decode cL_law 343 = .ok (.aload 17, 2) := by decide +kernel
theorem dL_law_345 : decode cL_law 345 = .ok (.iload 20, 2) := by decide +kernel
theorem dL_law_347 : decode cL_law 347 = .ok (.iconst 0, 1) := by decide +kernel
theorem dL_law_348 : decode cL_law 348 = .ok (.iastore, 1) := by decide +kernel
theorem dL_law_349 : decode cL_law 349 = .ok (.aload 18, 2) := by decide +kernel
theorem dL_law_351 : decode cL_law 351 = .ok (.iload 20, 2) := by decide +kernel
theorem dL_law_353 : decode cL_law 353 = .ok (.iconst 0, 1) := by decide +kernel
theorem dL_law_354 : decode cL_law 354 = .ok (.iastore, 1) := by decide +kernel
theorem dL_law_355 : decode cL_law 355 = .ok (.iinc 20 1, 3) := by decide +kernel
theorem dL_law_358 : decode cL_law 358 = .ok (.goto (-48), 3) := by decide +kernel
theorem dL_law_361 : decode cL_law 361 = .ok (.goto 31, 3) := by decide +kernel
theorem dL_law_364 : decode cL_law 364 = .ok (.iload 6, 2) := by decide +kernel
theorem dL_law_366 : decode cL_law 366 = .ok (.ifCond .ne 26, 3) := by decide +kernel
theorem dL_law_369 : decode cL_law 369 = .ok (.iload 7, 2) := by decide +kernel
theorem dL_law_371 : decode cL_law 371 = .ok (.ifCond .eq 21, 3) := by decide +kernel
theorem dL_law_374 : decode cL_law 374 = .ok (.iload 5, 2) := by decide +kernel
theorem dL_law_376 : decode cL_law 376 = .ok (.aload_n 1, 1) := by decide +kernel
theorem dL_law_377 : decode cL_law 377 = .ok (.invokevirtual 122, 3) := by decide +kernel
theorem dL_law_380 : decode cL_law 380 = .ok (.if_icmp .lt 12, 3) := by decide +kernel
theorem dL_law_383 : decode cL_law 383 = .ok (.iconst 1, 1) := by decide +kernel
theorem dL_law_384 : decode cL_law 384 = .ok (.istore 6, 2) := by decide +kernel
theorem dL_law_386 : decode cL_law 386 = .ok (.iconst 0, 1) := by decide +kernel
theorem dL_law_387 : decode cL_law 387 = .ok (.istore 7, 2) := by decide +kernel
theorem dL_law_389 : decode cL_law 389 = .ok (.iinc 9 1, 3) := by decide +kernel
theorem dL_law_392 : decode cL_law 392 = .ok (.iconst 0, 1) := by decide +kernel
theorem dL_law_393 : decode cL_law 393 = .ok (.istore 20, 2) := by decide +kernel
theorem dL_law_395 : decode cL_law 395 = .ok (.iconst 0, 1) := by decide +kernel
theorem dL_law_396 : decode cL_law 396 = .ok (.istore 21, 2) := by decide +kernel
theorem dL_law_398 : decode cL_law 398 = .ok (.iload 21, 2) := by decide +kernel
theorem dL_law_400 : decode cL_law 400 = .ok (.iload 4, 2) := by decide +kernel
theorem dL_law_402 : decode cL_law 402 = .ok (.if_icmp .ge 348, 3) := by decide +kernel
theorem dL_law_405 : decode cL_law 405 = .ok (.iload 6, 2) := by decide +kernel
theorem dL_law_407 : decode cL_law 407 = .ok (.ifCond .eq 343, 3) := by decide +kernel
theorem dL_law_410 : decode cL_law 410 = .ok (.aload_n 1, 1) := by decide +kernel
theorem dL_law_411 : decode cL_law 411 = .ok (.invokevirtual 158, 3) := by decide +kernel
theorem dL_law_414 : decode cL_law 414 = .ok (.istore 22, 2) := by decide +kernel
theorem dL_law_416 : decode cL_law 416 = .ok (.iconst (-1), 1) := by decide +kernel
theorem dL_law_417 : decode cL_law 417 = .ok (.istore 23, 2) := by decide +kernel
theorem dL_law_419 : decode cL_law 419 = .ok (.aload 16, 2) := by decide +kernel
theorem dL_law_421 : decode cL_law 421 = .ok (.iload 21, 2) := by decide +kernel
theorem dL_law_423 : decode cL_law 423 = .ok (.iaload, 1) := by decide +kernel
theorem dL_law_424 : decode cL_law 424 = .ok (.ifCond .ge 114, 3) := by decide +kernel
theorem dL_law_427 : decode cL_law 427 = .ok (.iload_n 3, 1) := by decide +kernel
theorem dL_law_428 : decode cL_law 428 = .ok (.iconst 1, 1) := by decide +kernel
theorem dL_law_429 : decode cL_law 429 = .ok (.isub, 1) := by decide +kernel
theorem dL_law_430 : decode cL_law 430 = .ok (.istore 24, 2) := by decide +kernel
theorem dL_law_432 : decode cL_law 432 = .ok (.iload 24, 2) := by decide +kernel
theorem dL_law_434 : decode cL_law 434 = .ok (.ifCond .lt 88, 3) := by decide +kernel
theorem dL_law_437 : decode cL_law 437 = .ok (.aload_n 1, 1) := by decide +kernel
theorem dL_law_438 : decode cL_law 438 = .ok (.iload 24, 2) := by decide +kernel
theorem dL_law_440 : decode cL_law 440 = .ok (.invokevirtual 161, 3) := by decide +kernel
theorem dL_law_443 : decode cL_law 443 = .ok (.aload 14, 2) := by decide +kernel
theorem dL_law_445 : decode cL_law 445 = .ok (.iload 21, 2) := by decide +kernel
theorem dL_law_447 : decode cL_law 447 = .ok (.iaload, 1) := by decide +kernel
theorem dL_law_448 : decode cL_law 448 = .ok (.isub, 1) := by decide +kernel
theorem dL_law_449 : decode cL_law 449 = .ok (.invokestatic 164, 3) := by decide +kernel
theorem dL_law_452 : decode cL_law 452 = .ok (.istore 25, 2) := by decide +kernel
theorem dL_law_454 : decode cL_law 454 = .ok (.aload 18, 2) := by decide +kernel
theorem dL_law_456 : decode cL_law 456 = .ok (.iload 21, 2) := by decide +kernel
theorem dL_law_458 : decode cL_law 458 = .ok (.iaload, 1) := by decide +kernel
theorem dL_law_459 : decode cL_law 459 = .ok (.iload 24, 2) := by decide +kernel
theorem dL_law_461 : decode cL_law 461 = .ok (.ishr, 1) := by decide +kernel
theorem dL_law_462 : decode cL_law 462 = .ok (.iconst 1, 1) := by decide +kernel
theorem dL_law_463 : decode cL_law 463 = .ok (.iand, 1) := by decide +kernel
theorem dL_law_464 : decode cL_law 464 = .ok (.iconst 1, 1) := by decide +kernel
theorem dL_law_465 : decode cL_law 465 = .ok (.if_icmp .eq 51, 3) := by decide +kernel
theorem dL_law_468 : decode cL_law 468 = .ok (.iload 25, 2) := by decide +kernel
theorem dL_law_470 : decode cL_law 470 = .ok (.aload_n 1, 1) := by decide +kernel
theorem dL_law_471 : decode cL_law 471 = .ok (.iload 24, 2) := by decide +kernel
theorem dL_law_473 : decode cL_law 473 = .ok (.invokevirtual 169, 3) := by decide +kernel
theorem dL_law_476 : decode cL_law 476 = .ok (.iload 5, 2) := by decide +kernel
theorem dL_law_478 : decode cL_law 478 = .ok (.invokestatic 172, 3) := by decide +kernel
theorem dL_law_481 : decode cL_law 481 = .ok (.if_icmp .le 6, 3) := by decide +kernel
theorem dL_law_484 : decode cL_law 484 = .ok (.goto 32, 3) := by decide +kernel
theorem dL_law_487 : decode cL_law 487 = .ok (.iload 23, 2) := by decide +kernel
theorem dL_law_489 : decode cL_law 489 = .ok (.ifCond .lt 23, 3) := by decide +kernel
theorem dL_law_492 : decode cL_law 492 = .ok (.iload 25, 2) := by decide +kernel
theorem dL_law_494 : decode cL_law 494 = .ok (.aload_n 1, 1) := by decide +kernel
theorem dL_law_495 : decode cL_law 495 = .ok (.iload 23, 2) := by decide +kernel
theorem dL_law_497 : decode cL_law 497 = .ok (.invokevirtual 161, 3) := by decide +kernel
theorem dL_law_500 : decode cL_law 500 = .ok (.aload 14, 2) := by decide +kernel
theorem dL_law_502 : decode cL_law 502 = .ok (.iload 21, 2) := by decide +kernel
theorem dL_law_504 : decode cL_law 504 = .ok (.iaload, 1) := by decide +kernel
theorem dL_law_505 : decode cL_law 505 = .ok (.isub, 1) := by decide +kernel
theorem dL_law_506 : decode cL_law 506 = .ok (.invokestatic 164, 3) := by decide +kernel
theorem dL_law_509 : decode cL_law 509 = .ok (.if_icmp .gt 7, 3) := by decide +kernel
theorem dL_law_512 : decode cL_law 512 = .ok (.iload 24, 2) := by decide +kernel
theorem dL_law_514 : decode cL_law 514 = .ok (.istore 23, 2) := by decide +kernel
theorem dL_law_516 : decode cL_law 516 = .ok (.iinc 24 (-1), 3) := by decide +kernel
theorem dL_law_519 : decode cL_law 519 = .ok (.goto (-87), 3) := by decide +kernel
theorem dL_law_522 : decode cL_law 522 = .ok (.iload 23, 2) := by decide +kernel
theorem dL_law_524 : decode cL_law 524 = .ok (.ifCond .ge 6, 3) := by decide +kernel
theorem dL_law_527 : decode cL_law 527 = .ok (.goto 217, 3) := by decide +kernel
theorem dL_law_530 : decode cL_law 530 = .ok (.aload_n 1, 1) := by decide +kernel
theorem dL_law_531 : decode cL_law 531 = .ok (.iload 23, 2) := by decide +kernel
theorem dL_law_533 : decode cL_law 533 = .ok (.invokevirtual 161, 3) := by decide +kernel
theorem dL_law_536 : decode cL_law 536 = .ok (.istore 22, 2) := by decide +kernel
theorem dL_law_538 : decode cL_law 538 = .ok (.iconst 0, 1) := by decide +kernel
theorem dL_law_539 : decode cL_law 539 = .ok (.istore 24, 2) := by decide +kernel
theorem dL_law_541 : decode cL_law 541 = .ok (.iload 24, 2) := by decide +kernel
theorem dL_law_543 : decode cL_law 543 = .ok (.aload_n 1, 1) := by decide +kernel
theorem dL_law_544 : decode cL_law 544 = .ok (.iload 21, 2) := by decide +kernel
theorem dL_law_546 : decode cL_law 546 = .ok (.invokevirtual 175, 3) := by decide +kernel
theorem dL_law_549 : decode cL_law 549 = .ok (.if_icmp .ge 27, 3) := by decide +kernel
theorem dL_law_552 : decode cL_law 552 = .ok (.aload 14, 2) := by decide +kernel
theorem dL_law_554 : decode cL_law 554 = .ok (.iload 21, 2) := by decide +kernel
theorem dL_law_556 : decode cL_law 556 = .ok (.dup2, 1) := by decide +kernel
theorem dL_law_557 : decode cL_law 557 = .ok (.iaload, 1) := by decide +kernel
theorem dL_law_558 : decode cL_law 558 = .ok (.iload 22, 2) := by decide +kernel
theorem dL_law_560 : decode cL_law 560 = .ok (.aload 14, 2) := by decide +kernel
theorem dL_law_562 : decode cL_law 562 = .ok (.iload 21, 2) := by decide +kernel
theorem dL_law_564 : decode cL_law 564 = .ok (.iaload, 1) := by decide +kernel
theorem dL_law_565 : decode cL_law 565 = .ok (.invokestatic 178, 3) := by decide +kernel
theorem dL_law_568 : decode cL_law 568 = .ok (.iadd, 1) := by decide +kernel
theorem dL_law_569 : decode cL_law 569 = .ok (.iastore, 1) := by decide +kernel
theorem dL_law_570 : decode cL_law 570 = .ok (.iinc 24 1, 3) := by decide +kernel
theorem dL_law_573 : decode cL_law 573 = .ok (.goto (-32), 3) := by decide +kernel
